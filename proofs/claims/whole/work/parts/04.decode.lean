/-! decode rows (printed by wip/gen/names.py) -/
theorem d_K_init_0 : decode mt_K_init.2.1 0 = .ok (.aload_n 0, 1) := by decide +kernel
theorem d_K_init_1 : decode mt_K_init.2.1 1 = .ok (.invokespecial 1, 3) := by decide +kernel
theorem d_K_init_4 : decode mt_K_init.2.1 4 = .ok (.aload_n 0, 1) := by decide +kernel
theorem d_K_init_5 : decode mt_K_init.2.1 5 = .ok (.new 7, 3) := by decide +kernel
theorem d_K_init_8 : decode mt_K_init.2.1 8 = .ok (.dup, 1) := by decide +kernel
theorem d_K_init_9 : decode mt_K_init.2.1 9 = .ok (.invokespecial 9, 3) := by decide +kernel
theorem d_K_init_12 : decode mt_K_init.2.1 12 = .ok (.putfield 10, 3) := by decide +kernel
theorem d_K_init_15 : decode mt_K_init.2.1 15 = .ok (.aload_n 0, 1) := by decide +kernel
theorem d_K_init_16 : decode mt_K_init.2.1 16 = .ok (.bipush 30, 2) := by decide +kernel
theorem d_K_init_18 : decode mt_K_init.2.1 18 = .ok (.anewarray 16, 3) := by decide +kernel
theorem d_K_init_21 : decode mt_K_init.2.1 21 = .ok (.putfield 18, 3) := by decide +kernel
theorem d_K_init_24 : decode mt_K_init.2.1 24 = .ok (.aload_n 0, 1) := by decide +kernel
theorem d_K_init_25 : decode mt_K_init.2.1 25 = .ok (.bipush 40, 2) := by decide +kernel
theorem d_K_init_27 : decode mt_K_init.2.1 27 = .ok (.anewarray 22, 3) := by decide +kernel
theorem d_K_init_30 : decode mt_K_init.2.1 30 = .ok (.putfield 24, 3) := by decide +kernel
theorem d_K_init_33 : decode mt_K_init.2.1 33 = .ok (.aload_n 0, 1) := by decide +kernel
theorem d_K_init_34 : decode mt_K_init.2.1 34 = .ok (.new 28, 3) := by decide +kernel
theorem d_K_init_37 : decode mt_K_init.2.1 37 = .ok (.dup, 1) := by decide +kernel
theorem d_K_init_38 : decode mt_K_init.2.1 38 = .ok (.invokespecial 30, 3) := by decide +kernel
theorem d_K_init_41 : decode mt_K_init.2.1 41 = .ok (.putfield 31, 3) := by decide +kernel
theorem d_K_init_44 : decode mt_K_init.2.1 44 = .ok (.aload_n 0, 1) := by decide +kernel
theorem d_K_init_45 : decode mt_K_init.2.1 45 = .ok (.new 35, 3) := by decide +kernel
theorem d_K_init_48 : decode mt_K_init.2.1 48 = .ok (.dup, 1) := by decide +kernel
theorem d_K_init_49 : decode mt_K_init.2.1 49 = .ok (.invokespecial 37, 3) := by decide +kernel
theorem d_K_init_52 : decode mt_K_init.2.1 52 = .ok (.putfield 38, 3) := by decide +kernel
theorem d_K_init_55 : decode mt_K_init.2.1 55 = .ok (.aload_n 0, 1) := by decide +kernel
theorem d_K_init_56 : decode mt_K_init.2.1 56 = .ok (.new 42, 3) := by decide +kernel
theorem d_K_init_59 : decode mt_K_init.2.1 59 = .ok (.dup, 1) := by decide +kernel
theorem d_K_init_60 : decode mt_K_init.2.1 60 = .ok (.invokespecial 44, 3) := by decide +kernel
theorem d_K_init_63 : decode mt_K_init.2.1 63 = .ok (.putfield 45, 3) := by decide +kernel
theorem d_K_init_66 : decode mt_K_init.2.1 66 = .ok (.aload_n 0, 1) := by decide +kernel
theorem d_K_init_67 : decode mt_K_init.2.1 67 = .ok (.new 49, 3) := by decide +kernel
theorem d_K_init_70 : decode mt_K_init.2.1 70 = .ok (.dup, 1) := by decide +kernel
theorem d_K_init_71 : decode mt_K_init.2.1 71 = .ok (.invokespecial 51, 3) := by decide +kernel
theorem d_K_init_74 : decode mt_K_init.2.1 74 = .ok (.putfield 52, 3) := by decide +kernel
theorem d_K_init_77 : decode mt_K_init.2.1 77 = .ok (.aload_n 0, 1) := by decide +kernel
theorem d_K_init_78 : decode mt_K_init.2.1 78 = .ok (.new 56, 3) := by decide +kernel
theorem d_K_init_81 : decode mt_K_init.2.1 81 = .ok (.dup, 1) := by decide +kernel
theorem d_K_init_82 : decode mt_K_init.2.1 82 = .ok (.invokespecial 58, 3) := by decide +kernel
theorem d_K_init_85 : decode mt_K_init.2.1 85 = .ok (.putfield 59, 3) := by decide +kernel
theorem d_K_init_88 : decode mt_K_init.2.1 88 = .ok (.aload_n 0, 1) := by decide +kernel
theorem d_K_init_89 : decode mt_K_init.2.1 89 = .ok (.new 63, 3) := by decide +kernel
theorem d_K_init_92 : decode mt_K_init.2.1 92 = .ok (.dup, 1) := by decide +kernel
theorem d_K_init_93 : decode mt_K_init.2.1 93 = .ok (.invokespecial 65, 3) := by decide +kernel
theorem d_K_init_96 : decode mt_K_init.2.1 96 = .ok (.putfield 66, 3) := by decide +kernel
theorem d_K_init_99 : decode mt_K_init.2.1 99 = .ok (.aload_n 0, 1) := by decide +kernel
theorem d_K_init_100 : decode mt_K_init.2.1 100 = .ok (.iconst 3, 1) := by decide +kernel
theorem d_K_init_101 : decode mt_K_init.2.1 101 = .ok (.newarray .int, 2) := by decide +kernel
theorem d_K_init_103 : decode mt_K_init.2.1 103 = .ok (.putfield 70, 3) := by decide +kernel
theorem d_K_init_106 : decode mt_K_init.2.1 106 = .ok (.aload_n 0, 1) := by decide +kernel
theorem d_K_init_107 : decode mt_K_init.2.1 107 = .ok (.iconst 3, 1) := by decide +kernel
theorem d_K_init_108 : decode mt_K_init.2.1 108 = .ok (.newarray .int, 2) := by decide +kernel
theorem d_K_init_110 : decode mt_K_init.2.1 110 = .ok (.putfield 74, 3) := by decide +kernel
theorem d_K_init_113 : decode mt_K_init.2.1 113 = .ok (.aload_n 0, 1) := by decide +kernel
theorem d_K_init_114 : decode mt_K_init.2.1 114 = .ok (.new 77, 3) := by decide +kernel
theorem d_K_init_117 : decode mt_K_init.2.1 117 = .ok (.dup, 1) := by decide +kernel
theorem d_K_init_118 : decode mt_K_init.2.1 118 = .ok (.invokespecial 79, 3) := by decide +kernel
theorem d_K_init_121 : decode mt_K_init.2.1 121 = .ok (.putfield 80, 3) := by decide +kernel
theorem d_K_init_124 : decode mt_K_init.2.1 124 = .ok (.aload_n 0, 1) := by decide +kernel
theorem d_K_init_125 : decode mt_K_init.2.1 125 = .ok (.new 77, 3) := by decide +kernel
theorem d_K_init_128 : decode mt_K_init.2.1 128 = .ok (.dup, 1) := by decide +kernel
theorem d_K_init_129 : decode mt_K_init.2.1 129 = .ok (.invokespecial 79, 3) := by decide +kernel
theorem d_K_init_132 : decode mt_K_init.2.1 132 = .ok (.putfield 84, 3) := by decide +kernel
theorem d_K_init_135 : decode mt_K_init.2.1 135 = .ok (.return_, 1) := by decide +kernel
theorem d_Sh_init_0 : decode mt_Sh_init.2.1 0 = .ok (.aload_n 0, 1) := by decide +kernel
theorem d_Sh_init_1 : decode mt_Sh_init.2.1 1 = .ok (.invokespecial 3, 3) := by decide +kernel
theorem d_Sh_init_4 : decode mt_Sh_init.2.1 4 = .ok (.aload_n 0, 1) := by decide +kernel
theorem d_Sh_init_5 : decode mt_Sh_init.2.1 5 = .ok (.bipush 24, 2) := by decide +kernel
theorem d_Sh_init_7 : decode mt_Sh_init.2.1 7 = .ok (.newarray .int, 2) := by decide +kernel
theorem d_Sh_init_9 : decode mt_Sh_init.2.1 9 = .ok (.putfield 9, 3) := by decide +kernel
theorem d_Sh_init_12 : decode mt_Sh_init.2.1 12 = .ok (.aload_n 0, 1) := by decide +kernel
theorem d_Sh_init_13 : decode mt_Sh_init.2.1 13 = .ok (.iconst 4, 1) := by decide +kernel
theorem d_Sh_init_14 : decode mt_Sh_init.2.1 14 = .ok (.newarray .int, 2) := by decide +kernel
theorem d_Sh_init_16 : decode mt_Sh_init.2.1 16 = .ok (.putfield 15, 3) := by decide +kernel
theorem d_Sh_init_19 : decode mt_Sh_init.2.1 19 = .ok (.aload_n 0, 1) := by decide +kernel
theorem d_Sh_init_20 : decode mt_Sh_init.2.1 20 = .ok (.bipush 24, 2) := by decide +kernel
theorem d_Sh_init_22 : decode mt_Sh_init.2.1 22 = .ok (.newarray .int, 2) := by decide +kernel
theorem d_Sh_init_24 : decode mt_Sh_init.2.1 24 = .ok (.putfield 18, 3) := by decide +kernel
theorem d_Sh_init_27 : decode mt_Sh_init.2.1 27 = .ok (.return_, 1) := by decide +kernel
theorem d_Ba_init_0 : decode mt_Ba_init.2.1 0 = .ok (.aload_n 0, 1) := by decide +kernel
theorem d_Ba_init_1 : decode mt_Ba_init.2.1 1 = .ok (.invokespecial 3, 3) := by decide +kernel
theorem d_Ba_init_4 : decode mt_Ba_init.2.1 4 = .ok (.aload_n 0, 1) := by decide +kernel
theorem d_Ba_init_5 : decode mt_Ba_init.2.1 5 = .ok (.iconst 3, 1) := by decide +kernel
theorem d_Ba_init_6 : decode mt_Ba_init.2.1 6 = .ok (.newarray .int, 2) := by decide +kernel
theorem d_Ba_init_8 : decode mt_Ba_init.2.1 8 = .ok (.putfield 9, 3) := by decide +kernel
theorem d_Ba_init_11 : decode mt_Ba_init.2.1 11 = .ok (.aload_n 0, 1) := by decide +kernel
theorem d_Ba_init_12 : decode mt_Ba_init.2.1 12 = .ok (.bipush 12, 2) := by decide +kernel
theorem d_Ba_init_14 : decode mt_Ba_init.2.1 14 = .ok (.newarray .int, 2) := by decide +kernel
theorem d_Ba_init_16 : decode mt_Ba_init.2.1 16 = .ok (.putfield 15, 3) := by decide +kernel
theorem d_Ba_init_19 : decode mt_Ba_init.2.1 19 = .ok (.aload_n 0, 1) := by decide +kernel
theorem d_Ba_init_20 : decode mt_Ba_init.2.1 20 = .ok (.bipush 12, 2) := by decide +kernel
theorem d_Ba_init_22 : decode mt_Ba_init.2.1 22 = .ok (.newarray .int, 2) := by decide +kernel
theorem d_Ba_init_24 : decode mt_Ba_init.2.1 24 = .ok (.putfield 18, 3) := by decide +kernel
theorem d_Ba_init_27 : decode mt_Ba_init.2.1 27 = .ok (.aload_n 0, 1) := by decide +kernel
theorem d_Ba_init_28 : decode mt_Ba_init.2.1 28 = .ok (.bipush 12, 2) := by decide +kernel
theorem d_Ba_init_30 : decode mt_Ba_init.2.1 30 = .ok (.newarray .int, 2) := by decide +kernel
theorem d_Ba_init_32 : decode mt_Ba_init.2.1 32 = .ok (.putfield 21, 3) := by decide +kernel
theorem d_Ba_init_35 : decode mt_Ba_init.2.1 35 = .ok (.return_, 1) := by decide +kernel
theorem d_St_init_0 : decode mt_St_init.2.1 0 = .ok (.aload_n 0, 1) := by decide +kernel
theorem d_St_init_1 : decode mt_St_init.2.1 1 = .ok (.invokespecial 3, 3) := by decide +kernel
theorem d_St_init_4 : decode mt_St_init.2.1 4 = .ok (.aload_n 0, 1) := by decide +kernel
theorem d_St_init_5 : decode mt_St_init.2.1 5 = .ok (.sipush 200, 3) := by decide +kernel
theorem d_St_init_8 : decode mt_St_init.2.1 8 = .ok (.newarray .int, 2) := by decide +kernel
theorem d_St_init_10 : decode mt_St_init.2.1 10 = .ok (.putfield 9, 3) := by decide +kernel
theorem d_St_init_13 : decode mt_St_init.2.1 13 = .ok (.aload_n 0, 1) := by decide +kernel
theorem d_St_init_14 : decode mt_St_init.2.1 14 = .ok (.sipush 200, 3) := by decide +kernel
theorem d_St_init_17 : decode mt_St_init.2.1 17 = .ok (.newarray .int, 2) := by decide +kernel
theorem d_St_init_19 : decode mt_St_init.2.1 19 = .ok (.putfield 15, 3) := by decide +kernel
theorem d_St_init_22 : decode mt_St_init.2.1 22 = .ok (.aload_n 0, 1) := by decide +kernel
theorem d_St_init_23 : decode mt_St_init.2.1 23 = .ok (.sipush 200, 3) := by decide +kernel
theorem d_St_init_26 : decode mt_St_init.2.1 26 = .ok (.newarray .int, 2) := by decide +kernel
theorem d_St_init_28 : decode mt_St_init.2.1 28 = .ok (.putfield 18, 3) := by decide +kernel
theorem d_St_init_31 : decode mt_St_init.2.1 31 = .ok (.aload_n 0, 1) := by decide +kernel
theorem d_St_init_32 : decode mt_St_init.2.1 32 = .ok (.sipush 200, 3) := by decide +kernel
theorem d_St_init_35 : decode mt_St_init.2.1 35 = .ok (.newarray .int, 2) := by decide +kernel
theorem d_St_init_37 : decode mt_St_init.2.1 37 = .ok (.putfield 21, 3) := by decide +kernel
theorem d_St_init_40 : decode mt_St_init.2.1 40 = .ok (.return_, 1) := by decide +kernel
theorem d_Ma_init_0 : decode mt_Ma_init.2.1 0 = .ok (.aload_n 0, 1) := by decide +kernel
theorem d_Ma_init_1 : decode mt_Ma_init.2.1 1 = .ok (.invokespecial 3, 3) := by decide +kernel
theorem d_Ma_init_4 : decode mt_Ma_init.2.1 4 = .ok (.aload_n 0, 1) := by decide +kernel
theorem d_Ma_init_5 : decode mt_Ma_init.2.1 5 = .ok (.bipush 100, 2) := by decide +kernel
theorem d_Ma_init_7 : decode mt_Ma_init.2.1 7 = .ok (.newarray .int, 2) := by decide +kernel
theorem d_Ma_init_9 : decode mt_Ma_init.2.1 9 = .ok (.putfield 9, 3) := by decide +kernel
theorem d_Ma_init_12 : decode mt_Ma_init.2.1 12 = .ok (.aload_n 0, 1) := by decide +kernel
theorem d_Ma_init_13 : decode mt_Ma_init.2.1 13 = .ok (.bipush 100, 2) := by decide +kernel
theorem d_Ma_init_15 : decode mt_Ma_init.2.1 15 = .ok (.newarray .int, 2) := by decide +kernel
theorem d_Ma_init_17 : decode mt_Ma_init.2.1 17 = .ok (.putfield 15, 3) := by decide +kernel
theorem d_Ma_init_20 : decode mt_Ma_init.2.1 20 = .ok (.aload_n 0, 1) := by decide +kernel
theorem d_Ma_init_21 : decode mt_Ma_init.2.1 21 = .ok (.bipush 100, 2) := by decide +kernel
theorem d_Ma_init_23 : decode mt_Ma_init.2.1 23 = .ok (.newarray .int, 2) := by decide +kernel
theorem d_Ma_init_25 : decode mt_Ma_init.2.1 25 = .ok (.putfield 18, 3) := by decide +kernel
theorem d_Ma_init_28 : decode mt_Ma_init.2.1 28 = .ok (.aload_n 0, 1) := by decide +kernel
theorem d_Ma_init_29 : decode mt_Ma_init.2.1 29 = .ok (.bipush 100, 2) := by decide +kernel
theorem d_Ma_init_31 : decode mt_Ma_init.2.1 31 = .ok (.newarray .int, 2) := by decide +kernel
theorem d_Ma_init_33 : decode mt_Ma_init.2.1 33 = .ok (.putfield 21, 3) := by decide +kernel
theorem d_Ma_init_36 : decode mt_Ma_init.2.1 36 = .ok (.aload_n 0, 1) := by decide +kernel
theorem d_Ma_init_37 : decode mt_Ma_init.2.1 37 = .ok (.bipush 100, 2) := by decide +kernel
theorem d_Ma_init_39 : decode mt_Ma_init.2.1 39 = .ok (.newarray .int, 2) := by decide +kernel
theorem d_Ma_init_41 : decode mt_Ma_init.2.1 41 = .ok (.putfield 24, 3) := by decide +kernel
theorem d_Ma_init_44 : decode mt_Ma_init.2.1 44 = .ok (.aload_n 0, 1) := by decide +kernel
theorem d_Ma_init_45 : decode mt_Ma_init.2.1 45 = .ok (.iconst 5, 1) := by decide +kernel
theorem d_Ma_init_46 : decode mt_Ma_init.2.1 46 = .ok (.newarray .int, 2) := by decide +kernel
theorem d_Ma_init_48 : decode mt_Ma_init.2.1 48 = .ok (.putfield 27, 3) := by decide +kernel
theorem d_Ma_init_51 : decode mt_Ma_init.2.1 51 = .ok (.return_, 1) := by decide +kernel
theorem d_Pl_init_0 : decode mt_Pl_init.2.1 0 = .ok (.aload_n 0, 1) := by decide +kernel
theorem d_Pl_init_1 : decode mt_Pl_init.2.1 1 = .ok (.invokespecial 3, 3) := by decide +kernel
theorem d_Pl_init_4 : decode mt_Pl_init.2.1 4 = .ok (.aload_n 0, 1) := by decide +kernel
theorem d_Pl_init_5 : decode mt_Pl_init.2.1 5 = .ok (.bipush 10, 2) := by decide +kernel
theorem d_Pl_init_7 : decode mt_Pl_init.2.1 7 = .ok (.newarray .int, 2) := by decide +kernel
theorem d_Pl_init_9 : decode mt_Pl_init.2.1 9 = .ok (.putfield 9, 3) := by decide +kernel
theorem d_Pl_init_12 : decode mt_Pl_init.2.1 12 = .ok (.aload_n 0, 1) := by decide +kernel
theorem d_Pl_init_13 : decode mt_Pl_init.2.1 13 = .ok (.bipush 10, 2) := by decide +kernel
theorem d_Pl_init_15 : decode mt_Pl_init.2.1 15 = .ok (.newarray .int, 2) := by decide +kernel
theorem d_Pl_init_17 : decode mt_Pl_init.2.1 17 = .ok (.putfield 15, 3) := by decide +kernel
theorem d_Pl_init_20 : decode mt_Pl_init.2.1 20 = .ok (.aload_n 0, 1) := by decide +kernel
theorem d_Pl_init_21 : decode mt_Pl_init.2.1 21 = .ok (.bipush 10, 2) := by decide +kernel
theorem d_Pl_init_23 : decode mt_Pl_init.2.1 23 = .ok (.newarray .int, 2) := by decide +kernel
theorem d_Pl_init_25 : decode mt_Pl_init.2.1 25 = .ok (.putfield 18, 3) := by decide +kernel
theorem d_Pl_init_28 : decode mt_Pl_init.2.1 28 = .ok (.aload_n 0, 1) := by decide +kernel
theorem d_Pl_init_29 : decode mt_Pl_init.2.1 29 = .ok (.sipush 240, 3) := by decide +kernel
theorem d_Pl_init_32 : decode mt_Pl_init.2.1 32 = .ok (.newarray .long, 2) := by decide +kernel
theorem d_Pl_init_34 : decode mt_Pl_init.2.1 34 = .ok (.putfield 21, 3) := by decide +kernel
theorem d_Pl_init_37 : decode mt_Pl_init.2.1 37 = .ok (.aload_n 0, 1) := by decide +kernel
theorem d_Pl_init_38 : decode mt_Pl_init.2.1 38 = .ok (.bipush 24, 2) := by decide +kernel
theorem d_Pl_init_40 : decode mt_Pl_init.2.1 40 = .ok (.newarray .int, 2) := by decide +kernel
theorem d_Pl_init_42 : decode mt_Pl_init.2.1 42 = .ok (.putfield 25, 3) := by decide +kernel
theorem d_Pl_init_45 : decode mt_Pl_init.2.1 45 = .ok (.aload_n 0, 1) := by decide +kernel
theorem d_Pl_init_46 : decode mt_Pl_init.2.1 46 = .ok (.bipush 24, 2) := by decide +kernel
theorem d_Pl_init_48 : decode mt_Pl_init.2.1 48 = .ok (.newarray .long, 2) := by decide +kernel
theorem d_Pl_init_50 : decode mt_Pl_init.2.1 50 = .ok (.putfield 28, 3) := by decide +kernel
theorem d_Pl_init_53 : decode mt_Pl_init.2.1 53 = .ok (.aload_n 0, 1) := by decide +kernel
theorem d_Pl_init_54 : decode mt_Pl_init.2.1 54 = .ok (.bipush 24, 2) := by decide +kernel
theorem d_Pl_init_56 : decode mt_Pl_init.2.1 56 = .ok (.newarray .int, 2) := by decide +kernel
theorem d_Pl_init_58 : decode mt_Pl_init.2.1 58 = .ok (.putfield 31, 3) := by decide +kernel
theorem d_Pl_init_61 : decode mt_Pl_init.2.1 61 = .ok (.aload_n 0, 1) := by decide +kernel
theorem d_Pl_init_62 : decode mt_Pl_init.2.1 62 = .ok (.bipush 40, 2) := by decide +kernel
theorem d_Pl_init_64 : decode mt_Pl_init.2.1 64 = .ok (.newarray .int, 2) := by decide +kernel
theorem d_Pl_init_66 : decode mt_Pl_init.2.1 66 = .ok (.putfield 34, 3) := by decide +kernel
theorem d_Pl_init_69 : decode mt_Pl_init.2.1 69 = .ok (.return_, 1) := by decide +kernel
theorem d_Ta_init_0 : decode mt_Ta_init.2.1 0 = .ok (.aload_n 0, 1) := by decide +kernel
theorem d_Ta_init_1 : decode mt_Ta_init.2.1 1 = .ok (.invokespecial 3, 3) := by decide +kernel
theorem d_Ta_init_4 : decode mt_Ta_init.2.1 4 = .ok (.aload_n 0, 1) := by decide +kernel
theorem d_Ta_init_5 : decode mt_Ta_init.2.1 5 = .ok (.sipush 500, 3) := by decide +kernel
theorem d_Ta_init_8 : decode mt_Ta_init.2.1 8 = .ok (.newarray .int, 2) := by decide +kernel
theorem d_Ta_init_10 : decode mt_Ta_init.2.1 10 = .ok (.putfield 9, 3) := by decide +kernel
theorem d_Ta_init_13 : decode mt_Ta_init.2.1 13 = .ok (.return_, 1) := by decide +kernel
theorem d_Re_init_0 : decode mt_Re_init.2.1 0 = .ok (.aload_n 0, 1) := by decide +kernel
theorem d_Re_init_1 : decode mt_Re_init.2.1 1 = .ok (.invokespecial 3, 3) := by decide +kernel
theorem d_Re_init_4 : decode mt_Re_init.2.1 4 = .ok (.aload_n 0, 1) := by decide +kernel
theorem d_Re_init_5 : decode mt_Re_init.2.1 5 = .ok (.new 9, 3) := by decide +kernel
theorem d_Re_init_8 : decode mt_Re_init.2.1 8 = .ok (.dup, 1) := by decide +kernel
theorem d_Re_init_9 : decode mt_Re_init.2.1 9 = .ok (.invokespecial 11, 3) := by decide +kernel
theorem d_Re_init_12 : decode mt_Re_init.2.1 12 = .ok (.putfield 12, 3) := by decide +kernel
theorem d_Re_init_15 : decode mt_Re_init.2.1 15 = .ok (.aload_n 0, 1) := by decide +kernel
theorem d_Re_init_16 : decode mt_Re_init.2.1 16 = .ok (.iconst 0, 1) := by decide +kernel
theorem d_Re_init_17 : decode mt_Re_init.2.1 17 = .ok (.putfield 18, 3) := by decide +kernel
theorem d_Re_init_20 : decode mt_Re_init.2.1 20 = .ok (.aload_n 0, 1) := by decide +kernel
theorem d_Re_init_21 : decode mt_Re_init.2.1 21 = .ok (.iconst (-1), 1) := by decide +kernel
theorem d_Re_init_22 : decode mt_Re_init.2.1 22 = .ok (.putfield 22, 3) := by decide +kernel
theorem d_Re_init_25 : decode mt_Re_init.2.1 25 = .ok (.return_, 1) := by decide +kernel
theorem d_To_init_0 : decode mt_To_init.2.1 0 = .ok (.aload_n 0, 1) := by decide +kernel
theorem d_To_init_1 : decode mt_To_init.2.1 1 = .ok (.invokespecial 3, 3) := by decide +kernel
theorem d_To_init_4 : decode mt_To_init.2.1 4 = .ok (.aload_n 0, 1) := by decide +kernel
theorem d_To_init_5 : decode mt_To_init.2.1 5 = .ok (.sipush 501, 3) := by decide +kernel
theorem d_To_init_8 : decode mt_To_init.2.1 8 = .ok (.newarray .int, 2) := by decide +kernel
theorem d_To_init_10 : decode mt_To_init.2.1 10 = .ok (.putfield 9, 3) := by decide +kernel
theorem d_To_init_13 : decode mt_To_init.2.1 13 = .ok (.aload_n 0, 1) := by decide +kernel
theorem d_To_init_14 : decode mt_To_init.2.1 14 = .ok (.sipush 501, 3) := by decide +kernel
theorem d_To_init_17 : decode mt_To_init.2.1 17 = .ok (.newarray .int, 2) := by decide +kernel
theorem d_To_init_19 : decode mt_To_init.2.1 19 = .ok (.putfield 15, 3) := by decide +kernel
theorem d_To_init_22 : decode mt_To_init.2.1 22 = .ok (.aload_n 0, 1) := by decide +kernel
theorem d_To_init_23 : decode mt_To_init.2.1 23 = .ok (.sipush 501, 3) := by decide +kernel
theorem d_To_init_26 : decode mt_To_init.2.1 26 = .ok (.newarray .int, 2) := by decide +kernel
theorem d_To_init_28 : decode mt_To_init.2.1 28 = .ok (.putfield 18, 3) := by decide +kernel
theorem d_To_init_31 : decode mt_To_init.2.1 31 = .ok (.return_, 1) := by decide +kernel
theorem d_Or_init_0 : decode mt_Or_init.2.1 0 = .ok (.aload_n 0, 1) := by decide +kernel
theorem d_Or_init_1 : decode mt_Or_init.2.1 1 = .ok (.invokespecial 3, 3) := by decide +kernel
theorem d_Or_init_4 : decode mt_Or_init.2.1 4 = .ok (.aload_n 0, 1) := by decide +kernel
theorem d_Or_init_5 : decode mt_Or_init.2.1 5 = .ok (.sipush 500, 3) := by decide +kernel
theorem d_Or_init_8 : decode mt_Or_init.2.1 8 = .ok (.newarray .int, 2) := by decide +kernel
theorem d_Or_init_10 : decode mt_Or_init.2.1 10 = .ok (.putfield 9, 3) := by decide +kernel
theorem d_Or_init_13 : decode mt_Or_init.2.1 13 = .ok (.aload_n 0, 1) := by decide +kernel
theorem d_Or_init_14 : decode mt_Or_init.2.1 14 = .ok (.bipush 8, 2) := by decide +kernel
theorem d_Or_init_16 : decode mt_Or_init.2.1 16 = .ok (.newarray .int, 2) := by decide +kernel
theorem d_Or_init_18 : decode mt_Or_init.2.1 18 = .ok (.putfield 15, 3) := by decide +kernel
theorem d_Or_init_21 : decode mt_Or_init.2.1 21 = .ok (.aload_n 0, 1) := by decide +kernel
theorem d_Or_init_22 : decode mt_Or_init.2.1 22 = .ok (.bipush 8, 2) := by decide +kernel
theorem d_Or_init_24 : decode mt_Or_init.2.1 24 = .ok (.newarray .int, 2) := by decide +kernel
theorem d_Or_init_26 : decode mt_Or_init.2.1 26 = .ok (.putfield 18, 3) := by decide +kernel
theorem d_Or_init_29 : decode mt_Or_init.2.1 29 = .ok (.aload_n 0, 1) := by decide +kernel
theorem d_Or_init_30 : decode mt_Or_init.2.1 30 = .ok (.bipush 18, 2) := by decide +kernel
theorem d_Or_init_32 : decode mt_Or_init.2.1 32 = .ok (.newarray .int, 2) := by decide +kernel
theorem d_Or_init_34 : decode mt_Or_init.2.1 34 = .ok (.putfield 21, 3) := by decide +kernel
theorem d_Or_init_37 : decode mt_Or_init.2.1 37 = .ok (.aload_n 0, 1) := by decide +kernel
theorem d_Or_init_38 : decode mt_Or_init.2.1 38 = .ok (.bipush 80, 2) := by decide +kernel
theorem d_Or_init_40 : decode mt_Or_init.2.1 40 = .ok (.newarray .int, 2) := by decide +kernel
theorem d_Or_init_42 : decode mt_Or_init.2.1 42 = .ok (.putfield 24, 3) := by decide +kernel
theorem d_Or_init_45 : decode mt_Or_init.2.1 45 = .ok (.return_, 1) := by decide +kernel
theorem d_K_air_0 : decode mt_K_air.2.1 0 = .ok (.iload_n 1, 1) := by decide +kernel
theorem d_K_air_1 : decode mt_K_air.2.1 1 = .ok (.bipush 23, 2) := by decide +kernel
theorem d_K_air_3 : decode mt_K_air.2.1 3 = .ok (.invokestatic 87, 3) := by decide +kernel
theorem d_K_air_6 : decode mt_K_air.2.1 6 = .ok (.ifCond .eq 12, 3) := by decide +kernel
theorem d_K_air_9 : decode mt_K_air.2.1 9 = .ok (.iload_n 2, 1) := by decide +kernel
theorem d_K_air_10 : decode mt_K_air.2.1 10 = .ok (.bipush 9, 2) := by decide +kernel
theorem d_K_air_12 : decode mt_K_air.2.1 12 = .ok (.invokestatic 87, 3) := by decide +kernel
theorem d_K_air_15 : decode mt_K_air.2.1 15 = .ok (.ifCond .ne 5, 3) := by decide +kernel
theorem d_K_air_18 : decode mt_K_air.2.1 18 = .ok (.iconst 0, 1) := by decide +kernel
theorem d_K_air_19 : decode mt_K_air.2.1 19 = .ok (.ireturn, 1) := by decide +kernel
theorem d_K_air_20 : decode mt_K_air.2.1 20 = .ok (.aload_n 0, 1) := by decide +kernel
theorem d_K_air_21 : decode mt_K_air.2.1 21 = .ok (.getfield 10, 3) := by decide +kernel
theorem d_K_air_24 : decode mt_K_air.2.1 24 = .ok (.getfield 91, 3) := by decide +kernel
theorem d_K_air_27 : decode mt_K_air.2.1 27 = .ok (.iload_n 1, 1) := by decide +kernel
theorem d_K_air_28 : decode mt_K_air.2.1 28 = .ok (.iload_n 2, 1) := by decide +kernel
theorem d_K_air_29 : decode mt_K_air.2.1 29 = .ok (.iastore, 1) := by decide +kernel
theorem d_K_air_30 : decode mt_K_air.2.1 30 = .ok (.aload_n 0, 1) := by decide +kernel
theorem d_K_air_31 : decode mt_K_air.2.1 31 = .ok (.getfield 52, 3) := by decide +kernel
theorem d_K_air_34 : decode mt_K_air.2.1 34 = .ok (.invokevirtual 94, 3) := by decide +kernel
theorem d_K_air_37 : decode mt_K_air.2.1 37 = .ok (.iconst 1, 1) := by decide +kernel
theorem d_K_air_38 : decode mt_K_air.2.1 38 = .ok (.ireturn, 1) := by decide +kernel
theorem d_K_isUpTo_0 : decode mt_K_isUpTo.2.1 0 = .ok (.iload_n 0, 1) := by decide +kernel
theorem d_K_isUpTo_1 : decode mt_K_isUpTo.2.1 1 = .ok (.ifCond .lt 12, 3) := by decide +kernel
theorem d_K_isUpTo_4 : decode mt_K_isUpTo.2.1 4 = .ok (.iload_n 0, 1) := by decide +kernel
theorem d_K_isUpTo_5 : decode mt_K_isUpTo.2.1 5 = .ok (.iload_n 1, 1) := by decide +kernel
theorem d_K_isUpTo_6 : decode mt_K_isUpTo.2.1 6 = .ok (.if_icmp .gt 7, 3) := by decide +kernel
theorem d_K_isUpTo_9 : decode mt_K_isUpTo.2.1 9 = .ok (.iconst 1, 1) := by decide +kernel
theorem d_K_isUpTo_10 : decode mt_K_isUpTo.2.1 10 = .ok (.goto 4, 3) := by decide +kernel
theorem d_K_isUpTo_13 : decode mt_K_isUpTo.2.1 13 = .ok (.iconst 0, 1) := by decide +kernel
theorem d_K_isUpTo_14 : decode mt_K_isUpTo.2.1 14 = .ok (.ireturn, 1) := by decide +kernel
theorem d_Pl_spoil_0 : decode mt_Pl_spoil.2.1 0 = .ok (.aload_n 0, 1) := by decide +kernel
theorem d_Pl_spoil_1 : decode mt_Pl_spoil.2.1 1 = .ok (.iconst 1, 1) := by decide +kernel
theorem d_Pl_spoil_2 : decode mt_Pl_spoil.2.1 2 = .ok (.putfield 82, 3) := by decide +kernel
theorem d_Pl_spoil_5 : decode mt_Pl_spoil.2.1 5 = .ok (.return_, 1) := by decide +kernel
theorem d_K_damp_0 : decode mt_K_damp.2.1 0 = .ok (.iload_n 1, 1) := by decide +kernel
theorem d_K_damp_1 : decode mt_K_damp.2.1 1 = .ok (.iconst 3, 1) := by decide +kernel
theorem d_K_damp_2 : decode mt_K_damp.2.1 2 = .ok (.invokestatic 87, 3) := by decide +kernel
theorem d_K_damp_5 : decode mt_K_damp.2.1 5 = .ok (.ifCond .eq 12, 3) := by decide +kernel
theorem d_K_damp_8 : decode mt_K_damp.2.1 8 = .ok (.iload_n 2, 1) := by decide +kernel
theorem d_K_damp_9 : decode mt_K_damp.2.1 9 = .ok (.bipush 99, 2) := by decide +kernel
theorem d_K_damp_11 : decode mt_K_damp.2.1 11 = .ok (.invokestatic 87, 3) := by decide +kernel
theorem d_K_damp_14 : decode mt_K_damp.2.1 14 = .ok (.ifCond .ne 5, 3) := by decide +kernel
theorem d_K_damp_17 : decode mt_K_damp.2.1 17 = .ok (.iconst 0, 1) := by decide +kernel
theorem d_K_damp_18 : decode mt_K_damp.2.1 18 = .ok (.ireturn, 1) := by decide +kernel
theorem d_K_damp_19 : decode mt_K_damp.2.1 19 = .ok (.aload_n 0, 1) := by decide +kernel
theorem d_K_damp_20 : decode mt_K_damp.2.1 20 = .ok (.getfield 10, 3) := by decide +kernel
theorem d_K_damp_23 : decode mt_K_damp.2.1 23 = .ok (.getfield 97, 3) := by decide +kernel
theorem d_K_damp_26 : decode mt_K_damp.2.1 26 = .ok (.iload_n 1, 1) := by decide +kernel
theorem d_K_damp_27 : decode mt_K_damp.2.1 27 = .ok (.iload_n 2, 1) := by decide +kernel
theorem d_K_damp_28 : decode mt_K_damp.2.1 28 = .ok (.iastore, 1) := by decide +kernel
theorem d_K_damp_29 : decode mt_K_damp.2.1 29 = .ok (.iconst 1, 1) := by decide +kernel
theorem d_K_damp_30 : decode mt_K_damp.2.1 30 = .ok (.ireturn, 1) := by decide +kernel
theorem d_K_milk_0 : decode mt_K_milk.2.1 0 = .ok (.iload_n 1, 1) := by decide +kernel
theorem d_K_milk_1 : decode mt_K_milk.2.1 1 = .ok (.bipush 99, 2) := by decide +kernel
theorem d_K_milk_3 : decode mt_K_milk.2.1 3 = .ok (.invokestatic 87, 3) := by decide +kernel
theorem d_K_milk_6 : decode mt_K_milk.2.1 6 = .ok (.ifCond .eq 19, 3) := by decide +kernel
theorem d_K_milk_9 : decode mt_K_milk.2.1 9 = .ok (.iload_n 2, 1) := by decide +kernel
theorem d_K_milk_10 : decode mt_K_milk.2.1 10 = .ok (.iconst 1, 1) := by decide +kernel
theorem d_K_milk_11 : decode mt_K_milk.2.1 11 = .ok (.if_icmp .lt 14, 3) := by decide +kernel
theorem d_K_milk_14 : decode mt_K_milk.2.1 14 = .ok (.iload_n 2, 1) := by decide +kernel
theorem d_K_milk_15 : decode mt_K_milk.2.1 15 = .ok (.sipush 1000, 3) := by decide +kernel
theorem d_K_milk_18 : decode mt_K_milk.2.1 18 = .ok (.if_icmp .gt 7, 3) := by decide +kernel
theorem d_K_milk_21 : decode mt_K_milk.2.1 21 = .ok (.iconst 1, 1) := by decide +kernel
theorem d_K_milk_22 : decode mt_K_milk.2.1 22 = .ok (.goto 4, 3) := by decide +kernel
theorem d_K_milk_25 : decode mt_K_milk.2.1 25 = .ok (.iconst 0, 1) := by decide +kernel
theorem d_K_milk_26 : decode mt_K_milk.2.1 26 = .ok (.istore_n 3, 1) := by decide +kernel
theorem d_K_milk_27 : decode mt_K_milk.2.1 27 = .ok (.iload_n 3, 1) := by decide +kernel
theorem d_K_milk_28 : decode mt_K_milk.2.1 28 = .ok (.ifCond .eq 12, 3) := by decide +kernel
theorem d_K_milk_31 : decode mt_K_milk.2.1 31 = .ok (.aload_n 0, 1) := by decide +kernel
theorem d_K_milk_32 : decode mt_K_milk.2.1 32 = .ok (.getfield 100, 3) := by decide +kernel
theorem d_K_milk_35 : decode mt_K_milk.2.1 35 = .ok (.bipush 30, 2) := by decide +kernel
theorem d_K_milk_37 : decode mt_K_milk.2.1 37 = .ok (.if_icmp .lt 5, 3) := by decide +kernel
theorem d_K_milk_40 : decode mt_K_milk.2.1 40 = .ok (.iconst (-1), 1) := by decide +kernel
theorem d_K_milk_41 : decode mt_K_milk.2.1 41 = .ok (.ireturn, 1) := by decide +kernel
theorem d_K_milk_42 : decode mt_K_milk.2.1 42 = .ok (.aload_n 0, 1) := by decide +kernel
theorem d_K_milk_43 : decode mt_K_milk.2.1 43 = .ok (.getfield 18, 3) := by decide +kernel
theorem d_K_milk_46 : decode mt_K_milk.2.1 46 = .ok (.aload_n 0, 1) := by decide +kernel
theorem d_K_milk_47 : decode mt_K_milk.2.1 47 = .ok (.getfield 100, 3) := by decide +kernel
theorem d_K_milk_50 : decode mt_K_milk.2.1 50 = .ok (.new 16, 3) := by decide +kernel
theorem d_K_milk_53 : decode mt_K_milk.2.1 53 = .ok (.dup, 1) := by decide +kernel
theorem d_K_milk_54 : decode mt_K_milk.2.1 54 = .ok (.iload_n 1, 1) := by decide +kernel
theorem d_K_milk_55 : decode mt_K_milk.2.1 55 = .ok (.iload_n 2, 1) := by decide +kernel
theorem d_K_milk_56 : decode mt_K_milk.2.1 56 = .ok (.invokespecial 104, 3) := by decide +kernel
theorem d_K_milk_59 : decode mt_K_milk.2.1 59 = .ok (.aastore, 1) := by decide +kernel
theorem d_K_milk_60 : decode mt_K_milk.2.1 60 = .ok (.aload_n 0, 1) := by decide +kernel
theorem d_K_milk_61 : decode mt_K_milk.2.1 61 = .ok (.dup, 1) := by decide +kernel
theorem d_K_milk_62 : decode mt_K_milk.2.1 62 = .ok (.getfield 100, 3) := by decide +kernel
theorem d_K_milk_65 : decode mt_K_milk.2.1 65 = .ok (.iconst 1, 1) := by decide +kernel
theorem d_K_milk_66 : decode mt_K_milk.2.1 66 = .ok (.iadd, 1) := by decide +kernel
theorem d_K_milk_67 : decode mt_K_milk.2.1 67 = .ok (.putfield 100, 3) := by decide +kernel
theorem d_K_milk_70 : decode mt_K_milk.2.1 70 = .ok (.aload_n 0, 1) := by decide +kernel
theorem d_K_milk_71 : decode mt_K_milk.2.1 71 = .ok (.getfield 100, 3) := by decide +kernel
theorem d_K_milk_74 : decode mt_K_milk.2.1 74 = .ok (.iconst 1, 1) := by decide +kernel
theorem d_K_milk_75 : decode mt_K_milk.2.1 75 = .ok (.isub, 1) := by decide +kernel
theorem d_K_milk_76 : decode mt_K_milk.2.1 76 = .ok (.ireturn, 1) := by decide +kernel
theorem d_Mi_init_0 : decode mt_Mi_init.2.1 0 = .ok (.aload_n 0, 1) := by decide +kernel
theorem d_Mi_init_1 : decode mt_Mi_init.2.1 1 = .ok (.invokespecial 1, 3) := by decide +kernel
theorem d_Mi_init_4 : decode mt_Mi_init.2.1 4 = .ok (.aload_n 0, 1) := by decide +kernel
theorem d_Mi_init_5 : decode mt_Mi_init.2.1 5 = .ok (.iload_n 1, 1) := by decide +kernel
theorem d_Mi_init_6 : decode mt_Mi_init.2.1 6 = .ok (.putfield 7, 3) := by decide +kernel
theorem d_Mi_init_9 : decode mt_Mi_init.2.1 9 = .ok (.aload_n 0, 1) := by decide +kernel
theorem d_Mi_init_10 : decode mt_Mi_init.2.1 10 = .ok (.iload_n 2, 1) := by decide +kernel
theorem d_Mi_init_11 : decode mt_Mi_init.2.1 11 = .ok (.putfield 13, 3) := by decide +kernel
theorem d_Mi_init_14 : decode mt_Mi_init.2.1 14 = .ok (.return_, 1) := by decide +kernel
theorem d_K_wheel_0 : decode mt_K_wheel.2.1 0 = .ok (.aload_n 0, 1) := by decide +kernel
theorem d_K_wheel_1 : decode mt_K_wheel.2.1 1 = .ok (.getfield 70, 3) := by decide +kernel
theorem d_K_wheel_4 : decode mt_K_wheel.2.1 4 = .ok (.iconst 0, 1) := by decide +kernel
theorem d_K_wheel_5 : decode mt_K_wheel.2.1 5 = .ok (.iload_n 3, 1) := by decide +kernel
theorem d_K_wheel_6 : decode mt_K_wheel.2.1 6 = .ok (.iastore, 1) := by decide +kernel
theorem d_K_wheel_7 : decode mt_K_wheel.2.1 7 = .ok (.aload_n 0, 1) := by decide +kernel
theorem d_K_wheel_8 : decode mt_K_wheel.2.1 8 = .ok (.getfield 70, 3) := by decide +kernel
theorem d_K_wheel_11 : decode mt_K_wheel.2.1 11 = .ok (.iconst 1, 1) := by decide +kernel
theorem d_K_wheel_12 : decode mt_K_wheel.2.1 12 = .ok (.iload 5, 2) := by decide +kernel
theorem d_K_wheel_14 : decode mt_K_wheel.2.1 14 = .ok (.iastore, 1) := by decide +kernel
theorem d_K_wheel_15 : decode mt_K_wheel.2.1 15 = .ok (.aload_n 0, 1) := by decide +kernel
theorem d_K_wheel_16 : decode mt_K_wheel.2.1 16 = .ok (.getfield 70, 3) := by decide +kernel
theorem d_K_wheel_19 : decode mt_K_wheel.2.1 19 = .ok (.iconst 2, 1) := by decide +kernel
theorem d_K_wheel_20 : decode mt_K_wheel.2.1 20 = .ok (.iload 7, 2) := by decide +kernel
theorem d_K_wheel_22 : decode mt_K_wheel.2.1 22 = .ok (.iastore, 1) := by decide +kernel
theorem d_K_wheel_23 : decode mt_K_wheel.2.1 23 = .ok (.aload_n 0, 1) := by decide +kernel
theorem d_K_wheel_24 : decode mt_K_wheel.2.1 24 = .ok (.getfield 74, 3) := by decide +kernel
theorem d_K_wheel_27 : decode mt_K_wheel.2.1 27 = .ok (.iconst 0, 1) := by decide +kernel
theorem d_K_wheel_28 : decode mt_K_wheel.2.1 28 = .ok (.iload 4, 2) := by decide +kernel
theorem d_K_wheel_30 : decode mt_K_wheel.2.1 30 = .ok (.iastore, 1) := by decide +kernel
theorem d_K_wheel_31 : decode mt_K_wheel.2.1 31 = .ok (.aload_n 0, 1) := by decide +kernel
theorem d_K_wheel_32 : decode mt_K_wheel.2.1 32 = .ok (.getfield 74, 3) := by decide +kernel
theorem d_K_wheel_35 : decode mt_K_wheel.2.1 35 = .ok (.iconst 1, 1) := by decide +kernel
theorem d_K_wheel_36 : decode mt_K_wheel.2.1 36 = .ok (.iload 6, 2) := by decide +kernel
theorem d_K_wheel_38 : decode mt_K_wheel.2.1 38 = .ok (.iastore, 1) := by decide +kernel
theorem d_K_wheel_39 : decode mt_K_wheel.2.1 39 = .ok (.aload_n 0, 1) := by decide +kernel
theorem d_K_wheel_40 : decode mt_K_wheel.2.1 40 = .ok (.getfield 74, 3) := by decide +kernel
theorem d_K_wheel_43 : decode mt_K_wheel.2.1 43 = .ok (.iconst 2, 1) := by decide +kernel
theorem d_K_wheel_44 : decode mt_K_wheel.2.1 44 = .ok (.iload 8, 2) := by decide +kernel
theorem d_K_wheel_46 : decode mt_K_wheel.2.1 46 = .ok (.iastore, 1) := by decide +kernel
theorem d_K_wheel_47 : decode mt_K_wheel.2.1 47 = .ok (.iload_n 1, 1) := by decide +kernel
theorem d_K_wheel_48 : decode mt_K_wheel.2.1 48 = .ok (.iconst 2, 1) := by decide +kernel
theorem d_K_wheel_49 : decode mt_K_wheel.2.1 49 = .ok (.invokestatic 87, 3) := by decide +kernel
theorem d_K_wheel_52 : decode mt_K_wheel.2.1 52 = .ok (.ifCond .eq 30, 3) := by decide +kernel
theorem d_K_wheel_55 : decode mt_K_wheel.2.1 55 = .ok (.aload_n 0, 1) := by decide +kernel
theorem d_K_wheel_56 : decode mt_K_wheel.2.1 56 = .ok (.getfield 10, 3) := by decide +kernel
theorem d_K_wheel_59 : decode mt_K_wheel.2.1 59 = .ok (.iload_n 2, 1) := by decide +kernel
theorem d_K_wheel_60 : decode mt_K_wheel.2.1 60 = .ok (.invokevirtual 107, 3) := by decide +kernel
theorem d_K_wheel_63 : decode mt_K_wheel.2.1 63 = .ok (.ifCond .eq 19, 3) := by decide +kernel
theorem d_K_wheel_66 : decode mt_K_wheel.2.1 66 = .ok (.iload_n 3, 1) := by decide +kernel
theorem d_K_wheel_67 : decode mt_K_wheel.2.1 67 = .ok (.iconst (-1), 1) := by decide +kernel
theorem d_K_wheel_68 : decode mt_K_wheel.2.1 68 = .ok (.if_icmp .eq 14, 3) := by decide +kernel
theorem d_K_wheel_71 : decode mt_K_wheel.2.1 71 = .ok (.aload_n 0, 1) := by decide +kernel
theorem d_K_wheel_72 : decode mt_K_wheel.2.1 72 = .ok (.invokevirtual 111, 3) := by decide +kernel
theorem d_K_wheel_75 : decode mt_K_wheel.2.1 75 = .ok (.ifCond .eq 7, 3) := by decide +kernel
theorem d_K_wheel_78 : decode mt_K_wheel.2.1 78 = .ok (.iconst 1, 1) := by decide +kernel
theorem d_K_wheel_79 : decode mt_K_wheel.2.1 79 = .ok (.goto 4, 3) := by decide +kernel
theorem d_K_wheel_82 : decode mt_K_wheel.2.1 82 = .ok (.iconst 0, 1) := by decide +kernel
theorem d_K_wheel_83 : decode mt_K_wheel.2.1 83 = .ok (.istore 9, 2) := by decide +kernel
theorem d_K_wheel_85 : decode mt_K_wheel.2.1 85 = .ok (.iload 9, 2) := by decide +kernel
theorem d_K_wheel_87 : decode mt_K_wheel.2.1 87 = .ok (.ifCond .eq 23, 3) := by decide +kernel
theorem d_K_wheel_90 : decode mt_K_wheel.2.1 90 = .ok (.aload_n 0, 1) := by decide +kernel
theorem d_K_wheel_91 : decode mt_K_wheel.2.1 91 = .ok (.getfield 115, 3) := by decide +kernel
theorem d_K_wheel_94 : decode mt_K_wheel.2.1 94 = .ok (.bipush 40, 2) := by decide +kernel
theorem d_K_wheel_96 : decode mt_K_wheel.2.1 96 = .ok (.if_icmp .ge 14, 3) := by decide +kernel
theorem d_K_wheel_99 : decode mt_K_wheel.2.1 99 = .ok (.aload_n 0, 1) := by decide +kernel
theorem d_K_wheel_100 : decode mt_K_wheel.2.1 100 = .ok (.getfield 38, 3) := by decide +kernel
theorem d_K_wheel_103 : decode mt_K_wheel.2.1 103 = .ok (.iconst 1, 1) := by decide +kernel
theorem d_K_wheel_104 : decode mt_K_wheel.2.1 104 = .ok (.invokevirtual 118, 3) := by decide +kernel
theorem d_K_wheel_107 : decode mt_K_wheel.2.1 107 = .ok (.ifCond .ne 5, 3) := by decide +kernel
theorem d_K_wheel_110 : decode mt_K_wheel.2.1 110 = .ok (.iconst (-1), 1) := by decide +kernel
theorem d_K_wheel_111 : decode mt_K_wheel.2.1 111 = .ok (.ireturn, 1) := by decide +kernel
theorem d_K_wheel_112 : decode mt_K_wheel.2.1 112 = .ok (.aload_n 0, 1) := by decide +kernel
theorem d_K_wheel_113 : decode mt_K_wheel.2.1 113 = .ok (.iload_n 1, 1) := by decide +kernel
theorem d_K_wheel_114 : decode mt_K_wheel.2.1 114 = .ok (.iload_n 2, 1) := by decide +kernel
theorem d_K_wheel_115 : decode mt_K_wheel.2.1 115 = .ok (.invokevirtual 121, 3) := by decide +kernel
theorem d_K_wheel_118 : decode mt_K_wheel.2.1 118 = .ok (.ireturn, 1) := by decide +kernel
theorem d_Sh_hasRoom_0 : decode mt_Sh_hasRoom.2.1 0 = .ok (.aload_n 0, 1) := by decide +kernel
theorem d_Sh_hasRoom_1 : decode mt_Sh_hasRoom.2.1 1 = .ok (.iload_n 1, 1) := by decide +kernel
theorem d_Sh_hasRoom_2 : decode mt_Sh_hasRoom.2.1 2 = .ok (.invokevirtual 25, 3) := by decide +kernel
theorem d_Sh_hasRoom_5 : decode mt_Sh_hasRoom.2.1 5 = .ok (.ifCond .le 7, 3) := by decide +kernel
theorem d_Sh_hasRoom_8 : decode mt_Sh_hasRoom.2.1 8 = .ok (.iconst 1, 1) := by decide +kernel
theorem d_Sh_hasRoom_9 : decode mt_Sh_hasRoom.2.1 9 = .ok (.goto 4, 3) := by decide +kernel
theorem d_Sh_hasRoom_12 : decode mt_Sh_hasRoom.2.1 12 = .ok (.iconst 0, 1) := by decide +kernel
theorem d_Sh_hasRoom_13 : decode mt_Sh_hasRoom.2.1 13 = .ok (.ireturn, 1) := by decide +kernel
theorem d_Sh_roomAt_0 : decode mt_Sh_roomAt.2.1 0 = .ok (.iload_n 1, 1) := by decide +kernel
theorem d_Sh_roomAt_1 : decode mt_Sh_roomAt.2.1 1 = .ok (.bipush 23, 2) := by decide +kernel
theorem d_Sh_roomAt_3 : decode mt_Sh_roomAt.2.1 3 = .ok (.invokestatic 21, 3) := by decide +kernel
theorem d_Sh_roomAt_6 : decode mt_Sh_roomAt.2.1 6 = .ok (.ifCond .eq 14, 3) := by decide +kernel
theorem d_Sh_roomAt_9 : decode mt_Sh_roomAt.2.1 9 = .ok (.iconst 4, 1) := by decide +kernel
theorem d_Sh_roomAt_10 : decode mt_Sh_roomAt.2.1 10 = .ok (.aload_n 0, 1) := by decide +kernel
theorem d_Sh_roomAt_11 : decode mt_Sh_roomAt.2.1 11 = .ok (.getfield 18, 3) := by decide +kernel
theorem d_Sh_roomAt_14 : decode mt_Sh_roomAt.2.1 14 = .ok (.iload_n 1, 1) := by decide +kernel
theorem d_Sh_roomAt_15 : decode mt_Sh_roomAt.2.1 15 = .ok (.iaload, 1) := by decide +kernel
theorem d_Sh_roomAt_16 : decode mt_Sh_roomAt.2.1 16 = .ok (.isub, 1) := by decide +kernel
theorem d_Sh_roomAt_17 : decode mt_Sh_roomAt.2.1 17 = .ok (.goto 4, 3) := by decide +kernel
theorem d_Sh_roomAt_20 : decode mt_Sh_roomAt.2.1 20 = .ok (.iconst 0, 1) := by decide +kernel
theorem d_Sh_roomAt_21 : decode mt_Sh_roomAt.2.1 21 = .ok (.ireturn, 1) := by decide +kernel
theorem d_K_areMilksThere_0 : decode mt_K_areMilksThere.2.1 0 = .ok (.iconst 0, 1) := by decide +kernel
theorem d_K_areMilksThere_1 : decode mt_K_areMilksThere.2.1 1 = .ok (.istore_n 1, 1) := by decide +kernel
theorem d_K_areMilksThere_2 : decode mt_K_areMilksThere.2.1 2 = .ok (.iload_n 1, 1) := by decide +kernel
theorem d_K_areMilksThere_3 : decode mt_K_areMilksThere.2.1 3 = .ok (.iconst 3, 1) := by decide +kernel
theorem d_K_areMilksThere_4 : decode mt_K_areMilksThere.2.1 4 = .ok (.if_icmp .ge 29, 3) := by decide +kernel
theorem d_K_areMilksThere_7 : decode mt_K_areMilksThere.2.1 7 = .ok (.aload_n 0, 1) := by decide +kernel
theorem d_K_areMilksThere_8 : decode mt_K_areMilksThere.2.1 8 = .ok (.getfield 70, 3) := by decide +kernel
theorem d_K_areMilksThere_11 : decode mt_K_areMilksThere.2.1 11 = .ok (.iload_n 1, 1) := by decide +kernel
theorem d_K_areMilksThere_12 : decode mt_K_areMilksThere.2.1 12 = .ok (.iaload, 1) := by decide +kernel
theorem d_K_areMilksThere_13 : decode mt_K_areMilksThere.2.1 13 = .ok (.iconst (-1), 1) := by decide +kernel
theorem d_K_areMilksThere_14 : decode mt_K_areMilksThere.2.1 14 = .ok (.if_icmp .eq 13, 3) := by decide +kernel
theorem d_K_areMilksThere_17 : decode mt_K_areMilksThere.2.1 17 = .ok (.aload_n 0, 1) := by decide +kernel
theorem d_K_areMilksThere_18 : decode mt_K_areMilksThere.2.1 18 = .ok (.iload_n 1, 1) := by decide +kernel
theorem d_K_areMilksThere_19 : decode mt_K_areMilksThere.2.1 19 = .ok (.invokevirtual 280, 3) := by decide +kernel
theorem d_K_areMilksThere_22 : decode mt_K_areMilksThere.2.1 22 = .ok (.ifCond .ne 5, 3) := by decide +kernel
theorem d_K_areMilksThere_25 : decode mt_K_areMilksThere.2.1 25 = .ok (.iconst 0, 1) := by decide +kernel
theorem d_K_areMilksThere_26 : decode mt_K_areMilksThere.2.1 26 = .ok (.ireturn, 1) := by decide +kernel
theorem d_K_areMilksThere_27 : decode mt_K_areMilksThere.2.1 27 = .ok (.iinc 1 1, 3) := by decide +kernel
theorem d_K_areMilksThere_30 : decode mt_K_areMilksThere.2.1 30 = .ok (.goto (-28), 3) := by decide +kernel
theorem d_K_areMilksThere_33 : decode mt_K_areMilksThere.2.1 33 = .ok (.iconst 1, 1) := by decide +kernel
theorem d_K_areMilksThere_34 : decode mt_K_areMilksThere.2.1 34 = .ok (.ireturn, 1) := by decide +kernel
theorem d_K_isMilkThere_0 : decode mt_K_isMilkThere.2.1 0 = .ok (.iconst 0, 1) := by decide +kernel
theorem d_K_isMilkThere_1 : decode mt_K_isMilkThere.2.1 1 = .ok (.istore_n 2, 1) := by decide +kernel
theorem d_K_isMilkThere_2 : decode mt_K_isMilkThere.2.1 2 = .ok (.iload_n 2, 1) := by decide +kernel
theorem d_K_isMilkThere_3 : decode mt_K_isMilkThere.2.1 3 = .ok (.iload_n 1, 1) := by decide +kernel
theorem d_K_isMilkThere_4 : decode mt_K_isMilkThere.2.1 4 = .ok (.if_icmp .ge 26, 3) := by decide +kernel
theorem d_K_isMilkThere_7 : decode mt_K_isMilkThere.2.1 7 = .ok (.aload_n 0, 1) := by decide +kernel
theorem d_K_isMilkThere_8 : decode mt_K_isMilkThere.2.1 8 = .ok (.getfield 70, 3) := by decide +kernel
theorem d_K_isMilkThere_11 : decode mt_K_isMilkThere.2.1 11 = .ok (.iload_n 2, 1) := by decide +kernel
theorem d_K_isMilkThere_12 : decode mt_K_isMilkThere.2.1 12 = .ok (.iaload, 1) := by decide +kernel
theorem d_K_isMilkThere_13 : decode mt_K_isMilkThere.2.1 13 = .ok (.aload_n 0, 1) := by decide +kernel
theorem d_K_isMilkThere_14 : decode mt_K_isMilkThere.2.1 14 = .ok (.getfield 70, 3) := by decide +kernel
theorem d_K_isMilkThere_17 : decode mt_K_isMilkThere.2.1 17 = .ok (.iload_n 1, 1) := by decide +kernel
theorem d_K_isMilkThere_18 : decode mt_K_isMilkThere.2.1 18 = .ok (.iaload, 1) := by decide +kernel
theorem d_K_isMilkThere_19 : decode mt_K_isMilkThere.2.1 19 = .ok (.if_icmp .ne 5, 3) := by decide +kernel
theorem d_K_isMilkThere_22 : decode mt_K_isMilkThere.2.1 22 = .ok (.iconst 0, 1) := by decide +kernel
theorem d_K_isMilkThere_23 : decode mt_K_isMilkThere.2.1 23 = .ok (.ireturn, 1) := by decide +kernel
theorem d_K_isMilkThere_24 : decode mt_K_isMilkThere.2.1 24 = .ok (.iinc 2 1, 3) := by decide +kernel
theorem d_K_isMilkThere_27 : decode mt_K_isMilkThere.2.1 27 = .ok (.goto (-25), 3) := by decide +kernel
theorem d_K_isMilkThere_30 : decode mt_K_isMilkThere.2.1 30 = .ok (.aload_n 0, 1) := by decide +kernel
theorem d_K_isMilkThere_31 : decode mt_K_isMilkThere.2.1 31 = .ok (.aload_n 0, 1) := by decide +kernel
theorem d_K_isMilkThere_32 : decode mt_K_isMilkThere.2.1 32 = .ok (.getfield 70, 3) := by decide +kernel
theorem d_K_isMilkThere_35 : decode mt_K_isMilkThere.2.1 35 = .ok (.iload_n 1, 1) := by decide +kernel
theorem d_K_isMilkThere_36 : decode mt_K_isMilkThere.2.1 36 = .ok (.iaload, 1) := by decide +kernel
theorem d_K_isMilkThere_37 : decode mt_K_isMilkThere.2.1 37 = .ok (.invokevirtual 199, 3) := by decide +kernel
theorem d_K_isMilkThere_40 : decode mt_K_isMilkThere.2.1 40 = .ok (.astore_n 2, 1) := by decide +kernel
theorem d_K_isMilkThere_41 : decode mt_K_isMilkThere.2.1 41 = .ok (.aload_n 2, 1) := by decide +kernel
theorem d_K_isMilkThere_42 : decode mt_K_isMilkThere.2.1 42 = .ok (.ifnull 30, 3) := by decide +kernel
theorem d_K_isMilkThere_45 : decode mt_K_isMilkThere.2.1 45 = .ok (.aload_n 0, 1) := by decide +kernel
theorem d_K_isMilkThere_46 : decode mt_K_isMilkThere.2.1 46 = .ok (.getfield 74, 3) := by decide +kernel
theorem d_K_isMilkThere_49 : decode mt_K_isMilkThere.2.1 49 = .ok (.iload_n 1, 1) := by decide +kernel
theorem d_K_isMilkThere_50 : decode mt_K_isMilkThere.2.1 50 = .ok (.iaload, 1) := by decide +kernel
theorem d_K_isMilkThere_51 : decode mt_K_isMilkThere.2.1 51 = .ok (.iconst 1, 1) := by decide +kernel
theorem d_K_isMilkThere_52 : decode mt_K_isMilkThere.2.1 52 = .ok (.if_icmp .lt 20, 3) := by decide +kernel
theorem d_K_isMilkThere_55 : decode mt_K_isMilkThere.2.1 55 = .ok (.aload_n 0, 1) := by decide +kernel
theorem d_K_isMilkThere_56 : decode mt_K_isMilkThere.2.1 56 = .ok (.getfield 74, 3) := by decide +kernel
theorem d_K_isMilkThere_59 : decode mt_K_isMilkThere.2.1 59 = .ok (.iload_n 1, 1) := by decide +kernel
theorem d_K_isMilkThere_60 : decode mt_K_isMilkThere.2.1 60 = .ok (.iaload, 1) := by decide +kernel
theorem d_K_isMilkThere_61 : decode mt_K_isMilkThere.2.1 61 = .ok (.aload_n 2, 1) := by decide +kernel
theorem d_K_isMilkThere_62 : decode mt_K_isMilkThere.2.1 62 = .ok (.getfield 206, 3) := by decide +kernel
theorem d_K_isMilkThere_65 : decode mt_K_isMilkThere.2.1 65 = .ok (.if_icmp .gt 7, 3) := by decide +kernel
theorem d_K_isMilkThere_68 : decode mt_K_isMilkThere.2.1 68 = .ok (.iconst 1, 1) := by decide +kernel
theorem d_K_isMilkThere_69 : decode mt_K_isMilkThere.2.1 69 = .ok (.goto 4, 3) := by decide +kernel
theorem d_K_isMilkThere_72 : decode mt_K_isMilkThere.2.1 72 = .ok (.iconst 0, 1) := by decide +kernel
theorem d_K_isMilkThere_73 : decode mt_K_isMilkThere.2.1 73 = .ok (.ireturn, 1) := by decide +kernel
theorem d_K_milkAt_0 : decode mt_K_milkAt.2.1 0 = .ok (.iload_n 1, 1) := by decide +kernel
theorem d_K_milkAt_1 : decode mt_K_milkAt.2.1 1 = .ok (.ifCond .lt 20, 3) := by decide +kernel
theorem d_K_milkAt_4 : decode mt_K_milkAt.2.1 4 = .ok (.iload_n 1, 1) := by decide +kernel
theorem d_K_milkAt_5 : decode mt_K_milkAt.2.1 5 = .ok (.aload_n 0, 1) := by decide +kernel
theorem d_K_milkAt_6 : decode mt_K_milkAt.2.1 6 = .ok (.getfield 100, 3) := by decide +kernel
theorem d_K_milkAt_9 : decode mt_K_milkAt.2.1 9 = .ok (.if_icmp .ge 12, 3) := by decide +kernel
theorem d_K_milkAt_12 : decode mt_K_milkAt.2.1 12 = .ok (.aload_n 0, 1) := by decide +kernel
theorem d_K_milkAt_13 : decode mt_K_milkAt.2.1 13 = .ok (.getfield 18, 3) := by decide +kernel
theorem d_K_milkAt_16 : decode mt_K_milkAt.2.1 16 = .ok (.iload_n 1, 1) := by decide +kernel
theorem d_K_milkAt_17 : decode mt_K_milkAt.2.1 17 = .ok (.aaload, 1) := by decide +kernel
theorem d_K_milkAt_18 : decode mt_K_milkAt.2.1 18 = .ok (.goto 4, 3) := by decide +kernel
theorem d_K_milkAt_21 : decode mt_K_milkAt.2.1 21 = .ok (.aconst_null, 1) := by decide +kernel
theorem d_K_milkAt_22 : decode mt_K_milkAt.2.1 22 = .ok (.areturn, 1) := by decide +kernel
theorem d_St_haveRoomFor_0 : decode mt_St_haveRoomFor.2.1 0 = .ok (.iload_n 1, 1) := by decide +kernel
theorem d_St_haveRoomFor_1 : decode mt_St_haveRoomFor.2.1 1 = .ok (.sipush 200, 3) := by decide +kernel
theorem d_St_haveRoomFor_4 : decode mt_St_haveRoomFor.2.1 4 = .ok (.aload_n 0, 1) := by decide +kernel
theorem d_St_haveRoomFor_5 : decode mt_St_haveRoomFor.2.1 5 = .ok (.getfield 24, 3) := by decide +kernel
theorem d_St_haveRoomFor_8 : decode mt_St_haveRoomFor.2.1 8 = .ok (.isub, 1) := by decide +kernel
theorem d_St_haveRoomFor_9 : decode mt_St_haveRoomFor.2.1 9 = .ok (.if_icmp .gt 7, 3) := by decide +kernel
theorem d_St_haveRoomFor_12 : decode mt_St_haveRoomFor.2.1 12 = .ok (.iconst 1, 1) := by decide +kernel
theorem d_St_haveRoomFor_13 : decode mt_St_haveRoomFor.2.1 13 = .ok (.goto 4, 3) := by decide +kernel
theorem d_St_haveRoomFor_16 : decode mt_St_haveRoomFor.2.1 16 = .ok (.iconst 0, 1) := by decide +kernel
theorem d_St_haveRoomFor_17 : decode mt_St_haveRoomFor.2.1 17 = .ok (.ireturn, 1) := by decide +kernel
theorem d_K_makeWheel_0 : decode mt_K_makeWheel.2.1 0 = .ok (.aload_n 0, 1) := by decide +kernel
theorem d_K_makeWheel_1 : decode mt_K_makeWheel.2.1 1 = .ok (.getfield 115, 3) := by decide +kernel
theorem d_K_makeWheel_4 : decode mt_K_makeWheel.2.1 4 = .ok (.istore_n 3, 1) := by decide +kernel
theorem d_K_makeWheel_5 : decode mt_K_makeWheel.2.1 5 = .ok (.new 22, 3) := by decide +kernel
theorem d_K_makeWheel_8 : decode mt_K_makeWheel.2.1 8 = .ok (.dup, 1) := by decide +kernel
theorem d_K_makeWheel_9 : decode mt_K_makeWheel.2.1 9 = .ok (.iload_n 3, 1) := by decide +kernel
theorem d_K_makeWheel_10 : decode mt_K_makeWheel.2.1 10 = .ok (.iload_n 1, 1) := by decide +kernel
theorem d_K_makeWheel_11 : decode mt_K_makeWheel.2.1 11 = .ok (.aload_n 0, 1) := by decide +kernel
theorem d_K_makeWheel_12 : decode mt_K_makeWheel.2.1 12 = .ok (.getfield 132, 3) := by decide +kernel
theorem d_K_makeWheel_15 : decode mt_K_makeWheel.2.1 15 = .ok (.invokespecial 283, 3) := by decide +kernel
theorem d_K_makeWheel_18 : decode mt_K_makeWheel.2.1 18 = .ok (.astore 4, 2) := by decide +kernel
theorem d_K_makeWheel_20 : decode mt_K_makeWheel.2.1 20 = .ok (.iconst 0, 1) := by decide +kernel
theorem d_K_makeWheel_21 : decode mt_K_makeWheel.2.1 21 = .ok (.istore 5, 2) := by decide +kernel
theorem d_K_makeWheel_23 : decode mt_K_makeWheel.2.1 23 = .ok (.iload 5, 2) := by decide +kernel
theorem d_K_makeWheel_25 : decode mt_K_makeWheel.2.1 25 = .ok (.iconst 3, 1) := by decide +kernel
theorem d_K_makeWheel_26 : decode mt_K_makeWheel.2.1 26 = .ok (.if_icmp .ge 94, 3) := by decide +kernel
theorem d_K_makeWheel_29 : decode mt_K_makeWheel.2.1 29 = .ok (.aload_n 0, 1) := by decide +kernel
theorem d_K_makeWheel_30 : decode mt_K_makeWheel.2.1 30 = .ok (.aload_n 0, 1) := by decide +kernel
theorem d_K_makeWheel_31 : decode mt_K_makeWheel.2.1 31 = .ok (.getfield 70, 3) := by decide +kernel
theorem d_K_makeWheel_34 : decode mt_K_makeWheel.2.1 34 = .ok (.iload 5, 2) := by decide +kernel
theorem d_K_makeWheel_36 : decode mt_K_makeWheel.2.1 36 = .ok (.iaload, 1) := by decide +kernel
theorem d_K_makeWheel_37 : decode mt_K_makeWheel.2.1 37 = .ok (.invokevirtual 199, 3) := by decide +kernel
theorem d_K_makeWheel_40 : decode mt_K_makeWheel.2.1 40 = .ok (.astore 6, 2) := by decide +kernel
theorem d_K_makeWheel_42 : decode mt_K_makeWheel.2.1 42 = .ok (.aload 6, 2) := by decide +kernel
theorem d_K_makeWheel_44 : decode mt_K_makeWheel.2.1 44 = .ok (.ifnull 70, 3) := by decide +kernel
theorem d_K_makeWheel_47 : decode mt_K_makeWheel.2.1 47 = .ok (.aload 6, 2) := by decide +kernel
theorem d_K_makeWheel_49 : decode mt_K_makeWheel.2.1 49 = .ok (.dup, 1) := by decide +kernel
theorem d_K_makeWheel_50 : decode mt_K_makeWheel.2.1 50 = .ok (.getfield 206, 3) := by decide +kernel
theorem d_K_makeWheel_53 : decode mt_K_makeWheel.2.1 53 = .ok (.aload_n 0, 1) := by decide +kernel
theorem d_K_makeWheel_54 : decode mt_K_makeWheel.2.1 54 = .ok (.getfield 74, 3) := by decide +kernel
theorem d_K_makeWheel_57 : decode mt_K_makeWheel.2.1 57 = .ok (.iload 5, 2) := by decide +kernel
theorem d_K_makeWheel_59 : decode mt_K_makeWheel.2.1 59 = .ok (.iaload, 1) := by decide +kernel
theorem d_K_makeWheel_60 : decode mt_K_makeWheel.2.1 60 = .ok (.isub, 1) := by decide +kernel
theorem d_K_makeWheel_61 : decode mt_K_makeWheel.2.1 61 = .ok (.putfield 206, 3) := by decide +kernel
theorem d_K_makeWheel_64 : decode mt_K_makeWheel.2.1 64 = .ok (.aload 6, 2) := by decide +kernel
theorem d_K_makeWheel_66 : decode mt_K_makeWheel.2.1 66 = .ok (.dup, 1) := by decide +kernel
theorem d_K_makeWheel_67 : decode mt_K_makeWheel.2.1 67 = .ok (.getfield 209, 3) := by decide +kernel
theorem d_K_makeWheel_70 : decode mt_K_makeWheel.2.1 70 = .ok (.iconst 1, 1) := by decide +kernel
theorem d_K_makeWheel_71 : decode mt_K_makeWheel.2.1 71 = .ok (.iadd, 1) := by decide +kernel
theorem d_K_makeWheel_72 : decode mt_K_makeWheel.2.1 72 = .ok (.putfield 209, 3) := by decide +kernel
theorem d_K_makeWheel_75 : decode mt_K_makeWheel.2.1 75 = .ok (.aload 4, 2) := by decide +kernel
theorem d_K_makeWheel_77 : decode mt_K_makeWheel.2.1 77 = .ok (.dup, 1) := by decide +kernel
theorem d_K_makeWheel_78 : decode mt_K_makeWheel.2.1 78 = .ok (.getfield 185, 3) := by decide +kernel
theorem d_K_makeWheel_81 : decode mt_K_makeWheel.2.1 81 = .ok (.bipush 100, 2) := by decide +kernel
theorem d_K_makeWheel_83 : decode mt_K_makeWheel.2.1 83 = .ok (.aload_n 0, 1) := by decide +kernel
theorem d_K_makeWheel_84 : decode mt_K_makeWheel.2.1 84 = .ok (.getfield 74, 3) := by decide +kernel
theorem d_K_makeWheel_87 : decode mt_K_makeWheel.2.1 87 = .ok (.iload 5, 2) := by decide +kernel
theorem d_K_makeWheel_89 : decode mt_K_makeWheel.2.1 89 = .ok (.iaload, 1) := by decide +kernel
theorem d_K_makeWheel_90 : decode mt_K_makeWheel.2.1 90 = .ok (.imul, 1) := by decide +kernel
theorem d_K_makeWheel_91 : decode mt_K_makeWheel.2.1 91 = .ok (.iadd, 1) := by decide +kernel
theorem d_K_makeWheel_92 : decode mt_K_makeWheel.2.1 92 = .ok (.putfield 185, 3) := by decide +kernel
theorem d_K_makeWheel_95 : decode mt_K_makeWheel.2.1 95 = .ok (.aload 4, 2) := by decide +kernel
theorem d_K_makeWheel_97 : decode mt_K_makeWheel.2.1 97 = .ok (.dup, 1) := by decide +kernel
theorem d_K_makeWheel_98 : decode mt_K_makeWheel.2.1 98 = .ok (.getfield 286, 3) := by decide +kernel
theorem d_K_makeWheel_101 : decode mt_K_makeWheel.2.1 101 = .ok (.iconst 1, 1) := by decide +kernel
theorem d_K_makeWheel_102 : decode mt_K_makeWheel.2.1 102 = .ok (.aload_n 0, 1) := by decide +kernel
theorem d_K_makeWheel_103 : decode mt_K_makeWheel.2.1 103 = .ok (.getfield 70, 3) := by decide +kernel
theorem d_K_makeWheel_106 : decode mt_K_makeWheel.2.1 106 = .ok (.iload 5, 2) := by decide +kernel
theorem d_K_makeWheel_108 : decode mt_K_makeWheel.2.1 108 = .ok (.iaload, 1) := by decide +kernel
theorem d_K_makeWheel_109 : decode mt_K_makeWheel.2.1 109 = .ok (.ishl, 1) := by decide +kernel
theorem d_K_makeWheel_110 : decode mt_K_makeWheel.2.1 110 = .ok (.ior, 1) := by decide +kernel
theorem d_K_makeWheel_111 : decode mt_K_makeWheel.2.1 111 = .ok (.putfield 286, 3) := by decide +kernel
theorem d_K_makeWheel_114 : decode mt_K_makeWheel.2.1 114 = .ok (.iinc 5 1, 3) := by decide +kernel
theorem d_K_makeWheel_117 : decode mt_K_makeWheel.2.1 117 = .ok (.goto (-94), 3) := by decide +kernel
theorem d_K_makeWheel_120 : decode mt_K_makeWheel.2.1 120 = .ok (.aload_n 0, 1) := by decide +kernel
theorem d_K_makeWheel_121 : decode mt_K_makeWheel.2.1 121 = .ok (.aload 4, 2) := by decide +kernel
theorem d_K_makeWheel_123 : decode mt_K_makeWheel.2.1 123 = .ok (.iload_n 2, 1) := by decide +kernel
theorem d_K_makeWheel_124 : decode mt_K_makeWheel.2.1 124 = .ok (.invokevirtual 289, 3) := by decide +kernel
theorem d_K_makeWheel_127 : decode mt_K_makeWheel.2.1 127 = .ok (.aload_n 0, 1) := by decide +kernel
theorem d_K_makeWheel_128 : decode mt_K_makeWheel.2.1 128 = .ok (.getfield 24, 3) := by decide +kernel
theorem d_K_makeWheel_131 : decode mt_K_makeWheel.2.1 131 = .ok (.iload_n 3, 1) := by decide +kernel
theorem d_K_makeWheel_132 : decode mt_K_makeWheel.2.1 132 = .ok (.aload 4, 2) := by decide +kernel
theorem d_K_makeWheel_134 : decode mt_K_makeWheel.2.1 134 = .ok (.aastore, 1) := by decide +kernel
theorem d_K_makeWheel_135 : decode mt_K_makeWheel.2.1 135 = .ok (.aload_n 0, 1) := by decide +kernel
theorem d_K_makeWheel_136 : decode mt_K_makeWheel.2.1 136 = .ok (.dup, 1) := by decide +kernel
theorem d_K_makeWheel_137 : decode mt_K_makeWheel.2.1 137 = .ok (.getfield 115, 3) := by decide +kernel
theorem d_K_makeWheel_140 : decode mt_K_makeWheel.2.1 140 = .ok (.iconst 1, 1) := by decide +kernel
theorem d_K_makeWheel_141 : decode mt_K_makeWheel.2.1 141 = .ok (.iadd, 1) := by decide +kernel
theorem d_K_makeWheel_142 : decode mt_K_makeWheel.2.1 142 = .ok (.putfield 115, 3) := by decide +kernel
theorem d_K_makeWheel_145 : decode mt_K_makeWheel.2.1 145 = .ok (.aload_n 0, 1) := by decide +kernel
theorem d_K_makeWheel_146 : decode mt_K_makeWheel.2.1 146 = .ok (.getfield 52, 3) := by decide +kernel
theorem d_K_makeWheel_149 : decode mt_K_makeWheel.2.1 149 = .ok (.invokevirtual 94, 3) := by decide +kernel
theorem d_K_makeWheel_152 : decode mt_K_makeWheel.2.1 152 = .ok (.iload_n 3, 1) := by decide +kernel
theorem d_K_makeWheel_153 : decode mt_K_makeWheel.2.1 153 = .ok (.ireturn, 1) := by decide +kernel
theorem d_Wh_init_0 : decode mt_Wh_init.2.1 0 = .ok (.aload_n 0, 1) := by decide +kernel
theorem d_Wh_init_1 : decode mt_Wh_init.2.1 1 = .ok (.invokespecial 3, 3) := by decide +kernel
theorem d_Wh_init_4 : decode mt_Wh_init.2.1 4 = .ok (.aload_n 0, 1) := by decide +kernel
theorem d_Wh_init_5 : decode mt_Wh_init.2.1 5 = .ok (.iconst (-1), 1) := by decide +kernel
theorem d_Wh_init_6 : decode mt_Wh_init.2.1 6 = .ok (.putfield 9, 3) := by decide +kernel
theorem d_Wh_init_9 : decode mt_Wh_init.2.1 9 = .ok (.aload_n 0, 1) := by decide +kernel
theorem d_Wh_init_10 : decode mt_Wh_init.2.1 10 = .ok (.iconst (-1), 1) := by decide +kernel
theorem d_Wh_init_11 : decode mt_Wh_init.2.1 11 = .ok (.putfield 15, 3) := by decide +kernel
theorem d_Wh_init_14 : decode mt_Wh_init.2.1 14 = .ok (.aload_n 0, 1) := by decide +kernel
theorem d_Wh_init_15 : decode mt_Wh_init.2.1 15 = .ok (.iload_n 1, 1) := by decide +kernel
theorem d_Wh_init_16 : decode mt_Wh_init.2.1 16 = .ok (.putfield 18, 3) := by decide +kernel
theorem d_Wh_init_19 : decode mt_Wh_init.2.1 19 = .ok (.aload_n 0, 1) := by decide +kernel
theorem d_Wh_init_20 : decode mt_Wh_init.2.1 20 = .ok (.iload_n 2, 1) := by decide +kernel
theorem d_Wh_init_21 : decode mt_Wh_init.2.1 21 = .ok (.putfield 21, 3) := by decide +kernel
theorem d_Wh_init_24 : decode mt_Wh_init.2.1 24 = .ok (.aload_n 0, 1) := by decide +kernel
theorem d_Wh_init_25 : decode mt_Wh_init.2.1 25 = .ok (.iload_n 3, 1) := by decide +kernel
theorem d_Wh_init_26 : decode mt_Wh_init.2.1 26 = .ok (.putfield 24, 3) := by decide +kernel
theorem d_Wh_init_29 : decode mt_Wh_init.2.1 29 = .ok (.return_, 1) := by decide +kernel
theorem d_K_layOn_0 : decode mt_K_layOn.2.1 0 = .ok (.aload_n 1, 1) := by decide +kernel
theorem d_K_layOn_1 : decode mt_K_layOn.2.1 1 = .ok (.iload_n 2, 1) := by decide +kernel
theorem d_K_layOn_2 : decode mt_K_layOn.2.1 2 = .ok (.putfield 138, 3) := by decide +kernel
theorem d_K_layOn_5 : decode mt_K_layOn.2.1 5 = .ok (.aload_n 1, 1) := by decide +kernel
theorem d_K_layOn_6 : decode mt_K_layOn.2.1 6 = .ok (.aload_n 0, 1) := by decide +kernel
theorem d_K_layOn_7 : decode mt_K_layOn.2.1 7 = .ok (.getfield 38, 3) := by decide +kernel
theorem d_K_layOn_10 : decode mt_K_layOn.2.1 10 = .ok (.aload_n 1, 1) := by decide +kernel
theorem d_K_layOn_11 : decode mt_K_layOn.2.1 11 = .ok (.getfield 292, 3) := by decide +kernel
theorem d_K_layOn_14 : decode mt_K_layOn.2.1 14 = .ok (.iload_n 2, 1) := by decide +kernel
theorem d_K_layOn_15 : decode mt_K_layOn.2.1 15 = .ok (.aload_n 0, 1) := by decide +kernel
theorem d_K_layOn_16 : decode mt_K_layOn.2.1 16 = .ok (.getfield 132, 3) := by decide +kernel
theorem d_K_layOn_19 : decode mt_K_layOn.2.1 19 = .ok (.invokevirtual 295, 3) := by decide +kernel
theorem d_K_layOn_22 : decode mt_K_layOn.2.1 22 = .ok (.putfield 129, 3) := by decide +kernel
theorem d_K_layOn_25 : decode mt_K_layOn.2.1 25 = .ok (.aload_n 0, 1) := by decide +kernel
theorem d_K_layOn_26 : decode mt_K_layOn.2.1 26 = .ok (.getfield 10, 3) := by decide +kernel
theorem d_K_layOn_29 : decode mt_K_layOn.2.1 29 = .ok (.iload_n 2, 1) := by decide +kernel
theorem d_K_layOn_30 : decode mt_K_layOn.2.1 30 = .ok (.invokevirtual 299, 3) := by decide +kernel
theorem d_K_layOn_33 : decode mt_K_layOn.2.1 33 = .ok (.return_, 1) := by decide +kernel
theorem d_St_begin_0 : decode mt_St_begin.2.1 0 = .ok (.aload_n 0, 1) := by decide +kernel
theorem d_St_begin_1 : decode mt_St_begin.2.1 1 = .ok (.getfield 24, 3) := by decide +kernel
theorem d_St_begin_4 : decode mt_St_begin.2.1 4 = .ok (.sipush 200, 3) := by decide +kernel
theorem d_St_begin_7 : decode mt_St_begin.2.1 7 = .ok (.if_icmp .lt 5, 3) := by decide +kernel
theorem d_St_begin_10 : decode mt_St_begin.2.1 10 = .ok (.iconst (-1), 1) := by decide +kernel
theorem d_St_begin_11 : decode mt_St_begin.2.1 11 = .ok (.ireturn, 1) := by decide +kernel
theorem d_St_begin_12 : decode mt_St_begin.2.1 12 = .ok (.aload_n 0, 1) := by decide +kernel
theorem d_St_begin_13 : decode mt_St_begin.2.1 13 = .ok (.getfield 9, 3) := by decide +kernel
theorem d_St_begin_16 : decode mt_St_begin.2.1 16 = .ok (.aload_n 0, 1) := by decide +kernel
theorem d_St_begin_17 : decode mt_St_begin.2.1 17 = .ok (.getfield 24, 3) := by decide +kernel
theorem d_St_begin_20 : decode mt_St_begin.2.1 20 = .ok (.iload_n 1, 1) := by decide +kernel
theorem d_St_begin_21 : decode mt_St_begin.2.1 21 = .ok (.iastore, 1) := by decide +kernel
theorem d_St_begin_22 : decode mt_St_begin.2.1 22 = .ok (.aload_n 0, 1) := by decide +kernel
theorem d_St_begin_23 : decode mt_St_begin.2.1 23 = .ok (.getfield 15, 3) := by decide +kernel
theorem d_St_begin_26 : decode mt_St_begin.2.1 26 = .ok (.aload_n 0, 1) := by decide +kernel
theorem d_St_begin_27 : decode mt_St_begin.2.1 27 = .ok (.getfield 24, 3) := by decide +kernel
theorem d_St_begin_30 : decode mt_St_begin.2.1 30 = .ok (.iload_n 2, 1) := by decide +kernel
theorem d_St_begin_31 : decode mt_St_begin.2.1 31 = .ok (.iastore, 1) := by decide +kernel
theorem d_St_begin_32 : decode mt_St_begin.2.1 32 = .ok (.aload_n 0, 1) := by decide +kernel
theorem d_St_begin_33 : decode mt_St_begin.2.1 33 = .ok (.getfield 18, 3) := by decide +kernel
theorem d_St_begin_36 : decode mt_St_begin.2.1 36 = .ok (.aload_n 0, 1) := by decide +kernel
theorem d_St_begin_37 : decode mt_St_begin.2.1 37 = .ok (.getfield 24, 3) := by decide +kernel
theorem d_St_begin_40 : decode mt_St_begin.2.1 40 = .ok (.iload_n 3, 1) := by decide +kernel
theorem d_St_begin_41 : decode mt_St_begin.2.1 41 = .ok (.iastore, 1) := by decide +kernel
theorem d_St_begin_42 : decode mt_St_begin.2.1 42 = .ok (.aload_n 0, 1) := by decide +kernel
theorem d_St_begin_43 : decode mt_St_begin.2.1 43 = .ok (.getfield 21, 3) := by decide +kernel
theorem d_St_begin_46 : decode mt_St_begin.2.1 46 = .ok (.aload_n 0, 1) := by decide +kernel
theorem d_St_begin_47 : decode mt_St_begin.2.1 47 = .ok (.getfield 24, 3) := by decide +kernel
theorem d_St_begin_50 : decode mt_St_begin.2.1 50 = .ok (.iconst (-1), 1) := by decide +kernel
theorem d_St_begin_51 : decode mt_St_begin.2.1 51 = .ok (.iastore, 1) := by decide +kernel
theorem d_St_begin_52 : decode mt_St_begin.2.1 52 = .ok (.aload_n 0, 1) := by decide +kernel
theorem d_St_begin_53 : decode mt_St_begin.2.1 53 = .ok (.dup, 1) := by decide +kernel
theorem d_St_begin_54 : decode mt_St_begin.2.1 54 = .ok (.getfield 24, 3) := by decide +kernel
theorem d_St_begin_57 : decode mt_St_begin.2.1 57 = .ok (.iconst 1, 1) := by decide +kernel
theorem d_St_begin_58 : decode mt_St_begin.2.1 58 = .ok (.iadd, 1) := by decide +kernel
theorem d_St_begin_59 : decode mt_St_begin.2.1 59 = .ok (.putfield 24, 3) := by decide +kernel
theorem d_St_begin_62 : decode mt_St_begin.2.1 62 = .ok (.aload_n 0, 1) := by decide +kernel
theorem d_St_begin_63 : decode mt_St_begin.2.1 63 = .ok (.getfield 24, 3) := by decide +kernel
theorem d_St_begin_66 : decode mt_St_begin.2.1 66 = .ok (.iconst 1, 1) := by decide +kernel
theorem d_St_begin_67 : decode mt_St_begin.2.1 67 = .ok (.isub, 1) := by decide +kernel
theorem d_St_begin_68 : decode mt_St_begin.2.1 68 = .ok (.ireturn, 1) := by decide +kernel
theorem d_Sh_lay_0 : decode mt_Sh_lay.2.1 0 = .ok (.iload_n 1, 1) := by decide +kernel
theorem d_Sh_lay_1 : decode mt_Sh_lay.2.1 1 = .ok (.bipush 23, 2) := by decide +kernel
theorem d_Sh_lay_3 : decode mt_Sh_lay.2.1 3 = .ok (.invokestatic 21, 3) := by decide +kernel
theorem d_Sh_lay_6 : decode mt_Sh_lay.2.1 6 = .ok (.ifCond .eq 13, 3) := by decide +kernel
theorem d_Sh_lay_9 : decode mt_Sh_lay.2.1 9 = .ok (.aload_n 0, 1) := by decide +kernel
theorem d_Sh_lay_10 : decode mt_Sh_lay.2.1 10 = .ok (.getfield 18, 3) := by decide +kernel
theorem d_Sh_lay_13 : decode mt_Sh_lay.2.1 13 = .ok (.iload_n 1, 1) := by decide +kernel
theorem d_Sh_lay_14 : decode mt_Sh_lay.2.1 14 = .ok (.dup2, 1) := by decide +kernel
theorem d_Sh_lay_15 : decode mt_Sh_lay.2.1 15 = .ok (.iaload, 1) := by decide +kernel
theorem d_Sh_lay_16 : decode mt_Sh_lay.2.1 16 = .ok (.iconst 1, 1) := by decide +kernel
theorem d_Sh_lay_17 : decode mt_Sh_lay.2.1 17 = .ok (.iadd, 1) := by decide +kernel
theorem d_Sh_lay_18 : decode mt_Sh_lay.2.1 18 = .ok (.iastore, 1) := by decide +kernel
theorem d_Sh_lay_19 : decode mt_Sh_lay.2.1 19 = .ok (.return_, 1) := by decide +kernel
theorem d_K_sell_0 : decode mt_K_sell.2.1 0 = .ok (.aload_n 0, 1) := by decide +kernel
theorem d_K_sell_1 : decode mt_K_sell.2.1 1 = .ok (.iload_n 1, 1) := by decide +kernel
theorem d_K_sell_2 : decode mt_K_sell.2.1 2 = .ok (.invokevirtual 125, 3) := by decide +kernel
theorem d_K_sell_5 : decode mt_K_sell.2.1 5 = .ok (.astore_n 2, 1) := by decide +kernel
theorem d_K_sell_6 : decode mt_K_sell.2.1 6 = .ok (.aload_n 2, 1) := by decide +kernel
theorem d_K_sell_7 : decode mt_K_sell.2.1 7 = .ok (.ifnonnull 5, 3) := by decide +kernel
theorem d_K_sell_10 : decode mt_K_sell.2.1 10 = .ok (.iconst 0, 1) := by decide +kernel
theorem d_K_sell_11 : decode mt_K_sell.2.1 11 = .ok (.ireturn, 1) := by decide +kernel
theorem d_K_sell_12 : decode mt_K_sell.2.1 12 = .ok (.aload_n 0, 1) := by decide +kernel
theorem d_K_sell_13 : decode mt_K_sell.2.1 13 = .ok (.getfield 38, 3) := by decide +kernel
theorem d_K_sell_16 : decode mt_K_sell.2.1 16 = .ok (.aload_n 2, 1) := by decide +kernel
theorem d_K_sell_17 : decode mt_K_sell.2.1 17 = .ok (.getfield 129, 3) := by decide +kernel
theorem d_K_sell_20 : decode mt_K_sell.2.1 20 = .ok (.aload_n 0, 1) := by decide +kernel
theorem d_K_sell_21 : decode mt_K_sell.2.1 21 = .ok (.getfield 132, 3) := by decide +kernel
theorem d_K_sell_24 : decode mt_K_sell.2.1 24 = .ok (.invokevirtual 135, 3) := by decide +kernel
theorem d_K_sell_27 : decode mt_K_sell.2.1 27 = .ok (.aload_n 0, 1) := by decide +kernel
theorem d_K_sell_28 : decode mt_K_sell.2.1 28 = .ok (.getfield 10, 3) := by decide +kernel
theorem d_K_sell_31 : decode mt_K_sell.2.1 31 = .ok (.aload_n 2, 1) := by decide +kernel
theorem d_K_sell_32 : decode mt_K_sell.2.1 32 = .ok (.getfield 138, 3) := by decide +kernel
theorem d_K_sell_35 : decode mt_K_sell.2.1 35 = .ok (.invokevirtual 141, 3) := by decide +kernel
theorem d_K_sell_38 : decode mt_K_sell.2.1 38 = .ok (.aload_n 2, 1) := by decide +kernel
theorem d_K_sell_39 : decode mt_K_sell.2.1 39 = .ok (.iconst (-1), 1) := by decide +kernel
theorem d_K_sell_40 : decode mt_K_sell.2.1 40 = .ok (.putfield 138, 3) := by decide +kernel
theorem d_K_sell_43 : decode mt_K_sell.2.1 43 = .ok (.aload_n 0, 1) := by decide +kernel
theorem d_K_sell_44 : decode mt_K_sell.2.1 44 = .ok (.getfield 52, 3) := by decide +kernel
theorem d_K_sell_47 : decode mt_K_sell.2.1 47 = .ok (.invokevirtual 94, 3) := by decide +kernel
theorem d_K_sell_50 : decode mt_K_sell.2.1 50 = .ok (.iconst 1, 1) := by decide +kernel
theorem d_K_sell_51 : decode mt_K_sell.2.1 51 = .ok (.ireturn, 1) := by decide +kernel
theorem d_K_lyingWheel_0 : decode mt_K_lyingWheel.2.1 0 = .ok (.aload_n 0, 1) := by decide +kernel
theorem d_K_lyingWheel_1 : decode mt_K_lyingWheel.2.1 1 = .ok (.iload_n 1, 1) := by decide +kernel
theorem d_K_lyingWheel_2 : decode mt_K_lyingWheel.2.1 2 = .ok (.invokevirtual 173, 3) := by decide +kernel
theorem d_K_lyingWheel_5 : decode mt_K_lyingWheel.2.1 5 = .ok (.astore_n 2, 1) := by decide +kernel
theorem d_K_lyingWheel_6 : decode mt_K_lyingWheel.2.1 6 = .ok (.aload_n 2, 1) := by decide +kernel
theorem d_K_lyingWheel_7 : decode mt_K_lyingWheel.2.1 7 = .ok (.ifnull 15, 3) := by decide +kernel
theorem d_K_lyingWheel_10 : decode mt_K_lyingWheel.2.1 10 = .ok (.aload_n 2, 1) := by decide +kernel
theorem d_K_lyingWheel_11 : decode mt_K_lyingWheel.2.1 11 = .ok (.getfield 138, 3) := by decide +kernel
theorem d_K_lyingWheel_14 : decode mt_K_lyingWheel.2.1 14 = .ok (.iconst (-1), 1) := by decide +kernel
theorem d_K_lyingWheel_15 : decode mt_K_lyingWheel.2.1 15 = .ok (.if_icmp .eq 7, 3) := by decide +kernel
theorem d_K_lyingWheel_18 : decode mt_K_lyingWheel.2.1 18 = .ok (.aload_n 2, 1) := by decide +kernel
theorem d_K_lyingWheel_19 : decode mt_K_lyingWheel.2.1 19 = .ok (.goto 4, 3) := by decide +kernel
theorem d_K_lyingWheel_22 : decode mt_K_lyingWheel.2.1 22 = .ok (.aconst_null, 1) := by decide +kernel
theorem d_K_lyingWheel_23 : decode mt_K_lyingWheel.2.1 23 = .ok (.areturn, 1) := by decide +kernel
theorem d_K_wheelAt_0 : decode mt_K_wheelAt.2.1 0 = .ok (.iload_n 1, 1) := by decide +kernel
theorem d_K_wheelAt_1 : decode mt_K_wheelAt.2.1 1 = .ok (.ifCond .lt 20, 3) := by decide +kernel
theorem d_K_wheelAt_4 : decode mt_K_wheelAt.2.1 4 = .ok (.iload_n 1, 1) := by decide +kernel
theorem d_K_wheelAt_5 : decode mt_K_wheelAt.2.1 5 = .ok (.aload_n 0, 1) := by decide +kernel
theorem d_K_wheelAt_6 : decode mt_K_wheelAt.2.1 6 = .ok (.getfield 115, 3) := by decide +kernel
theorem d_K_wheelAt_9 : decode mt_K_wheelAt.2.1 9 = .ok (.if_icmp .ge 12, 3) := by decide +kernel
theorem d_K_wheelAt_12 : decode mt_K_wheelAt.2.1 12 = .ok (.aload_n 0, 1) := by decide +kernel
theorem d_K_wheelAt_13 : decode mt_K_wheelAt.2.1 13 = .ok (.getfield 24, 3) := by decide +kernel
theorem d_K_wheelAt_16 : decode mt_K_wheelAt.2.1 16 = .ok (.iload_n 1, 1) := by decide +kernel
theorem d_K_wheelAt_17 : decode mt_K_wheelAt.2.1 17 = .ok (.aaload, 1) := by decide +kernel
theorem d_K_wheelAt_18 : decode mt_K_wheelAt.2.1 18 = .ok (.goto 4, 3) := by decide +kernel
theorem d_K_wheelAt_21 : decode mt_K_wheelAt.2.1 21 = .ok (.aconst_null, 1) := by decide +kernel
theorem d_K_wheelAt_22 : decode mt_K_wheelAt.2.1 22 = .ok (.areturn, 1) := by decide +kernel
theorem d_St_finish_0 : decode mt_St_finish.2.1 0 = .ok (.iload_n 1, 1) := by decide +kernel
theorem d_St_finish_1 : decode mt_St_finish.2.1 1 = .ok (.ifCond .lt 18, 3) := by decide +kernel
theorem d_St_finish_4 : decode mt_St_finish.2.1 4 = .ok (.iload_n 1, 1) := by decide +kernel
theorem d_St_finish_5 : decode mt_St_finish.2.1 5 = .ok (.aload_n 0, 1) := by decide +kernel
theorem d_St_finish_6 : decode mt_St_finish.2.1 6 = .ok (.getfield 24, 3) := by decide +kernel
theorem d_St_finish_9 : decode mt_St_finish.2.1 9 = .ok (.if_icmp .ge 10, 3) := by decide +kernel
theorem d_St_finish_12 : decode mt_St_finish.2.1 12 = .ok (.aload_n 0, 1) := by decide +kernel
theorem d_St_finish_13 : decode mt_St_finish.2.1 13 = .ok (.getfield 21, 3) := by decide +kernel
theorem d_St_finish_16 : decode mt_St_finish.2.1 16 = .ok (.iload_n 1, 1) := by decide +kernel
theorem d_St_finish_17 : decode mt_St_finish.2.1 17 = .ok (.iload_n 2, 1) := by decide +kernel
theorem d_St_finish_18 : decode mt_St_finish.2.1 18 = .ok (.iastore, 1) := by decide +kernel
theorem d_St_finish_19 : decode mt_St_finish.2.1 19 = .ok (.return_, 1) := by decide +kernel
theorem d_Sh_lift_0 : decode mt_Sh_lift.2.1 0 = .ok (.iload_n 1, 1) := by decide +kernel
theorem d_Sh_lift_1 : decode mt_Sh_lift.2.1 1 = .ok (.bipush 23, 2) := by decide +kernel
theorem d_Sh_lift_3 : decode mt_Sh_lift.2.1 3 = .ok (.invokestatic 21, 3) := by decide +kernel
theorem d_Sh_lift_6 : decode mt_Sh_lift.2.1 6 = .ok (.ifCond .eq 13, 3) := by decide +kernel
theorem d_Sh_lift_9 : decode mt_Sh_lift.2.1 9 = .ok (.aload_n 0, 1) := by decide +kernel
theorem d_Sh_lift_10 : decode mt_Sh_lift.2.1 10 = .ok (.getfield 18, 3) := by decide +kernel
theorem d_Sh_lift_13 : decode mt_Sh_lift.2.1 13 = .ok (.iload_n 1, 1) := by decide +kernel
theorem d_Sh_lift_14 : decode mt_Sh_lift.2.1 14 = .ok (.dup2, 1) := by decide +kernel
theorem d_Sh_lift_15 : decode mt_Sh_lift.2.1 15 = .ok (.iaload, 1) := by decide +kernel
theorem d_Sh_lift_16 : decode mt_Sh_lift.2.1 16 = .ok (.iconst 1, 1) := by decide +kernel
theorem d_Sh_lift_17 : decode mt_Sh_lift.2.1 17 = .ok (.isub, 1) := by decide +kernel
theorem d_Sh_lift_18 : decode mt_Sh_lift.2.1 18 = .ok (.iastore, 1) := by decide +kernel
theorem d_Sh_lift_19 : decode mt_Sh_lift.2.1 19 = .ok (.return_, 1) := by decide +kernel
theorem d_K_feed_0 : decode mt_K_feed.2.1 0 = .ok (.aload_n 0, 1) := by decide +kernel
theorem d_K_feed_1 : decode mt_K_feed.2.1 1 = .ok (.getfield 59, 3) := by decide +kernel
theorem d_K_feed_4 : decode mt_K_feed.2.1 4 = .ok (.getfield 145, 3) := by decide +kernel
theorem d_K_feed_7 : decode mt_K_feed.2.1 7 = .ok (.sipush 480, 3) := by decide +kernel
theorem d_K_feed_10 : decode mt_K_feed.2.1 10 = .ok (.if_icmp .le 5, 3) := by decide +kernel
theorem d_K_feed_13 : decode mt_K_feed.2.1 13 = .ok (.iconst (-1), 1) := by decide +kernel
theorem d_K_feed_14 : decode mt_K_feed.2.1 14 = .ok (.ireturn, 1) := by decide +kernel
theorem d_K_feed_15 : decode mt_K_feed.2.1 15 = .ok (.aload_n 0, 1) := by decide +kernel
theorem d_K_feed_16 : decode mt_K_feed.2.1 16 = .ok (.getfield 59, 3) := by decide +kernel
theorem d_K_feed_19 : decode mt_K_feed.2.1 19 = .ok (.iload_n 1, 1) := by decide +kernel
theorem d_K_feed_20 : decode mt_K_feed.2.1 20 = .ok (.invokevirtual 148, 3) := by decide +kernel
theorem d_K_feed_23 : decode mt_K_feed.2.1 23 = .ok (.aload_n 0, 1) := by decide +kernel
theorem d_K_feed_24 : decode mt_K_feed.2.1 24 = .ok (.getfield 59, 3) := by decide +kernel
theorem d_K_feed_27 : decode mt_K_feed.2.1 27 = .ok (.iload_n 2, 1) := by decide +kernel
theorem d_K_feed_28 : decode mt_K_feed.2.1 28 = .ok (.invokevirtual 148, 3) := by decide +kernel
theorem d_K_feed_31 : decode mt_K_feed.2.1 31 = .ok (.aload_n 0, 1) := by decide +kernel
theorem d_K_feed_32 : decode mt_K_feed.2.1 32 = .ok (.getfield 59, 3) := by decide +kernel
theorem d_K_feed_35 : decode mt_K_feed.2.1 35 = .ok (.iload_n 3, 1) := by decide +kernel
theorem d_K_feed_36 : decode mt_K_feed.2.1 36 = .ok (.invokevirtual 148, 3) := by decide +kernel
theorem d_K_feed_39 : decode mt_K_feed.2.1 39 = .ok (.aload_n 0, 1) := by decide +kernel
theorem d_K_feed_40 : decode mt_K_feed.2.1 40 = .ok (.getfield 59, 3) := by decide +kernel
theorem d_K_feed_43 : decode mt_K_feed.2.1 43 = .ok (.iload 4, 2) := by decide +kernel
theorem d_K_feed_45 : decode mt_K_feed.2.1 45 = .ok (.invokevirtual 148, 3) := by decide +kernel
theorem d_K_feed_48 : decode mt_K_feed.2.1 48 = .ok (.aload_n 0, 1) := by decide +kernel
theorem d_K_feed_49 : decode mt_K_feed.2.1 49 = .ok (.getfield 59, 3) := by decide +kernel
theorem d_K_feed_52 : decode mt_K_feed.2.1 52 = .ok (.iload 5, 2) := by decide +kernel
theorem d_K_feed_54 : decode mt_K_feed.2.1 54 = .ok (.invokevirtual 148, 3) := by decide +kernel
theorem d_K_feed_57 : decode mt_K_feed.2.1 57 = .ok (.aload_n 0, 1) := by decide +kernel
theorem d_K_feed_58 : decode mt_K_feed.2.1 58 = .ok (.getfield 59, 3) := by decide +kernel
theorem d_K_feed_61 : decode mt_K_feed.2.1 61 = .ok (.getfield 145, 3) := by decide +kernel
theorem d_K_feed_64 : decode mt_K_feed.2.1 64 = .ok (.ireturn, 1) := by decide +kernel
theorem d_Ta_take_0 : decode mt_Ta_take.2.1 0 = .ok (.bipush 24, 2) := by decide +kernel
theorem d_Ta_take_2 : decode mt_Ta_take.2.1 2 = .ok (.istore_n 2, 1) := by decide +kernel
theorem d_Ta_take_3 : decode mt_Ta_take.2.1 3 = .ok (.iload_n 2, 1) := by decide +kernel
theorem d_Ta_take_4 : decode mt_Ta_take.2.1 4 = .ok (.ifCond .lt 45, 3) := by decide +kernel
theorem d_Ta_take_7 : decode mt_Ta_take.2.1 7 = .ok (.aload_n 0, 1) := by decide +kernel
theorem d_Ta_take_8 : decode mt_Ta_take.2.1 8 = .ok (.getfield 15, 3) := by decide +kernel
theorem d_Ta_take_11 : decode mt_Ta_take.2.1 11 = .ok (.sipush 500, 3) := by decide +kernel
theorem d_Ta_take_14 : decode mt_Ta_take.2.1 14 = .ok (.if_icmp .ge 29, 3) := by decide +kernel
theorem d_Ta_take_17 : decode mt_Ta_take.2.1 17 = .ok (.aload_n 0, 1) := by decide +kernel
theorem d_Ta_take_18 : decode mt_Ta_take.2.1 18 = .ok (.getfield 9, 3) := by decide +kernel
theorem d_Ta_take_21 : decode mt_Ta_take.2.1 21 = .ok (.aload_n 0, 1) := by decide +kernel
theorem d_Ta_take_22 : decode mt_Ta_take.2.1 22 = .ok (.getfield 15, 3) := by decide +kernel
theorem d_Ta_take_25 : decode mt_Ta_take.2.1 25 = .ok (.iload_n 1, 1) := by decide +kernel
theorem d_Ta_take_26 : decode mt_Ta_take.2.1 26 = .ok (.iload_n 2, 1) := by decide +kernel
theorem d_Ta_take_27 : decode mt_Ta_take.2.1 27 = .ok (.iushr, 1) := by decide +kernel
theorem d_Ta_take_28 : decode mt_Ta_take.2.1 28 = .ok (.sipush 255, 3) := by decide +kernel
theorem d_Ta_take_31 : decode mt_Ta_take.2.1 31 = .ok (.iand, 1) := by decide +kernel
theorem d_Ta_take_32 : decode mt_Ta_take.2.1 32 = .ok (.iastore, 1) := by decide +kernel
theorem d_Ta_take_33 : decode mt_Ta_take.2.1 33 = .ok (.aload_n 0, 1) := by decide +kernel
theorem d_Ta_take_34 : decode mt_Ta_take.2.1 34 = .ok (.dup, 1) := by decide +kernel
theorem d_Ta_take_35 : decode mt_Ta_take.2.1 35 = .ok (.getfield 15, 3) := by decide +kernel
theorem d_Ta_take_38 : decode mt_Ta_take.2.1 38 = .ok (.iconst 1, 1) := by decide +kernel
theorem d_Ta_take_39 : decode mt_Ta_take.2.1 39 = .ok (.iadd, 1) := by decide +kernel
theorem d_Ta_take_40 : decode mt_Ta_take.2.1 40 = .ok (.putfield 15, 3) := by decide +kernel
theorem d_Ta_take_43 : decode mt_Ta_take.2.1 43 = .ok (.iinc 2 (-8), 3) := by decide +kernel
theorem d_Ta_take_46 : decode mt_Ta_take.2.1 46 = .ok (.goto (-43), 3) := by decide +kernel
theorem d_Ta_take_49 : decode mt_Ta_take.2.1 49 = .ok (.return_, 1) := by decide +kernel
theorem d_K_end_0 : decode mt_K_end.2.1 0 = .ok (.iload_n 1, 1) := by decide +kernel
theorem d_K_end_1 : decode mt_K_end.2.1 1 = .ok (.aload_n 0, 1) := by decide +kernel
theorem d_K_end_2 : decode mt_K_end.2.1 2 = .ok (.getfield 59, 3) := by decide +kernel
theorem d_K_end_5 : decode mt_K_end.2.1 5 = .ok (.getfield 145, 3) := by decide +kernel
theorem d_K_end_8 : decode mt_K_end.2.1 8 = .ok (.invokestatic 87, 3) := by decide +kernel
theorem d_K_end_11 : decode mt_K_end.2.1 11 = .ok (.ifCond .ne 5, 3) := by decide +kernel
theorem d_K_end_14 : decode mt_K_end.2.1 14 = .ok (.iconst (-1), 1) := by decide +kernel
theorem d_K_end_15 : decode mt_K_end.2.1 15 = .ok (.ireturn, 1) := by decide +kernel
theorem d_K_end_16 : decode mt_K_end.2.1 16 = .ok (.aload_n 0, 1) := by decide +kernel
theorem d_K_end_17 : decode mt_K_end.2.1 17 = .ok (.getfield 59, 3) := by decide +kernel
theorem d_K_end_20 : decode mt_K_end.2.1 20 = .ok (.iload_n 1, 1) := by decide +kernel
theorem d_K_end_21 : decode mt_K_end.2.1 21 = .ok (.putfield 145, 3) := by decide +kernel
theorem d_K_end_24 : decode mt_K_end.2.1 24 = .ok (.iload_n 1, 1) := by decide +kernel
theorem d_K_end_25 : decode mt_K_end.2.1 25 = .ok (.ireturn, 1) := by decide +kernel
theorem d_K_orders_0 : decode mt_K_orders.2.1 0 = .ok (.aload_n 0, 1) := by decide +kernel
theorem d_K_orders_1 : decode mt_K_orders.2.1 1 = .ok (.getfield 66, 3) := by decide +kernel
theorem d_K_orders_4 : decode mt_K_orders.2.1 4 = .ok (.aload_n 0, 1) := by decide +kernel
theorem d_K_orders_5 : decode mt_K_orders.2.1 5 = .ok (.getfield 59, 3) := by decide +kernel
theorem d_K_orders_8 : decode mt_K_orders.2.1 8 = .ok (.aload_n 0, 1) := by decide +kernel
theorem d_K_orders_9 : decode mt_K_orders.2.1 9 = .ok (.getfield 84, 3) := by decide +kernel
theorem d_K_orders_12 : decode mt_K_orders.2.1 12 = .ok (.invokevirtual 151, 3) := by decide +kernel
theorem d_K_orders_15 : decode mt_K_orders.2.1 15 = .ok (.istore_n 1, 1) := by decide +kernel
theorem d_K_orders_16 : decode mt_K_orders.2.1 16 = .ok (.aload_n 0, 1) := by decide +kernel
theorem d_K_orders_17 : decode mt_K_orders.2.1 17 = .ok (.getfield 59, 3) := by decide +kernel
theorem d_K_orders_20 : decode mt_K_orders.2.1 20 = .ok (.iconst 0, 1) := by decide +kernel
theorem d_K_orders_21 : decode mt_K_orders.2.1 21 = .ok (.putfield 145, 3) := by decide +kernel
theorem d_K_orders_24 : decode mt_K_orders.2.1 24 = .ok (.iload_n 1, 1) := by decide +kernel
theorem d_K_orders_25 : decode mt_K_orders.2.1 25 = .ok (.ifCond .ne 5, 3) := by decide +kernel
theorem d_K_orders_28 : decode mt_K_orders.2.1 28 = .ok (.iconst (-1), 1) := by decide +kernel
theorem d_K_orders_29 : decode mt_K_orders.2.1 29 = .ok (.ireturn, 1) := by decide +kernel
theorem d_K_orders_30 : decode mt_K_orders.2.1 30 = .ok (.aload_n 0, 1) := by decide +kernel
theorem d_K_orders_31 : decode mt_K_orders.2.1 31 = .ok (.getfield 80, 3) := by decide +kernel
theorem d_K_orders_34 : decode mt_K_orders.2.1 34 = .ok (.astore_n 2, 1) := by decide +kernel
theorem d_K_orders_35 : decode mt_K_orders.2.1 35 = .ok (.aload_n 0, 1) := by decide +kernel
theorem d_K_orders_36 : decode mt_K_orders.2.1 36 = .ok (.aload_n 0, 1) := by decide +kernel
theorem d_K_orders_37 : decode mt_K_orders.2.1 37 = .ok (.getfield 84, 3) := by decide +kernel
theorem d_K_orders_40 : decode mt_K_orders.2.1 40 = .ok (.putfield 80, 3) := by decide +kernel
theorem d_K_orders_43 : decode mt_K_orders.2.1 43 = .ok (.aload_n 0, 1) := by decide +kernel
theorem d_K_orders_44 : decode mt_K_orders.2.1 44 = .ok (.aload_n 2, 1) := by decide +kernel
theorem d_K_orders_45 : decode mt_K_orders.2.1 45 = .ok (.putfield 84, 3) := by decide +kernel
theorem d_K_orders_48 : decode mt_K_orders.2.1 48 = .ok (.aload_n 0, 1) := by decide +kernel
theorem d_K_orders_49 : decode mt_K_orders.2.1 49 = .ok (.getfield 80, 3) := by decide +kernel
theorem d_K_orders_52 : decode mt_K_orders.2.1 52 = .ok (.getfield 155, 3) := by decide +kernel
theorem d_K_orders_55 : decode mt_K_orders.2.1 55 = .ok (.ireturn, 1) := by decide +kernel
theorem d_Re_read_0 : decode mt_Re_read.2.1 0 = .ok (.aload_n 0, 1) := by decide +kernel
theorem d_Re_read_1 : decode mt_Re_read.2.1 1 = .ok (.getfield 12, 3) := by decide +kernel
theorem d_Re_read_4 : decode mt_Re_read.2.1 4 = .ok (.aload_n 1, 1) := by decide +kernel
theorem d_Re_read_5 : decode mt_Re_read.2.1 5 = .ok (.invokevirtual 25, 3) := by decide +kernel
theorem d_Re_read_8 : decode mt_Re_read.2.1 8 = .ok (.aload_n 0, 1) := by decide +kernel
theorem d_Re_read_9 : decode mt_Re_read.2.1 9 = .ok (.iconst 0, 1) := by decide +kernel
theorem d_Re_read_10 : decode mt_Re_read.2.1 10 = .ok (.putfield 29, 3) := by decide +kernel
theorem d_Re_read_13 : decode mt_Re_read.2.1 13 = .ok (.aload_n 0, 1) := by decide +kernel
theorem d_Re_read_14 : decode mt_Re_read.2.1 14 = .ok (.invokevirtual 32, 3) := by decide +kernel
theorem d_Re_read_17 : decode mt_Re_read.2.1 17 = .ok (.aload_n 0, 1) := by decide +kernel
theorem d_Re_read_18 : decode mt_Re_read.2.1 18 = .ok (.iconst 0, 1) := by decide +kernel
theorem d_Re_read_19 : decode mt_Re_read.2.1 19 = .ok (.putfield 35, 3) := by decide +kernel
theorem d_Re_read_22 : decode mt_Re_read.2.1 22 = .ok (.aload_n 0, 1) := by decide +kernel
theorem d_Re_read_23 : decode mt_Re_read.2.1 23 = .ok (.iconst 0, 1) := by decide +kernel
theorem d_Re_read_24 : decode mt_Re_read.2.1 24 = .ok (.putfield 18, 3) := by decide +kernel
theorem d_Re_read_27 : decode mt_Re_read.2.1 27 = .ok (.aload_n 0, 1) := by decide +kernel
theorem d_Re_read_28 : decode mt_Re_read.2.1 28 = .ok (.iconst (-1), 1) := by decide +kernel
theorem d_Re_read_29 : decode mt_Re_read.2.1 29 = .ok (.putfield 22, 3) := by decide +kernel
theorem d_Re_read_32 : decode mt_Re_read.2.1 32 = .ok (.aload_n 2, 1) := by decide +kernel
theorem d_Re_read_33 : decode mt_Re_read.2.1 33 = .ok (.invokevirtual 38, 3) := by decide +kernel
theorem d_Re_read_36 : decode mt_Re_read.2.1 36 = .ok (.iconst 0, 1) := by decide +kernel
theorem d_Re_read_37 : decode mt_Re_read.2.1 37 = .ok (.istore_n 3, 1) := by decide +kernel
theorem d_Re_read_38 : decode mt_Re_read.2.1 38 = .ok (.iload_n 3, 1) := by decide +kernel
theorem d_Re_read_39 : decode mt_Re_read.2.1 39 = .ok (.bipush 8, 2) := by decide +kernel
theorem d_Re_read_41 : decode mt_Re_read.2.1 41 = .ok (.if_icmp .ge 29, 3) := by decide +kernel
theorem d_Re_read_44 : decode mt_Re_read.2.1 44 = .ok (.aload_n 0, 1) := by decide +kernel
theorem d_Re_read_45 : decode mt_Re_read.2.1 45 = .ok (.getfield 43, 3) := by decide +kernel
theorem d_Re_read_48 : decode mt_Re_read.2.1 48 = .ok (.sipush 301, 3) := by decide +kernel
theorem d_Re_read_51 : decode mt_Re_read.2.1 51 = .ok (.if_icmp .eq 19, 3) := by decide +kernel
theorem d_Re_read_54 : decode mt_Re_read.2.1 54 = .ok (.aload_n 0, 1) := by decide +kernel
theorem d_Re_read_55 : decode mt_Re_read.2.1 55 = .ok (.aload_n 2, 1) := by decide +kernel
theorem d_Re_read_56 : decode mt_Re_read.2.1 56 = .ok (.invokevirtual 46, 3) := by decide +kernel
theorem d_Re_read_59 : decode mt_Re_read.2.1 59 = .ok (.ifCond .ne 5, 3) := by decide +kernel
theorem d_Re_read_62 : decode mt_Re_read.2.1 62 = .ok (.iconst 0, 1) := by decide +kernel
theorem d_Re_read_63 : decode mt_Re_read.2.1 63 = .ok (.ireturn, 1) := by decide +kernel
theorem d_Re_read_64 : decode mt_Re_read.2.1 64 = .ok (.iinc 3 1, 3) := by decide +kernel
theorem d_Re_read_67 : decode mt_Re_read.2.1 67 = .ok (.goto (-29), 3) := by decide +kernel
theorem d_Re_read_70 : decode mt_Re_read.2.1 70 = .ok (.aload_n 0, 1) := by decide +kernel
theorem d_Re_read_71 : decode mt_Re_read.2.1 71 = .ok (.getfield 43, 3) := by decide +kernel
theorem d_Re_read_74 : decode mt_Re_read.2.1 74 = .ok (.sipush 301, 3) := by decide +kernel
theorem d_Re_read_77 : decode mt_Re_read.2.1 77 = .ok (.if_icmp .eq 11, 3) := by decide +kernel
theorem d_Re_read_80 : decode mt_Re_read.2.1 80 = .ok (.aload_n 0, 1) := by decide +kernel
theorem d_Re_read_81 : decode mt_Re_read.2.1 81 = .ok (.iconst 2, 1) := by decide +kernel
theorem d_Re_read_82 : decode mt_Re_read.2.1 82 = .ok (.invokevirtual 50, 3) := by decide +kernel
theorem d_Re_read_85 : decode mt_Re_read.2.1 85 = .ok (.ifCond .eq 7, 3) := by decide +kernel
theorem d_Re_read_88 : decode mt_Re_read.2.1 88 = .ok (.iconst 1, 1) := by decide +kernel
theorem d_Re_read_89 : decode mt_Re_read.2.1 89 = .ok (.goto 4, 3) := by decide +kernel
theorem d_Re_read_92 : decode mt_Re_read.2.1 92 = .ok (.iconst 0, 1) := by decide +kernel
theorem d_Re_read_93 : decode mt_Re_read.2.1 93 = .ok (.ireturn, 1) := by decide +kernel
theorem d_To_cut_0 : decode mt_To_cut.2.1 0 = .ok (.iconst 0, 1) := by decide +kernel
theorem d_To_cut_1 : decode mt_To_cut.2.1 1 = .ok (.istore_n 2, 1) := by decide +kernel
theorem d_To_cut_2 : decode mt_To_cut.2.1 2 = .ok (.aload_n 0, 1) := by decide +kernel
theorem d_To_cut_3 : decode mt_To_cut.2.1 3 = .ok (.iconst 0, 1) := by decide +kernel
theorem d_To_cut_4 : decode mt_To_cut.2.1 4 = .ok (.putfield 21, 3) := by decide +kernel
theorem d_To_cut_7 : decode mt_To_cut.2.1 7 = .ok (.iconst 0, 1) := by decide +kernel
theorem d_To_cut_8 : decode mt_To_cut.2.1 8 = .ok (.istore_n 3, 1) := by decide +kernel
theorem d_To_cut_9 : decode mt_To_cut.2.1 9 = .ok (.iload_n 3, 1) := by decide +kernel
theorem d_To_cut_10 : decode mt_To_cut.2.1 10 = .ok (.sipush 500, 3) := by decide +kernel
theorem d_To_cut_13 : decode mt_To_cut.2.1 13 = .ok (.if_icmp .gt 92, 3) := by decide +kernel
theorem d_To_cut_16 : decode mt_To_cut.2.1 16 = .ok (.aload_n 1, 1) := by decide +kernel
theorem d_To_cut_17 : decode mt_To_cut.2.1 17 = .ok (.iload_n 2, 1) := by decide +kernel
theorem d_To_cut_18 : decode mt_To_cut.2.1 18 = .ok (.invokestatic 25, 3) := by decide +kernel
theorem d_To_cut_21 : decode mt_To_cut.2.1 21 = .ok (.istore_n 2, 1) := by decide +kernel
theorem d_To_cut_22 : decode mt_To_cut.2.1 22 = .ok (.aload_n 1, 1) := by decide +kernel
theorem d_To_cut_23 : decode mt_To_cut.2.1 23 = .ok (.iload_n 2, 1) := by decide +kernel
theorem d_To_cut_24 : decode mt_To_cut.2.1 24 = .ok (.invokestatic 29, 3) := by decide +kernel
theorem d_To_cut_27 : decode mt_To_cut.2.1 27 = .ok (.istore 4, 2) := by decide +kernel
theorem d_To_cut_29 : decode mt_To_cut.2.1 29 = .ok (.aload_n 0, 1) := by decide +kernel
theorem d_To_cut_30 : decode mt_To_cut.2.1 30 = .ok (.getfield 9, 3) := by decide +kernel
theorem d_To_cut_33 : decode mt_To_cut.2.1 33 = .ok (.iload_n 3, 1) := by decide +kernel
theorem d_To_cut_34 : decode mt_To_cut.2.1 34 = .ok (.iload 4, 2) := by decide +kernel
theorem d_To_cut_36 : decode mt_To_cut.2.1 36 = .ok (.iastore, 1) := by decide +kernel
theorem d_To_cut_37 : decode mt_To_cut.2.1 37 = .ok (.aload_n 0, 1) := by decide +kernel
theorem d_To_cut_38 : decode mt_To_cut.2.1 38 = .ok (.getfield 15, 3) := by decide +kernel
theorem d_To_cut_41 : decode mt_To_cut.2.1 41 = .ok (.iload_n 3, 1) := by decide +kernel
theorem d_To_cut_42 : decode mt_To_cut.2.1 42 = .ok (.iload_n 2, 1) := by decide +kernel
theorem d_To_cut_43 : decode mt_To_cut.2.1 43 = .ok (.iastore, 1) := by decide +kernel
theorem d_To_cut_44 : decode mt_To_cut.2.1 44 = .ok (.aload_n 0, 1) := by decide +kernel
theorem d_To_cut_45 : decode mt_To_cut.2.1 45 = .ok (.getfield 18, 3) := by decide +kernel
theorem d_To_cut_48 : decode mt_To_cut.2.1 48 = .ok (.iload_n 3, 1) := by decide +kernel
theorem d_To_cut_49 : decode mt_To_cut.2.1 49 = .ok (.iload 4, 2) := by decide +kernel
theorem d_To_cut_51 : decode mt_To_cut.2.1 51 = .ok (.sipush 302, 3) := by decide +kernel
theorem d_To_cut_54 : decode mt_To_cut.2.1 54 = .ok (.if_icmp .ne 11, 3) := by decide +kernel
theorem d_To_cut_57 : decode mt_To_cut.2.1 57 = .ok (.aload_n 1, 1) := by decide +kernel
theorem d_To_cut_58 : decode mt_To_cut.2.1 58 = .ok (.iload_n 2, 1) := by decide +kernel
theorem d_To_cut_59 : decode mt_To_cut.2.1 59 = .ok (.invokestatic 32, 3) := by decide +kernel
theorem d_To_cut_62 : decode mt_To_cut.2.1 62 = .ok (.goto 4, 3) := by decide +kernel
theorem d_To_cut_65 : decode mt_To_cut.2.1 65 = .ok (.iconst 0, 1) := by decide +kernel
theorem d_To_cut_66 : decode mt_To_cut.2.1 66 = .ok (.iastore, 1) := by decide +kernel
theorem d_To_cut_67 : decode mt_To_cut.2.1 67 = .ok (.aload_n 0, 1) := by decide +kernel
theorem d_To_cut_68 : decode mt_To_cut.2.1 68 = .ok (.iload_n 3, 1) := by decide +kernel
theorem d_To_cut_69 : decode mt_To_cut.2.1 69 = .ok (.iconst 1, 1) := by decide +kernel
theorem d_To_cut_70 : decode mt_To_cut.2.1 70 = .ok (.iadd, 1) := by decide +kernel
theorem d_To_cut_71 : decode mt_To_cut.2.1 71 = .ok (.putfield 21, 3) := by decide +kernel
theorem d_To_cut_74 : decode mt_To_cut.2.1 74 = .ok (.iload 4, 2) := by decide +kernel
theorem d_To_cut_76 : decode mt_To_cut.2.1 76 = .ok (.sipush 301, 3) := by decide +kernel
theorem d_To_cut_79 : decode mt_To_cut.2.1 79 = .ok (.if_icmp .eq 11, 3) := by decide +kernel
theorem d_To_cut_82 : decode mt_To_cut.2.1 82 = .ok (.iload 4, 2) := by decide +kernel
theorem d_To_cut_84 : decode mt_To_cut.2.1 84 = .ok (.sipush 300, 3) := by decide +kernel
theorem d_To_cut_87 : decode mt_To_cut.2.1 87 = .ok (.if_icmp .ne 4, 3) := by decide +kernel
theorem d_To_cut_90 : decode mt_To_cut.2.1 90 = .ok (.return_, 1) := by decide +kernel
theorem d_To_cut_91 : decode mt_To_cut.2.1 91 = .ok (.iload_n 2, 1) := by decide +kernel
theorem d_To_cut_92 : decode mt_To_cut.2.1 92 = .ok (.aload_n 1, 1) := by decide +kernel
theorem d_To_cut_93 : decode mt_To_cut.2.1 93 = .ok (.iload_n 2, 1) := by decide +kernel
theorem d_To_cut_94 : decode mt_To_cut.2.1 94 = .ok (.invokestatic 35, 3) := by decide +kernel
theorem d_To_cut_97 : decode mt_To_cut.2.1 97 = .ok (.iadd, 1) := by decide +kernel
theorem d_To_cut_98 : decode mt_To_cut.2.1 98 = .ok (.istore_n 2, 1) := by decide +kernel
theorem d_To_cut_99 : decode mt_To_cut.2.1 99 = .ok (.iinc 3 1, 3) := by decide +kernel
theorem d_To_cut_102 : decode mt_To_cut.2.1 102 = .ok (.goto (-93), 3) := by decide +kernel
theorem d_To_cut_105 : decode mt_To_cut.2.1 105 = .ok (.return_, 1) := by decide +kernel
theorem d_To_behindBlanks_0 : decode mt_To_behindBlanks.2.1 0 = .ok (.iload_n 1, 1) := by decide +kernel
theorem d_To_behindBlanks_1 : decode mt_To_behindBlanks.2.1 1 = .ok (.istore_n 2, 1) := by decide +kernel
theorem d_To_behindBlanks_2 : decode mt_To_behindBlanks.2.1 2 = .ok (.iload_n 2, 1) := by decide +kernel
theorem d_To_behindBlanks_3 : decode mt_To_behindBlanks.2.1 3 = .ok (.aload_n 0, 1) := by decide +kernel
theorem d_To_behindBlanks_4 : decode mt_To_behindBlanks.2.1 4 = .ok (.getfield 38, 3) := by decide +kernel
theorem d_To_behindBlanks_7 : decode mt_To_behindBlanks.2.1 7 = .ok (.if_icmp .ge 29, 3) := by decide +kernel
theorem d_To_behindBlanks_10 : decode mt_To_behindBlanks.2.1 10 = .ok (.aload_n 0, 1) := by decide +kernel
theorem d_To_behindBlanks_11 : decode mt_To_behindBlanks.2.1 11 = .ok (.iload_n 2, 1) := by decide +kernel
theorem d_To_behindBlanks_12 : decode mt_To_behindBlanks.2.1 12 = .ok (.invokevirtual 43, 3) := by decide +kernel
theorem d_To_behindBlanks_15 : decode mt_To_behindBlanks.2.1 15 = .ok (.bipush 32, 2) := by decide +kernel
theorem d_To_behindBlanks_17 : decode mt_To_behindBlanks.2.1 17 = .ok (.if_icmp .eq 13, 3) := by decide +kernel
theorem d_To_behindBlanks_20 : decode mt_To_behindBlanks.2.1 20 = .ok (.aload_n 0, 1) := by decide +kernel
theorem d_To_behindBlanks_21 : decode mt_To_behindBlanks.2.1 21 = .ok (.iload_n 2, 1) := by decide +kernel
theorem d_To_behindBlanks_22 : decode mt_To_behindBlanks.2.1 22 = .ok (.invokevirtual 43, 3) := by decide +kernel
theorem d_To_behindBlanks_25 : decode mt_To_behindBlanks.2.1 25 = .ok (.bipush 10, 2) := by decide +kernel
theorem d_To_behindBlanks_27 : decode mt_To_behindBlanks.2.1 27 = .ok (.if_icmp .ne 9, 3) := by decide +kernel
theorem d_To_behindBlanks_30 : decode mt_To_behindBlanks.2.1 30 = .ok (.iinc 2 1, 3) := by decide +kernel
theorem d_To_behindBlanks_33 : decode mt_To_behindBlanks.2.1 33 = .ok (.goto (-31), 3) := by decide +kernel
theorem d_To_behindBlanks_36 : decode mt_To_behindBlanks.2.1 36 = .ok (.iload_n 2, 1) := by decide +kernel
theorem d_To_behindBlanks_37 : decode mt_To_behindBlanks.2.1 37 = .ok (.ireturn, 1) := by decide +kernel
theorem d_Ta_byteAt_0 : decode mt_Ta_byteAt.2.1 0 = .ok (.iload_n 1, 1) := by decide +kernel
theorem d_Ta_byteAt_1 : decode mt_Ta_byteAt.2.1 1 = .ok (.ifCond .lt 20, 3) := by decide +kernel
theorem d_Ta_byteAt_4 : decode mt_Ta_byteAt.2.1 4 = .ok (.iload_n 1, 1) := by decide +kernel
theorem d_Ta_byteAt_5 : decode mt_Ta_byteAt.2.1 5 = .ok (.aload_n 0, 1) := by decide +kernel
theorem d_Ta_byteAt_6 : decode mt_Ta_byteAt.2.1 6 = .ok (.getfield 15, 3) := by decide +kernel
theorem d_Ta_byteAt_9 : decode mt_Ta_byteAt.2.1 9 = .ok (.if_icmp .ge 12, 3) := by decide +kernel
theorem d_Ta_byteAt_12 : decode mt_Ta_byteAt.2.1 12 = .ok (.aload_n 0, 1) := by decide +kernel
theorem d_Ta_byteAt_13 : decode mt_Ta_byteAt.2.1 13 = .ok (.getfield 9, 3) := by decide +kernel
theorem d_Ta_byteAt_16 : decode mt_Ta_byteAt.2.1 16 = .ok (.iload_n 1, 1) := by decide +kernel
theorem d_Ta_byteAt_17 : decode mt_Ta_byteAt.2.1 17 = .ok (.iaload, 1) := by decide +kernel
theorem d_Ta_byteAt_18 : decode mt_Ta_byteAt.2.1 18 = .ok (.goto 4, 3) := by decide +kernel
theorem d_Ta_byteAt_21 : decode mt_Ta_byteAt.2.1 21 = .ok (.iconst (-1), 1) := by decide +kernel
theorem d_Ta_byteAt_22 : decode mt_Ta_byteAt.2.1 22 = .ok (.ireturn, 1) := by decide +kernel
theorem d_To_kindOf_0 : decode mt_To_kindOf.2.1 0 = .ok (.aload_n 0, 1) := by decide +kernel
theorem d_To_kindOf_1 : decode mt_To_kindOf.2.1 1 = .ok (.iload_n 1, 1) := by decide +kernel
theorem d_To_kindOf_2 : decode mt_To_kindOf.2.1 2 = .ok (.invokevirtual 43, 3) := by decide +kernel
theorem d_To_kindOf_5 : decode mt_To_kindOf.2.1 5 = .ok (.istore_n 2, 1) := by decide +kernel
theorem d_To_kindOf_6 : decode mt_To_kindOf.2.1 6 = .ok (.iload_n 2, 1) := by decide +kernel
theorem d_To_kindOf_7 : decode mt_To_kindOf.2.1 7 = .ok (.iconst (-1), 1) := by decide +kernel
theorem d_To_kindOf_8 : decode mt_To_kindOf.2.1 8 = .ok (.if_icmp .ne 7, 3) := by decide +kernel
theorem d_To_kindOf_11 : decode mt_To_kindOf.2.1 11 = .ok (.sipush 301, 3) := by decide +kernel
theorem d_To_kindOf_14 : decode mt_To_kindOf.2.1 14 = .ok (.ireturn, 1) := by decide +kernel
theorem d_To_kindOf_15 : decode mt_To_kindOf.2.1 15 = .ok (.aload_n 0, 1) := by decide +kernel
theorem d_To_kindOf_16 : decode mt_To_kindOf.2.1 16 = .ok (.iload_n 1, 1) := by decide +kernel
theorem d_To_kindOf_17 : decode mt_To_kindOf.2.1 17 = .ok (.invokestatic 35, 3) := by decide +kernel
theorem d_To_kindOf_20 : decode mt_To_kindOf.2.1 20 = .ok (.istore_n 3, 1) := by decide +kernel
theorem d_To_kindOf_21 : decode mt_To_kindOf.2.1 21 = .ok (.iload_n 2, 1) := by decide +kernel
theorem d_To_kindOf_22 : decode mt_To_kindOf.2.1 22 = .ok (.invokestatic 47, 3) := by decide +kernel
theorem d_To_kindOf_25 : decode mt_To_kindOf.2.1 25 = .ok (.ifCond .eq 22, 3) := by decide +kernel
theorem d_To_kindOf_28 : decode mt_To_kindOf.2.1 28 = .ok (.iload_n 3, 1) := by decide +kernel
theorem d_To_kindOf_29 : decode mt_To_kindOf.2.1 29 = .ok (.bipush 8, 2) := by decide +kernel
theorem d_To_kindOf_31 : decode mt_To_kindOf.2.1 31 = .ok (.if_icmp .le 9, 3) := by decide +kernel
theorem d_To_kindOf_34 : decode mt_To_kindOf.2.1 34 = .ok (.sipush 300, 3) := by decide +kernel
theorem d_To_kindOf_37 : decode mt_To_kindOf.2.1 37 = .ok (.goto 9, 3) := by decide +kernel
theorem d_To_kindOf_40 : decode mt_To_kindOf.2.1 40 = .ok (.aload_n 0, 1) := by decide +kernel
theorem d_To_kindOf_41 : decode mt_To_kindOf.2.1 41 = .ok (.iload_n 1, 1) := by decide +kernel
theorem d_To_kindOf_42 : decode mt_To_kindOf.2.1 42 = .ok (.iload_n 3, 1) := by decide +kernel
theorem d_To_kindOf_43 : decode mt_To_kindOf.2.1 43 = .ok (.invokestatic 51, 3) := by decide +kernel
theorem d_To_kindOf_46 : decode mt_To_kindOf.2.1 46 = .ok (.ireturn, 1) := by decide +kernel
theorem d_To_kindOf_47 : decode mt_To_kindOf.2.1 47 = .ok (.iload_n 2, 1) := by decide +kernel
theorem d_To_kindOf_48 : decode mt_To_kindOf.2.1 48 = .ok (.invokestatic 55, 3) := by decide +kernel
theorem d_To_kindOf_51 : decode mt_To_kindOf.2.1 51 = .ok (.ifCond .eq 32, 3) := by decide +kernel
theorem d_To_kindOf_54 : decode mt_To_kindOf.2.1 54 = .ok (.iload_n 3, 1) := by decide +kernel
theorem d_To_kindOf_55 : decode mt_To_kindOf.2.1 55 = .ok (.bipush 6, 2) := by decide +kernel
theorem d_To_kindOf_57 : decode mt_To_kindOf.2.1 57 = .ok (.if_icmp .gt 16, 3) := by decide +kernel
theorem d_To_kindOf_60 : decode mt_To_kindOf.2.1 60 = .ok (.aload_n 0, 1) := by decide +kernel
theorem d_To_kindOf_61 : decode mt_To_kindOf.2.1 61 = .ok (.iload_n 1, 1) := by decide +kernel
theorem d_To_kindOf_62 : decode mt_To_kindOf.2.1 62 = .ok (.iload_n 3, 1) := by decide +kernel
theorem d_To_kindOf_63 : decode mt_To_kindOf.2.1 63 = .ok (.iadd, 1) := by decide +kernel
theorem d_To_kindOf_64 : decode mt_To_kindOf.2.1 64 = .ok (.invokevirtual 43, 3) := by decide +kernel
theorem d_To_kindOf_67 : decode mt_To_kindOf.2.1 67 = .ok (.invokestatic 47, 3) := by decide +kernel
theorem d_To_kindOf_70 : decode mt_To_kindOf.2.1 70 = .ok (.ifCond .eq 9, 3) := by decide +kernel
theorem d_To_kindOf_73 : decode mt_To_kindOf.2.1 73 = .ok (.sipush 300, 3) := by decide +kernel
theorem d_To_kindOf_76 : decode mt_To_kindOf.2.1 76 = .ok (.goto 6, 3) := by decide +kernel
theorem d_To_kindOf_79 : decode mt_To_kindOf.2.1 79 = .ok (.sipush 302, 3) := by decide +kernel
theorem d_To_kindOf_82 : decode mt_To_kindOf.2.1 82 = .ok (.ireturn, 1) := by decide +kernel
theorem d_To_kindOf_83 : decode mt_To_kindOf.2.1 83 = .ok (.iload_n 2, 1) := by decide +kernel
theorem d_To_kindOf_84 : decode mt_To_kindOf.2.1 84 = .ok (.invokestatic 58, 3) := by decide +kernel
theorem d_To_kindOf_87 : decode mt_To_kindOf.2.1 87 = .ok (.ifCond .eq 7, 3) := by decide +kernel
theorem d_To_kindOf_90 : decode mt_To_kindOf.2.1 90 = .ok (.iload_n 2, 1) := by decide +kernel
theorem d_To_kindOf_91 : decode mt_To_kindOf.2.1 91 = .ok (.goto 6, 3) := by decide +kernel
theorem d_To_kindOf_94 : decode mt_To_kindOf.2.1 94 = .ok (.sipush 300, 3) := by decide +kernel
theorem d_To_kindOf_97 : decode mt_To_kindOf.2.1 97 = .ok (.ireturn, 1) := by decide +kernel
theorem d_To_lengthAt_0 : decode mt_To_lengthAt.2.1 0 = .ok (.aload_n 0, 1) := by decide +kernel
theorem d_To_lengthAt_1 : decode mt_To_lengthAt.2.1 1 = .ok (.iload_n 1, 1) := by decide +kernel
theorem d_To_lengthAt_2 : decode mt_To_lengthAt.2.1 2 = .ok (.invokevirtual 43, 3) := by decide +kernel
theorem d_To_lengthAt_5 : decode mt_To_lengthAt.2.1 5 = .ok (.istore_n 2, 1) := by decide +kernel
theorem d_To_lengthAt_6 : decode mt_To_lengthAt.2.1 6 = .ok (.iload_n 1, 1) := by decide +kernel
theorem d_To_lengthAt_7 : decode mt_To_lengthAt.2.1 7 = .ok (.iconst 1, 1) := by decide +kernel
theorem d_To_lengthAt_8 : decode mt_To_lengthAt.2.1 8 = .ok (.iadd, 1) := by decide +kernel
theorem d_To_lengthAt_9 : decode mt_To_lengthAt.2.1 9 = .ok (.istore_n 3, 1) := by decide +kernel
theorem d_To_lengthAt_10 : decode mt_To_lengthAt.2.1 10 = .ok (.iload_n 3, 1) := by decide +kernel
theorem d_To_lengthAt_11 : decode mt_To_lengthAt.2.1 11 = .ok (.aload_n 0, 1) := by decide +kernel
theorem d_To_lengthAt_12 : decode mt_To_lengthAt.2.1 12 = .ok (.getfield 38, 3) := by decide +kernel
theorem d_To_lengthAt_15 : decode mt_To_lengthAt.2.1 15 = .ok (.if_icmp .ge 21, 3) := by decide +kernel
theorem d_To_lengthAt_18 : decode mt_To_lengthAt.2.1 18 = .ok (.iload_n 2, 1) := by decide +kernel
theorem d_To_lengthAt_19 : decode mt_To_lengthAt.2.1 19 = .ok (.aload_n 0, 1) := by decide +kernel
theorem d_To_lengthAt_20 : decode mt_To_lengthAt.2.1 20 = .ok (.iload_n 3, 1) := by decide +kernel
theorem d_To_lengthAt_21 : decode mt_To_lengthAt.2.1 21 = .ok (.invokevirtual 43, 3) := by decide +kernel
theorem d_To_lengthAt_24 : decode mt_To_lengthAt.2.1 24 = .ok (.invokestatic 61, 3) := by decide +kernel
theorem d_To_lengthAt_27 : decode mt_To_lengthAt.2.1 27 = .ok (.ifCond .eq 9, 3) := by decide +kernel
theorem d_To_lengthAt_30 : decode mt_To_lengthAt.2.1 30 = .ok (.iinc 3 1, 3) := by decide +kernel
theorem d_To_lengthAt_33 : decode mt_To_lengthAt.2.1 33 = .ok (.goto (-23), 3) := by decide +kernel
theorem d_To_lengthAt_36 : decode mt_To_lengthAt.2.1 36 = .ok (.iload_n 3, 1) := by decide +kernel
theorem d_To_lengthAt_37 : decode mt_To_lengthAt.2.1 37 = .ok (.iload_n 1, 1) := by decide +kernel
theorem d_To_lengthAt_38 : decode mt_To_lengthAt.2.1 38 = .ok (.isub, 1) := by decide +kernel
theorem d_To_lengthAt_39 : decode mt_To_lengthAt.2.1 39 = .ok (.ireturn, 1) := by decide +kernel
theorem d_To_isSameSort_0 : decode mt_To_isSameSort.2.1 0 = .ok (.iload_n 0, 1) := by decide +kernel
theorem d_To_isSameSort_1 : decode mt_To_isSameSort.2.1 1 = .ok (.invokestatic 47, 3) := by decide +kernel
theorem d_To_isSameSort_4 : decode mt_To_isSameSort.2.1 4 = .ok (.ifCond .eq 10, 3) := by decide +kernel
theorem d_To_isSameSort_7 : decode mt_To_isSameSort.2.1 7 = .ok (.iload_n 1, 1) := by decide +kernel
theorem d_To_isSameSort_8 : decode mt_To_isSameSort.2.1 8 = .ok (.invokestatic 47, 3) := by decide +kernel
theorem d_To_isSameSort_11 : decode mt_To_isSameSort.2.1 11 = .ok (.ifCond .ne 17, 3) := by decide +kernel
theorem d_To_isSameSort_14 : decode mt_To_isSameSort.2.1 14 = .ok (.iload_n 0, 1) := by decide +kernel
theorem d_To_isSameSort_15 : decode mt_To_isSameSort.2.1 15 = .ok (.invokestatic 55, 3) := by decide +kernel
theorem d_To_isSameSort_18 : decode mt_To_isSameSort.2.1 18 = .ok (.ifCond .eq 14, 3) := by decide +kernel
theorem d_To_isSameSort_21 : decode mt_To_isSameSort.2.1 21 = .ok (.iload_n 1, 1) := by decide +kernel
theorem d_To_isSameSort_22 : decode mt_To_isSameSort.2.1 22 = .ok (.invokestatic 55, 3) := by decide +kernel
theorem d_To_isSameSort_25 : decode mt_To_isSameSort.2.1 25 = .ok (.ifCond .eq 7, 3) := by decide +kernel
theorem d_To_isSameSort_28 : decode mt_To_isSameSort.2.1 28 = .ok (.iconst 1, 1) := by decide +kernel
theorem d_To_isSameSort_29 : decode mt_To_isSameSort.2.1 29 = .ok (.goto 4, 3) := by decide +kernel
theorem d_To_isSameSort_32 : decode mt_To_isSameSort.2.1 32 = .ok (.iconst 0, 1) := by decide +kernel
theorem d_To_isSameSort_33 : decode mt_To_isSameSort.2.1 33 = .ok (.ireturn, 1) := by decide +kernel
theorem d_To_isLetter_0 : decode mt_To_isLetter.2.1 0 = .ok (.iload_n 0, 1) := by decide +kernel
theorem d_To_isLetter_1 : decode mt_To_isLetter.2.1 1 = .ok (.bipush 97, 2) := by decide +kernel
theorem d_To_isLetter_3 : decode mt_To_isLetter.2.1 3 = .ok (.if_icmp .lt 13, 3) := by decide +kernel
theorem d_To_isLetter_6 : decode mt_To_isLetter.2.1 6 = .ok (.iload_n 0, 1) := by decide +kernel
theorem d_To_isLetter_7 : decode mt_To_isLetter.2.1 7 = .ok (.bipush 122, 2) := by decide +kernel
theorem d_To_isLetter_9 : decode mt_To_isLetter.2.1 9 = .ok (.if_icmp .gt 7, 3) := by decide +kernel
theorem d_To_isLetter_12 : decode mt_To_isLetter.2.1 12 = .ok (.iconst 1, 1) := by decide +kernel
theorem d_To_isLetter_13 : decode mt_To_isLetter.2.1 13 = .ok (.goto 4, 3) := by decide +kernel
theorem d_To_isLetter_16 : decode mt_To_isLetter.2.1 16 = .ok (.iconst 0, 1) := by decide +kernel
theorem d_To_isLetter_17 : decode mt_To_isLetter.2.1 17 = .ok (.ireturn, 1) := by decide +kernel
theorem d_To_isDigit_0 : decode mt_To_isDigit.2.1 0 = .ok (.iload_n 0, 1) := by decide +kernel
theorem d_To_isDigit_1 : decode mt_To_isDigit.2.1 1 = .ok (.bipush 48, 2) := by decide +kernel
theorem d_To_isDigit_3 : decode mt_To_isDigit.2.1 3 = .ok (.if_icmp .lt 13, 3) := by decide +kernel
theorem d_To_isDigit_6 : decode mt_To_isDigit.2.1 6 = .ok (.iload_n 0, 1) := by decide +kernel
theorem d_To_isDigit_7 : decode mt_To_isDigit.2.1 7 = .ok (.bipush 57, 2) := by decide +kernel
theorem d_To_isDigit_9 : decode mt_To_isDigit.2.1 9 = .ok (.if_icmp .gt 7, 3) := by decide +kernel
theorem d_To_isDigit_12 : decode mt_To_isDigit.2.1 12 = .ok (.iconst 1, 1) := by decide +kernel
theorem d_To_isDigit_13 : decode mt_To_isDigit.2.1 13 = .ok (.goto 4, 3) := by decide +kernel
theorem d_To_isDigit_16 : decode mt_To_isDigit.2.1 16 = .ok (.iconst 0, 1) := by decide +kernel
theorem d_To_isDigit_17 : decode mt_To_isDigit.2.1 17 = .ok (.ireturn, 1) := by decide +kernel
theorem d_To_wordAt_0 : decode mt_To_wordAt.2.1 0 = .ok (.iconst 0, 1) := by decide +kernel
theorem d_To_wordAt_1 : decode mt_To_wordAt.2.1 1 = .ok (.istore_n 3, 1) := by decide +kernel
theorem d_To_wordAt_2 : decode mt_To_wordAt.2.1 2 = .ok (.iload_n 3, 1) := by decide +kernel
theorem d_To_wordAt_3 : decode mt_To_wordAt.2.1 3 = .ok (.bipush 18, 2) := by decide +kernel
theorem d_To_wordAt_5 : decode mt_To_wordAt.2.1 5 = .ok (.if_icmp .ge 21, 3) := by decide +kernel
theorem d_To_wordAt_8 : decode mt_To_wordAt.2.1 8 = .ok (.iload_n 3, 1) := by decide +kernel
theorem d_To_wordAt_9 : decode mt_To_wordAt.2.1 9 = .ok (.aload_n 0, 1) := by decide +kernel
theorem d_To_wordAt_10 : decode mt_To_wordAt.2.1 10 = .ok (.iload_n 1, 1) := by decide +kernel
theorem d_To_wordAt_11 : decode mt_To_wordAt.2.1 11 = .ok (.iload_n 2, 1) := by decide +kernel
theorem d_To_wordAt_12 : decode mt_To_wordAt.2.1 12 = .ok (.invokestatic 65, 3) := by decide +kernel
theorem d_To_wordAt_15 : decode mt_To_wordAt.2.1 15 = .ok (.ifCond .eq 5, 3) := by decide +kernel
theorem d_To_wordAt_18 : decode mt_To_wordAt.2.1 18 = .ok (.iload_n 3, 1) := by decide +kernel
theorem d_To_wordAt_19 : decode mt_To_wordAt.2.1 19 = .ok (.ireturn, 1) := by decide +kernel
theorem d_To_wordAt_20 : decode mt_To_wordAt.2.1 20 = .ok (.iinc 3 1, 3) := by decide +kernel
theorem d_To_wordAt_23 : decode mt_To_wordAt.2.1 23 = .ok (.goto (-21), 3) := by decide +kernel
theorem d_To_wordAt_26 : decode mt_To_wordAt.2.1 26 = .ok (.sipush 303, 3) := by decide +kernel
theorem d_To_wordAt_29 : decode mt_To_wordAt.2.1 29 = .ok (.ireturn, 1) := by decide +kernel
theorem d_To_isWord_0 : decode mt_To_isWord.2.1 0 = .ok (.iconst 0, 1) := by decide +kernel
theorem d_To_isWord_1 : decode mt_To_isWord.2.1 1 = .ok (.istore 4, 2) := by decide +kernel
theorem d_To_isWord_3 : decode mt_To_isWord.2.1 3 = .ok (.iload 4, 2) := by decide +kernel
theorem d_To_isWord_5 : decode mt_To_isWord.2.1 5 = .ok (.bipush 8, 2) := by decide +kernel
theorem d_To_isWord_7 : decode mt_To_isWord.2.1 7 = .ok (.if_icmp .ge 49, 3) := by decide +kernel
theorem d_To_isWord_10 : decode mt_To_isWord.2.1 10 = .ok (.iload 4, 2) := by decide +kernel
theorem d_To_isWord_12 : decode mt_To_isWord.2.1 12 = .ok (.iload_n 3, 1) := by decide +kernel
theorem d_To_isWord_13 : decode mt_To_isWord.2.1 13 = .ok (.if_icmp .ge 14, 3) := by decide +kernel
theorem d_To_isWord_16 : decode mt_To_isWord.2.1 16 = .ok (.aload_n 1, 1) := by decide +kernel
theorem d_To_isWord_17 : decode mt_To_isWord.2.1 17 = .ok (.iload_n 2, 1) := by decide +kernel
theorem d_To_isWord_18 : decode mt_To_isWord.2.1 18 = .ok (.iload 4, 2) := by decide +kernel
theorem d_To_isWord_20 : decode mt_To_isWord.2.1 20 = .ok (.iadd, 1) := by decide +kernel
theorem d_To_isWord_21 : decode mt_To_isWord.2.1 21 = .ok (.invokevirtual 43, 3) := by decide +kernel
theorem d_To_isWord_24 : decode mt_To_isWord.2.1 24 = .ok (.goto 5, 3) := by decide +kernel
theorem d_To_isWord_27 : decode mt_To_isWord.2.1 27 = .ok (.bipush 32, 2) := by decide +kernel
theorem d_To_isWord_29 : decode mt_To_isWord.2.1 29 = .ok (.istore 5, 2) := by decide +kernel
theorem d_To_isWord_31 : decode mt_To_isWord.2.1 31 = .ok (.iload 5, 2) := by decide +kernel
theorem d_To_isWord_33 : decode mt_To_isWord.2.1 33 = .ok (.ldc 69, 2) := by decide +kernel
theorem d_To_isWord_35 : decode mt_To_isWord.2.1 35 = .ok (.iload_n 0, 1) := by decide +kernel
theorem d_To_isWord_36 : decode mt_To_isWord.2.1 36 = .ok (.bipush 8, 2) := by decide +kernel
theorem d_To_isWord_38 : decode mt_To_isWord.2.1 38 = .ok (.imul, 1) := by decide +kernel
theorem d_To_isWord_39 : decode mt_To_isWord.2.1 39 = .ok (.iload 4, 2) := by decide +kernel
theorem d_To_isWord_41 : decode mt_To_isWord.2.1 41 = .ok (.iadd, 1) := by decide +kernel
theorem d_To_isWord_42 : decode mt_To_isWord.2.1 42 = .ok (.invokevirtual 71, 3) := by decide +kernel
theorem d_To_isWord_45 : decode mt_To_isWord.2.1 45 = .ok (.if_icmp .eq 5, 3) := by decide +kernel
theorem d_To_isWord_48 : decode mt_To_isWord.2.1 48 = .ok (.iconst 0, 1) := by decide +kernel
theorem d_To_isWord_49 : decode mt_To_isWord.2.1 49 = .ok (.ireturn, 1) := by decide +kernel
theorem d_To_isWord_50 : decode mt_To_isWord.2.1 50 = .ok (.iinc 4 1, 3) := by decide +kernel
theorem d_To_isWord_53 : decode mt_To_isWord.2.1 53 = .ok (.goto (-50), 3) := by decide +kernel
theorem d_To_isWord_56 : decode mt_To_isWord.2.1 56 = .ok (.iconst 1, 1) := by decide +kernel
theorem d_To_isWord_57 : decode mt_To_isWord.2.1 57 = .ok (.ireturn, 1) := by decide +kernel
theorem d_To_isSign_0 : decode mt_To_isSign.2.1 0 = .ok (.iload_n 0, 1) := by decide +kernel
theorem d_To_isSign_1 : decode mt_To_isSign.2.1 1 = .ok (.bipush 59, 2) := by decide +kernel
theorem d_To_isSign_3 : decode mt_To_isSign.2.1 3 = .ok (.if_icmp .eq 45, 3) := by decide +kernel
theorem d_To_isSign_6 : decode mt_To_isSign.2.1 6 = .ok (.iload_n 0, 1) := by decide +kernel
theorem d_To_isSign_7 : decode mt_To_isSign.2.1 7 = .ok (.bipush 60, 2) := by decide +kernel
theorem d_To_isSign_9 : decode mt_To_isSign.2.1 9 = .ok (.if_icmp .eq 39, 3) := by decide +kernel
theorem d_To_isSign_12 : decode mt_To_isSign.2.1 12 = .ok (.iload_n 0, 1) := by decide +kernel
theorem d_To_isSign_13 : decode mt_To_isSign.2.1 13 = .ok (.bipush 62, 2) := by decide +kernel
theorem d_To_isSign_15 : decode mt_To_isSign.2.1 15 = .ok (.if_icmp .eq 33, 3) := by decide +kernel
theorem d_To_isSign_18 : decode mt_To_isSign.2.1 18 = .ok (.iload_n 0, 1) := by decide +kernel
theorem d_To_isSign_19 : decode mt_To_isSign.2.1 19 = .ok (.bipush 61, 2) := by decide +kernel
theorem d_To_isSign_21 : decode mt_To_isSign.2.1 21 = .ok (.if_icmp .eq 27, 3) := by decide +kernel
theorem d_To_isSign_24 : decode mt_To_isSign.2.1 24 = .ok (.iload_n 0, 1) := by decide +kernel
theorem d_To_isSign_25 : decode mt_To_isSign.2.1 25 = .ok (.bipush 43, 2) := by decide +kernel
theorem d_To_isSign_27 : decode mt_To_isSign.2.1 27 = .ok (.if_icmp .eq 21, 3) := by decide +kernel
theorem d_To_isSign_30 : decode mt_To_isSign.2.1 30 = .ok (.iload_n 0, 1) := by decide +kernel
theorem d_To_isSign_31 : decode mt_To_isSign.2.1 31 = .ok (.bipush 45, 2) := by decide +kernel
theorem d_To_isSign_33 : decode mt_To_isSign.2.1 33 = .ok (.if_icmp .eq 15, 3) := by decide +kernel
theorem d_To_isSign_36 : decode mt_To_isSign.2.1 36 = .ok (.iload_n 0, 1) := by decide +kernel
theorem d_To_isSign_37 : decode mt_To_isSign.2.1 37 = .ok (.bipush 40, 2) := by decide +kernel
theorem d_To_isSign_39 : decode mt_To_isSign.2.1 39 = .ok (.if_icmp .eq 9, 3) := by decide +kernel
theorem d_To_isSign_42 : decode mt_To_isSign.2.1 42 = .ok (.iload_n 0, 1) := by decide +kernel
theorem d_To_isSign_43 : decode mt_To_isSign.2.1 43 = .ok (.bipush 41, 2) := by decide +kernel
theorem d_To_isSign_45 : decode mt_To_isSign.2.1 45 = .ok (.if_icmp .ne 7, 3) := by decide +kernel
theorem d_To_isSign_48 : decode mt_To_isSign.2.1 48 = .ok (.iconst 1, 1) := by decide +kernel
theorem d_To_isSign_49 : decode mt_To_isSign.2.1 49 = .ok (.goto 4, 3) := by decide +kernel
theorem d_To_isSign_52 : decode mt_To_isSign.2.1 52 = .ok (.iconst 0, 1) := by decide +kernel
theorem d_To_isSign_53 : decode mt_To_isSign.2.1 53 = .ok (.ireturn, 1) := by decide +kernel
theorem d_To_numberOf_0 : decode mt_To_numberOf.2.1 0 = .ok (.iconst 0, 1) := by decide +kernel
theorem d_To_numberOf_1 : decode mt_To_numberOf.2.1 1 = .ok (.istore_n 2, 1) := by decide +kernel
theorem d_To_numberOf_2 : decode mt_To_numberOf.2.1 2 = .ok (.iconst 0, 1) := by decide +kernel
theorem d_To_numberOf_3 : decode mt_To_numberOf.2.1 3 = .ok (.istore_n 3, 1) := by decide +kernel
theorem d_To_numberOf_4 : decode mt_To_numberOf.2.1 4 = .ok (.iload_n 3, 1) := by decide +kernel
theorem d_To_numberOf_5 : decode mt_To_numberOf.2.1 5 = .ok (.bipush 6, 2) := by decide +kernel
theorem d_To_numberOf_7 : decode mt_To_numberOf.2.1 7 = .ok (.if_icmp .ge 38, 3) := by decide +kernel
theorem d_To_numberOf_10 : decode mt_To_numberOf.2.1 10 = .ok (.aload_n 0, 1) := by decide +kernel
theorem d_To_numberOf_11 : decode mt_To_numberOf.2.1 11 = .ok (.iload_n 1, 1) := by decide +kernel
theorem d_To_numberOf_12 : decode mt_To_numberOf.2.1 12 = .ok (.iload_n 3, 1) := by decide +kernel
theorem d_To_numberOf_13 : decode mt_To_numberOf.2.1 13 = .ok (.iadd, 1) := by decide +kernel
theorem d_To_numberOf_14 : decode mt_To_numberOf.2.1 14 = .ok (.invokevirtual 43, 3) := by decide +kernel
theorem d_To_numberOf_17 : decode mt_To_numberOf.2.1 17 = .ok (.invokestatic 55, 3) := by decide +kernel
theorem d_To_numberOf_20 : decode mt_To_numberOf.2.1 20 = .ok (.ifCond .eq 25, 3) := by decide +kernel
theorem d_To_numberOf_23 : decode mt_To_numberOf.2.1 23 = .ok (.iload_n 2, 1) := by decide +kernel
theorem d_To_numberOf_24 : decode mt_To_numberOf.2.1 24 = .ok (.bipush 10, 2) := by decide +kernel
theorem d_To_numberOf_26 : decode mt_To_numberOf.2.1 26 = .ok (.imul, 1) := by decide +kernel
theorem d_To_numberOf_27 : decode mt_To_numberOf.2.1 27 = .ok (.aload_n 0, 1) := by decide +kernel
theorem d_To_numberOf_28 : decode mt_To_numberOf.2.1 28 = .ok (.iload_n 1, 1) := by decide +kernel
theorem d_To_numberOf_29 : decode mt_To_numberOf.2.1 29 = .ok (.iload_n 3, 1) := by decide +kernel
theorem d_To_numberOf_30 : decode mt_To_numberOf.2.1 30 = .ok (.iadd, 1) := by decide +kernel
theorem d_To_numberOf_31 : decode mt_To_numberOf.2.1 31 = .ok (.invokevirtual 43, 3) := by decide +kernel
theorem d_To_numberOf_34 : decode mt_To_numberOf.2.1 34 = .ok (.iadd, 1) := by decide +kernel
theorem d_To_numberOf_35 : decode mt_To_numberOf.2.1 35 = .ok (.bipush 48, 2) := by decide +kernel
theorem d_To_numberOf_37 : decode mt_To_numberOf.2.1 37 = .ok (.isub, 1) := by decide +kernel
theorem d_To_numberOf_38 : decode mt_To_numberOf.2.1 38 = .ok (.istore_n 2, 1) := by decide +kernel
theorem d_To_numberOf_39 : decode mt_To_numberOf.2.1 39 = .ok (.iinc 3 1, 3) := by decide +kernel
theorem d_To_numberOf_42 : decode mt_To_numberOf.2.1 42 = .ok (.goto (-38), 3) := by decide +kernel
theorem d_To_numberOf_45 : decode mt_To_numberOf.2.1 45 = .ok (.iload_n 2, 1) := by decide +kernel
theorem d_To_numberOf_46 : decode mt_To_numberOf.2.1 46 = .ok (.ireturn, 1) := by decide +kernel
theorem d_Re_step_0 : decode mt_Re_step.2.1 0 = .ok (.aload_n 0, 1) := by decide +kernel
theorem d_Re_step_1 : decode mt_Re_step.2.1 1 = .ok (.getfield 29, 3) := by decide +kernel
theorem d_Re_step_4 : decode mt_Re_step.2.1 4 = .ok (.aload_n 0, 1) := by decide +kernel
theorem d_Re_step_5 : decode mt_Re_step.2.1 5 = .ok (.getfield 12, 3) := by decide +kernel
theorem d_Re_step_8 : decode mt_Re_step.2.1 8 = .ok (.getfield 54, 3) := by decide +kernel
theorem d_Re_step_11 : decode mt_Re_step.2.1 11 = .ok (.if_icmp .ge 61, 3) := by decide +kernel
theorem d_Re_step_14 : decode mt_Re_step.2.1 14 = .ok (.aload_n 0, 1) := by decide +kernel
theorem d_Re_step_15 : decode mt_Re_step.2.1 15 = .ok (.aload_n 0, 1) := by decide +kernel
theorem d_Re_step_16 : decode mt_Re_step.2.1 16 = .ok (.getfield 12, 3) := by decide +kernel
theorem d_Re_step_19 : decode mt_Re_step.2.1 19 = .ok (.getfield 57, 3) := by decide +kernel
theorem d_Re_step_22 : decode mt_Re_step.2.1 22 = .ok (.aload_n 0, 1) := by decide +kernel
theorem d_Re_step_23 : decode mt_Re_step.2.1 23 = .ok (.getfield 29, 3) := by decide +kernel
theorem d_Re_step_26 : decode mt_Re_step.2.1 26 = .ok (.iaload, 1) := by decide +kernel
theorem d_Re_step_27 : decode mt_Re_step.2.1 27 = .ok (.putfield 43, 3) := by decide +kernel
theorem d_Re_step_30 : decode mt_Re_step.2.1 30 = .ok (.aload_n 0, 1) := by decide +kernel
theorem d_Re_step_31 : decode mt_Re_step.2.1 31 = .ok (.aload_n 0, 1) := by decide +kernel
theorem d_Re_step_32 : decode mt_Re_step.2.1 32 = .ok (.getfield 12, 3) := by decide +kernel
theorem d_Re_step_35 : decode mt_Re_step.2.1 35 = .ok (.getfield 61, 3) := by decide +kernel
theorem d_Re_step_38 : decode mt_Re_step.2.1 38 = .ok (.aload_n 0, 1) := by decide +kernel
theorem d_Re_step_39 : decode mt_Re_step.2.1 39 = .ok (.getfield 29, 3) := by decide +kernel
theorem d_Re_step_42 : decode mt_Re_step.2.1 42 = .ok (.iaload, 1) := by decide +kernel
theorem d_Re_step_43 : decode mt_Re_step.2.1 43 = .ok (.putfield 64, 3) := by decide +kernel
theorem d_Re_step_46 : decode mt_Re_step.2.1 46 = .ok (.aload_n 0, 1) := by decide +kernel
theorem d_Re_step_47 : decode mt_Re_step.2.1 47 = .ok (.aload_n 0, 1) := by decide +kernel
theorem d_Re_step_48 : decode mt_Re_step.2.1 48 = .ok (.getfield 12, 3) := by decide +kernel
theorem d_Re_step_51 : decode mt_Re_step.2.1 51 = .ok (.getfield 67, 3) := by decide +kernel
theorem d_Re_step_54 : decode mt_Re_step.2.1 54 = .ok (.aload_n 0, 1) := by decide +kernel
theorem d_Re_step_55 : decode mt_Re_step.2.1 55 = .ok (.getfield 29, 3) := by decide +kernel
theorem d_Re_step_58 : decode mt_Re_step.2.1 58 = .ok (.iaload, 1) := by decide +kernel
theorem d_Re_step_59 : decode mt_Re_step.2.1 59 = .ok (.putfield 70, 3) := by decide +kernel
theorem d_Re_step_62 : decode mt_Re_step.2.1 62 = .ok (.aload_n 0, 1) := by decide +kernel
theorem d_Re_step_63 : decode mt_Re_step.2.1 63 = .ok (.dup, 1) := by decide +kernel
theorem d_Re_step_64 : decode mt_Re_step.2.1 64 = .ok (.getfield 29, 3) := by decide +kernel
theorem d_Re_step_67 : decode mt_Re_step.2.1 67 = .ok (.iconst 1, 1) := by decide +kernel
theorem d_Re_step_68 : decode mt_Re_step.2.1 68 = .ok (.iadd, 1) := by decide +kernel
theorem d_Re_step_69 : decode mt_Re_step.2.1 69 = .ok (.putfield 29, 3) := by decide +kernel
theorem d_Re_step_72 : decode mt_Re_step.2.1 72 = .ok (.return_, 1) := by decide +kernel
theorem d_Or_clear_0 : decode mt_Or_clear.2.1 0 = .ok (.aload_n 0, 1) := by decide +kernel
theorem d_Or_clear_1 : decode mt_Or_clear.2.1 1 = .ok (.iconst 0, 1) := by decide +kernel
theorem d_Or_clear_2 : decode mt_Or_clear.2.1 2 = .ok (.putfield 27, 3) := by decide +kernel
theorem d_Or_clear_5 : decode mt_Or_clear.2.1 5 = .ok (.aload_n 0, 1) := by decide +kernel
theorem d_Or_clear_6 : decode mt_Or_clear.2.1 6 = .ok (.iconst 0, 1) := by decide +kernel
theorem d_Or_clear_7 : decode mt_Or_clear.2.1 7 = .ok (.putfield 31, 3) := by decide +kernel
theorem d_Or_clear_10 : decode mt_Or_clear.2.1 10 = .ok (.return_, 1) := by decide +kernel
theorem d_Re_readLine_0 : decode mt_Re_readLine.2.1 0 = .ok (.aload_n 0, 1) := by decide +kernel
theorem d_Re_readLine_1 : decode mt_Re_readLine.2.1 1 = .ok (.iconst 0, 1) := by decide +kernel
theorem d_Re_readLine_2 : decode mt_Re_readLine.2.1 2 = .ok (.invokevirtual 73, 3) := by decide +kernel
theorem d_Re_readLine_5 : decode mt_Re_readLine.2.1 5 = .ok (.ifCond .eq 21, 3) := by decide +kernel
theorem d_Re_readLine_8 : decode mt_Re_readLine.2.1 8 = .ok (.aload_n 0, 1) := by decide +kernel
theorem d_Re_readLine_9 : decode mt_Re_readLine.2.1 9 = .ok (.iconst 0, 1) := by decide +kernel
theorem d_Re_readLine_10 : decode mt_Re_readLine.2.1 10 = .ok (.iconst 0, 1) := by decide +kernel
theorem d_Re_readLine_11 : decode mt_Re_readLine.2.1 11 = .ok (.aload_n 1, 1) := by decide +kernel
theorem d_Re_readLine_12 : decode mt_Re_readLine.2.1 12 = .ok (.invokevirtual 76, 3) := by decide +kernel
theorem d_Re_readLine_15 : decode mt_Re_readLine.2.1 15 = .ok (.ifCond .eq 11, 3) := by decide +kernel
theorem d_Re_readLine_18 : decode mt_Re_readLine.2.1 18 = .ok (.aload_n 0, 1) := by decide +kernel
theorem d_Re_readLine_19 : decode mt_Re_readLine.2.1 19 = .ok (.iconst 1, 1) := by decide +kernel
theorem d_Re_readLine_20 : decode mt_Re_readLine.2.1 20 = .ok (.invokevirtual 73, 3) := by decide +kernel
theorem d_Re_readLine_23 : decode mt_Re_readLine.2.1 23 = .ok (.ifCond .ne 5, 3) := by decide +kernel
theorem d_Re_readLine_26 : decode mt_Re_readLine.2.1 26 = .ok (.iconst 0, 1) := by decide +kernel
theorem d_Re_readLine_27 : decode mt_Re_readLine.2.1 27 = .ok (.ireturn, 1) := by decide +kernel
theorem d_Re_readLine_28 : decode mt_Re_readLine.2.1 28 = .ok (.aload_n 0, 1) := by decide +kernel
theorem d_Re_readLine_29 : decode mt_Re_readLine.2.1 29 = .ok (.getfield 43, 3) := by decide +kernel
theorem d_Re_readLine_32 : decode mt_Re_readLine.2.1 32 = .ok (.iconst 2, 1) := by decide +kernel
theorem d_Re_readLine_33 : decode mt_Re_readLine.2.1 33 = .ok (.if_icmp .eq 25, 3) := by decide +kernel
theorem d_Re_readLine_36 : decode mt_Re_readLine.2.1 36 = .ok (.aload_n 0, 1) := by decide +kernel
theorem d_Re_readLine_37 : decode mt_Re_readLine.2.1 37 = .ok (.getfield 43, 3) := by decide +kernel
theorem d_Re_readLine_40 : decode mt_Re_readLine.2.1 40 = .ok (.iconst 3, 1) := by decide +kernel
theorem d_Re_readLine_41 : decode mt_Re_readLine.2.1 41 = .ok (.if_icmp .eq 17, 3) := by decide +kernel
theorem d_Re_readLine_44 : decode mt_Re_readLine.2.1 44 = .ok (.aload_n 0, 1) := by decide +kernel
theorem d_Re_readLine_45 : decode mt_Re_readLine.2.1 45 = .ok (.getfield 43, 3) := by decide +kernel
theorem d_Re_readLine_48 : decode mt_Re_readLine.2.1 48 = .ok (.iconst 4, 1) := by decide +kernel
theorem d_Re_readLine_49 : decode mt_Re_readLine.2.1 49 = .ok (.if_icmp .eq 9, 3) := by decide +kernel
theorem d_Re_readLine_52 : decode mt_Re_readLine.2.1 52 = .ok (.aload_n 0, 1) := by decide +kernel
theorem d_Re_readLine_53 : decode mt_Re_readLine.2.1 53 = .ok (.iconst 2, 1) := by decide +kernel
theorem d_Re_readLine_54 : decode mt_Re_readLine.2.1 54 = .ok (.invokevirtual 50, 3) := by decide +kernel
theorem d_Re_readLine_57 : decode mt_Re_readLine.2.1 57 = .ok (.ireturn, 1) := by decide +kernel
theorem d_Re_readLine_58 : decode mt_Re_readLine.2.1 58 = .ok (.aload_n 1, 1) := by decide +kernel
theorem d_Re_readLine_59 : decode mt_Re_readLine.2.1 59 = .ok (.aload_n 0, 1) := by decide +kernel
theorem d_Re_readLine_60 : decode mt_Re_readLine.2.1 60 = .ok (.getfield 43, 3) := by decide +kernel
theorem d_Re_readLine_63 : decode mt_Re_readLine.2.1 63 = .ok (.invokevirtual 80, 3) := by decide +kernel
theorem d_Re_readLine_66 : decode mt_Re_readLine.2.1 66 = .ok (.aload_n 0, 1) := by decide +kernel
theorem d_Re_readLine_67 : decode mt_Re_readLine.2.1 67 = .ok (.invokevirtual 32, 3) := by decide +kernel
theorem d_Re_readLine_70 : decode mt_Re_readLine.2.1 70 = .ok (.aload_n 0, 1) := by decide +kernel
theorem d_Re_readLine_71 : decode mt_Re_readLine.2.1 71 = .ok (.bipush 59, 2) := by decide +kernel
theorem d_Re_readLine_73 : decode mt_Re_readLine.2.1 73 = .ok (.invokevirtual 73, 3) := by decide +kernel
theorem d_Re_readLine_76 : decode mt_Re_readLine.2.1 76 = .ok (.ireturn, 1) := by decide +kernel
theorem d_Re_pass_0 : decode mt_Re_pass.2.1 0 = .ok (.aload_n 0, 1) := by decide +kernel
theorem d_Re_pass_1 : decode mt_Re_pass.2.1 1 = .ok (.getfield 43, 3) := by decide +kernel
theorem d_Re_pass_4 : decode mt_Re_pass.2.1 4 = .ok (.iload_n 1, 1) := by decide +kernel
theorem d_Re_pass_5 : decode mt_Re_pass.2.1 5 = .ok (.if_icmp .eq 9, 3) := by decide +kernel
theorem d_Re_pass_8 : decode mt_Re_pass.2.1 8 = .ok (.aload_n 0, 1) := by decide +kernel
theorem d_Re_pass_9 : decode mt_Re_pass.2.1 9 = .ok (.iconst 2, 1) := by decide +kernel
theorem d_Re_pass_10 : decode mt_Re_pass.2.1 10 = .ok (.invokevirtual 50, 3) := by decide +kernel
theorem d_Re_pass_13 : decode mt_Re_pass.2.1 13 = .ok (.ireturn, 1) := by decide +kernel
theorem d_Re_pass_14 : decode mt_Re_pass.2.1 14 = .ok (.aload_n 0, 1) := by decide +kernel
theorem d_Re_pass_15 : decode mt_Re_pass.2.1 15 = .ok (.invokevirtual 32, 3) := by decide +kernel
theorem d_Re_pass_18 : decode mt_Re_pass.2.1 18 = .ok (.iconst 1, 1) := by decide +kernel
theorem d_Re_pass_19 : decode mt_Re_pass.2.1 19 = .ok (.ireturn, 1) := by decide +kernel
theorem d_Re_refuse_0 : decode mt_Re_refuse.2.1 0 = .ok (.aload_n 0, 1) := by decide +kernel
theorem d_Re_refuse_1 : decode mt_Re_refuse.2.1 1 = .ok (.aload_n 0, 1) := by decide +kernel
theorem d_Re_refuse_2 : decode mt_Re_refuse.2.1 2 = .ok (.getfield 43, 3) := by decide +kernel
theorem d_Re_refuse_5 : decode mt_Re_refuse.2.1 5 = .ok (.sipush 300, 3) := by decide +kernel
theorem d_Re_refuse_8 : decode mt_Re_refuse.2.1 8 = .ok (.if_icmp .ne 7, 3) := by decide +kernel
theorem d_Re_refuse_11 : decode mt_Re_refuse.2.1 11 = .ok (.iconst 1, 1) := by decide +kernel
theorem d_Re_refuse_12 : decode mt_Re_refuse.2.1 12 = .ok (.goto 4, 3) := by decide +kernel
theorem d_Re_refuse_15 : decode mt_Re_refuse.2.1 15 = .ok (.iload_n 1, 1) := by decide +kernel
theorem d_Re_refuse_16 : decode mt_Re_refuse.2.1 16 = .ok (.putfield 18, 3) := by decide +kernel
theorem d_Re_refuse_19 : decode mt_Re_refuse.2.1 19 = .ok (.aload_n 0, 1) := by decide +kernel
theorem d_Re_refuse_20 : decode mt_Re_refuse.2.1 20 = .ok (.aload_n 0, 1) := by decide +kernel
theorem d_Re_refuse_21 : decode mt_Re_refuse.2.1 21 = .ok (.getfield 64, 3) := by decide +kernel
theorem d_Re_refuse_24 : decode mt_Re_refuse.2.1 24 = .ok (.putfield 22, 3) := by decide +kernel
theorem d_Re_refuse_27 : decode mt_Re_refuse.2.1 27 = .ok (.iconst 0, 1) := by decide +kernel
theorem d_Re_refuse_28 : decode mt_Re_refuse.2.1 28 = .ok (.ireturn, 1) := by decide +kernel
theorem d_Re_readJoined_0 : decode mt_Re_readJoined.2.1 0 = .ok (.iconst (-1), 1) := by decide +kernel
theorem d_Re_readJoined_1 : decode mt_Re_readJoined.2.1 1 = .ok (.istore 4, 2) := by decide +kernel
theorem d_Re_readJoined_3 : decode mt_Re_readJoined.2.1 3 = .ok (.iconst 0, 1) := by decide +kernel
theorem d_Re_readJoined_4 : decode mt_Re_readJoined.2.1 4 = .ok (.istore 5, 2) := by decide +kernel
theorem d_Re_readJoined_6 : decode mt_Re_readJoined.2.1 6 = .ok (.iload 5, 2) := by decide +kernel
theorem d_Re_readJoined_8 : decode mt_Re_readJoined.2.1 8 = .ok (.sipush 500, 3) := by decide +kernel
theorem d_Re_readJoined_11 : decode mt_Re_readJoined.2.1 11 = .ok (.if_icmp .ge 86, 3) := by decide +kernel
theorem d_Re_readJoined_14 : decode mt_Re_readJoined.2.1 14 = .ok (.iload_n 1, 1) := by decide +kernel
theorem d_Re_readJoined_15 : decode mt_Re_readJoined.2.1 15 = .ok (.ifCond .ne 13, 3) := by decide +kernel
theorem d_Re_readJoined_18 : decode mt_Re_readJoined.2.1 18 = .ok (.aload_n 0, 1) := by decide +kernel
theorem d_Re_readJoined_19 : decode mt_Re_readJoined.2.1 19 = .ok (.iconst 1, 1) := by decide +kernel
theorem d_Re_readJoined_20 : decode mt_Re_readJoined.2.1 20 = .ok (.iload_n 2, 1) := by decide +kernel
theorem d_Re_readJoined_21 : decode mt_Re_readJoined.2.1 21 = .ok (.aload_n 3, 1) := by decide +kernel
theorem d_Re_readJoined_22 : decode mt_Re_readJoined.2.1 22 = .ok (.invokevirtual 76, 3) := by decide +kernel
theorem d_Re_readJoined_25 : decode mt_Re_readJoined.2.1 25 = .ok (.goto 23, 3) := by decide +kernel
theorem d_Re_readJoined_28 : decode mt_Re_readJoined.2.1 28 = .ok (.iload_n 1, 1) := by decide +kernel
theorem d_Re_readJoined_29 : decode mt_Re_readJoined.2.1 29 = .ok (.iconst 1, 1) := by decide +kernel
theorem d_Re_readJoined_30 : decode mt_Re_readJoined.2.1 30 = .ok (.if_icmp .ne 12, 3) := by decide +kernel
theorem d_Re_readJoined_33 : decode mt_Re_readJoined.2.1 33 = .ok (.aload_n 0, 1) := by decide +kernel
theorem d_Re_readJoined_34 : decode mt_Re_readJoined.2.1 34 = .ok (.iload_n 2, 1) := by decide +kernel
theorem d_Re_readJoined_35 : decode mt_Re_readJoined.2.1 35 = .ok (.aload_n 3, 1) := by decide +kernel
theorem d_Re_readJoined_36 : decode mt_Re_readJoined.2.1 36 = .ok (.invokevirtual 84, 3) := by decide +kernel
theorem d_Re_readJoined_39 : decode mt_Re_readJoined.2.1 39 = .ok (.goto 9, 3) := by decide +kernel
theorem d_Re_readJoined_42 : decode mt_Re_readJoined.2.1 42 = .ok (.aload_n 0, 1) := by decide +kernel
theorem d_Re_readJoined_43 : decode mt_Re_readJoined.2.1 43 = .ok (.iload_n 2, 1) := by decide +kernel
theorem d_Re_readJoined_44 : decode mt_Re_readJoined.2.1 44 = .ok (.aload_n 3, 1) := by decide +kernel
theorem d_Re_readJoined_45 : decode mt_Re_readJoined.2.1 45 = .ok (.invokevirtual 88, 3) := by decide +kernel
theorem d_Re_readJoined_48 : decode mt_Re_readJoined.2.1 48 = .ok (.istore 6, 2) := by decide +kernel
theorem d_Re_readJoined_50 : decode mt_Re_readJoined.2.1 50 = .ok (.iload 6, 2) := by decide +kernel
theorem d_Re_readJoined_52 : decode mt_Re_readJoined.2.1 52 = .ok (.ifCond .ne 5, 3) := by decide +kernel
theorem d_Re_readJoined_55 : decode mt_Re_readJoined.2.1 55 = .ok (.iconst 0, 1) := by decide +kernel
theorem d_Re_readJoined_56 : decode mt_Re_readJoined.2.1 56 = .ok (.ireturn, 1) := by decide +kernel
theorem d_Re_readJoined_57 : decode mt_Re_readJoined.2.1 57 = .ok (.iload 4, 2) := by decide +kernel
theorem d_Re_readJoined_59 : decode mt_Re_readJoined.2.1 59 = .ok (.iconst (-1), 1) := by decide +kernel
theorem d_Re_readJoined_60 : decode mt_Re_readJoined.2.1 60 = .ok (.if_icmp .eq 11, 3) := by decide +kernel
theorem d_Re_readJoined_63 : decode mt_Re_readJoined.2.1 63 = .ok (.aload_n 3, 1) := by decide +kernel
theorem d_Re_readJoined_64 : decode mt_Re_readJoined.2.1 64 = .ok (.iload 4, 2) := by decide +kernel
theorem d_Re_readJoined_66 : decode mt_Re_readJoined.2.1 66 = .ok (.iconst (-1), 1) := by decide +kernel
theorem d_Re_readJoined_67 : decode mt_Re_readJoined.2.1 67 = .ok (.ixor, 1) := by decide +kernel
theorem d_Re_readJoined_68 : decode mt_Re_readJoined.2.1 68 = .ok (.invokevirtual 91, 3) := by decide +kernel
theorem d_Re_readJoined_71 : decode mt_Re_readJoined.2.1 71 = .ok (.aload_n 0, 1) := by decide +kernel
theorem d_Re_readJoined_72 : decode mt_Re_readJoined.2.1 72 = .ok (.iload_n 1, 1) := by decide +kernel
theorem d_Re_readJoined_73 : decode mt_Re_readJoined.2.1 73 = .ok (.invokevirtual 94, 3) := by decide +kernel
theorem d_Re_readJoined_76 : decode mt_Re_readJoined.2.1 76 = .ok (.ifCond .ne 5, 3) := by decide +kernel
theorem d_Re_readJoined_79 : decode mt_Re_readJoined.2.1 79 = .ok (.iconst 1, 1) := by decide +kernel
theorem d_Re_readJoined_80 : decode mt_Re_readJoined.2.1 80 = .ok (.ireturn, 1) := by decide +kernel
theorem d_Re_readJoined_81 : decode mt_Re_readJoined.2.1 81 = .ok (.aload_n 0, 1) := by decide +kernel
theorem d_Re_readJoined_82 : decode mt_Re_readJoined.2.1 82 = .ok (.getfield 43, 3) := by decide +kernel
theorem d_Re_readJoined_85 : decode mt_Re_readJoined.2.1 85 = .ok (.istore 4, 2) := by decide +kernel
theorem d_Re_readJoined_87 : decode mt_Re_readJoined.2.1 87 = .ok (.aload_n 0, 1) := by decide +kernel
theorem d_Re_readJoined_88 : decode mt_Re_readJoined.2.1 88 = .ok (.invokevirtual 32, 3) := by decide +kernel
theorem d_Re_readJoined_91 : decode mt_Re_readJoined.2.1 91 = .ok (.iinc 5 1, 3) := by decide +kernel
theorem d_Re_readJoined_94 : decode mt_Re_readJoined.2.1 94 = .ok (.goto (-88), 3) := by decide +kernel
theorem d_Re_readJoined_97 : decode mt_Re_readJoined.2.1 97 = .ok (.iconst 0, 1) := by decide +kernel
theorem d_Re_readJoined_98 : decode mt_Re_readJoined.2.1 98 = .ok (.ireturn, 1) := by decide +kernel
theorem d_Re_readOne_0 : decode mt_Re_readOne.2.1 0 = .ok (.iload_n 1, 1) := by decide +kernel
theorem d_Re_readOne_1 : decode mt_Re_readOne.2.1 1 = .ok (.bipush 8, 2) := by decide +kernel
theorem d_Re_readOne_3 : decode mt_Re_readOne.2.1 3 = .ok (.if_icmp .lt 9, 3) := by decide +kernel
theorem d_Re_readOne_6 : decode mt_Re_readOne.2.1 6 = .ok (.aload_n 0, 1) := by decide +kernel
theorem d_Re_readOne_7 : decode mt_Re_readOne.2.1 7 = .ok (.iconst 2, 1) := by decide +kernel
theorem d_Re_readOne_8 : decode mt_Re_readOne.2.1 8 = .ok (.invokevirtual 50, 3) := by decide +kernel
theorem d_Re_readOne_11 : decode mt_Re_readOne.2.1 11 = .ok (.ireturn, 1) := by decide +kernel
theorem d_Re_readOne_12 : decode mt_Re_readOne.2.1 12 = .ok (.aload_n 0, 1) := by decide +kernel
theorem d_Re_readOne_13 : decode mt_Re_readOne.2.1 13 = .ok (.getfield 43, 3) := by decide +kernel
theorem d_Re_readOne_16 : decode mt_Re_readOne.2.1 16 = .ok (.bipush 7, 2) := by decide +kernel
theorem d_Re_readOne_18 : decode mt_Re_readOne.2.1 18 = .ok (.if_icmp .ne 28, 3) := by decide +kernel
theorem d_Re_readOne_21 : decode mt_Re_readOne.2.1 21 = .ok (.aload_n 0, 1) := by decide +kernel
theorem d_Re_readOne_22 : decode mt_Re_readOne.2.1 22 = .ok (.invokevirtual 32, 3) := by decide +kernel
theorem d_Re_readOne_25 : decode mt_Re_readOne.2.1 25 = .ok (.aload_n 0, 1) := by decide +kernel
theorem d_Re_readOne_26 : decode mt_Re_readOne.2.1 26 = .ok (.iload_n 1, 1) := by decide +kernel
theorem d_Re_readOne_27 : decode mt_Re_readOne.2.1 27 = .ok (.iconst 1, 1) := by decide +kernel
theorem d_Re_readOne_28 : decode mt_Re_readOne.2.1 28 = .ok (.iadd, 1) := by decide +kernel
theorem d_Re_readOne_29 : decode mt_Re_readOne.2.1 29 = .ok (.aload_n 2, 1) := by decide +kernel
theorem d_Re_readOne_30 : decode mt_Re_readOne.2.1 30 = .ok (.invokevirtual 84, 3) := by decide +kernel
theorem d_Re_readOne_33 : decode mt_Re_readOne.2.1 33 = .ok (.ifCond .ne 5, 3) := by decide +kernel
theorem d_Re_readOne_36 : decode mt_Re_readOne.2.1 36 = .ok (.iconst 0, 1) := by decide +kernel
theorem d_Re_readOne_37 : decode mt_Re_readOne.2.1 37 = .ok (.ireturn, 1) := by decide +kernel
theorem d_Re_readOne_38 : decode mt_Re_readOne.2.1 38 = .ok (.aload_n 2, 1) := by decide +kernel
theorem d_Re_readOne_39 : decode mt_Re_readOne.2.1 39 = .ok (.bipush (-8), 2) := by decide +kernel
theorem d_Re_readOne_41 : decode mt_Re_readOne.2.1 41 = .ok (.invokevirtual 91, 3) := by decide +kernel
theorem d_Re_readOne_44 : decode mt_Re_readOne.2.1 44 = .ok (.iconst 1, 1) := by decide +kernel
theorem d_Re_readOne_45 : decode mt_Re_readOne.2.1 45 = .ok (.ireturn, 1) := by decide +kernel
theorem d_Re_readOne_46 : decode mt_Re_readOne.2.1 46 = .ok (.aload_n 0, 1) := by decide +kernel
theorem d_Re_readOne_47 : decode mt_Re_readOne.2.1 47 = .ok (.iconst 2, 1) := by decide +kernel
theorem d_Re_readOne_48 : decode mt_Re_readOne.2.1 48 = .ok (.iload_n 1, 1) := by decide +kernel
theorem d_Re_readOne_49 : decode mt_Re_readOne.2.1 49 = .ok (.aload_n 2, 1) := by decide +kernel
theorem d_Re_readOne_50 : decode mt_Re_readOne.2.1 50 = .ok (.invokevirtual 76, 3) := by decide +kernel
theorem d_Re_readOne_53 : decode mt_Re_readOne.2.1 53 = .ok (.ifCond .eq 16, 3) := by decide +kernel
theorem d_Re_readOne_56 : decode mt_Re_readOne.2.1 56 = .ok (.aload_n 0, 1) := by decide +kernel
theorem d_Re_readOne_57 : decode mt_Re_readOne.2.1 57 = .ok (.iload_n 1, 1) := by decide +kernel
theorem d_Re_readOne_58 : decode mt_Re_readOne.2.1 58 = .ok (.aload_n 2, 1) := by decide +kernel
theorem d_Re_readOne_59 : decode mt_Re_readOne.2.1 59 = .ok (.invokevirtual 97, 3) := by decide +kernel
theorem d_Re_readOne_62 : decode mt_Re_readOne.2.1 62 = .ok (.ifCond .eq 7, 3) := by decide +kernel
theorem d_Re_readOne_65 : decode mt_Re_readOne.2.1 65 = .ok (.iconst 1, 1) := by decide +kernel
theorem d_Re_readOne_66 : decode mt_Re_readOne.2.1 66 = .ok (.goto 4, 3) := by decide +kernel
theorem d_Re_readOne_69 : decode mt_Re_readOne.2.1 69 = .ok (.iconst 0, 1) := by decide +kernel
theorem d_Re_readOne_70 : decode mt_Re_readOne.2.1 70 = .ok (.ireturn, 1) := by decide +kernel
theorem d_Or_addItem_0 : decode mt_Or_addItem.2.1 0 = .ok (.aload_n 0, 1) := by decide +kernel
theorem d_Or_addItem_1 : decode mt_Or_addItem.2.1 1 = .ok (.getfield 27, 3) := by decide +kernel
theorem d_Or_addItem_4 : decode mt_Or_addItem.2.1 4 = .ok (.sipush 500, 3) := by decide +kernel
theorem d_Or_addItem_7 : decode mt_Or_addItem.2.1 7 = .ok (.if_icmp .ge 23, 3) := by decide +kernel
theorem d_Or_addItem_10 : decode mt_Or_addItem.2.1 10 = .ok (.aload_n 0, 1) := by decide +kernel
theorem d_Or_addItem_11 : decode mt_Or_addItem.2.1 11 = .ok (.getfield 9, 3) := by decide +kernel
theorem d_Or_addItem_14 : decode mt_Or_addItem.2.1 14 = .ok (.aload_n 0, 1) := by decide +kernel
theorem d_Or_addItem_15 : decode mt_Or_addItem.2.1 15 = .ok (.getfield 27, 3) := by decide +kernel
theorem d_Or_addItem_18 : decode mt_Or_addItem.2.1 18 = .ok (.iload_n 1, 1) := by decide +kernel
theorem d_Or_addItem_19 : decode mt_Or_addItem.2.1 19 = .ok (.iastore, 1) := by decide +kernel
theorem d_Or_addItem_20 : decode mt_Or_addItem.2.1 20 = .ok (.aload_n 0, 1) := by decide +kernel
theorem d_Or_addItem_21 : decode mt_Or_addItem.2.1 21 = .ok (.dup, 1) := by decide +kernel
theorem d_Or_addItem_22 : decode mt_Or_addItem.2.1 22 = .ok (.getfield 27, 3) := by decide +kernel
theorem d_Or_addItem_25 : decode mt_Or_addItem.2.1 25 = .ok (.iconst 1, 1) := by decide +kernel
theorem d_Or_addItem_26 : decode mt_Or_addItem.2.1 26 = .ok (.iadd, 1) := by decide +kernel
theorem d_Or_addItem_27 : decode mt_Or_addItem.2.1 27 = .ok (.putfield 27, 3) := by decide +kernel
theorem d_Or_addItem_30 : decode mt_Or_addItem.2.1 30 = .ok (.return_, 1) := by decide +kernel
theorem d_Re_readComparison_0 : decode mt_Re_readComparison.2.1 0 = .ok (.aload_n 0, 1) := by decide +kernel
theorem d_Re_readComparison_1 : decode mt_Re_readComparison.2.1 1 = .ok (.getfield 43, 3) := by decide +kernel
theorem d_Re_readComparison_4 : decode mt_Re_readComparison.2.1 4 = .ok (.istore_n 3, 1) := by decide +kernel
theorem d_Re_readComparison_5 : decode mt_Re_readComparison.2.1 5 = .ok (.iload_n 3, 1) := by decide +kernel
theorem d_Re_readComparison_6 : decode mt_Re_readComparison.2.1 6 = .ok (.bipush 60, 2) := by decide +kernel
theorem d_Re_readComparison_8 : decode mt_Re_readComparison.2.1 8 = .ok (.if_icmp .eq 17, 3) := by decide +kernel
theorem d_Re_readComparison_11 : decode mt_Re_readComparison.2.1 11 = .ok (.iload_n 3, 1) := by decide +kernel
theorem d_Re_readComparison_12 : decode mt_Re_readComparison.2.1 12 = .ok (.bipush 62, 2) := by decide +kernel
theorem d_Re_readComparison_14 : decode mt_Re_readComparison.2.1 14 = .ok (.if_icmp .eq 11, 3) := by decide +kernel
theorem d_Re_readComparison_17 : decode mt_Re_readComparison.2.1 17 = .ok (.iload_n 3, 1) := by decide +kernel
theorem d_Re_readComparison_18 : decode mt_Re_readComparison.2.1 18 = .ok (.bipush 61, 2) := by decide +kernel
theorem d_Re_readComparison_20 : decode mt_Re_readComparison.2.1 20 = .ok (.if_icmp .eq 5, 3) := by decide +kernel
theorem d_Re_readComparison_23 : decode mt_Re_readComparison.2.1 23 = .ok (.iconst 1, 1) := by decide +kernel
theorem d_Re_readComparison_24 : decode mt_Re_readComparison.2.1 24 = .ok (.ireturn, 1) := by decide +kernel
theorem d_Re_readComparison_25 : decode mt_Re_readComparison.2.1 25 = .ok (.aload_n 0, 1) := by decide +kernel
theorem d_Re_readComparison_26 : decode mt_Re_readComparison.2.1 26 = .ok (.invokevirtual 32, 3) := by decide +kernel
theorem d_Re_readComparison_29 : decode mt_Re_readComparison.2.1 29 = .ok (.aload_n 0, 1) := by decide +kernel
theorem d_Re_readComparison_30 : decode mt_Re_readComparison.2.1 30 = .ok (.iconst 2, 1) := by decide +kernel
theorem d_Re_readComparison_31 : decode mt_Re_readComparison.2.1 31 = .ok (.iload_n 1, 1) := by decide +kernel
theorem d_Re_readComparison_32 : decode mt_Re_readComparison.2.1 32 = .ok (.aload_n 2, 1) := by decide +kernel
theorem d_Re_readComparison_33 : decode mt_Re_readComparison.2.1 33 = .ok (.invokevirtual 76, 3) := by decide +kernel
theorem d_Re_readComparison_36 : decode mt_Re_readComparison.2.1 36 = .ok (.ifCond .ne 5, 3) := by decide +kernel
theorem d_Re_readComparison_39 : decode mt_Re_readComparison.2.1 39 = .ok (.iconst 0, 1) := by decide +kernel
theorem d_Re_readComparison_40 : decode mt_Re_readComparison.2.1 40 = .ok (.ireturn, 1) := by decide +kernel
theorem d_Re_readComparison_41 : decode mt_Re_readComparison.2.1 41 = .ok (.aload_n 2, 1) := by decide +kernel
theorem d_Re_readComparison_42 : decode mt_Re_readComparison.2.1 42 = .ok (.iload_n 3, 1) := by decide +kernel
theorem d_Re_readComparison_43 : decode mt_Re_readComparison.2.1 43 = .ok (.iconst (-1), 1) := by decide +kernel
theorem d_Re_readComparison_44 : decode mt_Re_readComparison.2.1 44 = .ok (.ixor, 1) := by decide +kernel
theorem d_Re_readComparison_45 : decode mt_Re_readComparison.2.1 45 = .ok (.invokevirtual 91, 3) := by decide +kernel
theorem d_Re_readComparison_48 : decode mt_Re_readComparison.2.1 48 = .ok (.iconst 1, 1) := by decide +kernel
theorem d_Re_readComparison_49 : decode mt_Re_readComparison.2.1 49 = .ok (.ireturn, 1) := by decide +kernel
theorem d_Re_readTerm_0 : decode mt_Re_readTerm.2.1 0 = .ok (.aload_n 0, 1) := by decide +kernel
theorem d_Re_readTerm_1 : decode mt_Re_readTerm.2.1 1 = .ok (.getfield 43, 3) := by decide +kernel
theorem d_Re_readTerm_4 : decode mt_Re_readTerm.2.1 4 = .ok (.bipush 40, 2) := by decide +kernel
theorem d_Re_readTerm_6 : decode mt_Re_readTerm.2.1 6 = .ok (.if_icmp .ne 34, 3) := by decide +kernel
theorem d_Re_readTerm_9 : decode mt_Re_readTerm.2.1 9 = .ok (.aload_n 0, 1) := by decide +kernel
theorem d_Re_readTerm_10 : decode mt_Re_readTerm.2.1 10 = .ok (.invokevirtual 32, 3) := by decide +kernel
theorem d_Re_readTerm_13 : decode mt_Re_readTerm.2.1 13 = .ok (.aload_n 0, 1) := by decide +kernel
theorem d_Re_readTerm_14 : decode mt_Re_readTerm.2.1 14 = .ok (.iconst 0, 1) := by decide +kernel
theorem d_Re_readTerm_15 : decode mt_Re_readTerm.2.1 15 = .ok (.iload_n 1, 1) := by decide +kernel
theorem d_Re_readTerm_16 : decode mt_Re_readTerm.2.1 16 = .ok (.iconst 1, 1) := by decide +kernel
theorem d_Re_readTerm_17 : decode mt_Re_readTerm.2.1 17 = .ok (.iadd, 1) := by decide +kernel
theorem d_Re_readTerm_18 : decode mt_Re_readTerm.2.1 18 = .ok (.aload_n 2, 1) := by decide +kernel
theorem d_Re_readTerm_19 : decode mt_Re_readTerm.2.1 19 = .ok (.invokevirtual 76, 3) := by decide +kernel
theorem d_Re_readTerm_22 : decode mt_Re_readTerm.2.1 22 = .ok (.ifCond .eq 16, 3) := by decide +kernel
theorem d_Re_readTerm_25 : decode mt_Re_readTerm.2.1 25 = .ok (.aload_n 0, 1) := by decide +kernel
theorem d_Re_readTerm_26 : decode mt_Re_readTerm.2.1 26 = .ok (.bipush 41, 2) := by decide +kernel
theorem d_Re_readTerm_28 : decode mt_Re_readTerm.2.1 28 = .ok (.invokevirtual 73, 3) := by decide +kernel
theorem d_Re_readTerm_31 : decode mt_Re_readTerm.2.1 31 = .ok (.ifCond .eq 7, 3) := by decide +kernel
theorem d_Re_readTerm_34 : decode mt_Re_readTerm.2.1 34 = .ok (.iconst 1, 1) := by decide +kernel
theorem d_Re_readTerm_35 : decode mt_Re_readTerm.2.1 35 = .ok (.goto 4, 3) := by decide +kernel
theorem d_Re_readTerm_38 : decode mt_Re_readTerm.2.1 38 = .ok (.iconst 0, 1) := by decide +kernel
theorem d_Re_readTerm_39 : decode mt_Re_readTerm.2.1 39 = .ok (.ireturn, 1) := by decide +kernel
theorem d_Re_readTerm_40 : decode mt_Re_readTerm.2.1 40 = .ok (.aload_n 0, 1) := by decide +kernel
theorem d_Re_readTerm_41 : decode mt_Re_readTerm.2.1 41 = .ok (.getfield 43, 3) := by decide +kernel
theorem d_Re_readTerm_44 : decode mt_Re_readTerm.2.1 44 = .ok (.bipush 8, 2) := by decide +kernel
theorem d_Re_readTerm_46 : decode mt_Re_readTerm.2.1 46 = .ok (.if_icmp .lt 16, 3) := by decide +kernel
theorem d_Re_readTerm_49 : decode mt_Re_readTerm.2.1 49 = .ok (.aload_n 0, 1) := by decide +kernel
theorem d_Re_readTerm_50 : decode mt_Re_readTerm.2.1 50 = .ok (.getfield 43, 3) := by decide +kernel
theorem d_Re_readTerm_53 : decode mt_Re_readTerm.2.1 53 = .ok (.bipush 17, 2) := by decide +kernel
theorem d_Re_readTerm_55 : decode mt_Re_readTerm.2.1 55 = .ok (.if_icmp .gt 7, 3) := by decide +kernel
theorem d_Re_readTerm_58 : decode mt_Re_readTerm.2.1 58 = .ok (.iconst 1, 1) := by decide +kernel
theorem d_Re_readTerm_59 : decode mt_Re_readTerm.2.1 59 = .ok (.goto 4, 3) := by decide +kernel
theorem d_Re_readTerm_62 : decode mt_Re_readTerm.2.1 62 = .ok (.iconst 0, 1) := by decide +kernel
theorem d_Re_readTerm_63 : decode mt_Re_readTerm.2.1 63 = .ok (.istore_n 3, 1) := by decide +kernel
theorem d_Re_readTerm_64 : decode mt_Re_readTerm.2.1 64 = .ok (.iload_n 3, 1) := by decide +kernel
theorem d_Re_readTerm_65 : decode mt_Re_readTerm.2.1 65 = .ok (.ifCond .ne 23, 3) := by decide +kernel
theorem d_Re_readTerm_68 : decode mt_Re_readTerm.2.1 68 = .ok (.aload_n 0, 1) := by decide +kernel
theorem d_Re_readTerm_69 : decode mt_Re_readTerm.2.1 69 = .ok (.getfield 43, 3) := by decide +kernel
theorem d_Re_readTerm_72 : decode mt_Re_readTerm.2.1 72 = .ok (.sipush 303, 3) := by decide +kernel
theorem d_Re_readTerm_75 : decode mt_Re_readTerm.2.1 75 = .ok (.if_icmp .eq 13, 3) := by decide +kernel
theorem d_Re_readTerm_78 : decode mt_Re_readTerm.2.1 78 = .ok (.aload_n 0, 1) := by decide +kernel
theorem d_Re_readTerm_79 : decode mt_Re_readTerm.2.1 79 = .ok (.getfield 43, 3) := by decide +kernel
theorem d_Re_readTerm_82 : decode mt_Re_readTerm.2.1 82 = .ok (.sipush 302, 3) := by decide +kernel
theorem d_Re_readTerm_85 : decode mt_Re_readTerm.2.1 85 = .ok (.if_icmp .ne 7, 3) := by decide +kernel
theorem d_Re_readTerm_88 : decode mt_Re_readTerm.2.1 88 = .ok (.iconst 1, 1) := by decide +kernel
theorem d_Re_readTerm_89 : decode mt_Re_readTerm.2.1 89 = .ok (.goto 4, 3) := by decide +kernel
theorem d_Re_readTerm_92 : decode mt_Re_readTerm.2.1 92 = .ok (.iconst 0, 1) := by decide +kernel
theorem d_Re_readTerm_93 : decode mt_Re_readTerm.2.1 93 = .ok (.istore 4, 2) := by decide +kernel
theorem d_Re_readTerm_95 : decode mt_Re_readTerm.2.1 95 = .ok (.iload 4, 2) := by decide +kernel
theorem d_Re_readTerm_97 : decode mt_Re_readTerm.2.1 97 = .ok (.ifCond .eq 12, 3) := by decide +kernel
theorem d_Re_readTerm_100 : decode mt_Re_readTerm.2.1 100 = .ok (.aload_n 0, 1) := by decide +kernel
theorem d_Re_readTerm_101 : decode mt_Re_readTerm.2.1 101 = .ok (.getfield 35, 3) := by decide +kernel
theorem d_Re_readTerm_104 : decode mt_Re_readTerm.2.1 104 = .ok (.bipush 80, 2) := by decide +kernel
theorem d_Re_readTerm_106 : decode mt_Re_readTerm.2.1 106 = .ok (.if_icmp .lt 9, 3) := by decide +kernel
theorem d_Re_readTerm_109 : decode mt_Re_readTerm.2.1 109 = .ok (.aload_n 0, 1) := by decide +kernel
theorem d_Re_readTerm_110 : decode mt_Re_readTerm.2.1 110 = .ok (.iconst 2, 1) := by decide +kernel
theorem d_Re_readTerm_111 : decode mt_Re_readTerm.2.1 111 = .ok (.invokevirtual 50, 3) := by decide +kernel
theorem d_Re_readTerm_114 : decode mt_Re_readTerm.2.1 114 = .ok (.ireturn, 1) := by decide +kernel
theorem d_Re_readTerm_115 : decode mt_Re_readTerm.2.1 115 = .ok (.aload_n 0, 1) := by decide +kernel
theorem d_Re_readTerm_116 : decode mt_Re_readTerm.2.1 116 = .ok (.getfield 43, 3) := by decide +kernel
theorem d_Re_readTerm_119 : decode mt_Re_readTerm.2.1 119 = .ok (.sipush 303, 3) := by decide +kernel
theorem d_Re_readTerm_122 : decode mt_Re_readTerm.2.1 122 = .ok (.if_icmp .ne 9, 3) := by decide +kernel
theorem d_Re_readTerm_125 : decode mt_Re_readTerm.2.1 125 = .ok (.aload_n 0, 1) := by decide +kernel
theorem d_Re_readTerm_126 : decode mt_Re_readTerm.2.1 126 = .ok (.iconst 3, 1) := by decide +kernel
theorem d_Re_readTerm_127 : decode mt_Re_readTerm.2.1 127 = .ok (.invokevirtual 50, 3) := by decide +kernel
theorem d_Re_readTerm_130 : decode mt_Re_readTerm.2.1 130 = .ok (.ireturn, 1) := by decide +kernel
theorem d_Re_readTerm_131 : decode mt_Re_readTerm.2.1 131 = .ok (.aload_n 0, 1) := by decide +kernel
theorem d_Re_readTerm_132 : decode mt_Re_readTerm.2.1 132 = .ok (.dup, 1) := by decide +kernel
theorem d_Re_readTerm_133 : decode mt_Re_readTerm.2.1 133 = .ok (.getfield 35, 3) := by decide +kernel
theorem d_Re_readTerm_136 : decode mt_Re_readTerm.2.1 136 = .ok (.iconst 1, 1) := by decide +kernel
theorem d_Re_readTerm_137 : decode mt_Re_readTerm.2.1 137 = .ok (.iadd, 1) := by decide +kernel
theorem d_Re_readTerm_138 : decode mt_Re_readTerm.2.1 138 = .ok (.putfield 35, 3) := by decide +kernel
theorem d_Re_readTerm_141 : decode mt_Re_readTerm.2.1 141 = .ok (.aload_n 2, 1) := by decide +kernel
theorem d_Re_readTerm_142 : decode mt_Re_readTerm.2.1 142 = .ok (.iload_n 3, 1) := by decide +kernel
theorem d_Re_readTerm_143 : decode mt_Re_readTerm.2.1 143 = .ok (.ifCond .eq 12, 3) := by decide +kernel
theorem d_Re_readTerm_146 : decode mt_Re_readTerm.2.1 146 = .ok (.aload_n 0, 1) := by decide +kernel
theorem d_Re_readTerm_147 : decode mt_Re_readTerm.2.1 147 = .ok (.getfield 43, 3) := by decide +kernel
theorem d_Re_readTerm_150 : decode mt_Re_readTerm.2.1 150 = .ok (.iconst (-1), 1) := by decide +kernel
theorem d_Re_readTerm_151 : decode mt_Re_readTerm.2.1 151 = .ok (.ixor, 1) := by decide +kernel
theorem d_Re_readTerm_152 : decode mt_Re_readTerm.2.1 152 = .ok (.goto 7, 3) := by decide +kernel
theorem d_Re_readTerm_155 : decode mt_Re_readTerm.2.1 155 = .ok (.aload_n 0, 1) := by decide +kernel
theorem d_Re_readTerm_156 : decode mt_Re_readTerm.2.1 156 = .ok (.getfield 70, 3) := by decide +kernel
theorem d_Re_readTerm_159 : decode mt_Re_readTerm.2.1 159 = .ok (.invokevirtual 91, 3) := by decide +kernel
theorem d_Re_readTerm_162 : decode mt_Re_readTerm.2.1 162 = .ok (.aload_n 0, 1) := by decide +kernel
theorem d_Re_readTerm_163 : decode mt_Re_readTerm.2.1 163 = .ok (.invokevirtual 32, 3) := by decide +kernel
theorem d_Re_readTerm_166 : decode mt_Re_readTerm.2.1 166 = .ok (.iconst 1, 1) := by decide +kernel
theorem d_Re_readTerm_167 : decode mt_Re_readTerm.2.1 167 = .ok (.ireturn, 1) := by decide +kernel
theorem d_Re_isJoint_0 : decode mt_Re_isJoint.2.1 0 = .ok (.iload_n 1, 1) := by decide +kernel
theorem d_Re_isJoint_1 : decode mt_Re_isJoint.2.1 1 = .ok (.lookupswitch 56 #[(0, 27), (1, 41)], 27) := by decide +kernel
theorem d_Re_isJoint_28 : decode mt_Re_isJoint.2.1 28 = .ok (.aload_n 0, 1) := by decide +kernel
theorem d_Re_isJoint_29 : decode mt_Re_isJoint.2.1 29 = .ok (.getfield 43, 3) := by decide +kernel
theorem d_Re_isJoint_32 : decode mt_Re_isJoint.2.1 32 = .ok (.iconst 5, 1) := by decide +kernel
theorem d_Re_isJoint_33 : decode mt_Re_isJoint.2.1 33 = .ok (.if_icmp .ne 7, 3) := by decide +kernel
theorem d_Re_isJoint_36 : decode mt_Re_isJoint.2.1 36 = .ok (.iconst 1, 1) := by decide +kernel
theorem d_Re_isJoint_37 : decode mt_Re_isJoint.2.1 37 = .ok (.goto 4, 3) := by decide +kernel
theorem d_Re_isJoint_40 : decode mt_Re_isJoint.2.1 40 = .ok (.iconst 0, 1) := by decide +kernel
theorem d_Re_isJoint_41 : decode mt_Re_isJoint.2.1 41 = .ok (.ireturn, 1) := by decide +kernel
theorem d_Re_isJoint_42 : decode mt_Re_isJoint.2.1 42 = .ok (.aload_n 0, 1) := by decide +kernel
theorem d_Re_isJoint_43 : decode mt_Re_isJoint.2.1 43 = .ok (.getfield 43, 3) := by decide +kernel
theorem d_Re_isJoint_46 : decode mt_Re_isJoint.2.1 46 = .ok (.bipush 6, 2) := by decide +kernel
theorem d_Re_isJoint_48 : decode mt_Re_isJoint.2.1 48 = .ok (.if_icmp .ne 7, 3) := by decide +kernel
theorem d_Re_isJoint_51 : decode mt_Re_isJoint.2.1 51 = .ok (.iconst 1, 1) := by decide +kernel
theorem d_Re_isJoint_52 : decode mt_Re_isJoint.2.1 52 = .ok (.goto 4, 3) := by decide +kernel
theorem d_Re_isJoint_55 : decode mt_Re_isJoint.2.1 55 = .ok (.iconst 0, 1) := by decide +kernel
theorem d_Re_isJoint_56 : decode mt_Re_isJoint.2.1 56 = .ok (.ireturn, 1) := by decide +kernel
theorem d_Re_isJoint_57 : decode mt_Re_isJoint.2.1 57 = .ok (.aload_n 0, 1) := by decide +kernel
theorem d_Re_isJoint_58 : decode mt_Re_isJoint.2.1 58 = .ok (.getfield 43, 3) := by decide +kernel
theorem d_Re_isJoint_61 : decode mt_Re_isJoint.2.1 61 = .ok (.bipush 43, 2) := by decide +kernel
theorem d_Re_isJoint_63 : decode mt_Re_isJoint.2.1 63 = .ok (.if_icmp .eq 12, 3) := by decide +kernel
theorem d_Re_isJoint_66 : decode mt_Re_isJoint.2.1 66 = .ok (.aload_n 0, 1) := by decide +kernel
theorem d_Re_isJoint_67 : decode mt_Re_isJoint.2.1 67 = .ok (.getfield 43, 3) := by decide +kernel
theorem d_Re_isJoint_70 : decode mt_Re_isJoint.2.1 70 = .ok (.bipush 45, 2) := by decide +kernel
theorem d_Re_isJoint_72 : decode mt_Re_isJoint.2.1 72 = .ok (.if_icmp .ne 7, 3) := by decide +kernel
theorem d_Re_isJoint_75 : decode mt_Re_isJoint.2.1 75 = .ok (.iconst 1, 1) := by decide +kernel
theorem d_Re_isJoint_76 : decode mt_Re_isJoint.2.1 76 = .ok (.goto 4, 3) := by decide +kernel
theorem d_Re_isJoint_79 : decode mt_Re_isJoint.2.1 79 = .ok (.iconst 0, 1) := by decide +kernel
theorem d_Re_isJoint_80 : decode mt_Re_isJoint.2.1 80 = .ok (.ireturn, 1) := by decide +kernel
theorem d_Or_closeLine_0 : decode mt_Or_closeLine.2.1 0 = .ok (.aload_n 0, 1) := by decide +kernel
theorem d_Or_closeLine_1 : decode mt_Or_closeLine.2.1 1 = .ok (.getfield 31, 3) := by decide +kernel
theorem d_Or_closeLine_4 : decode mt_Or_closeLine.2.1 4 = .ok (.bipush 8, 2) := by decide +kernel
theorem d_Or_closeLine_6 : decode mt_Or_closeLine.2.1 6 = .ok (.if_icmp .ge 36, 3) := by decide +kernel
theorem d_Or_closeLine_9 : decode mt_Or_closeLine.2.1 9 = .ok (.aload_n 0, 1) := by decide +kernel
theorem d_Or_closeLine_10 : decode mt_Or_closeLine.2.1 10 = .ok (.getfield 15, 3) := by decide +kernel
theorem d_Or_closeLine_13 : decode mt_Or_closeLine.2.1 13 = .ok (.aload_n 0, 1) := by decide +kernel
theorem d_Or_closeLine_14 : decode mt_Or_closeLine.2.1 14 = .ok (.getfield 31, 3) := by decide +kernel
theorem d_Or_closeLine_17 : decode mt_Or_closeLine.2.1 17 = .ok (.aload_n 0, 1) := by decide +kernel
theorem d_Or_closeLine_18 : decode mt_Or_closeLine.2.1 18 = .ok (.getfield 27, 3) := by decide +kernel
theorem d_Or_closeLine_21 : decode mt_Or_closeLine.2.1 21 = .ok (.iastore, 1) := by decide +kernel
theorem d_Or_closeLine_22 : decode mt_Or_closeLine.2.1 22 = .ok (.aload_n 0, 1) := by decide +kernel
theorem d_Or_closeLine_23 : decode mt_Or_closeLine.2.1 23 = .ok (.getfield 18, 3) := by decide +kernel
theorem d_Or_closeLine_26 : decode mt_Or_closeLine.2.1 26 = .ok (.aload_n 0, 1) := by decide +kernel
theorem d_Or_closeLine_27 : decode mt_Or_closeLine.2.1 27 = .ok (.getfield 31, 3) := by decide +kernel
theorem d_Or_closeLine_30 : decode mt_Or_closeLine.2.1 30 = .ok (.iload_n 1, 1) := by decide +kernel
theorem d_Or_closeLine_31 : decode mt_Or_closeLine.2.1 31 = .ok (.iastore, 1) := by decide +kernel
theorem d_Or_closeLine_32 : decode mt_Or_closeLine.2.1 32 = .ok (.aload_n 0, 1) := by decide +kernel
theorem d_Or_closeLine_33 : decode mt_Or_closeLine.2.1 33 = .ok (.dup, 1) := by decide +kernel
theorem d_Or_closeLine_34 : decode mt_Or_closeLine.2.1 34 = .ok (.getfield 31, 3) := by decide +kernel
theorem d_Or_closeLine_37 : decode mt_Or_closeLine.2.1 37 = .ok (.iconst 1, 1) := by decide +kernel
theorem d_Or_closeLine_38 : decode mt_Or_closeLine.2.1 38 = .ok (.iadd, 1) := by decide +kernel
theorem d_Or_closeLine_39 : decode mt_Or_closeLine.2.1 39 = .ok (.putfield 31, 3) := by decide +kernel
theorem d_Or_closeLine_42 : decode mt_Or_closeLine.2.1 42 = .ok (.return_, 1) := by decide +kernel
theorem d_K_fault_0 : decode mt_K_fault.2.1 0 = .ok (.iload_n 1, 1) := by decide +kernel
theorem d_K_fault_1 : decode mt_K_fault.2.1 1 = .ok (.lookupswitch 43 #[(0, 27), (1, 35)], 27) := by decide +kernel
theorem d_K_fault_28 : decode mt_K_fault.2.1 28 = .ok (.aload_n 0, 1) := by decide +kernel
theorem d_K_fault_29 : decode mt_K_fault.2.1 29 = .ok (.getfield 66, 3) := by decide +kernel
theorem d_K_fault_32 : decode mt_K_fault.2.1 32 = .ok (.getfield 158, 3) := by decide +kernel
theorem d_K_fault_35 : decode mt_K_fault.2.1 35 = .ok (.ireturn, 1) := by decide +kernel
theorem d_K_fault_36 : decode mt_K_fault.2.1 36 = .ok (.aload_n 0, 1) := by decide +kernel
theorem d_K_fault_37 : decode mt_K_fault.2.1 37 = .ok (.getfield 66, 3) := by decide +kernel
theorem d_K_fault_40 : decode mt_K_fault.2.1 40 = .ok (.getfield 161, 3) := by decide +kernel
theorem d_K_fault_43 : decode mt_K_fault.2.1 43 = .ok (.ireturn, 1) := by decide +kernel
theorem d_K_fault_44 : decode mt_K_fault.2.1 44 = .ok (.iconst (-1), 1) := by decide +kernel
theorem d_K_fault_45 : decode mt_K_fault.2.1 45 = .ok (.ireturn, 1) := by decide +kernel
theorem d_K_days_0 : decode mt_K_days.2.1 0 = .ok (.iload_n 1, 1) := by decide +kernel
theorem d_K_days_1 : decode mt_K_days.2.1 1 = .ok (.sipush 400, 3) := by decide +kernel
theorem d_K_days_4 : decode mt_K_days.2.1 4 = .ok (.invokestatic 87, 3) := by decide +kernel
theorem d_K_days_7 : decode mt_K_days.2.1 7 = .ok (.ifCond .ne 5, 3) := by decide +kernel
theorem d_K_days_10 : decode mt_K_days.2.1 10 = .ok (.iconst (-1), 1) := by decide +kernel
theorem d_K_days_11 : decode mt_K_days.2.1 11 = .ok (.ireturn, 1) := by decide +kernel
theorem d_K_days_12 : decode mt_K_days.2.1 12 = .ok (.iload_n 1, 1) := by decide +kernel
theorem d_K_days_13 : decode mt_K_days.2.1 13 = .ok (.ldc 164, 2) := by decide +kernel
theorem d_K_days_15 : decode mt_K_days.2.1 15 = .ok (.aload_n 0, 1) := by decide +kernel
theorem d_K_days_16 : decode mt_K_days.2.1 16 = .ok (.getfield 132, 3) := by decide +kernel
theorem d_K_days_19 : decode mt_K_days.2.1 19 = .ok (.isub, 1) := by decide +kernel
theorem d_K_days_20 : decode mt_K_days.2.1 20 = .ok (.invokestatic 165, 3) := by decide +kernel
theorem d_K_days_23 : decode mt_K_days.2.1 23 = .ok (.istore_n 2, 1) := by decide +kernel
theorem d_K_days_24 : decode mt_K_days.2.1 24 = .ok (.iconst 0, 1) := by decide +kernel
theorem d_K_days_25 : decode mt_K_days.2.1 25 = .ok (.istore_n 3, 1) := by decide +kernel
theorem d_K_days_26 : decode mt_K_days.2.1 26 = .ok (.iload_n 3, 1) := by decide +kernel
theorem d_K_days_27 : decode mt_K_days.2.1 27 = .ok (.iload_n 2, 1) := by decide +kernel
theorem d_K_days_28 : decode mt_K_days.2.1 28 = .ok (.if_icmp .ge 13, 3) := by decide +kernel
theorem d_K_days_31 : decode mt_K_days.2.1 31 = .ok (.aload_n 0, 1) := by decide +kernel
theorem d_K_days_32 : decode mt_K_days.2.1 32 = .ok (.invokevirtual 170, 3) := by decide +kernel
theorem d_K_days_35 : decode mt_K_days.2.1 35 = .ok (.iinc 3 1, 3) := by decide +kernel
theorem d_K_days_38 : decode mt_K_days.2.1 38 = .ok (.goto (-12), 3) := by decide +kernel
theorem d_K_days_41 : decode mt_K_days.2.1 41 = .ok (.iload_n 2, 1) := by decide +kernel
theorem d_K_days_42 : decode mt_K_days.2.1 42 = .ok (.ireturn, 1) := by decide +kernel
theorem d_JM_min_0 : decode mt_JM_min.2.1 0 = .ok (.iload_n 0, 1) := by decide +kernel
theorem d_JM_min_1 : decode mt_JM_min.2.1 1 = .ok (.iload_n 1, 1) := by decide +kernel
theorem d_JM_min_2 : decode mt_JM_min.2.1 2 = .ok (.if_icmp .gt 7, 3) := by decide +kernel
theorem d_JM_min_5 : decode mt_JM_min.2.1 5 = .ok (.iload_n 0, 1) := by decide +kernel
theorem d_JM_min_6 : decode mt_JM_min.2.1 6 = .ok (.goto 4, 3) := by decide +kernel
theorem d_JM_min_9 : decode mt_JM_min.2.1 9 = .ok (.iload_n 1, 1) := by decide +kernel
theorem d_JM_min_10 : decode mt_JM_min.2.1 10 = .ok (.ireturn, 1) := by decide +kernel
theorem d_K_passDay_0 : decode mt_K_passDay.2.1 0 = .ok (.iconst 0, 1) := by decide +kernel
theorem d_K_passDay_1 : decode mt_K_passDay.2.1 1 = .ok (.istore_n 1, 1) := by decide +kernel
theorem d_K_passDay_2 : decode mt_K_passDay.2.1 2 = .ok (.iload_n 1, 1) := by decide +kernel
theorem d_K_passDay_3 : decode mt_K_passDay.2.1 3 = .ok (.aload_n 0, 1) := by decide +kernel
theorem d_K_passDay_4 : decode mt_K_passDay.2.1 4 = .ok (.getfield 115, 3) := by decide +kernel
theorem d_K_passDay_7 : decode mt_K_passDay.2.1 7 = .ok (.if_icmp .ge 66, 3) := by decide +kernel
theorem d_K_passDay_10 : decode mt_K_passDay.2.1 10 = .ok (.aload_n 0, 1) := by decide +kernel
theorem d_K_passDay_11 : decode mt_K_passDay.2.1 11 = .ok (.iload_n 1, 1) := by decide +kernel
theorem d_K_passDay_12 : decode mt_K_passDay.2.1 12 = .ok (.invokevirtual 125, 3) := by decide +kernel
theorem d_K_passDay_15 : decode mt_K_passDay.2.1 15 = .ok (.astore_n 2, 1) := by decide +kernel
theorem d_K_passDay_16 : decode mt_K_passDay.2.1 16 = .ok (.aload_n 2, 1) := by decide +kernel
theorem d_K_passDay_17 : decode mt_K_passDay.2.1 17 = .ok (.ifnull 50, 3) := by decide +kernel
theorem d_K_passDay_20 : decode mt_K_passDay.2.1 20 = .ok (.aload_n 0, 1) := by decide +kernel
theorem d_K_passDay_21 : decode mt_K_passDay.2.1 21 = .ok (.getfield 10, 3) := by decide +kernel
theorem d_K_passDay_24 : decode mt_K_passDay.2.1 24 = .ok (.aload_n 2, 1) := by decide +kernel
theorem d_K_passDay_25 : decode mt_K_passDay.2.1 25 = .ok (.getfield 138, 3) := by decide +kernel
theorem d_K_passDay_28 : decode mt_K_passDay.2.1 28 = .ok (.invokevirtual 302, 3) := by decide +kernel
theorem d_K_passDay_31 : decode mt_K_passDay.2.1 31 = .ok (.istore_n 3, 1) := by decide +kernel
theorem d_K_passDay_32 : decode mt_K_passDay.2.1 32 = .ok (.aload_n 0, 1) := by decide +kernel
theorem d_K_passDay_33 : decode mt_K_passDay.2.1 33 = .ok (.getfield 10, 3) := by decide +kernel
theorem d_K_passDay_36 : decode mt_K_passDay.2.1 36 = .ok (.aload_n 2, 1) := by decide +kernel
theorem d_K_passDay_37 : decode mt_K_passDay.2.1 37 = .ok (.getfield 138, 3) := by decide +kernel
theorem d_K_passDay_40 : decode mt_K_passDay.2.1 40 = .ok (.invokevirtual 305, 3) := by decide +kernel
theorem d_K_passDay_43 : decode mt_K_passDay.2.1 43 = .ok (.istore 4, 2) := by decide +kernel
theorem d_K_passDay_45 : decode mt_K_passDay.2.1 45 = .ok (.aload_n 0, 1) := by decide +kernel
theorem d_K_passDay_46 : decode mt_K_passDay.2.1 46 = .ok (.getfield 80, 3) := by decide +kernel
theorem d_K_passDay_49 : decode mt_K_passDay.2.1 49 = .ok (.aload_n 2, 1) := by decide +kernel
theorem d_K_passDay_50 : decode mt_K_passDay.2.1 50 = .ok (.iload_n 3, 1) := by decide +kernel
theorem d_K_passDay_51 : decode mt_K_passDay.2.1 51 = .ok (.iload 4, 2) := by decide +kernel
theorem d_K_passDay_53 : decode mt_K_passDay.2.1 53 = .ok (.aload_n 0, 1) := by decide +kernel
theorem d_K_passDay_54 : decode mt_K_passDay.2.1 54 = .ok (.getfield 132, 3) := by decide +kernel
theorem d_K_passDay_57 : decode mt_K_passDay.2.1 57 = .ok (.invokevirtual 308, 3) := by decide +kernel
theorem d_K_passDay_60 : decode mt_K_passDay.2.1 60 = .ok (.aload_n 2, 1) := by decide +kernel
theorem d_K_passDay_61 : decode mt_K_passDay.2.1 61 = .ok (.iload_n 3, 1) := by decide +kernel
theorem d_K_passDay_62 : decode mt_K_passDay.2.1 62 = .ok (.iload 4, 2) := by decide +kernel
theorem d_K_passDay_64 : decode mt_K_passDay.2.1 64 = .ok (.invokevirtual 312, 3) := by decide +kernel
theorem d_K_passDay_67 : decode mt_K_passDay.2.1 67 = .ok (.iinc 1 1, 3) := by decide +kernel
theorem d_K_passDay_70 : decode mt_K_passDay.2.1 70 = .ok (.goto (-68), 3) := by decide +kernel
theorem d_K_passDay_73 : decode mt_K_passDay.2.1 73 = .ok (.aload_n 0, 1) := by decide +kernel
theorem d_K_passDay_74 : decode mt_K_passDay.2.1 74 = .ok (.dup, 1) := by decide +kernel
theorem d_K_passDay_75 : decode mt_K_passDay.2.1 75 = .ok (.getfield 132, 3) := by decide +kernel
theorem d_K_passDay_78 : decode mt_K_passDay.2.1 78 = .ok (.iconst 1, 1) := by decide +kernel
theorem d_K_passDay_79 : decode mt_K_passDay.2.1 79 = .ok (.iadd, 1) := by decide +kernel
theorem d_K_passDay_80 : decode mt_K_passDay.2.1 80 = .ok (.putfield 132, 3) := by decide +kernel
theorem d_K_passDay_83 : decode mt_K_passDay.2.1 83 = .ok (.aload_n 0, 1) := by decide +kernel
theorem d_K_passDay_84 : decode mt_K_passDay.2.1 84 = .ok (.getfield 52, 3) := by decide +kernel
theorem d_K_passDay_87 : decode mt_K_passDay.2.1 87 = .ok (.invokevirtual 94, 3) := by decide +kernel
theorem d_K_passDay_90 : decode mt_K_passDay.2.1 90 = .ok (.return_, 1) := by decide +kernel
theorem d_Sh_airAt_0 : decode mt_Sh_airAt.2.1 0 = .ok (.iload_n 1, 1) := by decide +kernel
theorem d_Sh_airAt_1 : decode mt_Sh_airAt.2.1 1 = .ok (.bipush 23, 2) := by decide +kernel
theorem d_Sh_airAt_3 : decode mt_Sh_airAt.2.1 3 = .ok (.invokestatic 21, 3) := by decide +kernel
theorem d_Sh_airAt_6 : decode mt_Sh_airAt.2.1 6 = .ok (.ifCond .eq 12, 3) := by decide +kernel
theorem d_Sh_airAt_9 : decode mt_Sh_airAt.2.1 9 = .ok (.aload_n 0, 1) := by decide +kernel
theorem d_Sh_airAt_10 : decode mt_Sh_airAt.2.1 10 = .ok (.getfield 9, 3) := by decide +kernel
theorem d_Sh_airAt_13 : decode mt_Sh_airAt.2.1 13 = .ok (.iload_n 1, 1) := by decide +kernel
theorem d_Sh_airAt_14 : decode mt_Sh_airAt.2.1 14 = .ok (.iaload, 1) := by decide +kernel
theorem d_Sh_airAt_15 : decode mt_Sh_airAt.2.1 15 = .ok (.goto 4, 3) := by decide +kernel
theorem d_Sh_airAt_18 : decode mt_Sh_airAt.2.1 18 = .ok (.iconst 0, 1) := by decide +kernel
theorem d_Sh_airAt_19 : decode mt_Sh_airAt.2.1 19 = .ok (.ireturn, 1) := by decide +kernel
theorem d_Sh_dampAt_0 : decode mt_Sh_dampAt.2.1 0 = .ok (.iload_n 1, 1) := by decide +kernel
theorem d_Sh_dampAt_1 : decode mt_Sh_dampAt.2.1 1 = .ok (.bipush 23, 2) := by decide +kernel
theorem d_Sh_dampAt_3 : decode mt_Sh_dampAt.2.1 3 = .ok (.invokestatic 21, 3) := by decide +kernel
theorem d_Sh_dampAt_6 : decode mt_Sh_dampAt.2.1 6 = .ok (.ifCond .eq 15, 3) := by decide +kernel
theorem d_Sh_dampAt_9 : decode mt_Sh_dampAt.2.1 9 = .ok (.aload_n 0, 1) := by decide +kernel
theorem d_Sh_dampAt_10 : decode mt_Sh_dampAt.2.1 10 = .ok (.getfield 15, 3) := by decide +kernel
theorem d_Sh_dampAt_13 : decode mt_Sh_dampAt.2.1 13 = .ok (.iload_n 1, 1) := by decide +kernel
theorem d_Sh_dampAt_14 : decode mt_Sh_dampAt.2.1 14 = .ok (.bipush 6, 2) := by decide +kernel
theorem d_Sh_dampAt_16 : decode mt_Sh_dampAt.2.1 16 = .ok (.idiv, 1) := by decide +kernel
theorem d_Sh_dampAt_17 : decode mt_Sh_dampAt.2.1 17 = .ok (.iaload, 1) := by decide +kernel
theorem d_Sh_dampAt_18 : decode mt_Sh_dampAt.2.1 18 = .ok (.goto 4, 3) := by decide +kernel
theorem d_Sh_dampAt_21 : decode mt_Sh_dampAt.2.1 21 = .ok (.iconst 0, 1) := by decide +kernel
theorem d_Sh_dampAt_22 : decode mt_Sh_dampAt.2.1 22 = .ok (.ireturn, 1) := by decide +kernel
theorem d_Or_obeyFor_0 : decode mt_Or_obeyFor.2.1 0 = .ok (.aload_n 0, 1) := by decide +kernel
theorem d_Or_obeyFor_1 : decode mt_Or_obeyFor.2.1 1 = .ok (.getfield 21, 3) := by decide +kernel
theorem d_Or_obeyFor_4 : decode mt_Or_obeyFor.2.1 4 = .ok (.bipush 13, 2) := by decide +kernel
theorem d_Or_obeyFor_6 : decode mt_Or_obeyFor.2.1 6 = .ok (.iload_n 2, 1) := by decide +kernel
theorem d_Or_obeyFor_7 : decode mt_Or_obeyFor.2.1 7 = .ok (.iastore, 1) := by decide +kernel
theorem d_Or_obeyFor_8 : decode mt_Or_obeyFor.2.1 8 = .ok (.aload_n 0, 1) := by decide +kernel
theorem d_Or_obeyFor_9 : decode mt_Or_obeyFor.2.1 9 = .ok (.getfield 21, 3) := by decide +kernel
theorem d_Or_obeyFor_12 : decode mt_Or_obeyFor.2.1 12 = .ok (.bipush 14, 2) := by decide +kernel
theorem d_Or_obeyFor_14 : decode mt_Or_obeyFor.2.1 14 = .ok (.iload_n 3, 1) := by decide +kernel
theorem d_Or_obeyFor_15 : decode mt_Or_obeyFor.2.1 15 = .ok (.iastore, 1) := by decide +kernel
theorem d_Or_obeyFor_16 : decode mt_Or_obeyFor.2.1 16 = .ok (.aload_n 0, 1) := by decide +kernel
theorem d_Or_obeyFor_17 : decode mt_Or_obeyFor.2.1 17 = .ok (.getfield 21, 3) := by decide +kernel
theorem d_Or_obeyFor_20 : decode mt_Or_obeyFor.2.1 20 = .ok (.bipush 17, 2) := by decide +kernel
theorem d_Or_obeyFor_22 : decode mt_Or_obeyFor.2.1 22 = .ok (.iload 4, 2) := by decide +kernel
theorem d_Or_obeyFor_24 : decode mt_Or_obeyFor.2.1 24 = .ok (.iastore, 1) := by decide +kernel
theorem d_Or_obeyFor_25 : decode mt_Or_obeyFor.2.1 25 = .ok (.iconst 0, 1) := by decide +kernel
theorem d_Or_obeyFor_26 : decode mt_Or_obeyFor.2.1 26 = .ok (.istore 5, 2) := by decide +kernel
theorem d_Or_obeyFor_28 : decode mt_Or_obeyFor.2.1 28 = .ok (.iconst 0, 1) := by decide +kernel
theorem d_Or_obeyFor_29 : decode mt_Or_obeyFor.2.1 29 = .ok (.istore 6, 2) := by decide +kernel
theorem d_Or_obeyFor_31 : decode mt_Or_obeyFor.2.1 31 = .ok (.iload 6, 2) := by decide +kernel
theorem d_Or_obeyFor_33 : decode mt_Or_obeyFor.2.1 33 = .ok (.aload_n 0, 1) := by decide +kernel
theorem d_Or_obeyFor_34 : decode mt_Or_obeyFor.2.1 34 = .ok (.getfield 31, 3) := by decide +kernel
theorem d_Or_obeyFor_37 : decode mt_Or_obeyFor.2.1 37 = .ok (.if_icmp .ge 52, 3) := by decide +kernel
theorem d_Or_obeyFor_40 : decode mt_Or_obeyFor.2.1 40 = .ok (.aload_n 0, 1) := by decide +kernel
theorem d_Or_obeyFor_41 : decode mt_Or_obeyFor.2.1 41 = .ok (.aload_n 1, 1) := by decide +kernel
theorem d_Or_obeyFor_42 : decode mt_Or_obeyFor.2.1 42 = .ok (.iload 4, 2) := by decide +kernel
theorem d_Or_obeyFor_44 : decode mt_Or_obeyFor.2.1 44 = .ok (.invokevirtual 34, 3) := by decide +kernel
theorem d_Or_obeyFor_47 : decode mt_Or_obeyFor.2.1 47 = .ok (.aload_n 0, 1) := by decide +kernel
theorem d_Or_obeyFor_48 : decode mt_Or_obeyFor.2.1 48 = .ok (.iload 5, 2) := by decide +kernel
theorem d_Or_obeyFor_50 : decode mt_Or_obeyFor.2.1 50 = .ok (.aload_n 0, 1) := by decide +kernel
theorem d_Or_obeyFor_51 : decode mt_Or_obeyFor.2.1 51 = .ok (.getfield 15, 3) := by decide +kernel
theorem d_Or_obeyFor_54 : decode mt_Or_obeyFor.2.1 54 = .ok (.iload 6, 2) := by decide +kernel
theorem d_Or_obeyFor_56 : decode mt_Or_obeyFor.2.1 56 = .ok (.iaload, 1) := by decide +kernel
theorem d_Or_obeyFor_57 : decode mt_Or_obeyFor.2.1 57 = .ok (.invokevirtual 38, 3) := by decide +kernel
theorem d_Or_obeyFor_60 : decode mt_Or_obeyFor.2.1 60 = .ok (.ifCond .eq 14, 3) := by decide +kernel
theorem d_Or_obeyFor_63 : decode mt_Or_obeyFor.2.1 63 = .ok (.aload_n 1, 1) := by decide +kernel
theorem d_Or_obeyFor_64 : decode mt_Or_obeyFor.2.1 64 = .ok (.aload_n 0, 1) := by decide +kernel
theorem d_Or_obeyFor_65 : decode mt_Or_obeyFor.2.1 65 = .ok (.getfield 18, 3) := by decide +kernel
theorem d_Or_obeyFor_68 : decode mt_Or_obeyFor.2.1 68 = .ok (.iload 6, 2) := by decide +kernel
theorem d_Or_obeyFor_70 : decode mt_Or_obeyFor.2.1 70 = .ok (.iaload, 1) := by decide +kernel
theorem d_Or_obeyFor_71 : decode mt_Or_obeyFor.2.1 71 = .ok (.invokevirtual 42, 3) := by decide +kernel
theorem d_Or_obeyFor_74 : decode mt_Or_obeyFor.2.1 74 = .ok (.aload_n 0, 1) := by decide +kernel
theorem d_Or_obeyFor_75 : decode mt_Or_obeyFor.2.1 75 = .ok (.getfield 15, 3) := by decide +kernel
theorem d_Or_obeyFor_78 : decode mt_Or_obeyFor.2.1 78 = .ok (.iload 6, 2) := by decide +kernel
theorem d_Or_obeyFor_80 : decode mt_Or_obeyFor.2.1 80 = .ok (.iaload, 1) := by decide +kernel
theorem d_Or_obeyFor_81 : decode mt_Or_obeyFor.2.1 81 = .ok (.istore 5, 2) := by decide +kernel
theorem d_Or_obeyFor_83 : decode mt_Or_obeyFor.2.1 83 = .ok (.iinc 6 1, 3) := by decide +kernel
theorem d_Or_obeyFor_86 : decode mt_Or_obeyFor.2.1 86 = .ok (.goto (-55), 3) := by decide +kernel
theorem d_Or_obeyFor_89 : decode mt_Or_obeyFor.2.1 89 = .ok (.return_, 1) := by decide +kernel
theorem d_Or_nameThings_0 : decode mt_Or_nameThings.2.1 0 = .ok (.aload_n 0, 1) := by decide +kernel
theorem d_Or_nameThings_1 : decode mt_Or_nameThings.2.1 1 = .ok (.getfield 21, 3) := by decide +kernel
theorem d_Or_nameThings_4 : decode mt_Or_nameThings.2.1 4 = .ok (.bipush 8, 2) := by decide +kernel
theorem d_Or_nameThings_6 : decode mt_Or_nameThings.2.1 6 = .ok (.aload_n 1, 1) := by decide +kernel
theorem d_Or_nameThings_7 : decode mt_Or_nameThings.2.1 7 = .ok (.getfield 48, 3) := by decide +kernel
theorem d_Or_nameThings_10 : decode mt_Or_nameThings.2.1 10 = .ok (.iastore, 1) := by decide +kernel
theorem d_Or_nameThings_11 : decode mt_Or_nameThings.2.1 11 = .ok (.aload_n 0, 1) := by decide +kernel
theorem d_Or_nameThings_12 : decode mt_Or_nameThings.2.1 12 = .ok (.getfield 21, 3) := by decide +kernel
theorem d_Or_nameThings_15 : decode mt_Or_nameThings.2.1 15 = .ok (.bipush 9, 2) := by decide +kernel
theorem d_Or_nameThings_17 : decode mt_Or_nameThings.2.1 17 = .ok (.iload_n 2, 1) := by decide +kernel
theorem d_Or_nameThings_18 : decode mt_Or_nameThings.2.1 18 = .ok (.aload_n 1, 1) := by decide +kernel
theorem d_Or_nameThings_19 : decode mt_Or_nameThings.2.1 19 = .ok (.getfield 51, 3) := by decide +kernel
theorem d_Or_nameThings_22 : decode mt_Or_nameThings.2.1 22 = .ok (.isub, 1) := by decide +kernel
theorem d_Or_nameThings_23 : decode mt_Or_nameThings.2.1 23 = .ok (.iastore, 1) := by decide +kernel
theorem d_Or_nameThings_24 : decode mt_Or_nameThings.2.1 24 = .ok (.aload_n 0, 1) := by decide +kernel
theorem d_Or_nameThings_25 : decode mt_Or_nameThings.2.1 25 = .ok (.getfield 21, 3) := by decide +kernel
theorem d_Or_nameThings_28 : decode mt_Or_nameThings.2.1 28 = .ok (.bipush 10, 2) := by decide +kernel
theorem d_Or_nameThings_30 : decode mt_Or_nameThings.2.1 30 = .ok (.aload_n 1, 1) := by decide +kernel
theorem d_Or_nameThings_31 : decode mt_Or_nameThings.2.1 31 = .ok (.getfield 54, 3) := by decide +kernel
theorem d_Or_nameThings_34 : decode mt_Or_nameThings.2.1 34 = .ok (.iastore, 1) := by decide +kernel
theorem d_Or_nameThings_35 : decode mt_Or_nameThings.2.1 35 = .ok (.aload_n 0, 1) := by decide +kernel
theorem d_Or_nameThings_36 : decode mt_Or_nameThings.2.1 36 = .ok (.getfield 21, 3) := by decide +kernel
theorem d_Or_nameThings_39 : decode mt_Or_nameThings.2.1 39 = .ok (.bipush 11, 2) := by decide +kernel
theorem d_Or_nameThings_41 : decode mt_Or_nameThings.2.1 41 = .ok (.aload_n 1, 1) := by decide +kernel
theorem d_Or_nameThings_42 : decode mt_Or_nameThings.2.1 42 = .ok (.getfield 57, 3) := by decide +kernel
theorem d_Or_nameThings_45 : decode mt_Or_nameThings.2.1 45 = .ok (.iastore, 1) := by decide +kernel
theorem d_Or_nameThings_46 : decode mt_Or_nameThings.2.1 46 = .ok (.aload_n 0, 1) := by decide +kernel
theorem d_Or_nameThings_47 : decode mt_Or_nameThings.2.1 47 = .ok (.getfield 21, 3) := by decide +kernel
theorem d_Or_nameThings_50 : decode mt_Or_nameThings.2.1 50 = .ok (.bipush 12, 2) := by decide +kernel
theorem d_Or_nameThings_52 : decode mt_Or_nameThings.2.1 52 = .ok (.aload_n 1, 1) := by decide +kernel
theorem d_Or_nameThings_53 : decode mt_Or_nameThings.2.1 53 = .ok (.getfield 60, 3) := by decide +kernel
theorem d_Or_nameThings_56 : decode mt_Or_nameThings.2.1 56 = .ok (.iastore, 1) := by decide +kernel
theorem d_Or_nameThings_57 : decode mt_Or_nameThings.2.1 57 = .ok (.aload_n 0, 1) := by decide +kernel
theorem d_Or_nameThings_58 : decode mt_Or_nameThings.2.1 58 = .ok (.getfield 21, 3) := by decide +kernel
theorem d_Or_nameThings_61 : decode mt_Or_nameThings.2.1 61 = .ok (.bipush 15, 2) := by decide +kernel
theorem d_Or_nameThings_63 : decode mt_Or_nameThings.2.1 63 = .ok (.aload_n 1, 1) := by decide +kernel
theorem d_Or_nameThings_64 : decode mt_Or_nameThings.2.1 64 = .ok (.getfield 63, 3) := by decide +kernel
theorem d_Or_nameThings_67 : decode mt_Or_nameThings.2.1 67 = .ok (.iastore, 1) := by decide +kernel
theorem d_Or_nameThings_68 : decode mt_Or_nameThings.2.1 68 = .ok (.aload_n 0, 1) := by decide +kernel
theorem d_Or_nameThings_69 : decode mt_Or_nameThings.2.1 69 = .ok (.getfield 21, 3) := by decide +kernel
theorem d_Or_nameThings_72 : decode mt_Or_nameThings.2.1 72 = .ok (.bipush 16, 2) := by decide +kernel
theorem d_Or_nameThings_74 : decode mt_Or_nameThings.2.1 74 = .ok (.aload_n 1, 1) := by decide +kernel
theorem d_Or_nameThings_75 : decode mt_Or_nameThings.2.1 75 = .ok (.getfield 66, 3) := by decide +kernel
theorem d_Or_nameThings_78 : decode mt_Or_nameThings.2.1 78 = .ok (.iastore, 1) := by decide +kernel
theorem d_Or_nameThings_79 : decode mt_Or_nameThings.2.1 79 = .ok (.return_, 1) := by decide +kernel
theorem d_Or_workOut_0 : decode mt_Or_workOut.2.1 0 = .ok (.aload_n 0, 1) := by decide +kernel
theorem d_Or_workOut_1 : decode mt_Or_workOut.2.1 1 = .ok (.iconst 0, 1) := by decide +kernel
theorem d_Or_workOut_2 : decode mt_Or_workOut.2.1 2 = .ok (.putfield 69, 3) := by decide +kernel
theorem d_Or_workOut_5 : decode mt_Or_workOut.2.1 5 = .ok (.iload_n 1, 1) := by decide +kernel
theorem d_Or_workOut_6 : decode mt_Or_workOut.2.1 6 = .ok (.istore_n 3, 1) := by decide +kernel
theorem d_Or_workOut_7 : decode mt_Or_workOut.2.1 7 = .ok (.iload_n 3, 1) := by decide +kernel
theorem d_Or_workOut_8 : decode mt_Or_workOut.2.1 8 = .ok (.iload_n 2, 1) := by decide +kernel
theorem d_Or_workOut_9 : decode mt_Or_workOut.2.1 9 = .ok (.if_icmp .ge 39, 3) := by decide +kernel
theorem d_Or_workOut_12 : decode mt_Or_workOut.2.1 12 = .ok (.aload_n 0, 1) := by decide +kernel
theorem d_Or_workOut_13 : decode mt_Or_workOut.2.1 13 = .ok (.getfield 9, 3) := by decide +kernel
theorem d_Or_workOut_16 : decode mt_Or_workOut.2.1 16 = .ok (.iload_n 3, 1) := by decide +kernel
theorem d_Or_workOut_17 : decode mt_Or_workOut.2.1 17 = .ok (.iaload, 1) := by decide +kernel
theorem d_Or_workOut_18 : decode mt_Or_workOut.2.1 18 = .ok (.istore 4, 2) := by decide +kernel
theorem d_Or_workOut_20 : decode mt_Or_workOut.2.1 20 = .ok (.iload 4, 2) := by decide +kernel
theorem d_Or_workOut_22 : decode mt_Or_workOut.2.1 22 = .ok (.ifCond .lt 12, 3) := by decide +kernel
theorem d_Or_workOut_25 : decode mt_Or_workOut.2.1 25 = .ok (.aload_n 0, 1) := by decide +kernel
theorem d_Or_workOut_26 : decode mt_Or_workOut.2.1 26 = .ok (.iload 4, 2) := by decide +kernel
theorem d_Or_workOut_28 : decode mt_Or_workOut.2.1 28 = .ok (.invokevirtual 72, 3) := by decide +kernel
theorem d_Or_workOut_31 : decode mt_Or_workOut.2.1 31 = .ok (.goto 11, 3) := by decide +kernel
theorem d_Or_workOut_34 : decode mt_Or_workOut.2.1 34 = .ok (.aload_n 0, 1) := by decide +kernel
theorem d_Or_workOut_35 : decode mt_Or_workOut.2.1 35 = .ok (.iload 4, 2) := by decide +kernel
theorem d_Or_workOut_37 : decode mt_Or_workOut.2.1 37 = .ok (.iconst (-1), 1) := by decide +kernel
theorem d_Or_workOut_38 : decode mt_Or_workOut.2.1 38 = .ok (.ixor, 1) := by decide +kernel
theorem d_Or_workOut_39 : decode mt_Or_workOut.2.1 39 = .ok (.invokevirtual 75, 3) := by decide +kernel
theorem d_Or_workOut_42 : decode mt_Or_workOut.2.1 42 = .ok (.iinc 3 1, 3) := by decide +kernel
theorem d_Or_workOut_45 : decode mt_Or_workOut.2.1 45 = .ok (.goto (-38), 3) := by decide +kernel
theorem d_Or_workOut_48 : decode mt_Or_workOut.2.1 48 = .ok (.aload_n 0, 1) := by decide +kernel
theorem d_Or_workOut_49 : decode mt_Or_workOut.2.1 49 = .ok (.invokevirtual 78, 3) := by decide +kernel
theorem d_Or_workOut_52 : decode mt_Or_workOut.2.1 52 = .ok (.ireturn, 1) := by decide +kernel
theorem d_Or_put_0 : decode mt_Or_put.2.1 0 = .ok (.aload_n 0, 1) := by decide +kernel
theorem d_Or_put_1 : decode mt_Or_put.2.1 1 = .ok (.getfield 69, 3) := by decide +kernel
theorem d_Or_put_4 : decode mt_Or_put.2.1 4 = .ok (.bipush 80, 2) := by decide +kernel
theorem d_Or_put_6 : decode mt_Or_put.2.1 6 = .ok (.if_icmp .ge 23, 3) := by decide +kernel
theorem d_Or_put_9 : decode mt_Or_put.2.1 9 = .ok (.aload_n 0, 1) := by decide +kernel
theorem d_Or_put_10 : decode mt_Or_put.2.1 10 = .ok (.getfield 24, 3) := by decide +kernel
theorem d_Or_put_13 : decode mt_Or_put.2.1 13 = .ok (.aload_n 0, 1) := by decide +kernel
theorem d_Or_put_14 : decode mt_Or_put.2.1 14 = .ok (.getfield 69, 3) := by decide +kernel
theorem d_Or_put_17 : decode mt_Or_put.2.1 17 = .ok (.iload_n 1, 1) := by decide +kernel
theorem d_Or_put_18 : decode mt_Or_put.2.1 18 = .ok (.iastore, 1) := by decide +kernel
theorem d_Or_put_19 : decode mt_Or_put.2.1 19 = .ok (.aload_n 0, 1) := by decide +kernel
theorem d_Or_put_20 : decode mt_Or_put.2.1 20 = .ok (.dup, 1) := by decide +kernel
theorem d_Or_put_21 : decode mt_Or_put.2.1 21 = .ok (.getfield 69, 3) := by decide +kernel
theorem d_Or_put_24 : decode mt_Or_put.2.1 24 = .ok (.iconst 1, 1) := by decide +kernel
theorem d_Or_put_25 : decode mt_Or_put.2.1 25 = .ok (.iadd, 1) := by decide +kernel
theorem d_Or_put_26 : decode mt_Or_put.2.1 26 = .ok (.putfield 69, 3) := by decide +kernel
theorem d_Or_put_29 : decode mt_Or_put.2.1 29 = .ok (.return_, 1) := by decide +kernel
theorem d_Or_applyToken_0 : decode mt_Or_applyToken.2.1 0 = .ok (.iload_n 1, 1) := by decide +kernel
theorem d_Or_applyToken_1 : decode mt_Or_applyToken.2.1 1 = .ok (.bipush 7, 2) := by decide +kernel
theorem d_Or_applyToken_3 : decode mt_Or_applyToken.2.1 3 = .ok (.if_icmp .ne 22, 3) := by decide +kernel
theorem d_Or_applyToken_6 : decode mt_Or_applyToken.2.1 6 = .ok (.aload_n 0, 1) := by decide +kernel
theorem d_Or_applyToken_7 : decode mt_Or_applyToken.2.1 7 = .ok (.aload_n 0, 1) := by decide +kernel
theorem d_Or_applyToken_8 : decode mt_Or_applyToken.2.1 8 = .ok (.invokevirtual 78, 3) := by decide +kernel
theorem d_Or_applyToken_11 : decode mt_Or_applyToken.2.1 11 = .ok (.ifCond .ne 7, 3) := by decide +kernel
theorem d_Or_applyToken_14 : decode mt_Or_applyToken.2.1 14 = .ok (.iconst 1, 1) := by decide +kernel
theorem d_Or_applyToken_15 : decode mt_Or_applyToken.2.1 15 = .ok (.goto 4, 3) := by decide +kernel
theorem d_Or_applyToken_18 : decode mt_Or_applyToken.2.1 18 = .ok (.iconst 0, 1) := by decide +kernel
theorem d_Or_applyToken_19 : decode mt_Or_applyToken.2.1 19 = .ok (.invokevirtual 72, 3) := by decide +kernel
theorem d_Or_applyToken_22 : decode mt_Or_applyToken.2.1 22 = .ok (.goto 48, 3) := by decide +kernel
theorem d_Or_applyToken_25 : decode mt_Or_applyToken.2.1 25 = .ok (.iload_n 1, 1) := by decide +kernel
theorem d_Or_applyToken_26 : decode mt_Or_applyToken.2.1 26 = .ok (.bipush 18, 2) := by decide +kernel
theorem d_Or_applyToken_28 : decode mt_Or_applyToken.2.1 28 = .ok (.if_icmp .ge 22, 3) := by decide +kernel
theorem d_Or_applyToken_31 : decode mt_Or_applyToken.2.1 31 = .ok (.iload_n 1, 1) := by decide +kernel
theorem d_Or_applyToken_32 : decode mt_Or_applyToken.2.1 32 = .ok (.bipush 7, 2) := by decide +kernel
theorem d_Or_applyToken_34 : decode mt_Or_applyToken.2.1 34 = .ok (.if_icmp .le 16, 3) := by decide +kernel
theorem d_Or_applyToken_37 : decode mt_Or_applyToken.2.1 37 = .ok (.aload_n 0, 1) := by decide +kernel
theorem d_Or_applyToken_38 : decode mt_Or_applyToken.2.1 38 = .ok (.aload_n 0, 1) := by decide +kernel
theorem d_Or_applyToken_39 : decode mt_Or_applyToken.2.1 39 = .ok (.getfield 21, 3) := by decide +kernel
theorem d_Or_applyToken_42 : decode mt_Or_applyToken.2.1 42 = .ok (.iload_n 1, 1) := by decide +kernel
theorem d_Or_applyToken_43 : decode mt_Or_applyToken.2.1 43 = .ok (.iaload, 1) := by decide +kernel
theorem d_Or_applyToken_44 : decode mt_Or_applyToken.2.1 44 = .ok (.invokevirtual 72, 3) := by decide +kernel
theorem d_Or_applyToken_47 : decode mt_Or_applyToken.2.1 47 = .ok (.goto 23, 3) := by decide +kernel
theorem d_Or_applyToken_50 : decode mt_Or_applyToken.2.1 50 = .ok (.aload_n 0, 1) := by decide +kernel
theorem d_Or_applyToken_51 : decode mt_Or_applyToken.2.1 51 = .ok (.invokevirtual 78, 3) := by decide +kernel
theorem d_Or_applyToken_54 : decode mt_Or_applyToken.2.1 54 = .ok (.istore_n 2, 1) := by decide +kernel
theorem d_Or_applyToken_55 : decode mt_Or_applyToken.2.1 55 = .ok (.aload_n 0, 1) := by decide +kernel
theorem d_Or_applyToken_56 : decode mt_Or_applyToken.2.1 56 = .ok (.invokevirtual 78, 3) := by decide +kernel
theorem d_Or_applyToken_59 : decode mt_Or_applyToken.2.1 59 = .ok (.istore_n 3, 1) := by decide +kernel
theorem d_Or_applyToken_60 : decode mt_Or_applyToken.2.1 60 = .ok (.aload_n 0, 1) := by decide +kernel
theorem d_Or_applyToken_61 : decode mt_Or_applyToken.2.1 61 = .ok (.iload_n 1, 1) := by decide +kernel
theorem d_Or_applyToken_62 : decode mt_Or_applyToken.2.1 62 = .ok (.iload_n 3, 1) := by decide +kernel
theorem d_Or_applyToken_63 : decode mt_Or_applyToken.2.1 63 = .ok (.iload_n 2, 1) := by decide +kernel
theorem d_Or_applyToken_64 : decode mt_Or_applyToken.2.1 64 = .ok (.invokestatic 82, 3) := by decide +kernel
theorem d_Or_applyToken_67 : decode mt_Or_applyToken.2.1 67 = .ok (.invokevirtual 72, 3) := by decide +kernel
theorem d_Or_applyToken_70 : decode mt_Or_applyToken.2.1 70 = .ok (.return_, 1) := by decide +kernel
theorem d_Or_pick_0 : decode mt_Or_pick.2.1 0 = .ok (.aload_n 0, 1) := by decide +kernel
theorem d_Or_pick_1 : decode mt_Or_pick.2.1 1 = .ok (.getfield 69, 3) := by decide +kernel
theorem d_Or_pick_4 : decode mt_Or_pick.2.1 4 = .ok (.ifCond .gt 5, 3) := by decide +kernel
theorem d_Or_pick_7 : decode mt_Or_pick.2.1 7 = .ok (.iconst 0, 1) := by decide +kernel
theorem d_Or_pick_8 : decode mt_Or_pick.2.1 8 = .ok (.ireturn, 1) := by decide +kernel
theorem d_Or_pick_9 : decode mt_Or_pick.2.1 9 = .ok (.aload_n 0, 1) := by decide +kernel
theorem d_Or_pick_10 : decode mt_Or_pick.2.1 10 = .ok (.dup, 1) := by decide +kernel
theorem d_Or_pick_11 : decode mt_Or_pick.2.1 11 = .ok (.getfield 69, 3) := by decide +kernel
theorem d_Or_pick_14 : decode mt_Or_pick.2.1 14 = .ok (.iconst 1, 1) := by decide +kernel
theorem d_Or_pick_15 : decode mt_Or_pick.2.1 15 = .ok (.isub, 1) := by decide +kernel
theorem d_Or_pick_16 : decode mt_Or_pick.2.1 16 = .ok (.putfield 69, 3) := by decide +kernel
theorem d_Or_pick_19 : decode mt_Or_pick.2.1 19 = .ok (.aload_n 0, 1) := by decide +kernel
theorem d_Or_pick_20 : decode mt_Or_pick.2.1 20 = .ok (.getfield 24, 3) := by decide +kernel
theorem d_Or_pick_23 : decode mt_Or_pick.2.1 23 = .ok (.aload_n 0, 1) := by decide +kernel
theorem d_Or_pick_24 : decode mt_Or_pick.2.1 24 = .ok (.getfield 69, 3) := by decide +kernel
theorem d_Or_pick_27 : decode mt_Or_pick.2.1 27 = .ok (.iaload, 1) := by decide +kernel
theorem d_Or_pick_28 : decode mt_Or_pick.2.1 28 = .ok (.ireturn, 1) := by decide +kernel
theorem d_Or_join_0 : decode mt_Or_join.2.1 0 = .ok (.iload_n 0, 1) := by decide +kernel
theorem d_Or_join_1 : decode mt_Or_join.2.1 1 = .ok (.lookupswitch 114 #[(6, 100), (43, 59), (45, 63), (60, 67), (61, 89), (62, 78)], 59) := by decide +kernel
theorem d_Or_join_60 : decode mt_Or_join.2.1 60 = .ok (.iload_n 1, 1) := by decide +kernel
theorem d_Or_join_61 : decode mt_Or_join.2.1 61 = .ok (.iload_n 2, 1) := by decide +kernel
theorem d_Or_join_62 : decode mt_Or_join.2.1 62 = .ok (.iadd, 1) := by decide +kernel
theorem d_Or_join_63 : decode mt_Or_join.2.1 63 = .ok (.ireturn, 1) := by decide +kernel
theorem d_Or_join_64 : decode mt_Or_join.2.1 64 = .ok (.iload_n 1, 1) := by decide +kernel
theorem d_Or_join_65 : decode mt_Or_join.2.1 65 = .ok (.iload_n 2, 1) := by decide +kernel
theorem d_Or_join_66 : decode mt_Or_join.2.1 66 = .ok (.isub, 1) := by decide +kernel
theorem d_Or_join_67 : decode mt_Or_join.2.1 67 = .ok (.ireturn, 1) := by decide +kernel
theorem d_Or_join_68 : decode mt_Or_join.2.1 68 = .ok (.iload_n 1, 1) := by decide +kernel
theorem d_Or_join_69 : decode mt_Or_join.2.1 69 = .ok (.iload_n 2, 1) := by decide +kernel
theorem d_Or_join_70 : decode mt_Or_join.2.1 70 = .ok (.if_icmp .ge 7, 3) := by decide +kernel
theorem d_Or_join_73 : decode mt_Or_join.2.1 73 = .ok (.iconst 1, 1) := by decide +kernel
theorem d_Or_join_74 : decode mt_Or_join.2.1 74 = .ok (.goto 4, 3) := by decide +kernel
theorem d_Or_join_77 : decode mt_Or_join.2.1 77 = .ok (.iconst 0, 1) := by decide +kernel
theorem d_Or_join_78 : decode mt_Or_join.2.1 78 = .ok (.ireturn, 1) := by decide +kernel
theorem d_Or_join_79 : decode mt_Or_join.2.1 79 = .ok (.iload_n 1, 1) := by decide +kernel
theorem d_Or_join_80 : decode mt_Or_join.2.1 80 = .ok (.iload_n 2, 1) := by decide +kernel
theorem d_Or_join_81 : decode mt_Or_join.2.1 81 = .ok (.if_icmp .le 7, 3) := by decide +kernel
theorem d_Or_join_84 : decode mt_Or_join.2.1 84 = .ok (.iconst 1, 1) := by decide +kernel
theorem d_Or_join_85 : decode mt_Or_join.2.1 85 = .ok (.goto 4, 3) := by decide +kernel
theorem d_Or_join_88 : decode mt_Or_join.2.1 88 = .ok (.iconst 0, 1) := by decide +kernel
theorem d_Or_join_89 : decode mt_Or_join.2.1 89 = .ok (.ireturn, 1) := by decide +kernel
theorem d_Or_join_90 : decode mt_Or_join.2.1 90 = .ok (.iload_n 1, 1) := by decide +kernel
theorem d_Or_join_91 : decode mt_Or_join.2.1 91 = .ok (.iload_n 2, 1) := by decide +kernel
theorem d_Or_join_92 : decode mt_Or_join.2.1 92 = .ok (.if_icmp .ne 7, 3) := by decide +kernel
theorem d_Or_join_95 : decode mt_Or_join.2.1 95 = .ok (.iconst 1, 1) := by decide +kernel
theorem d_Or_join_96 : decode mt_Or_join.2.1 96 = .ok (.goto 4, 3) := by decide +kernel
theorem d_Or_join_99 : decode mt_Or_join.2.1 99 = .ok (.iconst 0, 1) := by decide +kernel
theorem d_Or_join_100 : decode mt_Or_join.2.1 100 = .ok (.ireturn, 1) := by decide +kernel
theorem d_Or_join_101 : decode mt_Or_join.2.1 101 = .ok (.iload_n 1, 1) := by decide +kernel
theorem d_Or_join_102 : decode mt_Or_join.2.1 102 = .ok (.ifCond .eq 11, 3) := by decide +kernel
theorem d_Or_join_105 : decode mt_Or_join.2.1 105 = .ok (.iload_n 2, 1) := by decide +kernel
theorem d_Or_join_106 : decode mt_Or_join.2.1 106 = .ok (.ifCond .eq 7, 3) := by decide +kernel
theorem d_Or_join_109 : decode mt_Or_join.2.1 109 = .ok (.iconst 1, 1) := by decide +kernel
theorem d_Or_join_110 : decode mt_Or_join.2.1 110 = .ok (.goto 4, 3) := by decide +kernel
theorem d_Or_join_113 : decode mt_Or_join.2.1 113 = .ok (.iconst 0, 1) := by decide +kernel
theorem d_Or_join_114 : decode mt_Or_join.2.1 114 = .ok (.ireturn, 1) := by decide +kernel
theorem d_Or_join_115 : decode mt_Or_join.2.1 115 = .ok (.iload_n 1, 1) := by decide +kernel
theorem d_Or_join_116 : decode mt_Or_join.2.1 116 = .ok (.ifCond .ne 7, 3) := by decide +kernel
theorem d_Or_join_119 : decode mt_Or_join.2.1 119 = .ok (.iload_n 2, 1) := by decide +kernel
theorem d_Or_join_120 : decode mt_Or_join.2.1 120 = .ok (.ifCond .eq 7, 3) := by decide +kernel
theorem d_Or_join_123 : decode mt_Or_join.2.1 123 = .ok (.iconst 1, 1) := by decide +kernel
theorem d_Or_join_124 : decode mt_Or_join.2.1 124 = .ok (.goto 4, 3) := by decide +kernel
theorem d_Or_join_127 : decode mt_Or_join.2.1 127 = .ok (.iconst 0, 1) := by decide +kernel
theorem d_Or_join_128 : decode mt_Or_join.2.1 128 = .ok (.ireturn, 1) := by decide +kernel
theorem d_Wh_doDeed_0 : decode mt_Wh_doDeed.2.1 0 = .ok (.iload_n 1, 1) := by decide +kernel
theorem d_Wh_doDeed_1 : decode mt_Wh_doDeed.2.1 1 = .ok (.iconst 2, 1) := by decide +kernel
theorem d_Wh_doDeed_2 : decode mt_Wh_doDeed.2.1 2 = .ok (.if_icmp .ne 11, 3) := by decide +kernel
theorem d_Wh_doDeed_5 : decode mt_Wh_doDeed.2.1 5 = .ok (.aload_n 0, 1) := by decide +kernel
theorem d_Wh_doDeed_6 : decode mt_Wh_doDeed.2.1 6 = .ok (.iconst 0, 1) := by decide +kernel
theorem d_Wh_doDeed_7 : decode mt_Wh_doDeed.2.1 7 = .ok (.putfield 27, 3) := by decide +kernel
theorem d_Wh_doDeed_10 : decode mt_Wh_doDeed.2.1 10 = .ok (.goto 82, 3) := by decide +kernel
theorem d_Wh_doDeed_13 : decode mt_Wh_doDeed.2.1 13 = .ok (.iload_n 1, 1) := by decide +kernel
theorem d_Wh_doDeed_14 : decode mt_Wh_doDeed.2.1 14 = .ok (.iconst 3, 1) := by decide +kernel
theorem d_Wh_doDeed_15 : decode mt_Wh_doDeed.2.1 15 = .ok (.if_icmp .ne 45, 3) := by decide +kernel
theorem d_Wh_doDeed_18 : decode mt_Wh_doDeed.2.1 18 = .ok (.aload_n 0, 1) := by decide +kernel
theorem d_Wh_doDeed_19 : decode mt_Wh_doDeed.2.1 19 = .ok (.aload_n 0, 1) := by decide +kernel
theorem d_Wh_doDeed_20 : decode mt_Wh_doDeed.2.1 20 = .ok (.getfield 30, 3) := by decide +kernel
theorem d_Wh_doDeed_23 : decode mt_Wh_doDeed.2.1 23 = .ok (.aload_n 0, 1) := by decide +kernel
theorem d_Wh_doDeed_24 : decode mt_Wh_doDeed.2.1 24 = .ok (.getfield 21, 3) := by decide +kernel
theorem d_Wh_doDeed_27 : decode mt_Wh_doDeed.2.1 27 = .ok (.iconst 1, 1) := by decide +kernel
theorem d_Wh_doDeed_28 : decode mt_Wh_doDeed.2.1 28 = .ok (.if_icmp .ne 8, 3) := by decide +kernel
theorem d_Wh_doDeed_31 : decode mt_Wh_doDeed.2.1 31 = .ok (.bipush 10, 2) := by decide +kernel
theorem d_Wh_doDeed_33 : decode mt_Wh_doDeed.2.1 33 = .ok (.goto 4, 3) := by decide +kernel
theorem d_Wh_doDeed_36 : decode mt_Wh_doDeed.2.1 36 = .ok (.iconst 4, 1) := by decide +kernel
theorem d_Wh_doDeed_37 : decode mt_Wh_doDeed.2.1 37 = .ok (.isub, 1) := by decide +kernel
theorem d_Wh_doDeed_38 : decode mt_Wh_doDeed.2.1 38 = .ok (.invokestatic 33, 3) := by decide +kernel
theorem d_Wh_doDeed_41 : decode mt_Wh_doDeed.2.1 41 = .ok (.putfield 30, 3) := by decide +kernel
theorem d_Wh_doDeed_44 : decode mt_Wh_doDeed.2.1 44 = .ok (.aload_n 0, 1) := by decide +kernel
theorem d_Wh_doDeed_45 : decode mt_Wh_doDeed.2.1 45 = .ok (.aload_n 0, 1) := by decide +kernel
theorem d_Wh_doDeed_46 : decode mt_Wh_doDeed.2.1 46 = .ok (.getfield 37, 3) := by decide +kernel
theorem d_Wh_doDeed_49 : decode mt_Wh_doDeed.2.1 49 = .ok (.iconst 5, 1) := by decide +kernel
theorem d_Wh_doDeed_50 : decode mt_Wh_doDeed.2.1 50 = .ok (.iadd, 1) := by decide +kernel
theorem d_Wh_doDeed_51 : decode mt_Wh_doDeed.2.1 51 = .ok (.invokestatic 33, 3) := by decide +kernel
theorem d_Wh_doDeed_54 : decode mt_Wh_doDeed.2.1 54 = .ok (.putfield 37, 3) := by decide +kernel
theorem d_Wh_doDeed_57 : decode mt_Wh_doDeed.2.1 57 = .ok (.goto 35, 3) := by decide +kernel
theorem d_Wh_doDeed_60 : decode mt_Wh_doDeed.2.1 60 = .ok (.iload_n 1, 1) := by decide +kernel
theorem d_Wh_doDeed_61 : decode mt_Wh_doDeed.2.1 61 = .ok (.iconst 4, 1) := by decide +kernel
theorem d_Wh_doDeed_62 : decode mt_Wh_doDeed.2.1 62 = .ok (.if_icmp .ne 30, 3) := by decide +kernel
theorem d_Wh_doDeed_65 : decode mt_Wh_doDeed.2.1 65 = .ok (.aload_n 0, 1) := by decide +kernel
theorem d_Wh_doDeed_66 : decode mt_Wh_doDeed.2.1 66 = .ok (.aload_n 0, 1) := by decide +kernel
theorem d_Wh_doDeed_67 : decode mt_Wh_doDeed.2.1 67 = .ok (.getfield 30, 3) := by decide +kernel
theorem d_Wh_doDeed_70 : decode mt_Wh_doDeed.2.1 70 = .ok (.bipush 6, 2) := by decide +kernel
theorem d_Wh_doDeed_72 : decode mt_Wh_doDeed.2.1 72 = .ok (.isub, 1) := by decide +kernel
theorem d_Wh_doDeed_73 : decode mt_Wh_doDeed.2.1 73 = .ok (.invokestatic 33, 3) := by decide +kernel
theorem d_Wh_doDeed_76 : decode mt_Wh_doDeed.2.1 76 = .ok (.putfield 30, 3) := by decide +kernel
theorem d_Wh_doDeed_79 : decode mt_Wh_doDeed.2.1 79 = .ok (.aload_n 0, 1) := by decide +kernel
theorem d_Wh_doDeed_80 : decode mt_Wh_doDeed.2.1 80 = .ok (.aload_n 0, 1) := by decide +kernel
theorem d_Wh_doDeed_81 : decode mt_Wh_doDeed.2.1 81 = .ok (.getfield 37, 3) := by decide +kernel
theorem d_Wh_doDeed_84 : decode mt_Wh_doDeed.2.1 84 = .ok (.iconst 2, 1) := by decide +kernel
theorem d_Wh_doDeed_85 : decode mt_Wh_doDeed.2.1 85 = .ok (.isub, 1) := by decide +kernel
theorem d_Wh_doDeed_86 : decode mt_Wh_doDeed.2.1 86 = .ok (.invokestatic 33, 3) := by decide +kernel
theorem d_Wh_doDeed_89 : decode mt_Wh_doDeed.2.1 89 = .ok (.putfield 37, 3) := by decide +kernel
theorem d_Wh_doDeed_92 : decode mt_Wh_doDeed.2.1 92 = .ok (.return_, 1) := by decide +kernel
theorem d_Wh_within_0 : decode mt_Wh_within.2.1 0 = .ok (.iconst 0, 1) := by decide +kernel
theorem d_Wh_within_1 : decode mt_Wh_within.2.1 1 = .ok (.iload_n 0, 1) := by decide +kernel
theorem d_Wh_within_2 : decode mt_Wh_within.2.1 2 = .ok (.ldc 47, 2) := by decide +kernel
theorem d_Wh_within_4 : decode mt_Wh_within.2.1 4 = .ok (.invokestatic 48, 3) := by decide +kernel
theorem d_Wh_within_7 : decode mt_Wh_within.2.1 7 = .ok (.invokestatic 53, 3) := by decide +kernel
theorem d_Wh_within_10 : decode mt_Wh_within.2.1 10 = .ok (.ireturn, 1) := by decide +kernel
theorem d_JM_max_0 : decode mt_JM_max.2.1 0 = .ok (.iload_n 0, 1) := by decide +kernel
theorem d_JM_max_1 : decode mt_JM_max.2.1 1 = .ok (.iload_n 1, 1) := by decide +kernel
theorem d_JM_max_2 : decode mt_JM_max.2.1 2 = .ok (.if_icmp .lt 7, 3) := by decide +kernel
theorem d_JM_max_5 : decode mt_JM_max.2.1 5 = .ok (.iload_n 0, 1) := by decide +kernel
theorem d_JM_max_6 : decode mt_JM_max.2.1 6 = .ok (.goto 4, 3) := by decide +kernel
theorem d_JM_max_9 : decode mt_JM_max.2.1 9 = .ok (.iload_n 1, 1) := by decide +kernel
theorem d_JM_max_10 : decode mt_JM_max.2.1 10 = .ok (.ireturn, 1) := by decide +kernel
theorem d_Wh_ripen_0 : decode mt_Wh_ripen.2.1 0 = .ok (.aload_n 0, 1) := by decide +kernel
theorem d_Wh_ripen_1 : decode mt_Wh_ripen.2.1 1 = .ok (.aload_n 0, 1) := by decide +kernel
theorem d_Wh_ripen_2 : decode mt_Wh_ripen.2.1 2 = .ok (.getfield 40, 3) := by decide +kernel
theorem d_Wh_ripen_5 : decode mt_Wh_ripen.2.1 5 = .ok (.aload_n 0, 1) := by decide +kernel
theorem d_Wh_ripen_6 : decode mt_Wh_ripen.2.1 6 = .ok (.iload_n 1, 1) := by decide +kernel
theorem d_Wh_ripen_7 : decode mt_Wh_ripen.2.1 7 = .ok (.iload_n 2, 1) := by decide +kernel
theorem d_Wh_ripen_8 : decode mt_Wh_ripen.2.1 8 = .ok (.invokevirtual 43, 3) := by decide +kernel
theorem d_Wh_ripen_11 : decode mt_Wh_ripen.2.1 11 = .ok (.iadd, 1) := by decide +kernel
theorem d_Wh_ripen_12 : decode mt_Wh_ripen.2.1 12 = .ok (.invokestatic 33, 3) := by decide +kernel
theorem d_Wh_ripen_15 : decode mt_Wh_ripen.2.1 15 = .ok (.putfield 40, 3) := by decide +kernel
theorem d_Wh_ripen_18 : decode mt_Wh_ripen.2.1 18 = .ok (.aload_n 0, 1) := by decide +kernel
theorem d_Wh_ripen_19 : decode mt_Wh_ripen.2.1 19 = .ok (.aload_n 0, 1) := by decide +kernel
theorem d_Wh_ripen_20 : decode mt_Wh_ripen.2.1 20 = .ok (.getfield 30, 3) := by decide +kernel
theorem d_Wh_ripen_23 : decode mt_Wh_ripen.2.1 23 = .ok (.iload_n 2, 1) := by decide +kernel
theorem d_Wh_ripen_24 : decode mt_Wh_ripen.2.1 24 = .ok (.bipush 20, 2) := by decide +kernel
theorem d_Wh_ripen_26 : decode mt_Wh_ripen.2.1 26 = .ok (.idiv, 1) := by decide +kernel
theorem d_Wh_ripen_27 : decode mt_Wh_ripen.2.1 27 = .ok (.iadd, 1) := by decide +kernel
theorem d_Wh_ripen_28 : decode mt_Wh_ripen.2.1 28 = .ok (.aload_n 0, 1) := by decide +kernel
theorem d_Wh_ripen_29 : decode mt_Wh_ripen.2.1 29 = .ok (.getfield 27, 3) := by decide +kernel
theorem d_Wh_ripen_32 : decode mt_Wh_ripen.2.1 32 = .ok (.iconst 3, 1) := by decide +kernel
theorem d_Wh_ripen_33 : decode mt_Wh_ripen.2.1 33 = .ok (.idiv, 1) := by decide +kernel
theorem d_Wh_ripen_34 : decode mt_Wh_ripen.2.1 34 = .ok (.iadd, 1) := by decide +kernel
theorem d_Wh_ripen_35 : decode mt_Wh_ripen.2.1 35 = .ok (.invokestatic 33, 3) := by decide +kernel
theorem d_Wh_ripen_38 : decode mt_Wh_ripen.2.1 38 = .ok (.putfield 30, 3) := by decide +kernel
theorem d_Wh_ripen_41 : decode mt_Wh_ripen.2.1 41 = .ok (.aload_n 0, 1) := by decide +kernel
theorem d_Wh_ripen_42 : decode mt_Wh_ripen.2.1 42 = .ok (.aload_n 0, 1) := by decide +kernel
theorem d_Wh_ripen_43 : decode mt_Wh_ripen.2.1 43 = .ok (.getfield 37, 3) := by decide +kernel
theorem d_Wh_ripen_46 : decode mt_Wh_ripen.2.1 46 = .ok (.iload_n 1, 1) := by decide +kernel
theorem d_Wh_ripen_47 : decode mt_Wh_ripen.2.1 47 = .ok (.isub, 1) := by decide +kernel
theorem d_Wh_ripen_48 : decode mt_Wh_ripen.2.1 48 = .ok (.invokestatic 33, 3) := by decide +kernel
theorem d_Wh_ripen_51 : decode mt_Wh_ripen.2.1 51 = .ok (.putfield 37, 3) := by decide +kernel
theorem d_Wh_ripen_54 : decode mt_Wh_ripen.2.1 54 = .ok (.aload_n 0, 1) := by decide +kernel
theorem d_Wh_ripen_55 : decode mt_Wh_ripen.2.1 55 = .ok (.dup, 1) := by decide +kernel
theorem d_Wh_ripen_56 : decode mt_Wh_ripen.2.1 56 = .ok (.getfield 27, 3) := by decide +kernel
theorem d_Wh_ripen_59 : decode mt_Wh_ripen.2.1 59 = .ok (.iconst 1, 1) := by decide +kernel
theorem d_Wh_ripen_60 : decode mt_Wh_ripen.2.1 60 = .ok (.iadd, 1) := by decide +kernel
theorem d_Wh_ripen_61 : decode mt_Wh_ripen.2.1 61 = .ok (.putfield 27, 3) := by decide +kernel
theorem d_Wh_ripen_64 : decode mt_Wh_ripen.2.1 64 = .ok (.return_, 1) := by decide +kernel
theorem d_Wh_ripeningBy_0 : decode mt_Wh_ripeningBy.2.1 0 = .ok (.aload_n 0, 1) := by decide +kernel
theorem d_Wh_ripeningBy_1 : decode mt_Wh_ripeningBy.2.1 1 = .ok (.getfield 21, 3) := by decide +kernel
theorem d_Wh_ripeningBy_4 : decode mt_Wh_ripeningBy.2.1 4 = .ok (.ifCond .ne 9, 3) := by decide +kernel
theorem d_Wh_ripeningBy_7 : decode mt_Wh_ripeningBy.2.1 7 = .ok (.iconst 3, 1) := by decide +kernel
theorem d_Wh_ripeningBy_8 : decode mt_Wh_ripeningBy.2.1 8 = .ok (.iload_n 1, 1) := by decide +kernel
theorem d_Wh_ripeningBy_9 : decode mt_Wh_ripeningBy.2.1 9 = .ok (.iconst 3, 1) := by decide +kernel
theorem d_Wh_ripeningBy_10 : decode mt_Wh_ripeningBy.2.1 10 = .ok (.idiv, 1) := by decide +kernel
theorem d_Wh_ripeningBy_11 : decode mt_Wh_ripeningBy.2.1 11 = .ok (.iadd, 1) := by decide +kernel
theorem d_Wh_ripeningBy_12 : decode mt_Wh_ripeningBy.2.1 12 = .ok (.ireturn, 1) := by decide +kernel
theorem d_Wh_ripeningBy_13 : decode mt_Wh_ripeningBy.2.1 13 = .ok (.aload_n 0, 1) := by decide +kernel
theorem d_Wh_ripeningBy_14 : decode mt_Wh_ripeningBy.2.1 14 = .ok (.getfield 21, 3) := by decide +kernel
theorem d_Wh_ripeningBy_17 : decode mt_Wh_ripeningBy.2.1 17 = .ok (.iconst 1, 1) := by decide +kernel
theorem d_Wh_ripeningBy_18 : decode mt_Wh_ripeningBy.2.1 18 = .ok (.if_icmp .ne 12, 3) := by decide +kernel
theorem d_Wh_ripeningBy_21 : decode mt_Wh_ripeningBy.2.1 21 = .ok (.iconst 2, 1) := by decide +kernel
theorem d_Wh_ripeningBy_22 : decode mt_Wh_ripeningBy.2.1 22 = .ok (.iload_n 2, 1) := by decide +kernel
theorem d_Wh_ripeningBy_23 : decode mt_Wh_ripeningBy.2.1 23 = .ok (.bipush 30, 2) := by decide +kernel
theorem d_Wh_ripeningBy_25 : decode mt_Wh_ripeningBy.2.1 25 = .ok (.idiv, 1) := by decide +kernel
theorem d_Wh_ripeningBy_26 : decode mt_Wh_ripeningBy.2.1 26 = .ok (.iadd, 1) := by decide +kernel
theorem d_Wh_ripeningBy_27 : decode mt_Wh_ripeningBy.2.1 27 = .ok (.goto 8, 3) := by decide +kernel
theorem d_Wh_ripeningBy_30 : decode mt_Wh_ripeningBy.2.1 30 = .ok (.iconst 1, 1) := by decide +kernel
theorem d_Wh_ripeningBy_31 : decode mt_Wh_ripeningBy.2.1 31 = .ok (.iload_n 1, 1) := by decide +kernel
theorem d_Wh_ripeningBy_32 : decode mt_Wh_ripeningBy.2.1 32 = .ok (.iconst 5, 1) := by decide +kernel
theorem d_Wh_ripeningBy_33 : decode mt_Wh_ripeningBy.2.1 33 = .ok (.idiv, 1) := by decide +kernel
theorem d_Wh_ripeningBy_34 : decode mt_Wh_ripeningBy.2.1 34 = .ok (.iadd, 1) := by decide +kernel
theorem d_Wh_ripeningBy_35 : decode mt_Wh_ripeningBy.2.1 35 = .ok (.ireturn, 1) := by decide +kernel
theorem d_K_of_0 : decode mt_K_of.2.1 0 = .ok (.aload_n 0, 1) := by decide +kernel
theorem d_K_of_1 : decode mt_K_of.2.1 1 = .ok (.iload_n 1, 1) := by decide +kernel
theorem d_K_of_2 : decode mt_K_of.2.1 2 = .ok (.invokevirtual 173, 3) := by decide +kernel
theorem d_K_of_5 : decode mt_K_of.2.1 5 = .ok (.astore_n 3, 1) := by decide +kernel
theorem d_K_of_6 : decode mt_K_of.2.1 6 = .ok (.aload_n 3, 1) := by decide +kernel
theorem d_K_of_7 : decode mt_K_of.2.1 7 = .ok (.ifnonnull 5, 3) := by decide +kernel
theorem d_K_of_10 : decode mt_K_of.2.1 10 = .ok (.iconst (-1), 1) := by decide +kernel
theorem d_K_of_11 : decode mt_K_of.2.1 11 = .ok (.ireturn, 1) := by decide +kernel
theorem d_K_of_12 : decode mt_K_of.2.1 12 = .ok (.iload_n 2, 1) := by decide +kernel
theorem d_K_of_13 : decode mt_K_of.2.1 13 = .ok (.tableswitch 101 0 7 #[47, 52, 57, 62, 67, 72, 78, 83], 47) := by decide +kernel
theorem d_K_of_60 : decode mt_K_of.2.1 60 = .ok (.aload_n 3, 1) := by decide +kernel
theorem d_K_of_61 : decode mt_K_of.2.1 61 = .ok (.getfield 176, 3) := by decide +kernel
theorem d_K_of_64 : decode mt_K_of.2.1 64 = .ok (.ireturn, 1) := by decide +kernel
theorem d_K_of_65 : decode mt_K_of.2.1 65 = .ok (.aload_n 3, 1) := by decide +kernel
theorem d_K_of_66 : decode mt_K_of.2.1 66 = .ok (.getfield 138, 3) := by decide +kernel
theorem d_K_of_69 : decode mt_K_of.2.1 69 = .ok (.ireturn, 1) := by decide +kernel
theorem d_K_of_70 : decode mt_K_of.2.1 70 = .ok (.aload_n 3, 1) := by decide +kernel
theorem d_K_of_71 : decode mt_K_of.2.1 71 = .ok (.getfield 179, 3) := by decide +kernel
theorem d_K_of_74 : decode mt_K_of.2.1 74 = .ok (.ireturn, 1) := by decide +kernel
theorem d_K_of_75 : decode mt_K_of.2.1 75 = .ok (.aload_n 3, 1) := by decide +kernel
theorem d_K_of_76 : decode mt_K_of.2.1 76 = .ok (.getfield 182, 3) := by decide +kernel
theorem d_K_of_79 : decode mt_K_of.2.1 79 = .ok (.ireturn, 1) := by decide +kernel
theorem d_K_of_80 : decode mt_K_of.2.1 80 = .ok (.aload_n 3, 1) := by decide +kernel
theorem d_K_of_81 : decode mt_K_of.2.1 81 = .ok (.getfield 185, 3) := by decide +kernel
theorem d_K_of_84 : decode mt_K_of.2.1 84 = .ok (.ireturn, 1) := by decide +kernel
theorem d_K_of_85 : decode mt_K_of.2.1 85 = .ok (.aload_n 0, 1) := by decide +kernel
theorem d_K_of_86 : decode mt_K_of.2.1 86 = .ok (.aload_n 3, 1) := by decide +kernel
theorem d_K_of_87 : decode mt_K_of.2.1 87 = .ok (.invokevirtual 188, 3) := by decide +kernel
theorem d_K_of_90 : decode mt_K_of.2.1 90 = .ok (.ireturn, 1) := by decide +kernel
theorem d_K_of_91 : decode mt_K_of.2.1 91 = .ok (.aload_n 3, 1) := by decide +kernel
theorem d_K_of_92 : decode mt_K_of.2.1 92 = .ok (.getfield 192, 3) := by decide +kernel
theorem d_K_of_95 : decode mt_K_of.2.1 95 = .ok (.ireturn, 1) := by decide +kernel
theorem d_K_of_96 : decode mt_K_of.2.1 96 = .ok (.aload_n 0, 1) := by decide +kernel
theorem d_K_of_97 : decode mt_K_of.2.1 97 = .ok (.aload_n 3, 1) := by decide +kernel
theorem d_K_of_98 : decode mt_K_of.2.1 98 = .ok (.aload_n 3, 1) := by decide +kernel
theorem d_K_of_99 : decode mt_K_of.2.1 99 = .ok (.getfield 138, 3) := by decide +kernel
theorem d_K_of_102 : decode mt_K_of.2.1 102 = .ok (.invokevirtual 195, 3) := by decide +kernel
theorem d_K_of_105 : decode mt_K_of.2.1 105 = .ok (.ifCond .eq 7, 3) := by decide +kernel
theorem d_K_of_108 : decode mt_K_of.2.1 108 = .ok (.iconst 1, 1) := by decide +kernel
theorem d_K_of_109 : decode mt_K_of.2.1 109 = .ok (.goto 4, 3) := by decide +kernel
theorem d_K_of_112 : decode mt_K_of.2.1 112 = .ok (.iconst 0, 1) := by decide +kernel
theorem d_K_of_113 : decode mt_K_of.2.1 113 = .ok (.ireturn, 1) := by decide +kernel
theorem d_K_of_114 : decode mt_K_of.2.1 114 = .ok (.iconst (-1), 1) := by decide +kernel
theorem d_K_of_115 : decode mt_K_of.2.1 115 = .ok (.ireturn, 1) := by decide +kernel
theorem d_K_ageOf_0 : decode mt_K_ageOf.2.1 0 = .ok (.aload_n 0, 1) := by decide +kernel
theorem d_K_ageOf_1 : decode mt_K_ageOf.2.1 1 = .ok (.getfield 132, 3) := by decide +kernel
theorem d_K_ageOf_4 : decode mt_K_ageOf.2.1 4 = .ok (.aload_n 1, 1) := by decide +kernel
theorem d_K_ageOf_5 : decode mt_K_ageOf.2.1 5 = .ok (.getfield 273, 3) := by decide +kernel
theorem d_K_ageOf_8 : decode mt_K_ageOf.2.1 8 = .ok (.isub, 1) := by decide +kernel
theorem d_K_ageOf_9 : decode mt_K_ageOf.2.1 9 = .ok (.ireturn, 1) := by decide +kernel
theorem d_K_isSuited_0 : decode mt_K_isSuited.2.1 0 = .ok (.iload_n 2, 1) := by decide +kernel
theorem d_K_isSuited_1 : decode mt_K_isSuited.2.1 1 = .ok (.bipush 23, 2) := by decide +kernel
theorem d_K_isSuited_3 : decode mt_K_isSuited.2.1 3 = .ok (.invokestatic 87, 3) := by decide +kernel
theorem d_K_isSuited_6 : decode mt_K_isSuited.2.1 6 = .ok (.ifCond .eq 35, 3) := by decide +kernel
theorem d_K_isSuited_9 : decode mt_K_isSuited.2.1 9 = .ok (.aload_n 0, 1) := by decide +kernel
theorem d_K_isSuited_10 : decode mt_K_isSuited.2.1 10 = .ok (.getfield 31, 3) := by decide +kernel
theorem d_K_isSuited_13 : decode mt_K_isSuited.2.1 13 = .ok (.aload_n 1, 1) := by decide +kernel
theorem d_K_isSuited_14 : decode mt_K_isSuited.2.1 14 = .ok (.getfield 176, 3) := by decide +kernel
theorem d_K_isSuited_17 : decode mt_K_isSuited.2.1 17 = .ok (.aload_n 0, 1) := by decide +kernel
theorem d_K_isSuited_18 : decode mt_K_isSuited.2.1 18 = .ok (.aload_n 1, 1) := by decide +kernel
theorem d_K_isSuited_19 : decode mt_K_isSuited.2.1 19 = .ok (.invokevirtual 188, 3) := by decide +kernel
theorem d_K_isSuited_22 : decode mt_K_isSuited.2.1 22 = .ok (.aload_n 0, 1) := by decide +kernel
theorem d_K_isSuited_23 : decode mt_K_isSuited.2.1 23 = .ok (.getfield 10, 3) := by decide +kernel
theorem d_K_isSuited_26 : decode mt_K_isSuited.2.1 26 = .ok (.getfield 91, 3) := by decide +kernel
theorem d_K_isSuited_29 : decode mt_K_isSuited.2.1 29 = .ok (.iload_n 2, 1) := by decide +kernel
theorem d_K_isSuited_30 : decode mt_K_isSuited.2.1 30 = .ok (.iaload, 1) := by decide +kernel
theorem d_K_isSuited_31 : decode mt_K_isSuited.2.1 31 = .ok (.invokevirtual 276, 3) := by decide +kernel
theorem d_K_isSuited_34 : decode mt_K_isSuited.2.1 34 = .ok (.ifCond .eq 7, 3) := by decide +kernel
theorem d_K_isSuited_37 : decode mt_K_isSuited.2.1 37 = .ok (.iconst 1, 1) := by decide +kernel
theorem d_K_isSuited_38 : decode mt_K_isSuited.2.1 38 = .ok (.goto 4, 3) := by decide +kernel
theorem d_K_isSuited_41 : decode mt_K_isSuited.2.1 41 = .ok (.iconst 0, 1) := by decide +kernel
theorem d_K_isSuited_42 : decode mt_K_isSuited.2.1 42 = .ok (.ireturn, 1) := by decide +kernel
theorem d_Ba_allow_0 : decode mt_Ba_allow.2.1 0 = .ok (.aload_n 0, 1) := by decide +kernel
theorem d_Ba_allow_1 : decode mt_Ba_allow.2.1 1 = .ok (.iload_n 1, 1) := by decide +kernel
theorem d_Ba_allow_2 : decode mt_Ba_allow.2.1 2 = .ok (.iload_n 2, 1) := by decide +kernel
theorem d_Ba_allow_3 : decode mt_Ba_allow.2.1 3 = .ok (.invokevirtual 32, 3) := by decide +kernel
theorem d_Ba_allow_6 : decode mt_Ba_allow.2.1 6 = .ok (.istore 4, 2) := by decide +kernel
theorem d_Ba_allow_8 : decode mt_Ba_allow.2.1 8 = .ok (.iload 4, 2) := by decide +kernel
theorem d_Ba_allow_10 : decode mt_Ba_allow.2.1 10 = .ok (.iconst (-1), 1) := by decide +kernel
theorem d_Ba_allow_11 : decode mt_Ba_allow.2.1 11 = .ok (.if_icmp .eq 25, 3) := by decide +kernel
theorem d_Ba_allow_14 : decode mt_Ba_allow.2.1 14 = .ok (.iload_n 3, 1) := by decide +kernel
theorem d_Ba_allow_15 : decode mt_Ba_allow.2.1 15 = .ok (.aload_n 0, 1) := by decide +kernel
theorem d_Ba_allow_16 : decode mt_Ba_allow.2.1 16 = .ok (.getfield 18, 3) := by decide +kernel
theorem d_Ba_allow_19 : decode mt_Ba_allow.2.1 19 = .ok (.iload 4, 2) := by decide +kernel
theorem d_Ba_allow_21 : decode mt_Ba_allow.2.1 21 = .ok (.iaload, 1) := by decide +kernel
theorem d_Ba_allow_22 : decode mt_Ba_allow.2.1 22 = .ok (.if_icmp .lt 18, 3) := by decide +kernel
theorem d_Ba_allow_25 : decode mt_Ba_allow.2.1 25 = .ok (.iload_n 3, 1) := by decide +kernel
theorem d_Ba_allow_26 : decode mt_Ba_allow.2.1 26 = .ok (.aload_n 0, 1) := by decide +kernel
theorem d_Ba_allow_27 : decode mt_Ba_allow.2.1 27 = .ok (.getfield 21, 3) := by decide +kernel
theorem d_Ba_allow_30 : decode mt_Ba_allow.2.1 30 = .ok (.iload 4, 2) := by decide +kernel
theorem d_Ba_allow_32 : decode mt_Ba_allow.2.1 32 = .ok (.iaload, 1) := by decide +kernel
theorem d_Ba_allow_33 : decode mt_Ba_allow.2.1 33 = .ok (.if_icmp .gt 7, 3) := by decide +kernel
theorem d_Ba_allow_36 : decode mt_Ba_allow.2.1 36 = .ok (.iconst 1, 1) := by decide +kernel
theorem d_Ba_allow_37 : decode mt_Ba_allow.2.1 37 = .ok (.goto 4, 3) := by decide +kernel
theorem d_Ba_allow_40 : decode mt_Ba_allow.2.1 40 = .ok (.iconst 0, 1) := by decide +kernel
theorem d_Ba_allow_41 : decode mt_Ba_allow.2.1 41 = .ok (.ireturn, 1) := by decide +kernel
theorem d_Ba_placeFor_0 : decode mt_Ba_placeFor.2.1 0 = .ok (.iload_n 1, 1) := by decide +kernel
theorem d_Ba_placeFor_1 : decode mt_Ba_placeFor.2.1 1 = .ok (.iconst 2, 1) := by decide +kernel
theorem d_Ba_placeFor_2 : decode mt_Ba_placeFor.2.1 2 = .ok (.invokestatic 24, 3) := by decide +kernel
theorem d_Ba_placeFor_5 : decode mt_Ba_placeFor.2.1 5 = .ok (.ifCond .ne 5, 3) := by decide +kernel
theorem d_Ba_placeFor_8 : decode mt_Ba_placeFor.2.1 8 = .ok (.iconst (-1), 1) := by decide +kernel
theorem d_Ba_placeFor_9 : decode mt_Ba_placeFor.2.1 9 = .ok (.ireturn, 1) := by decide +kernel
theorem d_Ba_placeFor_10 : decode mt_Ba_placeFor.2.1 10 = .ok (.iconst (-1), 1) := by decide +kernel
theorem d_Ba_placeFor_11 : decode mt_Ba_placeFor.2.1 11 = .ok (.istore_n 3, 1) := by decide +kernel
theorem d_Ba_placeFor_12 : decode mt_Ba_placeFor.2.1 12 = .ok (.iload_n 1, 1) := by decide +kernel
theorem d_Ba_placeFor_13 : decode mt_Ba_placeFor.2.1 13 = .ok (.iconst 4, 1) := by decide +kernel
theorem d_Ba_placeFor_14 : decode mt_Ba_placeFor.2.1 14 = .ok (.imul, 1) := by decide +kernel
theorem d_Ba_placeFor_15 : decode mt_Ba_placeFor.2.1 15 = .ok (.istore 4, 2) := by decide +kernel
theorem d_Ba_placeFor_17 : decode mt_Ba_placeFor.2.1 17 = .ok (.iload 4, 2) := by decide +kernel
theorem d_Ba_placeFor_19 : decode mt_Ba_placeFor.2.1 19 = .ok (.istore 5, 2) := by decide +kernel
theorem d_Ba_placeFor_21 : decode mt_Ba_placeFor.2.1 21 = .ok (.iload 5, 2) := by decide +kernel
theorem d_Ba_placeFor_23 : decode mt_Ba_placeFor.2.1 23 = .ok (.iload 4, 2) := by decide +kernel
theorem d_Ba_placeFor_25 : decode mt_Ba_placeFor.2.1 25 = .ok (.aload_n 0, 1) := by decide +kernel
theorem d_Ba_placeFor_26 : decode mt_Ba_placeFor.2.1 26 = .ok (.getfield 9, 3) := by decide +kernel
theorem d_Ba_placeFor_29 : decode mt_Ba_placeFor.2.1 29 = .ok (.iload_n 1, 1) := by decide +kernel
theorem d_Ba_placeFor_30 : decode mt_Ba_placeFor.2.1 30 = .ok (.iaload, 1) := by decide +kernel
theorem d_Ba_placeFor_31 : decode mt_Ba_placeFor.2.1 31 = .ok (.iadd, 1) := by decide +kernel
theorem d_Ba_placeFor_32 : decode mt_Ba_placeFor.2.1 32 = .ok (.if_icmp .ge 44, 3) := by decide +kernel
theorem d_Ba_placeFor_35 : decode mt_Ba_placeFor.2.1 35 = .ok (.aload_n 0, 1) := by decide +kernel
theorem d_Ba_placeFor_36 : decode mt_Ba_placeFor.2.1 36 = .ok (.getfield 15, 3) := by decide +kernel
theorem d_Ba_placeFor_39 : decode mt_Ba_placeFor.2.1 39 = .ok (.iload 5, 2) := by decide +kernel
theorem d_Ba_placeFor_41 : decode mt_Ba_placeFor.2.1 41 = .ok (.iaload, 1) := by decide +kernel
theorem d_Ba_placeFor_42 : decode mt_Ba_placeFor.2.1 42 = .ok (.iload_n 2, 1) := by decide +kernel
theorem d_Ba_placeFor_43 : decode mt_Ba_placeFor.2.1 43 = .ok (.if_icmp .gt 27, 3) := by decide +kernel
theorem d_Ba_placeFor_46 : decode mt_Ba_placeFor.2.1 46 = .ok (.iload_n 3, 1) := by decide +kernel
theorem d_Ba_placeFor_47 : decode mt_Ba_placeFor.2.1 47 = .ok (.iconst (-1), 1) := by decide +kernel
theorem d_Ba_placeFor_48 : decode mt_Ba_placeFor.2.1 48 = .ok (.if_icmp .eq 19, 3) := by decide +kernel
theorem d_Ba_placeFor_51 : decode mt_Ba_placeFor.2.1 51 = .ok (.aload_n 0, 1) := by decide +kernel
theorem d_Ba_placeFor_52 : decode mt_Ba_placeFor.2.1 52 = .ok (.getfield 15, 3) := by decide +kernel
theorem d_Ba_placeFor_55 : decode mt_Ba_placeFor.2.1 55 = .ok (.iload 5, 2) := by decide +kernel
theorem d_Ba_placeFor_57 : decode mt_Ba_placeFor.2.1 57 = .ok (.iaload, 1) := by decide +kernel
theorem d_Ba_placeFor_58 : decode mt_Ba_placeFor.2.1 58 = .ok (.aload_n 0, 1) := by decide +kernel
theorem d_Ba_placeFor_59 : decode mt_Ba_placeFor.2.1 59 = .ok (.getfield 15, 3) := by decide +kernel
theorem d_Ba_placeFor_62 : decode mt_Ba_placeFor.2.1 62 = .ok (.iload_n 3, 1) := by decide +kernel
theorem d_Ba_placeFor_63 : decode mt_Ba_placeFor.2.1 63 = .ok (.iaload, 1) := by decide +kernel
theorem d_Ba_placeFor_64 : decode mt_Ba_placeFor.2.1 64 = .ok (.if_icmp .lt 6, 3) := by decide +kernel
theorem d_Ba_placeFor_67 : decode mt_Ba_placeFor.2.1 67 = .ok (.iload 5, 2) := by decide +kernel
theorem d_Ba_placeFor_69 : decode mt_Ba_placeFor.2.1 69 = .ok (.istore_n 3, 1) := by decide +kernel
theorem d_Ba_placeFor_70 : decode mt_Ba_placeFor.2.1 70 = .ok (.iinc 5 1, 3) := by decide +kernel
theorem d_Ba_placeFor_73 : decode mt_Ba_placeFor.2.1 73 = .ok (.goto (-52), 3) := by decide +kernel
theorem d_Ba_placeFor_76 : decode mt_Ba_placeFor.2.1 76 = .ok (.iload_n 3, 1) := by decide +kernel
theorem d_Ba_placeFor_77 : decode mt_Ba_placeFor.2.1 77 = .ok (.ireturn, 1) := by decide +kernel
theorem d_K_from_0 : decode mt_K_from.2.1 0 = .ok (.aload_n 0, 1) := by decide +kernel
theorem d_K_from_1 : decode mt_K_from.2.1 1 = .ok (.iload_n 1, 1) := by decide +kernel
theorem d_K_from_2 : decode mt_K_from.2.1 2 = .ok (.invokevirtual 199, 3) := by decide +kernel
theorem d_K_from_5 : decode mt_K_from.2.1 5 = .ok (.astore_n 3, 1) := by decide +kernel
theorem d_K_from_6 : decode mt_K_from.2.1 6 = .ok (.aload_n 3, 1) := by decide +kernel
theorem d_K_from_7 : decode mt_K_from.2.1 7 = .ok (.ifnonnull 5, 3) := by decide +kernel
theorem d_K_from_10 : decode mt_K_from.2.1 10 = .ok (.iconst (-1), 1) := by decide +kernel
theorem d_K_from_11 : decode mt_K_from.2.1 11 = .ok (.ireturn, 1) := by decide +kernel
theorem d_K_from_12 : decode mt_K_from.2.1 12 = .ok (.iload_n 2, 1) := by decide +kernel
theorem d_K_from_13 : decode mt_K_from.2.1 13 = .ok (.tableswitch 42 0 2 #[27, 32, 37], 27) := by decide +kernel
theorem d_K_from_40 : decode mt_K_from.2.1 40 = .ok (.aload_n 3, 1) := by decide +kernel
theorem d_K_from_41 : decode mt_K_from.2.1 41 = .ok (.getfield 203, 3) := by decide +kernel
theorem d_K_from_44 : decode mt_K_from.2.1 44 = .ok (.ireturn, 1) := by decide +kernel
theorem d_K_from_45 : decode mt_K_from.2.1 45 = .ok (.aload_n 3, 1) := by decide +kernel
theorem d_K_from_46 : decode mt_K_from.2.1 46 = .ok (.getfield 206, 3) := by decide +kernel
theorem d_K_from_49 : decode mt_K_from.2.1 49 = .ok (.ireturn, 1) := by decide +kernel
theorem d_K_from_50 : decode mt_K_from.2.1 50 = .ok (.aload_n 3, 1) := by decide +kernel
theorem d_K_from_51 : decode mt_K_from.2.1 51 = .ok (.getfield 209, 3) := by decide +kernel
theorem d_K_from_54 : decode mt_K_from.2.1 54 = .ok (.ireturn, 1) := by decide +kernel
theorem d_K_from_55 : decode mt_K_from.2.1 55 = .ok (.iconst (-1), 1) := by decide +kernel
theorem d_K_from_56 : decode mt_K_from.2.1 56 = .ok (.ireturn, 1) := by decide +kernel
theorem d_K_band_0 : decode mt_K_band.2.1 0 = .ok (.iload_n 1, 1) := by decide +kernel
theorem d_K_band_1 : decode mt_K_band.2.1 1 = .ok (.iconst 2, 1) := by decide +kernel
theorem d_K_band_2 : decode mt_K_band.2.1 2 = .ok (.invokestatic 87, 3) := by decide +kernel
theorem d_K_band_5 : decode mt_K_band.2.1 5 = .ok (.ifCond .eq 36, 3) := by decide +kernel
theorem d_K_band_8 : decode mt_K_band.2.1 8 = .ok (.iload_n 2, 1) := by decide +kernel
theorem d_K_band_9 : decode mt_K_band.2.1 9 = .ok (.sipush 1000, 3) := by decide +kernel
theorem d_K_band_12 : decode mt_K_band.2.1 12 = .ok (.invokestatic 87, 3) := by decide +kernel
theorem d_K_band_15 : decode mt_K_band.2.1 15 = .ok (.ifCond .eq 26, 3) := by decide +kernel
theorem d_K_band_18 : decode mt_K_band.2.1 18 = .ok (.iload 4, 2) := by decide +kernel
theorem d_K_band_20 : decode mt_K_band.2.1 20 = .ok (.bipush 9, 2) := by decide +kernel
theorem d_K_band_22 : decode mt_K_band.2.1 22 = .ok (.invokestatic 87, 3) := by decide +kernel
theorem d_K_band_25 : decode mt_K_band.2.1 25 = .ok (.ifCond .eq 16, 3) := by decide +kernel
theorem d_K_band_28 : decode mt_K_band.2.1 28 = .ok (.iload_n 3, 1) := by decide +kernel
theorem d_K_band_29 : decode mt_K_band.2.1 29 = .ok (.iload 4, 2) := by decide +kernel
theorem d_K_band_31 : decode mt_K_band.2.1 31 = .ok (.invokestatic 87, 3) := by decide +kernel
theorem d_K_band_34 : decode mt_K_band.2.1 34 = .ok (.ifCond .eq 7, 3) := by decide +kernel
theorem d_K_band_37 : decode mt_K_band.2.1 37 = .ok (.iconst 1, 1) := by decide +kernel
theorem d_K_band_38 : decode mt_K_band.2.1 38 = .ok (.goto 4, 3) := by decide +kernel
theorem d_K_band_41 : decode mt_K_band.2.1 41 = .ok (.iconst 0, 1) := by decide +kernel
theorem d_K_band_42 : decode mt_K_band.2.1 42 = .ok (.istore 5, 2) := by decide +kernel
theorem d_K_band_44 : decode mt_K_band.2.1 44 = .ok (.iload 5, 2) := by decide +kernel
theorem d_K_band_46 : decode mt_K_band.2.1 46 = .ok (.ifCond .eq 14, 3) := by decide +kernel
theorem d_K_band_49 : decode mt_K_band.2.1 49 = .ok (.aload_n 0, 1) := by decide +kernel
theorem d_K_band_50 : decode mt_K_band.2.1 50 = .ok (.getfield 31, 3) := by decide +kernel
theorem d_K_band_53 : decode mt_K_band.2.1 53 = .ok (.iload_n 1, 1) := by decide +kernel
theorem d_K_band_54 : decode mt_K_band.2.1 54 = .ok (.invokevirtual 212, 3) := by decide +kernel
theorem d_K_band_57 : decode mt_K_band.2.1 57 = .ok (.ifCond .ne 5, 3) := by decide +kernel
theorem d_K_band_60 : decode mt_K_band.2.1 60 = .ok (.iconst (-1), 1) := by decide +kernel
theorem d_K_band_61 : decode mt_K_band.2.1 61 = .ok (.ireturn, 1) := by decide +kernel
theorem d_K_band_62 : decode mt_K_band.2.1 62 = .ok (.aload_n 0, 1) := by decide +kernel
theorem d_K_band_63 : decode mt_K_band.2.1 63 = .ok (.getfield 52, 3) := by decide +kernel
theorem d_K_band_66 : decode mt_K_band.2.1 66 = .ok (.invokevirtual 94, 3) := by decide +kernel
theorem d_K_band_69 : decode mt_K_band.2.1 69 = .ok (.aload_n 0, 1) := by decide +kernel
theorem d_K_band_70 : decode mt_K_band.2.1 70 = .ok (.getfield 31, 3) := by decide +kernel
theorem d_K_band_73 : decode mt_K_band.2.1 73 = .ok (.iload_n 1, 1) := by decide +kernel
theorem d_K_band_74 : decode mt_K_band.2.1 74 = .ok (.iload_n 2, 1) := by decide +kernel
theorem d_K_band_75 : decode mt_K_band.2.1 75 = .ok (.iload_n 3, 1) := by decide +kernel
theorem d_K_band_76 : decode mt_K_band.2.1 76 = .ok (.iload 4, 2) := by decide +kernel
theorem d_K_band_78 : decode mt_K_band.2.1 78 = .ok (.invokevirtual 213, 3) := by decide +kernel
theorem d_K_band_81 : decode mt_K_band.2.1 81 = .ok (.ireturn, 1) := by decide +kernel
theorem d_Ba_haveRoomFor_0 : decode mt_Ba_haveRoomFor.2.1 0 = .ok (.iload_n 1, 1) := by decide +kernel
theorem d_Ba_haveRoomFor_1 : decode mt_Ba_haveRoomFor.2.1 1 = .ok (.iconst 2, 1) := by decide +kernel
theorem d_Ba_haveRoomFor_2 : decode mt_Ba_haveRoomFor.2.1 2 = .ok (.invokestatic 24, 3) := by decide +kernel
theorem d_Ba_haveRoomFor_5 : decode mt_Ba_haveRoomFor.2.1 5 = .ok (.ifCond .eq 17, 3) := by decide +kernel
theorem d_Ba_haveRoomFor_8 : decode mt_Ba_haveRoomFor.2.1 8 = .ok (.aload_n 0, 1) := by decide +kernel
theorem d_Ba_haveRoomFor_9 : decode mt_Ba_haveRoomFor.2.1 9 = .ok (.getfield 9, 3) := by decide +kernel
theorem d_Ba_haveRoomFor_12 : decode mt_Ba_haveRoomFor.2.1 12 = .ok (.iload_n 1, 1) := by decide +kernel
theorem d_Ba_haveRoomFor_13 : decode mt_Ba_haveRoomFor.2.1 13 = .ok (.iaload, 1) := by decide +kernel
theorem d_Ba_haveRoomFor_14 : decode mt_Ba_haveRoomFor.2.1 14 = .ok (.iconst 4, 1) := by decide +kernel
theorem d_Ba_haveRoomFor_15 : decode mt_Ba_haveRoomFor.2.1 15 = .ok (.if_icmp .ge 7, 3) := by decide +kernel
theorem d_Ba_haveRoomFor_18 : decode mt_Ba_haveRoomFor.2.1 18 = .ok (.iconst 1, 1) := by decide +kernel
theorem d_Ba_haveRoomFor_19 : decode mt_Ba_haveRoomFor.2.1 19 = .ok (.goto 4, 3) := by decide +kernel
theorem d_Ba_haveRoomFor_22 : decode mt_Ba_haveRoomFor.2.1 22 = .ok (.iconst 0, 1) := by decide +kernel
theorem d_Ba_haveRoomFor_23 : decode mt_Ba_haveRoomFor.2.1 23 = .ok (.ireturn, 1) := by decide +kernel
theorem d_Ba_keep_0 : decode mt_Ba_keep.2.1 0 = .ok (.aload_n 0, 1) := by decide +kernel
theorem d_Ba_keep_1 : decode mt_Ba_keep.2.1 1 = .ok (.iload_n 1, 1) := by decide +kernel
theorem d_Ba_keep_2 : decode mt_Ba_keep.2.1 2 = .ok (.invokevirtual 28, 3) := by decide +kernel
theorem d_Ba_keep_5 : decode mt_Ba_keep.2.1 5 = .ok (.ifCond .ne 5, 3) := by decide +kernel
theorem d_Ba_keep_8 : decode mt_Ba_keep.2.1 8 = .ok (.iconst (-1), 1) := by decide +kernel
theorem d_Ba_keep_9 : decode mt_Ba_keep.2.1 9 = .ok (.ireturn, 1) := by decide +kernel
theorem d_Ba_keep_10 : decode mt_Ba_keep.2.1 10 = .ok (.iload_n 1, 1) := by decide +kernel
theorem d_Ba_keep_11 : decode mt_Ba_keep.2.1 11 = .ok (.iconst 4, 1) := by decide +kernel
theorem d_Ba_keep_12 : decode mt_Ba_keep.2.1 12 = .ok (.imul, 1) := by decide +kernel
theorem d_Ba_keep_13 : decode mt_Ba_keep.2.1 13 = .ok (.aload_n 0, 1) := by decide +kernel
theorem d_Ba_keep_14 : decode mt_Ba_keep.2.1 14 = .ok (.getfield 9, 3) := by decide +kernel
theorem d_Ba_keep_17 : decode mt_Ba_keep.2.1 17 = .ok (.iload_n 1, 1) := by decide +kernel
theorem d_Ba_keep_18 : decode mt_Ba_keep.2.1 18 = .ok (.iaload, 1) := by decide +kernel
theorem d_Ba_keep_19 : decode mt_Ba_keep.2.1 19 = .ok (.iadd, 1) := by decide +kernel
theorem d_Ba_keep_20 : decode mt_Ba_keep.2.1 20 = .ok (.istore 5, 2) := by decide +kernel
theorem d_Ba_keep_22 : decode mt_Ba_keep.2.1 22 = .ok (.aload_n 0, 1) := by decide +kernel
theorem d_Ba_keep_23 : decode mt_Ba_keep.2.1 23 = .ok (.getfield 15, 3) := by decide +kernel
theorem d_Ba_keep_26 : decode mt_Ba_keep.2.1 26 = .ok (.iload 5, 2) := by decide +kernel
theorem d_Ba_keep_28 : decode mt_Ba_keep.2.1 28 = .ok (.iload_n 2, 1) := by decide +kernel
theorem d_Ba_keep_29 : decode mt_Ba_keep.2.1 29 = .ok (.iastore, 1) := by decide +kernel
theorem d_Ba_keep_30 : decode mt_Ba_keep.2.1 30 = .ok (.aload_n 0, 1) := by decide +kernel
theorem d_Ba_keep_31 : decode mt_Ba_keep.2.1 31 = .ok (.getfield 18, 3) := by decide +kernel
theorem d_Ba_keep_34 : decode mt_Ba_keep.2.1 34 = .ok (.iload 5, 2) := by decide +kernel
theorem d_Ba_keep_36 : decode mt_Ba_keep.2.1 36 = .ok (.iload_n 3, 1) := by decide +kernel
theorem d_Ba_keep_37 : decode mt_Ba_keep.2.1 37 = .ok (.iastore, 1) := by decide +kernel
theorem d_Ba_keep_38 : decode mt_Ba_keep.2.1 38 = .ok (.aload_n 0, 1) := by decide +kernel
theorem d_Ba_keep_39 : decode mt_Ba_keep.2.1 39 = .ok (.getfield 21, 3) := by decide +kernel
theorem d_Ba_keep_42 : decode mt_Ba_keep.2.1 42 = .ok (.iload 5, 2) := by decide +kernel
theorem d_Ba_keep_44 : decode mt_Ba_keep.2.1 44 = .ok (.iload 4, 2) := by decide +kernel
theorem d_Ba_keep_46 : decode mt_Ba_keep.2.1 46 = .ok (.iastore, 1) := by decide +kernel
theorem d_Ba_keep_47 : decode mt_Ba_keep.2.1 47 = .ok (.aload_n 0, 1) := by decide +kernel
theorem d_Ba_keep_48 : decode mt_Ba_keep.2.1 48 = .ok (.getfield 9, 3) := by decide +kernel
theorem d_Ba_keep_51 : decode mt_Ba_keep.2.1 51 = .ok (.iload_n 1, 1) := by decide +kernel
theorem d_Ba_keep_52 : decode mt_Ba_keep.2.1 52 = .ok (.dup2, 1) := by decide +kernel
theorem d_Ba_keep_53 : decode mt_Ba_keep.2.1 53 = .ok (.iaload, 1) := by decide +kernel
theorem d_Ba_keep_54 : decode mt_Ba_keep.2.1 54 = .ok (.iconst 1, 1) := by decide +kernel
theorem d_Ba_keep_55 : decode mt_Ba_keep.2.1 55 = .ok (.iadd, 1) := by decide +kernel
theorem d_Ba_keep_56 : decode mt_Ba_keep.2.1 56 = .ok (.iastore, 1) := by decide +kernel
theorem d_Ba_keep_57 : decode mt_Ba_keep.2.1 57 = .ok (.aload_n 0, 1) := by decide +kernel
theorem d_Ba_keep_58 : decode mt_Ba_keep.2.1 58 = .ok (.getfield 9, 3) := by decide +kernel
theorem d_Ba_keep_61 : decode mt_Ba_keep.2.1 61 = .ok (.iload_n 1, 1) := by decide +kernel
theorem d_Ba_keep_62 : decode mt_Ba_keep.2.1 62 = .ok (.iaload, 1) := by decide +kernel
theorem d_Ba_keep_63 : decode mt_Ba_keep.2.1 63 = .ok (.ireturn, 1) := by decide +kernel
theorem d_K_suits_0 : decode mt_K_suits.2.1 0 = .ok (.aload_n 0, 1) := by decide +kernel
theorem d_K_suits_1 : decode mt_K_suits.2.1 1 = .ok (.iload_n 1, 1) := by decide +kernel
theorem d_K_suits_2 : decode mt_K_suits.2.1 2 = .ok (.invokevirtual 125, 3) := by decide +kernel
theorem d_K_suits_5 : decode mt_K_suits.2.1 5 = .ok (.astore_n 3, 1) := by decide +kernel
theorem d_K_suits_6 : decode mt_K_suits.2.1 6 = .ok (.aload_n 3, 1) := by decide +kernel
theorem d_K_suits_7 : decode mt_K_suits.2.1 7 = .ok (.ifnull 12, 3) := by decide +kernel
theorem d_K_suits_10 : decode mt_K_suits.2.1 10 = .ok (.iload_n 2, 1) := by decide +kernel
theorem d_K_suits_11 : decode mt_K_suits.2.1 11 = .ok (.bipush 23, 2) := by decide +kernel
theorem d_K_suits_13 : decode mt_K_suits.2.1 13 = .ok (.invokestatic 87, 3) := by decide +kernel
theorem d_K_suits_16 : decode mt_K_suits.2.1 16 = .ok (.ifCond .ne 5, 3) := by decide +kernel
theorem d_K_suits_19 : decode mt_K_suits.2.1 19 = .ok (.iconst (-1), 1) := by decide +kernel
theorem d_K_suits_20 : decode mt_K_suits.2.1 20 = .ok (.ireturn, 1) := by decide +kernel
theorem d_K_suits_21 : decode mt_K_suits.2.1 21 = .ok (.aload_n 0, 1) := by decide +kernel
theorem d_K_suits_22 : decode mt_K_suits.2.1 22 = .ok (.aload_n 3, 1) := by decide +kernel
theorem d_K_suits_23 : decode mt_K_suits.2.1 23 = .ok (.iload_n 2, 1) := by decide +kernel
theorem d_K_suits_24 : decode mt_K_suits.2.1 24 = .ok (.invokevirtual 195, 3) := by decide +kernel
theorem d_K_suits_27 : decode mt_K_suits.2.1 27 = .ok (.ifCond .eq 7, 3) := by decide +kernel
theorem d_K_suits_30 : decode mt_K_suits.2.1 30 = .ok (.iconst 1, 1) := by decide +kernel
theorem d_K_suits_31 : decode mt_K_suits.2.1 31 = .ok (.goto 4, 3) := by decide +kernel
theorem d_K_suits_34 : decode mt_K_suits.2.1 34 = .ok (.iconst 0, 1) := by decide +kernel
theorem d_K_suits_35 : decode mt_K_suits.2.1 35 = .ok (.ireturn, 1) := by decide +kernel
theorem d_K_move_0 : decode mt_K_move.2.1 0 = .ok (.aload_n 0, 1) := by decide +kernel
theorem d_K_move_1 : decode mt_K_move.2.1 1 = .ok (.iload_n 1, 1) := by decide +kernel
theorem d_K_move_2 : decode mt_K_move.2.1 2 = .ok (.invokevirtual 125, 3) := by decide +kernel
theorem d_K_move_5 : decode mt_K_move.2.1 5 = .ok (.astore_n 3, 1) := by decide +kernel
theorem d_K_move_6 : decode mt_K_move.2.1 6 = .ok (.aload_n 3, 1) := by decide +kernel
theorem d_K_move_7 : decode mt_K_move.2.1 7 = .ok (.ifnull 33, 3) := by decide +kernel
theorem d_K_move_10 : decode mt_K_move.2.1 10 = .ok (.aload_n 3, 1) := by decide +kernel
theorem d_K_move_11 : decode mt_K_move.2.1 11 = .ok (.getfield 138, 3) := by decide +kernel
theorem d_K_move_14 : decode mt_K_move.2.1 14 = .ok (.iload_n 2, 1) := by decide +kernel
theorem d_K_move_15 : decode mt_K_move.2.1 15 = .ok (.if_icmp .eq 25, 3) := by decide +kernel
theorem d_K_move_18 : decode mt_K_move.2.1 18 = .ok (.aload_n 0, 1) := by decide +kernel
theorem d_K_move_19 : decode mt_K_move.2.1 19 = .ok (.getfield 10, 3) := by decide +kernel
theorem d_K_move_22 : decode mt_K_move.2.1 22 = .ok (.iload_n 2, 1) := by decide +kernel
theorem d_K_move_23 : decode mt_K_move.2.1 23 = .ok (.invokevirtual 107, 3) := by decide +kernel
theorem d_K_move_26 : decode mt_K_move.2.1 26 = .ok (.ifCond .eq 14, 3) := by decide +kernel
theorem d_K_move_29 : decode mt_K_move.2.1 29 = .ok (.aload_n 0, 1) := by decide +kernel
theorem d_K_move_30 : decode mt_K_move.2.1 30 = .ok (.getfield 38, 3) := by decide +kernel
theorem d_K_move_33 : decode mt_K_move.2.1 33 = .ok (.iconst 1, 1) := by decide +kernel
theorem d_K_move_34 : decode mt_K_move.2.1 34 = .ok (.invokevirtual 118, 3) := by decide +kernel
theorem d_K_move_37 : decode mt_K_move.2.1 37 = .ok (.ifCond .ne 5, 3) := by decide +kernel
theorem d_K_move_40 : decode mt_K_move.2.1 40 = .ok (.iconst 0, 1) := by decide +kernel
theorem d_K_move_41 : decode mt_K_move.2.1 41 = .ok (.ireturn, 1) := by decide +kernel
theorem d_K_move_42 : decode mt_K_move.2.1 42 = .ok (.aload_n 0, 1) := by decide +kernel
theorem d_K_move_43 : decode mt_K_move.2.1 43 = .ok (.aload_n 3, 1) := by decide +kernel
theorem d_K_move_44 : decode mt_K_move.2.1 44 = .ok (.iload_n 2, 1) := by decide +kernel
theorem d_K_move_45 : decode mt_K_move.2.1 45 = .ok (.invokevirtual 217, 3) := by decide +kernel
theorem d_K_move_48 : decode mt_K_move.2.1 48 = .ok (.aload_n 0, 1) := by decide +kernel
theorem d_K_move_49 : decode mt_K_move.2.1 49 = .ok (.getfield 52, 3) := by decide +kernel
theorem d_K_move_52 : decode mt_K_move.2.1 52 = .ok (.invokevirtual 94, 3) := by decide +kernel
theorem d_K_move_55 : decode mt_K_move.2.1 55 = .ok (.iconst 1, 1) := by decide +kernel
theorem d_K_move_56 : decode mt_K_move.2.1 56 = .ok (.ireturn, 1) := by decide +kernel
theorem d_K_takeTo_0 : decode mt_K_takeTo.2.1 0 = .ok (.aload_n 0, 1) := by decide +kernel
theorem d_K_takeTo_1 : decode mt_K_takeTo.2.1 1 = .ok (.getfield 38, 3) := by decide +kernel
theorem d_K_takeTo_4 : decode mt_K_takeTo.2.1 4 = .ok (.aload_n 1, 1) := by decide +kernel
theorem d_K_takeTo_5 : decode mt_K_takeTo.2.1 5 = .ok (.getfield 129, 3) := by decide +kernel
theorem d_K_takeTo_8 : decode mt_K_takeTo.2.1 8 = .ok (.aload_n 0, 1) := by decide +kernel
theorem d_K_takeTo_9 : decode mt_K_takeTo.2.1 9 = .ok (.getfield 132, 3) := by decide +kernel
theorem d_K_takeTo_12 : decode mt_K_takeTo.2.1 12 = .ok (.invokevirtual 135, 3) := by decide +kernel
theorem d_K_takeTo_15 : decode mt_K_takeTo.2.1 15 = .ok (.aload_n 0, 1) := by decide +kernel
theorem d_K_takeTo_16 : decode mt_K_takeTo.2.1 16 = .ok (.getfield 10, 3) := by decide +kernel
theorem d_K_takeTo_19 : decode mt_K_takeTo.2.1 19 = .ok (.aload_n 1, 1) := by decide +kernel
theorem d_K_takeTo_20 : decode mt_K_takeTo.2.1 20 = .ok (.getfield 138, 3) := by decide +kernel
theorem d_K_takeTo_23 : decode mt_K_takeTo.2.1 23 = .ok (.invokevirtual 141, 3) := by decide +kernel
theorem d_K_takeTo_26 : decode mt_K_takeTo.2.1 26 = .ok (.aload_n 0, 1) := by decide +kernel
theorem d_K_takeTo_27 : decode mt_K_takeTo.2.1 27 = .ok (.aload_n 1, 1) := by decide +kernel
theorem d_K_takeTo_28 : decode mt_K_takeTo.2.1 28 = .ok (.iload_n 2, 1) := by decide +kernel
theorem d_K_takeTo_29 : decode mt_K_takeTo.2.1 29 = .ok (.invokevirtual 289, 3) := by decide +kernel
theorem d_K_takeTo_32 : decode mt_K_takeTo.2.1 32 = .ok (.return_, 1) := by decide +kernel
theorem d_K_plan_0 : decode mt_K_plan.2.1 0 = .ok (.aload_n 0, 1) := by decide +kernel
theorem d_K_plan_1 : decode mt_K_plan.2.1 1 = .ok (.getfield 52, 3) := by decide +kernel
theorem d_K_plan_4 : decode mt_K_plan.2.1 4 = .ok (.aload_n 0, 1) := by decide +kernel
theorem d_K_plan_5 : decode mt_K_plan.2.1 5 = .ok (.getfield 10, 3) := by decide +kernel
theorem d_K_plan_8 : decode mt_K_plan.2.1 8 = .ok (.invokevirtual 221, 3) := by decide +kernel
theorem d_K_plan_11 : decode mt_K_plan.2.1 11 = .ok (.iconst 0, 1) := by decide +kernel
theorem d_K_plan_12 : decode mt_K_plan.2.1 12 = .ok (.istore_n 1, 1) := by decide +kernel
theorem d_K_plan_13 : decode mt_K_plan.2.1 13 = .ok (.iload_n 1, 1) := by decide +kernel
theorem d_K_plan_14 : decode mt_K_plan.2.1 14 = .ok (.aload_n 0, 1) := by decide +kernel
theorem d_K_plan_15 : decode mt_K_plan.2.1 15 = .ok (.getfield 115, 3) := by decide +kernel
theorem d_K_plan_18 : decode mt_K_plan.2.1 18 = .ok (.if_icmp .ge 49, 3) := by decide +kernel
theorem d_K_plan_21 : decode mt_K_plan.2.1 21 = .ok (.aload_n 0, 1) := by decide +kernel
theorem d_K_plan_22 : decode mt_K_plan.2.1 22 = .ok (.iload_n 1, 1) := by decide +kernel
theorem d_K_plan_23 : decode mt_K_plan.2.1 23 = .ok (.invokevirtual 125, 3) := by decide +kernel
theorem d_K_plan_26 : decode mt_K_plan.2.1 26 = .ok (.astore_n 2, 1) := by decide +kernel
theorem d_K_plan_27 : decode mt_K_plan.2.1 27 = .ok (.aload_n 2, 1) := by decide +kernel
theorem d_K_plan_28 : decode mt_K_plan.2.1 28 = .ok (.ifnull 33, 3) := by decide +kernel
theorem d_K_plan_31 : decode mt_K_plan.2.1 31 = .ok (.aload_n 0, 1) := by decide +kernel
theorem d_K_plan_32 : decode mt_K_plan.2.1 32 = .ok (.aload_n 2, 1) := by decide +kernel
theorem d_K_plan_33 : decode mt_K_plan.2.1 33 = .ok (.aload_n 2, 1) := by decide +kernel
theorem d_K_plan_34 : decode mt_K_plan.2.1 34 = .ok (.getfield 138, 3) := by decide +kernel
theorem d_K_plan_37 : decode mt_K_plan.2.1 37 = .ok (.invokevirtual 195, 3) := by decide +kernel
theorem d_K_plan_40 : decode mt_K_plan.2.1 40 = .ok (.ifCond .ne 21, 3) := by decide +kernel
theorem d_K_plan_43 : decode mt_K_plan.2.1 43 = .ok (.aload_n 0, 1) := by decide +kernel
theorem d_K_plan_44 : decode mt_K_plan.2.1 44 = .ok (.getfield 52, 3) := by decide +kernel
theorem d_K_plan_47 : decode mt_K_plan.2.1 47 = .ok (.invokevirtual 225, 3) := by decide +kernel
theorem d_K_plan_50 : decode mt_K_plan.2.1 50 = .ok (.ifCond .eq 6, 3) := by decide +kernel
theorem d_K_plan_53 : decode mt_K_plan.2.1 53 = .ok (.bipush (-3), 2) := by decide +kernel
theorem d_K_plan_55 : decode mt_K_plan.2.1 55 = .ok (.ireturn, 1) := by decide +kernel
theorem d_K_plan_56 : decode mt_K_plan.2.1 56 = .ok (.aload_n 0, 1) := by decide +kernel
theorem d_K_plan_57 : decode mt_K_plan.2.1 57 = .ok (.aload_n 2, 1) := by decide +kernel
theorem d_K_plan_58 : decode mt_K_plan.2.1 58 = .ok (.invokevirtual 228, 3) := by decide +kernel
theorem d_K_plan_61 : decode mt_K_plan.2.1 61 = .ok (.iinc 1 1, 3) := by decide +kernel
theorem d_K_plan_64 : decode mt_K_plan.2.1 64 = .ok (.goto (-51), 3) := by decide +kernel
theorem d_K_plan_67 : decode mt_K_plan.2.1 67 = .ok (.aload_n 0, 1) := by decide +kernel
theorem d_K_plan_68 : decode mt_K_plan.2.1 68 = .ok (.getfield 52, 3) := by decide +kernel
theorem d_K_plan_71 : decode mt_K_plan.2.1 71 = .ok (.invokevirtual 232, 3) := by decide +kernel
theorem d_K_plan_74 : decode mt_K_plan.2.1 74 = .ok (.ireturn, 1) := by decide +kernel
theorem d_Pl_start_0 : decode mt_Pl_start.2.1 0 = .ok (.aload_n 0, 1) := by decide +kernel
theorem d_Pl_start_1 : decode mt_Pl_start.2.1 1 = .ok (.iconst 0, 1) := by decide +kernel
theorem d_Pl_start_2 : decode mt_Pl_start.2.1 2 = .ok (.putfield 37, 3) := by decide +kernel
theorem d_Pl_start_5 : decode mt_Pl_start.2.1 5 = .ok (.aload_n 0, 1) := by decide +kernel
theorem d_Pl_start_6 : decode mt_Pl_start.2.1 6 = .ok (.getfield 21, 3) := by decide +kernel
theorem d_Pl_start_9 : decode mt_Pl_start.2.1 9 = .ok (.ldc2_w 41, 3) := by decide +kernel
theorem d_Pl_start_12 : decode mt_Pl_start.2.1 12 = .ok (.invokestatic 43, 3) := by decide +kernel
theorem d_Pl_start_15 : decode mt_Pl_start.2.1 15 = .ok (.iconst 0, 1) := by decide +kernel
theorem d_Pl_start_16 : decode mt_Pl_start.2.1 16 = .ok (.istore_n 2, 1) := by decide +kernel
theorem d_Pl_start_17 : decode mt_Pl_start.2.1 17 = .ok (.iload_n 2, 1) := by decide +kernel
theorem d_Pl_start_18 : decode mt_Pl_start.2.1 18 = .ok (.bipush 24, 2) := by decide +kernel
theorem d_Pl_start_20 : decode mt_Pl_start.2.1 20 = .ok (.if_icmp .ge 20, 3) := by decide +kernel
theorem d_Pl_start_23 : decode mt_Pl_start.2.1 23 = .ok (.aload_n 0, 1) := by decide +kernel
theorem d_Pl_start_24 : decode mt_Pl_start.2.1 24 = .ok (.getfield 25, 3) := by decide +kernel
theorem d_Pl_start_27 : decode mt_Pl_start.2.1 27 = .ok (.iload_n 2, 1) := by decide +kernel
theorem d_Pl_start_28 : decode mt_Pl_start.2.1 28 = .ok (.aload_n 1, 1) := by decide +kernel
theorem d_Pl_start_29 : decode mt_Pl_start.2.1 29 = .ok (.iload_n 2, 1) := by decide +kernel
theorem d_Pl_start_30 : decode mt_Pl_start.2.1 30 = .ok (.invokevirtual 49, 3) := by decide +kernel
theorem d_Pl_start_33 : decode mt_Pl_start.2.1 33 = .ok (.iastore, 1) := by decide +kernel
theorem d_Pl_start_34 : decode mt_Pl_start.2.1 34 = .ok (.iinc 2 1, 3) := by decide +kernel
theorem d_Pl_start_37 : decode mt_Pl_start.2.1 37 = .ok (.goto (-20), 3) := by decide +kernel
theorem d_Pl_start_40 : decode mt_Pl_start.2.1 40 = .ok (.return_, 1) := by decide +kernel
theorem d_JA_fill_J_0 : decode mt_JA_fill_J.2.1 0 = .ok (.iconst 0, 1) := by decide +kernel
theorem d_JA_fill_J_1 : decode mt_JA_fill_J.2.1 1 = .ok (.istore_n 3, 1) := by decide +kernel
theorem d_JA_fill_J_2 : decode mt_JA_fill_J.2.1 2 = .ok (.aload_n 0, 1) := by decide +kernel
theorem d_JA_fill_J_3 : decode mt_JA_fill_J.2.1 3 = .ok (.arraylength, 1) := by decide +kernel
theorem d_JA_fill_J_4 : decode mt_JA_fill_J.2.1 4 = .ok (.istore 4, 2) := by decide +kernel
theorem d_JA_fill_J_6 : decode mt_JA_fill_J.2.1 6 = .ok (.iload_n 3, 1) := by decide +kernel
theorem d_JA_fill_J_7 : decode mt_JA_fill_J.2.1 7 = .ok (.iload 4, 2) := by decide +kernel
theorem d_JA_fill_J_9 : decode mt_JA_fill_J.2.1 9 = .ok (.if_icmp .ge 13, 3) := by decide +kernel
theorem d_JA_fill_J_12 : decode mt_JA_fill_J.2.1 12 = .ok (.aload_n 0, 1) := by decide +kernel
theorem d_JA_fill_J_13 : decode mt_JA_fill_J.2.1 13 = .ok (.iload_n 3, 1) := by decide +kernel
theorem d_JA_fill_J_14 : decode mt_JA_fill_J.2.1 14 = .ok (.lload_n 1, 1) := by decide +kernel
theorem d_JA_fill_J_15 : decode mt_JA_fill_J.2.1 15 = .ok (.lastore, 1) := by decide +kernel
theorem d_JA_fill_J_16 : decode mt_JA_fill_J.2.1 16 = .ok (.iinc 3 1, 3) := by decide +kernel
theorem d_JA_fill_J_19 : decode mt_JA_fill_J.2.1 19 = .ok (.goto (-13), 3) := by decide +kernel
theorem d_JA_fill_J_22 : decode mt_JA_fill_J.2.1 22 = .ok (.return_, 1) := by decide +kernel
theorem d_Pl_isFull_0 : decode mt_Pl_isFull.2.1 0 = .ok (.aload_n 0, 1) := by decide +kernel
theorem d_Pl_isFull_1 : decode mt_Pl_isFull.2.1 1 = .ok (.getfield 37, 3) := by decide +kernel
theorem d_Pl_isFull_4 : decode mt_Pl_isFull.2.1 4 = .ok (.bipush 10, 2) := by decide +kernel
theorem d_Pl_isFull_6 : decode mt_Pl_isFull.2.1 6 = .ok (.if_icmp .lt 7, 3) := by decide +kernel
theorem d_Pl_isFull_9 : decode mt_Pl_isFull.2.1 9 = .ok (.iconst 1, 1) := by decide +kernel
theorem d_Pl_isFull_10 : decode mt_Pl_isFull.2.1 10 = .ok (.goto 4, 3) := by decide +kernel
theorem d_Pl_isFull_13 : decode mt_Pl_isFull.2.1 13 = .ok (.iconst 0, 1) := by decide +kernel
theorem d_Pl_isFull_14 : decode mt_Pl_isFull.2.1 14 = .ok (.ireturn, 1) := by decide +kernel
theorem d_K_askPlanFor_0 : decode mt_K_askPlanFor.2.1 0 = .ok (.aload_n 0, 1) := by decide +kernel
theorem d_K_askPlanFor_1 : decode mt_K_askPlanFor.2.1 1 = .ok (.getfield 52, 3) := by decide +kernel
theorem d_K_askPlanFor_4 : decode mt_K_askPlanFor.2.1 4 = .ok (.aload_n 1, 1) := by decide +kernel
theorem d_K_askPlanFor_5 : decode mt_K_askPlanFor.2.1 5 = .ok (.getfield 292, 3) := by decide +kernel
theorem d_K_askPlanFor_8 : decode mt_K_askPlanFor.2.1 8 = .ok (.aload_n 1, 1) := by decide +kernel
theorem d_K_askPlanFor_9 : decode mt_K_askPlanFor.2.1 9 = .ok (.getfield 138, 3) := by decide +kernel
theorem d_K_askPlanFor_12 : decode mt_K_askPlanFor.2.1 12 = .ok (.invokevirtual 315, 3) := by decide +kernel
theorem d_K_askPlanFor_15 : decode mt_K_askPlanFor.2.1 15 = .ok (.iconst 0, 1) := by decide +kernel
theorem d_K_askPlanFor_16 : decode mt_K_askPlanFor.2.1 16 = .ok (.istore_n 2, 1) := by decide +kernel
theorem d_K_askPlanFor_17 : decode mt_K_askPlanFor.2.1 17 = .ok (.iload_n 2, 1) := by decide +kernel
theorem d_K_askPlanFor_18 : decode mt_K_askPlanFor.2.1 18 = .ok (.bipush 24, 2) := by decide +kernel
theorem d_K_askPlanFor_20 : decode mt_K_askPlanFor.2.1 20 = .ok (.if_icmp .ge 26, 3) := by decide +kernel
theorem d_K_askPlanFor_23 : decode mt_K_askPlanFor.2.1 23 = .ok (.aload_n 0, 1) := by decide +kernel
theorem d_K_askPlanFor_24 : decode mt_K_askPlanFor.2.1 24 = .ok (.aload_n 1, 1) := by decide +kernel
theorem d_K_askPlanFor_25 : decode mt_K_askPlanFor.2.1 25 = .ok (.iload_n 2, 1) := by decide +kernel
theorem d_K_askPlanFor_26 : decode mt_K_askPlanFor.2.1 26 = .ok (.invokevirtual 195, 3) := by decide +kernel
theorem d_K_askPlanFor_29 : decode mt_K_askPlanFor.2.1 29 = .ok (.ifCond .eq 11, 3) := by decide +kernel
theorem d_K_askPlanFor_32 : decode mt_K_askPlanFor.2.1 32 = .ok (.aload_n 0, 1) := by decide +kernel
theorem d_K_askPlanFor_33 : decode mt_K_askPlanFor.2.1 33 = .ok (.getfield 52, 3) := by decide +kernel
theorem d_K_askPlanFor_36 : decode mt_K_askPlanFor.2.1 36 = .ok (.iload_n 2, 1) := by decide +kernel
theorem d_K_askPlanFor_37 : decode mt_K_askPlanFor.2.1 37 = .ok (.invokevirtual 318, 3) := by decide +kernel
theorem d_K_askPlanFor_40 : decode mt_K_askPlanFor.2.1 40 = .ok (.iinc 2 1, 3) := by decide +kernel
theorem d_K_askPlanFor_43 : decode mt_K_askPlanFor.2.1 43 = .ok (.goto (-26), 3) := by decide +kernel
theorem d_K_askPlanFor_46 : decode mt_K_askPlanFor.2.1 46 = .ok (.return_, 1) := by decide +kernel
theorem d_Pl_ask_0 : decode mt_Pl_ask.2.1 0 = .ok (.aload_n 0, 1) := by decide +kernel
theorem d_Pl_ask_1 : decode mt_Pl_ask.2.1 1 = .ok (.invokevirtual 55, 3) := by decide +kernel
theorem d_Pl_ask_4 : decode mt_Pl_ask.2.1 4 = .ok (.ifCond .ne 12, 3) := by decide +kernel
theorem d_Pl_ask_7 : decode mt_Pl_ask.2.1 7 = .ok (.iload_n 2, 1) := by decide +kernel
theorem d_Pl_ask_8 : decode mt_Pl_ask.2.1 8 = .ok (.bipush 23, 2) := by decide +kernel
theorem d_Pl_ask_10 : decode mt_Pl_ask.2.1 10 = .ok (.invokestatic 59, 3) := by decide +kernel
theorem d_Pl_ask_13 : decode mt_Pl_ask.2.1 13 = .ok (.ifCond .ne 4, 3) := by decide +kernel
theorem d_Pl_ask_16 : decode mt_Pl_ask.2.1 16 = .ok (.return_, 1) := by decide +kernel
theorem d_Pl_ask_17 : decode mt_Pl_ask.2.1 17 = .ok (.aload_n 0, 1) := by decide +kernel
theorem d_Pl_ask_18 : decode mt_Pl_ask.2.1 18 = .ok (.getfield 9, 3) := by decide +kernel
theorem d_Pl_ask_21 : decode mt_Pl_ask.2.1 21 = .ok (.aload_n 0, 1) := by decide +kernel
theorem d_Pl_ask_22 : decode mt_Pl_ask.2.1 22 = .ok (.getfield 37, 3) := by decide +kernel
theorem d_Pl_ask_25 : decode mt_Pl_ask.2.1 25 = .ok (.iload_n 1, 1) := by decide +kernel
theorem d_Pl_ask_26 : decode mt_Pl_ask.2.1 26 = .ok (.iastore, 1) := by decide +kernel
theorem d_Pl_ask_27 : decode mt_Pl_ask.2.1 27 = .ok (.aload_n 0, 1) := by decide +kernel
theorem d_Pl_ask_28 : decode mt_Pl_ask.2.1 28 = .ok (.getfield 15, 3) := by decide +kernel
theorem d_Pl_ask_31 : decode mt_Pl_ask.2.1 31 = .ok (.aload_n 0, 1) := by decide +kernel
theorem d_Pl_ask_32 : decode mt_Pl_ask.2.1 32 = .ok (.getfield 37, 3) := by decide +kernel
theorem d_Pl_ask_35 : decode mt_Pl_ask.2.1 35 = .ok (.iload_n 2, 1) := by decide +kernel
theorem d_Pl_ask_36 : decode mt_Pl_ask.2.1 36 = .ok (.iastore, 1) := by decide +kernel
theorem d_Pl_ask_37 : decode mt_Pl_ask.2.1 37 = .ok (.aload_n 0, 1) := by decide +kernel
theorem d_Pl_ask_38 : decode mt_Pl_ask.2.1 38 = .ok (.getfield 25, 3) := by decide +kernel
theorem d_Pl_ask_41 : decode mt_Pl_ask.2.1 41 = .ok (.iload_n 2, 1) := by decide +kernel
theorem d_Pl_ask_42 : decode mt_Pl_ask.2.1 42 = .ok (.dup2, 1) := by decide +kernel
theorem d_Pl_ask_43 : decode mt_Pl_ask.2.1 43 = .ok (.iaload, 1) := by decide +kernel
theorem d_Pl_ask_44 : decode mt_Pl_ask.2.1 44 = .ok (.iconst 1, 1) := by decide +kernel
theorem d_Pl_ask_45 : decode mt_Pl_ask.2.1 45 = .ok (.iadd, 1) := by decide +kernel
theorem d_Pl_ask_46 : decode mt_Pl_ask.2.1 46 = .ok (.iastore, 1) := by decide +kernel
theorem d_Pl_ask_47 : decode mt_Pl_ask.2.1 47 = .ok (.aload_n 0, 1) := by decide +kernel
theorem d_Pl_ask_48 : decode mt_Pl_ask.2.1 48 = .ok (.dup, 1) := by decide +kernel
theorem d_Pl_ask_49 : decode mt_Pl_ask.2.1 49 = .ok (.getfield 37, 3) := by decide +kernel
theorem d_Pl_ask_52 : decode mt_Pl_ask.2.1 52 = .ok (.iconst 1, 1) := by decide +kernel
theorem d_Pl_ask_53 : decode mt_Pl_ask.2.1 53 = .ok (.iadd, 1) := by decide +kernel
theorem d_Pl_ask_54 : decode mt_Pl_ask.2.1 54 = .ok (.putfield 37, 3) := by decide +kernel
theorem d_Pl_ask_57 : decode mt_Pl_ask.2.1 57 = .ok (.return_, 1) := by decide +kernel
theorem d_Pl_allowLast_0 : decode mt_Pl_allowLast.2.1 0 = .ok (.aload_n 0, 1) := by decide +kernel
theorem d_Pl_allowLast_1 : decode mt_Pl_allowLast.2.1 1 = .ok (.getfield 37, 3) := by decide +kernel
theorem d_Pl_allowLast_4 : decode mt_Pl_allowLast.2.1 4 = .ok (.iconst 1, 1) := by decide +kernel
theorem d_Pl_allowLast_5 : decode mt_Pl_allowLast.2.1 5 = .ok (.isub, 1) := by decide +kernel
theorem d_Pl_allowLast_6 : decode mt_Pl_allowLast.2.1 6 = .ok (.istore_n 2, 1) := by decide +kernel
theorem d_Pl_allowLast_7 : decode mt_Pl_allowLast.2.1 7 = .ok (.iload_n 2, 1) := by decide +kernel
theorem d_Pl_allowLast_8 : decode mt_Pl_allowLast.2.1 8 = .ok (.ifCond .lt 12, 3) := by decide +kernel
theorem d_Pl_allowLast_11 : decode mt_Pl_allowLast.2.1 11 = .ok (.iload_n 1, 1) := by decide +kernel
theorem d_Pl_allowLast_12 : decode mt_Pl_allowLast.2.1 12 = .ok (.bipush 23, 2) := by decide +kernel
theorem d_Pl_allowLast_14 : decode mt_Pl_allowLast.2.1 14 = .ok (.invokestatic 59, 3) := by decide +kernel
theorem d_Pl_allowLast_17 : decode mt_Pl_allowLast.2.1 17 = .ok (.ifCond .ne 4, 3) := by decide +kernel
theorem d_Pl_allowLast_20 : decode mt_Pl_allowLast.2.1 20 = .ok (.return_, 1) := by decide +kernel
theorem d_Pl_allowLast_21 : decode mt_Pl_allowLast.2.1 21 = .ok (.ldc2_w 63, 3) := by decide +kernel
theorem d_Pl_allowLast_24 : decode mt_Pl_allowLast.2.1 24 = .ok (.lstore_n 3, 1) := by decide +kernel
theorem d_Pl_allowLast_25 : decode mt_Pl_allowLast.2.1 25 = .ok (.iconst 0, 1) := by decide +kernel
theorem d_Pl_allowLast_26 : decode mt_Pl_allowLast.2.1 26 = .ok (.istore 5, 2) := by decide +kernel
theorem d_Pl_allowLast_28 : decode mt_Pl_allowLast.2.1 28 = .ok (.iload 5, 2) := by decide +kernel
theorem d_Pl_allowLast_30 : decode mt_Pl_allowLast.2.1 30 = .ok (.iload_n 2, 1) := by decide +kernel
theorem d_Pl_allowLast_31 : decode mt_Pl_allowLast.2.1 31 = .ok (.if_icmp .gt 15, 3) := by decide +kernel
theorem d_Pl_allowLast_34 : decode mt_Pl_allowLast.2.1 34 = .ok (.lload_n 3, 1) := by decide +kernel
theorem d_Pl_allowLast_35 : decode mt_Pl_allowLast.2.1 35 = .ok (.ldc2_w 65, 3) := by decide +kernel
theorem d_Pl_allowLast_38 : decode mt_Pl_allowLast.2.1 38 = .ok (.ldiv, 1) := by decide +kernel
theorem d_Pl_allowLast_39 : decode mt_Pl_allowLast.2.1 39 = .ok (.lstore_n 3, 1) := by decide +kernel
theorem d_Pl_allowLast_40 : decode mt_Pl_allowLast.2.1 40 = .ok (.iinc 5 1, 3) := by decide +kernel
theorem d_Pl_allowLast_43 : decode mt_Pl_allowLast.2.1 43 = .ok (.goto (-15), 3) := by decide +kernel
theorem d_Pl_allowLast_46 : decode mt_Pl_allowLast.2.1 46 = .ok (.aload_n 0, 1) := by decide +kernel
theorem d_Pl_allowLast_47 : decode mt_Pl_allowLast.2.1 47 = .ok (.getfield 21, 3) := by decide +kernel
theorem d_Pl_allowLast_50 : decode mt_Pl_allowLast.2.1 50 = .ok (.iload_n 2, 1) := by decide +kernel
theorem d_Pl_allowLast_51 : decode mt_Pl_allowLast.2.1 51 = .ok (.bipush 24, 2) := by decide +kernel
theorem d_Pl_allowLast_53 : decode mt_Pl_allowLast.2.1 53 = .ok (.imul, 1) := by decide +kernel
theorem d_Pl_allowLast_54 : decode mt_Pl_allowLast.2.1 54 = .ok (.iload_n 1, 1) := by decide +kernel
theorem d_Pl_allowLast_55 : decode mt_Pl_allowLast.2.1 55 = .ok (.iadd, 1) := by decide +kernel
theorem d_Pl_allowLast_56 : decode mt_Pl_allowLast.2.1 56 = .ok (.aload_n 0, 1) := by decide +kernel
theorem d_Pl_allowLast_57 : decode mt_Pl_allowLast.2.1 57 = .ok (.getfield 15, 3) := by decide +kernel
theorem d_Pl_allowLast_60 : decode mt_Pl_allowLast.2.1 60 = .ok (.iload_n 2, 1) := by decide +kernel
theorem d_Pl_allowLast_61 : decode mt_Pl_allowLast.2.1 61 = .ok (.iaload, 1) := by decide +kernel
theorem d_Pl_allowLast_62 : decode mt_Pl_allowLast.2.1 62 = .ok (.iload_n 1, 1) := by decide +kernel
theorem d_Pl_allowLast_63 : decode mt_Pl_allowLast.2.1 63 = .ok (.invokestatic 67, 3) := by decide +kernel
theorem d_Pl_allowLast_66 : decode mt_Pl_allowLast.2.1 66 = .ok (.i2l, 1) := by decide +kernel
theorem d_Pl_allowLast_67 : decode mt_Pl_allowLast.2.1 67 = .ok (.ldc2_w 63, 3) := by decide +kernel
theorem d_Pl_allowLast_70 : decode mt_Pl_allowLast.2.1 70 = .ok (.lmul, 1) := by decide +kernel
theorem d_Pl_allowLast_71 : decode mt_Pl_allowLast.2.1 71 = .ok (.iload_n 1, 1) := by decide +kernel
theorem d_Pl_allowLast_72 : decode mt_Pl_allowLast.2.1 72 = .ok (.i2l, 1) := by decide +kernel
theorem d_Pl_allowLast_73 : decode mt_Pl_allowLast.2.1 73 = .ok (.lload_n 3, 1) := by decide +kernel
theorem d_Pl_allowLast_74 : decode mt_Pl_allowLast.2.1 74 = .ok (.lmul, 1) := by decide +kernel
theorem d_Pl_allowLast_75 : decode mt_Pl_allowLast.2.1 75 = .ok (.ladd, 1) := by decide +kernel
theorem d_Pl_allowLast_76 : decode mt_Pl_allowLast.2.1 76 = .ok (.lastore, 1) := by decide +kernel
theorem d_Pl_allowLast_77 : decode mt_Pl_allowLast.2.1 77 = .ok (.return_, 1) := by decide +kernel
theorem d_Pl_wayBetween_0 : decode mt_Pl_wayBetween.2.1 0 = .ok (.iload_n 0, 1) := by decide +kernel
theorem d_Pl_wayBetween_1 : decode mt_Pl_wayBetween.2.1 1 = .ok (.bipush 6, 2) := by decide +kernel
theorem d_Pl_wayBetween_3 : decode mt_Pl_wayBetween.2.1 3 = .ok (.idiv, 1) := by decide +kernel
theorem d_Pl_wayBetween_4 : decode mt_Pl_wayBetween.2.1 4 = .ok (.iload_n 1, 1) := by decide +kernel
theorem d_Pl_wayBetween_5 : decode mt_Pl_wayBetween.2.1 5 = .ok (.bipush 6, 2) := by decide +kernel
theorem d_Pl_wayBetween_7 : decode mt_Pl_wayBetween.2.1 7 = .ok (.idiv, 1) := by decide +kernel
theorem d_Pl_wayBetween_8 : decode mt_Pl_wayBetween.2.1 8 = .ok (.isub, 1) := by decide +kernel
theorem d_Pl_wayBetween_9 : decode mt_Pl_wayBetween.2.1 9 = .ok (.invokestatic 88, 3) := by decide +kernel
theorem d_Pl_wayBetween_12 : decode mt_Pl_wayBetween.2.1 12 = .ok (.istore_n 2, 1) := by decide +kernel
theorem d_Pl_wayBetween_13 : decode mt_Pl_wayBetween.2.1 13 = .ok (.iload_n 0, 1) := by decide +kernel
theorem d_Pl_wayBetween_14 : decode mt_Pl_wayBetween.2.1 14 = .ok (.bipush 6, 2) := by decide +kernel
theorem d_Pl_wayBetween_16 : decode mt_Pl_wayBetween.2.1 16 = .ok (.irem, 1) := by decide +kernel
theorem d_Pl_wayBetween_17 : decode mt_Pl_wayBetween.2.1 17 = .ok (.iload_n 1, 1) := by decide +kernel
theorem d_Pl_wayBetween_18 : decode mt_Pl_wayBetween.2.1 18 = .ok (.bipush 6, 2) := by decide +kernel
theorem d_Pl_wayBetween_20 : decode mt_Pl_wayBetween.2.1 20 = .ok (.irem, 1) := by decide +kernel
theorem d_Pl_wayBetween_21 : decode mt_Pl_wayBetween.2.1 21 = .ok (.isub, 1) := by decide +kernel
theorem d_Pl_wayBetween_22 : decode mt_Pl_wayBetween.2.1 22 = .ok (.invokestatic 88, 3) := by decide +kernel
theorem d_Pl_wayBetween_25 : decode mt_Pl_wayBetween.2.1 25 = .ok (.istore_n 3, 1) := by decide +kernel
theorem d_Pl_wayBetween_26 : decode mt_Pl_wayBetween.2.1 26 = .ok (.bipush 20, 2) := by decide +kernel
theorem d_Pl_wayBetween_28 : decode mt_Pl_wayBetween.2.1 28 = .ok (.iload_n 2, 1) := by decide +kernel
theorem d_Pl_wayBetween_29 : decode mt_Pl_wayBetween.2.1 29 = .ok (.imul, 1) := by decide +kernel
theorem d_Pl_wayBetween_30 : decode mt_Pl_wayBetween.2.1 30 = .ok (.iload_n 3, 1) := by decide +kernel
theorem d_Pl_wayBetween_31 : decode mt_Pl_wayBetween.2.1 31 = .ok (.iadd, 1) := by decide +kernel
theorem d_Pl_wayBetween_32 : decode mt_Pl_wayBetween.2.1 32 = .ok (.ireturn, 1) := by decide +kernel
theorem d_JM_abs_0 : decode mt_JM_abs.2.1 0 = .ok (.iload_n 0, 1) := by decide +kernel
theorem d_JM_abs_1 : decode mt_JM_abs.2.1 1 = .ok (.ifCond .ge 8, 3) := by decide +kernel
theorem d_JM_abs_4 : decode mt_JM_abs.2.1 4 = .ok (.iload_n 0, 1) := by decide +kernel
theorem d_JM_abs_5 : decode mt_JM_abs.2.1 5 = .ok (.ineg, 1) := by decide +kernel
theorem d_JM_abs_6 : decode mt_JM_abs.2.1 6 = .ok (.goto 4, 3) := by decide +kernel
theorem d_JM_abs_9 : decode mt_JM_abs.2.1 9 = .ok (.iload_n 0, 1) := by decide +kernel
theorem d_JM_abs_10 : decode mt_JM_abs.2.1 10 = .ok (.ireturn, 1) := by decide +kernel
theorem d_Pl_findBest_0 : decode mt_Pl_findBest.2.1 0 = .ok (.iconst 0, 1) := by decide +kernel
theorem d_Pl_findBest_1 : decode mt_Pl_findBest.2.1 1 = .ok (.istore_n 1, 1) := by decide +kernel
theorem d_Pl_findBest_2 : decode mt_Pl_findBest.2.1 2 = .ok (.iconst 0, 1) := by decide +kernel
theorem d_Pl_findBest_3 : decode mt_Pl_findBest.2.1 3 = .ok (.istore_n 2, 1) := by decide +kernel
theorem d_Pl_findBest_4 : decode mt_Pl_findBest.2.1 4 = .ok (.iload_n 2, 1) := by decide +kernel
theorem d_Pl_findBest_5 : decode mt_Pl_findBest.2.1 5 = .ok (.aload_n 0, 1) := by decide +kernel
theorem d_Pl_findBest_6 : decode mt_Pl_findBest.2.1 6 = .ok (.getfield 37, 3) := by decide +kernel
theorem d_Pl_findBest_9 : decode mt_Pl_findBest.2.1 9 = .ok (.if_icmp .ge 20, 3) := by decide +kernel
theorem d_Pl_findBest_12 : decode mt_Pl_findBest.2.1 12 = .ok (.aload_n 0, 1) := by decide +kernel
theorem d_Pl_findBest_13 : decode mt_Pl_findBest.2.1 13 = .ok (.iload_n 2, 1) := by decide +kernel
theorem d_Pl_findBest_14 : decode mt_Pl_findBest.2.1 14 = .ok (.invokevirtual 71, 3) := by decide +kernel
theorem d_Pl_findBest_17 : decode mt_Pl_findBest.2.1 17 = .ok (.ifCond .ne 6, 3) := by decide +kernel
theorem d_Pl_findBest_20 : decode mt_Pl_findBest.2.1 20 = .ok (.bipush (-2), 2) := by decide +kernel
theorem d_Pl_findBest_22 : decode mt_Pl_findBest.2.1 22 = .ok (.ireturn, 1) := by decide +kernel
theorem d_Pl_findBest_23 : decode mt_Pl_findBest.2.1 23 = .ok (.iinc 2 1, 3) := by decide +kernel
theorem d_Pl_findBest_26 : decode mt_Pl_findBest.2.1 26 = .ok (.goto (-22), 3) := by decide +kernel
theorem d_Pl_findBest_29 : decode mt_Pl_findBest.2.1 29 = .ok (.iconst 0, 1) := by decide +kernel
theorem d_Pl_findBest_30 : decode mt_Pl_findBest.2.1 30 = .ok (.istore_n 2, 1) := by decide +kernel
theorem d_Pl_findBest_31 : decode mt_Pl_findBest.2.1 31 = .ok (.iload_n 2, 1) := by decide +kernel
theorem d_Pl_findBest_32 : decode mt_Pl_findBest.2.1 32 = .ok (.aload_n 0, 1) := by decide +kernel
theorem d_Pl_findBest_33 : decode mt_Pl_findBest.2.1 33 = .ok (.getfield 37, 3) := by decide +kernel
theorem d_Pl_findBest_36 : decode mt_Pl_findBest.2.1 36 = .ok (.if_icmp .ge 27, 3) := by decide +kernel
theorem d_Pl_findBest_39 : decode mt_Pl_findBest.2.1 39 = .ok (.iload_n 1, 1) := by decide +kernel
theorem d_Pl_findBest_40 : decode mt_Pl_findBest.2.1 40 = .ok (.aload_n 0, 1) := by decide +kernel
theorem d_Pl_findBest_41 : decode mt_Pl_findBest.2.1 41 = .ok (.getfield 15, 3) := by decide +kernel
theorem d_Pl_findBest_44 : decode mt_Pl_findBest.2.1 44 = .ok (.iload_n 2, 1) := by decide +kernel
theorem d_Pl_findBest_45 : decode mt_Pl_findBest.2.1 45 = .ok (.iaload, 1) := by decide +kernel
theorem d_Pl_findBest_46 : decode mt_Pl_findBest.2.1 46 = .ok (.aload_n 0, 1) := by decide +kernel
theorem d_Pl_findBest_47 : decode mt_Pl_findBest.2.1 47 = .ok (.getfield 18, 3) := by decide +kernel
theorem d_Pl_findBest_50 : decode mt_Pl_findBest.2.1 50 = .ok (.iload_n 2, 1) := by decide +kernel
theorem d_Pl_findBest_51 : decode mt_Pl_findBest.2.1 51 = .ok (.iaload, 1) := by decide +kernel
theorem d_Pl_findBest_52 : decode mt_Pl_findBest.2.1 52 = .ok (.invokestatic 67, 3) := by decide +kernel
theorem d_Pl_findBest_55 : decode mt_Pl_findBest.2.1 55 = .ok (.iadd, 1) := by decide +kernel
theorem d_Pl_findBest_56 : decode mt_Pl_findBest.2.1 56 = .ok (.istore_n 1, 1) := by decide +kernel
theorem d_Pl_findBest_57 : decode mt_Pl_findBest.2.1 57 = .ok (.iinc 2 1, 3) := by decide +kernel
theorem d_Pl_findBest_60 : decode mt_Pl_findBest.2.1 60 = .ok (.goto (-29), 3) := by decide +kernel
theorem d_Pl_findBest_63 : decode mt_Pl_findBest.2.1 63 = .ok (.aload_n 0, 1) := by decide +kernel
theorem d_Pl_findBest_64 : decode mt_Pl_findBest.2.1 64 = .ok (.invokevirtual 75, 3) := by decide +kernel
theorem d_Pl_findBest_67 : decode mt_Pl_findBest.2.1 67 = .ok (.iload_n 1, 1) := by decide +kernel
theorem d_Pl_findBest_68 : decode mt_Pl_findBest.2.1 68 = .ok (.ireturn, 1) := by decide +kernel
theorem d_Pl_placeRow_0 : decode mt_Pl_placeRow.2.1 0 = .ok (.iconst 0, 1) := by decide +kernel
theorem d_Pl_placeRow_1 : decode mt_Pl_placeRow.2.1 1 = .ok (.istore_n 2, 1) := by decide +kernel
theorem d_Pl_placeRow_2 : decode mt_Pl_placeRow.2.1 2 = .ok (.iload_n 2, 1) := by decide +kernel
theorem d_Pl_placeRow_3 : decode mt_Pl_placeRow.2.1 3 = .ok (.bipush 24, 2) := by decide +kernel
theorem d_Pl_placeRow_5 : decode mt_Pl_placeRow.2.1 5 = .ok (.if_icmp .ge 33, 3) := by decide +kernel
theorem d_Pl_placeRow_8 : decode mt_Pl_placeRow.2.1 8 = .ok (.aload_n 0, 1) := by decide +kernel
theorem d_Pl_placeRow_9 : decode mt_Pl_placeRow.2.1 9 = .ok (.getfield 28, 3) := by decide +kernel
theorem d_Pl_placeRow_12 : decode mt_Pl_placeRow.2.1 12 = .ok (.iload_n 2, 1) := by decide +kernel
theorem d_Pl_placeRow_13 : decode mt_Pl_placeRow.2.1 13 = .ok (.aload_n 0, 1) := by decide +kernel
theorem d_Pl_placeRow_14 : decode mt_Pl_placeRow.2.1 14 = .ok (.getfield 21, 3) := by decide +kernel
theorem d_Pl_placeRow_17 : decode mt_Pl_placeRow.2.1 17 = .ok (.iload_n 1, 1) := by decide +kernel
theorem d_Pl_placeRow_18 : decode mt_Pl_placeRow.2.1 18 = .ok (.bipush 24, 2) := by decide +kernel
theorem d_Pl_placeRow_20 : decode mt_Pl_placeRow.2.1 20 = .ok (.imul, 1) := by decide +kernel
theorem d_Pl_placeRow_21 : decode mt_Pl_placeRow.2.1 21 = .ok (.iload_n 2, 1) := by decide +kernel
theorem d_Pl_placeRow_22 : decode mt_Pl_placeRow.2.1 22 = .ok (.iadd, 1) := by decide +kernel
theorem d_Pl_placeRow_23 : decode mt_Pl_placeRow.2.1 23 = .ok (.laload, 1) := by decide +kernel
theorem d_Pl_placeRow_24 : decode mt_Pl_placeRow.2.1 24 = .ok (.lastore, 1) := by decide +kernel
theorem d_Pl_placeRow_25 : decode mt_Pl_placeRow.2.1 25 = .ok (.aload_n 0, 1) := by decide +kernel
theorem d_Pl_placeRow_26 : decode mt_Pl_placeRow.2.1 26 = .ok (.getfield 31, 3) := by decide +kernel
theorem d_Pl_placeRow_29 : decode mt_Pl_placeRow.2.1 29 = .ok (.iload_n 2, 1) := by decide +kernel
theorem d_Pl_placeRow_30 : decode mt_Pl_placeRow.2.1 30 = .ok (.iload_n 1, 1) := by decide +kernel
theorem d_Pl_placeRow_31 : decode mt_Pl_placeRow.2.1 31 = .ok (.iastore, 1) := by decide +kernel
theorem d_Pl_placeRow_32 : decode mt_Pl_placeRow.2.1 32 = .ok (.iinc 2 1, 3) := by decide +kernel
theorem d_Pl_placeRow_35 : decode mt_Pl_placeRow.2.1 35 = .ok (.goto (-33), 3) := by decide +kernel
theorem d_Pl_placeRow_38 : decode mt_Pl_placeRow.2.1 38 = .ok (.iconst 1, 1) := by decide +kernel
theorem d_Pl_placeRow_39 : decode mt_Pl_placeRow.2.1 39 = .ok (.istore_n 2, 1) := by decide +kernel
theorem d_Pl_placeRow_40 : decode mt_Pl_placeRow.2.1 40 = .ok (.iconst 0, 1) := by decide +kernel
theorem d_Pl_placeRow_41 : decode mt_Pl_placeRow.2.1 41 = .ok (.istore_n 3, 1) := by decide +kernel
theorem d_Pl_placeRow_42 : decode mt_Pl_placeRow.2.1 42 = .ok (.iload_n 3, 1) := by decide +kernel
theorem d_Pl_placeRow_43 : decode mt_Pl_placeRow.2.1 43 = .ok (.bipush 24, 2) := by decide +kernel
theorem d_Pl_placeRow_45 : decode mt_Pl_placeRow.2.1 45 = .ok (.if_icmp .ge 19, 3) := by decide +kernel
theorem d_Pl_placeRow_48 : decode mt_Pl_placeRow.2.1 48 = .ok (.iload_n 2, 1) := by decide +kernel
theorem d_Pl_placeRow_49 : decode mt_Pl_placeRow.2.1 49 = .ok (.ifCond .eq 15, 3) := by decide +kernel
theorem d_Pl_placeRow_52 : decode mt_Pl_placeRow.2.1 52 = .ok (.aload_n 0, 1) := by decide +kernel
theorem d_Pl_placeRow_53 : decode mt_Pl_placeRow.2.1 53 = .ok (.iload_n 1, 1) := by decide +kernel
theorem d_Pl_placeRow_54 : decode mt_Pl_placeRow.2.1 54 = .ok (.invokevirtual 96, 3) := by decide +kernel
theorem d_Pl_placeRow_57 : decode mt_Pl_placeRow.2.1 57 = .ok (.istore_n 2, 1) := by decide +kernel
theorem d_Pl_placeRow_58 : decode mt_Pl_placeRow.2.1 58 = .ok (.iinc 3 1, 3) := by decide +kernel
theorem d_Pl_placeRow_61 : decode mt_Pl_placeRow.2.1 61 = .ok (.goto (-19), 3) := by decide +kernel
theorem d_Pl_placeRow_64 : decode mt_Pl_placeRow.2.1 64 = .ok (.aload_n 0, 1) := by decide +kernel
theorem d_Pl_placeRow_65 : decode mt_Pl_placeRow.2.1 65 = .ok (.invokevirtual 99, 3) := by decide +kernel
theorem d_Pl_placeRow_68 : decode mt_Pl_placeRow.2.1 68 = .ok (.istore_n 3, 1) := by decide +kernel
theorem d_Pl_placeRow_69 : decode mt_Pl_placeRow.2.1 69 = .ok (.iload_n 3, 1) := by decide +kernel
theorem d_Pl_placeRow_70 : decode mt_Pl_placeRow.2.1 70 = .ok (.iconst (-1), 1) := by decide +kernel
theorem d_Pl_placeRow_71 : decode mt_Pl_placeRow.2.1 71 = .ok (.if_icmp .ne 5, 3) := by decide +kernel
theorem d_Pl_placeRow_74 : decode mt_Pl_placeRow.2.1 74 = .ok (.iconst 0, 1) := by decide +kernel
theorem d_Pl_placeRow_75 : decode mt_Pl_placeRow.2.1 75 = .ok (.ireturn, 1) := by decide +kernel
theorem d_Pl_placeRow_76 : decode mt_Pl_placeRow.2.1 76 = .ok (.aload_n 0, 1) := by decide +kernel
theorem d_Pl_placeRow_77 : decode mt_Pl_placeRow.2.1 77 = .ok (.getfield 25, 3) := by decide +kernel
theorem d_Pl_placeRow_80 : decode mt_Pl_placeRow.2.1 80 = .ok (.iload_n 3, 1) := by decide +kernel
theorem d_Pl_placeRow_81 : decode mt_Pl_placeRow.2.1 81 = .ok (.dup2, 1) := by decide +kernel
theorem d_Pl_placeRow_82 : decode mt_Pl_placeRow.2.1 82 = .ok (.iaload, 1) := by decide +kernel
theorem d_Pl_placeRow_83 : decode mt_Pl_placeRow.2.1 83 = .ok (.iconst 1, 1) := by decide +kernel
theorem d_Pl_placeRow_84 : decode mt_Pl_placeRow.2.1 84 = .ok (.isub, 1) := by decide +kernel
theorem d_Pl_placeRow_85 : decode mt_Pl_placeRow.2.1 85 = .ok (.iastore, 1) := by decide +kernel
theorem d_Pl_placeRow_86 : decode mt_Pl_placeRow.2.1 86 = .ok (.aload_n 0, 1) := by decide +kernel
theorem d_Pl_placeRow_87 : decode mt_Pl_placeRow.2.1 87 = .ok (.iload_n 1, 1) := by decide +kernel
theorem d_Pl_placeRow_88 : decode mt_Pl_placeRow.2.1 88 = .ok (.iload_n 3, 1) := by decide +kernel
theorem d_Pl_placeRow_89 : decode mt_Pl_placeRow.2.1 89 = .ok (.invokevirtual 103, 3) := by decide +kernel
theorem d_Pl_placeRow_92 : decode mt_Pl_placeRow.2.1 92 = .ok (.iconst 1, 1) := by decide +kernel
theorem d_Pl_placeRow_93 : decode mt_Pl_placeRow.2.1 93 = .ok (.ireturn, 1) := by decide +kernel
theorem d_Pl_spread_0 : decode mt_Pl_spread.2.1 0 = .ok (.iconst 0, 1) := by decide +kernel
theorem d_Pl_spread_1 : decode mt_Pl_spread.2.1 1 = .ok (.istore_n 2, 1) := by decide +kernel
theorem d_Pl_spread_2 : decode mt_Pl_spread.2.1 2 = .ok (.iconst 0, 1) := by decide +kernel
theorem d_Pl_spread_3 : decode mt_Pl_spread.2.1 3 = .ok (.istore_n 3, 1) := by decide +kernel
theorem d_Pl_spread_4 : decode mt_Pl_spread.2.1 4 = .ok (.iload_n 3, 1) := by decide +kernel
theorem d_Pl_spread_5 : decode mt_Pl_spread.2.1 5 = .ok (.iload_n 1, 1) := by decide +kernel
theorem d_Pl_spread_6 : decode mt_Pl_spread.2.1 6 = .ok (.if_icmp .ge 144, 3) := by decide +kernel
theorem d_Pl_spread_9 : decode mt_Pl_spread.2.1 9 = .ok (.aload_n 0, 1) := by decide +kernel
theorem d_Pl_spread_10 : decode mt_Pl_spread.2.1 10 = .ok (.getfield 18, 3) := by decide +kernel
theorem d_Pl_spread_13 : decode mt_Pl_spread.2.1 13 = .ok (.iload_n 3, 1) := by decide +kernel
theorem d_Pl_spread_14 : decode mt_Pl_spread.2.1 14 = .ok (.iaload, 1) := by decide +kernel
theorem d_Pl_spread_15 : decode mt_Pl_spread.2.1 15 = .ok (.istore 4, 2) := by decide +kernel
theorem d_Pl_spread_17 : decode mt_Pl_spread.2.1 17 = .ok (.iconst 0, 1) := by decide +kernel
theorem d_Pl_spread_18 : decode mt_Pl_spread.2.1 18 = .ok (.istore 5, 2) := by decide +kernel
theorem d_Pl_spread_20 : decode mt_Pl_spread.2.1 20 = .ok (.iload 5, 2) := by decide +kernel
theorem d_Pl_spread_22 : decode mt_Pl_spread.2.1 22 = .ok (.bipush 24, 2) := by decide +kernel
theorem d_Pl_spread_24 : decode mt_Pl_spread.2.1 24 = .ok (.if_icmp .ge 120, 3) := by decide +kernel
theorem d_Pl_spread_27 : decode mt_Pl_spread.2.1 27 = .ok (.aload_n 0, 1) := by decide +kernel
theorem d_Pl_spread_28 : decode mt_Pl_spread.2.1 28 = .ok (.getfield 28, 3) := by decide +kernel
theorem d_Pl_spread_31 : decode mt_Pl_spread.2.1 31 = .ok (.iload 4, 2) := by decide +kernel
theorem d_Pl_spread_33 : decode mt_Pl_spread.2.1 33 = .ok (.laload, 1) := by decide +kernel
theorem d_Pl_spread_34 : decode mt_Pl_spread.2.1 34 = .ok (.ldc2_w 41, 3) := by decide +kernel
theorem d_Pl_spread_37 : decode mt_Pl_spread.2.1 37 = .ok (.lcmp, 1) := by decide +kernel
theorem d_Pl_spread_38 : decode mt_Pl_spread.2.1 38 = .ok (.ifCond .eq 106, 3) := by decide +kernel
theorem d_Pl_spread_41 : decode mt_Pl_spread.2.1 41 = .ok (.aload_n 0, 1) := by decide +kernel
theorem d_Pl_spread_42 : decode mt_Pl_spread.2.1 42 = .ok (.getfield 21, 3) := by decide +kernel
theorem d_Pl_spread_45 : decode mt_Pl_spread.2.1 45 = .ok (.iload_n 3, 1) := by decide +kernel
theorem d_Pl_spread_46 : decode mt_Pl_spread.2.1 46 = .ok (.bipush 24, 2) := by decide +kernel
theorem d_Pl_spread_48 : decode mt_Pl_spread.2.1 48 = .ok (.imul, 1) := by decide +kernel
theorem d_Pl_spread_49 : decode mt_Pl_spread.2.1 49 = .ok (.iload 5, 2) := by decide +kernel
theorem d_Pl_spread_51 : decode mt_Pl_spread.2.1 51 = .ok (.iadd, 1) := by decide +kernel
theorem d_Pl_spread_52 : decode mt_Pl_spread.2.1 52 = .ok (.laload, 1) := by decide +kernel
theorem d_Pl_spread_53 : decode mt_Pl_spread.2.1 53 = .ok (.lstore 6, 2) := by decide +kernel
theorem d_Pl_spread_55 : decode mt_Pl_spread.2.1 55 = .ok (.lload 6, 2) := by decide +kernel
theorem d_Pl_spread_57 : decode mt_Pl_spread.2.1 57 = .ok (.ldc2_w 41, 3) := by decide +kernel
theorem d_Pl_spread_60 : decode mt_Pl_spread.2.1 60 = .ok (.lcmp, 1) := by decide +kernel
theorem d_Pl_spread_61 : decode mt_Pl_spread.2.1 61 = .ok (.ifCond .eq 77, 3) := by decide +kernel
theorem d_Pl_spread_64 : decode mt_Pl_spread.2.1 64 = .ok (.aload_n 0, 1) := by decide +kernel
theorem d_Pl_spread_65 : decode mt_Pl_spread.2.1 65 = .ok (.getfield 28, 3) := by decide +kernel
theorem d_Pl_spread_68 : decode mt_Pl_spread.2.1 68 = .ok (.iload 4, 2) := by decide +kernel
theorem d_Pl_spread_70 : decode mt_Pl_spread.2.1 70 = .ok (.laload, 1) := by decide +kernel
theorem d_Pl_spread_71 : decode mt_Pl_spread.2.1 71 = .ok (.aload_n 0, 1) := by decide +kernel
theorem d_Pl_spread_72 : decode mt_Pl_spread.2.1 72 = .ok (.getfield 21, 3) := by decide +kernel
theorem d_Pl_spread_75 : decode mt_Pl_spread.2.1 75 = .ok (.iload_n 3, 1) := by decide +kernel
theorem d_Pl_spread_76 : decode mt_Pl_spread.2.1 76 = .ok (.bipush 24, 2) := by decide +kernel
theorem d_Pl_spread_78 : decode mt_Pl_spread.2.1 78 = .ok (.imul, 1) := by decide +kernel
theorem d_Pl_spread_79 : decode mt_Pl_spread.2.1 79 = .ok (.iload 4, 2) := by decide +kernel
theorem d_Pl_spread_81 : decode mt_Pl_spread.2.1 81 = .ok (.iadd, 1) := by decide +kernel
theorem d_Pl_spread_82 : decode mt_Pl_spread.2.1 82 = .ok (.laload, 1) := by decide +kernel
theorem d_Pl_spread_83 : decode mt_Pl_spread.2.1 83 = .ok (.lsub, 1) := by decide +kernel
theorem d_Pl_spread_84 : decode mt_Pl_spread.2.1 84 = .ok (.lload 6, 2) := by decide +kernel
theorem d_Pl_spread_86 : decode mt_Pl_spread.2.1 86 = .ok (.ladd, 1) := by decide +kernel
theorem d_Pl_spread_87 : decode mt_Pl_spread.2.1 87 = .ok (.aload_n 0, 1) := by decide +kernel
theorem d_Pl_spread_88 : decode mt_Pl_spread.2.1 88 = .ok (.getfield 28, 3) := by decide +kernel
theorem d_Pl_spread_91 : decode mt_Pl_spread.2.1 91 = .ok (.iload 5, 2) := by decide +kernel
theorem d_Pl_spread_93 : decode mt_Pl_spread.2.1 93 = .ok (.laload, 1) := by decide +kernel
theorem d_Pl_spread_94 : decode mt_Pl_spread.2.1 94 = .ok (.lcmp, 1) := by decide +kernel
theorem d_Pl_spread_95 : decode mt_Pl_spread.2.1 95 = .ok (.ifCond .ge 43, 3) := by decide +kernel
theorem d_Pl_spread_98 : decode mt_Pl_spread.2.1 98 = .ok (.aload_n 0, 1) := by decide +kernel
theorem d_Pl_spread_99 : decode mt_Pl_spread.2.1 99 = .ok (.getfield 28, 3) := by decide +kernel
theorem d_Pl_spread_102 : decode mt_Pl_spread.2.1 102 = .ok (.iload 5, 2) := by decide +kernel
theorem d_Pl_spread_104 : decode mt_Pl_spread.2.1 104 = .ok (.aload_n 0, 1) := by decide +kernel
theorem d_Pl_spread_105 : decode mt_Pl_spread.2.1 105 = .ok (.getfield 28, 3) := by decide +kernel
theorem d_Pl_spread_108 : decode mt_Pl_spread.2.1 108 = .ok (.iload 4, 2) := by decide +kernel
theorem d_Pl_spread_110 : decode mt_Pl_spread.2.1 110 = .ok (.laload, 1) := by decide +kernel
theorem d_Pl_spread_111 : decode mt_Pl_spread.2.1 111 = .ok (.aload_n 0, 1) := by decide +kernel
theorem d_Pl_spread_112 : decode mt_Pl_spread.2.1 112 = .ok (.getfield 21, 3) := by decide +kernel
theorem d_Pl_spread_115 : decode mt_Pl_spread.2.1 115 = .ok (.iload_n 3, 1) := by decide +kernel
theorem d_Pl_spread_116 : decode mt_Pl_spread.2.1 116 = .ok (.bipush 24, 2) := by decide +kernel
theorem d_Pl_spread_118 : decode mt_Pl_spread.2.1 118 = .ok (.imul, 1) := by decide +kernel
theorem d_Pl_spread_119 : decode mt_Pl_spread.2.1 119 = .ok (.iload 4, 2) := by decide +kernel
theorem d_Pl_spread_121 : decode mt_Pl_spread.2.1 121 = .ok (.iadd, 1) := by decide +kernel
theorem d_Pl_spread_122 : decode mt_Pl_spread.2.1 122 = .ok (.laload, 1) := by decide +kernel
theorem d_Pl_spread_123 : decode mt_Pl_spread.2.1 123 = .ok (.lsub, 1) := by decide +kernel
theorem d_Pl_spread_124 : decode mt_Pl_spread.2.1 124 = .ok (.lload 6, 2) := by decide +kernel
theorem d_Pl_spread_126 : decode mt_Pl_spread.2.1 126 = .ok (.ladd, 1) := by decide +kernel
theorem d_Pl_spread_127 : decode mt_Pl_spread.2.1 127 = .ok (.lastore, 1) := by decide +kernel
theorem d_Pl_spread_128 : decode mt_Pl_spread.2.1 128 = .ok (.aload_n 0, 1) := by decide +kernel
theorem d_Pl_spread_129 : decode mt_Pl_spread.2.1 129 = .ok (.getfield 31, 3) := by decide +kernel
theorem d_Pl_spread_132 : decode mt_Pl_spread.2.1 132 = .ok (.iload 5, 2) := by decide +kernel
theorem d_Pl_spread_134 : decode mt_Pl_spread.2.1 134 = .ok (.iload_n 3, 1) := by decide +kernel
theorem d_Pl_spread_135 : decode mt_Pl_spread.2.1 135 = .ok (.iastore, 1) := by decide +kernel
theorem d_Pl_spread_136 : decode mt_Pl_spread.2.1 136 = .ok (.iconst 1, 1) := by decide +kernel
theorem d_Pl_spread_137 : decode mt_Pl_spread.2.1 137 = .ok (.istore_n 2, 1) := by decide +kernel
theorem d_Pl_spread_138 : decode mt_Pl_spread.2.1 138 = .ok (.iinc 5 1, 3) := by decide +kernel
theorem d_Pl_spread_141 : decode mt_Pl_spread.2.1 141 = .ok (.goto (-121), 3) := by decide +kernel
theorem d_Pl_spread_144 : decode mt_Pl_spread.2.1 144 = .ok (.iinc 3 1, 3) := by decide +kernel
theorem d_Pl_spread_147 : decode mt_Pl_spread.2.1 147 = .ok (.goto (-143), 3) := by decide +kernel
theorem d_Pl_spread_150 : decode mt_Pl_spread.2.1 150 = .ok (.iload_n 2, 1) := by decide +kernel
theorem d_Pl_spread_151 : decode mt_Pl_spread.2.1 151 = .ok (.ireturn, 1) := by decide +kernel
theorem d_Pl_cheapestWithRoom_0 : decode mt_Pl_cheapestWithRoom.2.1 0 = .ok (.iconst (-1), 1) := by decide +kernel
theorem d_Pl_cheapestWithRoom_1 : decode mt_Pl_cheapestWithRoom.2.1 1 = .ok (.istore_n 1, 1) := by decide +kernel
theorem d_Pl_cheapestWithRoom_2 : decode mt_Pl_cheapestWithRoom.2.1 2 = .ok (.iconst 0, 1) := by decide +kernel
theorem d_Pl_cheapestWithRoom_3 : decode mt_Pl_cheapestWithRoom.2.1 3 = .ok (.istore_n 2, 1) := by decide +kernel
theorem d_Pl_cheapestWithRoom_4 : decode mt_Pl_cheapestWithRoom.2.1 4 = .ok (.iload_n 2, 1) := by decide +kernel
theorem d_Pl_cheapestWithRoom_5 : decode mt_Pl_cheapestWithRoom.2.1 5 = .ok (.bipush 24, 2) := by decide +kernel
theorem d_Pl_cheapestWithRoom_7 : decode mt_Pl_cheapestWithRoom.2.1 7 = .ok (.if_icmp .ge 54, 3) := by decide +kernel
theorem d_Pl_cheapestWithRoom_10 : decode mt_Pl_cheapestWithRoom.2.1 10 = .ok (.aload_n 0, 1) := by decide +kernel
theorem d_Pl_cheapestWithRoom_11 : decode mt_Pl_cheapestWithRoom.2.1 11 = .ok (.getfield 25, 3) := by decide +kernel
theorem d_Pl_cheapestWithRoom_14 : decode mt_Pl_cheapestWithRoom.2.1 14 = .ok (.iload_n 2, 1) := by decide +kernel
theorem d_Pl_cheapestWithRoom_15 : decode mt_Pl_cheapestWithRoom.2.1 15 = .ok (.iaload, 1) := by decide +kernel
theorem d_Pl_cheapestWithRoom_16 : decode mt_Pl_cheapestWithRoom.2.1 16 = .ok (.ifCond .le 39, 3) := by decide +kernel
theorem d_Pl_cheapestWithRoom_19 : decode mt_Pl_cheapestWithRoom.2.1 19 = .ok (.aload_n 0, 1) := by decide +kernel
theorem d_Pl_cheapestWithRoom_20 : decode mt_Pl_cheapestWithRoom.2.1 20 = .ok (.getfield 28, 3) := by decide +kernel
theorem d_Pl_cheapestWithRoom_23 : decode mt_Pl_cheapestWithRoom.2.1 23 = .ok (.iload_n 2, 1) := by decide +kernel
theorem d_Pl_cheapestWithRoom_24 : decode mt_Pl_cheapestWithRoom.2.1 24 = .ok (.laload, 1) := by decide +kernel
theorem d_Pl_cheapestWithRoom_25 : decode mt_Pl_cheapestWithRoom.2.1 25 = .ok (.ldc2_w 41, 3) := by decide +kernel
theorem d_Pl_cheapestWithRoom_28 : decode mt_Pl_cheapestWithRoom.2.1 28 = .ok (.lcmp, 1) := by decide +kernel
theorem d_Pl_cheapestWithRoom_29 : decode mt_Pl_cheapestWithRoom.2.1 29 = .ok (.ifCond .eq 26, 3) := by decide +kernel
theorem d_Pl_cheapestWithRoom_32 : decode mt_Pl_cheapestWithRoom.2.1 32 = .ok (.iload_n 1, 1) := by decide +kernel
theorem d_Pl_cheapestWithRoom_33 : decode mt_Pl_cheapestWithRoom.2.1 33 = .ok (.iconst (-1), 1) := by decide +kernel
theorem d_Pl_cheapestWithRoom_34 : decode mt_Pl_cheapestWithRoom.2.1 34 = .ok (.if_icmp .eq 19, 3) := by decide +kernel
theorem d_Pl_cheapestWithRoom_37 : decode mt_Pl_cheapestWithRoom.2.1 37 = .ok (.aload_n 0, 1) := by decide +kernel
theorem d_Pl_cheapestWithRoom_38 : decode mt_Pl_cheapestWithRoom.2.1 38 = .ok (.getfield 28, 3) := by decide +kernel
theorem d_Pl_cheapestWithRoom_41 : decode mt_Pl_cheapestWithRoom.2.1 41 = .ok (.iload_n 2, 1) := by decide +kernel
theorem d_Pl_cheapestWithRoom_42 : decode mt_Pl_cheapestWithRoom.2.1 42 = .ok (.laload, 1) := by decide +kernel
theorem d_Pl_cheapestWithRoom_43 : decode mt_Pl_cheapestWithRoom.2.1 43 = .ok (.aload_n 0, 1) := by decide +kernel
theorem d_Pl_cheapestWithRoom_44 : decode mt_Pl_cheapestWithRoom.2.1 44 = .ok (.getfield 28, 3) := by decide +kernel
theorem d_Pl_cheapestWithRoom_47 : decode mt_Pl_cheapestWithRoom.2.1 47 = .ok (.iload_n 1, 1) := by decide +kernel
theorem d_Pl_cheapestWithRoom_48 : decode mt_Pl_cheapestWithRoom.2.1 48 = .ok (.laload, 1) := by decide +kernel
theorem d_Pl_cheapestWithRoom_49 : decode mt_Pl_cheapestWithRoom.2.1 49 = .ok (.lcmp, 1) := by decide +kernel
theorem d_Pl_cheapestWithRoom_50 : decode mt_Pl_cheapestWithRoom.2.1 50 = .ok (.ifCond .ge 5, 3) := by decide +kernel
theorem d_Pl_cheapestWithRoom_53 : decode mt_Pl_cheapestWithRoom.2.1 53 = .ok (.iload_n 2, 1) := by decide +kernel
theorem d_Pl_cheapestWithRoom_54 : decode mt_Pl_cheapestWithRoom.2.1 54 = .ok (.istore_n 1, 1) := by decide +kernel
theorem d_Pl_cheapestWithRoom_55 : decode mt_Pl_cheapestWithRoom.2.1 55 = .ok (.iinc 2 1, 3) := by decide +kernel
theorem d_Pl_cheapestWithRoom_58 : decode mt_Pl_cheapestWithRoom.2.1 58 = .ok (.goto (-54), 3) := by decide +kernel
theorem d_Pl_cheapestWithRoom_61 : decode mt_Pl_cheapestWithRoom.2.1 61 = .ok (.iload_n 1, 1) := by decide +kernel
theorem d_Pl_cheapestWithRoom_62 : decode mt_Pl_cheapestWithRoom.2.1 62 = .ok (.ireturn, 1) := by decide +kernel
theorem d_Pl_shiftChain_0 : decode mt_Pl_shiftChain.2.1 0 = .ok (.iload_n 2, 1) := by decide +kernel
theorem d_Pl_shiftChain_1 : decode mt_Pl_shiftChain.2.1 1 = .ok (.istore_n 3, 1) := by decide +kernel
theorem d_Pl_shiftChain_2 : decode mt_Pl_shiftChain.2.1 2 = .ok (.iconst 0, 1) := by decide +kernel
theorem d_Pl_shiftChain_3 : decode mt_Pl_shiftChain.2.1 3 = .ok (.istore 4, 2) := by decide +kernel
theorem d_Pl_shiftChain_5 : decode mt_Pl_shiftChain.2.1 5 = .ok (.iload 4, 2) := by decide +kernel
theorem d_Pl_shiftChain_7 : decode mt_Pl_shiftChain.2.1 7 = .ok (.iload_n 1, 1) := by decide +kernel
theorem d_Pl_shiftChain_8 : decode mt_Pl_shiftChain.2.1 8 = .ok (.if_icmp .gt 44, 3) := by decide +kernel
theorem d_Pl_shiftChain_11 : decode mt_Pl_shiftChain.2.1 11 = .ok (.aload_n 0, 1) := by decide +kernel
theorem d_Pl_shiftChain_12 : decode mt_Pl_shiftChain.2.1 12 = .ok (.getfield 31, 3) := by decide +kernel
theorem d_Pl_shiftChain_15 : decode mt_Pl_shiftChain.2.1 15 = .ok (.iload_n 3, 1) := by decide +kernel
theorem d_Pl_shiftChain_16 : decode mt_Pl_shiftChain.2.1 16 = .ok (.iaload, 1) := by decide +kernel
theorem d_Pl_shiftChain_17 : decode mt_Pl_shiftChain.2.1 17 = .ok (.istore 5, 2) := by decide +kernel
theorem d_Pl_shiftChain_19 : decode mt_Pl_shiftChain.2.1 19 = .ok (.aload_n 0, 1) := by decide +kernel
theorem d_Pl_shiftChain_20 : decode mt_Pl_shiftChain.2.1 20 = .ok (.getfield 18, 3) := by decide +kernel
theorem d_Pl_shiftChain_23 : decode mt_Pl_shiftChain.2.1 23 = .ok (.iload 5, 2) := by decide +kernel
theorem d_Pl_shiftChain_25 : decode mt_Pl_shiftChain.2.1 25 = .ok (.iaload, 1) := by decide +kernel
theorem d_Pl_shiftChain_26 : decode mt_Pl_shiftChain.2.1 26 = .ok (.istore 6, 2) := by decide +kernel
theorem d_Pl_shiftChain_28 : decode mt_Pl_shiftChain.2.1 28 = .ok (.aload_n 0, 1) := by decide +kernel
theorem d_Pl_shiftChain_29 : decode mt_Pl_shiftChain.2.1 29 = .ok (.getfield 18, 3) := by decide +kernel
theorem d_Pl_shiftChain_32 : decode mt_Pl_shiftChain.2.1 32 = .ok (.iload 5, 2) := by decide +kernel
theorem d_Pl_shiftChain_34 : decode mt_Pl_shiftChain.2.1 34 = .ok (.iload_n 3, 1) := by decide +kernel
theorem d_Pl_shiftChain_35 : decode mt_Pl_shiftChain.2.1 35 = .ok (.iastore, 1) := by decide +kernel
theorem d_Pl_shiftChain_36 : decode mt_Pl_shiftChain.2.1 36 = .ok (.iload 5, 2) := by decide +kernel
theorem d_Pl_shiftChain_38 : decode mt_Pl_shiftChain.2.1 38 = .ok (.iload_n 1, 1) := by decide +kernel
theorem d_Pl_shiftChain_39 : decode mt_Pl_shiftChain.2.1 39 = .ok (.if_icmp .ne 4, 3) := by decide +kernel
theorem d_Pl_shiftChain_42 : decode mt_Pl_shiftChain.2.1 42 = .ok (.return_, 1) := by decide +kernel
theorem d_Pl_shiftChain_43 : decode mt_Pl_shiftChain.2.1 43 = .ok (.iload 6, 2) := by decide +kernel
theorem d_Pl_shiftChain_45 : decode mt_Pl_shiftChain.2.1 45 = .ok (.istore_n 3, 1) := by decide +kernel
theorem d_Pl_shiftChain_46 : decode mt_Pl_shiftChain.2.1 46 = .ok (.iinc 4 1, 3) := by decide +kernel
theorem d_Pl_shiftChain_49 : decode mt_Pl_shiftChain.2.1 49 = .ok (.goto (-44), 3) := by decide +kernel
theorem d_Pl_shiftChain_52 : decode mt_Pl_shiftChain.2.1 52 = .ok (.return_, 1) := by decide +kernel
theorem d_Pl_keepPlan_0 : decode mt_Pl_keepPlan.2.1 0 = .ok (.aload_n 0, 1) := by decide +kernel
theorem d_Pl_keepPlan_1 : decode mt_Pl_keepPlan.2.1 1 = .ok (.getfield 34, 3) := by decide +kernel
theorem d_Pl_keepPlan_4 : decode mt_Pl_keepPlan.2.1 4 = .ok (.iconst (-1), 1) := by decide +kernel
theorem d_Pl_keepPlan_5 : decode mt_Pl_keepPlan.2.1 5 = .ok (.invokestatic 93, 3) := by decide +kernel
theorem d_Pl_keepPlan_8 : decode mt_Pl_keepPlan.2.1 8 = .ok (.iconst 0, 1) := by decide +kernel
theorem d_Pl_keepPlan_9 : decode mt_Pl_keepPlan.2.1 9 = .ok (.istore_n 1, 1) := by decide +kernel
theorem d_Pl_keepPlan_10 : decode mt_Pl_keepPlan.2.1 10 = .ok (.iload_n 1, 1) := by decide +kernel
theorem d_Pl_keepPlan_11 : decode mt_Pl_keepPlan.2.1 11 = .ok (.aload_n 0, 1) := by decide +kernel
theorem d_Pl_keepPlan_12 : decode mt_Pl_keepPlan.2.1 12 = .ok (.getfield 37, 3) := by decide +kernel
theorem d_Pl_keepPlan_15 : decode mt_Pl_keepPlan.2.1 15 = .ok (.if_icmp .ge 40, 3) := by decide +kernel
theorem d_Pl_keepPlan_18 : decode mt_Pl_keepPlan.2.1 18 = .ok (.aload_n 0, 1) := by decide +kernel
theorem d_Pl_keepPlan_19 : decode mt_Pl_keepPlan.2.1 19 = .ok (.getfield 9, 3) := by decide +kernel
theorem d_Pl_keepPlan_22 : decode mt_Pl_keepPlan.2.1 22 = .ok (.iload_n 1, 1) := by decide +kernel
theorem d_Pl_keepPlan_23 : decode mt_Pl_keepPlan.2.1 23 = .ok (.iaload, 1) := by decide +kernel
theorem d_Pl_keepPlan_24 : decode mt_Pl_keepPlan.2.1 24 = .ok (.bipush 39, 2) := by decide +kernel
theorem d_Pl_keepPlan_26 : decode mt_Pl_keepPlan.2.1 26 = .ok (.invokestatic 59, 3) := by decide +kernel
theorem d_Pl_keepPlan_29 : decode mt_Pl_keepPlan.2.1 29 = .ok (.ifCond .eq 20, 3) := by decide +kernel
theorem d_Pl_keepPlan_32 : decode mt_Pl_keepPlan.2.1 32 = .ok (.aload_n 0, 1) := by decide +kernel
theorem d_Pl_keepPlan_33 : decode mt_Pl_keepPlan.2.1 33 = .ok (.getfield 34, 3) := by decide +kernel
theorem d_Pl_keepPlan_36 : decode mt_Pl_keepPlan.2.1 36 = .ok (.aload_n 0, 1) := by decide +kernel
theorem d_Pl_keepPlan_37 : decode mt_Pl_keepPlan.2.1 37 = .ok (.getfield 9, 3) := by decide +kernel
theorem d_Pl_keepPlan_40 : decode mt_Pl_keepPlan.2.1 40 = .ok (.iload_n 1, 1) := by decide +kernel
theorem d_Pl_keepPlan_41 : decode mt_Pl_keepPlan.2.1 41 = .ok (.iaload, 1) := by decide +kernel
theorem d_Pl_keepPlan_42 : decode mt_Pl_keepPlan.2.1 42 = .ok (.aload_n 0, 1) := by decide +kernel
theorem d_Pl_keepPlan_43 : decode mt_Pl_keepPlan.2.1 43 = .ok (.getfield 18, 3) := by decide +kernel
theorem d_Pl_keepPlan_46 : decode mt_Pl_keepPlan.2.1 46 = .ok (.iload_n 1, 1) := by decide +kernel
theorem d_Pl_keepPlan_47 : decode mt_Pl_keepPlan.2.1 47 = .ok (.iaload, 1) := by decide +kernel
theorem d_Pl_keepPlan_48 : decode mt_Pl_keepPlan.2.1 48 = .ok (.iastore, 1) := by decide +kernel
theorem d_Pl_keepPlan_49 : decode mt_Pl_keepPlan.2.1 49 = .ok (.iinc 1 1, 3) := by decide +kernel
theorem d_Pl_keepPlan_52 : decode mt_Pl_keepPlan.2.1 52 = .ok (.goto (-42), 3) := by decide +kernel
theorem d_Pl_keepPlan_55 : decode mt_Pl_keepPlan.2.1 55 = .ok (.aload_n 0, 1) := by decide +kernel
theorem d_Pl_keepPlan_56 : decode mt_Pl_keepPlan.2.1 56 = .ok (.aload_n 0, 1) := by decide +kernel
theorem d_Pl_keepPlan_57 : decode mt_Pl_keepPlan.2.1 57 = .ok (.getfield 37, 3) := by decide +kernel
theorem d_Pl_keepPlan_60 : decode mt_Pl_keepPlan.2.1 60 = .ok (.putfield 85, 3) := by decide +kernel
theorem d_Pl_keepPlan_63 : decode mt_Pl_keepPlan.2.1 63 = .ok (.aload_n 0, 1) := by decide +kernel
theorem d_Pl_keepPlan_64 : decode mt_Pl_keepPlan.2.1 64 = .ok (.iconst 1, 1) := by decide +kernel
theorem d_Pl_keepPlan_65 : decode mt_Pl_keepPlan.2.1 65 = .ok (.putfield 78, 3) := by decide +kernel
theorem d_Pl_keepPlan_68 : decode mt_Pl_keepPlan.2.1 68 = .ok (.aload_n 0, 1) := by decide +kernel
theorem d_Pl_keepPlan_69 : decode mt_Pl_keepPlan.2.1 69 = .ok (.iconst 0, 1) := by decide +kernel
theorem d_Pl_keepPlan_70 : decode mt_Pl_keepPlan.2.1 70 = .ok (.putfield 82, 3) := by decide +kernel
theorem d_Pl_keepPlan_73 : decode mt_Pl_keepPlan.2.1 73 = .ok (.return_, 1) := by decide +kernel
theorem d_JA_fill_I_0 : decode mt_JA_fill_I.2.1 0 = .ok (.iconst 0, 1) := by decide +kernel
theorem d_JA_fill_I_1 : decode mt_JA_fill_I.2.1 1 = .ok (.istore_n 2, 1) := by decide +kernel
theorem d_JA_fill_I_2 : decode mt_JA_fill_I.2.1 2 = .ok (.aload_n 0, 1) := by decide +kernel
theorem d_JA_fill_I_3 : decode mt_JA_fill_I.2.1 3 = .ok (.arraylength, 1) := by decide +kernel
theorem d_JA_fill_I_4 : decode mt_JA_fill_I.2.1 4 = .ok (.istore_n 3, 1) := by decide +kernel
theorem d_JA_fill_I_5 : decode mt_JA_fill_I.2.1 5 = .ok (.iload_n 2, 1) := by decide +kernel
theorem d_JA_fill_I_6 : decode mt_JA_fill_I.2.1 6 = .ok (.iload_n 3, 1) := by decide +kernel
theorem d_JA_fill_I_7 : decode mt_JA_fill_I.2.1 7 = .ok (.if_icmp .ge 13, 3) := by decide +kernel
theorem d_JA_fill_I_10 : decode mt_JA_fill_I.2.1 10 = .ok (.aload_n 0, 1) := by decide +kernel
theorem d_JA_fill_I_11 : decode mt_JA_fill_I.2.1 11 = .ok (.iload_n 2, 1) := by decide +kernel
theorem d_JA_fill_I_12 : decode mt_JA_fill_I.2.1 12 = .ok (.iload_n 1, 1) := by decide +kernel
theorem d_JA_fill_I_13 : decode mt_JA_fill_I.2.1 13 = .ok (.iastore, 1) := by decide +kernel
theorem d_JA_fill_I_14 : decode mt_JA_fill_I.2.1 14 = .ok (.iinc 2 1, 3) := by decide +kernel
theorem d_JA_fill_I_17 : decode mt_JA_fill_I.2.1 17 = .ok (.goto (-12), 3) := by decide +kernel
theorem d_JA_fill_I_20 : decode mt_JA_fill_I.2.1 20 = .ok (.return_, 1) := by decide +kernel
theorem d_K_planned_0 : decode mt_K_planned.2.1 0 = .ok (.aload_n 0, 1) := by decide +kernel
theorem d_K_planned_1 : decode mt_K_planned.2.1 1 = .ok (.getfield 52, 3) := by decide +kernel
theorem d_K_planned_4 : decode mt_K_planned.2.1 4 = .ok (.iload_n 1, 1) := by decide +kernel
theorem d_K_planned_5 : decode mt_K_planned.2.1 5 = .ok (.invokevirtual 236, 3) := by decide +kernel
theorem d_K_planned_8 : decode mt_K_planned.2.1 8 = .ok (.ireturn, 1) := by decide +kernel
theorem d_Pl_shelfFor_0 : decode mt_Pl_shelfFor.2.1 0 = .ok (.aload_n 0, 1) := by decide +kernel
theorem d_Pl_shelfFor_1 : decode mt_Pl_shelfFor.2.1 1 = .ok (.getfield 78, 3) := by decide +kernel
theorem d_Pl_shelfFor_4 : decode mt_Pl_shelfFor.2.1 4 = .ok (.ifCond .eq 21, 3) := by decide +kernel
theorem d_Pl_shelfFor_7 : decode mt_Pl_shelfFor.2.1 7 = .ok (.iload_n 1, 1) := by decide +kernel
theorem d_Pl_shelfFor_8 : decode mt_Pl_shelfFor.2.1 8 = .ok (.bipush 39, 2) := by decide +kernel
theorem d_Pl_shelfFor_10 : decode mt_Pl_shelfFor.2.1 10 = .ok (.invokestatic 59, 3) := by decide +kernel
theorem d_Pl_shelfFor_13 : decode mt_Pl_shelfFor.2.1 13 = .ok (.ifCond .eq 12, 3) := by decide +kernel
theorem d_Pl_shelfFor_16 : decode mt_Pl_shelfFor.2.1 16 = .ok (.aload_n 0, 1) := by decide +kernel
theorem d_Pl_shelfFor_17 : decode mt_Pl_shelfFor.2.1 17 = .ok (.getfield 34, 3) := by decide +kernel
theorem d_Pl_shelfFor_20 : decode mt_Pl_shelfFor.2.1 20 = .ok (.iload_n 1, 1) := by decide +kernel
theorem d_Pl_shelfFor_21 : decode mt_Pl_shelfFor.2.1 21 = .ok (.iaload, 1) := by decide +kernel
theorem d_Pl_shelfFor_22 : decode mt_Pl_shelfFor.2.1 22 = .ok (.goto 4, 3) := by decide +kernel
theorem d_Pl_shelfFor_25 : decode mt_Pl_shelfFor.2.1 25 = .ok (.iconst (-1), 1) := by decide +kernel
theorem d_Pl_shelfFor_26 : decode mt_Pl_shelfFor.2.1 26 = .ok (.ireturn, 1) := by decide +kernel
theorem d_K_carry_0 : decode mt_K_carry.2.1 0 = .ok (.aload_n 0, 1) := by decide +kernel
theorem d_K_carry_1 : decode mt_K_carry.2.1 1 = .ok (.getfield 52, 3) := by decide +kernel
theorem d_K_carry_4 : decode mt_K_carry.2.1 4 = .ok (.invokevirtual 240, 3) := by decide +kernel
theorem d_K_carry_7 : decode mt_K_carry.2.1 7 = .ok (.ifCond .eq 20, 3) := by decide +kernel
theorem d_K_carry_10 : decode mt_K_carry.2.1 10 = .ok (.aload_n 0, 1) := by decide +kernel
theorem d_K_carry_11 : decode mt_K_carry.2.1 11 = .ok (.getfield 38, 3) := by decide +kernel
theorem d_K_carry_14 : decode mt_K_carry.2.1 14 = .ok (.aload_n 0, 1) := by decide +kernel
theorem d_K_carry_15 : decode mt_K_carry.2.1 15 = .ok (.getfield 52, 3) := by decide +kernel
theorem d_K_carry_18 : decode mt_K_carry.2.1 18 = .ok (.getfield 243, 3) := by decide +kernel
theorem d_K_carry_21 : decode mt_K_carry.2.1 21 = .ok (.invokevirtual 118, 3) := by decide +kernel
theorem d_K_carry_24 : decode mt_K_carry.2.1 24 = .ok (.ifCond .ne 5, 3) := by decide +kernel
theorem d_K_carry_27 : decode mt_K_carry.2.1 27 = .ok (.iconst (-1), 1) := by decide +kernel
theorem d_K_carry_28 : decode mt_K_carry.2.1 28 = .ok (.ireturn, 1) := by decide +kernel
theorem d_K_carry_29 : decode mt_K_carry.2.1 29 = .ok (.aload_n 0, 1) := by decide +kernel
theorem d_K_carry_30 : decode mt_K_carry.2.1 30 = .ok (.getfield 52, 3) := by decide +kernel
theorem d_K_carry_33 : decode mt_K_carry.2.1 33 = .ok (.getfield 243, 3) := by decide +kernel
theorem d_K_carry_36 : decode mt_K_carry.2.1 36 = .ok (.istore_n 1, 1) := by decide +kernel
theorem d_K_carry_37 : decode mt_K_carry.2.1 37 = .ok (.iconst 0, 1) := by decide +kernel
theorem d_K_carry_38 : decode mt_K_carry.2.1 38 = .ok (.istore_n 2, 1) := by decide +kernel
theorem d_K_carry_39 : decode mt_K_carry.2.1 39 = .ok (.iload_n 2, 1) := by decide +kernel
theorem d_K_carry_40 : decode mt_K_carry.2.1 40 = .ok (.aload_n 0, 1) := by decide +kernel
theorem d_K_carry_41 : decode mt_K_carry.2.1 41 = .ok (.getfield 115, 3) := by decide +kernel
theorem d_K_carry_44 : decode mt_K_carry.2.1 44 = .ok (.if_icmp .ge 42, 3) := by decide +kernel
theorem d_K_carry_47 : decode mt_K_carry.2.1 47 = .ok (.aload_n 0, 1) := by decide +kernel
theorem d_K_carry_48 : decode mt_K_carry.2.1 48 = .ok (.iload_n 2, 1) := by decide +kernel
theorem d_K_carry_49 : decode mt_K_carry.2.1 49 = .ok (.invokevirtual 125, 3) := by decide +kernel
theorem d_K_carry_52 : decode mt_K_carry.2.1 52 = .ok (.astore_n 3, 1) := by decide +kernel
theorem d_K_carry_53 : decode mt_K_carry.2.1 53 = .ok (.aload_n 0, 1) := by decide +kernel
theorem d_K_carry_54 : decode mt_K_carry.2.1 54 = .ok (.getfield 52, 3) := by decide +kernel
theorem d_K_carry_57 : decode mt_K_carry.2.1 57 = .ok (.iload_n 2, 1) := by decide +kernel
theorem d_K_carry_58 : decode mt_K_carry.2.1 58 = .ok (.invokevirtual 236, 3) := by decide +kernel
theorem d_K_carry_61 : decode mt_K_carry.2.1 61 = .ok (.istore 4, 2) := by decide +kernel
theorem d_K_carry_63 : decode mt_K_carry.2.1 63 = .ok (.aload_n 3, 1) := by decide +kernel
theorem d_K_carry_64 : decode mt_K_carry.2.1 64 = .ok (.ifnull 16, 3) := by decide +kernel
theorem d_K_carry_67 : decode mt_K_carry.2.1 67 = .ok (.iload 4, 2) := by decide +kernel
theorem d_K_carry_69 : decode mt_K_carry.2.1 69 = .ok (.iconst (-1), 1) := by decide +kernel
theorem d_K_carry_70 : decode mt_K_carry.2.1 70 = .ok (.if_icmp .eq 10, 3) := by decide +kernel
theorem d_K_carry_73 : decode mt_K_carry.2.1 73 = .ok (.aload_n 0, 1) := by decide +kernel
theorem d_K_carry_74 : decode mt_K_carry.2.1 74 = .ok (.aload_n 3, 1) := by decide +kernel
theorem d_K_carry_75 : decode mt_K_carry.2.1 75 = .ok (.iload 4, 2) := by decide +kernel
theorem d_K_carry_77 : decode mt_K_carry.2.1 77 = .ok (.invokevirtual 217, 3) := by decide +kernel
theorem d_K_carry_80 : decode mt_K_carry.2.1 80 = .ok (.iinc 2 1, 3) := by decide +kernel
theorem d_K_carry_83 : decode mt_K_carry.2.1 83 = .ok (.goto (-44), 3) := by decide +kernel
theorem d_K_carry_86 : decode mt_K_carry.2.1 86 = .ok (.aload_n 0, 1) := by decide +kernel
theorem d_K_carry_87 : decode mt_K_carry.2.1 87 = .ok (.getfield 52, 3) := by decide +kernel
theorem d_K_carry_90 : decode mt_K_carry.2.1 90 = .ok (.invokevirtual 246, 3) := by decide +kernel
theorem d_K_carry_93 : decode mt_K_carry.2.1 93 = .ok (.iload_n 1, 1) := by decide +kernel
theorem d_K_carry_94 : decode mt_K_carry.2.1 94 = .ok (.ireturn, 1) := by decide +kernel
theorem d_Pl_canBeCarried_0 : decode mt_Pl_canBeCarried.2.1 0 = .ok (.aload_n 0, 1) := by decide +kernel
theorem d_Pl_canBeCarried_1 : decode mt_Pl_canBeCarried.2.1 1 = .ok (.getfield 78, 3) := by decide +kernel
theorem d_Pl_canBeCarried_4 : decode mt_Pl_canBeCarried.2.1 4 = .ok (.ifCond .eq 14, 3) := by decide +kernel
theorem d_Pl_canBeCarried_7 : decode mt_Pl_canBeCarried.2.1 7 = .ok (.aload_n 0, 1) := by decide +kernel
theorem d_Pl_canBeCarried_8 : decode mt_Pl_canBeCarried.2.1 8 = .ok (.getfield 82, 3) := by decide +kernel
theorem d_Pl_canBeCarried_11 : decode mt_Pl_canBeCarried.2.1 11 = .ok (.ifCond .ne 7, 3) := by decide +kernel
theorem d_Pl_canBeCarried_14 : decode mt_Pl_canBeCarried.2.1 14 = .ok (.iconst 1, 1) := by decide +kernel
theorem d_Pl_canBeCarried_15 : decode mt_Pl_canBeCarried.2.1 15 = .ok (.goto 4, 3) := by decide +kernel
theorem d_Pl_canBeCarried_18 : decode mt_Pl_canBeCarried.2.1 18 = .ok (.iconst 0, 1) := by decide +kernel
theorem d_Pl_canBeCarried_19 : decode mt_Pl_canBeCarried.2.1 19 = .ok (.ireturn, 1) := by decide +kernel
theorem d_Pl_forget_0 : decode mt_Pl_forget.2.1 0 = .ok (.aload_n 0, 1) := by decide +kernel
theorem d_Pl_forget_1 : decode mt_Pl_forget.2.1 1 = .ok (.iconst 0, 1) := by decide +kernel
theorem d_Pl_forget_2 : decode mt_Pl_forget.2.1 2 = .ok (.putfield 78, 3) := by decide +kernel
theorem d_Pl_forget_5 : decode mt_Pl_forget.2.1 5 = .ok (.aload_n 0, 1) := by decide +kernel
theorem d_Pl_forget_6 : decode mt_Pl_forget.2.1 6 = .ok (.iconst 0, 1) := by decide +kernel
theorem d_Pl_forget_7 : decode mt_Pl_forget.2.1 7 = .ok (.putfield 85, 3) := by decide +kernel
theorem d_Pl_forget_10 : decode mt_Pl_forget.2.1 10 = .ok (.return_, 1) := by decide +kernel
theorem d_K_mark_0 : decode mt_K_mark.2.1 0 = .ok (.iload_n 1, 1) := by decide +kernel
theorem d_K_mark_1 : decode mt_K_mark.2.1 1 = .ok (.iconst 4, 1) := by decide +kernel
theorem d_K_mark_2 : decode mt_K_mark.2.1 2 = .ok (.invokestatic 87, 3) := by decide +kernel
theorem d_K_mark_5 : decode mt_K_mark.2.1 5 = .ok (.ifCond .eq 24, 3) := by decide +kernel
theorem d_K_mark_8 : decode mt_K_mark.2.1 8 = .ok (.aload_n 0, 1) := by decide +kernel
theorem d_K_mark_9 : decode mt_K_mark.2.1 9 = .ok (.iload_n 2, 1) := by decide +kernel
theorem d_K_mark_10 : decode mt_K_mark.2.1 10 = .ok (.invokevirtual 173, 3) := by decide +kernel
theorem d_K_mark_13 : decode mt_K_mark.2.1 13 = .ok (.ifnull 16, 3) := by decide +kernel
theorem d_K_mark_16 : decode mt_K_mark.2.1 16 = .ok (.iload_n 3, 1) := by decide +kernel
theorem d_K_mark_17 : decode mt_K_mark.2.1 17 = .ok (.bipush 20, 2) := by decide +kernel
theorem d_K_mark_19 : decode mt_K_mark.2.1 19 = .ok (.invokestatic 87, 3) := by decide +kernel
theorem d_K_mark_22 : decode mt_K_mark.2.1 22 = .ok (.ifCond .eq 7, 3) := by decide +kernel
theorem d_K_mark_25 : decode mt_K_mark.2.1 25 = .ok (.iconst 1, 1) := by decide +kernel
theorem d_K_mark_26 : decode mt_K_mark.2.1 26 = .ok (.goto 4, 3) := by decide +kernel
theorem d_K_mark_29 : decode mt_K_mark.2.1 29 = .ok (.iconst 0, 1) := by decide +kernel
theorem d_K_mark_30 : decode mt_K_mark.2.1 30 = .ok (.istore 4, 2) := by decide +kernel
theorem d_K_mark_32 : decode mt_K_mark.2.1 32 = .ok (.iload 4, 2) := by decide +kernel
theorem d_K_mark_34 : decode mt_K_mark.2.1 34 = .ok (.ifCond .eq 13, 3) := by decide +kernel
theorem d_K_mark_37 : decode mt_K_mark.2.1 37 = .ok (.aload_n 0, 1) := by decide +kernel
theorem d_K_mark_38 : decode mt_K_mark.2.1 38 = .ok (.getfield 45, 3) := by decide +kernel
theorem d_K_mark_41 : decode mt_K_mark.2.1 41 = .ok (.invokevirtual 249, 3) := by decide +kernel
theorem d_K_mark_44 : decode mt_K_mark.2.1 44 = .ok (.ifCond .eq 5, 3) := by decide +kernel
theorem d_K_mark_47 : decode mt_K_mark.2.1 47 = .ok (.iconst (-1), 1) := by decide +kernel
theorem d_K_mark_48 : decode mt_K_mark.2.1 48 = .ok (.ireturn, 1) := by decide +kernel
theorem d_K_mark_49 : decode mt_K_mark.2.1 49 = .ok (.aload_n 0, 1) := by decide +kernel
theorem d_K_mark_50 : decode mt_K_mark.2.1 50 = .ok (.getfield 45, 3) := by decide +kernel
theorem d_K_mark_53 : decode mt_K_mark.2.1 53 = .ok (.iload_n 1, 1) := by decide +kernel
theorem d_K_mark_54 : decode mt_K_mark.2.1 54 = .ok (.iload_n 2, 1) := by decide +kernel
theorem d_K_mark_55 : decode mt_K_mark.2.1 55 = .ok (.iload_n 3, 1) := by decide +kernel
theorem d_K_mark_56 : decode mt_K_mark.2.1 56 = .ok (.aload_n 0, 1) := by decide +kernel
theorem d_K_mark_57 : decode mt_K_mark.2.1 57 = .ok (.getfield 132, 3) := by decide +kernel
theorem d_K_mark_60 : decode mt_K_mark.2.1 60 = .ok (.invokevirtual 252, 3) := by decide +kernel
theorem d_K_mark_63 : decode mt_K_mark.2.1 63 = .ok (.ireturn, 1) := by decide +kernel
theorem d_Ma_areFull_0 : decode mt_Ma_areFull.2.1 0 = .ok (.aload_n 0, 1) := by decide +kernel
theorem d_Ma_areFull_1 : decode mt_Ma_areFull.2.1 1 = .ok (.getfield 30, 3) := by decide +kernel
theorem d_Ma_areFull_4 : decode mt_Ma_areFull.2.1 4 = .ok (.bipush 100, 2) := by decide +kernel
theorem d_Ma_areFull_6 : decode mt_Ma_areFull.2.1 6 = .ok (.if_icmp .lt 7, 3) := by decide +kernel
theorem d_Ma_areFull_9 : decode mt_Ma_areFull.2.1 9 = .ok (.iconst 1, 1) := by decide +kernel
theorem d_Ma_areFull_10 : decode mt_Ma_areFull.2.1 10 = .ok (.goto 4, 3) := by decide +kernel
theorem d_Ma_areFull_13 : decode mt_Ma_areFull.2.1 13 = .ok (.iconst 0, 1) := by decide +kernel
theorem d_Ma_areFull_14 : decode mt_Ma_areFull.2.1 14 = .ok (.ireturn, 1) := by decide +kernel
theorem d_Ma_keep_0 : decode mt_Ma_keep.2.1 0 = .ok (.aload_n 0, 1) := by decide +kernel
theorem d_Ma_keep_1 : decode mt_Ma_keep.2.1 1 = .ok (.invokevirtual 34, 3) := by decide +kernel
theorem d_Ma_keep_4 : decode mt_Ma_keep.2.1 4 = .ok (.ifCond .eq 5, 3) := by decide +kernel
theorem d_Ma_keep_7 : decode mt_Ma_keep.2.1 7 = .ok (.iconst (-1), 1) := by decide +kernel
theorem d_Ma_keep_8 : decode mt_Ma_keep.2.1 8 = .ok (.ireturn, 1) := by decide +kernel
theorem d_Ma_keep_9 : decode mt_Ma_keep.2.1 9 = .ok (.aload_n 0, 1) := by decide +kernel
theorem d_Ma_keep_10 : decode mt_Ma_keep.2.1 10 = .ok (.getfield 9, 3) := by decide +kernel
theorem d_Ma_keep_13 : decode mt_Ma_keep.2.1 13 = .ok (.aload_n 0, 1) := by decide +kernel
theorem d_Ma_keep_14 : decode mt_Ma_keep.2.1 14 = .ok (.getfield 30, 3) := by decide +kernel
theorem d_Ma_keep_17 : decode mt_Ma_keep.2.1 17 = .ok (.iload_n 1, 1) := by decide +kernel
theorem d_Ma_keep_18 : decode mt_Ma_keep.2.1 18 = .ok (.iastore, 1) := by decide +kernel
theorem d_Ma_keep_19 : decode mt_Ma_keep.2.1 19 = .ok (.aload_n 0, 1) := by decide +kernel
theorem d_Ma_keep_20 : decode mt_Ma_keep.2.1 20 = .ok (.getfield 15, 3) := by decide +kernel
theorem d_Ma_keep_23 : decode mt_Ma_keep.2.1 23 = .ok (.aload_n 0, 1) := by decide +kernel
theorem d_Ma_keep_24 : decode mt_Ma_keep.2.1 24 = .ok (.getfield 30, 3) := by decide +kernel
theorem d_Ma_keep_27 : decode mt_Ma_keep.2.1 27 = .ok (.iload_n 2, 1) := by decide +kernel
theorem d_Ma_keep_28 : decode mt_Ma_keep.2.1 28 = .ok (.iastore, 1) := by decide +kernel
theorem d_Ma_keep_29 : decode mt_Ma_keep.2.1 29 = .ok (.aload_n 0, 1) := by decide +kernel
theorem d_Ma_keep_30 : decode mt_Ma_keep.2.1 30 = .ok (.getfield 18, 3) := by decide +kernel
theorem d_Ma_keep_33 : decode mt_Ma_keep.2.1 33 = .ok (.aload_n 0, 1) := by decide +kernel
theorem d_Ma_keep_34 : decode mt_Ma_keep.2.1 34 = .ok (.getfield 30, 3) := by decide +kernel
theorem d_Ma_keep_37 : decode mt_Ma_keep.2.1 37 = .ok (.iload_n 3, 1) := by decide +kernel
theorem d_Ma_keep_38 : decode mt_Ma_keep.2.1 38 = .ok (.iastore, 1) := by decide +kernel
theorem d_Ma_keep_39 : decode mt_Ma_keep.2.1 39 = .ok (.aload_n 0, 1) := by decide +kernel
theorem d_Ma_keep_40 : decode mt_Ma_keep.2.1 40 = .ok (.getfield 21, 3) := by decide +kernel
theorem d_Ma_keep_43 : decode mt_Ma_keep.2.1 43 = .ok (.aload_n 0, 1) := by decide +kernel
theorem d_Ma_keep_44 : decode mt_Ma_keep.2.1 44 = .ok (.getfield 30, 3) := by decide +kernel
theorem d_Ma_keep_47 : decode mt_Ma_keep.2.1 47 = .ok (.iload 4, 2) := by decide +kernel
theorem d_Ma_keep_49 : decode mt_Ma_keep.2.1 49 = .ok (.iastore, 1) := by decide +kernel
theorem d_Ma_keep_50 : decode mt_Ma_keep.2.1 50 = .ok (.aload_n 0, 1) := by decide +kernel
theorem d_Ma_keep_51 : decode mt_Ma_keep.2.1 51 = .ok (.getfield 24, 3) := by decide +kernel
theorem d_Ma_keep_54 : decode mt_Ma_keep.2.1 54 = .ok (.aload_n 0, 1) := by decide +kernel
theorem d_Ma_keep_55 : decode mt_Ma_keep.2.1 55 = .ok (.getfield 30, 3) := by decide +kernel
theorem d_Ma_keep_58 : decode mt_Ma_keep.2.1 58 = .ok (.iconst (-1), 1) := by decide +kernel
theorem d_Ma_keep_59 : decode mt_Ma_keep.2.1 59 = .ok (.iastore, 1) := by decide +kernel
theorem d_Ma_keep_60 : decode mt_Ma_keep.2.1 60 = .ok (.aload_n 0, 1) := by decide +kernel
theorem d_Ma_keep_61 : decode mt_Ma_keep.2.1 61 = .ok (.dup, 1) := by decide +kernel
theorem d_Ma_keep_62 : decode mt_Ma_keep.2.1 62 = .ok (.getfield 30, 3) := by decide +kernel
theorem d_Ma_keep_65 : decode mt_Ma_keep.2.1 65 = .ok (.iconst 1, 1) := by decide +kernel
theorem d_Ma_keep_66 : decode mt_Ma_keep.2.1 66 = .ok (.iadd, 1) := by decide +kernel
theorem d_Ma_keep_67 : decode mt_Ma_keep.2.1 67 = .ok (.putfield 30, 3) := by decide +kernel
theorem d_Ma_keep_70 : decode mt_Ma_keep.2.1 70 = .ok (.aload_n 0, 1) := by decide +kernel
theorem d_Ma_keep_71 : decode mt_Ma_keep.2.1 71 = .ok (.getfield 30, 3) := by decide +kernel
theorem d_Ma_keep_74 : decode mt_Ma_keep.2.1 74 = .ok (.iconst 1, 1) := by decide +kernel
theorem d_Ma_keep_75 : decode mt_Ma_keep.2.1 75 = .ok (.isub, 1) := by decide +kernel
theorem d_Ma_keep_76 : decode mt_Ma_keep.2.1 76 = .ok (.ireturn, 1) := by decide +kernel
theorem d_K_untell_0 : decode mt_K_untell.2.1 0 = .ok (.aload_n 0, 1) := by decide +kernel
theorem d_K_untell_1 : decode mt_K_untell.2.1 1 = .ok (.getfield 45, 3) := by decide +kernel
theorem d_K_untell_4 : decode mt_K_untell.2.1 4 = .ok (.iload_n 1, 1) := by decide +kernel
theorem d_K_untell_5 : decode mt_K_untell.2.1 5 = .ok (.aload_n 0, 1) := by decide +kernel
theorem d_K_untell_6 : decode mt_K_untell.2.1 6 = .ok (.getfield 132, 3) := by decide +kernel
theorem d_K_untell_9 : decode mt_K_untell.2.1 9 = .ok (.invokevirtual 253, 3) := by decide +kernel
theorem d_K_untell_12 : decode mt_K_untell.2.1 12 = .ok (.ireturn, 1) := by decide +kernel
theorem d_Ma_takeBack_0 : decode mt_Ma_takeBack.2.1 0 = .ok (.iload_n 1, 1) := by decide +kernel
theorem d_Ma_takeBack_1 : decode mt_Ma_takeBack.2.1 1 = .ok (.ifCond .lt 21, 3) := by decide +kernel
theorem d_Ma_takeBack_4 : decode mt_Ma_takeBack.2.1 4 = .ok (.iload_n 1, 1) := by decide +kernel
theorem d_Ma_takeBack_5 : decode mt_Ma_takeBack.2.1 5 = .ok (.aload_n 0, 1) := by decide +kernel
theorem d_Ma_takeBack_6 : decode mt_Ma_takeBack.2.1 6 = .ok (.getfield 30, 3) := by decide +kernel
theorem d_Ma_takeBack_9 : decode mt_Ma_takeBack.2.1 9 = .ok (.if_icmp .ge 13, 3) := by decide +kernel
theorem d_Ma_takeBack_12 : decode mt_Ma_takeBack.2.1 12 = .ok (.aload_n 0, 1) := by decide +kernel
theorem d_Ma_takeBack_13 : decode mt_Ma_takeBack.2.1 13 = .ok (.getfield 24, 3) := by decide +kernel
theorem d_Ma_takeBack_16 : decode mt_Ma_takeBack.2.1 16 = .ok (.iload_n 1, 1) := by decide +kernel
theorem d_Ma_takeBack_17 : decode mt_Ma_takeBack.2.1 17 = .ok (.iaload, 1) := by decide +kernel
theorem d_Ma_takeBack_18 : decode mt_Ma_takeBack.2.1 18 = .ok (.iconst (-1), 1) := by decide +kernel
theorem d_Ma_takeBack_19 : decode mt_Ma_takeBack.2.1 19 = .ok (.if_icmp .eq 5, 3) := by decide +kernel
theorem d_Ma_takeBack_22 : decode mt_Ma_takeBack.2.1 22 = .ok (.iconst 0, 1) := by decide +kernel
theorem d_Ma_takeBack_23 : decode mt_Ma_takeBack.2.1 23 = .ok (.ireturn, 1) := by decide +kernel
theorem d_Ma_takeBack_24 : decode mt_Ma_takeBack.2.1 24 = .ok (.aload_n 0, 1) := by decide +kernel
theorem d_Ma_takeBack_25 : decode mt_Ma_takeBack.2.1 25 = .ok (.getfield 24, 3) := by decide +kernel
theorem d_Ma_takeBack_28 : decode mt_Ma_takeBack.2.1 28 = .ok (.iload_n 1, 1) := by decide +kernel
theorem d_Ma_takeBack_29 : decode mt_Ma_takeBack.2.1 29 = .ok (.iload_n 2, 1) := by decide +kernel
theorem d_Ma_takeBack_30 : decode mt_Ma_takeBack.2.1 30 = .ok (.iastore, 1) := by decide +kernel
theorem d_Ma_takeBack_31 : decode mt_Ma_takeBack.2.1 31 = .ok (.iconst 1, 1) := by decide +kernel
theorem d_Ma_takeBack_32 : decode mt_Ma_takeBack.2.1 32 = .ok (.ireturn, 1) := by decide +kernel
theorem d_K_grade_0 : decode mt_K_grade.2.1 0 = .ok (.aload_n 0, 1) := by decide +kernel
theorem d_K_grade_1 : decode mt_K_grade.2.1 1 = .ok (.iload_n 1, 1) := by decide +kernel
theorem d_K_grade_2 : decode mt_K_grade.2.1 2 = .ok (.invokevirtual 173, 3) := by decide +kernel
theorem d_K_grade_5 : decode mt_K_grade.2.1 5 = .ok (.ifnonnull 5, 3) := by decide +kernel
theorem d_K_grade_8 : decode mt_K_grade.2.1 8 = .ok (.iconst (-1), 1) := by decide +kernel
theorem d_K_grade_9 : decode mt_K_grade.2.1 9 = .ok (.ireturn, 1) := by decide +kernel
theorem d_K_grade_10 : decode mt_K_grade.2.1 10 = .ok (.aload_n 0, 1) := by decide +kernel
theorem d_K_grade_11 : decode mt_K_grade.2.1 11 = .ok (.getfield 45, 3) := by decide +kernel
theorem d_K_grade_14 : decode mt_K_grade.2.1 14 = .ok (.iload_n 1, 1) := by decide +kernel
theorem d_K_grade_15 : decode mt_K_grade.2.1 15 = .ok (.iload_n 2, 1) := by decide +kernel
theorem d_K_grade_16 : decode mt_K_grade.2.1 16 = .ok (.invokevirtual 256, 3) := by decide +kernel
theorem d_K_grade_19 : decode mt_K_grade.2.1 19 = .ok (.ireturn, 1) := by decide +kernel
theorem d_Ma_middleOf_0 : decode mt_Ma_middleOf.2.1 0 = .ok (.aload_n 0, 1) := by decide +kernel
theorem d_Ma_middleOf_1 : decode mt_Ma_middleOf.2.1 1 = .ok (.iload_n 1, 1) := by decide +kernel
theorem d_Ma_middleOf_2 : decode mt_Ma_middleOf.2.1 2 = .ok (.iload_n 2, 1) := by decide +kernel
theorem d_Ma_middleOf_3 : decode mt_Ma_middleOf.2.1 3 = .ok (.invokevirtual 38, 3) := by decide +kernel
theorem d_Ma_middleOf_6 : decode mt_Ma_middleOf.2.1 6 = .ok (.istore_n 3, 1) := by decide +kernel
theorem d_Ma_middleOf_7 : decode mt_Ma_middleOf.2.1 7 = .ok (.iload_n 3, 1) := by decide +kernel
theorem d_Ma_middleOf_8 : decode mt_Ma_middleOf.2.1 8 = .ok (.iconst 1, 1) := by decide +kernel
theorem d_Ma_middleOf_9 : decode mt_Ma_middleOf.2.1 9 = .ok (.isub, 1) := by decide +kernel
theorem d_Ma_middleOf_10 : decode mt_Ma_middleOf.2.1 10 = .ok (.iconst 2, 1) := by decide +kernel
theorem d_Ma_middleOf_11 : decode mt_Ma_middleOf.2.1 11 = .ok (.idiv, 1) := by decide +kernel
theorem d_Ma_middleOf_12 : decode mt_Ma_middleOf.2.1 12 = .ok (.istore 4, 2) := by decide +kernel
theorem d_Ma_middleOf_14 : decode mt_Ma_middleOf.2.1 14 = .ok (.iconst 0, 1) := by decide +kernel
theorem d_Ma_middleOf_15 : decode mt_Ma_middleOf.2.1 15 = .ok (.istore 5, 2) := by decide +kernel
theorem d_Ma_middleOf_17 : decode mt_Ma_middleOf.2.1 17 = .ok (.iload 5, 2) := by decide +kernel
theorem d_Ma_middleOf_19 : decode mt_Ma_middleOf.2.1 19 = .ok (.bipush 20, 2) := by decide +kernel
theorem d_Ma_middleOf_21 : decode mt_Ma_middleOf.2.1 21 = .ok (.if_icmp .gt 38, 3) := by decide +kernel
theorem d_Ma_middleOf_24 : decode mt_Ma_middleOf.2.1 24 = .ok (.iload_n 3, 1) := by decide +kernel
theorem d_Ma_middleOf_25 : decode mt_Ma_middleOf.2.1 25 = .ok (.ifCond .le 34, 3) := by decide +kernel
theorem d_Ma_middleOf_28 : decode mt_Ma_middleOf.2.1 28 = .ok (.aload_n 0, 1) := by decide +kernel
theorem d_Ma_middleOf_29 : decode mt_Ma_middleOf.2.1 29 = .ok (.iload 5, 2) := by decide +kernel
theorem d_Ma_middleOf_31 : decode mt_Ma_middleOf.2.1 31 = .ok (.invokevirtual 42, 3) := by decide +kernel
theorem d_Ma_middleOf_34 : decode mt_Ma_middleOf.2.1 34 = .ok (.istore 6, 2) := by decide +kernel
theorem d_Ma_middleOf_36 : decode mt_Ma_middleOf.2.1 36 = .ok (.iload 6, 2) := by decide +kernel
theorem d_Ma_middleOf_38 : decode mt_Ma_middleOf.2.1 38 = .ok (.iload 4, 2) := by decide +kernel
theorem d_Ma_middleOf_40 : decode mt_Ma_middleOf.2.1 40 = .ok (.if_icmp .le 6, 3) := by decide +kernel
theorem d_Ma_middleOf_43 : decode mt_Ma_middleOf.2.1 43 = .ok (.iload 5, 2) := by decide +kernel
theorem d_Ma_middleOf_45 : decode mt_Ma_middleOf.2.1 45 = .ok (.ireturn, 1) := by decide +kernel
theorem d_Ma_middleOf_46 : decode mt_Ma_middleOf.2.1 46 = .ok (.iload 4, 2) := by decide +kernel
theorem d_Ma_middleOf_48 : decode mt_Ma_middleOf.2.1 48 = .ok (.iload 6, 2) := by decide +kernel
theorem d_Ma_middleOf_50 : decode mt_Ma_middleOf.2.1 50 = .ok (.isub, 1) := by decide +kernel
theorem d_Ma_middleOf_51 : decode mt_Ma_middleOf.2.1 51 = .ok (.istore 4, 2) := by decide +kernel
theorem d_Ma_middleOf_53 : decode mt_Ma_middleOf.2.1 53 = .ok (.iinc 5 1, 3) := by decide +kernel
theorem d_Ma_middleOf_56 : decode mt_Ma_middleOf.2.1 56 = .ok (.goto (-39), 3) := by decide +kernel
theorem d_Ma_middleOf_59 : decode mt_Ma_middleOf.2.1 59 = .ok (.iconst (-1), 1) := by decide +kernel
theorem d_Ma_middleOf_60 : decode mt_Ma_middleOf.2.1 60 = .ok (.ireturn, 1) := by decide +kernel
theorem d_Ma_gatherLast_0 : decode mt_Ma_gatherLast.2.1 0 = .ok (.aload_n 0, 1) := by decide +kernel
theorem d_Ma_gatherLast_1 : decode mt_Ma_gatherLast.2.1 1 = .ok (.getfield 27, 3) := by decide +kernel
theorem d_Ma_gatherLast_4 : decode mt_Ma_gatherLast.2.1 4 = .ok (.iconst (-1), 1) := by decide +kernel
theorem d_Ma_gatherLast_5 : decode mt_Ma_gatherLast.2.1 5 = .ok (.invokestatic 46, 3) := by decide +kernel
theorem d_Ma_gatherLast_8 : decode mt_Ma_gatherLast.2.1 8 = .ok (.iconst 0, 1) := by decide +kernel
theorem d_Ma_gatherLast_9 : decode mt_Ma_gatherLast.2.1 9 = .ok (.istore_n 3, 1) := by decide +kernel
theorem d_Ma_gatherLast_10 : decode mt_Ma_gatherLast.2.1 10 = .ok (.iload_n 3, 1) := by decide +kernel
theorem d_Ma_gatherLast_11 : decode mt_Ma_gatherLast.2.1 11 = .ok (.aload_n 0, 1) := by decide +kernel
theorem d_Ma_gatherLast_12 : decode mt_Ma_gatherLast.2.1 12 = .ok (.getfield 30, 3) := by decide +kernel
theorem d_Ma_gatherLast_15 : decode mt_Ma_gatherLast.2.1 15 = .ok (.if_icmp .ge 58, 3) := by decide +kernel
theorem d_Ma_gatherLast_18 : decode mt_Ma_gatherLast.2.1 18 = .ok (.aload_n 0, 1) := by decide +kernel
theorem d_Ma_gatherLast_19 : decode mt_Ma_gatherLast.2.1 19 = .ok (.getfield 9, 3) := by decide +kernel
theorem d_Ma_gatherLast_22 : decode mt_Ma_gatherLast.2.1 22 = .ok (.iload_n 3, 1) := by decide +kernel
theorem d_Ma_gatherLast_23 : decode mt_Ma_gatherLast.2.1 23 = .ok (.iaload, 1) := by decide +kernel
theorem d_Ma_gatherLast_24 : decode mt_Ma_gatherLast.2.1 24 = .ok (.istore 4, 2) := by decide +kernel
theorem d_Ma_gatherLast_26 : decode mt_Ma_gatherLast.2.1 26 = .ok (.aload_n 0, 1) := by decide +kernel
theorem d_Ma_gatherLast_27 : decode mt_Ma_gatherLast.2.1 27 = .ok (.getfield 15, 3) := by decide +kernel
theorem d_Ma_gatherLast_30 : decode mt_Ma_gatherLast.2.1 30 = .ok (.iload_n 3, 1) := by decide +kernel
theorem d_Ma_gatherLast_31 : decode mt_Ma_gatherLast.2.1 31 = .ok (.iaload, 1) := by decide +kernel
theorem d_Ma_gatherLast_32 : decode mt_Ma_gatherLast.2.1 32 = .ok (.iload_n 1, 1) := by decide +kernel
theorem d_Ma_gatherLast_33 : decode mt_Ma_gatherLast.2.1 33 = .ok (.if_icmp .ne 34, 3) := by decide +kernel
theorem d_Ma_gatherLast_36 : decode mt_Ma_gatherLast.2.1 36 = .ok (.aload_n 0, 1) := by decide +kernel
theorem d_Ma_gatherLast_37 : decode mt_Ma_gatherLast.2.1 37 = .ok (.iload_n 3, 1) := by decide +kernel
theorem d_Ma_gatherLast_38 : decode mt_Ma_gatherLast.2.1 38 = .ok (.iload_n 2, 1) := by decide +kernel
theorem d_Ma_gatherLast_39 : decode mt_Ma_gatherLast.2.1 39 = .ok (.invokevirtual 52, 3) := by decide +kernel
theorem d_Ma_gatherLast_42 : decode mt_Ma_gatherLast.2.1 42 = .ok (.ifCond .eq 25, 3) := by decide +kernel
theorem d_Ma_gatherLast_45 : decode mt_Ma_gatherLast.2.1 45 = .ok (.iload 4, 2) := by decide +kernel
theorem d_Ma_gatherLast_47 : decode mt_Ma_gatherLast.2.1 47 = .ok (.iconst 4, 1) := by decide +kernel
theorem d_Ma_gatherLast_48 : decode mt_Ma_gatherLast.2.1 48 = .ok (.invokestatic 56, 3) := by decide +kernel
theorem d_Ma_gatherLast_51 : decode mt_Ma_gatherLast.2.1 51 = .ok (.ifCond .eq 16, 3) := by decide +kernel
theorem d_Ma_gatherLast_54 : decode mt_Ma_gatherLast.2.1 54 = .ok (.aload_n 0, 1) := by decide +kernel
theorem d_Ma_gatherLast_55 : decode mt_Ma_gatherLast.2.1 55 = .ok (.getfield 27, 3) := by decide +kernel
theorem d_Ma_gatherLast_58 : decode mt_Ma_gatherLast.2.1 58 = .ok (.iload 4, 2) := by decide +kernel
theorem d_Ma_gatherLast_60 : decode mt_Ma_gatherLast.2.1 60 = .ok (.aload_n 0, 1) := by decide +kernel
theorem d_Ma_gatherLast_61 : decode mt_Ma_gatherLast.2.1 61 = .ok (.getfield 18, 3) := by decide +kernel
theorem d_Ma_gatherLast_64 : decode mt_Ma_gatherLast.2.1 64 = .ok (.iload_n 3, 1) := by decide +kernel
theorem d_Ma_gatherLast_65 : decode mt_Ma_gatherLast.2.1 65 = .ok (.iaload, 1) := by decide +kernel
theorem d_Ma_gatherLast_66 : decode mt_Ma_gatherLast.2.1 66 = .ok (.iastore, 1) := by decide +kernel
theorem d_Ma_gatherLast_67 : decode mt_Ma_gatherLast.2.1 67 = .ok (.iinc 3 1, 3) := by decide +kernel
theorem d_Ma_gatherLast_70 : decode mt_Ma_gatherLast.2.1 70 = .ok (.goto (-60), 3) := by decide +kernel
theorem d_Ma_gatherLast_73 : decode mt_Ma_gatherLast.2.1 73 = .ok (.iconst 5, 1) := by decide +kernel
theorem d_Ma_gatherLast_74 : decode mt_Ma_gatherLast.2.1 74 = .ok (.aload_n 0, 1) := by decide +kernel
theorem d_Ma_gatherLast_75 : decode mt_Ma_gatherLast.2.1 75 = .ok (.iconst (-1), 1) := by decide +kernel
theorem d_Ma_gatherLast_76 : decode mt_Ma_gatherLast.2.1 76 = .ok (.invokevirtual 42, 3) := by decide +kernel
theorem d_Ma_gatherLast_79 : decode mt_Ma_gatherLast.2.1 79 = .ok (.isub, 1) := by decide +kernel
theorem d_Ma_gatherLast_80 : decode mt_Ma_gatherLast.2.1 80 = .ok (.ireturn, 1) := by decide +kernel
theorem d_Ma_isKnown_0 : decode mt_Ma_isKnown.2.1 0 = .ok (.aload_n 0, 1) := by decide +kernel
theorem d_Ma_isKnown_1 : decode mt_Ma_isKnown.2.1 1 = .ok (.getfield 21, 3) := by decide +kernel
theorem d_Ma_isKnown_4 : decode mt_Ma_isKnown.2.1 4 = .ok (.iload_n 1, 1) := by decide +kernel
theorem d_Ma_isKnown_5 : decode mt_Ma_isKnown.2.1 5 = .ok (.iaload, 1) := by decide +kernel
theorem d_Ma_isKnown_6 : decode mt_Ma_isKnown.2.1 6 = .ok (.iload_n 2, 1) := by decide +kernel
theorem d_Ma_isKnown_7 : decode mt_Ma_isKnown.2.1 7 = .ok (.if_icmp .gt 27, 3) := by decide +kernel
theorem d_Ma_isKnown_10 : decode mt_Ma_isKnown.2.1 10 = .ok (.aload_n 0, 1) := by decide +kernel
theorem d_Ma_isKnown_11 : decode mt_Ma_isKnown.2.1 11 = .ok (.getfield 24, 3) := by decide +kernel
theorem d_Ma_isKnown_14 : decode mt_Ma_isKnown.2.1 14 = .ok (.iload_n 1, 1) := by decide +kernel
theorem d_Ma_isKnown_15 : decode mt_Ma_isKnown.2.1 15 = .ok (.iaload, 1) := by decide +kernel
theorem d_Ma_isKnown_16 : decode mt_Ma_isKnown.2.1 16 = .ok (.iconst (-1), 1) := by decide +kernel
theorem d_Ma_isKnown_17 : decode mt_Ma_isKnown.2.1 17 = .ok (.if_icmp .eq 13, 3) := by decide +kernel
theorem d_Ma_isKnown_20 : decode mt_Ma_isKnown.2.1 20 = .ok (.aload_n 0, 1) := by decide +kernel
theorem d_Ma_isKnown_21 : decode mt_Ma_isKnown.2.1 21 = .ok (.getfield 24, 3) := by decide +kernel
theorem d_Ma_isKnown_24 : decode mt_Ma_isKnown.2.1 24 = .ok (.iload_n 1, 1) := by decide +kernel
theorem d_Ma_isKnown_25 : decode mt_Ma_isKnown.2.1 25 = .ok (.iaload, 1) := by decide +kernel
theorem d_Ma_isKnown_26 : decode mt_Ma_isKnown.2.1 26 = .ok (.iload_n 2, 1) := by decide +kernel
theorem d_Ma_isKnown_27 : decode mt_Ma_isKnown.2.1 27 = .ok (.if_icmp .le 7, 3) := by decide +kernel
theorem d_Ma_isKnown_30 : decode mt_Ma_isKnown.2.1 30 = .ok (.iconst 1, 1) := by decide +kernel
theorem d_Ma_isKnown_31 : decode mt_Ma_isKnown.2.1 31 = .ok (.goto 4, 3) := by decide +kernel
theorem d_Ma_isKnown_34 : decode mt_Ma_isKnown.2.1 34 = .ok (.iconst 0, 1) := by decide +kernel
theorem d_Ma_isKnown_35 : decode mt_Ma_isKnown.2.1 35 = .ok (.ireturn, 1) := by decide +kernel
theorem d_Ma_gradersWith_0 : decode mt_Ma_gradersWith.2.1 0 = .ok (.iconst 0, 1) := by decide +kernel
theorem d_Ma_gradersWith_1 : decode mt_Ma_gradersWith.2.1 1 = .ok (.istore_n 2, 1) := by decide +kernel
theorem d_Ma_gradersWith_2 : decode mt_Ma_gradersWith.2.1 2 = .ok (.iconst 0, 1) := by decide +kernel
theorem d_Ma_gradersWith_3 : decode mt_Ma_gradersWith.2.1 3 = .ok (.istore_n 3, 1) := by decide +kernel
theorem d_Ma_gradersWith_4 : decode mt_Ma_gradersWith.2.1 4 = .ok (.iload_n 3, 1) := by decide +kernel
theorem d_Ma_gradersWith_5 : decode mt_Ma_gradersWith.2.1 5 = .ok (.iconst 5, 1) := by decide +kernel
theorem d_Ma_gradersWith_6 : decode mt_Ma_gradersWith.2.1 6 = .ok (.if_icmp .ge 22, 3) := by decide +kernel
theorem d_Ma_gradersWith_9 : decode mt_Ma_gradersWith.2.1 9 = .ok (.aload_n 0, 1) := by decide +kernel
theorem d_Ma_gradersWith_10 : decode mt_Ma_gradersWith.2.1 10 = .ok (.getfield 27, 3) := by decide +kernel
theorem d_Ma_gradersWith_13 : decode mt_Ma_gradersWith.2.1 13 = .ok (.iload_n 3, 1) := by decide +kernel
theorem d_Ma_gradersWith_14 : decode mt_Ma_gradersWith.2.1 14 = .ok (.iaload, 1) := by decide +kernel
theorem d_Ma_gradersWith_15 : decode mt_Ma_gradersWith.2.1 15 = .ok (.iload_n 1, 1) := by decide +kernel
theorem d_Ma_gradersWith_16 : decode mt_Ma_gradersWith.2.1 16 = .ok (.if_icmp .ne 6, 3) := by decide +kernel
theorem d_Ma_gradersWith_19 : decode mt_Ma_gradersWith.2.1 19 = .ok (.iinc 2 1, 3) := by decide +kernel
theorem d_Ma_gradersWith_22 : decode mt_Ma_gradersWith.2.1 22 = .ok (.iinc 3 1, 3) := by decide +kernel
theorem d_Ma_gradersWith_25 : decode mt_Ma_gradersWith.2.1 25 = .ok (.goto (-21), 3) := by decide +kernel
theorem d_Ma_gradersWith_28 : decode mt_Ma_gradersWith.2.1 28 = .ok (.iload_n 2, 1) := by decide +kernel
theorem d_Ma_gradersWith_29 : decode mt_Ma_gradersWith.2.1 29 = .ok (.ireturn, 1) := by decide +kernel
theorem d_K_beside_0 : decode mt_K_beside.2.1 0 = .ok (.iload_n 1, 1) := by decide +kernel
theorem d_K_beside_1 : decode mt_K_beside.2.1 1 = .ok (.iload_n 2, 1) := by decide +kernel
theorem d_K_beside_2 : decode mt_K_beside.2.1 2 = .ok (.if_icmp .eq 19, 3) := by decide +kernel
theorem d_K_beside_5 : decode mt_K_beside.2.1 5 = .ok (.aload_n 0, 1) := by decide +kernel
theorem d_K_beside_6 : decode mt_K_beside.2.1 6 = .ok (.iload_n 1, 1) := by decide +kernel
theorem d_K_beside_7 : decode mt_K_beside.2.1 7 = .ok (.invokevirtual 173, 3) := by decide +kernel
theorem d_K_beside_10 : decode mt_K_beside.2.1 10 = .ok (.ifnull 11, 3) := by decide +kernel
theorem d_K_beside_13 : decode mt_K_beside.2.1 13 = .ok (.aload_n 0, 1) := by decide +kernel
theorem d_K_beside_14 : decode mt_K_beside.2.1 14 = .ok (.iload_n 2, 1) := by decide +kernel
theorem d_K_beside_15 : decode mt_K_beside.2.1 15 = .ok (.invokevirtual 173, 3) := by decide +kernel
theorem d_K_beside_18 : decode mt_K_beside.2.1 18 = .ok (.ifnonnull 5, 3) := by decide +kernel
theorem d_K_beside_21 : decode mt_K_beside.2.1 21 = .ok (.iconst (-1), 1) := by decide +kernel
theorem d_K_beside_22 : decode mt_K_beside.2.1 22 = .ok (.ireturn, 1) := by decide +kernel
theorem d_K_beside_23 : decode mt_K_beside.2.1 23 = .ok (.aload_n 0, 1) := by decide +kernel
theorem d_K_beside_24 : decode mt_K_beside.2.1 24 = .ok (.getfield 38, 3) := by decide +kernel
theorem d_K_beside_27 : decode mt_K_beside.2.1 27 = .ok (.lconst 1, 1) := by decide +kernel
theorem d_K_beside_28 : decode mt_K_beside.2.1 28 = .ok (.iload_n 1, 1) := by decide +kernel
theorem d_K_beside_29 : decode mt_K_beside.2.1 29 = .ok (.lshl, 1) := by decide +kernel
theorem d_K_beside_30 : decode mt_K_beside.2.1 30 = .ok (.aload_n 0, 1) := by decide +kernel
theorem d_K_beside_31 : decode mt_K_beside.2.1 31 = .ok (.getfield 132, 3) := by decide +kernel
theorem d_K_beside_34 : decode mt_K_beside.2.1 34 = .ok (.invokevirtual 259, 3) := by decide +kernel
theorem d_K_beside_37 : decode mt_K_beside.2.1 37 = .ok (.lstore_n 3, 1) := by decide +kernel
theorem d_K_beside_38 : decode mt_K_beside.2.1 38 = .ok (.lload_n 3, 1) := by decide +kernel
theorem d_K_beside_39 : decode mt_K_beside.2.1 39 = .ok (.iload_n 2, 1) := by decide +kernel
theorem d_K_beside_40 : decode mt_K_beside.2.1 40 = .ok (.lushr, 1) := by decide +kernel
theorem d_K_beside_41 : decode mt_K_beside.2.1 41 = .ok (.lconst 1, 1) := by decide +kernel
theorem d_K_beside_42 : decode mt_K_beside.2.1 42 = .ok (.land, 1) := by decide +kernel
theorem d_K_beside_43 : decode mt_K_beside.2.1 43 = .ok (.lconst 0, 1) := by decide +kernel
theorem d_K_beside_44 : decode mt_K_beside.2.1 44 = .ok (.lcmp, 1) := by decide +kernel
theorem d_K_beside_45 : decode mt_K_beside.2.1 45 = .ok (.ifCond .eq 7, 3) := by decide +kernel
theorem d_K_beside_48 : decode mt_K_beside.2.1 48 = .ok (.iconst 1, 1) := by decide +kernel
theorem d_K_beside_49 : decode mt_K_beside.2.1 49 = .ok (.goto 4, 3) := by decide +kernel
theorem d_K_beside_52 : decode mt_K_beside.2.1 52 = .ok (.iconst 0, 1) := by decide +kernel
theorem d_K_beside_53 : decode mt_K_beside.2.1 53 = .ok (.ireturn, 1) := by decide +kernel
theorem d_St_besideAny_0 : decode mt_St_besideAny.2.1 0 = .ok (.lconst 0, 1) := by decide +kernel
theorem d_St_besideAny_1 : decode mt_St_besideAny.2.1 1 = .ok (.lstore 4, 2) := by decide +kernel
theorem d_St_besideAny_3 : decode mt_St_besideAny.2.1 3 = .ok (.iconst 0, 1) := by decide +kernel
theorem d_St_besideAny_4 : decode mt_St_besideAny.2.1 4 = .ok (.istore 6, 2) := by decide +kernel
theorem d_St_besideAny_6 : decode mt_St_besideAny.2.1 6 = .ok (.iload 6, 2) := by decide +kernel
theorem d_St_besideAny_8 : decode mt_St_besideAny.2.1 8 = .ok (.aload_n 0, 1) := by decide +kernel
theorem d_St_besideAny_9 : decode mt_St_besideAny.2.1 9 = .ok (.getfield 24, 3) := by decide +kernel
theorem d_St_besideAny_12 : decode mt_St_besideAny.2.1 12 = .ok (.if_icmp .ge 37, 3) := by decide +kernel
theorem d_St_besideAny_15 : decode mt_St_besideAny.2.1 15 = .ok (.lload_n 1, 1) := by decide +kernel
theorem d_St_besideAny_16 : decode mt_St_besideAny.2.1 16 = .ok (.aload_n 0, 1) := by decide +kernel
theorem d_St_besideAny_17 : decode mt_St_besideAny.2.1 17 = .ok (.getfield 9, 3) := by decide +kernel
theorem d_St_besideAny_20 : decode mt_St_besideAny.2.1 20 = .ok (.iload 6, 2) := by decide +kernel
theorem d_St_besideAny_22 : decode mt_St_besideAny.2.1 22 = .ok (.iaload, 1) := by decide +kernel
theorem d_St_besideAny_23 : decode mt_St_besideAny.2.1 23 = .ok (.lushr, 1) := by decide +kernel
theorem d_St_besideAny_24 : decode mt_St_besideAny.2.1 24 = .ok (.lconst 1, 1) := by decide +kernel
theorem d_St_besideAny_25 : decode mt_St_besideAny.2.1 25 = .ok (.land, 1) := by decide +kernel
theorem d_St_besideAny_26 : decode mt_St_besideAny.2.1 26 = .ok (.lconst 0, 1) := by decide +kernel
theorem d_St_besideAny_27 : decode mt_St_besideAny.2.1 27 = .ok (.lcmp, 1) := by decide +kernel
theorem d_St_besideAny_28 : decode mt_St_besideAny.2.1 28 = .ok (.ifCond .eq 15, 3) := by decide +kernel
theorem d_St_besideAny_31 : decode mt_St_besideAny.2.1 31 = .ok (.lload 4, 2) := by decide +kernel
theorem d_St_besideAny_33 : decode mt_St_besideAny.2.1 33 = .ok (.aload_n 0, 1) := by decide +kernel
theorem d_St_besideAny_34 : decode mt_St_besideAny.2.1 34 = .ok (.iload 6, 2) := by decide +kernel
theorem d_St_besideAny_36 : decode mt_St_besideAny.2.1 36 = .ok (.iload_n 3, 1) := by decide +kernel
theorem d_St_besideAny_37 : decode mt_St_besideAny.2.1 37 = .ok (.invokevirtual 28, 3) := by decide +kernel
theorem d_St_besideAny_40 : decode mt_St_besideAny.2.1 40 = .ok (.lor, 1) := by decide +kernel
theorem d_St_besideAny_41 : decode mt_St_besideAny.2.1 41 = .ok (.lstore 4, 2) := by decide +kernel
theorem d_St_besideAny_43 : decode mt_St_besideAny.2.1 43 = .ok (.iinc 6 1, 3) := by decide +kernel
theorem d_St_besideAny_46 : decode mt_St_besideAny.2.1 46 = .ok (.goto (-40), 3) := by decide +kernel
theorem d_St_besideAny_49 : decode mt_St_besideAny.2.1 49 = .ok (.lload 4, 2) := by decide +kernel
theorem d_St_besideAny_51 : decode mt_St_besideAny.2.1 51 = .ok (.lreturn, 1) := by decide +kernel
theorem d_St_besideStay_0 : decode mt_St_besideStay.2.1 0 = .ok (.lconst 0, 1) := by decide +kernel
theorem d_St_besideStay_1 : decode mt_St_besideStay.2.1 1 = .ok (.lstore_n 3, 1) := by decide +kernel
theorem d_St_besideStay_2 : decode mt_St_besideStay.2.1 2 = .ok (.iconst 0, 1) := by decide +kernel
theorem d_St_besideStay_3 : decode mt_St_besideStay.2.1 3 = .ok (.istore 5, 2) := by decide +kernel
theorem d_St_besideStay_5 : decode mt_St_besideStay.2.1 5 = .ok (.iload 5, 2) := by decide +kernel
theorem d_St_besideStay_7 : decode mt_St_besideStay.2.1 7 = .ok (.aload_n 0, 1) := by decide +kernel
theorem d_St_besideStay_8 : decode mt_St_besideStay.2.1 8 = .ok (.getfield 24, 3) := by decide +kernel
theorem d_St_besideStay_11 : decode mt_St_besideStay.2.1 11 = .ok (.if_icmp .ge 64, 3) := by decide +kernel
theorem d_St_besideStay_14 : decode mt_St_besideStay.2.1 14 = .ok (.aload_n 0, 1) := by decide +kernel
theorem d_St_besideStay_15 : decode mt_St_besideStay.2.1 15 = .ok (.getfield 9, 3) := by decide +kernel
theorem d_St_besideStay_18 : decode mt_St_besideStay.2.1 18 = .ok (.iload 5, 2) := by decide +kernel
theorem d_St_besideStay_20 : decode mt_St_besideStay.2.1 20 = .ok (.iaload, 1) := by decide +kernel
theorem d_St_besideStay_21 : decode mt_St_besideStay.2.1 21 = .ok (.aload_n 0, 1) := by decide +kernel
theorem d_St_besideStay_22 : decode mt_St_besideStay.2.1 22 = .ok (.getfield 9, 3) := by decide +kernel
theorem d_St_besideStay_25 : decode mt_St_besideStay.2.1 25 = .ok (.iload_n 1, 1) := by decide +kernel
theorem d_St_besideStay_26 : decode mt_St_besideStay.2.1 26 = .ok (.iaload, 1) := by decide +kernel
theorem d_St_besideStay_27 : decode mt_St_besideStay.2.1 27 = .ok (.if_icmp .eq 42, 3) := by decide +kernel
theorem d_St_besideStay_30 : decode mt_St_besideStay.2.1 30 = .ok (.aload_n 0, 1) := by decide +kernel
theorem d_St_besideStay_31 : decode mt_St_besideStay.2.1 31 = .ok (.getfield 15, 3) := by decide +kernel
theorem d_St_besideStay_34 : decode mt_St_besideStay.2.1 34 = .ok (.iload 5, 2) := by decide +kernel
theorem d_St_besideStay_36 : decode mt_St_besideStay.2.1 36 = .ok (.iaload, 1) := by decide +kernel
theorem d_St_besideStay_37 : decode mt_St_besideStay.2.1 37 = .ok (.aload_n 0, 1) := by decide +kernel
theorem d_St_besideStay_38 : decode mt_St_besideStay.2.1 38 = .ok (.getfield 15, 3) := by decide +kernel
theorem d_St_besideStay_41 : decode mt_St_besideStay.2.1 41 = .ok (.iload_n 1, 1) := by decide +kernel
theorem d_St_besideStay_42 : decode mt_St_besideStay.2.1 42 = .ok (.iaload, 1) := by decide +kernel
theorem d_St_besideStay_43 : decode mt_St_besideStay.2.1 43 = .ok (.if_icmp .ne 26, 3) := by decide +kernel
theorem d_St_besideStay_46 : decode mt_St_besideStay.2.1 46 = .ok (.aload_n 0, 1) := by decide +kernel
theorem d_St_besideStay_47 : decode mt_St_besideStay.2.1 47 = .ok (.iload 5, 2) := by decide +kernel
theorem d_St_besideStay_49 : decode mt_St_besideStay.2.1 49 = .ok (.iload_n 1, 1) := by decide +kernel
theorem d_St_besideStay_50 : decode mt_St_besideStay.2.1 50 = .ok (.iload_n 2, 1) := by decide +kernel
theorem d_St_besideStay_51 : decode mt_St_besideStay.2.1 51 = .ok (.invokevirtual 32, 3) := by decide +kernel
theorem d_St_besideStay_54 : decode mt_St_besideStay.2.1 54 = .ok (.ifCond .eq 15, 3) := by decide +kernel
theorem d_St_besideStay_57 : decode mt_St_besideStay.2.1 57 = .ok (.lload_n 3, 1) := by decide +kernel
theorem d_St_besideStay_58 : decode mt_St_besideStay.2.1 58 = .ok (.lconst 1, 1) := by decide +kernel
theorem d_St_besideStay_59 : decode mt_St_besideStay.2.1 59 = .ok (.aload_n 0, 1) := by decide +kernel
theorem d_St_besideStay_60 : decode mt_St_besideStay.2.1 60 = .ok (.getfield 9, 3) := by decide +kernel
theorem d_St_besideStay_63 : decode mt_St_besideStay.2.1 63 = .ok (.iload 5, 2) := by decide +kernel
theorem d_St_besideStay_65 : decode mt_St_besideStay.2.1 65 = .ok (.iaload, 1) := by decide +kernel
theorem d_St_besideStay_66 : decode mt_St_besideStay.2.1 66 = .ok (.lshl, 1) := by decide +kernel
theorem d_St_besideStay_67 : decode mt_St_besideStay.2.1 67 = .ok (.lor, 1) := by decide +kernel
theorem d_St_besideStay_68 : decode mt_St_besideStay.2.1 68 = .ok (.lstore_n 3, 1) := by decide +kernel
theorem d_St_besideStay_69 : decode mt_St_besideStay.2.1 69 = .ok (.iinc 5 1, 3) := by decide +kernel
theorem d_St_besideStay_72 : decode mt_St_besideStay.2.1 72 = .ok (.goto (-67), 3) := by decide +kernel
theorem d_St_besideStay_75 : decode mt_St_besideStay.2.1 75 = .ok (.lload_n 3, 1) := by decide +kernel
theorem d_St_besideStay_76 : decode mt_St_besideStay.2.1 76 = .ok (.lreturn, 1) := by decide +kernel
theorem d_St_shareNight_0 : decode mt_St_shareNight.2.1 0 = .ok (.aload_n 0, 1) := by decide +kernel
theorem d_St_shareNight_1 : decode mt_St_shareNight.2.1 1 = .ok (.getfield 18, 3) := by decide +kernel
theorem d_St_shareNight_4 : decode mt_St_shareNight.2.1 4 = .ok (.iload_n 1, 1) := by decide +kernel
theorem d_St_shareNight_5 : decode mt_St_shareNight.2.1 5 = .ok (.iaload, 1) := by decide +kernel
theorem d_St_shareNight_6 : decode mt_St_shareNight.2.1 6 = .ok (.aload_n 0, 1) := by decide +kernel
theorem d_St_shareNight_7 : decode mt_St_shareNight.2.1 7 = .ok (.getfield 18, 3) := by decide +kernel
theorem d_St_shareNight_10 : decode mt_St_shareNight.2.1 10 = .ok (.iload_n 2, 1) := by decide +kernel
theorem d_St_shareNight_11 : decode mt_St_shareNight.2.1 11 = .ok (.iaload, 1) := by decide +kernel
theorem d_St_shareNight_12 : decode mt_St_shareNight.2.1 12 = .ok (.invokestatic 36, 3) := by decide +kernel
theorem d_St_shareNight_15 : decode mt_St_shareNight.2.1 15 = .ok (.aload_n 0, 1) := by decide +kernel
theorem d_St_shareNight_16 : decode mt_St_shareNight.2.1 16 = .ok (.iload_n 1, 1) := by decide +kernel
theorem d_St_shareNight_17 : decode mt_St_shareNight.2.1 17 = .ok (.iload_n 3, 1) := by decide +kernel
theorem d_St_shareNight_18 : decode mt_St_shareNight.2.1 18 = .ok (.invokevirtual 42, 3) := by decide +kernel
theorem d_St_shareNight_21 : decode mt_St_shareNight.2.1 21 = .ok (.aload_n 0, 1) := by decide +kernel
theorem d_St_shareNight_22 : decode mt_St_shareNight.2.1 22 = .ok (.iload_n 2, 1) := by decide +kernel
theorem d_St_shareNight_23 : decode mt_St_shareNight.2.1 23 = .ok (.iload_n 3, 1) := by decide +kernel
theorem d_St_shareNight_24 : decode mt_St_shareNight.2.1 24 = .ok (.invokevirtual 42, 3) := by decide +kernel
theorem d_St_shareNight_27 : decode mt_St_shareNight.2.1 27 = .ok (.invokestatic 45, 3) := by decide +kernel
theorem d_St_shareNight_30 : decode mt_St_shareNight.2.1 30 = .ok (.if_icmp .ge 7, 3) := by decide +kernel
theorem d_St_shareNight_33 : decode mt_St_shareNight.2.1 33 = .ok (.iconst 1, 1) := by decide +kernel
theorem d_St_shareNight_34 : decode mt_St_shareNight.2.1 34 = .ok (.goto 4, 3) := by decide +kernel
theorem d_St_shareNight_37 : decode mt_St_shareNight.2.1 37 = .ok (.iconst 0, 1) := by decide +kernel
theorem d_St_shareNight_38 : decode mt_St_shareNight.2.1 38 = .ok (.ireturn, 1) := by decide +kernel
theorem d_St_nightsUpTo_0 : decode mt_St_nightsUpTo.2.1 0 = .ok (.aload_n 0, 1) := by decide +kernel
theorem d_St_nightsUpTo_1 : decode mt_St_nightsUpTo.2.1 1 = .ok (.getfield 21, 3) := by decide +kernel
theorem d_St_nightsUpTo_4 : decode mt_St_nightsUpTo.2.1 4 = .ok (.iload_n 1, 1) := by decide +kernel
theorem d_St_nightsUpTo_5 : decode mt_St_nightsUpTo.2.1 5 = .ok (.iaload, 1) := by decide +kernel
theorem d_St_nightsUpTo_6 : decode mt_St_nightsUpTo.2.1 6 = .ok (.iconst (-1), 1) := by decide +kernel
theorem d_St_nightsUpTo_7 : decode mt_St_nightsUpTo.2.1 7 = .ok (.if_icmp .ne 7, 3) := by decide +kernel
theorem d_St_nightsUpTo_10 : decode mt_St_nightsUpTo.2.1 10 = .ok (.iload_n 2, 1) := by decide +kernel
theorem d_St_nightsUpTo_11 : decode mt_St_nightsUpTo.2.1 11 = .ok (.goto 9, 3) := by decide +kernel
theorem d_St_nightsUpTo_14 : decode mt_St_nightsUpTo.2.1 14 = .ok (.aload_n 0, 1) := by decide +kernel
theorem d_St_nightsUpTo_15 : decode mt_St_nightsUpTo.2.1 15 = .ok (.getfield 21, 3) := by decide +kernel
theorem d_St_nightsUpTo_18 : decode mt_St_nightsUpTo.2.1 18 = .ok (.iload_n 1, 1) := by decide +kernel
theorem d_St_nightsUpTo_19 : decode mt_St_nightsUpTo.2.1 19 = .ok (.iaload, 1) := by decide +kernel
theorem d_St_nightsUpTo_20 : decode mt_St_nightsUpTo.2.1 20 = .ok (.ireturn, 1) := by decide +kernel
theorem d_K_reached_0 : decode mt_K_reached.2.1 0 = .ok (.aload_n 0, 1) := by decide +kernel
theorem d_K_reached_1 : decode mt_K_reached.2.1 1 = .ok (.iload_n 1, 1) := by decide +kernel
theorem d_K_reached_2 : decode mt_K_reached.2.1 2 = .ok (.invokevirtual 199, 3) := by decide +kernel
theorem d_K_reached_5 : decode mt_K_reached.2.1 5 = .ok (.ifnonnull 7, 3) := by decide +kernel
theorem d_K_reached_8 : decode mt_K_reached.2.1 8 = .ok (.ldc2_w 263, 3) := by decide +kernel
theorem d_K_reached_11 : decode mt_K_reached.2.1 11 = .ok (.lreturn, 1) := by decide +kernel
theorem d_K_reached_12 : decode mt_K_reached.2.1 12 = .ok (.aload_n 0, 1) := by decide +kernel
theorem d_K_reached_13 : decode mt_K_reached.2.1 13 = .ok (.iload_n 1, 1) := by decide +kernel
theorem d_K_reached_14 : decode mt_K_reached.2.1 14 = .ok (.invokevirtual 265, 3) := by decide +kernel
theorem d_K_reached_17 : decode mt_K_reached.2.1 17 = .ok (.lstore_n 2, 1) := by decide +kernel
theorem d_K_reached_18 : decode mt_K_reached.2.1 18 = .ok (.lload_n 2, 1) := by decide +kernel
theorem d_K_reached_19 : decode mt_K_reached.2.1 19 = .ok (.aload_n 0, 1) := by decide +kernel
theorem d_K_reached_20 : decode mt_K_reached.2.1 20 = .ok (.getfield 38, 3) := by decide +kernel
theorem d_K_reached_23 : decode mt_K_reached.2.1 23 = .ok (.lload_n 2, 1) := by decide +kernel
theorem d_K_reached_24 : decode mt_K_reached.2.1 24 = .ok (.aload_n 0, 1) := by decide +kernel
theorem d_K_reached_25 : decode mt_K_reached.2.1 25 = .ok (.getfield 132, 3) := by decide +kernel
theorem d_K_reached_28 : decode mt_K_reached.2.1 28 = .ok (.invokevirtual 259, 3) := by decide +kernel
theorem d_K_reached_31 : decode mt_K_reached.2.1 31 = .ok (.lor, 1) := by decide +kernel
theorem d_K_reached_32 : decode mt_K_reached.2.1 32 = .ok (.lreturn, 1) := by decide +kernel
theorem d_K_wheelsFrom_0 : decode mt_K_wheelsFrom.2.1 0 = .ok (.lconst 0, 1) := by decide +kernel
theorem d_K_wheelsFrom_1 : decode mt_K_wheelsFrom.2.1 1 = .ok (.lstore_n 2, 1) := by decide +kernel
theorem d_K_wheelsFrom_2 : decode mt_K_wheelsFrom.2.1 2 = .ok (.iconst 0, 1) := by decide +kernel
theorem d_K_wheelsFrom_3 : decode mt_K_wheelsFrom.2.1 3 = .ok (.istore 4, 2) := by decide +kernel
theorem d_K_wheelsFrom_5 : decode mt_K_wheelsFrom.2.1 5 = .ok (.iload 4, 2) := by decide +kernel
theorem d_K_wheelsFrom_7 : decode mt_K_wheelsFrom.2.1 7 = .ok (.aload_n 0, 1) := by decide +kernel
theorem d_K_wheelsFrom_8 : decode mt_K_wheelsFrom.2.1 8 = .ok (.getfield 115, 3) := by decide +kernel
theorem d_K_wheelsFrom_11 : decode mt_K_wheelsFrom.2.1 11 = .ok (.if_icmp .ge 41, 3) := by decide +kernel
theorem d_K_wheelsFrom_14 : decode mt_K_wheelsFrom.2.1 14 = .ok (.aload_n 0, 1) := by decide +kernel
theorem d_K_wheelsFrom_15 : decode mt_K_wheelsFrom.2.1 15 = .ok (.iload 4, 2) := by decide +kernel
theorem d_K_wheelsFrom_17 : decode mt_K_wheelsFrom.2.1 17 = .ok (.invokevirtual 173, 3) := by decide +kernel
theorem d_K_wheelsFrom_20 : decode mt_K_wheelsFrom.2.1 20 = .ok (.astore 5, 2) := by decide +kernel
theorem d_K_wheelsFrom_22 : decode mt_K_wheelsFrom.2.1 22 = .ok (.aload 5, 2) := by decide +kernel
theorem d_K_wheelsFrom_24 : decode mt_K_wheelsFrom.2.1 24 = .ok (.ifnull 22, 3) := by decide +kernel
theorem d_K_wheelsFrom_27 : decode mt_K_wheelsFrom.2.1 27 = .ok (.aload 5, 2) := by decide +kernel
theorem d_K_wheelsFrom_29 : decode mt_K_wheelsFrom.2.1 29 = .ok (.getfield 286, 3) := by decide +kernel
theorem d_K_wheelsFrom_32 : decode mt_K_wheelsFrom.2.1 32 = .ok (.iload_n 1, 1) := by decide +kernel
theorem d_K_wheelsFrom_33 : decode mt_K_wheelsFrom.2.1 33 = .ok (.iushr, 1) := by decide +kernel
theorem d_K_wheelsFrom_34 : decode mt_K_wheelsFrom.2.1 34 = .ok (.iconst 1, 1) := by decide +kernel
theorem d_K_wheelsFrom_35 : decode mt_K_wheelsFrom.2.1 35 = .ok (.iand, 1) := by decide +kernel
theorem d_K_wheelsFrom_36 : decode mt_K_wheelsFrom.2.1 36 = .ok (.ifCond .eq 10, 3) := by decide +kernel
theorem d_K_wheelsFrom_39 : decode mt_K_wheelsFrom.2.1 39 = .ok (.lload_n 2, 1) := by decide +kernel
theorem d_K_wheelsFrom_40 : decode mt_K_wheelsFrom.2.1 40 = .ok (.lconst 1, 1) := by decide +kernel
theorem d_K_wheelsFrom_41 : decode mt_K_wheelsFrom.2.1 41 = .ok (.iload 4, 2) := by decide +kernel
theorem d_K_wheelsFrom_43 : decode mt_K_wheelsFrom.2.1 43 = .ok (.lshl, 1) := by decide +kernel
theorem d_K_wheelsFrom_44 : decode mt_K_wheelsFrom.2.1 44 = .ok (.lor, 1) := by decide +kernel
theorem d_K_wheelsFrom_45 : decode mt_K_wheelsFrom.2.1 45 = .ok (.lstore_n 2, 1) := by decide +kernel
theorem d_K_wheelsFrom_46 : decode mt_K_wheelsFrom.2.1 46 = .ok (.iinc 4 1, 3) := by decide +kernel
theorem d_K_wheelsFrom_49 : decode mt_K_wheelsFrom.2.1 49 = .ok (.goto (-44), 3) := by decide +kernel
theorem d_K_wheelsFrom_52 : decode mt_K_wheelsFrom.2.1 52 = .ok (.lload_n 2, 1) := by decide +kernel
theorem d_K_wheelsFrom_53 : decode mt_K_wheelsFrom.2.1 53 = .ok (.lreturn, 1) := by decide +kernel
theorem d_K_about_0 : decode mt_K_about.2.1 0 = .ok (.iload_n 1, 1) := by decide +kernel
theorem d_K_about_1 : decode mt_K_about.2.1 1 = .ok (.tableswitch 90 0 6 #[43, 48, 53, 58, 66, 74, 82], 43) := by decide +kernel
theorem d_K_about_44 : decode mt_K_about.2.1 44 = .ok (.aload_n 0, 1) := by decide +kernel
theorem d_K_about_45 : decode mt_K_about.2.1 45 = .ok (.getfield 132, 3) := by decide +kernel
theorem d_K_about_48 : decode mt_K_about.2.1 48 = .ok (.ireturn, 1) := by decide +kernel
theorem d_K_about_49 : decode mt_K_about.2.1 49 = .ok (.aload_n 0, 1) := by decide +kernel
theorem d_K_about_50 : decode mt_K_about.2.1 50 = .ok (.getfield 100, 3) := by decide +kernel
theorem d_K_about_53 : decode mt_K_about.2.1 53 = .ok (.ireturn, 1) := by decide +kernel
theorem d_K_about_54 : decode mt_K_about.2.1 54 = .ok (.aload_n 0, 1) := by decide +kernel
theorem d_K_about_55 : decode mt_K_about.2.1 55 = .ok (.getfield 115, 3) := by decide +kernel
theorem d_K_about_58 : decode mt_K_about.2.1 58 = .ok (.ireturn, 1) := by decide +kernel
theorem d_K_about_59 : decode mt_K_about.2.1 59 = .ok (.aload_n 0, 1) := by decide +kernel
theorem d_K_about_60 : decode mt_K_about.2.1 60 = .ok (.getfield 80, 3) := by decide +kernel
theorem d_K_about_63 : decode mt_K_about.2.1 63 = .ok (.getfield 155, 3) := by decide +kernel
theorem d_K_about_66 : decode mt_K_about.2.1 66 = .ok (.ireturn, 1) := by decide +kernel
theorem d_K_about_67 : decode mt_K_about.2.1 67 = .ok (.aload_n 0, 1) := by decide +kernel
theorem d_K_about_68 : decode mt_K_about.2.1 68 = .ok (.getfield 45, 3) := by decide +kernel
theorem d_K_about_71 : decode mt_K_about.2.1 71 = .ok (.getfield 269, 3) := by decide +kernel
theorem d_K_about_74 : decode mt_K_about.2.1 74 = .ok (.ireturn, 1) := by decide +kernel
theorem d_K_about_75 : decode mt_K_about.2.1 75 = .ok (.aload_n 0, 1) := by decide +kernel
theorem d_K_about_76 : decode mt_K_about.2.1 76 = .ok (.getfield 38, 3) := by decide +kernel
theorem d_K_about_79 : decode mt_K_about.2.1 79 = .ok (.getfield 272, 3) := by decide +kernel
theorem d_K_about_82 : decode mt_K_about.2.1 82 = .ok (.ireturn, 1) := by decide +kernel
theorem d_K_about_83 : decode mt_K_about.2.1 83 = .ok (.aload_n 0, 1) := by decide +kernel
theorem d_K_about_84 : decode mt_K_about.2.1 84 = .ok (.getfield 59, 3) := by decide +kernel
theorem d_K_about_87 : decode mt_K_about.2.1 87 = .ok (.getfield 145, 3) := by decide +kernel
theorem d_K_about_90 : decode mt_K_about.2.1 90 = .ok (.ireturn, 1) := by decide +kernel
theorem d_K_about_91 : decode mt_K_about.2.1 91 = .ok (.iconst (-1), 1) := by decide +kernel
theorem d_K_about_92 : decode mt_K_about.2.1 92 = .ok (.ireturn, 1) := by decide +kernel
theorem d_Mo_init_0 : decode mt_Mo_init.2.1 0 = .ok (.aload_n 0, 1) := by decide +kernel
theorem d_Mo_init_1 : decode mt_Mo_init.2.1 1 = .ok (.invokespecial 1, 3) := by decide +kernel
theorem d_Mo_init_4 : decode mt_Mo_init.2.1 4 = .ok (.aload_n 0, 1) := by decide +kernel
theorem d_Mo_init_5 : decode mt_Mo_init.2.1 5 = .ok (.bipush 24, 2) := by decide +kernel
theorem d_Mo_init_7 : decode mt_Mo_init.2.1 7 = .ok (.newarray .int, 2) := by decide +kernel
theorem d_Mo_init_9 : decode mt_Mo_init.2.1 9 = .ok (.putfield 7, 3) := by decide +kernel
theorem d_Mo_init_12 : decode mt_Mo_init.2.1 12 = .ok (.aload_n 0, 1) := by decide +kernel
theorem d_Mo_init_13 : decode mt_Mo_init.2.1 13 = .ok (.iconst 4, 1) := by decide +kernel
theorem d_Mo_init_14 : decode mt_Mo_init.2.1 14 = .ok (.newarray .int, 2) := by decide +kernel
theorem d_Mo_init_16 : decode mt_Mo_init.2.1 16 = .ok (.putfield 13, 3) := by decide +kernel
theorem d_Mo_init_19 : decode mt_Mo_init.2.1 19 = .ok (.aload_n 0, 1) := by decide +kernel
theorem d_Mo_init_20 : decode mt_Mo_init.2.1 20 = .ok (.bipush 30, 2) := by decide +kernel
theorem d_Mo_init_22 : decode mt_Mo_init.2.1 22 = .ok (.newarray .int, 2) := by decide +kernel
theorem d_Mo_init_24 : decode mt_Mo_init.2.1 24 = .ok (.putfield 16, 3) := by decide +kernel
theorem d_Mo_init_27 : decode mt_Mo_init.2.1 27 = .ok (.aload_n 0, 1) := by decide +kernel
theorem d_Mo_init_28 : decode mt_Mo_init.2.1 28 = .ok (.bipush 30, 2) := by decide +kernel
theorem d_Mo_init_30 : decode mt_Mo_init.2.1 30 = .ok (.newarray .int, 2) := by decide +kernel
theorem d_Mo_init_32 : decode mt_Mo_init.2.1 32 = .ok (.putfield 19, 3) := by decide +kernel
theorem d_Mo_init_35 : decode mt_Mo_init.2.1 35 = .ok (.aload_n 0, 1) := by decide +kernel
theorem d_Mo_init_36 : decode mt_Mo_init.2.1 36 = .ok (.bipush 30, 2) := by decide +kernel
theorem d_Mo_init_38 : decode mt_Mo_init.2.1 38 = .ok (.newarray .int, 2) := by decide +kernel
theorem d_Mo_init_40 : decode mt_Mo_init.2.1 40 = .ok (.putfield 22, 3) := by decide +kernel
theorem d_Mo_init_43 : decode mt_Mo_init.2.1 43 = .ok (.aload_n 0, 1) := by decide +kernel
theorem d_Mo_init_44 : decode mt_Mo_init.2.1 44 = .ok (.bipush 40, 2) := by decide +kernel
theorem d_Mo_init_46 : decode mt_Mo_init.2.1 46 = .ok (.newarray .int, 2) := by decide +kernel
theorem d_Mo_init_48 : decode mt_Mo_init.2.1 48 = .ok (.putfield 25, 3) := by decide +kernel
theorem d_Mo_init_51 : decode mt_Mo_init.2.1 51 = .ok (.aload_n 0, 1) := by decide +kernel
theorem d_Mo_init_52 : decode mt_Mo_init.2.1 52 = .ok (.bipush 40, 2) := by decide +kernel
theorem d_Mo_init_54 : decode mt_Mo_init.2.1 54 = .ok (.newarray .int, 2) := by decide +kernel
theorem d_Mo_init_56 : decode mt_Mo_init.2.1 56 = .ok (.putfield 28, 3) := by decide +kernel
theorem d_Mo_init_59 : decode mt_Mo_init.2.1 59 = .ok (.aload_n 0, 1) := by decide +kernel
theorem d_Mo_init_60 : decode mt_Mo_init.2.1 60 = .ok (.bipush 40, 2) := by decide +kernel
theorem d_Mo_init_62 : decode mt_Mo_init.2.1 62 = .ok (.newarray .int, 2) := by decide +kernel
theorem d_Mo_init_64 : decode mt_Mo_init.2.1 64 = .ok (.putfield 31, 3) := by decide +kernel
theorem d_Mo_init_67 : decode mt_Mo_init.2.1 67 = .ok (.aload_n 0, 1) := by decide +kernel
theorem d_Mo_init_68 : decode mt_Mo_init.2.1 68 = .ok (.bipush 40, 2) := by decide +kernel
theorem d_Mo_init_70 : decode mt_Mo_init.2.1 70 = .ok (.newarray .int, 2) := by decide +kernel
theorem d_Mo_init_72 : decode mt_Mo_init.2.1 72 = .ok (.putfield 34, 3) := by decide +kernel
theorem d_Mo_init_75 : decode mt_Mo_init.2.1 75 = .ok (.aload_n 0, 1) := by decide +kernel
theorem d_Mo_init_76 : decode mt_Mo_init.2.1 76 = .ok (.bipush 40, 2) := by decide +kernel
theorem d_Mo_init_78 : decode mt_Mo_init.2.1 78 = .ok (.newarray .int, 2) := by decide +kernel
theorem d_Mo_init_80 : decode mt_Mo_init.2.1 80 = .ok (.putfield 37, 3) := by decide +kernel
theorem d_Mo_init_83 : decode mt_Mo_init.2.1 83 = .ok (.aload_n 0, 1) := by decide +kernel
theorem d_Mo_init_84 : decode mt_Mo_init.2.1 84 = .ok (.bipush 40, 2) := by decide +kernel
theorem d_Mo_init_86 : decode mt_Mo_init.2.1 86 = .ok (.newarray .int, 2) := by decide +kernel
theorem d_Mo_init_88 : decode mt_Mo_init.2.1 88 = .ok (.putfield 40, 3) := by decide +kernel
theorem d_Mo_init_91 : decode mt_Mo_init.2.1 91 = .ok (.aload_n 0, 1) := by decide +kernel
theorem d_Mo_init_92 : decode mt_Mo_init.2.1 92 = .ok (.bipush 40, 2) := by decide +kernel
theorem d_Mo_init_94 : decode mt_Mo_init.2.1 94 = .ok (.newarray .int, 2) := by decide +kernel
theorem d_Mo_init_96 : decode mt_Mo_init.2.1 96 = .ok (.putfield 43, 3) := by decide +kernel
theorem d_Mo_init_99 : decode mt_Mo_init.2.1 99 = .ok (.aload_n 0, 1) := by decide +kernel
theorem d_Mo_init_100 : decode mt_Mo_init.2.1 100 = .ok (.bipush 40, 2) := by decide +kernel
theorem d_Mo_init_102 : decode mt_Mo_init.2.1 102 = .ok (.newarray .int, 2) := by decide +kernel
theorem d_Mo_init_104 : decode mt_Mo_init.2.1 104 = .ok (.putfield 46, 3) := by decide +kernel
theorem d_Mo_init_107 : decode mt_Mo_init.2.1 107 = .ok (.aload_n 0, 1) := by decide +kernel
theorem d_Mo_init_108 : decode mt_Mo_init.2.1 108 = .ok (.sipush 1200, 3) := by decide +kernel
theorem d_Mo_init_111 : decode mt_Mo_init.2.1 111 = .ok (.newarray .boolean, 2) := by decide +kernel
theorem d_Mo_init_113 : decode mt_Mo_init.2.1 113 = .ok (.putfield 49, 3) := by decide +kernel
theorem d_Mo_init_116 : decode mt_Mo_init.2.1 116 = .ok (.aload_n 0, 1) := by decide +kernel
theorem d_Mo_init_117 : decode mt_Mo_init.2.1 117 = .ok (.sipush 200, 3) := by decide +kernel
theorem d_Mo_init_120 : decode mt_Mo_init.2.1 120 = .ok (.newarray .int, 2) := by decide +kernel
theorem d_Mo_init_122 : decode mt_Mo_init.2.1 122 = .ok (.putfield 53, 3) := by decide +kernel
theorem d_Mo_init_125 : decode mt_Mo_init.2.1 125 = .ok (.aload_n 0, 1) := by decide +kernel
theorem d_Mo_init_126 : decode mt_Mo_init.2.1 126 = .ok (.sipush 200, 3) := by decide +kernel
theorem d_Mo_init_129 : decode mt_Mo_init.2.1 129 = .ok (.newarray .int, 2) := by decide +kernel
theorem d_Mo_init_131 : decode mt_Mo_init.2.1 131 = .ok (.putfield 56, 3) := by decide +kernel
theorem d_Mo_init_134 : decode mt_Mo_init.2.1 134 = .ok (.aload_n 0, 1) := by decide +kernel
theorem d_Mo_init_135 : decode mt_Mo_init.2.1 135 = .ok (.sipush 200, 3) := by decide +kernel
theorem d_Mo_init_138 : decode mt_Mo_init.2.1 138 = .ok (.newarray .int, 2) := by decide +kernel
theorem d_Mo_init_140 : decode mt_Mo_init.2.1 140 = .ok (.putfield 59, 3) := by decide +kernel
theorem d_Mo_init_143 : decode mt_Mo_init.2.1 143 = .ok (.aload_n 0, 1) := by decide +kernel
theorem d_Mo_init_144 : decode mt_Mo_init.2.1 144 = .ok (.sipush 200, 3) := by decide +kernel
theorem d_Mo_init_147 : decode mt_Mo_init.2.1 147 = .ok (.newarray .int, 2) := by decide +kernel
theorem d_Mo_init_149 : decode mt_Mo_init.2.1 149 = .ok (.putfield 62, 3) := by decide +kernel
theorem d_Mo_init_152 : decode mt_Mo_init.2.1 152 = .ok (.aload_n 0, 1) := by decide +kernel
theorem d_Mo_init_153 : decode mt_Mo_init.2.1 153 = .ok (.sipush 500, 3) := by decide +kernel
theorem d_Mo_init_156 : decode mt_Mo_init.2.1 156 = .ok (.newarray .int, 2) := by decide +kernel
theorem d_Mo_init_158 : decode mt_Mo_init.2.1 158 = .ok (.putfield 65, 3) := by decide +kernel
theorem d_Mo_init_161 : decode mt_Mo_init.2.1 161 = .ok (.aload_n 0, 1) := by decide +kernel
theorem d_Mo_init_162 : decode mt_Mo_init.2.1 162 = .ok (.sipush 500, 3) := by decide +kernel
theorem d_Mo_init_165 : decode mt_Mo_init.2.1 165 = .ok (.newarray .int, 2) := by decide +kernel
theorem d_Mo_init_167 : decode mt_Mo_init.2.1 167 = .ok (.putfield 68, 3) := by decide +kernel
theorem d_Mo_init_170 : decode mt_Mo_init.2.1 170 = .ok (.aload_n 0, 1) := by decide +kernel
theorem d_Mo_init_171 : decode mt_Mo_init.2.1 171 = .ok (.bipush 10, 2) := by decide +kernel
theorem d_Mo_init_173 : decode mt_Mo_init.2.1 173 = .ok (.newarray .int, 2) := by decide +kernel
theorem d_Mo_init_175 : decode mt_Mo_init.2.1 175 = .ok (.putfield 71, 3) := by decide +kernel
theorem d_Mo_init_178 : decode mt_Mo_init.2.1 178 = .ok (.aload_n 0, 1) := by decide +kernel
theorem d_Mo_init_179 : decode mt_Mo_init.2.1 179 = .ok (.bipush 8, 2) := by decide +kernel
theorem d_Mo_init_181 : decode mt_Mo_init.2.1 181 = .ok (.newarray .int, 2) := by decide +kernel
theorem d_Mo_init_183 : decode mt_Mo_init.2.1 183 = .ok (.putfield 74, 3) := by decide +kernel
theorem d_Mo_init_186 : decode mt_Mo_init.2.1 186 = .ok (.aload_n 0, 1) := by decide +kernel
theorem d_Mo_init_187 : decode mt_Mo_init.2.1 187 = .ok (.sipush 500, 3) := by decide +kernel
theorem d_Mo_init_190 : decode mt_Mo_init.2.1 190 = .ok (.newarray .int, 2) := by decide +kernel
theorem d_Mo_init_192 : decode mt_Mo_init.2.1 192 = .ok (.putfield 77, 3) := by decide +kernel
theorem d_Mo_init_195 : decode mt_Mo_init.2.1 195 = .ok (.aload_n 0, 1) := by decide +kernel
theorem d_Mo_init_196 : decode mt_Mo_init.2.1 196 = .ok (.sipush 500, 3) := by decide +kernel
theorem d_Mo_init_199 : decode mt_Mo_init.2.1 199 = .ok (.newarray .int, 2) := by decide +kernel
theorem d_Mo_init_201 : decode mt_Mo_init.2.1 201 = .ok (.putfield 80, 3) := by decide +kernel
theorem d_Mo_init_204 : decode mt_Mo_init.2.1 204 = .ok (.aload_n 0, 1) := by decide +kernel
theorem d_Mo_init_205 : decode mt_Mo_init.2.1 205 = .ok (.bipush 10, 2) := by decide +kernel
theorem d_Mo_init_207 : decode mt_Mo_init.2.1 207 = .ok (.newarray .int, 2) := by decide +kernel
theorem d_Mo_init_209 : decode mt_Mo_init.2.1 209 = .ok (.putfield 83, 3) := by decide +kernel
theorem d_Mo_init_212 : decode mt_Mo_init.2.1 212 = .ok (.aload_n 0, 1) := by decide +kernel
theorem d_Mo_init_213 : decode mt_Mo_init.2.1 213 = .ok (.bipush 8, 2) := by decide +kernel
theorem d_Mo_init_215 : decode mt_Mo_init.2.1 215 = .ok (.newarray .int, 2) := by decide +kernel
theorem d_Mo_init_217 : decode mt_Mo_init.2.1 217 = .ok (.putfield 86, 3) := by decide +kernel
theorem d_Mo_init_220 : decode mt_Mo_init.2.1 220 = .ok (.aload_n 0, 1) := by decide +kernel
theorem d_Mo_init_221 : decode mt_Mo_init.2.1 221 = .ok (.sipush 500, 3) := by decide +kernel
theorem d_Mo_init_224 : decode mt_Mo_init.2.1 224 = .ok (.newarray .int, 2) := by decide +kernel
theorem d_Mo_init_226 : decode mt_Mo_init.2.1 226 = .ok (.putfield 89, 3) := by decide +kernel
theorem d_Mo_init_229 : decode mt_Mo_init.2.1 229 = .ok (.aload_n 0, 1) := by decide +kernel
theorem d_Mo_init_230 : decode mt_Mo_init.2.1 230 = .ok (.iconst (-1), 1) := by decide +kernel
theorem d_Mo_init_231 : decode mt_Mo_init.2.1 231 = .ok (.putfield 92, 3) := by decide +kernel
theorem d_Mo_init_234 : decode mt_Mo_init.2.1 234 = .ok (.aload_n 0, 1) := by decide +kernel
theorem d_Mo_init_235 : decode mt_Mo_init.2.1 235 = .ok (.sipush 400, 3) := by decide +kernel
theorem d_Mo_init_238 : decode mt_Mo_init.2.1 238 = .ok (.newarray .int, 2) := by decide +kernel
theorem d_Mo_init_240 : decode mt_Mo_init.2.1 240 = .ok (.putfield 96, 3) := by decide +kernel
theorem d_Mo_init_243 : decode mt_Mo_init.2.1 243 = .ok (.aload_n 0, 1) := by decide +kernel
theorem d_Mo_init_244 : decode mt_Mo_init.2.1 244 = .ok (.sipush 300, 3) := by decide +kernel
theorem d_Mo_init_247 : decode mt_Mo_init.2.1 247 = .ok (.newarray .int, 2) := by decide +kernel
theorem d_Mo_init_249 : decode mt_Mo_init.2.1 249 = .ok (.putfield 99, 3) := by decide +kernel
theorem d_Mo_init_252 : decode mt_Mo_init.2.1 252 = .ok (.aload_n 0, 1) := by decide +kernel
theorem d_Mo_init_253 : decode mt_Mo_init.2.1 253 = .ok (.bipush 10, 2) := by decide +kernel
theorem d_Mo_init_255 : decode mt_Mo_init.2.1 255 = .ok (.newarray .int, 2) := by decide +kernel
theorem d_Mo_init_257 : decode mt_Mo_init.2.1 257 = .ok (.putfield 102, 3) := by decide +kernel
theorem d_Mo_init_260 : decode mt_Mo_init.2.1 260 = .ok (.aload_n 0, 1) := by decide +kernel
theorem d_Mo_init_261 : decode mt_Mo_init.2.1 261 = .ok (.iconst 3, 1) := by decide +kernel
theorem d_Mo_init_262 : decode mt_Mo_init.2.1 262 = .ok (.newarray .int, 2) := by decide +kernel
theorem d_Mo_init_264 : decode mt_Mo_init.2.1 264 = .ok (.putfield 105, 3) := by decide +kernel
theorem d_Mo_init_267 : decode mt_Mo_init.2.1 267 = .ok (.aload_n 0, 1) := by decide +kernel
theorem d_Mo_init_268 : decode mt_Mo_init.2.1 268 = .ok (.bipush 12, 2) := by decide +kernel
theorem d_Mo_init_270 : decode mt_Mo_init.2.1 270 = .ok (.newarray .int, 2) := by decide +kernel
theorem d_Mo_init_272 : decode mt_Mo_init.2.1 272 = .ok (.putfield 108, 3) := by decide +kernel
theorem d_Mo_init_275 : decode mt_Mo_init.2.1 275 = .ok (.aload_n 0, 1) := by decide +kernel
theorem d_Mo_init_276 : decode mt_Mo_init.2.1 276 = .ok (.bipush 12, 2) := by decide +kernel
theorem d_Mo_init_278 : decode mt_Mo_init.2.1 278 = .ok (.newarray .int, 2) := by decide +kernel
theorem d_Mo_init_280 : decode mt_Mo_init.2.1 280 = .ok (.putfield 111, 3) := by decide +kernel
theorem d_Mo_init_283 : decode mt_Mo_init.2.1 283 = .ok (.aload_n 0, 1) := by decide +kernel
theorem d_Mo_init_284 : decode mt_Mo_init.2.1 284 = .ok (.bipush 12, 2) := by decide +kernel
theorem d_Mo_init_286 : decode mt_Mo_init.2.1 286 = .ok (.newarray .int, 2) := by decide +kernel
theorem d_Mo_init_288 : decode mt_Mo_init.2.1 288 = .ok (.putfield 114, 3) := by decide +kernel
theorem d_Mo_init_291 : decode mt_Mo_init.2.1 291 = .ok (.aload_n 0, 1) := by decide +kernel
theorem d_Mo_init_292 : decode mt_Mo_init.2.1 292 = .ok (.bipush 10, 2) := by decide +kernel
theorem d_Mo_init_294 : decode mt_Mo_init.2.1 294 = .ok (.newarray .int, 2) := by decide +kernel
theorem d_Mo_init_296 : decode mt_Mo_init.2.1 296 = .ok (.putfield 117, 3) := by decide +kernel
theorem d_Mo_init_299 : decode mt_Mo_init.2.1 299 = .ok (.aload_n 0, 1) := by decide +kernel
theorem d_Mo_init_300 : decode mt_Mo_init.2.1 300 = .ok (.bipush 10, 2) := by decide +kernel
theorem d_Mo_init_302 : decode mt_Mo_init.2.1 302 = .ok (.newarray .int, 2) := by decide +kernel
theorem d_Mo_init_304 : decode mt_Mo_init.2.1 304 = .ok (.putfield 120, 3) := by decide +kernel
theorem d_Mo_init_307 : decode mt_Mo_init.2.1 307 = .ok (.aload_n 0, 1) := by decide +kernel
theorem d_Mo_init_308 : decode mt_Mo_init.2.1 308 = .ok (.bipush 10, 2) := by decide +kernel
theorem d_Mo_init_310 : decode mt_Mo_init.2.1 310 = .ok (.newarray .int, 2) := by decide +kernel
theorem d_Mo_init_312 : decode mt_Mo_init.2.1 312 = .ok (.putfield 123, 3) := by decide +kernel
theorem d_Mo_init_315 : decode mt_Mo_init.2.1 315 = .ok (.aload_n 0, 1) := by decide +kernel
theorem d_Mo_init_316 : decode mt_Mo_init.2.1 316 = .ok (.sipush 25600, 3) := by decide +kernel
theorem d_Mo_init_319 : decode mt_Mo_init.2.1 319 = .ok (.newarray .int, 2) := by decide +kernel
theorem d_Mo_init_321 : decode mt_Mo_init.2.1 321 = .ok (.putfield 126, 3) := by decide +kernel
theorem d_Mo_init_324 : decode mt_Mo_init.2.1 324 = .ok (.aload_n 0, 1) := by decide +kernel
theorem d_Mo_init_325 : decode mt_Mo_init.2.1 325 = .ok (.sipush 25600, 3) := by decide +kernel
theorem d_Mo_init_328 : decode mt_Mo_init.2.1 328 = .ok (.newarray .long, 2) := by decide +kernel
theorem d_Mo_init_330 : decode mt_Mo_init.2.1 330 = .ok (.putfield 129, 3) := by decide +kernel
theorem d_Mo_init_333 : decode mt_Mo_init.2.1 333 = .ok (.aload_n 0, 1) := by decide +kernel
theorem d_Mo_init_334 : decode mt_Mo_init.2.1 334 = .ok (.sipush 240, 3) := by decide +kernel
theorem d_Mo_init_337 : decode mt_Mo_init.2.1 337 = .ok (.newarray .long, 2) := by decide +kernel
theorem d_Mo_init_339 : decode mt_Mo_init.2.1 339 = .ok (.putfield 133, 3) := by decide +kernel
theorem d_Mo_init_342 : decode mt_Mo_init.2.1 342 = .ok (.aload_n 0, 1) := by decide +kernel
theorem d_Mo_init_343 : decode mt_Mo_init.2.1 343 = .ok (.bipush 100, 2) := by decide +kernel
theorem d_Mo_init_345 : decode mt_Mo_init.2.1 345 = .ok (.newarray .int, 2) := by decide +kernel
theorem d_Mo_init_347 : decode mt_Mo_init.2.1 347 = .ok (.putfield 136, 3) := by decide +kernel
theorem d_Mo_init_350 : decode mt_Mo_init.2.1 350 = .ok (.aload_n 0, 1) := by decide +kernel
theorem d_Mo_init_351 : decode mt_Mo_init.2.1 351 = .ok (.bipush 100, 2) := by decide +kernel
theorem d_Mo_init_353 : decode mt_Mo_init.2.1 353 = .ok (.newarray .int, 2) := by decide +kernel
theorem d_Mo_init_355 : decode mt_Mo_init.2.1 355 = .ok (.putfield 139, 3) := by decide +kernel
theorem d_Mo_init_358 : decode mt_Mo_init.2.1 358 = .ok (.aload_n 0, 1) := by decide +kernel
theorem d_Mo_init_359 : decode mt_Mo_init.2.1 359 = .ok (.bipush 100, 2) := by decide +kernel
theorem d_Mo_init_361 : decode mt_Mo_init.2.1 361 = .ok (.newarray .int, 2) := by decide +kernel
theorem d_Mo_init_363 : decode mt_Mo_init.2.1 363 = .ok (.putfield 142, 3) := by decide +kernel
theorem d_Mo_init_366 : decode mt_Mo_init.2.1 366 = .ok (.aload_n 0, 1) := by decide +kernel
theorem d_Mo_init_367 : decode mt_Mo_init.2.1 367 = .ok (.bipush 100, 2) := by decide +kernel
theorem d_Mo_init_369 : decode mt_Mo_init.2.1 369 = .ok (.newarray .int, 2) := by decide +kernel
theorem d_Mo_init_371 : decode mt_Mo_init.2.1 371 = .ok (.putfield 145, 3) := by decide +kernel
theorem d_Mo_init_374 : decode mt_Mo_init.2.1 374 = .ok (.aload_n 0, 1) := by decide +kernel
theorem d_Mo_init_375 : decode mt_Mo_init.2.1 375 = .ok (.bipush 100, 2) := by decide +kernel
theorem d_Mo_init_377 : decode mt_Mo_init.2.1 377 = .ok (.newarray .int, 2) := by decide +kernel
theorem d_Mo_init_379 : decode mt_Mo_init.2.1 379 = .ok (.putfield 148, 3) := by decide +kernel
theorem d_Mo_init_382 : decode mt_Mo_init.2.1 382 = .ok (.aload_n 0, 1) := by decide +kernel
theorem d_Mo_init_383 : decode mt_Mo_init.2.1 383 = .ok (.iconst 5, 1) := by decide +kernel
theorem d_Mo_init_384 : decode mt_Mo_init.2.1 384 = .ok (.newarray .int, 2) := by decide +kernel
theorem d_Mo_init_386 : decode mt_Mo_init.2.1 386 = .ok (.putfield 151, 3) := by decide +kernel
theorem d_Mo_init_389 : decode mt_Mo_init.2.1 389 = .ok (.return_, 1) := by decide +kernel
theorem d_Mo_air_0 : decode mt_Mo_air.2.1 0 = .ok (.iload_n 1, 1) := by decide +kernel
theorem d_Mo_air_1 : decode mt_Mo_air.2.1 1 = .ok (.invokestatic 154, 3) := by decide +kernel
theorem d_Mo_air_4 : decode mt_Mo_air.2.1 4 = .ok (.ifCond .eq 13, 3) := by decide +kernel
theorem d_Mo_air_7 : decode mt_Mo_air.2.1 7 = .ok (.iload_n 2, 1) := by decide +kernel
theorem d_Mo_air_8 : decode mt_Mo_air.2.1 8 = .ok (.ifCond .lt 9, 3) := by decide +kernel
theorem d_Mo_air_11 : decode mt_Mo_air.2.1 11 = .ok (.iload_n 2, 1) := by decide +kernel
theorem d_Mo_air_12 : decode mt_Mo_air.2.1 12 = .ok (.bipush 9, 2) := by decide +kernel
theorem d_Mo_air_14 : decode mt_Mo_air.2.1 14 = .ok (.if_icmp .le 5, 3) := by decide +kernel
theorem d_Mo_air_17 : decode mt_Mo_air.2.1 17 = .ok (.iconst 0, 1) := by decide +kernel
theorem d_Mo_air_18 : decode mt_Mo_air.2.1 18 = .ok (.ireturn, 1) := by decide +kernel
theorem d_Mo_air_19 : decode mt_Mo_air.2.1 19 = .ok (.aload_n 0, 1) := by decide +kernel
theorem d_Mo_air_20 : decode mt_Mo_air.2.1 20 = .ok (.getfield 7, 3) := by decide +kernel
theorem d_Mo_air_23 : decode mt_Mo_air.2.1 23 = .ok (.iload_n 1, 1) := by decide +kernel
theorem d_Mo_air_24 : decode mt_Mo_air.2.1 24 = .ok (.iload_n 2, 1) := by decide +kernel
theorem d_Mo_air_25 : decode mt_Mo_air.2.1 25 = .ok (.iastore, 1) := by decide +kernel
theorem d_Mo_air_26 : decode mt_Mo_air.2.1 26 = .ok (.aload_n 0, 1) := by decide +kernel
theorem d_Mo_air_27 : decode mt_Mo_air.2.1 27 = .ok (.iconst 0, 1) := by decide +kernel
theorem d_Mo_air_28 : decode mt_Mo_air.2.1 28 = .ok (.putfield 158, 3) := by decide +kernel
theorem d_Mo_air_31 : decode mt_Mo_air.2.1 31 = .ok (.iconst 1, 1) := by decide +kernel
theorem d_Mo_air_32 : decode mt_Mo_air.2.1 32 = .ok (.ireturn, 1) := by decide +kernel
theorem d_Mo_isShelf_0 : decode mt_Mo_isShelf.2.1 0 = .ok (.iload_n 0, 1) := by decide +kernel
theorem d_Mo_isShelf_1 : decode mt_Mo_isShelf.2.1 1 = .ok (.ifCond .lt 13, 3) := by decide +kernel
theorem d_Mo_isShelf_4 : decode mt_Mo_isShelf.2.1 4 = .ok (.iload_n 0, 1) := by decide +kernel
theorem d_Mo_isShelf_5 : decode mt_Mo_isShelf.2.1 5 = .ok (.bipush 24, 2) := by decide +kernel
theorem d_Mo_isShelf_7 : decode mt_Mo_isShelf.2.1 7 = .ok (.if_icmp .ge 7, 3) := by decide +kernel
theorem d_Mo_isShelf_10 : decode mt_Mo_isShelf.2.1 10 = .ok (.iconst 1, 1) := by decide +kernel
theorem d_Mo_isShelf_11 : decode mt_Mo_isShelf.2.1 11 = .ok (.goto 4, 3) := by decide +kernel
theorem d_Mo_isShelf_14 : decode mt_Mo_isShelf.2.1 14 = .ok (.iconst 0, 1) := by decide +kernel
theorem d_Mo_isShelf_15 : decode mt_Mo_isShelf.2.1 15 = .ok (.ireturn, 1) := by decide +kernel
theorem d_Mo_damp_0 : decode mt_Mo_damp.2.1 0 = .ok (.iload_n 1, 1) := by decide +kernel
theorem d_Mo_damp_1 : decode mt_Mo_damp.2.1 1 = .ok (.ifCond .lt 18, 3) := by decide +kernel
theorem d_Mo_damp_4 : decode mt_Mo_damp.2.1 4 = .ok (.iload_n 1, 1) := by decide +kernel
theorem d_Mo_damp_5 : decode mt_Mo_damp.2.1 5 = .ok (.iconst 4, 1) := by decide +kernel
theorem d_Mo_damp_6 : decode mt_Mo_damp.2.1 6 = .ok (.if_icmp .ge 13, 3) := by decide +kernel
theorem d_Mo_damp_9 : decode mt_Mo_damp.2.1 9 = .ok (.iload_n 2, 1) := by decide +kernel
theorem d_Mo_damp_10 : decode mt_Mo_damp.2.1 10 = .ok (.ifCond .lt 9, 3) := by decide +kernel
theorem d_Mo_damp_13 : decode mt_Mo_damp.2.1 13 = .ok (.iload_n 2, 1) := by decide +kernel
theorem d_Mo_damp_14 : decode mt_Mo_damp.2.1 14 = .ok (.bipush 99, 2) := by decide +kernel
theorem d_Mo_damp_16 : decode mt_Mo_damp.2.1 16 = .ok (.if_icmp .le 5, 3) := by decide +kernel
theorem d_Mo_damp_19 : decode mt_Mo_damp.2.1 19 = .ok (.iconst 0, 1) := by decide +kernel
theorem d_Mo_damp_20 : decode mt_Mo_damp.2.1 20 = .ok (.ireturn, 1) := by decide +kernel
theorem d_Mo_damp_21 : decode mt_Mo_damp.2.1 21 = .ok (.aload_n 0, 1) := by decide +kernel
theorem d_Mo_damp_22 : decode mt_Mo_damp.2.1 22 = .ok (.getfield 13, 3) := by decide +kernel
theorem d_Mo_damp_25 : decode mt_Mo_damp.2.1 25 = .ok (.iload_n 1, 1) := by decide +kernel
theorem d_Mo_damp_26 : decode mt_Mo_damp.2.1 26 = .ok (.iload_n 2, 1) := by decide +kernel
theorem d_Mo_damp_27 : decode mt_Mo_damp.2.1 27 = .ok (.iastore, 1) := by decide +kernel
theorem d_Mo_damp_28 : decode mt_Mo_damp.2.1 28 = .ok (.iconst 1, 1) := by decide +kernel
theorem d_Mo_damp_29 : decode mt_Mo_damp.2.1 29 = .ok (.ireturn, 1) := by decide +kernel
theorem d_Mo_milk_0 : decode mt_Mo_milk.2.1 0 = .ok (.aload_n 0, 1) := by decide +kernel
theorem d_Mo_milk_1 : decode mt_Mo_milk.2.1 1 = .ok (.getfield 162, 3) := by decide +kernel
theorem d_Mo_milk_4 : decode mt_Mo_milk.2.1 4 = .ok (.bipush 30, 2) := by decide +kernel
theorem d_Mo_milk_6 : decode mt_Mo_milk.2.1 6 = .ok (.if_icmp .eq 25, 3) := by decide +kernel
theorem d_Mo_milk_9 : decode mt_Mo_milk.2.1 9 = .ok (.iload_n 1, 1) := by decide +kernel
theorem d_Mo_milk_10 : decode mt_Mo_milk.2.1 10 = .ok (.ifCond .lt 21, 3) := by decide +kernel
theorem d_Mo_milk_13 : decode mt_Mo_milk.2.1 13 = .ok (.iload_n 1, 1) := by decide +kernel
theorem d_Mo_milk_14 : decode mt_Mo_milk.2.1 14 = .ok (.bipush 99, 2) := by decide +kernel
theorem d_Mo_milk_16 : decode mt_Mo_milk.2.1 16 = .ok (.if_icmp .gt 15, 3) := by decide +kernel
theorem d_Mo_milk_19 : decode mt_Mo_milk.2.1 19 = .ok (.iload_n 2, 1) := by decide +kernel
theorem d_Mo_milk_20 : decode mt_Mo_milk.2.1 20 = .ok (.iconst 1, 1) := by decide +kernel
theorem d_Mo_milk_21 : decode mt_Mo_milk.2.1 21 = .ok (.if_icmp .lt 10, 3) := by decide +kernel
theorem d_Mo_milk_24 : decode mt_Mo_milk.2.1 24 = .ok (.iload_n 2, 1) := by decide +kernel
theorem d_Mo_milk_25 : decode mt_Mo_milk.2.1 25 = .ok (.sipush 1000, 3) := by decide +kernel
theorem d_Mo_milk_28 : decode mt_Mo_milk.2.1 28 = .ok (.if_icmp .le 5, 3) := by decide +kernel
theorem d_Mo_milk_31 : decode mt_Mo_milk.2.1 31 = .ok (.iconst (-1), 1) := by decide +kernel
theorem d_Mo_milk_32 : decode mt_Mo_milk.2.1 32 = .ok (.ireturn, 1) := by decide +kernel
theorem d_Mo_milk_33 : decode mt_Mo_milk.2.1 33 = .ok (.aload_n 0, 1) := by decide +kernel
theorem d_Mo_milk_34 : decode mt_Mo_milk.2.1 34 = .ok (.getfield 16, 3) := by decide +kernel
theorem d_Mo_milk_37 : decode mt_Mo_milk.2.1 37 = .ok (.aload_n 0, 1) := by decide +kernel
theorem d_Mo_milk_38 : decode mt_Mo_milk.2.1 38 = .ok (.getfield 162, 3) := by decide +kernel
theorem d_Mo_milk_41 : decode mt_Mo_milk.2.1 41 = .ok (.iload_n 1, 1) := by decide +kernel
theorem d_Mo_milk_42 : decode mt_Mo_milk.2.1 42 = .ok (.iastore, 1) := by decide +kernel
theorem d_Mo_milk_43 : decode mt_Mo_milk.2.1 43 = .ok (.aload_n 0, 1) := by decide +kernel
theorem d_Mo_milk_44 : decode mt_Mo_milk.2.1 44 = .ok (.getfield 19, 3) := by decide +kernel
theorem d_Mo_milk_47 : decode mt_Mo_milk.2.1 47 = .ok (.aload_n 0, 1) := by decide +kernel
theorem d_Mo_milk_48 : decode mt_Mo_milk.2.1 48 = .ok (.getfield 162, 3) := by decide +kernel
theorem d_Mo_milk_51 : decode mt_Mo_milk.2.1 51 = .ok (.iload_n 2, 1) := by decide +kernel
theorem d_Mo_milk_52 : decode mt_Mo_milk.2.1 52 = .ok (.iastore, 1) := by decide +kernel
theorem d_Mo_milk_53 : decode mt_Mo_milk.2.1 53 = .ok (.aload_n 0, 1) := by decide +kernel
theorem d_Mo_milk_54 : decode mt_Mo_milk.2.1 54 = .ok (.dup, 1) := by decide +kernel
theorem d_Mo_milk_55 : decode mt_Mo_milk.2.1 55 = .ok (.getfield 162, 3) := by decide +kernel
theorem d_Mo_milk_58 : decode mt_Mo_milk.2.1 58 = .ok (.iconst 1, 1) := by decide +kernel
theorem d_Mo_milk_59 : decode mt_Mo_milk.2.1 59 = .ok (.iadd, 1) := by decide +kernel
theorem d_Mo_milk_60 : decode mt_Mo_milk.2.1 60 = .ok (.putfield 162, 3) := by decide +kernel
theorem d_Mo_milk_63 : decode mt_Mo_milk.2.1 63 = .ok (.aload_n 0, 1) := by decide +kernel
theorem d_Mo_milk_64 : decode mt_Mo_milk.2.1 64 = .ok (.getfield 162, 3) := by decide +kernel
theorem d_Mo_milk_67 : decode mt_Mo_milk.2.1 67 = .ok (.iconst 1, 1) := by decide +kernel
theorem d_Mo_milk_68 : decode mt_Mo_milk.2.1 68 = .ok (.isub, 1) := by decide +kernel
theorem d_Mo_milk_69 : decode mt_Mo_milk.2.1 69 = .ok (.ireturn, 1) := by decide +kernel
theorem d_Mo_wheel_0 : decode mt_Mo_wheel.2.1 0 = .ok (.aload_n 0, 1) := by decide +kernel
theorem d_Mo_wheel_1 : decode mt_Mo_wheel.2.1 1 = .ok (.getfield 165, 3) := by decide +kernel
theorem d_Mo_wheel_4 : decode mt_Mo_wheel.2.1 4 = .ok (.bipush 40, 2) := by decide +kernel
theorem d_Mo_wheel_6 : decode mt_Mo_wheel.2.1 6 = .ok (.if_icmp .ge 46, 3) := by decide +kernel
theorem d_Mo_wheel_9 : decode mt_Mo_wheel.2.1 9 = .ok (.aload_n 0, 1) := by decide +kernel
theorem d_Mo_wheel_10 : decode mt_Mo_wheel.2.1 10 = .ok (.getfield 168, 3) := by decide +kernel
theorem d_Mo_wheel_13 : decode mt_Mo_wheel.2.1 13 = .ok (.sipush 200, 3) := by decide +kernel
theorem d_Mo_wheel_16 : decode mt_Mo_wheel.2.1 16 = .ok (.if_icmp .ge 36, 3) := by decide +kernel
theorem d_Mo_wheel_19 : decode mt_Mo_wheel.2.1 19 = .ok (.iload_n 1, 1) := by decide +kernel
theorem d_Mo_wheel_20 : decode mt_Mo_wheel.2.1 20 = .ok (.ifCond .lt 32, 3) := by decide +kernel
theorem d_Mo_wheel_23 : decode mt_Mo_wheel.2.1 23 = .ok (.iload_n 1, 1) := by decide +kernel
theorem d_Mo_wheel_24 : decode mt_Mo_wheel.2.1 24 = .ok (.iconst 2, 1) := by decide +kernel
theorem d_Mo_wheel_25 : decode mt_Mo_wheel.2.1 25 = .ok (.if_icmp .gt 27, 3) := by decide +kernel
theorem d_Mo_wheel_28 : decode mt_Mo_wheel.2.1 28 = .ok (.iload_n 2, 1) := by decide +kernel
theorem d_Mo_wheel_29 : decode mt_Mo_wheel.2.1 29 = .ok (.invokestatic 154, 3) := by decide +kernel
theorem d_Mo_wheel_32 : decode mt_Mo_wheel.2.1 32 = .ok (.ifCond .eq 20, 3) := by decide +kernel
theorem d_Mo_wheel_35 : decode mt_Mo_wheel.2.1 35 = .ok (.aload_n 0, 1) := by decide +kernel
theorem d_Mo_wheel_36 : decode mt_Mo_wheel.2.1 36 = .ok (.iload_n 2, 1) := by decide +kernel
theorem d_Mo_wheel_37 : decode mt_Mo_wheel.2.1 37 = .ok (.invokevirtual 174, 3) := by decide +kernel
theorem d_Mo_wheel_40 : decode mt_Mo_wheel.2.1 40 = .ok (.iconst 4, 1) := by decide +kernel
theorem d_Mo_wheel_41 : decode mt_Mo_wheel.2.1 41 = .ok (.if_icmp .ge 11, 3) := by decide +kernel
theorem d_Mo_wheel_44 : decode mt_Mo_wheel.2.1 44 = .ok (.iload_n 3, 1) := by decide +kernel
theorem d_Mo_wheel_45 : decode mt_Mo_wheel.2.1 45 = .ok (.ifCond .lt 7, 3) := by decide +kernel
theorem d_Mo_wheel_48 : decode mt_Mo_wheel.2.1 48 = .ok (.iconst 1, 1) := by decide +kernel
theorem d_Mo_wheel_49 : decode mt_Mo_wheel.2.1 49 = .ok (.goto 4, 3) := by decide +kernel
theorem d_Mo_wheel_52 : decode mt_Mo_wheel.2.1 52 = .ok (.iconst 0, 1) := by decide +kernel
theorem d_Mo_wheel_53 : decode mt_Mo_wheel.2.1 53 = .ok (.istore 9, 2) := by decide +kernel
theorem d_Mo_wheel_55 : decode mt_Mo_wheel.2.1 55 = .ok (.iload 9, 2) := by decide +kernel
theorem d_Mo_wheel_57 : decode mt_Mo_wheel.2.1 57 = .ok (.ifCond .eq 64, 3) := by decide +kernel
theorem d_Mo_wheel_60 : decode mt_Mo_wheel.2.1 60 = .ok (.aload_n 0, 1) := by decide +kernel
theorem d_Mo_wheel_61 : decode mt_Mo_wheel.2.1 61 = .ok (.iload_n 3, 1) := by decide +kernel
theorem d_Mo_wheel_62 : decode mt_Mo_wheel.2.1 62 = .ok (.iload 4, 2) := by decide +kernel
theorem d_Mo_wheel_64 : decode mt_Mo_wheel.2.1 64 = .ok (.invokevirtual 178, 3) := by decide +kernel
theorem d_Mo_wheel_67 : decode mt_Mo_wheel.2.1 67 = .ok (.ifCond .eq 54, 3) := by decide +kernel
theorem d_Mo_wheel_70 : decode mt_Mo_wheel.2.1 70 = .ok (.aload_n 0, 1) := by decide +kernel
theorem d_Mo_wheel_71 : decode mt_Mo_wheel.2.1 71 = .ok (.iload 5, 2) := by decide +kernel
theorem d_Mo_wheel_73 : decode mt_Mo_wheel.2.1 73 = .ok (.iload 6, 2) := by decide +kernel
theorem d_Mo_wheel_75 : decode mt_Mo_wheel.2.1 75 = .ok (.invokevirtual 178, 3) := by decide +kernel
theorem d_Mo_wheel_78 : decode mt_Mo_wheel.2.1 78 = .ok (.ifCond .eq 43, 3) := by decide +kernel
theorem d_Mo_wheel_81 : decode mt_Mo_wheel.2.1 81 = .ok (.aload_n 0, 1) := by decide +kernel
theorem d_Mo_wheel_82 : decode mt_Mo_wheel.2.1 82 = .ok (.iload 7, 2) := by decide +kernel
theorem d_Mo_wheel_84 : decode mt_Mo_wheel.2.1 84 = .ok (.iload 8, 2) := by decide +kernel
theorem d_Mo_wheel_86 : decode mt_Mo_wheel.2.1 86 = .ok (.invokevirtual 178, 3) := by decide +kernel
theorem d_Mo_wheel_89 : decode mt_Mo_wheel.2.1 89 = .ok (.ifCond .eq 32, 3) := by decide +kernel
theorem d_Mo_wheel_92 : decode mt_Mo_wheel.2.1 92 = .ok (.iload_n 3, 1) := by decide +kernel
theorem d_Mo_wheel_93 : decode mt_Mo_wheel.2.1 93 = .ok (.iload 5, 2) := by decide +kernel
theorem d_Mo_wheel_95 : decode mt_Mo_wheel.2.1 95 = .ok (.if_icmp .eq 26, 3) := by decide +kernel
theorem d_Mo_wheel_98 : decode mt_Mo_wheel.2.1 98 = .ok (.iload_n 3, 1) := by decide +kernel
theorem d_Mo_wheel_99 : decode mt_Mo_wheel.2.1 99 = .ok (.iload 7, 2) := by decide +kernel
theorem d_Mo_wheel_101 : decode mt_Mo_wheel.2.1 101 = .ok (.if_icmp .eq 20, 3) := by decide +kernel
theorem d_Mo_wheel_104 : decode mt_Mo_wheel.2.1 104 = .ok (.iload 5, 2) := by decide +kernel
theorem d_Mo_wheel_106 : decode mt_Mo_wheel.2.1 106 = .ok (.iload 7, 2) := by decide +kernel
theorem d_Mo_wheel_108 : decode mt_Mo_wheel.2.1 108 = .ok (.if_icmp .ne 9, 3) := by decide +kernel
theorem d_Mo_wheel_111 : decode mt_Mo_wheel.2.1 111 = .ok (.iload 5, 2) := by decide +kernel
theorem d_Mo_wheel_113 : decode mt_Mo_wheel.2.1 113 = .ok (.iconst (-1), 1) := by decide +kernel
theorem d_Mo_wheel_114 : decode mt_Mo_wheel.2.1 114 = .ok (.if_icmp .ne 7, 3) := by decide +kernel
theorem d_Mo_wheel_117 : decode mt_Mo_wheel.2.1 117 = .ok (.iconst 1, 1) := by decide +kernel
theorem d_Mo_wheel_118 : decode mt_Mo_wheel.2.1 118 = .ok (.goto 4, 3) := by decide +kernel
theorem d_Mo_wheel_121 : decode mt_Mo_wheel.2.1 121 = .ok (.iconst 0, 1) := by decide +kernel
theorem d_Mo_wheel_122 : decode mt_Mo_wheel.2.1 122 = .ok (.istore 9, 2) := by decide +kernel
theorem d_Mo_wheel_124 : decode mt_Mo_wheel.2.1 124 = .ok (.iload 9, 2) := by decide +kernel
theorem d_Mo_wheel_126 : decode mt_Mo_wheel.2.1 126 = .ok (.ifCond .ne 5, 3) := by decide +kernel
theorem d_Mo_wheel_129 : decode mt_Mo_wheel.2.1 129 = .ok (.iconst (-1), 1) := by decide +kernel
theorem d_Mo_wheel_130 : decode mt_Mo_wheel.2.1 130 = .ok (.ireturn, 1) := by decide +kernel
theorem d_Mo_wheel_131 : decode mt_Mo_wheel.2.1 131 = .ok (.aload_n 0, 1) := by decide +kernel
theorem d_Mo_wheel_132 : decode mt_Mo_wheel.2.1 132 = .ok (.getfield 165, 3) := by decide +kernel
theorem d_Mo_wheel_135 : decode mt_Mo_wheel.2.1 135 = .ok (.istore 10, 2) := by decide +kernel
theorem d_Mo_wheel_137 : decode mt_Mo_wheel.2.1 137 = .ok (.aload_n 0, 1) := by decide +kernel
theorem d_Mo_wheel_138 : decode mt_Mo_wheel.2.1 138 = .ok (.getfield 25, 3) := by decide +kernel
theorem d_Mo_wheel_141 : decode mt_Mo_wheel.2.1 141 = .ok (.iload 10, 2) := by decide +kernel
theorem d_Mo_wheel_143 : decode mt_Mo_wheel.2.1 143 = .ok (.iload_n 1, 1) := by decide +kernel
theorem d_Mo_wheel_144 : decode mt_Mo_wheel.2.1 144 = .ok (.iastore, 1) := by decide +kernel
theorem d_Mo_wheel_145 : decode mt_Mo_wheel.2.1 145 = .ok (.aload_n 0, 1) := by decide +kernel
theorem d_Mo_wheel_146 : decode mt_Mo_wheel.2.1 146 = .ok (.getfield 40, 3) := by decide +kernel
theorem d_Mo_wheel_149 : decode mt_Mo_wheel.2.1 149 = .ok (.iload 10, 2) := by decide +kernel
theorem d_Mo_wheel_151 : decode mt_Mo_wheel.2.1 151 = .ok (.aload_n 0, 1) := by decide +kernel
theorem d_Mo_wheel_152 : decode mt_Mo_wheel.2.1 152 = .ok (.getfield 171, 3) := by decide +kernel
theorem d_Mo_wheel_155 : decode mt_Mo_wheel.2.1 155 = .ok (.iastore, 1) := by decide +kernel
theorem d_Mo_wheel_156 : decode mt_Mo_wheel.2.1 156 = .ok (.aload_n 0, 1) := by decide +kernel
theorem d_Mo_wheel_157 : decode mt_Mo_wheel.2.1 157 = .ok (.dup, 1) := by decide +kernel
theorem d_Mo_wheel_158 : decode mt_Mo_wheel.2.1 158 = .ok (.getfield 165, 3) := by decide +kernel
theorem d_Mo_wheel_161 : decode mt_Mo_wheel.2.1 161 = .ok (.iconst 1, 1) := by decide +kernel
theorem d_Mo_wheel_162 : decode mt_Mo_wheel.2.1 162 = .ok (.iadd, 1) := by decide +kernel
theorem d_Mo_wheel_163 : decode mt_Mo_wheel.2.1 163 = .ok (.putfield 165, 3) := by decide +kernel
theorem d_Mo_wheel_166 : decode mt_Mo_wheel.2.1 166 = .ok (.aload_n 0, 1) := by decide +kernel
theorem d_Mo_wheel_167 : decode mt_Mo_wheel.2.1 167 = .ok (.iload 10, 2) := by decide +kernel
theorem d_Mo_wheel_169 : decode mt_Mo_wheel.2.1 169 = .ok (.iload_n 3, 1) := by decide +kernel
theorem d_Mo_wheel_170 : decode mt_Mo_wheel.2.1 170 = .ok (.iload 4, 2) := by decide +kernel
theorem d_Mo_wheel_172 : decode mt_Mo_wheel.2.1 172 = .ok (.invokevirtual 182, 3) := by decide +kernel
theorem d_Mo_wheel_175 : decode mt_Mo_wheel.2.1 175 = .ok (.aload_n 0, 1) := by decide +kernel
theorem d_Mo_wheel_176 : decode mt_Mo_wheel.2.1 176 = .ok (.iload 10, 2) := by decide +kernel
theorem d_Mo_wheel_178 : decode mt_Mo_wheel.2.1 178 = .ok (.iload 5, 2) := by decide +kernel
theorem d_Mo_wheel_180 : decode mt_Mo_wheel.2.1 180 = .ok (.iload 6, 2) := by decide +kernel
theorem d_Mo_wheel_182 : decode mt_Mo_wheel.2.1 182 = .ok (.invokevirtual 182, 3) := by decide +kernel
theorem d_Mo_wheel_185 : decode mt_Mo_wheel.2.1 185 = .ok (.aload_n 0, 1) := by decide +kernel
theorem d_Mo_wheel_186 : decode mt_Mo_wheel.2.1 186 = .ok (.iload 10, 2) := by decide +kernel
theorem d_Mo_wheel_188 : decode mt_Mo_wheel.2.1 188 = .ok (.iload 7, 2) := by decide +kernel
theorem d_Mo_wheel_190 : decode mt_Mo_wheel.2.1 190 = .ok (.iload 8, 2) := by decide +kernel
theorem d_Mo_wheel_192 : decode mt_Mo_wheel.2.1 192 = .ok (.invokevirtual 182, 3) := by decide +kernel
theorem d_Mo_wheel_195 : decode mt_Mo_wheel.2.1 195 = .ok (.aload_n 0, 1) := by decide +kernel
theorem d_Mo_wheel_196 : decode mt_Mo_wheel.2.1 196 = .ok (.iload 10, 2) := by decide +kernel
theorem d_Mo_wheel_198 : decode mt_Mo_wheel.2.1 198 = .ok (.iload_n 2, 1) := by decide +kernel
theorem d_Mo_wheel_199 : decode mt_Mo_wheel.2.1 199 = .ok (.invokevirtual 186, 3) := by decide +kernel
theorem d_Mo_wheel_202 : decode mt_Mo_wheel.2.1 202 = .ok (.aload_n 0, 1) := by decide +kernel
theorem d_Mo_wheel_203 : decode mt_Mo_wheel.2.1 203 = .ok (.iconst 0, 1) := by decide +kernel
theorem d_Mo_wheel_204 : decode mt_Mo_wheel.2.1 204 = .ok (.putfield 158, 3) := by decide +kernel
theorem d_Mo_wheel_207 : decode mt_Mo_wheel.2.1 207 = .ok (.iload 10, 2) := by decide +kernel
theorem d_Mo_wheel_209 : decode mt_Mo_wheel.2.1 209 = .ok (.ireturn, 1) := by decide +kernel
theorem d_Mo_lying_0 : decode mt_Mo_lying.2.1 0 = .ok (.iconst 0, 1) := by decide +kernel
theorem d_Mo_lying_1 : decode mt_Mo_lying.2.1 1 = .ok (.istore_n 2, 1) := by decide +kernel
theorem d_Mo_lying_2 : decode mt_Mo_lying.2.1 2 = .ok (.iconst 0, 1) := by decide +kernel
theorem d_Mo_lying_3 : decode mt_Mo_lying.2.1 3 = .ok (.istore_n 3, 1) := by decide +kernel
theorem d_Mo_lying_4 : decode mt_Mo_lying.2.1 4 = .ok (.iload_n 3, 1) := by decide +kernel
theorem d_Mo_lying_5 : decode mt_Mo_lying.2.1 5 = .ok (.aload_n 0, 1) := by decide +kernel
theorem d_Mo_lying_6 : decode mt_Mo_lying.2.1 6 = .ok (.getfield 165, 3) := by decide +kernel
theorem d_Mo_lying_9 : decode mt_Mo_lying.2.1 9 = .ok (.if_icmp .ge 27, 3) := by decide +kernel
theorem d_Mo_lying_12 : decode mt_Mo_lying.2.1 12 = .ok (.iload_n 2, 1) := by decide +kernel
theorem d_Mo_lying_13 : decode mt_Mo_lying.2.1 13 = .ok (.aload_n 0, 1) := by decide +kernel
theorem d_Mo_lying_14 : decode mt_Mo_lying.2.1 14 = .ok (.getfield 28, 3) := by decide +kernel
theorem d_Mo_lying_17 : decode mt_Mo_lying.2.1 17 = .ok (.iload_n 3, 1) := by decide +kernel
theorem d_Mo_lying_18 : decode mt_Mo_lying.2.1 18 = .ok (.iaload, 1) := by decide +kernel
theorem d_Mo_lying_19 : decode mt_Mo_lying.2.1 19 = .ok (.iload_n 1, 1) := by decide +kernel
theorem d_Mo_lying_20 : decode mt_Mo_lying.2.1 20 = .ok (.if_icmp .ne 7, 3) := by decide +kernel
theorem d_Mo_lying_23 : decode mt_Mo_lying.2.1 23 = .ok (.iconst 1, 1) := by decide +kernel
theorem d_Mo_lying_24 : decode mt_Mo_lying.2.1 24 = .ok (.goto 4, 3) := by decide +kernel
theorem d_Mo_lying_27 : decode mt_Mo_lying.2.1 27 = .ok (.iconst 0, 1) := by decide +kernel
theorem d_Mo_lying_28 : decode mt_Mo_lying.2.1 28 = .ok (.iadd, 1) := by decide +kernel
theorem d_Mo_lying_29 : decode mt_Mo_lying.2.1 29 = .ok (.istore_n 2, 1) := by decide +kernel
theorem d_Mo_lying_30 : decode mt_Mo_lying.2.1 30 = .ok (.iinc 3 1, 3) := by decide +kernel
theorem d_Mo_lying_33 : decode mt_Mo_lying.2.1 33 = .ok (.goto (-29), 3) := by decide +kernel
theorem d_Mo_lying_36 : decode mt_Mo_lying.2.1 36 = .ok (.iload_n 2, 1) := by decide +kernel
theorem d_Mo_lying_37 : decode mt_Mo_lying.2.1 37 = .ok (.ireturn, 1) := by decide +kernel
theorem d_Mo_canGive_0 : decode mt_Mo_canGive.2.1 0 = .ok (.iload_n 1, 1) := by decide +kernel
theorem d_Mo_canGive_1 : decode mt_Mo_canGive.2.1 1 = .ok (.iconst (-1), 1) := by decide +kernel
theorem d_Mo_canGive_2 : decode mt_Mo_canGive.2.1 2 = .ok (.if_icmp .eq 30, 3) := by decide +kernel
theorem d_Mo_canGive_5 : decode mt_Mo_canGive.2.1 5 = .ok (.iload_n 1, 1) := by decide +kernel
theorem d_Mo_canGive_6 : decode mt_Mo_canGive.2.1 6 = .ok (.ifCond .lt 30, 3) := by decide +kernel
theorem d_Mo_canGive_9 : decode mt_Mo_canGive.2.1 9 = .ok (.iload_n 1, 1) := by decide +kernel
theorem d_Mo_canGive_10 : decode mt_Mo_canGive.2.1 10 = .ok (.aload_n 0, 1) := by decide +kernel
theorem d_Mo_canGive_11 : decode mt_Mo_canGive.2.1 11 = .ok (.getfield 162, 3) := by decide +kernel
theorem d_Mo_canGive_14 : decode mt_Mo_canGive.2.1 14 = .ok (.if_icmp .ge 22, 3) := by decide +kernel
theorem d_Mo_canGive_17 : decode mt_Mo_canGive.2.1 17 = .ok (.iload_n 2, 1) := by decide +kernel
theorem d_Mo_canGive_18 : decode mt_Mo_canGive.2.1 18 = .ok (.iconst 1, 1) := by decide +kernel
theorem d_Mo_canGive_19 : decode mt_Mo_canGive.2.1 19 = .ok (.if_icmp .lt 17, 3) := by decide +kernel
theorem d_Mo_canGive_22 : decode mt_Mo_canGive.2.1 22 = .ok (.iload_n 2, 1) := by decide +kernel
theorem d_Mo_canGive_23 : decode mt_Mo_canGive.2.1 23 = .ok (.aload_n 0, 1) := by decide +kernel
theorem d_Mo_canGive_24 : decode mt_Mo_canGive.2.1 24 = .ok (.getfield 19, 3) := by decide +kernel
theorem d_Mo_canGive_27 : decode mt_Mo_canGive.2.1 27 = .ok (.iload_n 1, 1) := by decide +kernel
theorem d_Mo_canGive_28 : decode mt_Mo_canGive.2.1 28 = .ok (.iaload, 1) := by decide +kernel
theorem d_Mo_canGive_29 : decode mt_Mo_canGive.2.1 29 = .ok (.if_icmp .gt 7, 3) := by decide +kernel
theorem d_Mo_canGive_32 : decode mt_Mo_canGive.2.1 32 = .ok (.iconst 1, 1) := by decide +kernel
theorem d_Mo_canGive_33 : decode mt_Mo_canGive.2.1 33 = .ok (.goto 4, 3) := by decide +kernel
theorem d_Mo_canGive_36 : decode mt_Mo_canGive.2.1 36 = .ok (.iconst 0, 1) := by decide +kernel
theorem d_Mo_canGive_37 : decode mt_Mo_canGive.2.1 37 = .ok (.ireturn, 1) := by decide +kernel
theorem d_Mo_give_0 : decode mt_Mo_give.2.1 0 = .ok (.iload_n 2, 1) := by decide +kernel
theorem d_Mo_give_1 : decode mt_Mo_give.2.1 1 = .ok (.iconst (-1), 1) := by decide +kernel
theorem d_Mo_give_2 : decode mt_Mo_give.2.1 2 = .ok (.if_icmp .ne 4, 3) := by decide +kernel
theorem d_Mo_give_5 : decode mt_Mo_give.2.1 5 = .ok (.return_, 1) := by decide +kernel
theorem d_Mo_give_6 : decode mt_Mo_give.2.1 6 = .ok (.aload_n 0, 1) := by decide +kernel
theorem d_Mo_give_7 : decode mt_Mo_give.2.1 7 = .ok (.getfield 19, 3) := by decide +kernel
theorem d_Mo_give_10 : decode mt_Mo_give.2.1 10 = .ok (.iload_n 2, 1) := by decide +kernel
theorem d_Mo_give_11 : decode mt_Mo_give.2.1 11 = .ok (.dup2, 1) := by decide +kernel
theorem d_Mo_give_12 : decode mt_Mo_give.2.1 12 = .ok (.iaload, 1) := by decide +kernel
theorem d_Mo_give_13 : decode mt_Mo_give.2.1 13 = .ok (.iload_n 3, 1) := by decide +kernel
theorem d_Mo_give_14 : decode mt_Mo_give.2.1 14 = .ok (.isub, 1) := by decide +kernel
theorem d_Mo_give_15 : decode mt_Mo_give.2.1 15 = .ok (.iastore, 1) := by decide +kernel
theorem d_Mo_give_16 : decode mt_Mo_give.2.1 16 = .ok (.aload_n 0, 1) := by decide +kernel
theorem d_Mo_give_17 : decode mt_Mo_give.2.1 17 = .ok (.getfield 22, 3) := by decide +kernel
theorem d_Mo_give_20 : decode mt_Mo_give.2.1 20 = .ok (.iload_n 2, 1) := by decide +kernel
theorem d_Mo_give_21 : decode mt_Mo_give.2.1 21 = .ok (.dup2, 1) := by decide +kernel
theorem d_Mo_give_22 : decode mt_Mo_give.2.1 22 = .ok (.iaload, 1) := by decide +kernel
theorem d_Mo_give_23 : decode mt_Mo_give.2.1 23 = .ok (.iconst 1, 1) := by decide +kernel
theorem d_Mo_give_24 : decode mt_Mo_give.2.1 24 = .ok (.iadd, 1) := by decide +kernel
theorem d_Mo_give_25 : decode mt_Mo_give.2.1 25 = .ok (.iastore, 1) := by decide +kernel
theorem d_Mo_give_26 : decode mt_Mo_give.2.1 26 = .ok (.aload_n 0, 1) := by decide +kernel
theorem d_Mo_give_27 : decode mt_Mo_give.2.1 27 = .ok (.getfield 49, 3) := by decide +kernel
theorem d_Mo_give_30 : decode mt_Mo_give.2.1 30 = .ok (.bipush 40, 2) := by decide +kernel
theorem d_Mo_give_32 : decode mt_Mo_give.2.1 32 = .ok (.iload_n 2, 1) := by decide +kernel
theorem d_Mo_give_33 : decode mt_Mo_give.2.1 33 = .ok (.imul, 1) := by decide +kernel
theorem d_Mo_give_34 : decode mt_Mo_give.2.1 34 = .ok (.iload_n 1, 1) := by decide +kernel
theorem d_Mo_give_35 : decode mt_Mo_give.2.1 35 = .ok (.iadd, 1) := by decide +kernel
theorem d_Mo_give_36 : decode mt_Mo_give.2.1 36 = .ok (.iconst 1, 1) := by decide +kernel
theorem d_Mo_give_37 : decode mt_Mo_give.2.1 37 = .ok (.bastore, 1) := by decide +kernel
theorem d_Mo_give_38 : decode mt_Mo_give.2.1 38 = .ok (.aload_n 0, 1) := by decide +kernel
theorem d_Mo_give_39 : decode mt_Mo_give.2.1 39 = .ok (.getfield 37, 3) := by decide +kernel
theorem d_Mo_give_42 : decode mt_Mo_give.2.1 42 = .ok (.iload_n 1, 1) := by decide +kernel
theorem d_Mo_give_43 : decode mt_Mo_give.2.1 43 = .ok (.dup2, 1) := by decide +kernel
theorem d_Mo_give_44 : decode mt_Mo_give.2.1 44 = .ok (.iaload, 1) := by decide +kernel
theorem d_Mo_give_45 : decode mt_Mo_give.2.1 45 = .ok (.bipush 100, 2) := by decide +kernel
theorem d_Mo_give_47 : decode mt_Mo_give.2.1 47 = .ok (.iload_n 3, 1) := by decide +kernel
theorem d_Mo_give_48 : decode mt_Mo_give.2.1 48 = .ok (.imul, 1) := by decide +kernel
theorem d_Mo_give_49 : decode mt_Mo_give.2.1 49 = .ok (.iadd, 1) := by decide +kernel
theorem d_Mo_give_50 : decode mt_Mo_give.2.1 50 = .ok (.iastore, 1) := by decide +kernel
theorem d_Mo_give_51 : decode mt_Mo_give.2.1 51 = .ok (.return_, 1) := by decide +kernel
theorem d_Mo_lay_0 : decode mt_Mo_lay.2.1 0 = .ok (.aload_n 0, 1) := by decide +kernel
theorem d_Mo_lay_1 : decode mt_Mo_lay.2.1 1 = .ok (.getfield 28, 3) := by decide +kernel
theorem d_Mo_lay_4 : decode mt_Mo_lay.2.1 4 = .ok (.iload_n 1, 1) := by decide +kernel
theorem d_Mo_lay_5 : decode mt_Mo_lay.2.1 5 = .ok (.iload_n 2, 1) := by decide +kernel
theorem d_Mo_lay_6 : decode mt_Mo_lay.2.1 6 = .ok (.iastore, 1) := by decide +kernel
theorem d_Mo_lay_7 : decode mt_Mo_lay.2.1 7 = .ok (.aload_n 0, 1) := by decide +kernel
theorem d_Mo_lay_8 : decode mt_Mo_lay.2.1 8 = .ok (.getfield 46, 3) := by decide +kernel
theorem d_Mo_lay_11 : decode mt_Mo_lay.2.1 11 = .ok (.iload_n 1, 1) := by decide +kernel
theorem d_Mo_lay_12 : decode mt_Mo_lay.2.1 12 = .ok (.aload_n 0, 1) := by decide +kernel
theorem d_Mo_lay_13 : decode mt_Mo_lay.2.1 13 = .ok (.getfield 168, 3) := by decide +kernel
theorem d_Mo_lay_16 : decode mt_Mo_lay.2.1 16 = .ok (.iastore, 1) := by decide +kernel
theorem d_Mo_lay_17 : decode mt_Mo_lay.2.1 17 = .ok (.aload_n 0, 1) := by decide +kernel
theorem d_Mo_lay_18 : decode mt_Mo_lay.2.1 18 = .ok (.getfield 53, 3) := by decide +kernel
theorem d_Mo_lay_21 : decode mt_Mo_lay.2.1 21 = .ok (.aload_n 0, 1) := by decide +kernel
theorem d_Mo_lay_22 : decode mt_Mo_lay.2.1 22 = .ok (.getfield 168, 3) := by decide +kernel
theorem d_Mo_lay_25 : decode mt_Mo_lay.2.1 25 = .ok (.iload_n 1, 1) := by decide +kernel
theorem d_Mo_lay_26 : decode mt_Mo_lay.2.1 26 = .ok (.iastore, 1) := by decide +kernel
theorem d_Mo_lay_27 : decode mt_Mo_lay.2.1 27 = .ok (.aload_n 0, 1) := by decide +kernel
theorem d_Mo_lay_28 : decode mt_Mo_lay.2.1 28 = .ok (.getfield 56, 3) := by decide +kernel
theorem d_Mo_lay_31 : decode mt_Mo_lay.2.1 31 = .ok (.aload_n 0, 1) := by decide +kernel
theorem d_Mo_lay_32 : decode mt_Mo_lay.2.1 32 = .ok (.getfield 168, 3) := by decide +kernel
theorem d_Mo_lay_35 : decode mt_Mo_lay.2.1 35 = .ok (.iload_n 2, 1) := by decide +kernel
theorem d_Mo_lay_36 : decode mt_Mo_lay.2.1 36 = .ok (.iastore, 1) := by decide +kernel
theorem d_Mo_lay_37 : decode mt_Mo_lay.2.1 37 = .ok (.aload_n 0, 1) := by decide +kernel
theorem d_Mo_lay_38 : decode mt_Mo_lay.2.1 38 = .ok (.getfield 59, 3) := by decide +kernel
theorem d_Mo_lay_41 : decode mt_Mo_lay.2.1 41 = .ok (.aload_n 0, 1) := by decide +kernel
theorem d_Mo_lay_42 : decode mt_Mo_lay.2.1 42 = .ok (.getfield 168, 3) := by decide +kernel
theorem d_Mo_lay_45 : decode mt_Mo_lay.2.1 45 = .ok (.aload_n 0, 1) := by decide +kernel
theorem d_Mo_lay_46 : decode mt_Mo_lay.2.1 46 = .ok (.getfield 171, 3) := by decide +kernel
theorem d_Mo_lay_49 : decode mt_Mo_lay.2.1 49 = .ok (.iastore, 1) := by decide +kernel
theorem d_Mo_lay_50 : decode mt_Mo_lay.2.1 50 = .ok (.aload_n 0, 1) := by decide +kernel
theorem d_Mo_lay_51 : decode mt_Mo_lay.2.1 51 = .ok (.getfield 62, 3) := by decide +kernel
theorem d_Mo_lay_54 : decode mt_Mo_lay.2.1 54 = .ok (.aload_n 0, 1) := by decide +kernel
theorem d_Mo_lay_55 : decode mt_Mo_lay.2.1 55 = .ok (.getfield 168, 3) := by decide +kernel
theorem d_Mo_lay_58 : decode mt_Mo_lay.2.1 58 = .ok (.iconst (-1), 1) := by decide +kernel
theorem d_Mo_lay_59 : decode mt_Mo_lay.2.1 59 = .ok (.iastore, 1) := by decide +kernel
theorem d_Mo_lay_60 : decode mt_Mo_lay.2.1 60 = .ok (.aload_n 0, 1) := by decide +kernel
theorem d_Mo_lay_61 : decode mt_Mo_lay.2.1 61 = .ok (.dup, 1) := by decide +kernel
theorem d_Mo_lay_62 : decode mt_Mo_lay.2.1 62 = .ok (.getfield 168, 3) := by decide +kernel
theorem d_Mo_lay_65 : decode mt_Mo_lay.2.1 65 = .ok (.iconst 1, 1) := by decide +kernel
theorem d_Mo_lay_66 : decode mt_Mo_lay.2.1 66 = .ok (.iadd, 1) := by decide +kernel
theorem d_Mo_lay_67 : decode mt_Mo_lay.2.1 67 = .ok (.putfield 168, 3) := by decide +kernel
theorem d_Mo_lay_70 : decode mt_Mo_lay.2.1 70 = .ok (.return_, 1) := by decide +kernel
theorem d_Mo_sell_0 : decode mt_Mo_sell.2.1 0 = .ok (.aload_n 0, 1) := by decide +kernel
theorem d_Mo_sell_1 : decode mt_Mo_sell.2.1 1 = .ok (.iload_n 1, 1) := by decide +kernel
theorem d_Mo_sell_2 : decode mt_Mo_sell.2.1 2 = .ok (.invokevirtual 193, 3) := by decide +kernel
theorem d_Mo_sell_5 : decode mt_Mo_sell.2.1 5 = .ok (.ifCond .ne 5, 3) := by decide +kernel
theorem d_Mo_sell_8 : decode mt_Mo_sell.2.1 8 = .ok (.iconst 0, 1) := by decide +kernel
theorem d_Mo_sell_9 : decode mt_Mo_sell.2.1 9 = .ok (.ireturn, 1) := by decide +kernel
theorem d_Mo_sell_10 : decode mt_Mo_sell.2.1 10 = .ok (.aload_n 0, 1) := by decide +kernel
theorem d_Mo_sell_11 : decode mt_Mo_sell.2.1 11 = .ok (.getfield 62, 3) := by decide +kernel
theorem d_Mo_sell_14 : decode mt_Mo_sell.2.1 14 = .ok (.aload_n 0, 1) := by decide +kernel
theorem d_Mo_sell_15 : decode mt_Mo_sell.2.1 15 = .ok (.getfield 46, 3) := by decide +kernel
theorem d_Mo_sell_18 : decode mt_Mo_sell.2.1 18 = .ok (.iload_n 1, 1) := by decide +kernel
theorem d_Mo_sell_19 : decode mt_Mo_sell.2.1 19 = .ok (.iaload, 1) := by decide +kernel
theorem d_Mo_sell_20 : decode mt_Mo_sell.2.1 20 = .ok (.aload_n 0, 1) := by decide +kernel
theorem d_Mo_sell_21 : decode mt_Mo_sell.2.1 21 = .ok (.getfield 171, 3) := by decide +kernel
theorem d_Mo_sell_24 : decode mt_Mo_sell.2.1 24 = .ok (.iastore, 1) := by decide +kernel
theorem d_Mo_sell_25 : decode mt_Mo_sell.2.1 25 = .ok (.aload_n 0, 1) := by decide +kernel
theorem d_Mo_sell_26 : decode mt_Mo_sell.2.1 26 = .ok (.getfield 28, 3) := by decide +kernel
theorem d_Mo_sell_29 : decode mt_Mo_sell.2.1 29 = .ok (.iload_n 1, 1) := by decide +kernel
theorem d_Mo_sell_30 : decode mt_Mo_sell.2.1 30 = .ok (.iconst (-1), 1) := by decide +kernel
theorem d_Mo_sell_31 : decode mt_Mo_sell.2.1 31 = .ok (.iastore, 1) := by decide +kernel
theorem d_Mo_sell_32 : decode mt_Mo_sell.2.1 32 = .ok (.aload_n 0, 1) := by decide +kernel
theorem d_Mo_sell_33 : decode mt_Mo_sell.2.1 33 = .ok (.iconst 0, 1) := by decide +kernel
theorem d_Mo_sell_34 : decode mt_Mo_sell.2.1 34 = .ok (.putfield 158, 3) := by decide +kernel
theorem d_Mo_sell_37 : decode mt_Mo_sell.2.1 37 = .ok (.iconst 1, 1) := by decide +kernel
theorem d_Mo_sell_38 : decode mt_Mo_sell.2.1 38 = .ok (.ireturn, 1) := by decide +kernel
theorem d_Mo_lies_0 : decode mt_Mo_lies.2.1 0 = .ok (.aload_n 0, 1) := by decide +kernel
theorem d_Mo_lies_1 : decode mt_Mo_lies.2.1 1 = .ok (.iload_n 1, 1) := by decide +kernel
theorem d_Mo_lies_2 : decode mt_Mo_lies.2.1 2 = .ok (.invokevirtual 190, 3) := by decide +kernel
theorem d_Mo_lies_5 : decode mt_Mo_lies.2.1 5 = .ok (.ifCond .eq 16, 3) := by decide +kernel
theorem d_Mo_lies_8 : decode mt_Mo_lies.2.1 8 = .ok (.aload_n 0, 1) := by decide +kernel
theorem d_Mo_lies_9 : decode mt_Mo_lies.2.1 9 = .ok (.getfield 28, 3) := by decide +kernel
theorem d_Mo_lies_12 : decode mt_Mo_lies.2.1 12 = .ok (.iload_n 1, 1) := by decide +kernel
theorem d_Mo_lies_13 : decode mt_Mo_lies.2.1 13 = .ok (.iaload, 1) := by decide +kernel
theorem d_Mo_lies_14 : decode mt_Mo_lies.2.1 14 = .ok (.ifCond .lt 7, 3) := by decide +kernel
theorem d_Mo_lies_17 : decode mt_Mo_lies.2.1 17 = .ok (.iconst 1, 1) := by decide +kernel
theorem d_Mo_lies_18 : decode mt_Mo_lies.2.1 18 = .ok (.goto 4, 3) := by decide +kernel
theorem d_Mo_lies_21 : decode mt_Mo_lies.2.1 21 = .ok (.iconst 0, 1) := by decide +kernel
theorem d_Mo_lies_22 : decode mt_Mo_lies.2.1 22 = .ok (.ireturn, 1) := by decide +kernel
theorem d_Mo_isWheel_0 : decode mt_Mo_isWheel.2.1 0 = .ok (.iload_n 1, 1) := by decide +kernel
theorem d_Mo_isWheel_1 : decode mt_Mo_isWheel.2.1 1 = .ok (.ifCond .lt 15, 3) := by decide +kernel
theorem d_Mo_isWheel_4 : decode mt_Mo_isWheel.2.1 4 = .ok (.iload_n 1, 1) := by decide +kernel
theorem d_Mo_isWheel_5 : decode mt_Mo_isWheel.2.1 5 = .ok (.aload_n 0, 1) := by decide +kernel
theorem d_Mo_isWheel_6 : decode mt_Mo_isWheel.2.1 6 = .ok (.getfield 165, 3) := by decide +kernel
theorem d_Mo_isWheel_9 : decode mt_Mo_isWheel.2.1 9 = .ok (.if_icmp .ge 7, 3) := by decide +kernel
theorem d_Mo_isWheel_12 : decode mt_Mo_isWheel.2.1 12 = .ok (.iconst 1, 1) := by decide +kernel
theorem d_Mo_isWheel_13 : decode mt_Mo_isWheel.2.1 13 = .ok (.goto 4, 3) := by decide +kernel
theorem d_Mo_isWheel_16 : decode mt_Mo_isWheel.2.1 16 = .ok (.iconst 0, 1) := by decide +kernel
theorem d_Mo_isWheel_17 : decode mt_Mo_isWheel.2.1 17 = .ok (.ireturn, 1) := by decide +kernel
theorem d_Mo_feed_0 : decode mt_Mo_feed.2.1 0 = .ok (.aload_n 0, 1) := by decide +kernel
theorem d_Mo_feed_1 : decode mt_Mo_feed.2.1 1 = .ok (.getfield 196, 3) := by decide +kernel
theorem d_Mo_feed_4 : decode mt_Mo_feed.2.1 4 = .ok (.bipush 20, 2) := by decide +kernel
theorem d_Mo_feed_6 : decode mt_Mo_feed.2.1 6 = .ok (.iadd, 1) := by decide +kernel
theorem d_Mo_feed_7 : decode mt_Mo_feed.2.1 7 = .ok (.sipush 500, 3) := by decide +kernel
theorem d_Mo_feed_10 : decode mt_Mo_feed.2.1 10 = .ok (.if_icmp .le 5, 3) := by decide +kernel
theorem d_Mo_feed_13 : decode mt_Mo_feed.2.1 13 = .ok (.iconst (-1), 1) := by decide +kernel
theorem d_Mo_feed_14 : decode mt_Mo_feed.2.1 14 = .ok (.ireturn, 1) := by decide +kernel
theorem d_Mo_feed_15 : decode mt_Mo_feed.2.1 15 = .ok (.aload_n 0, 1) := by decide +kernel
theorem d_Mo_feed_16 : decode mt_Mo_feed.2.1 16 = .ok (.iload_n 1, 1) := by decide +kernel
theorem d_Mo_feed_17 : decode mt_Mo_feed.2.1 17 = .ok (.invokevirtual 199, 3) := by decide +kernel
theorem d_Mo_feed_20 : decode mt_Mo_feed.2.1 20 = .ok (.aload_n 0, 1) := by decide +kernel
theorem d_Mo_feed_21 : decode mt_Mo_feed.2.1 21 = .ok (.iload_n 2, 1) := by decide +kernel
theorem d_Mo_feed_22 : decode mt_Mo_feed.2.1 22 = .ok (.invokevirtual 199, 3) := by decide +kernel
theorem d_Mo_feed_25 : decode mt_Mo_feed.2.1 25 = .ok (.aload_n 0, 1) := by decide +kernel
theorem d_Mo_feed_26 : decode mt_Mo_feed.2.1 26 = .ok (.iload_n 3, 1) := by decide +kernel
theorem d_Mo_feed_27 : decode mt_Mo_feed.2.1 27 = .ok (.invokevirtual 199, 3) := by decide +kernel
theorem d_Mo_feed_30 : decode mt_Mo_feed.2.1 30 = .ok (.aload_n 0, 1) := by decide +kernel
theorem d_Mo_feed_31 : decode mt_Mo_feed.2.1 31 = .ok (.iload 4, 2) := by decide +kernel
theorem d_Mo_feed_33 : decode mt_Mo_feed.2.1 33 = .ok (.invokevirtual 199, 3) := by decide +kernel
theorem d_Mo_feed_36 : decode mt_Mo_feed.2.1 36 = .ok (.aload_n 0, 1) := by decide +kernel
theorem d_Mo_feed_37 : decode mt_Mo_feed.2.1 37 = .ok (.iload 5, 2) := by decide +kernel
theorem d_Mo_feed_39 : decode mt_Mo_feed.2.1 39 = .ok (.invokevirtual 199, 3) := by decide +kernel
theorem d_Mo_feed_42 : decode mt_Mo_feed.2.1 42 = .ok (.aload_n 0, 1) := by decide +kernel
theorem d_Mo_feed_43 : decode mt_Mo_feed.2.1 43 = .ok (.getfield 196, 3) := by decide +kernel
theorem d_Mo_feed_46 : decode mt_Mo_feed.2.1 46 = .ok (.ireturn, 1) := by decide +kernel
theorem d_Mo_four_0 : decode mt_Mo_four.2.1 0 = .ok (.bipush 24, 2) := by decide +kernel
theorem d_Mo_four_2 : decode mt_Mo_four.2.1 2 = .ok (.istore_n 2, 1) := by decide +kernel
theorem d_Mo_four_3 : decode mt_Mo_four.2.1 3 = .ok (.iload_n 2, 1) := by decide +kernel
theorem d_Mo_four_4 : decode mt_Mo_four.2.1 4 = .ok (.ifCond .lt 35, 3) := by decide +kernel
theorem d_Mo_four_7 : decode mt_Mo_four.2.1 7 = .ok (.aload_n 0, 1) := by decide +kernel
theorem d_Mo_four_8 : decode mt_Mo_four.2.1 8 = .ok (.getfield 89, 3) := by decide +kernel
theorem d_Mo_four_11 : decode mt_Mo_four.2.1 11 = .ok (.aload_n 0, 1) := by decide +kernel
theorem d_Mo_four_12 : decode mt_Mo_four.2.1 12 = .ok (.getfield 196, 3) := by decide +kernel
theorem d_Mo_four_15 : decode mt_Mo_four.2.1 15 = .ok (.iload_n 1, 1) := by decide +kernel
theorem d_Mo_four_16 : decode mt_Mo_four.2.1 16 = .ok (.iload_n 2, 1) := by decide +kernel
theorem d_Mo_four_17 : decode mt_Mo_four.2.1 17 = .ok (.ishr, 1) := by decide +kernel
theorem d_Mo_four_18 : decode mt_Mo_four.2.1 18 = .ok (.sipush 255, 3) := by decide +kernel
theorem d_Mo_four_21 : decode mt_Mo_four.2.1 21 = .ok (.iand, 1) := by decide +kernel
theorem d_Mo_four_22 : decode mt_Mo_four.2.1 22 = .ok (.iastore, 1) := by decide +kernel
theorem d_Mo_four_23 : decode mt_Mo_four.2.1 23 = .ok (.aload_n 0, 1) := by decide +kernel
theorem d_Mo_four_24 : decode mt_Mo_four.2.1 24 = .ok (.dup, 1) := by decide +kernel
theorem d_Mo_four_25 : decode mt_Mo_four.2.1 25 = .ok (.getfield 196, 3) := by decide +kernel
theorem d_Mo_four_28 : decode mt_Mo_four.2.1 28 = .ok (.iconst 1, 1) := by decide +kernel
theorem d_Mo_four_29 : decode mt_Mo_four.2.1 29 = .ok (.iadd, 1) := by decide +kernel
theorem d_Mo_four_30 : decode mt_Mo_four.2.1 30 = .ok (.putfield 196, 3) := by decide +kernel
theorem d_Mo_four_33 : decode mt_Mo_four.2.1 33 = .ok (.iinc 2 (-8), 3) := by decide +kernel
theorem d_Mo_four_36 : decode mt_Mo_four.2.1 36 = .ok (.goto (-33), 3) := by decide +kernel
theorem d_Mo_four_39 : decode mt_Mo_four.2.1 39 = .ok (.return_, 1) := by decide +kernel
theorem d_Mo_end_0 : decode mt_Mo_end.2.1 0 = .ok (.iload_n 1, 1) := by decide +kernel
theorem d_Mo_end_1 : decode mt_Mo_end.2.1 1 = .ok (.ifCond .lt 11, 3) := by decide +kernel
theorem d_Mo_end_4 : decode mt_Mo_end.2.1 4 = .ok (.iload_n 1, 1) := by decide +kernel
theorem d_Mo_end_5 : decode mt_Mo_end.2.1 5 = .ok (.aload_n 0, 1) := by decide +kernel
theorem d_Mo_end_6 : decode mt_Mo_end.2.1 6 = .ok (.getfield 196, 3) := by decide +kernel
theorem d_Mo_end_9 : decode mt_Mo_end.2.1 9 = .ok (.if_icmp .le 5, 3) := by decide +kernel
theorem d_Mo_end_12 : decode mt_Mo_end.2.1 12 = .ok (.iconst (-1), 1) := by decide +kernel
theorem d_Mo_end_13 : decode mt_Mo_end.2.1 13 = .ok (.ireturn, 1) := by decide +kernel
theorem d_Mo_end_14 : decode mt_Mo_end.2.1 14 = .ok (.aload_n 0, 1) := by decide +kernel
theorem d_Mo_end_15 : decode mt_Mo_end.2.1 15 = .ok (.iload_n 1, 1) := by decide +kernel
theorem d_Mo_end_16 : decode mt_Mo_end.2.1 16 = .ok (.putfield 196, 3) := by decide +kernel
theorem d_Mo_end_19 : decode mt_Mo_end.2.1 19 = .ok (.iload_n 1, 1) := by decide +kernel
theorem d_Mo_end_20 : decode mt_Mo_end.2.1 20 = .ok (.ireturn, 1) := by decide +kernel
theorem d_Mo_orders_0 : decode mt_Mo_orders.2.1 0 = .ok (.aload_n 0, 1) := by decide +kernel
theorem d_Mo_orders_1 : decode mt_Mo_orders.2.1 1 = .ok (.aload_n 0, 1) := by decide +kernel
theorem d_Mo_orders_2 : decode mt_Mo_orders.2.1 2 = .ok (.getfield 196, 3) := by decide +kernel
theorem d_Mo_orders_5 : decode mt_Mo_orders.2.1 5 = .ok (.putfield 206, 3) := by decide +kernel
theorem d_Mo_orders_8 : decode mt_Mo_orders.2.1 8 = .ok (.aload_n 0, 1) := by decide +kernel
theorem d_Mo_orders_9 : decode mt_Mo_orders.2.1 9 = .ok (.iconst 0, 1) := by decide +kernel
theorem d_Mo_orders_10 : decode mt_Mo_orders.2.1 10 = .ok (.putfield 196, 3) := by decide +kernel
theorem d_Mo_orders_13 : decode mt_Mo_orders.2.1 13 = .ok (.aload_n 0, 1) := by decide +kernel
theorem d_Mo_orders_14 : decode mt_Mo_orders.2.1 14 = .ok (.iconst 0, 1) := by decide +kernel
theorem d_Mo_orders_15 : decode mt_Mo_orders.2.1 15 = .ok (.putfield 203, 3) := by decide +kernel
theorem d_Mo_orders_18 : decode mt_Mo_orders.2.1 18 = .ok (.aload_n 0, 1) := by decide +kernel
theorem d_Mo_orders_19 : decode mt_Mo_orders.2.1 19 = .ok (.iconst 0, 1) := by decide +kernel
theorem d_Mo_orders_20 : decode mt_Mo_orders.2.1 20 = .ok (.putfield 234, 3) := by decide +kernel
theorem d_Mo_orders_23 : decode mt_Mo_orders.2.1 23 = .ok (.aload_n 0, 1) := by decide +kernel
theorem d_Mo_orders_24 : decode mt_Mo_orders.2.1 24 = .ok (.iconst (-1), 1) := by decide +kernel
theorem d_Mo_orders_25 : decode mt_Mo_orders.2.1 25 = .ok (.putfield 92, 3) := by decide +kernel
theorem d_Mo_orders_28 : decode mt_Mo_orders.2.1 28 = .ok (.aload_n 0, 1) := by decide +kernel
theorem d_Mo_orders_29 : decode mt_Mo_orders.2.1 29 = .ok (.iconst 0, 1) := by decide +kernel
theorem d_Mo_orders_30 : decode mt_Mo_orders.2.1 30 = .ok (.putfield 328, 3) := by decide +kernel
theorem d_Mo_orders_33 : decode mt_Mo_orders.2.1 33 = .ok (.aload_n 0, 1) := by decide +kernel
theorem d_Mo_orders_34 : decode mt_Mo_orders.2.1 34 = .ok (.iconst 0, 1) := by decide +kernel
theorem d_Mo_orders_35 : decode mt_Mo_orders.2.1 35 = .ok (.putfield 273, 3) := by decide +kernel
theorem d_Mo_orders_38 : decode mt_Mo_orders.2.1 38 = .ok (.aload_n 0, 1) := by decide +kernel
theorem d_Mo_orders_39 : decode mt_Mo_orders.2.1 39 = .ok (.iconst 0, 1) := by decide +kernel
theorem d_Mo_orders_40 : decode mt_Mo_orders.2.1 40 = .ok (.putfield 315, 3) := by decide +kernel
theorem d_Mo_orders_43 : decode mt_Mo_orders.2.1 43 = .ok (.aload_n 0, 1) := by decide +kernel
theorem d_Mo_orders_44 : decode mt_Mo_orders.2.1 44 = .ok (.invokevirtual 318, 3) := by decide +kernel
theorem d_Mo_orders_47 : decode mt_Mo_orders.2.1 47 = .ok (.aload_n 0, 1) := by decide +kernel
theorem d_Mo_orders_48 : decode mt_Mo_orders.2.1 48 = .ok (.getfield 234, 3) := by decide +kernel
theorem d_Mo_orders_51 : decode mt_Mo_orders.2.1 51 = .ok (.ifCond .ne 203, 3) := by decide +kernel
theorem d_Mo_orders_54 : decode mt_Mo_orders.2.1 54 = .ok (.aload_n 0, 1) := by decide +kernel
theorem d_Mo_orders_55 : decode mt_Mo_orders.2.1 55 = .ok (.getfield 222, 3) := by decide +kernel
theorem d_Mo_orders_58 : decode mt_Mo_orders.2.1 58 = .ok (.ifCond .eq 196, 3) := by decide +kernel
theorem d_Mo_orders_61 : decode mt_Mo_orders.2.1 61 = .ok (.aload_n 0, 1) := by decide +kernel
theorem d_Mo_orders_62 : decode mt_Mo_orders.2.1 62 = .ok (.ldc2_w 237, 3) := by decide +kernel
theorem d_Mo_orders_65 : decode mt_Mo_orders.2.1 65 = .ok (.invokevirtual 288, 3) := by decide +kernel
theorem d_Mo_orders_68 : decode mt_Mo_orders.2.1 68 = .ok (.ifCond .eq 12, 3) := by decide +kernel
theorem d_Mo_orders_71 : decode mt_Mo_orders.2.1 71 = .ok (.aload_n 0, 1) := by decide +kernel
theorem d_Mo_orders_72 : decode mt_Mo_orders.2.1 72 = .ok (.getfield 328, 3) := by decide +kernel
theorem d_Mo_orders_75 : decode mt_Mo_orders.2.1 75 = .ok (.bipush 8, 2) := by decide +kernel
theorem d_Mo_orders_77 : decode mt_Mo_orders.2.1 77 = .ok (.if_icmp .ne 8, 3) := by decide +kernel
theorem d_Mo_orders_80 : decode mt_Mo_orders.2.1 80 = .ok (.aload_n 0, 1) := by decide +kernel
theorem d_Mo_orders_81 : decode mt_Mo_orders.2.1 81 = .ok (.iconst 2, 1) := by decide +kernel
theorem d_Mo_orders_82 : decode mt_Mo_orders.2.1 82 = .ok (.invokevirtual 309, 3) := by decide +kernel
theorem d_Mo_orders_85 : decode mt_Mo_orders.2.1 85 = .ok (.aload_n 0, 1) := by decide +kernel
theorem d_Mo_orders_86 : decode mt_Mo_orders.2.1 86 = .ok (.getfield 234, 3) := by decide +kernel
theorem d_Mo_orders_89 : decode mt_Mo_orders.2.1 89 = .ok (.ifCond .le 5, 3) := by decide +kernel
theorem d_Mo_orders_92 : decode mt_Mo_orders.2.1 92 = .ok (.iconst (-1), 1) := by decide +kernel
theorem d_Mo_orders_93 : decode mt_Mo_orders.2.1 93 = .ok (.ireturn, 1) := by decide +kernel
theorem d_Mo_orders_94 : decode mt_Mo_orders.2.1 94 = .ok (.aload_n 0, 1) := by decide +kernel
theorem d_Mo_orders_95 : decode mt_Mo_orders.2.1 95 = .ok (.getfield 83, 3) := by decide +kernel
theorem d_Mo_orders_98 : decode mt_Mo_orders.2.1 98 = .ok (.aload_n 0, 1) := by decide +kernel
theorem d_Mo_orders_99 : decode mt_Mo_orders.2.1 99 = .ok (.getfield 328, 3) := by decide +kernel
theorem d_Mo_orders_102 : decode mt_Mo_orders.2.1 102 = .ok (.aload_n 0, 1) := by decide +kernel
theorem d_Mo_orders_103 : decode mt_Mo_orders.2.1 103 = .ok (.getfield 273, 3) := by decide +kernel
theorem d_Mo_orders_106 : decode mt_Mo_orders.2.1 106 = .ok (.iastore, 1) := by decide +kernel
theorem d_Mo_orders_107 : decode mt_Mo_orders.2.1 107 = .ok (.aload_n 0, 1) := by decide +kernel
theorem d_Mo_orders_108 : decode mt_Mo_orders.2.1 108 = .ok (.invokevirtual 318, 3) := by decide +kernel
theorem d_Mo_orders_111 : decode mt_Mo_orders.2.1 111 = .ok (.aload_n 0, 1) := by decide +kernel
theorem d_Mo_orders_112 : decode mt_Mo_orders.2.1 112 = .ok (.invokevirtual 331, 3) := by decide +kernel
theorem d_Mo_orders_115 : decode mt_Mo_orders.2.1 115 = .ok (.aload_n 0, 1) := by decide +kernel
theorem d_Mo_orders_116 : decode mt_Mo_orders.2.1 116 = .ok (.getfield 234, 3) := by decide +kernel
theorem d_Mo_orders_119 : decode mt_Mo_orders.2.1 119 = .ok (.ifCond .le 5, 3) := by decide +kernel
theorem d_Mo_orders_122 : decode mt_Mo_orders.2.1 122 = .ok (.iconst (-1), 1) := by decide +kernel
theorem d_Mo_orders_123 : decode mt_Mo_orders.2.1 123 = .ok (.ireturn, 1) := by decide +kernel
theorem d_Mo_orders_124 : decode mt_Mo_orders.2.1 124 = .ok (.aload_n 0, 1) := by decide +kernel
theorem d_Mo_orders_125 : decode mt_Mo_orders.2.1 125 = .ok (.invokevirtual 318, 3) := by decide +kernel
theorem d_Mo_orders_128 : decode mt_Mo_orders.2.1 128 = .ok (.aload_n 0, 1) := by decide +kernel
theorem d_Mo_orders_129 : decode mt_Mo_orders.2.1 129 = .ok (.ldc2_w 241, 3) := by decide +kernel
theorem d_Mo_orders_132 : decode mt_Mo_orders.2.1 132 = .ok (.invokevirtual 288, 3) := by decide +kernel
theorem d_Mo_orders_135 : decode mt_Mo_orders.2.1 135 = .ok (.ifCond .ne 28, 3) := by decide +kernel
theorem d_Mo_orders_138 : decode mt_Mo_orders.2.1 138 = .ok (.aload_n 0, 1) := by decide +kernel
theorem d_Mo_orders_139 : decode mt_Mo_orders.2.1 139 = .ok (.ldc2_w 243, 3) := by decide +kernel
theorem d_Mo_orders_142 : decode mt_Mo_orders.2.1 142 = .ok (.invokevirtual 288, 3) := by decide +kernel
theorem d_Mo_orders_145 : decode mt_Mo_orders.2.1 145 = .ok (.ifCond .ne 18, 3) := by decide +kernel
theorem d_Mo_orders_148 : decode mt_Mo_orders.2.1 148 = .ok (.aload_n 0, 1) := by decide +kernel
theorem d_Mo_orders_149 : decode mt_Mo_orders.2.1 149 = .ok (.ldc2_w 245, 3) := by decide +kernel
theorem d_Mo_orders_152 : decode mt_Mo_orders.2.1 152 = .ok (.invokevirtual 288, 3) := by decide +kernel
theorem d_Mo_orders_155 : decode mt_Mo_orders.2.1 155 = .ok (.ifCond .ne 8, 3) := by decide +kernel
theorem d_Mo_orders_158 : decode mt_Mo_orders.2.1 158 = .ok (.aload_n 0, 1) := by decide +kernel
theorem d_Mo_orders_159 : decode mt_Mo_orders.2.1 159 = .ok (.iconst 2, 1) := by decide +kernel
theorem d_Mo_orders_160 : decode mt_Mo_orders.2.1 160 = .ok (.invokevirtual 309, 3) := by decide +kernel
theorem d_Mo_orders_163 : decode mt_Mo_orders.2.1 163 = .ok (.aload_n 0, 1) := by decide +kernel
theorem d_Mo_orders_164 : decode mt_Mo_orders.2.1 164 = .ok (.getfield 234, 3) := by decide +kernel
theorem d_Mo_orders_167 : decode mt_Mo_orders.2.1 167 = .ok (.ifCond .le 5, 3) := by decide +kernel
theorem d_Mo_orders_170 : decode mt_Mo_orders.2.1 170 = .ok (.iconst (-1), 1) := by decide +kernel
theorem d_Mo_orders_171 : decode mt_Mo_orders.2.1 171 = .ok (.ireturn, 1) := by decide +kernel
theorem d_Mo_orders_172 : decode mt_Mo_orders.2.1 172 = .ok (.aload_n 0, 1) := by decide +kernel
theorem d_Mo_orders_173 : decode mt_Mo_orders.2.1 173 = .ok (.getfield 86, 3) := by decide +kernel
theorem d_Mo_orders_176 : decode mt_Mo_orders.2.1 176 = .ok (.aload_n 0, 1) := by decide +kernel
theorem d_Mo_orders_177 : decode mt_Mo_orders.2.1 177 = .ok (.getfield 328, 3) := by decide +kernel
theorem d_Mo_orders_180 : decode mt_Mo_orders.2.1 180 = .ok (.aload_n 0, 1) := by decide +kernel
theorem d_Mo_orders_181 : decode mt_Mo_orders.2.1 181 = .ok (.ldc2_w 241, 3) := by decide +kernel
theorem d_Mo_orders_184 : decode mt_Mo_orders.2.1 184 = .ok (.invokevirtual 288, 3) := by decide +kernel
theorem d_Mo_orders_187 : decode mt_Mo_orders.2.1 187 = .ok (.ifCond .eq 7, 3) := by decide +kernel
theorem d_Mo_orders_190 : decode mt_Mo_orders.2.1 190 = .ok (.iconst 0, 1) := by decide +kernel
theorem d_Mo_orders_191 : decode mt_Mo_orders.2.1 191 = .ok (.goto 18, 3) := by decide +kernel
theorem d_Mo_orders_194 : decode mt_Mo_orders.2.1 194 = .ok (.aload_n 0, 1) := by decide +kernel
theorem d_Mo_orders_195 : decode mt_Mo_orders.2.1 195 = .ok (.ldc2_w 243, 3) := by decide +kernel
theorem d_Mo_orders_198 : decode mt_Mo_orders.2.1 198 = .ok (.invokevirtual 288, 3) := by decide +kernel
theorem d_Mo_orders_201 : decode mt_Mo_orders.2.1 201 = .ok (.ifCond .eq 7, 3) := by decide +kernel
theorem d_Mo_orders_204 : decode mt_Mo_orders.2.1 204 = .ok (.iconst 1, 1) := by decide +kernel
theorem d_Mo_orders_205 : decode mt_Mo_orders.2.1 205 = .ok (.goto 4, 3) := by decide +kernel
theorem d_Mo_orders_208 : decode mt_Mo_orders.2.1 208 = .ok (.iconst 2, 1) := by decide +kernel
theorem d_Mo_orders_209 : decode mt_Mo_orders.2.1 209 = .ok (.iastore, 1) := by decide +kernel
theorem d_Mo_orders_210 : decode mt_Mo_orders.2.1 210 = .ok (.aload_n 0, 1) := by decide +kernel
theorem d_Mo_orders_211 : decode mt_Mo_orders.2.1 211 = .ok (.invokevirtual 318, 3) := by decide +kernel
theorem d_Mo_orders_214 : decode mt_Mo_orders.2.1 214 = .ok (.aload_n 0, 1) := by decide +kernel
theorem d_Mo_orders_215 : decode mt_Mo_orders.2.1 215 = .ok (.getfield 222, 3) := by decide +kernel
theorem d_Mo_orders_218 : decode mt_Mo_orders.2.1 218 = .ok (.bipush 59, 2) := by decide +kernel
theorem d_Mo_orders_220 : decode mt_Mo_orders.2.1 220 = .ok (.if_icmp .eq 8, 3) := by decide +kernel
theorem d_Mo_orders_223 : decode mt_Mo_orders.2.1 223 = .ok (.aload_n 0, 1) := by decide +kernel
theorem d_Mo_orders_224 : decode mt_Mo_orders.2.1 224 = .ok (.iconst 2, 1) := by decide +kernel
theorem d_Mo_orders_225 : decode mt_Mo_orders.2.1 225 = .ok (.invokevirtual 309, 3) := by decide +kernel
theorem d_Mo_orders_228 : decode mt_Mo_orders.2.1 228 = .ok (.aload_n 0, 1) := by decide +kernel
theorem d_Mo_orders_229 : decode mt_Mo_orders.2.1 229 = .ok (.getfield 234, 3) := by decide +kernel
theorem d_Mo_orders_232 : decode mt_Mo_orders.2.1 232 = .ok (.ifCond .le 5, 3) := by decide +kernel
theorem d_Mo_orders_235 : decode mt_Mo_orders.2.1 235 = .ok (.iconst (-1), 1) := by decide +kernel
theorem d_Mo_orders_236 : decode mt_Mo_orders.2.1 236 = .ok (.ireturn, 1) := by decide +kernel
theorem d_Mo_orders_237 : decode mt_Mo_orders.2.1 237 = .ok (.aload_n 0, 1) := by decide +kernel
theorem d_Mo_orders_238 : decode mt_Mo_orders.2.1 238 = .ok (.invokevirtual 318, 3) := by decide +kernel
theorem d_Mo_orders_241 : decode mt_Mo_orders.2.1 241 = .ok (.aload_n 0, 1) := by decide +kernel
theorem d_Mo_orders_242 : decode mt_Mo_orders.2.1 242 = .ok (.dup, 1) := by decide +kernel
theorem d_Mo_orders_243 : decode mt_Mo_orders.2.1 243 = .ok (.getfield 328, 3) := by decide +kernel
theorem d_Mo_orders_246 : decode mt_Mo_orders.2.1 246 = .ok (.iconst 1, 1) := by decide +kernel
theorem d_Mo_orders_247 : decode mt_Mo_orders.2.1 247 = .ok (.iadd, 1) := by decide +kernel
theorem d_Mo_orders_248 : decode mt_Mo_orders.2.1 248 = .ok (.putfield 328, 3) := by decide +kernel
theorem d_Mo_orders_251 : decode mt_Mo_orders.2.1 251 = .ok (.goto (-204), 3) := by decide +kernel
theorem d_Mo_orders_254 : decode mt_Mo_orders.2.1 254 = .ok (.aload_n 0, 1) := by decide +kernel
theorem d_Mo_orders_255 : decode mt_Mo_orders.2.1 255 = .ok (.getfield 234, 3) := by decide +kernel
theorem d_Mo_orders_258 : decode mt_Mo_orders.2.1 258 = .ok (.ifCond .le 5, 3) := by decide +kernel
theorem d_Mo_orders_261 : decode mt_Mo_orders.2.1 261 = .ok (.iconst (-1), 1) := by decide +kernel
theorem d_Mo_orders_262 : decode mt_Mo_orders.2.1 262 = .ok (.ireturn, 1) := by decide +kernel
theorem d_Mo_orders_263 : decode mt_Mo_orders.2.1 263 = .ok (.aload_n 0, 1) := by decide +kernel
theorem d_Mo_orders_264 : decode mt_Mo_orders.2.1 264 = .ok (.getfield 83, 3) := by decide +kernel
theorem d_Mo_orders_267 : decode mt_Mo_orders.2.1 267 = .ok (.aload_n 0, 1) := by decide +kernel
theorem d_Mo_orders_268 : decode mt_Mo_orders.2.1 268 = .ok (.getfield 328, 3) := by decide +kernel
theorem d_Mo_orders_271 : decode mt_Mo_orders.2.1 271 = .ok (.aload_n 0, 1) := by decide +kernel
theorem d_Mo_orders_272 : decode mt_Mo_orders.2.1 272 = .ok (.getfield 273, 3) := by decide +kernel
theorem d_Mo_orders_275 : decode mt_Mo_orders.2.1 275 = .ok (.iastore, 1) := by decide +kernel
theorem d_Mo_orders_276 : decode mt_Mo_orders.2.1 276 = .ok (.iconst 0, 1) := by decide +kernel
theorem d_Mo_orders_277 : decode mt_Mo_orders.2.1 277 = .ok (.istore_n 1, 1) := by decide +kernel
theorem d_Mo_orders_278 : decode mt_Mo_orders.2.1 278 = .ok (.iload_n 1, 1) := by decide +kernel
theorem d_Mo_orders_279 : decode mt_Mo_orders.2.1 279 = .ok (.aload_n 0, 1) := by decide +kernel
theorem d_Mo_orders_280 : decode mt_Mo_orders.2.1 280 = .ok (.getfield 273, 3) := by decide +kernel
theorem d_Mo_orders_283 : decode mt_Mo_orders.2.1 283 = .ok (.if_icmp .ge 33, 3) := by decide +kernel
theorem d_Mo_orders_286 : decode mt_Mo_orders.2.1 286 = .ok (.aload_n 0, 1) := by decide +kernel
theorem d_Mo_orders_287 : decode mt_Mo_orders.2.1 287 = .ok (.getfield 65, 3) := by decide +kernel
theorem d_Mo_orders_290 : decode mt_Mo_orders.2.1 290 = .ok (.iload_n 1, 1) := by decide +kernel
theorem d_Mo_orders_291 : decode mt_Mo_orders.2.1 291 = .ok (.aload_n 0, 1) := by decide +kernel
theorem d_Mo_orders_292 : decode mt_Mo_orders.2.1 292 = .ok (.getfield 77, 3) := by decide +kernel
theorem d_Mo_orders_295 : decode mt_Mo_orders.2.1 295 = .ok (.iload_n 1, 1) := by decide +kernel
theorem d_Mo_orders_296 : decode mt_Mo_orders.2.1 296 = .ok (.iaload, 1) := by decide +kernel
theorem d_Mo_orders_297 : decode mt_Mo_orders.2.1 297 = .ok (.iastore, 1) := by decide +kernel
theorem d_Mo_orders_298 : decode mt_Mo_orders.2.1 298 = .ok (.aload_n 0, 1) := by decide +kernel
theorem d_Mo_orders_299 : decode mt_Mo_orders.2.1 299 = .ok (.getfield 68, 3) := by decide +kernel
theorem d_Mo_orders_302 : decode mt_Mo_orders.2.1 302 = .ok (.iload_n 1, 1) := by decide +kernel
theorem d_Mo_orders_303 : decode mt_Mo_orders.2.1 303 = .ok (.aload_n 0, 1) := by decide +kernel
theorem d_Mo_orders_304 : decode mt_Mo_orders.2.1 304 = .ok (.getfield 80, 3) := by decide +kernel
theorem d_Mo_orders_307 : decode mt_Mo_orders.2.1 307 = .ok (.iload_n 1, 1) := by decide +kernel
theorem d_Mo_orders_308 : decode mt_Mo_orders.2.1 308 = .ok (.iaload, 1) := by decide +kernel
theorem d_Mo_orders_309 : decode mt_Mo_orders.2.1 309 = .ok (.iastore, 1) := by decide +kernel
theorem d_Mo_orders_310 : decode mt_Mo_orders.2.1 310 = .ok (.iinc 1 1, 3) := by decide +kernel
theorem d_Mo_orders_313 : decode mt_Mo_orders.2.1 313 = .ok (.goto (-35), 3) := by decide +kernel
theorem d_Mo_orders_316 : decode mt_Mo_orders.2.1 316 = .ok (.iconst 0, 1) := by decide +kernel
theorem d_Mo_orders_317 : decode mt_Mo_orders.2.1 317 = .ok (.istore_n 1, 1) := by decide +kernel
theorem d_Mo_orders_318 : decode mt_Mo_orders.2.1 318 = .ok (.iload_n 1, 1) := by decide +kernel
theorem d_Mo_orders_319 : decode mt_Mo_orders.2.1 319 = .ok (.aload_n 0, 1) := by decide +kernel
theorem d_Mo_orders_320 : decode mt_Mo_orders.2.1 320 = .ok (.getfield 328, 3) := by decide +kernel
theorem d_Mo_orders_323 : decode mt_Mo_orders.2.1 323 = .ok (.if_icmp .ge 21, 3) := by decide +kernel
theorem d_Mo_orders_326 : decode mt_Mo_orders.2.1 326 = .ok (.aload_n 0, 1) := by decide +kernel
theorem d_Mo_orders_327 : decode mt_Mo_orders.2.1 327 = .ok (.getfield 74, 3) := by decide +kernel
theorem d_Mo_orders_330 : decode mt_Mo_orders.2.1 330 = .ok (.iload_n 1, 1) := by decide +kernel
theorem d_Mo_orders_331 : decode mt_Mo_orders.2.1 331 = .ok (.aload_n 0, 1) := by decide +kernel
theorem d_Mo_orders_332 : decode mt_Mo_orders.2.1 332 = .ok (.getfield 86, 3) := by decide +kernel
theorem d_Mo_orders_335 : decode mt_Mo_orders.2.1 335 = .ok (.iload_n 1, 1) := by decide +kernel
theorem d_Mo_orders_336 : decode mt_Mo_orders.2.1 336 = .ok (.iaload, 1) := by decide +kernel
theorem d_Mo_orders_337 : decode mt_Mo_orders.2.1 337 = .ok (.iastore, 1) := by decide +kernel
theorem d_Mo_orders_338 : decode mt_Mo_orders.2.1 338 = .ok (.iinc 1 1, 3) := by decide +kernel
theorem d_Mo_orders_341 : decode mt_Mo_orders.2.1 341 = .ok (.goto (-23), 3) := by decide +kernel
theorem d_Mo_orders_344 : decode mt_Mo_orders.2.1 344 = .ok (.iconst 0, 1) := by decide +kernel
theorem d_Mo_orders_345 : decode mt_Mo_orders.2.1 345 = .ok (.istore_n 1, 1) := by decide +kernel
theorem d_Mo_orders_346 : decode mt_Mo_orders.2.1 346 = .ok (.iload_n 1, 1) := by decide +kernel
theorem d_Mo_orders_347 : decode mt_Mo_orders.2.1 347 = .ok (.aload_n 0, 1) := by decide +kernel
theorem d_Mo_orders_348 : decode mt_Mo_orders.2.1 348 = .ok (.getfield 328, 3) := by decide +kernel
theorem d_Mo_orders_351 : decode mt_Mo_orders.2.1 351 = .ok (.if_icmp .gt 21, 3) := by decide +kernel
theorem d_Mo_orders_354 : decode mt_Mo_orders.2.1 354 = .ok (.aload_n 0, 1) := by decide +kernel
theorem d_Mo_orders_355 : decode mt_Mo_orders.2.1 355 = .ok (.getfield 71, 3) := by decide +kernel
theorem d_Mo_orders_358 : decode mt_Mo_orders.2.1 358 = .ok (.iload_n 1, 1) := by decide +kernel
theorem d_Mo_orders_359 : decode mt_Mo_orders.2.1 359 = .ok (.aload_n 0, 1) := by decide +kernel
theorem d_Mo_orders_360 : decode mt_Mo_orders.2.1 360 = .ok (.getfield 83, 3) := by decide +kernel
theorem d_Mo_orders_363 : decode mt_Mo_orders.2.1 363 = .ok (.iload_n 1, 1) := by decide +kernel
theorem d_Mo_orders_364 : decode mt_Mo_orders.2.1 364 = .ok (.iaload, 1) := by decide +kernel
theorem d_Mo_orders_365 : decode mt_Mo_orders.2.1 365 = .ok (.iastore, 1) := by decide +kernel
theorem d_Mo_orders_366 : decode mt_Mo_orders.2.1 366 = .ok (.iinc 1 1, 3) := by decide +kernel
theorem d_Mo_orders_369 : decode mt_Mo_orders.2.1 369 = .ok (.goto (-23), 3) := by decide +kernel
theorem d_Mo_orders_372 : decode mt_Mo_orders.2.1 372 = .ok (.aload_n 0, 1) := by decide +kernel
theorem d_Mo_orders_373 : decode mt_Mo_orders.2.1 373 = .ok (.aload_n 0, 1) := by decide +kernel
theorem d_Mo_orders_374 : decode mt_Mo_orders.2.1 374 = .ok (.getfield 328, 3) := by decide +kernel
theorem d_Mo_orders_377 : decode mt_Mo_orders.2.1 377 = .ok (.putfield 334, 3) := by decide +kernel
theorem d_Mo_orders_380 : decode mt_Mo_orders.2.1 380 = .ok (.aload_n 0, 1) := by decide +kernel
theorem d_Mo_orders_381 : decode mt_Mo_orders.2.1 381 = .ok (.getfield 334, 3) := by decide +kernel
theorem d_Mo_orders_384 : decode mt_Mo_orders.2.1 384 = .ok (.ireturn, 1) := by decide +kernel
theorem d_Mo_next_0 : decode mt_Mo_next.2.1 0 = .ok (.aload_n 0, 1) := by decide +kernel
theorem d_Mo_next_1 : decode mt_Mo_next.2.1 1 = .ok (.iconst 0, 1) := by decide +kernel
theorem d_Mo_next_2 : decode mt_Mo_next.2.1 2 = .ok (.invokevirtual 209, 3) := by decide +kernel
theorem d_Mo_next_5 : decode mt_Mo_next.2.1 5 = .ok (.bipush 32, 2) := by decide +kernel
theorem d_Mo_next_7 : decode mt_Mo_next.2.1 7 = .ok (.if_icmp .eq 13, 3) := by decide +kernel
theorem d_Mo_next_10 : decode mt_Mo_next.2.1 10 = .ok (.aload_n 0, 1) := by decide +kernel
theorem d_Mo_next_11 : decode mt_Mo_next.2.1 11 = .ok (.iconst 0, 1) := by decide +kernel
theorem d_Mo_next_12 : decode mt_Mo_next.2.1 12 = .ok (.invokevirtual 209, 3) := by decide +kernel
theorem d_Mo_next_15 : decode mt_Mo_next.2.1 15 = .ok (.bipush 10, 2) := by decide +kernel
theorem d_Mo_next_17 : decode mt_Mo_next.2.1 17 = .ok (.if_icmp .ne 16, 3) := by decide +kernel
theorem d_Mo_next_20 : decode mt_Mo_next.2.1 20 = .ok (.aload_n 0, 1) := by decide +kernel
theorem d_Mo_next_21 : decode mt_Mo_next.2.1 21 = .ok (.dup, 1) := by decide +kernel
theorem d_Mo_next_22 : decode mt_Mo_next.2.1 22 = .ok (.getfield 203, 3) := by decide +kernel
theorem d_Mo_next_25 : decode mt_Mo_next.2.1 25 = .ok (.iconst 1, 1) := by decide +kernel
theorem d_Mo_next_26 : decode mt_Mo_next.2.1 26 = .ok (.iadd, 1) := by decide +kernel
theorem d_Mo_next_27 : decode mt_Mo_next.2.1 27 = .ok (.putfield 203, 3) := by decide +kernel
theorem d_Mo_next_30 : decode mt_Mo_next.2.1 30 = .ok (.goto (-30), 3) := by decide +kernel
theorem d_Mo_next_33 : decode mt_Mo_next.2.1 33 = .ok (.aload_n 0, 1) := by decide +kernel
theorem d_Mo_next_34 : decode mt_Mo_next.2.1 34 = .ok (.aload_n 0, 1) := by decide +kernel
theorem d_Mo_next_35 : decode mt_Mo_next.2.1 35 = .ok (.getfield 203, 3) := by decide +kernel
theorem d_Mo_next_38 : decode mt_Mo_next.2.1 38 = .ok (.putfield 212, 3) := by decide +kernel
theorem d_Mo_next_41 : decode mt_Mo_next.2.1 41 = .ok (.aload_n 0, 1) := by decide +kernel
theorem d_Mo_next_42 : decode mt_Mo_next.2.1 42 = .ok (.iconst 0, 1) := by decide +kernel
theorem d_Mo_next_43 : decode mt_Mo_next.2.1 43 = .ok (.invokevirtual 209, 3) := by decide +kernel
theorem d_Mo_next_46 : decode mt_Mo_next.2.1 46 = .ok (.istore_n 1, 1) := by decide +kernel
theorem d_Mo_next_47 : decode mt_Mo_next.2.1 47 = .ok (.iconst 0, 1) := by decide +kernel
theorem d_Mo_next_48 : decode mt_Mo_next.2.1 48 = .ok (.istore_n 2, 1) := by decide +kernel
theorem d_Mo_next_49 : decode mt_Mo_next.2.1 49 = .ok (.aload_n 0, 1) := by decide +kernel
theorem d_Mo_next_50 : decode mt_Mo_next.2.1 50 = .ok (.lconst 0, 1) := by decide +kernel
theorem d_Mo_next_51 : decode mt_Mo_next.2.1 51 = .ok (.putfield 215, 3) := by decide +kernel
theorem d_Mo_next_54 : decode mt_Mo_next.2.1 54 = .ok (.aload_n 0, 1) := by decide +kernel
theorem d_Mo_next_55 : decode mt_Mo_next.2.1 55 = .ok (.iconst 0, 1) := by decide +kernel
theorem d_Mo_next_56 : decode mt_Mo_next.2.1 56 = .ok (.putfield 219, 3) := by decide +kernel
theorem d_Mo_next_59 : decode mt_Mo_next.2.1 59 = .ok (.iload_n 1, 1) := by decide +kernel
theorem d_Mo_next_60 : decode mt_Mo_next.2.1 60 = .ok (.ifCond .ge 11, 3) := by decide +kernel
theorem d_Mo_next_63 : decode mt_Mo_next.2.1 63 = .ok (.aload_n 0, 1) := by decide +kernel
theorem d_Mo_next_64 : decode mt_Mo_next.2.1 64 = .ok (.iconst 0, 1) := by decide +kernel
theorem d_Mo_next_65 : decode mt_Mo_next.2.1 65 = .ok (.putfield 222, 3) := by decide +kernel
theorem d_Mo_next_68 : decode mt_Mo_next.2.1 68 = .ok (.goto 166, 3) := by decide +kernel
theorem d_Mo_next_71 : decode mt_Mo_next.2.1 71 = .ok (.iload_n 1, 1) := by decide +kernel
theorem d_Mo_next_72 : decode mt_Mo_next.2.1 72 = .ok (.invokestatic 225, 3) := by decide +kernel
theorem d_Mo_next_75 : decode mt_Mo_next.2.1 75 = .ok (.ifCond .eq 62, 3) := by decide +kernel
theorem d_Mo_next_78 : decode mt_Mo_next.2.1 78 = .ok (.aload_n 0, 1) := by decide +kernel
theorem d_Mo_next_79 : decode mt_Mo_next.2.1 79 = .ok (.iload_n 2, 1) := by decide +kernel
theorem d_Mo_next_80 : decode mt_Mo_next.2.1 80 = .ok (.invokevirtual 209, 3) := by decide +kernel
theorem d_Mo_next_83 : decode mt_Mo_next.2.1 83 = .ok (.invokestatic 225, 3) := by decide +kernel
theorem d_Mo_next_86 : decode mt_Mo_next.2.1 86 = .ok (.ifCond .eq 33, 3) := by decide +kernel
theorem d_Mo_next_89 : decode mt_Mo_next.2.1 89 = .ok (.iload_n 2, 1) := by decide +kernel
theorem d_Mo_next_90 : decode mt_Mo_next.2.1 90 = .ok (.bipush 8, 2) := by decide +kernel
theorem d_Mo_next_92 : decode mt_Mo_next.2.1 92 = .ok (.if_icmp .ge 21, 3) := by decide +kernel
theorem d_Mo_next_95 : decode mt_Mo_next.2.1 95 = .ok (.aload_n 0, 1) := by decide +kernel
theorem d_Mo_next_96 : decode mt_Mo_next.2.1 96 = .ok (.aload_n 0, 1) := by decide +kernel
theorem d_Mo_next_97 : decode mt_Mo_next.2.1 97 = .ok (.getfield 215, 3) := by decide +kernel
theorem d_Mo_next_100 : decode mt_Mo_next.2.1 100 = .ok (.bipush 8, 2) := by decide +kernel
theorem d_Mo_next_102 : decode mt_Mo_next.2.1 102 = .ok (.lshl, 1) := by decide +kernel
theorem d_Mo_next_103 : decode mt_Mo_next.2.1 103 = .ok (.aload_n 0, 1) := by decide +kernel
theorem d_Mo_next_104 : decode mt_Mo_next.2.1 104 = .ok (.iload_n 2, 1) := by decide +kernel
theorem d_Mo_next_105 : decode mt_Mo_next.2.1 105 = .ok (.invokevirtual 209, 3) := by decide +kernel
theorem d_Mo_next_108 : decode mt_Mo_next.2.1 108 = .ok (.i2l, 1) := by decide +kernel
theorem d_Mo_next_109 : decode mt_Mo_next.2.1 109 = .ok (.lor, 1) := by decide +kernel
theorem d_Mo_next_110 : decode mt_Mo_next.2.1 110 = .ok (.putfield 215, 3) := by decide +kernel
theorem d_Mo_next_113 : decode mt_Mo_next.2.1 113 = .ok (.iinc 2 1, 3) := by decide +kernel
theorem d_Mo_next_116 : decode mt_Mo_next.2.1 116 = .ok (.goto (-38), 3) := by decide +kernel
theorem d_Mo_next_119 : decode mt_Mo_next.2.1 119 = .ok (.aload_n 0, 1) := by decide +kernel
theorem d_Mo_next_120 : decode mt_Mo_next.2.1 120 = .ok (.iload_n 2, 1) := by decide +kernel
theorem d_Mo_next_121 : decode mt_Mo_next.2.1 121 = .ok (.bipush 8, 2) := by decide +kernel
theorem d_Mo_next_123 : decode mt_Mo_next.2.1 123 = .ok (.if_icmp .le 7, 3) := by decide +kernel
theorem d_Mo_next_126 : decode mt_Mo_next.2.1 126 = .ok (.iconst 3, 1) := by decide +kernel
theorem d_Mo_next_127 : decode mt_Mo_next.2.1 127 = .ok (.goto 4, 3) := by decide +kernel
theorem d_Mo_next_130 : decode mt_Mo_next.2.1 130 = .ok (.iconst 1, 1) := by decide +kernel
theorem d_Mo_next_131 : decode mt_Mo_next.2.1 131 = .ok (.putfield 222, 3) := by decide +kernel
theorem d_Mo_next_134 : decode mt_Mo_next.2.1 134 = .ok (.goto 100, 3) := by decide +kernel
theorem d_Mo_next_137 : decode mt_Mo_next.2.1 137 = .ok (.iload_n 1, 1) := by decide +kernel
theorem d_Mo_next_138 : decode mt_Mo_next.2.1 138 = .ok (.invokestatic 228, 3) := by decide +kernel
theorem d_Mo_next_141 : decode mt_Mo_next.2.1 141 = .ok (.ifCond .eq 75, 3) := by decide +kernel
theorem d_Mo_next_144 : decode mt_Mo_next.2.1 144 = .ok (.aload_n 0, 1) := by decide +kernel
theorem d_Mo_next_145 : decode mt_Mo_next.2.1 145 = .ok (.iload_n 2, 1) := by decide +kernel
theorem d_Mo_next_146 : decode mt_Mo_next.2.1 146 = .ok (.invokevirtual 209, 3) := by decide +kernel
theorem d_Mo_next_149 : decode mt_Mo_next.2.1 149 = .ok (.invokestatic 228, 3) := by decide +kernel
theorem d_Mo_next_152 : decode mt_Mo_next.2.1 152 = .ok (.ifCond .eq 35, 3) := by decide +kernel
theorem d_Mo_next_155 : decode mt_Mo_next.2.1 155 = .ok (.iload_n 2, 1) := by decide +kernel
theorem d_Mo_next_156 : decode mt_Mo_next.2.1 156 = .ok (.bipush 6, 2) := by decide +kernel
theorem d_Mo_next_158 : decode mt_Mo_next.2.1 158 = .ok (.if_icmp .ge 23, 3) := by decide +kernel
theorem d_Mo_next_161 : decode mt_Mo_next.2.1 161 = .ok (.aload_n 0, 1) := by decide +kernel
theorem d_Mo_next_162 : decode mt_Mo_next.2.1 162 = .ok (.bipush 10, 2) := by decide +kernel
theorem d_Mo_next_164 : decode mt_Mo_next.2.1 164 = .ok (.aload_n 0, 1) := by decide +kernel
theorem d_Mo_next_165 : decode mt_Mo_next.2.1 165 = .ok (.getfield 219, 3) := by decide +kernel
theorem d_Mo_next_168 : decode mt_Mo_next.2.1 168 = .ok (.imul, 1) := by decide +kernel
theorem d_Mo_next_169 : decode mt_Mo_next.2.1 169 = .ok (.aload_n 0, 1) := by decide +kernel
theorem d_Mo_next_170 : decode mt_Mo_next.2.1 170 = .ok (.iload_n 2, 1) := by decide +kernel
theorem d_Mo_next_171 : decode mt_Mo_next.2.1 171 = .ok (.invokevirtual 209, 3) := by decide +kernel
theorem d_Mo_next_174 : decode mt_Mo_next.2.1 174 = .ok (.iadd, 1) := by decide +kernel
theorem d_Mo_next_175 : decode mt_Mo_next.2.1 175 = .ok (.bipush 48, 2) := by decide +kernel
theorem d_Mo_next_177 : decode mt_Mo_next.2.1 177 = .ok (.isub, 1) := by decide +kernel
theorem d_Mo_next_178 : decode mt_Mo_next.2.1 178 = .ok (.putfield 219, 3) := by decide +kernel
theorem d_Mo_next_181 : decode mt_Mo_next.2.1 181 = .ok (.iinc 2 1, 3) := by decide +kernel
theorem d_Mo_next_184 : decode mt_Mo_next.2.1 184 = .ok (.goto (-40), 3) := by decide +kernel
theorem d_Mo_next_187 : decode mt_Mo_next.2.1 187 = .ok (.aload_n 0, 1) := by decide +kernel
theorem d_Mo_next_188 : decode mt_Mo_next.2.1 188 = .ok (.iload_n 2, 1) := by decide +kernel
theorem d_Mo_next_189 : decode mt_Mo_next.2.1 189 = .ok (.bipush 6, 2) := by decide +kernel
theorem d_Mo_next_191 : decode mt_Mo_next.2.1 191 = .ok (.if_icmp .gt 14, 3) := by decide +kernel
theorem d_Mo_next_194 : decode mt_Mo_next.2.1 194 = .ok (.aload_n 0, 1) := by decide +kernel
theorem d_Mo_next_195 : decode mt_Mo_next.2.1 195 = .ok (.iload_n 2, 1) := by decide +kernel
theorem d_Mo_next_196 : decode mt_Mo_next.2.1 196 = .ok (.invokevirtual 209, 3) := by decide +kernel
theorem d_Mo_next_199 : decode mt_Mo_next.2.1 199 = .ok (.invokestatic 225, 3) := by decide +kernel
theorem d_Mo_next_202 : decode mt_Mo_next.2.1 202 = .ok (.ifCond .eq 7, 3) := by decide +kernel
theorem d_Mo_next_205 : decode mt_Mo_next.2.1 205 = .ok (.iconst 3, 1) := by decide +kernel
theorem d_Mo_next_206 : decode mt_Mo_next.2.1 206 = .ok (.goto 4, 3) := by decide +kernel
theorem d_Mo_next_209 : decode mt_Mo_next.2.1 209 = .ok (.iconst 2, 1) := by decide +kernel
theorem d_Mo_next_210 : decode mt_Mo_next.2.1 210 = .ok (.putfield 222, 3) := by decide +kernel
theorem d_Mo_next_213 : decode mt_Mo_next.2.1 213 = .ok (.goto 21, 3) := by decide +kernel
theorem d_Mo_next_216 : decode mt_Mo_next.2.1 216 = .ok (.iconst 1, 1) := by decide +kernel
theorem d_Mo_next_217 : decode mt_Mo_next.2.1 217 = .ok (.istore_n 2, 1) := by decide +kernel
theorem d_Mo_next_218 : decode mt_Mo_next.2.1 218 = .ok (.aload_n 0, 1) := by decide +kernel
theorem d_Mo_next_219 : decode mt_Mo_next.2.1 219 = .ok (.iload_n 1, 1) := by decide +kernel
theorem d_Mo_next_220 : decode mt_Mo_next.2.1 220 = .ok (.invokestatic 231, 3) := by decide +kernel
theorem d_Mo_next_223 : decode mt_Mo_next.2.1 223 = .ok (.ifCond .eq 7, 3) := by decide +kernel
theorem d_Mo_next_226 : decode mt_Mo_next.2.1 226 = .ok (.iload_n 1, 1) := by decide +kernel
theorem d_Mo_next_227 : decode mt_Mo_next.2.1 227 = .ok (.goto 4, 3) := by decide +kernel
theorem d_Mo_next_230 : decode mt_Mo_next.2.1 230 = .ok (.iconst 3, 1) := by decide +kernel
theorem d_Mo_next_231 : decode mt_Mo_next.2.1 231 = .ok (.putfield 222, 3) := by decide +kernel
theorem d_Mo_next_234 : decode mt_Mo_next.2.1 234 = .ok (.aload_n 0, 1) := by decide +kernel
theorem d_Mo_next_235 : decode mt_Mo_next.2.1 235 = .ok (.getfield 222, 3) := by decide +kernel
theorem d_Mo_next_238 : decode mt_Mo_next.2.1 238 = .ok (.iconst 3, 1) := by decide +kernel
theorem d_Mo_next_239 : decode mt_Mo_next.2.1 239 = .ok (.if_icmp .eq 13, 3) := by decide +kernel
theorem d_Mo_next_242 : decode mt_Mo_next.2.1 242 = .ok (.aload_n 0, 1) := by decide +kernel
theorem d_Mo_next_243 : decode mt_Mo_next.2.1 243 = .ok (.dup, 1) := by decide +kernel
theorem d_Mo_next_244 : decode mt_Mo_next.2.1 244 = .ok (.getfield 203, 3) := by decide +kernel
theorem d_Mo_next_247 : decode mt_Mo_next.2.1 247 = .ok (.iload_n 2, 1) := by decide +kernel
theorem d_Mo_next_248 : decode mt_Mo_next.2.1 248 = .ok (.iadd, 1) := by decide +kernel
theorem d_Mo_next_249 : decode mt_Mo_next.2.1 249 = .ok (.putfield 203, 3) := by decide +kernel
theorem d_Mo_next_252 : decode mt_Mo_next.2.1 252 = .ok (.return_, 1) := by decide +kernel
theorem d_Mo_here_0 : decode mt_Mo_here.2.1 0 = .ok (.aload_n 0, 1) := by decide +kernel
theorem d_Mo_here_1 : decode mt_Mo_here.2.1 1 = .ok (.getfield 203, 3) := by decide +kernel
theorem d_Mo_here_4 : decode mt_Mo_here.2.1 4 = .ok (.iload_n 1, 1) := by decide +kernel
theorem d_Mo_here_5 : decode mt_Mo_here.2.1 5 = .ok (.iadd, 1) := by decide +kernel
theorem d_Mo_here_6 : decode mt_Mo_here.2.1 6 = .ok (.aload_n 0, 1) := by decide +kernel
theorem d_Mo_here_7 : decode mt_Mo_here.2.1 7 = .ok (.getfield 206, 3) := by decide +kernel
theorem d_Mo_here_10 : decode mt_Mo_here.2.1 10 = .ok (.if_icmp .ge 17, 3) := by decide +kernel
theorem d_Mo_here_13 : decode mt_Mo_here.2.1 13 = .ok (.aload_n 0, 1) := by decide +kernel
theorem d_Mo_here_14 : decode mt_Mo_here.2.1 14 = .ok (.getfield 89, 3) := by decide +kernel
theorem d_Mo_here_17 : decode mt_Mo_here.2.1 17 = .ok (.aload_n 0, 1) := by decide +kernel
theorem d_Mo_here_18 : decode mt_Mo_here.2.1 18 = .ok (.getfield 203, 3) := by decide +kernel
theorem d_Mo_here_21 : decode mt_Mo_here.2.1 21 = .ok (.iload_n 1, 1) := by decide +kernel
theorem d_Mo_here_22 : decode mt_Mo_here.2.1 22 = .ok (.iadd, 1) := by decide +kernel
theorem d_Mo_here_23 : decode mt_Mo_here.2.1 23 = .ok (.iaload, 1) := by decide +kernel
theorem d_Mo_here_24 : decode mt_Mo_here.2.1 24 = .ok (.goto 4, 3) := by decide +kernel
theorem d_Mo_here_27 : decode mt_Mo_here.2.1 27 = .ok (.iconst (-1), 1) := by decide +kernel
theorem d_Mo_here_28 : decode mt_Mo_here.2.1 28 = .ok (.ireturn, 1) := by decide +kernel
theorem d_Mo_isLetter_0 : decode mt_Mo_isLetter.2.1 0 = .ok (.iload_n 0, 1) := by decide +kernel
theorem d_Mo_isLetter_1 : decode mt_Mo_isLetter.2.1 1 = .ok (.bipush 97, 2) := by decide +kernel
theorem d_Mo_isLetter_3 : decode mt_Mo_isLetter.2.1 3 = .ok (.if_icmp .lt 13, 3) := by decide +kernel
theorem d_Mo_isLetter_6 : decode mt_Mo_isLetter.2.1 6 = .ok (.iload_n 0, 1) := by decide +kernel
theorem d_Mo_isLetter_7 : decode mt_Mo_isLetter.2.1 7 = .ok (.bipush 122, 2) := by decide +kernel
theorem d_Mo_isLetter_9 : decode mt_Mo_isLetter.2.1 9 = .ok (.if_icmp .gt 7, 3) := by decide +kernel
theorem d_Mo_isLetter_12 : decode mt_Mo_isLetter.2.1 12 = .ok (.iconst 1, 1) := by decide +kernel
theorem d_Mo_isLetter_13 : decode mt_Mo_isLetter.2.1 13 = .ok (.goto 4, 3) := by decide +kernel
theorem d_Mo_isLetter_16 : decode mt_Mo_isLetter.2.1 16 = .ok (.iconst 0, 1) := by decide +kernel
theorem d_Mo_isLetter_17 : decode mt_Mo_isLetter.2.1 17 = .ok (.ireturn, 1) := by decide +kernel
theorem d_Mo_isDigit_0 : decode mt_Mo_isDigit.2.1 0 = .ok (.iload_n 0, 1) := by decide +kernel
theorem d_Mo_isDigit_1 : decode mt_Mo_isDigit.2.1 1 = .ok (.bipush 48, 2) := by decide +kernel
theorem d_Mo_isDigit_3 : decode mt_Mo_isDigit.2.1 3 = .ok (.if_icmp .lt 13, 3) := by decide +kernel
theorem d_Mo_isDigit_6 : decode mt_Mo_isDigit.2.1 6 = .ok (.iload_n 0, 1) := by decide +kernel
theorem d_Mo_isDigit_7 : decode mt_Mo_isDigit.2.1 7 = .ok (.bipush 57, 2) := by decide +kernel
theorem d_Mo_isDigit_9 : decode mt_Mo_isDigit.2.1 9 = .ok (.if_icmp .gt 7, 3) := by decide +kernel
theorem d_Mo_isDigit_12 : decode mt_Mo_isDigit.2.1 12 = .ok (.iconst 1, 1) := by decide +kernel
theorem d_Mo_isDigit_13 : decode mt_Mo_isDigit.2.1 13 = .ok (.goto 4, 3) := by decide +kernel
theorem d_Mo_isDigit_16 : decode mt_Mo_isDigit.2.1 16 = .ok (.iconst 0, 1) := by decide +kernel
theorem d_Mo_isDigit_17 : decode mt_Mo_isDigit.2.1 17 = .ok (.ireturn, 1) := by decide +kernel
theorem d_Mo_isSign_0 : decode mt_Mo_isSign.2.1 0 = .ok (.iload_n 0, 1) := by decide +kernel
theorem d_Mo_isSign_1 : decode mt_Mo_isSign.2.1 1 = .ok (.bipush 59, 2) := by decide +kernel
theorem d_Mo_isSign_3 : decode mt_Mo_isSign.2.1 3 = .ok (.if_icmp .eq 45, 3) := by decide +kernel
theorem d_Mo_isSign_6 : decode mt_Mo_isSign.2.1 6 = .ok (.iload_n 0, 1) := by decide +kernel
theorem d_Mo_isSign_7 : decode mt_Mo_isSign.2.1 7 = .ok (.bipush 61, 2) := by decide +kernel
theorem d_Mo_isSign_9 : decode mt_Mo_isSign.2.1 9 = .ok (.if_icmp .eq 39, 3) := by decide +kernel
theorem d_Mo_isSign_12 : decode mt_Mo_isSign.2.1 12 = .ok (.iload_n 0, 1) := by decide +kernel
theorem d_Mo_isSign_13 : decode mt_Mo_isSign.2.1 13 = .ok (.bipush 60, 2) := by decide +kernel
theorem d_Mo_isSign_15 : decode mt_Mo_isSign.2.1 15 = .ok (.if_icmp .eq 33, 3) := by decide +kernel
theorem d_Mo_isSign_18 : decode mt_Mo_isSign.2.1 18 = .ok (.iload_n 0, 1) := by decide +kernel
theorem d_Mo_isSign_19 : decode mt_Mo_isSign.2.1 19 = .ok (.bipush 62, 2) := by decide +kernel
theorem d_Mo_isSign_21 : decode mt_Mo_isSign.2.1 21 = .ok (.if_icmp .eq 27, 3) := by decide +kernel
theorem d_Mo_isSign_24 : decode mt_Mo_isSign.2.1 24 = .ok (.iload_n 0, 1) := by decide +kernel
theorem d_Mo_isSign_25 : decode mt_Mo_isSign.2.1 25 = .ok (.bipush 43, 2) := by decide +kernel
theorem d_Mo_isSign_27 : decode mt_Mo_isSign.2.1 27 = .ok (.if_icmp .eq 21, 3) := by decide +kernel
theorem d_Mo_isSign_30 : decode mt_Mo_isSign.2.1 30 = .ok (.iload_n 0, 1) := by decide +kernel
theorem d_Mo_isSign_31 : decode mt_Mo_isSign.2.1 31 = .ok (.bipush 45, 2) := by decide +kernel
theorem d_Mo_isSign_33 : decode mt_Mo_isSign.2.1 33 = .ok (.if_icmp .eq 15, 3) := by decide +kernel
theorem d_Mo_isSign_36 : decode mt_Mo_isSign.2.1 36 = .ok (.iload_n 0, 1) := by decide +kernel
theorem d_Mo_isSign_37 : decode mt_Mo_isSign.2.1 37 = .ok (.bipush 40, 2) := by decide +kernel
theorem d_Mo_isSign_39 : decode mt_Mo_isSign.2.1 39 = .ok (.if_icmp .eq 9, 3) := by decide +kernel
theorem d_Mo_isSign_42 : decode mt_Mo_isSign.2.1 42 = .ok (.iload_n 0, 1) := by decide +kernel
theorem d_Mo_isSign_43 : decode mt_Mo_isSign.2.1 43 = .ok (.bipush 41, 2) := by decide +kernel
theorem d_Mo_isSign_45 : decode mt_Mo_isSign.2.1 45 = .ok (.if_icmp .ne 7, 3) := by decide +kernel
theorem d_Mo_isSign_48 : decode mt_Mo_isSign.2.1 48 = .ok (.iconst 1, 1) := by decide +kernel
theorem d_Mo_isSign_49 : decode mt_Mo_isSign.2.1 49 = .ok (.goto 4, 3) := by decide +kernel
theorem d_Mo_isSign_52 : decode mt_Mo_isSign.2.1 52 = .ok (.iconst 0, 1) := by decide +kernel
theorem d_Mo_isSign_53 : decode mt_Mo_isSign.2.1 53 = .ok (.ireturn, 1) := by decide +kernel
theorem d_Mo_isWord_0 : decode mt_Mo_isWord.2.1 0 = .ok (.aload_n 0, 1) := by decide +kernel
theorem d_Mo_isWord_1 : decode mt_Mo_isWord.2.1 1 = .ok (.getfield 222, 3) := by decide +kernel
theorem d_Mo_isWord_4 : decode mt_Mo_isWord.2.1 4 = .ok (.iconst 1, 1) := by decide +kernel
theorem d_Mo_isWord_5 : decode mt_Mo_isWord.2.1 5 = .ok (.if_icmp .ne 16, 3) := by decide +kernel
theorem d_Mo_isWord_8 : decode mt_Mo_isWord.2.1 8 = .ok (.aload_n 0, 1) := by decide +kernel
theorem d_Mo_isWord_9 : decode mt_Mo_isWord.2.1 9 = .ok (.getfield 215, 3) := by decide +kernel
theorem d_Mo_isWord_12 : decode mt_Mo_isWord.2.1 12 = .ok (.lload_n 1, 1) := by decide +kernel
theorem d_Mo_isWord_13 : decode mt_Mo_isWord.2.1 13 = .ok (.lcmp, 1) := by decide +kernel
theorem d_Mo_isWord_14 : decode mt_Mo_isWord.2.1 14 = .ok (.ifCond .ne 7, 3) := by decide +kernel
theorem d_Mo_isWord_17 : decode mt_Mo_isWord.2.1 17 = .ok (.iconst 1, 1) := by decide +kernel
theorem d_Mo_isWord_18 : decode mt_Mo_isWord.2.1 18 = .ok (.goto 4, 3) := by decide +kernel
theorem d_Mo_isWord_21 : decode mt_Mo_isWord.2.1 21 = .ok (.iconst 0, 1) := by decide +kernel
theorem d_Mo_isWord_22 : decode mt_Mo_isWord.2.1 22 = .ok (.ireturn, 1) := by decide +kernel
theorem d_Mo_wrong_0 : decode mt_Mo_wrong.2.1 0 = .ok (.aload_n 0, 1) := by decide +kernel
theorem d_Mo_wrong_1 : decode mt_Mo_wrong.2.1 1 = .ok (.getfield 234, 3) := by decide +kernel
theorem d_Mo_wrong_4 : decode mt_Mo_wrong.2.1 4 = .ok (.ifCond .le 4, 3) := by decide +kernel
theorem d_Mo_wrong_7 : decode mt_Mo_wrong.2.1 7 = .ok (.return_, 1) := by decide +kernel
theorem d_Mo_wrong_8 : decode mt_Mo_wrong.2.1 8 = .ok (.aload_n 0, 1) := by decide +kernel
theorem d_Mo_wrong_9 : decode mt_Mo_wrong.2.1 9 = .ok (.aload_n 0, 1) := by decide +kernel
theorem d_Mo_wrong_10 : decode mt_Mo_wrong.2.1 10 = .ok (.getfield 222, 3) := by decide +kernel
theorem d_Mo_wrong_13 : decode mt_Mo_wrong.2.1 13 = .ok (.iconst 3, 1) := by decide +kernel
theorem d_Mo_wrong_14 : decode mt_Mo_wrong.2.1 14 = .ok (.if_icmp .ne 7, 3) := by decide +kernel
theorem d_Mo_wrong_17 : decode mt_Mo_wrong.2.1 17 = .ok (.iconst 1, 1) := by decide +kernel
theorem d_Mo_wrong_18 : decode mt_Mo_wrong.2.1 18 = .ok (.goto 4, 3) := by decide +kernel
theorem d_Mo_wrong_21 : decode mt_Mo_wrong.2.1 21 = .ok (.iload_n 1, 1) := by decide +kernel
theorem d_Mo_wrong_22 : decode mt_Mo_wrong.2.1 22 = .ok (.putfield 234, 3) := by decide +kernel
theorem d_Mo_wrong_25 : decode mt_Mo_wrong.2.1 25 = .ok (.aload_n 0, 1) := by decide +kernel
theorem d_Mo_wrong_26 : decode mt_Mo_wrong.2.1 26 = .ok (.aload_n 0, 1) := by decide +kernel
theorem d_Mo_wrong_27 : decode mt_Mo_wrong.2.1 27 = .ok (.getfield 212, 3) := by decide +kernel
theorem d_Mo_wrong_30 : decode mt_Mo_wrong.2.1 30 = .ok (.putfield 92, 3) := by decide +kernel
theorem d_Mo_wrong_33 : decode mt_Mo_wrong.2.1 33 = .ok (.return_, 1) := by decide +kernel
theorem d_Mo_readE_0 : decode mt_Mo_readE.2.1 0 = .ok (.aload_n 0, 1) := by decide +kernel
theorem d_Mo_readE_1 : decode mt_Mo_readE.2.1 1 = .ok (.iconst 0, 1) := by decide +kernel
theorem d_Mo_readE_2 : decode mt_Mo_readE.2.1 2 = .ok (.putfield 276, 3) := by decide +kernel
theorem d_Mo_readE_5 : decode mt_Mo_readE.2.1 5 = .ok (.aload_n 0, 1) := by decide +kernel
theorem d_Mo_readE_6 : decode mt_Mo_readE.2.1 6 = .ok (.iconst 0, 1) := by decide +kernel
theorem d_Mo_readE_7 : decode mt_Mo_readE.2.1 7 = .ok (.putfield 279, 3) := by decide +kernel
theorem d_Mo_readE_10 : decode mt_Mo_readE.2.1 10 = .ok (.iconst 0, 1) := by decide +kernel
theorem d_Mo_readE_11 : decode mt_Mo_readE.2.1 11 = .ok (.istore_n 1, 1) := by decide +kernel
theorem d_Mo_readE_12 : decode mt_Mo_readE.2.1 12 = .ok (.aload_n 0, 1) := by decide +kernel
theorem d_Mo_readE_13 : decode mt_Mo_readE.2.1 13 = .ok (.getfield 234, 3) := by decide +kernel
theorem d_Mo_readE_16 : decode mt_Mo_readE.2.1 16 = .ok (.ifCond .ne 47, 3) := by decide +kernel
theorem d_Mo_readE_19 : decode mt_Mo_readE.2.1 19 = .ok (.iload_n 1, 1) := by decide +kernel
theorem d_Mo_readE_20 : decode mt_Mo_readE.2.1 20 = .ok (.iconst 2, 1) := by decide +kernel
theorem d_Mo_readE_21 : decode mt_Mo_readE.2.1 21 = .ok (.if_icmp .ne 20, 3) := by decide +kernel
theorem d_Mo_readE_24 : decode mt_Mo_readE.2.1 24 = .ok (.aload_n 0, 1) := by decide +kernel
theorem d_Mo_readE_25 : decode mt_Mo_readE.2.1 25 = .ok (.ldc2_w 239, 3) := by decide +kernel
theorem d_Mo_readE_28 : decode mt_Mo_readE.2.1 28 = .ok (.invokevirtual 288, 3) := by decide +kernel
theorem d_Mo_readE_31 : decode mt_Mo_readE.2.1 31 = .ok (.ifCond .eq 10, 3) := by decide +kernel
theorem d_Mo_readE_34 : decode mt_Mo_readE.2.1 34 = .ok (.aload_n 0, 1) := by decide +kernel
theorem d_Mo_readE_35 : decode mt_Mo_readE.2.1 35 = .ok (.invokevirtual 292, 3) := by decide +kernel
theorem d_Mo_readE_38 : decode mt_Mo_readE.2.1 38 = .ok (.ifCond .eq 25, 3) := by decide +kernel
theorem d_Mo_readE_41 : decode mt_Mo_readE.2.1 41 = .ok (.iload_n 1, 1) := by decide +kernel
theorem d_Mo_readE_42 : decode mt_Mo_readE.2.1 42 = .ok (.iconst 2, 1) := by decide +kernel
theorem d_Mo_readE_43 : decode mt_Mo_readE.2.1 43 = .ok (.if_icmp .ne 11, 3) := by decide +kernel
theorem d_Mo_readE_46 : decode mt_Mo_readE.2.1 46 = .ok (.aload_n 0, 1) := by decide +kernel
theorem d_Mo_readE_47 : decode mt_Mo_readE.2.1 47 = .ok (.invokevirtual 296, 3) := by decide +kernel
theorem d_Mo_readE_50 : decode mt_Mo_readE.2.1 50 = .ok (.istore_n 1, 1) := by decide +kernel
theorem d_Mo_readE_51 : decode mt_Mo_readE.2.1 51 = .ok (.goto (-39), 3) := by decide +kernel
theorem d_Mo_readE_54 : decode mt_Mo_readE.2.1 54 = .ok (.aload_n 0, 1) := by decide +kernel
theorem d_Mo_readE_55 : decode mt_Mo_readE.2.1 55 = .ok (.iload_n 1, 1) := by decide +kernel
theorem d_Mo_readE_56 : decode mt_Mo_readE.2.1 56 = .ok (.invokevirtual 300, 3) := by decide +kernel
theorem d_Mo_readE_59 : decode mt_Mo_readE.2.1 59 = .ok (.istore_n 1, 1) := by decide +kernel
theorem d_Mo_readE_60 : decode mt_Mo_readE.2.1 60 = .ok (.goto (-48), 3) := by decide +kernel
theorem d_Mo_readE_63 : decode mt_Mo_readE.2.1 63 = .ok (.aload_n 0, 1) := by decide +kernel
theorem d_Mo_readE_64 : decode mt_Mo_readE.2.1 64 = .ok (.getfield 234, 3) := by decide +kernel
theorem d_Mo_readE_67 : decode mt_Mo_readE.2.1 67 = .ok (.ifCond .ne 8, 3) := by decide +kernel
theorem d_Mo_readE_70 : decode mt_Mo_readE.2.1 70 = .ok (.aload_n 0, 1) := by decide +kernel
theorem d_Mo_readE_71 : decode mt_Mo_readE.2.1 71 = .ok (.iconst 0, 1) := by decide +kernel
theorem d_Mo_readE_72 : decode mt_Mo_readE.2.1 72 = .ok (.invokevirtual 303, 3) := by decide +kernel
theorem d_Mo_readE_75 : decode mt_Mo_readE.2.1 75 = .ok (.return_, 1) := by decide +kernel
theorem d_Mo_isOpen_0 : decode mt_Mo_isOpen.2.1 0 = .ok (.iconst 0, 1) := by decide +kernel
theorem d_Mo_isOpen_1 : decode mt_Mo_isOpen.2.1 1 = .ok (.istore_n 1, 1) := by decide +kernel
theorem d_Mo_isOpen_2 : decode mt_Mo_isOpen.2.1 2 = .ok (.iconst 0, 1) := by decide +kernel
theorem d_Mo_isOpen_3 : decode mt_Mo_isOpen.2.1 3 = .ok (.istore_n 2, 1) := by decide +kernel
theorem d_Mo_isOpen_4 : decode mt_Mo_isOpen.2.1 4 = .ok (.iload_n 2, 1) := by decide +kernel
theorem d_Mo_isOpen_5 : decode mt_Mo_isOpen.2.1 5 = .ok (.aload_n 0, 1) := by decide +kernel
theorem d_Mo_isOpen_6 : decode mt_Mo_isOpen.2.1 6 = .ok (.getfield 276, 3) := by decide +kernel
theorem d_Mo_isOpen_9 : decode mt_Mo_isOpen.2.1 9 = .ok (.if_icmp .ge 30, 3) := by decide +kernel
theorem d_Mo_isOpen_12 : decode mt_Mo_isOpen.2.1 12 = .ok (.iload_n 1, 1) := by decide +kernel
theorem d_Mo_isOpen_13 : decode mt_Mo_isOpen.2.1 13 = .ok (.ifCond .ne 14, 3) := by decide +kernel
theorem d_Mo_isOpen_16 : decode mt_Mo_isOpen.2.1 16 = .ok (.aload_n 0, 1) := by decide +kernel
theorem d_Mo_isOpen_17 : decode mt_Mo_isOpen.2.1 17 = .ok (.getfield 96, 3) := by decide +kernel
theorem d_Mo_isOpen_20 : decode mt_Mo_isOpen.2.1 20 = .ok (.iload_n 2, 1) := by decide +kernel
theorem d_Mo_isOpen_21 : decode mt_Mo_isOpen.2.1 21 = .ok (.iaload, 1) := by decide +kernel
theorem d_Mo_isOpen_22 : decode mt_Mo_isOpen.2.1 22 = .ok (.bipush 48, 2) := by decide +kernel
theorem d_Mo_isOpen_24 : decode mt_Mo_isOpen.2.1 24 = .ok (.if_icmp .ne 7, 3) := by decide +kernel
theorem d_Mo_isOpen_27 : decode mt_Mo_isOpen.2.1 27 = .ok (.iconst 1, 1) := by decide +kernel
theorem d_Mo_isOpen_28 : decode mt_Mo_isOpen.2.1 28 = .ok (.goto 4, 3) := by decide +kernel
theorem d_Mo_isOpen_31 : decode mt_Mo_isOpen.2.1 31 = .ok (.iconst 0, 1) := by decide +kernel
theorem d_Mo_isOpen_32 : decode mt_Mo_isOpen.2.1 32 = .ok (.istore_n 1, 1) := by decide +kernel
theorem d_Mo_isOpen_33 : decode mt_Mo_isOpen.2.1 33 = .ok (.iinc 2 1, 3) := by decide +kernel
theorem d_Mo_isOpen_36 : decode mt_Mo_isOpen.2.1 36 = .ok (.goto (-32), 3) := by decide +kernel
theorem d_Mo_isOpen_39 : decode mt_Mo_isOpen.2.1 39 = .ok (.iload_n 1, 1) := by decide +kernel
theorem d_Mo_isOpen_40 : decode mt_Mo_isOpen.2.1 40 = .ok (.ireturn, 1) := by decide +kernel
theorem d_Mo_sign_0 : decode mt_Mo_sign.2.1 0 = .ok (.aload_n 0, 1) := by decide +kernel
theorem d_Mo_sign_1 : decode mt_Mo_sign.2.1 1 = .ok (.getfield 222, 3) := by decide +kernel
theorem d_Mo_sign_4 : decode mt_Mo_sign.2.1 4 = .ok (.bipush 43, 2) := by decide +kernel
theorem d_Mo_sign_6 : decode mt_Mo_sign.2.1 6 = .ok (.if_icmp .eq 12, 3) := by decide +kernel
theorem d_Mo_sign_9 : decode mt_Mo_sign.2.1 9 = .ok (.aload_n 0, 1) := by decide +kernel
theorem d_Mo_sign_10 : decode mt_Mo_sign.2.1 10 = .ok (.getfield 222, 3) := by decide +kernel
theorem d_Mo_sign_13 : decode mt_Mo_sign.2.1 13 = .ok (.bipush 45, 2) := by decide +kernel
theorem d_Mo_sign_15 : decode mt_Mo_sign.2.1 15 = .ok (.if_icmp .ne 35, 3) := by decide +kernel
theorem d_Mo_sign_18 : decode mt_Mo_sign.2.1 18 = .ok (.aload_n 0, 1) := by decide +kernel
theorem d_Mo_sign_19 : decode mt_Mo_sign.2.1 19 = .ok (.bipush 46, 2) := by decide +kernel
theorem d_Mo_sign_21 : decode mt_Mo_sign.2.1 21 = .ok (.invokevirtual 303, 3) := by decide +kernel
theorem d_Mo_sign_24 : decode mt_Mo_sign.2.1 24 = .ok (.aload_n 0, 1) := by decide +kernel
theorem d_Mo_sign_25 : decode mt_Mo_sign.2.1 25 = .ok (.aload_n 0, 1) := by decide +kernel
theorem d_Mo_sign_26 : decode mt_Mo_sign.2.1 26 = .ok (.getfield 222, 3) := by decide +kernel
theorem d_Mo_sign_29 : decode mt_Mo_sign.2.1 29 = .ok (.bipush 43, 2) := by decide +kernel
theorem d_Mo_sign_31 : decode mt_Mo_sign.2.1 31 = .ok (.if_icmp .ne 8, 3) := by decide +kernel
theorem d_Mo_sign_34 : decode mt_Mo_sign.2.1 34 = .ok (.bipush 46, 2) := by decide +kernel
theorem d_Mo_sign_36 : decode mt_Mo_sign.2.1 36 = .ok (.goto 5, 3) := by decide +kernel
theorem d_Mo_sign_39 : decode mt_Mo_sign.2.1 39 = .ok (.bipush 47, 2) := by decide +kernel
theorem d_Mo_sign_41 : decode mt_Mo_sign.2.1 41 = .ok (.invokevirtual 321, 3) := by decide +kernel
theorem d_Mo_sign_44 : decode mt_Mo_sign.2.1 44 = .ok (.aload_n 0, 1) := by decide +kernel
theorem d_Mo_sign_45 : decode mt_Mo_sign.2.1 45 = .ok (.invokevirtual 318, 3) := by decide +kernel
theorem d_Mo_sign_48 : decode mt_Mo_sign.2.1 48 = .ok (.iconst 1, 1) := by decide +kernel
theorem d_Mo_sign_49 : decode mt_Mo_sign.2.1 49 = .ok (.ireturn, 1) := by decide +kernel
theorem d_Mo_sign_50 : decode mt_Mo_sign.2.1 50 = .ok (.aload_n 0, 1) := by decide +kernel
theorem d_Mo_sign_51 : decode mt_Mo_sign.2.1 51 = .ok (.getfield 222, 3) := by decide +kernel
theorem d_Mo_sign_54 : decode mt_Mo_sign.2.1 54 = .ok (.bipush 61, 2) := by decide +kernel
theorem d_Mo_sign_56 : decode mt_Mo_sign.2.1 56 = .ok (.if_icmp .eq 21, 3) := by decide +kernel
theorem d_Mo_sign_59 : decode mt_Mo_sign.2.1 59 = .ok (.aload_n 0, 1) := by decide +kernel
theorem d_Mo_sign_60 : decode mt_Mo_sign.2.1 60 = .ok (.getfield 222, 3) := by decide +kernel
theorem d_Mo_sign_63 : decode mt_Mo_sign.2.1 63 = .ok (.bipush 60, 2) := by decide +kernel
theorem d_Mo_sign_65 : decode mt_Mo_sign.2.1 65 = .ok (.if_icmp .eq 12, 3) := by decide +kernel
theorem d_Mo_sign_68 : decode mt_Mo_sign.2.1 68 = .ok (.aload_n 0, 1) := by decide +kernel
theorem d_Mo_sign_69 : decode mt_Mo_sign.2.1 69 = .ok (.getfield 222, 3) := by decide +kernel
theorem d_Mo_sign_72 : decode mt_Mo_sign.2.1 72 = .ok (.bipush 62, 2) := by decide +kernel
theorem d_Mo_sign_74 : decode mt_Mo_sign.2.1 74 = .ok (.if_icmp .ne 98, 3) := by decide +kernel
theorem d_Mo_sign_77 : decode mt_Mo_sign.2.1 77 = .ok (.aload_n 0, 1) := by decide +kernel
theorem d_Mo_sign_78 : decode mt_Mo_sign.2.1 78 = .ok (.bipush 46, 2) := by decide +kernel
theorem d_Mo_sign_80 : decode mt_Mo_sign.2.1 80 = .ok (.invokevirtual 303, 3) := by decide +kernel
theorem d_Mo_sign_83 : decode mt_Mo_sign.2.1 83 = .ok (.aload_n 0, 1) := by decide +kernel
theorem d_Mo_sign_84 : decode mt_Mo_sign.2.1 84 = .ok (.getfield 276, 3) := by decide +kernel
theorem d_Mo_sign_87 : decode mt_Mo_sign.2.1 87 = .ok (.ifCond .ne 7, 3) := by decide +kernel
theorem d_Mo_sign_90 : decode mt_Mo_sign.2.1 90 = .ok (.iconst (-1), 1) := by decide +kernel
theorem d_Mo_sign_91 : decode mt_Mo_sign.2.1 91 = .ok (.goto 14, 3) := by decide +kernel
theorem d_Mo_sign_94 : decode mt_Mo_sign.2.1 94 = .ok (.aload_n 0, 1) := by decide +kernel
theorem d_Mo_sign_95 : decode mt_Mo_sign.2.1 95 = .ok (.getfield 96, 3) := by decide +kernel
theorem d_Mo_sign_98 : decode mt_Mo_sign.2.1 98 = .ok (.aload_n 0, 1) := by decide +kernel
theorem d_Mo_sign_99 : decode mt_Mo_sign.2.1 99 = .ok (.getfield 276, 3) := by decide +kernel
theorem d_Mo_sign_102 : decode mt_Mo_sign.2.1 102 = .ok (.iconst 1, 1) := by decide +kernel
theorem d_Mo_sign_103 : decode mt_Mo_sign.2.1 103 = .ok (.isub, 1) := by decide +kernel
theorem d_Mo_sign_104 : decode mt_Mo_sign.2.1 104 = .ok (.iaload, 1) := by decide +kernel
theorem d_Mo_sign_105 : decode mt_Mo_sign.2.1 105 = .ok (.istore_n 1, 1) := by decide +kernel
theorem d_Mo_sign_106 : decode mt_Mo_sign.2.1 106 = .ok (.iload_n 1, 1) := by decide +kernel
theorem d_Mo_sign_107 : decode mt_Mo_sign.2.1 107 = .ok (.bipush 43, 2) := by decide +kernel
theorem d_Mo_sign_109 : decode mt_Mo_sign.2.1 109 = .ok (.if_icmp .lt 14, 3) := by decide +kernel
theorem d_Mo_sign_112 : decode mt_Mo_sign.2.1 112 = .ok (.iload_n 1, 1) := by decide +kernel
theorem d_Mo_sign_113 : decode mt_Mo_sign.2.1 113 = .ok (.bipush 45, 2) := by decide +kernel
theorem d_Mo_sign_115 : decode mt_Mo_sign.2.1 115 = .ok (.if_icmp .gt 8, 3) := by decide +kernel
theorem d_Mo_sign_118 : decode mt_Mo_sign.2.1 118 = .ok (.aload_n 0, 1) := by decide +kernel
theorem d_Mo_sign_119 : decode mt_Mo_sign.2.1 119 = .ok (.iconst 2, 1) := by decide +kernel
theorem d_Mo_sign_120 : decode mt_Mo_sign.2.1 120 = .ok (.invokevirtual 309, 3) := by decide +kernel
theorem d_Mo_sign_123 : decode mt_Mo_sign.2.1 123 = .ok (.aload_n 0, 1) := by decide +kernel
theorem d_Mo_sign_124 : decode mt_Mo_sign.2.1 124 = .ok (.getfield 234, 3) := by decide +kernel
theorem d_Mo_sign_127 : decode mt_Mo_sign.2.1 127 = .ok (.ifCond .le 5, 3) := by decide +kernel
theorem d_Mo_sign_130 : decode mt_Mo_sign.2.1 130 = .ok (.iconst 2, 1) := by decide +kernel
theorem d_Mo_sign_131 : decode mt_Mo_sign.2.1 131 = .ok (.ireturn, 1) := by decide +kernel
theorem d_Mo_sign_132 : decode mt_Mo_sign.2.1 132 = .ok (.aload_n 0, 1) := by decide +kernel
theorem d_Mo_sign_133 : decode mt_Mo_sign.2.1 133 = .ok (.aload_n 0, 1) := by decide +kernel
theorem d_Mo_sign_134 : decode mt_Mo_sign.2.1 134 = .ok (.getfield 222, 3) := by decide +kernel
theorem d_Mo_sign_137 : decode mt_Mo_sign.2.1 137 = .ok (.bipush 61, 2) := by decide +kernel
theorem d_Mo_sign_139 : decode mt_Mo_sign.2.1 139 = .ok (.if_icmp .ne 8, 3) := by decide +kernel
theorem d_Mo_sign_142 : decode mt_Mo_sign.2.1 142 = .ok (.bipush 43, 2) := by decide +kernel
theorem d_Mo_sign_144 : decode mt_Mo_sign.2.1 144 = .ok (.goto 19, 3) := by decide +kernel
theorem d_Mo_sign_147 : decode mt_Mo_sign.2.1 147 = .ok (.aload_n 0, 1) := by decide +kernel
theorem d_Mo_sign_148 : decode mt_Mo_sign.2.1 148 = .ok (.getfield 222, 3) := by decide +kernel
theorem d_Mo_sign_151 : decode mt_Mo_sign.2.1 151 = .ok (.bipush 60, 2) := by decide +kernel
theorem d_Mo_sign_153 : decode mt_Mo_sign.2.1 153 = .ok (.if_icmp .ne 8, 3) := by decide +kernel
theorem d_Mo_sign_156 : decode mt_Mo_sign.2.1 156 = .ok (.bipush 44, 2) := by decide +kernel
theorem d_Mo_sign_158 : decode mt_Mo_sign.2.1 158 = .ok (.goto 5, 3) := by decide +kernel
theorem d_Mo_sign_161 : decode mt_Mo_sign.2.1 161 = .ok (.bipush 45, 2) := by decide +kernel
theorem d_Mo_sign_163 : decode mt_Mo_sign.2.1 163 = .ok (.invokevirtual 321, 3) := by decide +kernel
theorem d_Mo_sign_166 : decode mt_Mo_sign.2.1 166 = .ok (.aload_n 0, 1) := by decide +kernel
theorem d_Mo_sign_167 : decode mt_Mo_sign.2.1 167 = .ok (.invokevirtual 318, 3) := by decide +kernel
theorem d_Mo_sign_170 : decode mt_Mo_sign.2.1 170 = .ok (.iconst 1, 1) := by decide +kernel
theorem d_Mo_sign_171 : decode mt_Mo_sign.2.1 171 = .ok (.ireturn, 1) := by decide +kernel
theorem d_Mo_sign_172 : decode mt_Mo_sign.2.1 172 = .ok (.aload_n 0, 1) := by decide +kernel
theorem d_Mo_sign_173 : decode mt_Mo_sign.2.1 173 = .ok (.ldc2_w 249, 3) := by decide +kernel
theorem d_Mo_sign_176 : decode mt_Mo_sign.2.1 176 = .ok (.invokevirtual 288, 3) := by decide +kernel
theorem d_Mo_sign_179 : decode mt_Mo_sign.2.1 179 = .ok (.ifCond .ne 13, 3) := by decide +kernel
theorem d_Mo_sign_182 : decode mt_Mo_sign.2.1 182 = .ok (.aload_n 0, 1) := by decide +kernel
theorem d_Mo_sign_183 : decode mt_Mo_sign.2.1 183 = .ok (.ldc2_w 247, 3) := by decide +kernel
theorem d_Mo_sign_186 : decode mt_Mo_sign.2.1 186 = .ok (.invokevirtual 288, 3) := by decide +kernel
theorem d_Mo_sign_189 : decode mt_Mo_sign.2.1 189 = .ok (.ifCond .eq 37, 3) := by decide +kernel
theorem d_Mo_sign_192 : decode mt_Mo_sign.2.1 192 = .ok (.aload_n 0, 1) := by decide +kernel
theorem d_Mo_sign_193 : decode mt_Mo_sign.2.1 193 = .ok (.ldc2_w 249, 3) := by decide +kernel
theorem d_Mo_sign_196 : decode mt_Mo_sign.2.1 196 = .ok (.invokevirtual 288, 3) := by decide +kernel
theorem d_Mo_sign_199 : decode mt_Mo_sign.2.1 199 = .ok (.istore_n 1, 1) := by decide +kernel
theorem d_Mo_sign_200 : decode mt_Mo_sign.2.1 200 = .ok (.aload_n 0, 1) := by decide +kernel
theorem d_Mo_sign_201 : decode mt_Mo_sign.2.1 201 = .ok (.iload_n 1, 1) := by decide +kernel
theorem d_Mo_sign_202 : decode mt_Mo_sign.2.1 202 = .ok (.invokevirtual 324, 3) := by decide +kernel
theorem d_Mo_sign_205 : decode mt_Mo_sign.2.1 205 = .ok (.aload_n 0, 1) := by decide +kernel
theorem d_Mo_sign_206 : decode mt_Mo_sign.2.1 206 = .ok (.iload_n 1, 1) := by decide +kernel
theorem d_Mo_sign_207 : decode mt_Mo_sign.2.1 207 = .ok (.ifCond .eq 8, 3) := by decide +kernel
theorem d_Mo_sign_210 : decode mt_Mo_sign.2.1 210 = .ok (.bipush 42, 2) := by decide +kernel
theorem d_Mo_sign_212 : decode mt_Mo_sign.2.1 212 = .ok (.goto 5, 3) := by decide +kernel
theorem d_Mo_sign_215 : decode mt_Mo_sign.2.1 215 = .ok (.bipush 41, 2) := by decide +kernel
theorem d_Mo_sign_217 : decode mt_Mo_sign.2.1 217 = .ok (.invokevirtual 321, 3) := by decide +kernel
theorem d_Mo_sign_220 : decode mt_Mo_sign.2.1 220 = .ok (.aload_n 0, 1) := by decide +kernel
theorem d_Mo_sign_221 : decode mt_Mo_sign.2.1 221 = .ok (.invokevirtual 318, 3) := by decide +kernel
theorem d_Mo_sign_224 : decode mt_Mo_sign.2.1 224 = .ok (.iconst 0, 1) := by decide +kernel
theorem d_Mo_sign_225 : decode mt_Mo_sign.2.1 225 = .ok (.ireturn, 1) := by decide +kernel
theorem d_Mo_sign_226 : decode mt_Mo_sign.2.1 226 = .ok (.aload_n 0, 1) := by decide +kernel
theorem d_Mo_sign_227 : decode mt_Mo_sign.2.1 227 = .ok (.getfield 222, 3) := by decide +kernel
theorem d_Mo_sign_230 : decode mt_Mo_sign.2.1 230 = .ok (.bipush 41, 2) := by decide +kernel
theorem d_Mo_sign_232 : decode mt_Mo_sign.2.1 232 = .ok (.if_icmp .ne 41, 3) := by decide +kernel
theorem d_Mo_sign_235 : decode mt_Mo_sign.2.1 235 = .ok (.aload_n 0, 1) := by decide +kernel
theorem d_Mo_sign_236 : decode mt_Mo_sign.2.1 236 = .ok (.invokevirtual 292, 3) := by decide +kernel
theorem d_Mo_sign_239 : decode mt_Mo_sign.2.1 239 = .ok (.ifCond .eq 34, 3) := by decide +kernel
theorem d_Mo_sign_242 : decode mt_Mo_sign.2.1 242 = .ok (.aload_n 0, 1) := by decide +kernel
theorem d_Mo_sign_243 : decode mt_Mo_sign.2.1 243 = .ok (.iconst 0, 1) := by decide +kernel
theorem d_Mo_sign_244 : decode mt_Mo_sign.2.1 244 = .ok (.invokevirtual 303, 3) := by decide +kernel
theorem d_Mo_sign_247 : decode mt_Mo_sign.2.1 247 = .ok (.aload_n 0, 1) := by decide +kernel
theorem d_Mo_sign_248 : decode mt_Mo_sign.2.1 248 = .ok (.dup, 1) := by decide +kernel
theorem d_Mo_sign_249 : decode mt_Mo_sign.2.1 249 = .ok (.getfield 276, 3) := by decide +kernel
theorem d_Mo_sign_252 : decode mt_Mo_sign.2.1 252 = .ok (.iconst 1, 1) := by decide +kernel
theorem d_Mo_sign_253 : decode mt_Mo_sign.2.1 253 = .ok (.isub, 1) := by decide +kernel
theorem d_Mo_sign_254 : decode mt_Mo_sign.2.1 254 = .ok (.putfield 276, 3) := by decide +kernel
theorem d_Mo_sign_257 : decode mt_Mo_sign.2.1 257 = .ok (.aload_n 0, 1) := by decide +kernel
theorem d_Mo_sign_258 : decode mt_Mo_sign.2.1 258 = .ok (.dup, 1) := by decide +kernel
theorem d_Mo_sign_259 : decode mt_Mo_sign.2.1 259 = .ok (.getfield 279, 3) := by decide +kernel
theorem d_Mo_sign_262 : decode mt_Mo_sign.2.1 262 = .ok (.iconst 1, 1) := by decide +kernel
theorem d_Mo_sign_263 : decode mt_Mo_sign.2.1 263 = .ok (.isub, 1) := by decide +kernel
theorem d_Mo_sign_264 : decode mt_Mo_sign.2.1 264 = .ok (.putfield 279, 3) := by decide +kernel
theorem d_Mo_sign_267 : decode mt_Mo_sign.2.1 267 = .ok (.aload_n 0, 1) := by decide +kernel
theorem d_Mo_sign_268 : decode mt_Mo_sign.2.1 268 = .ok (.invokevirtual 318, 3) := by decide +kernel
theorem d_Mo_sign_271 : decode mt_Mo_sign.2.1 271 = .ok (.iconst 2, 1) := by decide +kernel
theorem d_Mo_sign_272 : decode mt_Mo_sign.2.1 272 = .ok (.ireturn, 1) := by decide +kernel
theorem d_Mo_sign_273 : decode mt_Mo_sign.2.1 273 = .ok (.aload_n 0, 1) := by decide +kernel
theorem d_Mo_sign_274 : decode mt_Mo_sign.2.1 274 = .ok (.iconst 2, 1) := by decide +kernel
theorem d_Mo_sign_275 : decode mt_Mo_sign.2.1 275 = .ok (.invokevirtual 309, 3) := by decide +kernel
theorem d_Mo_sign_278 : decode mt_Mo_sign.2.1 278 = .ok (.iconst 2, 1) := by decide +kernel
theorem d_Mo_sign_279 : decode mt_Mo_sign.2.1 279 = .ok (.ireturn, 1) := by decide +kernel
theorem d_Mo_settle_0 : decode mt_Mo_settle.2.1 0 = .ok (.aload_n 0, 1) := by decide +kernel
theorem d_Mo_settle_1 : decode mt_Mo_settle.2.1 1 = .ok (.getfield 276, 3) := by decide +kernel
theorem d_Mo_settle_4 : decode mt_Mo_settle.2.1 4 = .ok (.ifCond .le 41, 3) := by decide +kernel
theorem d_Mo_settle_7 : decode mt_Mo_settle.2.1 7 = .ok (.aload_n 0, 1) := by decide +kernel
theorem d_Mo_settle_8 : decode mt_Mo_settle.2.1 8 = .ok (.getfield 96, 3) := by decide +kernel
theorem d_Mo_settle_11 : decode mt_Mo_settle.2.1 11 = .ok (.aload_n 0, 1) := by decide +kernel
theorem d_Mo_settle_12 : decode mt_Mo_settle.2.1 12 = .ok (.getfield 276, 3) := by decide +kernel
theorem d_Mo_settle_15 : decode mt_Mo_settle.2.1 15 = .ok (.iconst 1, 1) := by decide +kernel
theorem d_Mo_settle_16 : decode mt_Mo_settle.2.1 16 = .ok (.isub, 1) := by decide +kernel
theorem d_Mo_settle_17 : decode mt_Mo_settle.2.1 17 = .ok (.iaload, 1) := by decide +kernel
theorem d_Mo_settle_18 : decode mt_Mo_settle.2.1 18 = .ok (.bipush 48, 2) := by decide +kernel
theorem d_Mo_settle_20 : decode mt_Mo_settle.2.1 20 = .ok (.if_icmp .eq 25, 3) := by decide +kernel
theorem d_Mo_settle_23 : decode mt_Mo_settle.2.1 23 = .ok (.aload_n 0, 1) := by decide +kernel
theorem d_Mo_settle_24 : decode mt_Mo_settle.2.1 24 = .ok (.getfield 96, 3) := by decide +kernel
theorem d_Mo_settle_27 : decode mt_Mo_settle.2.1 27 = .ok (.aload_n 0, 1) := by decide +kernel
theorem d_Mo_settle_28 : decode mt_Mo_settle.2.1 28 = .ok (.getfield 276, 3) := by decide +kernel
theorem d_Mo_settle_31 : decode mt_Mo_settle.2.1 31 = .ok (.iconst 1, 1) := by decide +kernel
theorem d_Mo_settle_32 : decode mt_Mo_settle.2.1 32 = .ok (.isub, 1) := by decide +kernel
theorem d_Mo_settle_33 : decode mt_Mo_settle.2.1 33 = .ok (.iaload, 1) := by decide +kernel
theorem d_Mo_settle_34 : decode mt_Mo_settle.2.1 34 = .ok (.iload_n 1, 1) := by decide +kernel
theorem d_Mo_settle_35 : decode mt_Mo_settle.2.1 35 = .ok (.if_icmp .lt 10, 3) := by decide +kernel
theorem d_Mo_settle_38 : decode mt_Mo_settle.2.1 38 = .ok (.aload_n 0, 1) := by decide +kernel
theorem d_Mo_settle_39 : decode mt_Mo_settle.2.1 39 = .ok (.invokevirtual 285, 3) := by decide +kernel
theorem d_Mo_settle_42 : decode mt_Mo_settle.2.1 42 = .ok (.goto (-42), 3) := by decide +kernel
theorem d_Mo_settle_45 : decode mt_Mo_settle.2.1 45 = .ok (.return_, 1) := by decide +kernel
theorem d_Mo_pop_0 : decode mt_Mo_pop.2.1 0 = .ok (.aload_n 0, 1) := by decide +kernel
theorem d_Mo_pop_1 : decode mt_Mo_pop.2.1 1 = .ok (.dup, 1) := by decide +kernel
theorem d_Mo_pop_2 : decode mt_Mo_pop.2.1 2 = .ok (.getfield 276, 3) := by decide +kernel
theorem d_Mo_pop_5 : decode mt_Mo_pop.2.1 5 = .ok (.iconst 1, 1) := by decide +kernel
theorem d_Mo_pop_6 : decode mt_Mo_pop.2.1 6 = .ok (.isub, 1) := by decide +kernel
theorem d_Mo_pop_7 : decode mt_Mo_pop.2.1 7 = .ok (.putfield 276, 3) := by decide +kernel
theorem d_Mo_pop_10 : decode mt_Mo_pop.2.1 10 = .ok (.aload_n 0, 1) := by decide +kernel
theorem d_Mo_pop_11 : decode mt_Mo_pop.2.1 11 = .ok (.getfield 96, 3) := by decide +kernel
theorem d_Mo_pop_14 : decode mt_Mo_pop.2.1 14 = .ok (.aload_n 0, 1) := by decide +kernel
theorem d_Mo_pop_15 : decode mt_Mo_pop.2.1 15 = .ok (.getfield 276, 3) := by decide +kernel
theorem d_Mo_pop_18 : decode mt_Mo_pop.2.1 18 = .ok (.iaload, 1) := by decide +kernel
theorem d_Mo_pop_19 : decode mt_Mo_pop.2.1 19 = .ok (.bipush 40, 2) := by decide +kernel
theorem d_Mo_pop_21 : decode mt_Mo_pop.2.1 21 = .ok (.if_icmp .ne 13, 3) := by decide +kernel
theorem d_Mo_pop_24 : decode mt_Mo_pop.2.1 24 = .ok (.aload_n 0, 1) := by decide +kernel
theorem d_Mo_pop_25 : decode mt_Mo_pop.2.1 25 = .ok (.dup, 1) := by decide +kernel
theorem d_Mo_pop_26 : decode mt_Mo_pop.2.1 26 = .ok (.getfield 279, 3) := by decide +kernel
theorem d_Mo_pop_29 : decode mt_Mo_pop.2.1 29 = .ok (.iconst 1, 1) := by decide +kernel
theorem d_Mo_pop_30 : decode mt_Mo_pop.2.1 30 = .ok (.isub, 1) := by decide +kernel
theorem d_Mo_pop_31 : decode mt_Mo_pop.2.1 31 = .ok (.putfield 279, 3) := by decide +kernel
theorem d_Mo_pop_34 : decode mt_Mo_pop.2.1 34 = .ok (.aload_n 0, 1) := by decide +kernel
theorem d_Mo_pop_35 : decode mt_Mo_pop.2.1 35 = .ok (.aload_n 0, 1) := by decide +kernel
theorem d_Mo_pop_36 : decode mt_Mo_pop.2.1 36 = .ok (.getfield 96, 3) := by decide +kernel
theorem d_Mo_pop_39 : decode mt_Mo_pop.2.1 39 = .ok (.aload_n 0, 1) := by decide +kernel
theorem d_Mo_pop_40 : decode mt_Mo_pop.2.1 40 = .ok (.getfield 276, 3) := by decide +kernel
theorem d_Mo_pop_43 : decode mt_Mo_pop.2.1 43 = .ok (.iaload, 1) := by decide +kernel
theorem d_Mo_pop_44 : decode mt_Mo_pop.2.1 44 = .ok (.iconst 0, 1) := by decide +kernel
theorem d_Mo_pop_45 : decode mt_Mo_pop.2.1 45 = .ok (.invokevirtual 282, 3) := by decide +kernel
theorem d_Mo_pop_48 : decode mt_Mo_pop.2.1 48 = .ok (.return_, 1) := by decide +kernel
theorem d_Mo_step_0 : decode mt_Mo_step.2.1 0 = .ok (.aload_n 0, 1) := by decide +kernel
theorem d_Mo_step_1 : decode mt_Mo_step.2.1 1 = .ok (.getfield 77, 3) := by decide +kernel
theorem d_Mo_step_4 : decode mt_Mo_step.2.1 4 = .ok (.aload_n 0, 1) := by decide +kernel
theorem d_Mo_step_5 : decode mt_Mo_step.2.1 5 = .ok (.getfield 273, 3) := by decide +kernel
theorem d_Mo_step_8 : decode mt_Mo_step.2.1 8 = .ok (.iload_n 1, 1) := by decide +kernel
theorem d_Mo_step_9 : decode mt_Mo_step.2.1 9 = .ok (.iastore, 1) := by decide +kernel
theorem d_Mo_step_10 : decode mt_Mo_step.2.1 10 = .ok (.aload_n 0, 1) := by decide +kernel
theorem d_Mo_step_11 : decode mt_Mo_step.2.1 11 = .ok (.getfield 80, 3) := by decide +kernel
theorem d_Mo_step_14 : decode mt_Mo_step.2.1 14 = .ok (.aload_n 0, 1) := by decide +kernel
theorem d_Mo_step_15 : decode mt_Mo_step.2.1 15 = .ok (.getfield 273, 3) := by decide +kernel
theorem d_Mo_step_18 : decode mt_Mo_step.2.1 18 = .ok (.iload_n 2, 1) := by decide +kernel
theorem d_Mo_step_19 : decode mt_Mo_step.2.1 19 = .ok (.iastore, 1) := by decide +kernel
theorem d_Mo_step_20 : decode mt_Mo_step.2.1 20 = .ok (.aload_n 0, 1) := by decide +kernel
theorem d_Mo_step_21 : decode mt_Mo_step.2.1 21 = .ok (.dup, 1) := by decide +kernel
theorem d_Mo_step_22 : decode mt_Mo_step.2.1 22 = .ok (.getfield 273, 3) := by decide +kernel
theorem d_Mo_step_25 : decode mt_Mo_step.2.1 25 = .ok (.iconst 1, 1) := by decide +kernel
theorem d_Mo_step_26 : decode mt_Mo_step.2.1 26 = .ok (.iadd, 1) := by decide +kernel
theorem d_Mo_step_27 : decode mt_Mo_step.2.1 27 = .ok (.putfield 273, 3) := by decide +kernel
theorem d_Mo_step_30 : decode mt_Mo_step.2.1 30 = .ok (.return_, 1) := by decide +kernel
theorem d_Mo_hold_0 : decode mt_Mo_hold.2.1 0 = .ok (.aload_n 0, 1) := by decide +kernel
theorem d_Mo_hold_1 : decode mt_Mo_hold.2.1 1 = .ok (.getfield 96, 3) := by decide +kernel
theorem d_Mo_hold_4 : decode mt_Mo_hold.2.1 4 = .ok (.aload_n 0, 1) := by decide +kernel
theorem d_Mo_hold_5 : decode mt_Mo_hold.2.1 5 = .ok (.getfield 276, 3) := by decide +kernel
theorem d_Mo_hold_8 : decode mt_Mo_hold.2.1 8 = .ok (.iload_n 1, 1) := by decide +kernel
theorem d_Mo_hold_9 : decode mt_Mo_hold.2.1 9 = .ok (.iastore, 1) := by decide +kernel
theorem d_Mo_hold_10 : decode mt_Mo_hold.2.1 10 = .ok (.aload_n 0, 1) := by decide +kernel
theorem d_Mo_hold_11 : decode mt_Mo_hold.2.1 11 = .ok (.dup, 1) := by decide +kernel
theorem d_Mo_hold_12 : decode mt_Mo_hold.2.1 12 = .ok (.getfield 276, 3) := by decide +kernel
theorem d_Mo_hold_15 : decode mt_Mo_hold.2.1 15 = .ok (.iconst 1, 1) := by decide +kernel
theorem d_Mo_hold_16 : decode mt_Mo_hold.2.1 16 = .ok (.iadd, 1) := by decide +kernel
theorem d_Mo_hold_17 : decode mt_Mo_hold.2.1 17 = .ok (.putfield 276, 3) := by decide +kernel
theorem d_Mo_hold_20 : decode mt_Mo_hold.2.1 20 = .ok (.iload_n 1, 1) := by decide +kernel
theorem d_Mo_hold_21 : decode mt_Mo_hold.2.1 21 = .ok (.bipush 48, 2) := by decide +kernel
theorem d_Mo_hold_23 : decode mt_Mo_hold.2.1 23 = .ok (.if_icmp .eq 9, 3) := by decide +kernel
theorem d_Mo_hold_26 : decode mt_Mo_hold.2.1 26 = .ok (.iload_n 1, 1) := by decide +kernel
theorem d_Mo_hold_27 : decode mt_Mo_hold.2.1 27 = .ok (.bipush 40, 2) := by decide +kernel
theorem d_Mo_hold_29 : decode mt_Mo_hold.2.1 29 = .ok (.if_icmp .ne 13, 3) := by decide +kernel
theorem d_Mo_hold_32 : decode mt_Mo_hold.2.1 32 = .ok (.aload_n 0, 1) := by decide +kernel
theorem d_Mo_hold_33 : decode mt_Mo_hold.2.1 33 = .ok (.dup, 1) := by decide +kernel
theorem d_Mo_hold_34 : decode mt_Mo_hold.2.1 34 = .ok (.getfield 279, 3) := by decide +kernel
theorem d_Mo_hold_37 : decode mt_Mo_hold.2.1 37 = .ok (.iconst 1, 1) := by decide +kernel
theorem d_Mo_hold_38 : decode mt_Mo_hold.2.1 38 = .ok (.iadd, 1) := by decide +kernel
theorem d_Mo_hold_39 : decode mt_Mo_hold.2.1 39 = .ok (.putfield 279, 3) := by decide +kernel
theorem d_Mo_hold_42 : decode mt_Mo_hold.2.1 42 = .ok (.return_, 1) := by decide +kernel
theorem d_Mo_settleOnes_0 : decode mt_Mo_settleOnes.2.1 0 = .ok (.iconst 1, 1) := by decide +kernel
theorem d_Mo_settleOnes_1 : decode mt_Mo_settleOnes.2.1 1 = .ok (.istore_n 2, 1) := by decide +kernel
theorem d_Mo_settleOnes_2 : decode mt_Mo_settleOnes.2.1 2 = .ok (.iload_n 2, 1) := by decide +kernel
theorem d_Mo_settleOnes_3 : decode mt_Mo_settleOnes.2.1 3 = .ok (.ifCond .eq 60, 3) := by decide +kernel
theorem d_Mo_settleOnes_6 : decode mt_Mo_settleOnes.2.1 6 = .ok (.aload_n 0, 1) := by decide +kernel
theorem d_Mo_settleOnes_7 : decode mt_Mo_settleOnes.2.1 7 = .ok (.getfield 276, 3) := by decide +kernel
theorem d_Mo_settleOnes_10 : decode mt_Mo_settleOnes.2.1 10 = .ok (.ifCond .ne 8, 3) := by decide +kernel
theorem d_Mo_settleOnes_13 : decode mt_Mo_settleOnes.2.1 13 = .ok (.bipush 48, 2) := by decide +kernel
theorem d_Mo_settleOnes_15 : decode mt_Mo_settleOnes.2.1 15 = .ok (.goto 14, 3) := by decide +kernel
theorem d_Mo_settleOnes_18 : decode mt_Mo_settleOnes.2.1 18 = .ok (.aload_n 0, 1) := by decide +kernel
theorem d_Mo_settleOnes_19 : decode mt_Mo_settleOnes.2.1 19 = .ok (.getfield 96, 3) := by decide +kernel
theorem d_Mo_settleOnes_22 : decode mt_Mo_settleOnes.2.1 22 = .ok (.aload_n 0, 1) := by decide +kernel
theorem d_Mo_settleOnes_23 : decode mt_Mo_settleOnes.2.1 23 = .ok (.getfield 276, 3) := by decide +kernel
theorem d_Mo_settleOnes_26 : decode mt_Mo_settleOnes.2.1 26 = .ok (.iconst 1, 1) := by decide +kernel
theorem d_Mo_settleOnes_27 : decode mt_Mo_settleOnes.2.1 27 = .ok (.isub, 1) := by decide +kernel
theorem d_Mo_settleOnes_28 : decode mt_Mo_settleOnes.2.1 28 = .ok (.iaload, 1) := by decide +kernel
theorem d_Mo_settleOnes_29 : decode mt_Mo_settleOnes.2.1 29 = .ok (.istore_n 3, 1) := by decide +kernel
theorem d_Mo_settleOnes_30 : decode mt_Mo_settleOnes.2.1 30 = .ok (.iload_n 3, 1) := by decide +kernel
theorem d_Mo_settleOnes_31 : decode mt_Mo_settleOnes.2.1 31 = .ok (.bipush 48, 2) := by decide +kernel
theorem d_Mo_settleOnes_33 : decode mt_Mo_settleOnes.2.1 33 = .ok (.if_icmp .eq 17, 3) := by decide +kernel
theorem d_Mo_settleOnes_36 : decode mt_Mo_settleOnes.2.1 36 = .ok (.iload_n 1, 1) := by decide +kernel
theorem d_Mo_settleOnes_37 : decode mt_Mo_settleOnes.2.1 37 = .ok (.ifCond .eq 9, 3) := by decide +kernel
theorem d_Mo_settleOnes_40 : decode mt_Mo_settleOnes.2.1 40 = .ok (.iload_n 3, 1) := by decide +kernel
theorem d_Mo_settleOnes_41 : decode mt_Mo_settleOnes.2.1 41 = .ok (.bipush 41, 2) := by decide +kernel
theorem d_Mo_settleOnes_43 : decode mt_Mo_settleOnes.2.1 43 = .ok (.if_icmp .eq 7, 3) := by decide +kernel
theorem d_Mo_settleOnes_46 : decode mt_Mo_settleOnes.2.1 46 = .ok (.iconst 1, 1) := by decide +kernel
theorem d_Mo_settleOnes_47 : decode mt_Mo_settleOnes.2.1 47 = .ok (.goto 4, 3) := by decide +kernel
theorem d_Mo_settleOnes_50 : decode mt_Mo_settleOnes.2.1 50 = .ok (.iconst 0, 1) := by decide +kernel
theorem d_Mo_settleOnes_51 : decode mt_Mo_settleOnes.2.1 51 = .ok (.istore_n 2, 1) := by decide +kernel
theorem d_Mo_settleOnes_52 : decode mt_Mo_settleOnes.2.1 52 = .ok (.iload_n 2, 1) := by decide +kernel
theorem d_Mo_settleOnes_53 : decode mt_Mo_settleOnes.2.1 53 = .ok (.ifCond .eq 7, 3) := by decide +kernel
theorem d_Mo_settleOnes_56 : decode mt_Mo_settleOnes.2.1 56 = .ok (.aload_n 0, 1) := by decide +kernel
theorem d_Mo_settleOnes_57 : decode mt_Mo_settleOnes.2.1 57 = .ok (.invokevirtual 285, 3) := by decide +kernel
theorem d_Mo_settleOnes_60 : decode mt_Mo_settleOnes.2.1 60 = .ok (.goto (-58), 3) := by decide +kernel
theorem d_Mo_settleOnes_63 : decode mt_Mo_settleOnes.2.1 63 = .ok (.return_, 1) := by decide +kernel
theorem d_Mo_operand_0 : decode mt_Mo_operand.2.1 0 = .ok (.aload_n 0, 1) := by decide +kernel
theorem d_Mo_operand_1 : decode mt_Mo_operand.2.1 1 = .ok (.getfield 222, 3) := by decide +kernel
theorem d_Mo_operand_4 : decode mt_Mo_operand.2.1 4 = .ok (.iconst 2, 1) := by decide +kernel
theorem d_Mo_operand_5 : decode mt_Mo_operand.2.1 5 = .ok (.if_icmp .eq 18, 3) := by decide +kernel
theorem d_Mo_operand_8 : decode mt_Mo_operand.2.1 8 = .ok (.aload_n 0, 1) := by decide +kernel
theorem d_Mo_operand_9 : decode mt_Mo_operand.2.1 9 = .ok (.getfield 222, 3) := by decide +kernel
theorem d_Mo_operand_12 : decode mt_Mo_operand.2.1 12 = .ok (.iconst 1, 1) := by decide +kernel
theorem d_Mo_operand_13 : decode mt_Mo_operand.2.1 13 = .ok (.if_icmp .ne 14, 3) := by decide +kernel
theorem d_Mo_operand_16 : decode mt_Mo_operand.2.1 16 = .ok (.aload_n 0, 1) := by decide +kernel
theorem d_Mo_operand_17 : decode mt_Mo_operand.2.1 17 = .ok (.invokevirtual 306, 3) := by decide +kernel
theorem d_Mo_operand_20 : decode mt_Mo_operand.2.1 20 = .ok (.ifCond .ne 7, 3) := by decide +kernel
theorem d_Mo_operand_23 : decode mt_Mo_operand.2.1 23 = .ok (.iconst 1, 1) := by decide +kernel
theorem d_Mo_operand_24 : decode mt_Mo_operand.2.1 24 = .ok (.goto 4, 3) := by decide +kernel
theorem d_Mo_operand_27 : decode mt_Mo_operand.2.1 27 = .ok (.iconst 0, 1) := by decide +kernel
theorem d_Mo_operand_28 : decode mt_Mo_operand.2.1 28 = .ok (.istore_n 2, 1) := by decide +kernel
theorem d_Mo_operand_29 : decode mt_Mo_operand.2.1 29 = .ok (.iload_n 1, 1) := by decide +kernel
theorem d_Mo_operand_30 : decode mt_Mo_operand.2.1 30 = .ok (.ifCond .ne 20, 3) := by decide +kernel
theorem d_Mo_operand_33 : decode mt_Mo_operand.2.1 33 = .ok (.aload_n 0, 1) := by decide +kernel
theorem d_Mo_operand_34 : decode mt_Mo_operand.2.1 34 = .ok (.getfield 279, 3) := by decide +kernel
theorem d_Mo_operand_37 : decode mt_Mo_operand.2.1 37 = .ok (.bipush 8, 2) := by decide +kernel
theorem d_Mo_operand_39 : decode mt_Mo_operand.2.1 39 = .ok (.if_icmp .lt 11, 3) := by decide +kernel
theorem d_Mo_operand_42 : decode mt_Mo_operand.2.1 42 = .ok (.aload_n 0, 1) := by decide +kernel
theorem d_Mo_operand_43 : decode mt_Mo_operand.2.1 43 = .ok (.iconst 2, 1) := by decide +kernel
theorem d_Mo_operand_44 : decode mt_Mo_operand.2.1 44 = .ok (.invokevirtual 309, 3) := by decide +kernel
theorem d_Mo_operand_47 : decode mt_Mo_operand.2.1 47 = .ok (.goto 151, 3) := by decide +kernel
theorem d_Mo_operand_50 : decode mt_Mo_operand.2.1 50 = .ok (.iload_n 2, 1) := by decide +kernel
theorem d_Mo_operand_51 : decode mt_Mo_operand.2.1 51 = .ok (.ifCond .eq 95, 3) := by decide +kernel
theorem d_Mo_operand_54 : decode mt_Mo_operand.2.1 54 = .ok (.aload_n 0, 1) := by decide +kernel
theorem d_Mo_operand_55 : decode mt_Mo_operand.2.1 55 = .ok (.getfield 222, 3) := by decide +kernel
theorem d_Mo_operand_58 : decode mt_Mo_operand.2.1 58 = .ok (.iconst 1, 1) := by decide +kernel
theorem d_Mo_operand_59 : decode mt_Mo_operand.2.1 59 = .ok (.if_icmp .ne 10, 3) := by decide +kernel
theorem d_Mo_operand_62 : decode mt_Mo_operand.2.1 62 = .ok (.aload_n 0, 1) := by decide +kernel
theorem d_Mo_operand_63 : decode mt_Mo_operand.2.1 63 = .ok (.invokevirtual 312, 3) := by decide +kernel
theorem d_Mo_operand_66 : decode mt_Mo_operand.2.1 66 = .ok (.goto 4, 3) := by decide +kernel
theorem d_Mo_operand_69 : decode mt_Mo_operand.2.1 69 = .ok (.iconst 0, 1) := by decide +kernel
theorem d_Mo_operand_70 : decode mt_Mo_operand.2.1 70 = .ok (.istore_n 3, 1) := by decide +kernel
theorem d_Mo_operand_71 : decode mt_Mo_operand.2.1 71 = .ok (.aload_n 0, 1) := by decide +kernel
theorem d_Mo_operand_72 : decode mt_Mo_operand.2.1 72 = .ok (.getfield 315, 3) := by decide +kernel
theorem d_Mo_operand_75 : decode mt_Mo_operand.2.1 75 = .ok (.bipush 80, 2) := by decide +kernel
theorem d_Mo_operand_77 : decode mt_Mo_operand.2.1 77 = .ok (.if_icmp .ne 11, 3) := by decide +kernel
theorem d_Mo_operand_80 : decode mt_Mo_operand.2.1 80 = .ok (.aload_n 0, 1) := by decide +kernel
theorem d_Mo_operand_81 : decode mt_Mo_operand.2.1 81 = .ok (.iconst 2, 1) := by decide +kernel
theorem d_Mo_operand_82 : decode mt_Mo_operand.2.1 82 = .ok (.invokevirtual 309, 3) := by decide +kernel
theorem d_Mo_operand_85 : decode mt_Mo_operand.2.1 85 = .ok (.goto 12, 3) := by decide +kernel
theorem d_Mo_operand_88 : decode mt_Mo_operand.2.1 88 = .ok (.iload_n 3, 1) := by decide +kernel
theorem d_Mo_operand_89 : decode mt_Mo_operand.2.1 89 = .ok (.ifCond .ge 8, 3) := by decide +kernel
theorem d_Mo_operand_92 : decode mt_Mo_operand.2.1 92 = .ok (.aload_n 0, 1) := by decide +kernel
theorem d_Mo_operand_93 : decode mt_Mo_operand.2.1 93 = .ok (.iconst 3, 1) := by decide +kernel
theorem d_Mo_operand_94 : decode mt_Mo_operand.2.1 94 = .ok (.invokevirtual 309, 3) := by decide +kernel
theorem d_Mo_operand_97 : decode mt_Mo_operand.2.1 97 = .ok (.aload_n 0, 1) := by decide +kernel
theorem d_Mo_operand_98 : decode mt_Mo_operand.2.1 98 = .ok (.getfield 234, 3) := by decide +kernel
theorem d_Mo_operand_101 : decode mt_Mo_operand.2.1 101 = .ok (.ifCond .le 5, 3) := by decide +kernel
theorem d_Mo_operand_104 : decode mt_Mo_operand.2.1 104 = .ok (.iload_n 1, 1) := by decide +kernel
theorem d_Mo_operand_105 : decode mt_Mo_operand.2.1 105 = .ok (.ireturn, 1) := by decide +kernel
theorem d_Mo_operand_106 : decode mt_Mo_operand.2.1 106 = .ok (.aload_n 0, 1) := by decide +kernel
theorem d_Mo_operand_107 : decode mt_Mo_operand.2.1 107 = .ok (.aload_n 0, 1) := by decide +kernel
theorem d_Mo_operand_108 : decode mt_Mo_operand.2.1 108 = .ok (.getfield 222, 3) := by decide +kernel
theorem d_Mo_operand_111 : decode mt_Mo_operand.2.1 111 = .ok (.iconst 2, 1) := by decide +kernel
theorem d_Mo_operand_112 : decode mt_Mo_operand.2.1 112 = .ok (.if_icmp .ne 7, 3) := by decide +kernel
theorem d_Mo_operand_115 : decode mt_Mo_operand.2.1 115 = .ok (.iconst 0, 1) := by decide +kernel
theorem d_Mo_operand_116 : decode mt_Mo_operand.2.1 116 = .ok (.goto 7, 3) := by decide +kernel
theorem d_Mo_operand_119 : decode mt_Mo_operand.2.1 119 = .ok (.bipush 20, 2) := by decide +kernel
theorem d_Mo_operand_121 : decode mt_Mo_operand.2.1 121 = .ok (.iload_n 3, 1) := by decide +kernel
theorem d_Mo_operand_122 : decode mt_Mo_operand.2.1 122 = .ok (.iadd, 1) := by decide +kernel
theorem d_Mo_operand_123 : decode mt_Mo_operand.2.1 123 = .ok (.aload_n 0, 1) := by decide +kernel
theorem d_Mo_operand_124 : decode mt_Mo_operand.2.1 124 = .ok (.getfield 219, 3) := by decide +kernel
theorem d_Mo_operand_127 : decode mt_Mo_operand.2.1 127 = .ok (.invokevirtual 282, 3) := by decide +kernel
theorem d_Mo_operand_130 : decode mt_Mo_operand.2.1 130 = .ok (.aload_n 0, 1) := by decide +kernel
theorem d_Mo_operand_131 : decode mt_Mo_operand.2.1 131 = .ok (.dup, 1) := by decide +kernel
theorem d_Mo_operand_132 : decode mt_Mo_operand.2.1 132 = .ok (.getfield 315, 3) := by decide +kernel
theorem d_Mo_operand_135 : decode mt_Mo_operand.2.1 135 = .ok (.iconst 1, 1) := by decide +kernel
theorem d_Mo_operand_136 : decode mt_Mo_operand.2.1 136 = .ok (.iadd, 1) := by decide +kernel
theorem d_Mo_operand_137 : decode mt_Mo_operand.2.1 137 = .ok (.putfield 315, 3) := by decide +kernel
theorem d_Mo_operand_140 : decode mt_Mo_operand.2.1 140 = .ok (.aload_n 0, 1) := by decide +kernel
theorem d_Mo_operand_141 : decode mt_Mo_operand.2.1 141 = .ok (.invokevirtual 318, 3) := by decide +kernel
theorem d_Mo_operand_144 : decode mt_Mo_operand.2.1 144 = .ok (.iconst 2, 1) := by decide +kernel
theorem d_Mo_operand_145 : decode mt_Mo_operand.2.1 145 = .ok (.ireturn, 1) := by decide +kernel
theorem d_Mo_operand_146 : decode mt_Mo_operand.2.1 146 = .ok (.aload_n 0, 1) := by decide +kernel
theorem d_Mo_operand_147 : decode mt_Mo_operand.2.1 147 = .ok (.getfield 222, 3) := by decide +kernel
theorem d_Mo_operand_150 : decode mt_Mo_operand.2.1 150 = .ok (.bipush 40, 2) := by decide +kernel
theorem d_Mo_operand_152 : decode mt_Mo_operand.2.1 152 = .ok (.if_icmp .ne 15, 3) := by decide +kernel
theorem d_Mo_operand_155 : decode mt_Mo_operand.2.1 155 = .ok (.aload_n 0, 1) := by decide +kernel
theorem d_Mo_operand_156 : decode mt_Mo_operand.2.1 156 = .ok (.bipush 48, 2) := by decide +kernel
theorem d_Mo_operand_158 : decode mt_Mo_operand.2.1 158 = .ok (.invokevirtual 321, 3) := by decide +kernel
theorem d_Mo_operand_161 : decode mt_Mo_operand.2.1 161 = .ok (.aload_n 0, 1) := by decide +kernel
theorem d_Mo_operand_162 : decode mt_Mo_operand.2.1 162 = .ok (.invokevirtual 318, 3) := by decide +kernel
theorem d_Mo_operand_165 : decode mt_Mo_operand.2.1 165 = .ok (.iconst 0, 1) := by decide +kernel
theorem d_Mo_operand_166 : decode mt_Mo_operand.2.1 166 = .ok (.ireturn, 1) := by decide +kernel
theorem d_Mo_operand_167 : decode mt_Mo_operand.2.1 167 = .ok (.iload_n 1, 1) := by decide +kernel
theorem d_Mo_operand_168 : decode mt_Mo_operand.2.1 168 = .ok (.ifCond .ne 25, 3) := by decide +kernel
theorem d_Mo_operand_171 : decode mt_Mo_operand.2.1 171 = .ok (.aload_n 0, 1) := by decide +kernel
theorem d_Mo_operand_172 : decode mt_Mo_operand.2.1 172 = .ok (.ldc2_w 251, 3) := by decide +kernel
theorem d_Mo_operand_175 : decode mt_Mo_operand.2.1 175 = .ok (.invokevirtual 288, 3) := by decide +kernel
theorem d_Mo_operand_178 : decode mt_Mo_operand.2.1 178 = .ok (.ifCond .eq 15, 3) := by decide +kernel
theorem d_Mo_operand_181 : decode mt_Mo_operand.2.1 181 = .ok (.aload_n 0, 1) := by decide +kernel
theorem d_Mo_operand_182 : decode mt_Mo_operand.2.1 182 = .ok (.bipush 40, 2) := by decide +kernel
theorem d_Mo_operand_184 : decode mt_Mo_operand.2.1 184 = .ok (.invokevirtual 321, 3) := by decide +kernel
theorem d_Mo_operand_187 : decode mt_Mo_operand.2.1 187 = .ok (.aload_n 0, 1) := by decide +kernel
theorem d_Mo_operand_188 : decode mt_Mo_operand.2.1 188 = .ok (.invokevirtual 318, 3) := by decide +kernel
theorem d_Mo_operand_191 : decode mt_Mo_operand.2.1 191 = .ok (.iconst 0, 1) := by decide +kernel
theorem d_Mo_operand_192 : decode mt_Mo_operand.2.1 192 = .ok (.ireturn, 1) := by decide +kernel
theorem d_Mo_operand_193 : decode mt_Mo_operand.2.1 193 = .ok (.aload_n 0, 1) := by decide +kernel
theorem d_Mo_operand_194 : decode mt_Mo_operand.2.1 194 = .ok (.iconst 2, 1) := by decide +kernel
theorem d_Mo_operand_195 : decode mt_Mo_operand.2.1 195 = .ok (.invokevirtual 309, 3) := by decide +kernel
theorem d_Mo_operand_198 : decode mt_Mo_operand.2.1 198 = .ok (.iload_n 1, 1) := by decide +kernel
theorem d_Mo_operand_199 : decode mt_Mo_operand.2.1 199 = .ok (.ireturn, 1) := by decide +kernel
theorem d_Mo_isKey_0 : decode mt_Mo_isKey.2.1 0 = .ok (.aload_n 0, 1) := by decide +kernel
theorem d_Mo_isKey_1 : decode mt_Mo_isKey.2.1 1 = .ok (.getfield 215, 3) := by decide +kernel
theorem d_Mo_isKey_4 : decode mt_Mo_isKey.2.1 4 = .ok (.ldc2_w 237, 3) := by decide +kernel
theorem d_Mo_isKey_7 : decode mt_Mo_isKey.2.1 7 = .ok (.lcmp, 1) := by decide +kernel
theorem d_Mo_isKey_8 : decode mt_Mo_isKey.2.1 8 = .ok (.ifCond .eq 80, 3) := by decide +kernel
theorem d_Mo_isKey_11 : decode mt_Mo_isKey.2.1 11 = .ok (.aload_n 0, 1) := by decide +kernel
theorem d_Mo_isKey_12 : decode mt_Mo_isKey.2.1 12 = .ok (.getfield 215, 3) := by decide +kernel
theorem d_Mo_isKey_15 : decode mt_Mo_isKey.2.1 15 = .ok (.ldc2_w 239, 3) := by decide +kernel
theorem d_Mo_isKey_18 : decode mt_Mo_isKey.2.1 18 = .ok (.lcmp, 1) := by decide +kernel
theorem d_Mo_isKey_19 : decode mt_Mo_isKey.2.1 19 = .ok (.ifCond .eq 69, 3) := by decide +kernel
theorem d_Mo_isKey_22 : decode mt_Mo_isKey.2.1 22 = .ok (.aload_n 0, 1) := by decide +kernel
theorem d_Mo_isKey_23 : decode mt_Mo_isKey.2.1 23 = .ok (.getfield 215, 3) := by decide +kernel
theorem d_Mo_isKey_26 : decode mt_Mo_isKey.2.1 26 = .ok (.ldc2_w 241, 3) := by decide +kernel
theorem d_Mo_isKey_29 : decode mt_Mo_isKey.2.1 29 = .ok (.lcmp, 1) := by decide +kernel
theorem d_Mo_isKey_30 : decode mt_Mo_isKey.2.1 30 = .ok (.ifCond .eq 58, 3) := by decide +kernel
theorem d_Mo_isKey_33 : decode mt_Mo_isKey.2.1 33 = .ok (.aload_n 0, 1) := by decide +kernel
theorem d_Mo_isKey_34 : decode mt_Mo_isKey.2.1 34 = .ok (.getfield 215, 3) := by decide +kernel
theorem d_Mo_isKey_37 : decode mt_Mo_isKey.2.1 37 = .ok (.ldc2_w 243, 3) := by decide +kernel
theorem d_Mo_isKey_40 : decode mt_Mo_isKey.2.1 40 = .ok (.lcmp, 1) := by decide +kernel
theorem d_Mo_isKey_41 : decode mt_Mo_isKey.2.1 41 = .ok (.ifCond .eq 47, 3) := by decide +kernel
theorem d_Mo_isKey_44 : decode mt_Mo_isKey.2.1 44 = .ok (.aload_n 0, 1) := by decide +kernel
theorem d_Mo_isKey_45 : decode mt_Mo_isKey.2.1 45 = .ok (.getfield 215, 3) := by decide +kernel
theorem d_Mo_isKey_48 : decode mt_Mo_isKey.2.1 48 = .ok (.ldc2_w 245, 3) := by decide +kernel
theorem d_Mo_isKey_51 : decode mt_Mo_isKey.2.1 51 = .ok (.lcmp, 1) := by decide +kernel
theorem d_Mo_isKey_52 : decode mt_Mo_isKey.2.1 52 = .ok (.ifCond .eq 36, 3) := by decide +kernel
theorem d_Mo_isKey_55 : decode mt_Mo_isKey.2.1 55 = .ok (.aload_n 0, 1) := by decide +kernel
theorem d_Mo_isKey_56 : decode mt_Mo_isKey.2.1 56 = .ok (.getfield 215, 3) := by decide +kernel
theorem d_Mo_isKey_59 : decode mt_Mo_isKey.2.1 59 = .ok (.ldc2_w 247, 3) := by decide +kernel
theorem d_Mo_isKey_62 : decode mt_Mo_isKey.2.1 62 = .ok (.lcmp, 1) := by decide +kernel
theorem d_Mo_isKey_63 : decode mt_Mo_isKey.2.1 63 = .ok (.ifCond .eq 25, 3) := by decide +kernel
theorem d_Mo_isKey_66 : decode mt_Mo_isKey.2.1 66 = .ok (.aload_n 0, 1) := by decide +kernel
theorem d_Mo_isKey_67 : decode mt_Mo_isKey.2.1 67 = .ok (.getfield 215, 3) := by decide +kernel
theorem d_Mo_isKey_70 : decode mt_Mo_isKey.2.1 70 = .ok (.ldc2_w 249, 3) := by decide +kernel
theorem d_Mo_isKey_73 : decode mt_Mo_isKey.2.1 73 = .ok (.lcmp, 1) := by decide +kernel
theorem d_Mo_isKey_74 : decode mt_Mo_isKey.2.1 74 = .ok (.ifCond .eq 14, 3) := by decide +kernel
theorem d_Mo_isKey_77 : decode mt_Mo_isKey.2.1 77 = .ok (.aload_n 0, 1) := by decide +kernel
theorem d_Mo_isKey_78 : decode mt_Mo_isKey.2.1 78 = .ok (.getfield 215, 3) := by decide +kernel
theorem d_Mo_isKey_81 : decode mt_Mo_isKey.2.1 81 = .ok (.ldc2_w 251, 3) := by decide +kernel
theorem d_Mo_isKey_84 : decode mt_Mo_isKey.2.1 84 = .ok (.lcmp, 1) := by decide +kernel
theorem d_Mo_isKey_85 : decode mt_Mo_isKey.2.1 85 = .ok (.ifCond .ne 7, 3) := by decide +kernel
theorem d_Mo_isKey_88 : decode mt_Mo_isKey.2.1 88 = .ok (.iconst 1, 1) := by decide +kernel
theorem d_Mo_isKey_89 : decode mt_Mo_isKey.2.1 89 = .ok (.goto 4, 3) := by decide +kernel
theorem d_Mo_isKey_92 : decode mt_Mo_isKey.2.1 92 = .ok (.iconst 0, 1) := by decide +kernel
theorem d_Mo_isKey_93 : decode mt_Mo_isKey.2.1 93 = .ok (.ireturn, 1) := by decide +kernel
theorem d_Mo_named_0 : decode mt_Mo_named.2.1 0 = .ok (.aload_n 0, 1) := by decide +kernel
theorem d_Mo_named_1 : decode mt_Mo_named.2.1 1 = .ok (.getfield 215, 3) := by decide +kernel
theorem d_Mo_named_4 : decode mt_Mo_named.2.1 4 = .ok (.ldc2_w 253, 3) := by decide +kernel
theorem d_Mo_named_7 : decode mt_Mo_named.2.1 7 = .ok (.lcmp, 1) := by decide +kernel
theorem d_Mo_named_8 : decode mt_Mo_named.2.1 8 = .ok (.ifCond .ne 5, 3) := by decide +kernel
theorem d_Mo_named_11 : decode mt_Mo_named.2.1 11 = .ok (.iconst 0, 1) := by decide +kernel
theorem d_Mo_named_12 : decode mt_Mo_named.2.1 12 = .ok (.ireturn, 1) := by decide +kernel
theorem d_Mo_named_13 : decode mt_Mo_named.2.1 13 = .ok (.aload_n 0, 1) := by decide +kernel
theorem d_Mo_named_14 : decode mt_Mo_named.2.1 14 = .ok (.getfield 215, 3) := by decide +kernel
theorem d_Mo_named_17 : decode mt_Mo_named.2.1 17 = .ok (.ldc2_w 255, 3) := by decide +kernel
theorem d_Mo_named_20 : decode mt_Mo_named.2.1 20 = .ok (.lcmp, 1) := by decide +kernel
theorem d_Mo_named_21 : decode mt_Mo_named.2.1 21 = .ok (.ifCond .ne 5, 3) := by decide +kernel
theorem d_Mo_named_24 : decode mt_Mo_named.2.1 24 = .ok (.iconst 1, 1) := by decide +kernel
theorem d_Mo_named_25 : decode mt_Mo_named.2.1 25 = .ok (.ireturn, 1) := by decide +kernel
theorem d_Mo_named_26 : decode mt_Mo_named.2.1 26 = .ok (.aload_n 0, 1) := by decide +kernel
theorem d_Mo_named_27 : decode mt_Mo_named.2.1 27 = .ok (.getfield 215, 3) := by decide +kernel
theorem d_Mo_named_30 : decode mt_Mo_named.2.1 30 = .ok (.ldc2_w 257, 3) := by decide +kernel
theorem d_Mo_named_33 : decode mt_Mo_named.2.1 33 = .ok (.lcmp, 1) := by decide +kernel
theorem d_Mo_named_34 : decode mt_Mo_named.2.1 34 = .ok (.ifCond .ne 5, 3) := by decide +kernel
theorem d_Mo_named_37 : decode mt_Mo_named.2.1 37 = .ok (.iconst 2, 1) := by decide +kernel
theorem d_Mo_named_38 : decode mt_Mo_named.2.1 38 = .ok (.ireturn, 1) := by decide +kernel
theorem d_Mo_named_39 : decode mt_Mo_named.2.1 39 = .ok (.aload_n 0, 1) := by decide +kernel
theorem d_Mo_named_40 : decode mt_Mo_named.2.1 40 = .ok (.getfield 215, 3) := by decide +kernel
theorem d_Mo_named_43 : decode mt_Mo_named.2.1 43 = .ok (.ldc2_w 259, 3) := by decide +kernel
theorem d_Mo_named_46 : decode mt_Mo_named.2.1 46 = .ok (.lcmp, 1) := by decide +kernel
theorem d_Mo_named_47 : decode mt_Mo_named.2.1 47 = .ok (.ifCond .ne 5, 3) := by decide +kernel
theorem d_Mo_named_50 : decode mt_Mo_named.2.1 50 = .ok (.iconst 3, 1) := by decide +kernel
theorem d_Mo_named_51 : decode mt_Mo_named.2.1 51 = .ok (.ireturn, 1) := by decide +kernel
theorem d_Mo_named_52 : decode mt_Mo_named.2.1 52 = .ok (.aload_n 0, 1) := by decide +kernel
theorem d_Mo_named_53 : decode mt_Mo_named.2.1 53 = .ok (.getfield 215, 3) := by decide +kernel
theorem d_Mo_named_56 : decode mt_Mo_named.2.1 56 = .ok (.ldc2_w 261, 3) := by decide +kernel
theorem d_Mo_named_59 : decode mt_Mo_named.2.1 59 = .ok (.lcmp, 1) := by decide +kernel
theorem d_Mo_named_60 : decode mt_Mo_named.2.1 60 = .ok (.ifCond .ne 5, 3) := by decide +kernel
theorem d_Mo_named_63 : decode mt_Mo_named.2.1 63 = .ok (.iconst 4, 1) := by decide +kernel
theorem d_Mo_named_64 : decode mt_Mo_named.2.1 64 = .ok (.ireturn, 1) := by decide +kernel
theorem d_Mo_named_65 : decode mt_Mo_named.2.1 65 = .ok (.aload_n 0, 1) := by decide +kernel
theorem d_Mo_named_66 : decode mt_Mo_named.2.1 66 = .ok (.getfield 215, 3) := by decide +kernel
theorem d_Mo_named_69 : decode mt_Mo_named.2.1 69 = .ok (.ldc2_w 263, 3) := by decide +kernel
theorem d_Mo_named_72 : decode mt_Mo_named.2.1 72 = .ok (.lcmp, 1) := by decide +kernel
theorem d_Mo_named_73 : decode mt_Mo_named.2.1 73 = .ok (.ifCond .ne 5, 3) := by decide +kernel
theorem d_Mo_named_76 : decode mt_Mo_named.2.1 76 = .ok (.iconst 5, 1) := by decide +kernel
theorem d_Mo_named_77 : decode mt_Mo_named.2.1 77 = .ok (.ireturn, 1) := by decide +kernel
theorem d_Mo_named_78 : decode mt_Mo_named.2.1 78 = .ok (.aload_n 0, 1) := by decide +kernel
theorem d_Mo_named_79 : decode mt_Mo_named.2.1 79 = .ok (.getfield 215, 3) := by decide +kernel
theorem d_Mo_named_82 : decode mt_Mo_named.2.1 82 = .ok (.ldc2_w 265, 3) := by decide +kernel
theorem d_Mo_named_85 : decode mt_Mo_named.2.1 85 = .ok (.lcmp, 1) := by decide +kernel
theorem d_Mo_named_86 : decode mt_Mo_named.2.1 86 = .ok (.ifCond .ne 6, 3) := by decide +kernel
theorem d_Mo_named_89 : decode mt_Mo_named.2.1 89 = .ok (.bipush 6, 2) := by decide +kernel
theorem d_Mo_named_91 : decode mt_Mo_named.2.1 91 = .ok (.ireturn, 1) := by decide +kernel
theorem d_Mo_named_92 : decode mt_Mo_named.2.1 92 = .ok (.aload_n 0, 1) := by decide +kernel
theorem d_Mo_named_93 : decode mt_Mo_named.2.1 93 = .ok (.getfield 215, 3) := by decide +kernel
theorem d_Mo_named_96 : decode mt_Mo_named.2.1 96 = .ok (.ldc2_w 267, 3) := by decide +kernel
theorem d_Mo_named_99 : decode mt_Mo_named.2.1 99 = .ok (.lcmp, 1) := by decide +kernel
theorem d_Mo_named_100 : decode mt_Mo_named.2.1 100 = .ok (.ifCond .ne 6, 3) := by decide +kernel
theorem d_Mo_named_103 : decode mt_Mo_named.2.1 103 = .ok (.bipush 7, 2) := by decide +kernel
theorem d_Mo_named_105 : decode mt_Mo_named.2.1 105 = .ok (.ireturn, 1) := by decide +kernel
theorem d_Mo_named_106 : decode mt_Mo_named.2.1 106 = .ok (.aload_n 0, 1) := by decide +kernel
theorem d_Mo_named_107 : decode mt_Mo_named.2.1 107 = .ok (.getfield 215, 3) := by decide +kernel
theorem d_Mo_named_110 : decode mt_Mo_named.2.1 110 = .ok (.ldc2_w 269, 3) := by decide +kernel
theorem d_Mo_named_113 : decode mt_Mo_named.2.1 113 = .ok (.lcmp, 1) := by decide +kernel
theorem d_Mo_named_114 : decode mt_Mo_named.2.1 114 = .ok (.ifCond .ne 6, 3) := by decide +kernel
theorem d_Mo_named_117 : decode mt_Mo_named.2.1 117 = .ok (.bipush 8, 2) := by decide +kernel
theorem d_Mo_named_119 : decode mt_Mo_named.2.1 119 = .ok (.ireturn, 1) := by decide +kernel
theorem d_Mo_named_120 : decode mt_Mo_named.2.1 120 = .ok (.aload_n 0, 1) := by decide +kernel
theorem d_Mo_named_121 : decode mt_Mo_named.2.1 121 = .ok (.getfield 215, 3) := by decide +kernel
theorem d_Mo_named_124 : decode mt_Mo_named.2.1 124 = .ok (.ldc2_w 271, 3) := by decide +kernel
theorem d_Mo_named_127 : decode mt_Mo_named.2.1 127 = .ok (.lcmp, 1) := by decide +kernel
theorem d_Mo_named_128 : decode mt_Mo_named.2.1 128 = .ok (.ifCond .ne 8, 3) := by decide +kernel
theorem d_Mo_named_131 : decode mt_Mo_named.2.1 131 = .ok (.bipush 9, 2) := by decide +kernel
theorem d_Mo_named_133 : decode mt_Mo_named.2.1 133 = .ok (.goto 4, 3) := by decide +kernel
theorem d_Mo_named_136 : decode mt_Mo_named.2.1 136 = .ok (.iconst (-1), 1) := by decide +kernel
theorem d_Mo_named_137 : decode mt_Mo_named.2.1 137 = .ok (.ireturn, 1) := by decide +kernel
theorem d_Mo_fault_0 : decode mt_Mo_fault.2.1 0 = .ok (.iload_n 1, 1) := by decide +kernel
theorem d_Mo_fault_1 : decode mt_Mo_fault.2.1 1 = .ok (.ifCond .ne 10, 3) := by decide +kernel
theorem d_Mo_fault_4 : decode mt_Mo_fault.2.1 4 = .ok (.aload_n 0, 1) := by decide +kernel
theorem d_Mo_fault_5 : decode mt_Mo_fault.2.1 5 = .ok (.getfield 234, 3) := by decide +kernel
theorem d_Mo_fault_8 : decode mt_Mo_fault.2.1 8 = .ok (.goto 16, 3) := by decide +kernel
theorem d_Mo_fault_11 : decode mt_Mo_fault.2.1 11 = .ok (.iload_n 1, 1) := by decide +kernel
theorem d_Mo_fault_12 : decode mt_Mo_fault.2.1 12 = .ok (.iconst 1, 1) := by decide +kernel
theorem d_Mo_fault_13 : decode mt_Mo_fault.2.1 13 = .ok (.if_icmp .ne 10, 3) := by decide +kernel
theorem d_Mo_fault_16 : decode mt_Mo_fault.2.1 16 = .ok (.aload_n 0, 1) := by decide +kernel
theorem d_Mo_fault_17 : decode mt_Mo_fault.2.1 17 = .ok (.getfield 92, 3) := by decide +kernel
theorem d_Mo_fault_20 : decode mt_Mo_fault.2.1 20 = .ok (.goto 4, 3) := by decide +kernel
theorem d_Mo_fault_23 : decode mt_Mo_fault.2.1 23 = .ok (.iconst (-1), 1) := by decide +kernel
theorem d_Mo_fault_24 : decode mt_Mo_fault.2.1 24 = .ok (.ireturn, 1) := by decide +kernel
theorem d_Mo_days_0 : decode mt_Mo_days.2.1 0 = .ok (.iload_n 1, 1) := by decide +kernel
theorem d_Mo_days_1 : decode mt_Mo_days.2.1 1 = .ok (.ifCond .lt 10, 3) := by decide +kernel
theorem d_Mo_days_4 : decode mt_Mo_days.2.1 4 = .ok (.iload_n 1, 1) := by decide +kernel
theorem d_Mo_days_5 : decode mt_Mo_days.2.1 5 = .ok (.sipush 400, 3) := by decide +kernel
theorem d_Mo_days_8 : decode mt_Mo_days.2.1 8 = .ok (.if_icmp .le 5, 3) := by decide +kernel
theorem d_Mo_days_11 : decode mt_Mo_days.2.1 11 = .ok (.iconst (-1), 1) := by decide +kernel
theorem d_Mo_days_12 : decode mt_Mo_days.2.1 12 = .ok (.ireturn, 1) := by decide +kernel
theorem d_Mo_days_13 : decode mt_Mo_days.2.1 13 = .ok (.iconst 0, 1) := by decide +kernel
theorem d_Mo_days_14 : decode mt_Mo_days.2.1 14 = .ok (.istore_n 2, 1) := by decide +kernel
theorem d_Mo_days_15 : decode mt_Mo_days.2.1 15 = .ok (.iload_n 2, 1) := by decide +kernel
theorem d_Mo_days_16 : decode mt_Mo_days.2.1 16 = .ok (.iload_n 1, 1) := by decide +kernel
theorem d_Mo_days_17 : decode mt_Mo_days.2.1 17 = .ok (.if_icmp .ge 64, 3) := by decide +kernel
theorem d_Mo_days_20 : decode mt_Mo_days.2.1 20 = .ok (.aload_n 0, 1) := by decide +kernel
theorem d_Mo_days_21 : decode mt_Mo_days.2.1 21 = .ok (.getfield 171, 3) := by decide +kernel
theorem d_Mo_days_24 : decode mt_Mo_days.2.1 24 = .ok (.ldc_w 347, 3) := by decide +kernel
theorem d_Mo_days_27 : decode mt_Mo_days.2.1 27 = .ok (.if_icmp .ge 54, 3) := by decide +kernel
theorem d_Mo_days_30 : decode mt_Mo_days.2.1 30 = .ok (.iconst 0, 1) := by decide +kernel
theorem d_Mo_days_31 : decode mt_Mo_days.2.1 31 = .ok (.istore_n 3, 1) := by decide +kernel
theorem d_Mo_days_32 : decode mt_Mo_days.2.1 32 = .ok (.iload_n 3, 1) := by decide +kernel
theorem d_Mo_days_33 : decode mt_Mo_days.2.1 33 = .ok (.aload_n 0, 1) := by decide +kernel
theorem d_Mo_days_34 : decode mt_Mo_days.2.1 34 = .ok (.getfield 165, 3) := by decide +kernel
theorem d_Mo_days_37 : decode mt_Mo_days.2.1 37 = .ok (.if_icmp .ge 23, 3) := by decide +kernel
theorem d_Mo_days_40 : decode mt_Mo_days.2.1 40 = .ok (.aload_n 0, 1) := by decide +kernel
theorem d_Mo_days_41 : decode mt_Mo_days.2.1 41 = .ok (.getfield 28, 3) := by decide +kernel
theorem d_Mo_days_44 : decode mt_Mo_days.2.1 44 = .ok (.iload_n 3, 1) := by decide +kernel
theorem d_Mo_days_45 : decode mt_Mo_days.2.1 45 = .ok (.iaload, 1) := by decide +kernel
theorem d_Mo_days_46 : decode mt_Mo_days.2.1 46 = .ok (.ifCond .lt 8, 3) := by decide +kernel
theorem d_Mo_days_49 : decode mt_Mo_days.2.1 49 = .ok (.aload_n 0, 1) := by decide +kernel
theorem d_Mo_days_50 : decode mt_Mo_days.2.1 50 = .ok (.iload_n 3, 1) := by decide +kernel
theorem d_Mo_days_51 : decode mt_Mo_days.2.1 51 = .ok (.invokevirtual 348, 3) := by decide +kernel
theorem d_Mo_days_54 : decode mt_Mo_days.2.1 54 = .ok (.iinc 3 1, 3) := by decide +kernel
theorem d_Mo_days_57 : decode mt_Mo_days.2.1 57 = .ok (.goto (-25), 3) := by decide +kernel
theorem d_Mo_days_60 : decode mt_Mo_days.2.1 60 = .ok (.aload_n 0, 1) := by decide +kernel
theorem d_Mo_days_61 : decode mt_Mo_days.2.1 61 = .ok (.dup, 1) := by decide +kernel
theorem d_Mo_days_62 : decode mt_Mo_days.2.1 62 = .ok (.getfield 171, 3) := by decide +kernel
theorem d_Mo_days_65 : decode mt_Mo_days.2.1 65 = .ok (.iconst 1, 1) := by decide +kernel
theorem d_Mo_days_66 : decode mt_Mo_days.2.1 66 = .ok (.iadd, 1) := by decide +kernel
theorem d_Mo_days_67 : decode mt_Mo_days.2.1 67 = .ok (.putfield 171, 3) := by decide +kernel
theorem d_Mo_days_70 : decode mt_Mo_days.2.1 70 = .ok (.iinc 2 1, 3) := by decide +kernel
theorem d_Mo_days_73 : decode mt_Mo_days.2.1 73 = .ok (.aload_n 0, 1) := by decide +kernel
theorem d_Mo_days_74 : decode mt_Mo_days.2.1 74 = .ok (.iconst 0, 1) := by decide +kernel
theorem d_Mo_days_75 : decode mt_Mo_days.2.1 75 = .ok (.putfield 158, 3) := by decide +kernel
theorem d_Mo_days_78 : decode mt_Mo_days.2.1 78 = .ok (.goto (-63), 3) := by decide +kernel
theorem d_Mo_days_81 : decode mt_Mo_days.2.1 81 = .ok (.iload_n 2, 1) := by decide +kernel
theorem d_Mo_days_82 : decode mt_Mo_days.2.1 82 = .ok (.ireturn, 1) := by decide +kernel
theorem d_Mo_care_0 : decode mt_Mo_care.2.1 0 = .ok (.iconst 0, 1) := by decide +kernel
theorem d_Mo_care_1 : decode mt_Mo_care.2.1 1 = .ok (.istore_n 2, 1) := by decide +kernel
theorem d_Mo_care_2 : decode mt_Mo_care.2.1 2 = .ok (.iload_n 2, 1) := by decide +kernel
theorem d_Mo_care_3 : decode mt_Mo_care.2.1 3 = .ok (.aload_n 0, 1) := by decide +kernel
theorem d_Mo_care_4 : decode mt_Mo_care.2.1 4 = .ok (.getfield 334, 3) := by decide +kernel
theorem d_Mo_care_7 : decode mt_Mo_care.2.1 7 = .ok (.if_icmp .ge 141, 3) := by decide +kernel
theorem d_Mo_care_10 : decode mt_Mo_care.2.1 10 = .ok (.aload_n 0, 1) := by decide +kernel
theorem d_Mo_care_11 : decode mt_Mo_care.2.1 11 = .ok (.iload_n 1, 1) := by decide +kernel
theorem d_Mo_care_12 : decode mt_Mo_care.2.1 12 = .ok (.invokevirtual 338, 3) := by decide +kernel
theorem d_Mo_care_15 : decode mt_Mo_care.2.1 15 = .ok (.aload_n 0, 1) := by decide +kernel
theorem d_Mo_care_16 : decode mt_Mo_care.2.1 16 = .ok (.iload_n 2, 1) := by decide +kernel
theorem d_Mo_care_17 : decode mt_Mo_care.2.1 17 = .ok (.invokevirtual 341, 3) := by decide +kernel
theorem d_Mo_care_20 : decode mt_Mo_care.2.1 20 = .ok (.ifCond .ne 6, 3) := by decide +kernel
theorem d_Mo_care_23 : decode mt_Mo_care.2.1 23 = .ok (.goto 119, 3) := by decide +kernel
theorem d_Mo_care_26 : decode mt_Mo_care.2.1 26 = .ok (.aload_n 0, 1) := by decide +kernel
theorem d_Mo_care_27 : decode mt_Mo_care.2.1 27 = .ok (.getfield 74, 3) := by decide +kernel
theorem d_Mo_care_30 : decode mt_Mo_care.2.1 30 = .ok (.iload_n 2, 1) := by decide +kernel
theorem d_Mo_care_31 : decode mt_Mo_care.2.1 31 = .ok (.iaload, 1) := by decide +kernel
theorem d_Mo_care_32 : decode mt_Mo_care.2.1 32 = .ok (.ifCond .ne 13, 3) := by decide +kernel
theorem d_Mo_care_35 : decode mt_Mo_care.2.1 35 = .ok (.aload_n 0, 1) := by decide +kernel
theorem d_Mo_care_36 : decode mt_Mo_care.2.1 36 = .ok (.getfield 43, 3) := by decide +kernel
theorem d_Mo_care_39 : decode mt_Mo_care.2.1 39 = .ok (.iload_n 1, 1) := by decide +kernel
theorem d_Mo_care_40 : decode mt_Mo_care.2.1 40 = .ok (.iconst 0, 1) := by decide +kernel
theorem d_Mo_care_41 : decode mt_Mo_care.2.1 41 = .ok (.iastore, 1) := by decide +kernel
theorem d_Mo_care_42 : decode mt_Mo_care.2.1 42 = .ok (.goto 100, 3) := by decide +kernel
theorem d_Mo_care_45 : decode mt_Mo_care.2.1 45 = .ok (.aload_n 0, 1) := by decide +kernel
theorem d_Mo_care_46 : decode mt_Mo_care.2.1 46 = .ok (.getfield 74, 3) := by decide +kernel
theorem d_Mo_care_49 : decode mt_Mo_care.2.1 49 = .ok (.iload_n 2, 1) := by decide +kernel
theorem d_Mo_care_50 : decode mt_Mo_care.2.1 50 = .ok (.iaload, 1) := by decide +kernel
theorem d_Mo_care_51 : decode mt_Mo_care.2.1 51 = .ok (.iconst 1, 1) := by decide +kernel
theorem d_Mo_care_52 : decode mt_Mo_care.2.1 52 = .ok (.if_icmp .ne 55, 3) := by decide +kernel
theorem d_Mo_care_55 : decode mt_Mo_care.2.1 55 = .ok (.aload_n 0, 1) := by decide +kernel
theorem d_Mo_care_56 : decode mt_Mo_care.2.1 56 = .ok (.getfield 34, 3) := by decide +kernel
theorem d_Mo_care_59 : decode mt_Mo_care.2.1 59 = .ok (.iload_n 1, 1) := by decide +kernel
theorem d_Mo_care_60 : decode mt_Mo_care.2.1 60 = .ok (.aload_n 0, 1) := by decide +kernel
theorem d_Mo_care_61 : decode mt_Mo_care.2.1 61 = .ok (.getfield 34, 3) := by decide +kernel
theorem d_Mo_care_64 : decode mt_Mo_care.2.1 64 = .ok (.iload_n 1, 1) := by decide +kernel
theorem d_Mo_care_65 : decode mt_Mo_care.2.1 65 = .ok (.iaload, 1) := by decide +kernel
theorem d_Mo_care_66 : decode mt_Mo_care.2.1 66 = .ok (.aload_n 0, 1) := by decide +kernel
theorem d_Mo_care_67 : decode mt_Mo_care.2.1 67 = .ok (.getfield 25, 3) := by decide +kernel
theorem d_Mo_care_70 : decode mt_Mo_care.2.1 70 = .ok (.iload_n 1, 1) := by decide +kernel
theorem d_Mo_care_71 : decode mt_Mo_care.2.1 71 = .ok (.iaload, 1) := by decide +kernel
theorem d_Mo_care_72 : decode mt_Mo_care.2.1 72 = .ok (.iconst 1, 1) := by decide +kernel
theorem d_Mo_care_73 : decode mt_Mo_care.2.1 73 = .ok (.if_icmp .ne 8, 3) := by decide +kernel
theorem d_Mo_care_76 : decode mt_Mo_care.2.1 76 = .ok (.bipush 10, 2) := by decide +kernel
theorem d_Mo_care_78 : decode mt_Mo_care.2.1 78 = .ok (.goto 4, 3) := by decide +kernel
theorem d_Mo_care_81 : decode mt_Mo_care.2.1 81 = .ok (.iconst 4, 1) := by decide +kernel
theorem d_Mo_care_82 : decode mt_Mo_care.2.1 82 = .ok (.isub, 1) := by decide +kernel
theorem d_Mo_care_83 : decode mt_Mo_care.2.1 83 = .ok (.invokestatic 344, 3) := by decide +kernel
theorem d_Mo_care_86 : decode mt_Mo_care.2.1 86 = .ok (.iastore, 1) := by decide +kernel
theorem d_Mo_care_87 : decode mt_Mo_care.2.1 87 = .ok (.aload_n 0, 1) := by decide +kernel
theorem d_Mo_care_88 : decode mt_Mo_care.2.1 88 = .ok (.getfield 37, 3) := by decide +kernel
theorem d_Mo_care_91 : decode mt_Mo_care.2.1 91 = .ok (.iload_n 1, 1) := by decide +kernel
theorem d_Mo_care_92 : decode mt_Mo_care.2.1 92 = .ok (.aload_n 0, 1) := by decide +kernel
theorem d_Mo_care_93 : decode mt_Mo_care.2.1 93 = .ok (.getfield 37, 3) := by decide +kernel
theorem d_Mo_care_96 : decode mt_Mo_care.2.1 96 = .ok (.iload_n 1, 1) := by decide +kernel
theorem d_Mo_care_97 : decode mt_Mo_care.2.1 97 = .ok (.iaload, 1) := by decide +kernel
theorem d_Mo_care_98 : decode mt_Mo_care.2.1 98 = .ok (.iconst 5, 1) := by decide +kernel
theorem d_Mo_care_99 : decode mt_Mo_care.2.1 99 = .ok (.iadd, 1) := by decide +kernel
theorem d_Mo_care_100 : decode mt_Mo_care.2.1 100 = .ok (.invokestatic 344, 3) := by decide +kernel
theorem d_Mo_care_103 : decode mt_Mo_care.2.1 103 = .ok (.iastore, 1) := by decide +kernel
theorem d_Mo_care_104 : decode mt_Mo_care.2.1 104 = .ok (.goto 38, 3) := by decide +kernel
theorem d_Mo_care_107 : decode mt_Mo_care.2.1 107 = .ok (.aload_n 0, 1) := by decide +kernel
theorem d_Mo_care_108 : decode mt_Mo_care.2.1 108 = .ok (.getfield 34, 3) := by decide +kernel
theorem d_Mo_care_111 : decode mt_Mo_care.2.1 111 = .ok (.iload_n 1, 1) := by decide +kernel
theorem d_Mo_care_112 : decode mt_Mo_care.2.1 112 = .ok (.aload_n 0, 1) := by decide +kernel
theorem d_Mo_care_113 : decode mt_Mo_care.2.1 113 = .ok (.getfield 34, 3) := by decide +kernel
theorem d_Mo_care_116 : decode mt_Mo_care.2.1 116 = .ok (.iload_n 1, 1) := by decide +kernel
theorem d_Mo_care_117 : decode mt_Mo_care.2.1 117 = .ok (.iaload, 1) := by decide +kernel
theorem d_Mo_care_118 : decode mt_Mo_care.2.1 118 = .ok (.bipush 6, 2) := by decide +kernel
theorem d_Mo_care_120 : decode mt_Mo_care.2.1 120 = .ok (.isub, 1) := by decide +kernel
theorem d_Mo_care_121 : decode mt_Mo_care.2.1 121 = .ok (.invokestatic 344, 3) := by decide +kernel
theorem d_Mo_care_124 : decode mt_Mo_care.2.1 124 = .ok (.iastore, 1) := by decide +kernel
theorem d_Mo_care_125 : decode mt_Mo_care.2.1 125 = .ok (.aload_n 0, 1) := by decide +kernel
theorem d_Mo_care_126 : decode mt_Mo_care.2.1 126 = .ok (.getfield 37, 3) := by decide +kernel
theorem d_Mo_care_129 : decode mt_Mo_care.2.1 129 = .ok (.iload_n 1, 1) := by decide +kernel
theorem d_Mo_care_130 : decode mt_Mo_care.2.1 130 = .ok (.aload_n 0, 1) := by decide +kernel
theorem d_Mo_care_131 : decode mt_Mo_care.2.1 131 = .ok (.getfield 37, 3) := by decide +kernel
theorem d_Mo_care_134 : decode mt_Mo_care.2.1 134 = .ok (.iload_n 1, 1) := by decide +kernel
theorem d_Mo_care_135 : decode mt_Mo_care.2.1 135 = .ok (.iaload, 1) := by decide +kernel
theorem d_Mo_care_136 : decode mt_Mo_care.2.1 136 = .ok (.iconst 2, 1) := by decide +kernel
theorem d_Mo_care_137 : decode mt_Mo_care.2.1 137 = .ok (.isub, 1) := by decide +kernel
theorem d_Mo_care_138 : decode mt_Mo_care.2.1 138 = .ok (.invokestatic 344, 3) := by decide +kernel
theorem d_Mo_care_141 : decode mt_Mo_care.2.1 141 = .ok (.iastore, 1) := by decide +kernel
theorem d_Mo_care_142 : decode mt_Mo_care.2.1 142 = .ok (.iinc 2 1, 3) := by decide +kernel
theorem d_Mo_care_145 : decode mt_Mo_care.2.1 145 = .ok (.goto (-143), 3) := by decide +kernel
theorem d_Mo_care_148 : decode mt_Mo_care.2.1 148 = .ok (.aload_n 0, 1) := by decide +kernel
theorem d_Mo_care_149 : decode mt_Mo_care.2.1 149 = .ok (.getfield 7, 3) := by decide +kernel
theorem d_Mo_care_152 : decode mt_Mo_care.2.1 152 = .ok (.aload_n 0, 1) := by decide +kernel
theorem d_Mo_care_153 : decode mt_Mo_care.2.1 153 = .ok (.getfield 28, 3) := by decide +kernel
theorem d_Mo_care_156 : decode mt_Mo_care.2.1 156 = .ok (.iload_n 1, 1) := by decide +kernel
theorem d_Mo_care_157 : decode mt_Mo_care.2.1 157 = .ok (.iaload, 1) := by decide +kernel
theorem d_Mo_care_158 : decode mt_Mo_care.2.1 158 = .ok (.iaload, 1) := by decide +kernel
theorem d_Mo_care_159 : decode mt_Mo_care.2.1 159 = .ok (.istore_n 2, 1) := by decide +kernel
theorem d_Mo_care_160 : decode mt_Mo_care.2.1 160 = .ok (.aload_n 0, 1) := by decide +kernel
theorem d_Mo_care_161 : decode mt_Mo_care.2.1 161 = .ok (.getfield 13, 3) := by decide +kernel
theorem d_Mo_care_164 : decode mt_Mo_care.2.1 164 = .ok (.aload_n 0, 1) := by decide +kernel
theorem d_Mo_care_165 : decode mt_Mo_care.2.1 165 = .ok (.getfield 28, 3) := by decide +kernel
theorem d_Mo_care_168 : decode mt_Mo_care.2.1 168 = .ok (.iload_n 1, 1) := by decide +kernel
theorem d_Mo_care_169 : decode mt_Mo_care.2.1 169 = .ok (.iaload, 1) := by decide +kernel
theorem d_Mo_care_170 : decode mt_Mo_care.2.1 170 = .ok (.bipush 6, 2) := by decide +kernel
theorem d_Mo_care_172 : decode mt_Mo_care.2.1 172 = .ok (.idiv, 1) := by decide +kernel
theorem d_Mo_care_173 : decode mt_Mo_care.2.1 173 = .ok (.iaload, 1) := by decide +kernel
theorem d_Mo_care_174 : decode mt_Mo_care.2.1 174 = .ok (.istore_n 3, 1) := by decide +kernel
theorem d_Mo_care_175 : decode mt_Mo_care.2.1 175 = .ok (.aload_n 0, 1) := by decide +kernel
theorem d_Mo_care_176 : decode mt_Mo_care.2.1 176 = .ok (.getfield 31, 3) := by decide +kernel
theorem d_Mo_care_179 : decode mt_Mo_care.2.1 179 = .ok (.iload_n 1, 1) := by decide +kernel
theorem d_Mo_care_180 : decode mt_Mo_care.2.1 180 = .ok (.aload_n 0, 1) := by decide +kernel
theorem d_Mo_care_181 : decode mt_Mo_care.2.1 181 = .ok (.getfield 31, 3) := by decide +kernel
theorem d_Mo_care_184 : decode mt_Mo_care.2.1 184 = .ok (.iload_n 1, 1) := by decide +kernel
theorem d_Mo_care_185 : decode mt_Mo_care.2.1 185 = .ok (.iaload, 1) := by decide +kernel
theorem d_Mo_care_186 : decode mt_Mo_care.2.1 186 = .ok (.aload_n 0, 1) := by decide +kernel
theorem d_Mo_care_187 : decode mt_Mo_care.2.1 187 = .ok (.getfield 25, 3) := by decide +kernel
theorem d_Mo_care_190 : decode mt_Mo_care.2.1 190 = .ok (.iload_n 1, 1) := by decide +kernel
theorem d_Mo_care_191 : decode mt_Mo_care.2.1 191 = .ok (.iaload, 1) := by decide +kernel
theorem d_Mo_care_192 : decode mt_Mo_care.2.1 192 = .ok (.ifCond .ne 11, 3) := by decide +kernel
theorem d_Mo_care_195 : decode mt_Mo_care.2.1 195 = .ok (.iconst 3, 1) := by decide +kernel
theorem d_Mo_care_196 : decode mt_Mo_care.2.1 196 = .ok (.iload_n 2, 1) := by decide +kernel
theorem d_Mo_care_197 : decode mt_Mo_care.2.1 197 = .ok (.iconst 3, 1) := by decide +kernel
theorem d_Mo_care_198 : decode mt_Mo_care.2.1 198 = .ok (.idiv, 1) := by decide +kernel
theorem d_Mo_care_199 : decode mt_Mo_care.2.1 199 = .ok (.iadd, 1) := by decide +kernel
theorem d_Mo_care_200 : decode mt_Mo_care.2.1 200 = .ok (.goto 27, 3) := by decide +kernel
theorem d_Mo_care_203 : decode mt_Mo_care.2.1 203 = .ok (.aload_n 0, 1) := by decide +kernel
theorem d_Mo_care_204 : decode mt_Mo_care.2.1 204 = .ok (.getfield 25, 3) := by decide +kernel
theorem d_Mo_care_207 : decode mt_Mo_care.2.1 207 = .ok (.iload_n 1, 1) := by decide +kernel
theorem d_Mo_care_208 : decode mt_Mo_care.2.1 208 = .ok (.iaload, 1) := by decide +kernel
theorem d_Mo_care_209 : decode mt_Mo_care.2.1 209 = .ok (.iconst 1, 1) := by decide +kernel
theorem d_Mo_care_210 : decode mt_Mo_care.2.1 210 = .ok (.if_icmp .ne 12, 3) := by decide +kernel
theorem d_Mo_care_213 : decode mt_Mo_care.2.1 213 = .ok (.iconst 2, 1) := by decide +kernel
theorem d_Mo_care_214 : decode mt_Mo_care.2.1 214 = .ok (.iload_n 3, 1) := by decide +kernel
theorem d_Mo_care_215 : decode mt_Mo_care.2.1 215 = .ok (.bipush 30, 2) := by decide +kernel
theorem d_Mo_care_217 : decode mt_Mo_care.2.1 217 = .ok (.idiv, 1) := by decide +kernel
theorem d_Mo_care_218 : decode mt_Mo_care.2.1 218 = .ok (.iadd, 1) := by decide +kernel
theorem d_Mo_care_219 : decode mt_Mo_care.2.1 219 = .ok (.goto 8, 3) := by decide +kernel
theorem d_Mo_care_222 : decode mt_Mo_care.2.1 222 = .ok (.iconst 1, 1) := by decide +kernel
theorem d_Mo_care_223 : decode mt_Mo_care.2.1 223 = .ok (.iload_n 2, 1) := by decide +kernel
theorem d_Mo_care_224 : decode mt_Mo_care.2.1 224 = .ok (.iconst 5, 1) := by decide +kernel
theorem d_Mo_care_225 : decode mt_Mo_care.2.1 225 = .ok (.idiv, 1) := by decide +kernel
theorem d_Mo_care_226 : decode mt_Mo_care.2.1 226 = .ok (.iadd, 1) := by decide +kernel
theorem d_Mo_care_227 : decode mt_Mo_care.2.1 227 = .ok (.iadd, 1) := by decide +kernel
theorem d_Mo_care_228 : decode mt_Mo_care.2.1 228 = .ok (.invokestatic 344, 3) := by decide +kernel
theorem d_Mo_care_231 : decode mt_Mo_care.2.1 231 = .ok (.iastore, 1) := by decide +kernel
theorem d_Mo_care_232 : decode mt_Mo_care.2.1 232 = .ok (.aload_n 0, 1) := by decide +kernel
theorem d_Mo_care_233 : decode mt_Mo_care.2.1 233 = .ok (.getfield 34, 3) := by decide +kernel
theorem d_Mo_care_236 : decode mt_Mo_care.2.1 236 = .ok (.iload_n 1, 1) := by decide +kernel
theorem d_Mo_care_237 : decode mt_Mo_care.2.1 237 = .ok (.aload_n 0, 1) := by decide +kernel
theorem d_Mo_care_238 : decode mt_Mo_care.2.1 238 = .ok (.getfield 34, 3) := by decide +kernel
theorem d_Mo_care_241 : decode mt_Mo_care.2.1 241 = .ok (.iload_n 1, 1) := by decide +kernel
theorem d_Mo_care_242 : decode mt_Mo_care.2.1 242 = .ok (.iaload, 1) := by decide +kernel
theorem d_Mo_care_243 : decode mt_Mo_care.2.1 243 = .ok (.iload_n 3, 1) := by decide +kernel
theorem d_Mo_care_244 : decode mt_Mo_care.2.1 244 = .ok (.bipush 20, 2) := by decide +kernel
theorem d_Mo_care_246 : decode mt_Mo_care.2.1 246 = .ok (.idiv, 1) := by decide +kernel
theorem d_Mo_care_247 : decode mt_Mo_care.2.1 247 = .ok (.iadd, 1) := by decide +kernel
theorem d_Mo_care_248 : decode mt_Mo_care.2.1 248 = .ok (.aload_n 0, 1) := by decide +kernel
theorem d_Mo_care_249 : decode mt_Mo_care.2.1 249 = .ok (.getfield 43, 3) := by decide +kernel
theorem d_Mo_care_252 : decode mt_Mo_care.2.1 252 = .ok (.iload_n 1, 1) := by decide +kernel
theorem d_Mo_care_253 : decode mt_Mo_care.2.1 253 = .ok (.iaload, 1) := by decide +kernel
theorem d_Mo_care_254 : decode mt_Mo_care.2.1 254 = .ok (.iconst 3, 1) := by decide +kernel
theorem d_Mo_care_255 : decode mt_Mo_care.2.1 255 = .ok (.idiv, 1) := by decide +kernel
theorem d_Mo_care_256 : decode mt_Mo_care.2.1 256 = .ok (.iadd, 1) := by decide +kernel
theorem d_Mo_care_257 : decode mt_Mo_care.2.1 257 = .ok (.invokestatic 344, 3) := by decide +kernel
theorem d_Mo_care_260 : decode mt_Mo_care.2.1 260 = .ok (.iastore, 1) := by decide +kernel
theorem d_Mo_care_261 : decode mt_Mo_care.2.1 261 = .ok (.aload_n 0, 1) := by decide +kernel
theorem d_Mo_care_262 : decode mt_Mo_care.2.1 262 = .ok (.getfield 37, 3) := by decide +kernel
theorem d_Mo_care_265 : decode mt_Mo_care.2.1 265 = .ok (.iload_n 1, 1) := by decide +kernel
theorem d_Mo_care_266 : decode mt_Mo_care.2.1 266 = .ok (.aload_n 0, 1) := by decide +kernel
theorem d_Mo_care_267 : decode mt_Mo_care.2.1 267 = .ok (.getfield 37, 3) := by decide +kernel
theorem d_Mo_care_270 : decode mt_Mo_care.2.1 270 = .ok (.iload_n 1, 1) := by decide +kernel
theorem d_Mo_care_271 : decode mt_Mo_care.2.1 271 = .ok (.iaload, 1) := by decide +kernel
theorem d_Mo_care_272 : decode mt_Mo_care.2.1 272 = .ok (.iload_n 2, 1) := by decide +kernel
theorem d_Mo_care_273 : decode mt_Mo_care.2.1 273 = .ok (.isub, 1) := by decide +kernel
theorem d_Mo_care_274 : decode mt_Mo_care.2.1 274 = .ok (.invokestatic 344, 3) := by decide +kernel
theorem d_Mo_care_277 : decode mt_Mo_care.2.1 277 = .ok (.iastore, 1) := by decide +kernel
theorem d_Mo_care_278 : decode mt_Mo_care.2.1 278 = .ok (.aload_n 0, 1) := by decide +kernel
theorem d_Mo_care_279 : decode mt_Mo_care.2.1 279 = .ok (.getfield 43, 3) := by decide +kernel
theorem d_Mo_care_282 : decode mt_Mo_care.2.1 282 = .ok (.iload_n 1, 1) := by decide +kernel
theorem d_Mo_care_283 : decode mt_Mo_care.2.1 283 = .ok (.dup2, 1) := by decide +kernel
theorem d_Mo_care_284 : decode mt_Mo_care.2.1 284 = .ok (.iaload, 1) := by decide +kernel
theorem d_Mo_care_285 : decode mt_Mo_care.2.1 285 = .ok (.iconst 1, 1) := by decide +kernel
theorem d_Mo_care_286 : decode mt_Mo_care.2.1 286 = .ok (.iadd, 1) := by decide +kernel
theorem d_Mo_care_287 : decode mt_Mo_care.2.1 287 = .ok (.iastore, 1) := by decide +kernel
theorem d_Mo_care_288 : decode mt_Mo_care.2.1 288 = .ok (.return_, 1) := by decide +kernel
theorem d_Mo_tell_0 : decode mt_Mo_tell.2.1 0 = .ok (.aload_n 0, 1) := by decide +kernel
theorem d_Mo_tell_1 : decode mt_Mo_tell.2.1 1 = .ok (.getfield 28, 3) := by decide +kernel
theorem d_Mo_tell_4 : decode mt_Mo_tell.2.1 4 = .ok (.iload_n 1, 1) := by decide +kernel
theorem d_Mo_tell_5 : decode mt_Mo_tell.2.1 5 = .ok (.iaload, 1) := by decide +kernel
theorem d_Mo_tell_6 : decode mt_Mo_tell.2.1 6 = .ok (.istore_n 2, 1) := by decide +kernel
theorem d_Mo_tell_7 : decode mt_Mo_tell.2.1 7 = .ok (.aload_n 0, 1) := by decide +kernel
theorem d_Mo_tell_8 : decode mt_Mo_tell.2.1 8 = .ok (.getfield 102, 3) := by decide +kernel
theorem d_Mo_tell_11 : decode mt_Mo_tell.2.1 11 = .ok (.iconst 0, 1) := by decide +kernel
theorem d_Mo_tell_12 : decode mt_Mo_tell.2.1 12 = .ok (.aload_n 0, 1) := by decide +kernel
theorem d_Mo_tell_13 : decode mt_Mo_tell.2.1 13 = .ok (.getfield 25, 3) := by decide +kernel
theorem d_Mo_tell_16 : decode mt_Mo_tell.2.1 16 = .ok (.iload_n 1, 1) := by decide +kernel
theorem d_Mo_tell_17 : decode mt_Mo_tell.2.1 17 = .ok (.iaload, 1) := by decide +kernel
theorem d_Mo_tell_18 : decode mt_Mo_tell.2.1 18 = .ok (.iastore, 1) := by decide +kernel
theorem d_Mo_tell_19 : decode mt_Mo_tell.2.1 19 = .ok (.aload_n 0, 1) := by decide +kernel
theorem d_Mo_tell_20 : decode mt_Mo_tell.2.1 20 = .ok (.getfield 102, 3) := by decide +kernel
theorem d_Mo_tell_23 : decode mt_Mo_tell.2.1 23 = .ok (.iconst 1, 1) := by decide +kernel
theorem d_Mo_tell_24 : decode mt_Mo_tell.2.1 24 = .ok (.aload_n 0, 1) := by decide +kernel
theorem d_Mo_tell_25 : decode mt_Mo_tell.2.1 25 = .ok (.getfield 171, 3) := by decide +kernel
theorem d_Mo_tell_28 : decode mt_Mo_tell.2.1 28 = .ok (.aload_n 0, 1) := by decide +kernel
theorem d_Mo_tell_29 : decode mt_Mo_tell.2.1 29 = .ok (.getfield 40, 3) := by decide +kernel
theorem d_Mo_tell_32 : decode mt_Mo_tell.2.1 32 = .ok (.iload_n 1, 1) := by decide +kernel
theorem d_Mo_tell_33 : decode mt_Mo_tell.2.1 33 = .ok (.iaload, 1) := by decide +kernel
theorem d_Mo_tell_34 : decode mt_Mo_tell.2.1 34 = .ok (.isub, 1) := by decide +kernel
theorem d_Mo_tell_35 : decode mt_Mo_tell.2.1 35 = .ok (.iastore, 1) := by decide +kernel
theorem d_Mo_tell_36 : decode mt_Mo_tell.2.1 36 = .ok (.aload_n 0, 1) := by decide +kernel
theorem d_Mo_tell_37 : decode mt_Mo_tell.2.1 37 = .ok (.getfield 102, 3) := by decide +kernel
theorem d_Mo_tell_40 : decode mt_Mo_tell.2.1 40 = .ok (.iconst 2, 1) := by decide +kernel
theorem d_Mo_tell_41 : decode mt_Mo_tell.2.1 41 = .ok (.aload_n 0, 1) := by decide +kernel
theorem d_Mo_tell_42 : decode mt_Mo_tell.2.1 42 = .ok (.getfield 31, 3) := by decide +kernel
theorem d_Mo_tell_45 : decode mt_Mo_tell.2.1 45 = .ok (.iload_n 1, 1) := by decide +kernel
theorem d_Mo_tell_46 : decode mt_Mo_tell.2.1 46 = .ok (.iaload, 1) := by decide +kernel
theorem d_Mo_tell_47 : decode mt_Mo_tell.2.1 47 = .ok (.iastore, 1) := by decide +kernel
theorem d_Mo_tell_48 : decode mt_Mo_tell.2.1 48 = .ok (.aload_n 0, 1) := by decide +kernel
theorem d_Mo_tell_49 : decode mt_Mo_tell.2.1 49 = .ok (.getfield 102, 3) := by decide +kernel
theorem d_Mo_tell_52 : decode mt_Mo_tell.2.1 52 = .ok (.iconst 3, 1) := by decide +kernel
theorem d_Mo_tell_53 : decode mt_Mo_tell.2.1 53 = .ok (.aload_n 0, 1) := by decide +kernel
theorem d_Mo_tell_54 : decode mt_Mo_tell.2.1 54 = .ok (.getfield 34, 3) := by decide +kernel
theorem d_Mo_tell_57 : decode mt_Mo_tell.2.1 57 = .ok (.iload_n 1, 1) := by decide +kernel
theorem d_Mo_tell_58 : decode mt_Mo_tell.2.1 58 = .ok (.iaload, 1) := by decide +kernel
theorem d_Mo_tell_59 : decode mt_Mo_tell.2.1 59 = .ok (.iastore, 1) := by decide +kernel
theorem d_Mo_tell_60 : decode mt_Mo_tell.2.1 60 = .ok (.aload_n 0, 1) := by decide +kernel
theorem d_Mo_tell_61 : decode mt_Mo_tell.2.1 61 = .ok (.getfield 102, 3) := by decide +kernel
theorem d_Mo_tell_64 : decode mt_Mo_tell.2.1 64 = .ok (.iconst 4, 1) := by decide +kernel
theorem d_Mo_tell_65 : decode mt_Mo_tell.2.1 65 = .ok (.aload_n 0, 1) := by decide +kernel
theorem d_Mo_tell_66 : decode mt_Mo_tell.2.1 66 = .ok (.getfield 37, 3) := by decide +kernel
theorem d_Mo_tell_69 : decode mt_Mo_tell.2.1 69 = .ok (.iload_n 1, 1) := by decide +kernel
theorem d_Mo_tell_70 : decode mt_Mo_tell.2.1 70 = .ok (.iaload, 1) := by decide +kernel
theorem d_Mo_tell_71 : decode mt_Mo_tell.2.1 71 = .ok (.iastore, 1) := by decide +kernel
theorem d_Mo_tell_72 : decode mt_Mo_tell.2.1 72 = .ok (.aload_n 0, 1) := by decide +kernel
theorem d_Mo_tell_73 : decode mt_Mo_tell.2.1 73 = .ok (.getfield 102, 3) := by decide +kernel
theorem d_Mo_tell_76 : decode mt_Mo_tell.2.1 76 = .ok (.iconst 5, 1) := by decide +kernel
theorem d_Mo_tell_77 : decode mt_Mo_tell.2.1 77 = .ok (.aload_n 0, 1) := by decide +kernel
theorem d_Mo_tell_78 : decode mt_Mo_tell.2.1 78 = .ok (.getfield 7, 3) := by decide +kernel
theorem d_Mo_tell_81 : decode mt_Mo_tell.2.1 81 = .ok (.iload_n 2, 1) := by decide +kernel
theorem d_Mo_tell_82 : decode mt_Mo_tell.2.1 82 = .ok (.iaload, 1) := by decide +kernel
theorem d_Mo_tell_83 : decode mt_Mo_tell.2.1 83 = .ok (.iastore, 1) := by decide +kernel
theorem d_Mo_tell_84 : decode mt_Mo_tell.2.1 84 = .ok (.aload_n 0, 1) := by decide +kernel
theorem d_Mo_tell_85 : decode mt_Mo_tell.2.1 85 = .ok (.getfield 102, 3) := by decide +kernel
theorem d_Mo_tell_88 : decode mt_Mo_tell.2.1 88 = .ok (.bipush 6, 2) := by decide +kernel
theorem d_Mo_tell_90 : decode mt_Mo_tell.2.1 90 = .ok (.aload_n 0, 1) := by decide +kernel
theorem d_Mo_tell_91 : decode mt_Mo_tell.2.1 91 = .ok (.getfield 13, 3) := by decide +kernel
theorem d_Mo_tell_94 : decode mt_Mo_tell.2.1 94 = .ok (.iload_n 2, 1) := by decide +kernel
theorem d_Mo_tell_95 : decode mt_Mo_tell.2.1 95 = .ok (.bipush 6, 2) := by decide +kernel
theorem d_Mo_tell_97 : decode mt_Mo_tell.2.1 97 = .ok (.idiv, 1) := by decide +kernel
theorem d_Mo_tell_98 : decode mt_Mo_tell.2.1 98 = .ok (.iaload, 1) := by decide +kernel
theorem d_Mo_tell_99 : decode mt_Mo_tell.2.1 99 = .ok (.iastore, 1) := by decide +kernel
theorem d_Mo_tell_100 : decode mt_Mo_tell.2.1 100 = .ok (.aload_n 0, 1) := by decide +kernel
theorem d_Mo_tell_101 : decode mt_Mo_tell.2.1 101 = .ok (.getfield 102, 3) := by decide +kernel
theorem d_Mo_tell_104 : decode mt_Mo_tell.2.1 104 = .ok (.bipush 7, 2) := by decide +kernel
theorem d_Mo_tell_106 : decode mt_Mo_tell.2.1 106 = .ok (.aload_n 0, 1) := by decide +kernel
theorem d_Mo_tell_107 : decode mt_Mo_tell.2.1 107 = .ok (.getfield 43, 3) := by decide +kernel
theorem d_Mo_tell_110 : decode mt_Mo_tell.2.1 110 = .ok (.iload_n 1, 1) := by decide +kernel
theorem d_Mo_tell_111 : decode mt_Mo_tell.2.1 111 = .ok (.iaload, 1) := by decide +kernel
theorem d_Mo_tell_112 : decode mt_Mo_tell.2.1 112 = .ok (.iastore, 1) := by decide +kernel
theorem d_Mo_tell_113 : decode mt_Mo_tell.2.1 113 = .ok (.aload_n 0, 1) := by decide +kernel
theorem d_Mo_tell_114 : decode mt_Mo_tell.2.1 114 = .ok (.getfield 102, 3) := by decide +kernel
theorem d_Mo_tell_117 : decode mt_Mo_tell.2.1 117 = .ok (.bipush 8, 2) := by decide +kernel
theorem d_Mo_tell_119 : decode mt_Mo_tell.2.1 119 = .ok (.iload_n 2, 1) := by decide +kernel
theorem d_Mo_tell_120 : decode mt_Mo_tell.2.1 120 = .ok (.iastore, 1) := by decide +kernel
theorem d_Mo_tell_121 : decode mt_Mo_tell.2.1 121 = .ok (.aload_n 0, 1) := by decide +kernel
theorem d_Mo_tell_122 : decode mt_Mo_tell.2.1 122 = .ok (.getfield 102, 3) := by decide +kernel
theorem d_Mo_tell_125 : decode mt_Mo_tell.2.1 125 = .ok (.bipush 9, 2) := by decide +kernel
theorem d_Mo_tell_127 : decode mt_Mo_tell.2.1 127 = .ok (.aload_n 0, 1) := by decide +kernel
theorem d_Mo_tell_128 : decode mt_Mo_tell.2.1 128 = .ok (.getfield 171, 3) := by decide +kernel
theorem d_Mo_tell_131 : decode mt_Mo_tell.2.1 131 = .ok (.iastore, 1) := by decide +kernel
theorem d_Mo_tell_132 : decode mt_Mo_tell.2.1 132 = .ok (.return_, 1) := by decide +kernel
theorem d_Mo_holds_0 : decode mt_Mo_holds.2.1 0 = .ok (.iconst 0, 1) := by decide +kernel
theorem d_Mo_holds_1 : decode mt_Mo_holds.2.1 1 = .ok (.istore_n 2, 1) := by decide +kernel
theorem d_Mo_holds_2 : decode mt_Mo_holds.2.1 2 = .ok (.aload_n 0, 1) := by decide +kernel
theorem d_Mo_holds_3 : decode mt_Mo_holds.2.1 3 = .ok (.getfield 71, 3) := by decide +kernel
theorem d_Mo_holds_6 : decode mt_Mo_holds.2.1 6 = .ok (.iload_n 1, 1) := by decide +kernel
theorem d_Mo_holds_7 : decode mt_Mo_holds.2.1 7 = .ok (.iaload, 1) := by decide +kernel
theorem d_Mo_holds_8 : decode mt_Mo_holds.2.1 8 = .ok (.istore_n 3, 1) := by decide +kernel
theorem d_Mo_holds_9 : decode mt_Mo_holds.2.1 9 = .ok (.iload_n 3, 1) := by decide +kernel
theorem d_Mo_holds_10 : decode mt_Mo_holds.2.1 10 = .ok (.aload_n 0, 1) := by decide +kernel
theorem d_Mo_holds_11 : decode mt_Mo_holds.2.1 11 = .ok (.getfield 71, 3) := by decide +kernel
theorem d_Mo_holds_14 : decode mt_Mo_holds.2.1 14 = .ok (.iload_n 1, 1) := by decide +kernel
theorem d_Mo_holds_15 : decode mt_Mo_holds.2.1 15 = .ok (.iconst 1, 1) := by decide +kernel
theorem d_Mo_holds_16 : decode mt_Mo_holds.2.1 16 = .ok (.iadd, 1) := by decide +kernel
theorem d_Mo_holds_17 : decode mt_Mo_holds.2.1 17 = .ok (.iaload, 1) := by decide +kernel
theorem d_Mo_holds_18 : decode mt_Mo_holds.2.1 18 = .ok (.if_icmp .ge 306, 3) := by decide +kernel
theorem d_Mo_holds_21 : decode mt_Mo_holds.2.1 21 = .ok (.aload_n 0, 1) := by decide +kernel
theorem d_Mo_holds_22 : decode mt_Mo_holds.2.1 22 = .ok (.getfield 65, 3) := by decide +kernel
theorem d_Mo_holds_25 : decode mt_Mo_holds.2.1 25 = .ok (.iload_n 3, 1) := by decide +kernel
theorem d_Mo_holds_26 : decode mt_Mo_holds.2.1 26 = .ok (.iaload, 1) := by decide +kernel
theorem d_Mo_holds_27 : decode mt_Mo_holds.2.1 27 = .ok (.istore 4, 2) := by decide +kernel
theorem d_Mo_holds_29 : decode mt_Mo_holds.2.1 29 = .ok (.iload 4, 2) := by decide +kernel
theorem d_Mo_holds_31 : decode mt_Mo_holds.2.1 31 = .ok (.bipush 40, 2) := by decide +kernel
theorem d_Mo_holds_33 : decode mt_Mo_holds.2.1 33 = .ok (.if_icmp .ge 39, 3) := by decide +kernel
theorem d_Mo_holds_36 : decode mt_Mo_holds.2.1 36 = .ok (.aload_n 0, 1) := by decide +kernel
theorem d_Mo_holds_37 : decode mt_Mo_holds.2.1 37 = .ok (.getfield 99, 3) := by decide +kernel
theorem d_Mo_holds_40 : decode mt_Mo_holds.2.1 40 = .ok (.iload_n 2, 1) := by decide +kernel
theorem d_Mo_holds_41 : decode mt_Mo_holds.2.1 41 = .ok (.iload 4, 2) := by decide +kernel
theorem d_Mo_holds_43 : decode mt_Mo_holds.2.1 43 = .ok (.ifCond .ne 12, 3) := by decide +kernel
theorem d_Mo_holds_46 : decode mt_Mo_holds.2.1 46 = .ok (.aload_n 0, 1) := by decide +kernel
theorem d_Mo_holds_47 : decode mt_Mo_holds.2.1 47 = .ok (.getfield 68, 3) := by decide +kernel
theorem d_Mo_holds_50 : decode mt_Mo_holds.2.1 50 = .ok (.iload_n 3, 1) := by decide +kernel
theorem d_Mo_holds_51 : decode mt_Mo_holds.2.1 51 = .ok (.iaload, 1) := by decide +kernel
theorem d_Mo_holds_52 : decode mt_Mo_holds.2.1 52 = .ok (.goto 13, 3) := by decide +kernel
theorem d_Mo_holds_55 : decode mt_Mo_holds.2.1 55 = .ok (.aload_n 0, 1) := by decide +kernel
theorem d_Mo_holds_56 : decode mt_Mo_holds.2.1 56 = .ok (.getfield 102, 3) := by decide +kernel
theorem d_Mo_holds_59 : decode mt_Mo_holds.2.1 59 = .ok (.iload 4, 2) := by decide +kernel
theorem d_Mo_holds_61 : decode mt_Mo_holds.2.1 61 = .ok (.bipush 20, 2) := by decide +kernel
theorem d_Mo_holds_63 : decode mt_Mo_holds.2.1 63 = .ok (.isub, 1) := by decide +kernel
theorem d_Mo_holds_64 : decode mt_Mo_holds.2.1 64 = .ok (.iaload, 1) := by decide +kernel
theorem d_Mo_holds_65 : decode mt_Mo_holds.2.1 65 = .ok (.iastore, 1) := by decide +kernel
theorem d_Mo_holds_66 : decode mt_Mo_holds.2.1 66 = .ok (.iinc 2 1, 3) := by decide +kernel
theorem d_Mo_holds_69 : decode mt_Mo_holds.2.1 69 = .ok (.goto 249, 3) := by decide +kernel
theorem d_Mo_holds_72 : decode mt_Mo_holds.2.1 72 = .ok (.iload 4, 2) := by decide +kernel
theorem d_Mo_holds_74 : decode mt_Mo_holds.2.1 74 = .ok (.bipush 40, 2) := by decide +kernel
theorem d_Mo_holds_76 : decode mt_Mo_holds.2.1 76 = .ok (.if_icmp .ne 30, 3) := by decide +kernel
theorem d_Mo_holds_79 : decode mt_Mo_holds.2.1 79 = .ok (.aload_n 0, 1) := by decide +kernel
theorem d_Mo_holds_80 : decode mt_Mo_holds.2.1 80 = .ok (.getfield 99, 3) := by decide +kernel
theorem d_Mo_holds_83 : decode mt_Mo_holds.2.1 83 = .ok (.iload_n 2, 1) := by decide +kernel
theorem d_Mo_holds_84 : decode mt_Mo_holds.2.1 84 = .ok (.iconst 1, 1) := by decide +kernel
theorem d_Mo_holds_85 : decode mt_Mo_holds.2.1 85 = .ok (.isub, 1) := by decide +kernel
theorem d_Mo_holds_86 : decode mt_Mo_holds.2.1 86 = .ok (.aload_n 0, 1) := by decide +kernel
theorem d_Mo_holds_87 : decode mt_Mo_holds.2.1 87 = .ok (.getfield 99, 3) := by decide +kernel
theorem d_Mo_holds_90 : decode mt_Mo_holds.2.1 90 = .ok (.iload_n 2, 1) := by decide +kernel
theorem d_Mo_holds_91 : decode mt_Mo_holds.2.1 91 = .ok (.iconst 1, 1) := by decide +kernel
theorem d_Mo_holds_92 : decode mt_Mo_holds.2.1 92 = .ok (.isub, 1) := by decide +kernel
theorem d_Mo_holds_93 : decode mt_Mo_holds.2.1 93 = .ok (.iaload, 1) := by decide +kernel
theorem d_Mo_holds_94 : decode mt_Mo_holds.2.1 94 = .ok (.ifCond .ne 7, 3) := by decide +kernel
theorem d_Mo_holds_97 : decode mt_Mo_holds.2.1 97 = .ok (.iconst 1, 1) := by decide +kernel
theorem d_Mo_holds_98 : decode mt_Mo_holds.2.1 98 = .ok (.goto 4, 3) := by decide +kernel
theorem d_Mo_holds_101 : decode mt_Mo_holds.2.1 101 = .ok (.iconst 0, 1) := by decide +kernel
theorem d_Mo_holds_102 : decode mt_Mo_holds.2.1 102 = .ok (.iastore, 1) := by decide +kernel
theorem d_Mo_holds_103 : decode mt_Mo_holds.2.1 103 = .ok (.goto 215, 3) := by decide +kernel
theorem d_Mo_holds_106 : decode mt_Mo_holds.2.1 106 = .ok (.iinc 2 (-1), 3) := by decide +kernel
theorem d_Mo_holds_109 : decode mt_Mo_holds.2.1 109 = .ok (.aload_n 0, 1) := by decide +kernel
theorem d_Mo_holds_110 : decode mt_Mo_holds.2.1 110 = .ok (.getfield 99, 3) := by decide +kernel
theorem d_Mo_holds_113 : decode mt_Mo_holds.2.1 113 = .ok (.iload_n 2, 1) := by decide +kernel
theorem d_Mo_holds_114 : decode mt_Mo_holds.2.1 114 = .ok (.iconst 1, 1) := by decide +kernel
theorem d_Mo_holds_115 : decode mt_Mo_holds.2.1 115 = .ok (.isub, 1) := by decide +kernel
theorem d_Mo_holds_116 : decode mt_Mo_holds.2.1 116 = .ok (.iaload, 1) := by decide +kernel
theorem d_Mo_holds_117 : decode mt_Mo_holds.2.1 117 = .ok (.istore 5, 2) := by decide +kernel
theorem d_Mo_holds_119 : decode mt_Mo_holds.2.1 119 = .ok (.aload_n 0, 1) := by decide +kernel
theorem d_Mo_holds_120 : decode mt_Mo_holds.2.1 120 = .ok (.getfield 99, 3) := by decide +kernel
theorem d_Mo_holds_123 : decode mt_Mo_holds.2.1 123 = .ok (.iload_n 2, 1) := by decide +kernel
theorem d_Mo_holds_124 : decode mt_Mo_holds.2.1 124 = .ok (.iaload, 1) := by decide +kernel
theorem d_Mo_holds_125 : decode mt_Mo_holds.2.1 125 = .ok (.istore 6, 2) := by decide +kernel
theorem d_Mo_holds_127 : decode mt_Mo_holds.2.1 127 = .ok (.iload 4, 2) := by decide +kernel
theorem d_Mo_holds_129 : decode mt_Mo_holds.2.1 129 = .ok (.tableswitch 176 41 46 #[39, 65, 91, 114, 137, 160], 39) := by decide +kernel
theorem d_Mo_holds_168 : decode mt_Mo_holds.2.1 168 = .ok (.aload_n 0, 1) := by decide +kernel
theorem d_Mo_holds_169 : decode mt_Mo_holds.2.1 169 = .ok (.getfield 99, 3) := by decide +kernel
theorem d_Mo_holds_172 : decode mt_Mo_holds.2.1 172 = .ok (.iload_n 2, 1) := by decide +kernel
theorem d_Mo_holds_173 : decode mt_Mo_holds.2.1 173 = .ok (.iconst 1, 1) := by decide +kernel
theorem d_Mo_holds_174 : decode mt_Mo_holds.2.1 174 = .ok (.isub, 1) := by decide +kernel
theorem d_Mo_holds_175 : decode mt_Mo_holds.2.1 175 = .ok (.iload 5, 2) := by decide +kernel
theorem d_Mo_holds_177 : decode mt_Mo_holds.2.1 177 = .ok (.ifCond .ne 8, 3) := by decide +kernel
theorem d_Mo_holds_180 : decode mt_Mo_holds.2.1 180 = .ok (.iload 6, 2) := by decide +kernel
theorem d_Mo_holds_182 : decode mt_Mo_holds.2.1 182 = .ok (.ifCond .eq 7, 3) := by decide +kernel
theorem d_Mo_holds_185 : decode mt_Mo_holds.2.1 185 = .ok (.iconst 1, 1) := by decide +kernel
theorem d_Mo_holds_186 : decode mt_Mo_holds.2.1 186 = .ok (.goto 4, 3) := by decide +kernel
theorem d_Mo_holds_189 : decode mt_Mo_holds.2.1 189 = .ok (.iconst 0, 1) := by decide +kernel
theorem d_Mo_holds_190 : decode mt_Mo_holds.2.1 190 = .ok (.iastore, 1) := by decide +kernel
theorem d_Mo_holds_191 : decode mt_Mo_holds.2.1 191 = .ok (.goto 127, 3) := by decide +kernel
theorem d_Mo_holds_194 : decode mt_Mo_holds.2.1 194 = .ok (.aload_n 0, 1) := by decide +kernel
theorem d_Mo_holds_195 : decode mt_Mo_holds.2.1 195 = .ok (.getfield 99, 3) := by decide +kernel
theorem d_Mo_holds_198 : decode mt_Mo_holds.2.1 198 = .ok (.iload_n 2, 1) := by decide +kernel
theorem d_Mo_holds_199 : decode mt_Mo_holds.2.1 199 = .ok (.iconst 1, 1) := by decide +kernel
theorem d_Mo_holds_200 : decode mt_Mo_holds.2.1 200 = .ok (.isub, 1) := by decide +kernel
theorem d_Mo_holds_201 : decode mt_Mo_holds.2.1 201 = .ok (.iload 5, 2) := by decide +kernel
theorem d_Mo_holds_203 : decode mt_Mo_holds.2.1 203 = .ok (.ifCond .eq 12, 3) := by decide +kernel
theorem d_Mo_holds_206 : decode mt_Mo_holds.2.1 206 = .ok (.iload 6, 2) := by decide +kernel
theorem d_Mo_holds_208 : decode mt_Mo_holds.2.1 208 = .ok (.ifCond .eq 7, 3) := by decide +kernel
theorem d_Mo_holds_211 : decode mt_Mo_holds.2.1 211 = .ok (.iconst 1, 1) := by decide +kernel
theorem d_Mo_holds_212 : decode mt_Mo_holds.2.1 212 = .ok (.goto 4, 3) := by decide +kernel
theorem d_Mo_holds_215 : decode mt_Mo_holds.2.1 215 = .ok (.iconst 0, 1) := by decide +kernel
theorem d_Mo_holds_216 : decode mt_Mo_holds.2.1 216 = .ok (.iastore, 1) := by decide +kernel
theorem d_Mo_holds_217 : decode mt_Mo_holds.2.1 217 = .ok (.goto 101, 3) := by decide +kernel
theorem d_Mo_holds_220 : decode mt_Mo_holds.2.1 220 = .ok (.aload_n 0, 1) := by decide +kernel
theorem d_Mo_holds_221 : decode mt_Mo_holds.2.1 221 = .ok (.getfield 99, 3) := by decide +kernel
theorem d_Mo_holds_224 : decode mt_Mo_holds.2.1 224 = .ok (.iload_n 2, 1) := by decide +kernel
theorem d_Mo_holds_225 : decode mt_Mo_holds.2.1 225 = .ok (.iconst 1, 1) := by decide +kernel
theorem d_Mo_holds_226 : decode mt_Mo_holds.2.1 226 = .ok (.isub, 1) := by decide +kernel
theorem d_Mo_holds_227 : decode mt_Mo_holds.2.1 227 = .ok (.iload 5, 2) := by decide +kernel
theorem d_Mo_holds_229 : decode mt_Mo_holds.2.1 229 = .ok (.iload 6, 2) := by decide +kernel
theorem d_Mo_holds_231 : decode mt_Mo_holds.2.1 231 = .ok (.if_icmp .ne 7, 3) := by decide +kernel
theorem d_Mo_holds_234 : decode mt_Mo_holds.2.1 234 = .ok (.iconst 1, 1) := by decide +kernel
theorem d_Mo_holds_235 : decode mt_Mo_holds.2.1 235 = .ok (.goto 4, 3) := by decide +kernel
theorem d_Mo_holds_238 : decode mt_Mo_holds.2.1 238 = .ok (.iconst 0, 1) := by decide +kernel
theorem d_Mo_holds_239 : decode mt_Mo_holds.2.1 239 = .ok (.iastore, 1) := by decide +kernel
theorem d_Mo_holds_240 : decode mt_Mo_holds.2.1 240 = .ok (.goto 78, 3) := by decide +kernel
theorem d_Mo_holds_243 : decode mt_Mo_holds.2.1 243 = .ok (.aload_n 0, 1) := by decide +kernel
theorem d_Mo_holds_244 : decode mt_Mo_holds.2.1 244 = .ok (.getfield 99, 3) := by decide +kernel
theorem d_Mo_holds_247 : decode mt_Mo_holds.2.1 247 = .ok (.iload_n 2, 1) := by decide +kernel
theorem d_Mo_holds_248 : decode mt_Mo_holds.2.1 248 = .ok (.iconst 1, 1) := by decide +kernel
theorem d_Mo_holds_249 : decode mt_Mo_holds.2.1 249 = .ok (.isub, 1) := by decide +kernel
theorem d_Mo_holds_250 : decode mt_Mo_holds.2.1 250 = .ok (.iload 5, 2) := by decide +kernel
theorem d_Mo_holds_252 : decode mt_Mo_holds.2.1 252 = .ok (.iload 6, 2) := by decide +kernel
theorem d_Mo_holds_254 : decode mt_Mo_holds.2.1 254 = .ok (.if_icmp .ge 7, 3) := by decide +kernel
theorem d_Mo_holds_257 : decode mt_Mo_holds.2.1 257 = .ok (.iconst 1, 1) := by decide +kernel
theorem d_Mo_holds_258 : decode mt_Mo_holds.2.1 258 = .ok (.goto 4, 3) := by decide +kernel
theorem d_Mo_holds_261 : decode mt_Mo_holds.2.1 261 = .ok (.iconst 0, 1) := by decide +kernel
theorem d_Mo_holds_262 : decode mt_Mo_holds.2.1 262 = .ok (.iastore, 1) := by decide +kernel
theorem d_Mo_holds_263 : decode mt_Mo_holds.2.1 263 = .ok (.goto 55, 3) := by decide +kernel
theorem d_Mo_holds_266 : decode mt_Mo_holds.2.1 266 = .ok (.aload_n 0, 1) := by decide +kernel
theorem d_Mo_holds_267 : decode mt_Mo_holds.2.1 267 = .ok (.getfield 99, 3) := by decide +kernel
theorem d_Mo_holds_270 : decode mt_Mo_holds.2.1 270 = .ok (.iload_n 2, 1) := by decide +kernel
theorem d_Mo_holds_271 : decode mt_Mo_holds.2.1 271 = .ok (.iconst 1, 1) := by decide +kernel
theorem d_Mo_holds_272 : decode mt_Mo_holds.2.1 272 = .ok (.isub, 1) := by decide +kernel
theorem d_Mo_holds_273 : decode mt_Mo_holds.2.1 273 = .ok (.iload 5, 2) := by decide +kernel
theorem d_Mo_holds_275 : decode mt_Mo_holds.2.1 275 = .ok (.iload 6, 2) := by decide +kernel
theorem d_Mo_holds_277 : decode mt_Mo_holds.2.1 277 = .ok (.if_icmp .le 7, 3) := by decide +kernel
theorem d_Mo_holds_280 : decode mt_Mo_holds.2.1 280 = .ok (.iconst 1, 1) := by decide +kernel
theorem d_Mo_holds_281 : decode mt_Mo_holds.2.1 281 = .ok (.goto 4, 3) := by decide +kernel
theorem d_Mo_holds_284 : decode mt_Mo_holds.2.1 284 = .ok (.iconst 0, 1) := by decide +kernel
theorem d_Mo_holds_285 : decode mt_Mo_holds.2.1 285 = .ok (.iastore, 1) := by decide +kernel
theorem d_Mo_holds_286 : decode mt_Mo_holds.2.1 286 = .ok (.goto 32, 3) := by decide +kernel
theorem d_Mo_holds_289 : decode mt_Mo_holds.2.1 289 = .ok (.aload_n 0, 1) := by decide +kernel
theorem d_Mo_holds_290 : decode mt_Mo_holds.2.1 290 = .ok (.getfield 99, 3) := by decide +kernel
theorem d_Mo_holds_293 : decode mt_Mo_holds.2.1 293 = .ok (.iload_n 2, 1) := by decide +kernel
theorem d_Mo_holds_294 : decode mt_Mo_holds.2.1 294 = .ok (.iconst 1, 1) := by decide +kernel
theorem d_Mo_holds_295 : decode mt_Mo_holds.2.1 295 = .ok (.isub, 1) := by decide +kernel
theorem d_Mo_holds_296 : decode mt_Mo_holds.2.1 296 = .ok (.iload 5, 2) := by decide +kernel
theorem d_Mo_holds_298 : decode mt_Mo_holds.2.1 298 = .ok (.iload 6, 2) := by decide +kernel
theorem d_Mo_holds_300 : decode mt_Mo_holds.2.1 300 = .ok (.iadd, 1) := by decide +kernel
theorem d_Mo_holds_301 : decode mt_Mo_holds.2.1 301 = .ok (.iastore, 1) := by decide +kernel
theorem d_Mo_holds_302 : decode mt_Mo_holds.2.1 302 = .ok (.goto 16, 3) := by decide +kernel
theorem d_Mo_holds_305 : decode mt_Mo_holds.2.1 305 = .ok (.aload_n 0, 1) := by decide +kernel
theorem d_Mo_holds_306 : decode mt_Mo_holds.2.1 306 = .ok (.getfield 99, 3) := by decide +kernel
theorem d_Mo_holds_309 : decode mt_Mo_holds.2.1 309 = .ok (.iload_n 2, 1) := by decide +kernel
theorem d_Mo_holds_310 : decode mt_Mo_holds.2.1 310 = .ok (.iconst 1, 1) := by decide +kernel
theorem d_Mo_holds_311 : decode mt_Mo_holds.2.1 311 = .ok (.isub, 1) := by decide +kernel
theorem d_Mo_holds_312 : decode mt_Mo_holds.2.1 312 = .ok (.iload 5, 2) := by decide +kernel
theorem d_Mo_holds_314 : decode mt_Mo_holds.2.1 314 = .ok (.iload 6, 2) := by decide +kernel
theorem d_Mo_holds_316 : decode mt_Mo_holds.2.1 316 = .ok (.isub, 1) := by decide +kernel
theorem d_Mo_holds_317 : decode mt_Mo_holds.2.1 317 = .ok (.iastore, 1) := by decide +kernel
theorem d_Mo_holds_318 : decode mt_Mo_holds.2.1 318 = .ok (.iinc 3 1, 3) := by decide +kernel
theorem d_Mo_holds_321 : decode mt_Mo_holds.2.1 321 = .ok (.goto (-312), 3) := by decide +kernel
theorem d_Mo_holds_324 : decode mt_Mo_holds.2.1 324 = .ok (.aload_n 0, 1) := by decide +kernel
theorem d_Mo_holds_325 : decode mt_Mo_holds.2.1 325 = .ok (.getfield 99, 3) := by decide +kernel
theorem d_Mo_holds_328 : decode mt_Mo_holds.2.1 328 = .ok (.iconst 0, 1) := by decide +kernel
theorem d_Mo_holds_329 : decode mt_Mo_holds.2.1 329 = .ok (.iaload, 1) := by decide +kernel
theorem d_Mo_holds_330 : decode mt_Mo_holds.2.1 330 = .ok (.ifCond .eq 7, 3) := by decide +kernel
theorem d_Mo_holds_333 : decode mt_Mo_holds.2.1 333 = .ok (.iconst 1, 1) := by decide +kernel
theorem d_Mo_holds_334 : decode mt_Mo_holds.2.1 334 = .ok (.goto 4, 3) := by decide +kernel
theorem d_Mo_holds_337 : decode mt_Mo_holds.2.1 337 = .ok (.iconst 0, 1) := by decide +kernel
theorem d_Mo_holds_338 : decode mt_Mo_holds.2.1 338 = .ok (.ireturn, 1) := by decide +kernel
theorem d_Mo_within_0 : decode mt_Mo_within.2.1 0 = .ok (.iload_n 0, 1) := by decide +kernel
theorem d_Mo_within_1 : decode mt_Mo_within.2.1 1 = .ok (.ifCond .ge 7, 3) := by decide +kernel
theorem d_Mo_within_4 : decode mt_Mo_within.2.1 4 = .ok (.iconst 0, 1) := by decide +kernel
theorem d_Mo_within_5 : decode mt_Mo_within.2.1 5 = .ok (.goto 17, 3) := by decide +kernel
theorem d_Mo_within_8 : decode mt_Mo_within.2.1 8 = .ok (.iload_n 0, 1) := by decide +kernel
theorem d_Mo_within_9 : decode mt_Mo_within.2.1 9 = .ok (.ldc_w 337, 3) := by decide +kernel
theorem d_Mo_within_12 : decode mt_Mo_within.2.1 12 = .ok (.if_icmp .le 9, 3) := by decide +kernel
theorem d_Mo_within_15 : decode mt_Mo_within.2.1 15 = .ok (.ldc_w 337, 3) := by decide +kernel
theorem d_Mo_within_18 : decode mt_Mo_within.2.1 18 = .ok (.goto 4, 3) := by decide +kernel
theorem d_Mo_within_21 : decode mt_Mo_within.2.1 21 = .ok (.iload_n 0, 1) := by decide +kernel
theorem d_Mo_within_22 : decode mt_Mo_within.2.1 22 = .ok (.ireturn, 1) := by decide +kernel
theorem d_Mo_of_0 : decode mt_Mo_of.2.1 0 = .ok (.aload_n 0, 1) := by decide +kernel
theorem d_Mo_of_1 : decode mt_Mo_of.2.1 1 = .ok (.iload_n 1, 1) := by decide +kernel
theorem d_Mo_of_2 : decode mt_Mo_of.2.1 2 = .ok (.invokevirtual 190, 3) := by decide +kernel
theorem d_Mo_of_5 : decode mt_Mo_of.2.1 5 = .ok (.ifCond .ne 5, 3) := by decide +kernel
theorem d_Mo_of_8 : decode mt_Mo_of.2.1 8 = .ok (.iconst (-1), 1) := by decide +kernel
theorem d_Mo_of_9 : decode mt_Mo_of.2.1 9 = .ok (.ireturn, 1) := by decide +kernel
theorem d_Mo_of_10 : decode mt_Mo_of.2.1 10 = .ok (.iload_n 2, 1) := by decide +kernel
theorem d_Mo_of_11 : decode mt_Mo_of.2.1 11 = .ok (.tableswitch 128 0 7 #[45, 52, 59, 66, 73, 80, 92, 99], 45) := by decide +kernel
theorem d_Mo_of_56 : decode mt_Mo_of.2.1 56 = .ok (.aload_n 0, 1) := by decide +kernel
theorem d_Mo_of_57 : decode mt_Mo_of.2.1 57 = .ok (.getfield 25, 3) := by decide +kernel
theorem d_Mo_of_60 : decode mt_Mo_of.2.1 60 = .ok (.iload_n 1, 1) := by decide +kernel
theorem d_Mo_of_61 : decode mt_Mo_of.2.1 61 = .ok (.iaload, 1) := by decide +kernel
theorem d_Mo_of_62 : decode mt_Mo_of.2.1 62 = .ok (.ireturn, 1) := by decide +kernel
theorem d_Mo_of_63 : decode mt_Mo_of.2.1 63 = .ok (.aload_n 0, 1) := by decide +kernel
theorem d_Mo_of_64 : decode mt_Mo_of.2.1 64 = .ok (.getfield 28, 3) := by decide +kernel
theorem d_Mo_of_67 : decode mt_Mo_of.2.1 67 = .ok (.iload_n 1, 1) := by decide +kernel
theorem d_Mo_of_68 : decode mt_Mo_of.2.1 68 = .ok (.iaload, 1) := by decide +kernel
theorem d_Mo_of_69 : decode mt_Mo_of.2.1 69 = .ok (.ireturn, 1) := by decide +kernel
theorem d_Mo_of_70 : decode mt_Mo_of.2.1 70 = .ok (.aload_n 0, 1) := by decide +kernel
theorem d_Mo_of_71 : decode mt_Mo_of.2.1 71 = .ok (.getfield 31, 3) := by decide +kernel
theorem d_Mo_of_74 : decode mt_Mo_of.2.1 74 = .ok (.iload_n 1, 1) := by decide +kernel
theorem d_Mo_of_75 : decode mt_Mo_of.2.1 75 = .ok (.iaload, 1) := by decide +kernel
theorem d_Mo_of_76 : decode mt_Mo_of.2.1 76 = .ok (.ireturn, 1) := by decide +kernel
theorem d_Mo_of_77 : decode mt_Mo_of.2.1 77 = .ok (.aload_n 0, 1) := by decide +kernel
theorem d_Mo_of_78 : decode mt_Mo_of.2.1 78 = .ok (.getfield 34, 3) := by decide +kernel
theorem d_Mo_of_81 : decode mt_Mo_of.2.1 81 = .ok (.iload_n 1, 1) := by decide +kernel
theorem d_Mo_of_82 : decode mt_Mo_of.2.1 82 = .ok (.iaload, 1) := by decide +kernel
theorem d_Mo_of_83 : decode mt_Mo_of.2.1 83 = .ok (.ireturn, 1) := by decide +kernel
theorem d_Mo_of_84 : decode mt_Mo_of.2.1 84 = .ok (.aload_n 0, 1) := by decide +kernel
theorem d_Mo_of_85 : decode mt_Mo_of.2.1 85 = .ok (.getfield 37, 3) := by decide +kernel
theorem d_Mo_of_88 : decode mt_Mo_of.2.1 88 = .ok (.iload_n 1, 1) := by decide +kernel
theorem d_Mo_of_89 : decode mt_Mo_of.2.1 89 = .ok (.iaload, 1) := by decide +kernel
theorem d_Mo_of_90 : decode mt_Mo_of.2.1 90 = .ok (.ireturn, 1) := by decide +kernel
theorem d_Mo_of_91 : decode mt_Mo_of.2.1 91 = .ok (.aload_n 0, 1) := by decide +kernel
theorem d_Mo_of_92 : decode mt_Mo_of.2.1 92 = .ok (.getfield 171, 3) := by decide +kernel
theorem d_Mo_of_95 : decode mt_Mo_of.2.1 95 = .ok (.aload_n 0, 1) := by decide +kernel
theorem d_Mo_of_96 : decode mt_Mo_of.2.1 96 = .ok (.getfield 40, 3) := by decide +kernel
theorem d_Mo_of_99 : decode mt_Mo_of.2.1 99 = .ok (.iload_n 1, 1) := by decide +kernel
theorem d_Mo_of_100 : decode mt_Mo_of.2.1 100 = .ok (.iaload, 1) := by decide +kernel
theorem d_Mo_of_101 : decode mt_Mo_of.2.1 101 = .ok (.isub, 1) := by decide +kernel
theorem d_Mo_of_102 : decode mt_Mo_of.2.1 102 = .ok (.ireturn, 1) := by decide +kernel
theorem d_Mo_of_103 : decode mt_Mo_of.2.1 103 = .ok (.aload_n 0, 1) := by decide +kernel
theorem d_Mo_of_104 : decode mt_Mo_of.2.1 104 = .ok (.getfield 43, 3) := by decide +kernel
theorem d_Mo_of_107 : decode mt_Mo_of.2.1 107 = .ok (.iload_n 1, 1) := by decide +kernel
theorem d_Mo_of_108 : decode mt_Mo_of.2.1 108 = .ok (.iaload, 1) := by decide +kernel
theorem d_Mo_of_109 : decode mt_Mo_of.2.1 109 = .ok (.ireturn, 1) := by decide +kernel
theorem d_Mo_of_110 : decode mt_Mo_of.2.1 110 = .ok (.aload_n 0, 1) := by decide +kernel
theorem d_Mo_of_111 : decode mt_Mo_of.2.1 111 = .ok (.getfield 28, 3) := by decide +kernel
theorem d_Mo_of_114 : decode mt_Mo_of.2.1 114 = .ok (.iload_n 1, 1) := by decide +kernel
theorem d_Mo_of_115 : decode mt_Mo_of.2.1 115 = .ok (.iaload, 1) := by decide +kernel
theorem d_Mo_of_116 : decode mt_Mo_of.2.1 116 = .ok (.ifCond .lt 21, 3) := by decide +kernel
theorem d_Mo_of_119 : decode mt_Mo_of.2.1 119 = .ok (.aload_n 0, 1) := by decide +kernel
theorem d_Mo_of_120 : decode mt_Mo_of.2.1 120 = .ok (.iload_n 1, 1) := by decide +kernel
theorem d_Mo_of_121 : decode mt_Mo_of.2.1 121 = .ok (.aload_n 0, 1) := by decide +kernel
theorem d_Mo_of_122 : decode mt_Mo_of.2.1 122 = .ok (.getfield 28, 3) := by decide +kernel
theorem d_Mo_of_125 : decode mt_Mo_of.2.1 125 = .ok (.iload_n 1, 1) := by decide +kernel
theorem d_Mo_of_126 : decode mt_Mo_of.2.1 126 = .ok (.iaload, 1) := by decide +kernel
theorem d_Mo_of_127 : decode mt_Mo_of.2.1 127 = .ok (.invokevirtual 351, 3) := by decide +kernel
theorem d_Mo_of_130 : decode mt_Mo_of.2.1 130 = .ok (.ifCond .eq 7, 3) := by decide +kernel
theorem d_Mo_of_133 : decode mt_Mo_of.2.1 133 = .ok (.iconst 1, 1) := by decide +kernel
theorem d_Mo_of_134 : decode mt_Mo_of.2.1 134 = .ok (.goto 4, 3) := by decide +kernel
theorem d_Mo_of_137 : decode mt_Mo_of.2.1 137 = .ok (.iconst 0, 1) := by decide +kernel
theorem d_Mo_of_138 : decode mt_Mo_of.2.1 138 = .ok (.ireturn, 1) := by decide +kernel
theorem d_Mo_of_139 : decode mt_Mo_of.2.1 139 = .ok (.iconst (-1), 1) := by decide +kernel
theorem d_Mo_of_140 : decode mt_Mo_of.2.1 140 = .ok (.ireturn, 1) := by decide +kernel
theorem d_Mo_doesSuit_0 : decode mt_Mo_doesSuit.2.1 0 = .ok (.iconst (-1), 1) := by decide +kernel
theorem d_Mo_doesSuit_1 : decode mt_Mo_doesSuit.2.1 1 = .ok (.istore_n 3, 1) := by decide +kernel
theorem d_Mo_doesSuit_2 : decode mt_Mo_doesSuit.2.1 2 = .ok (.iconst 0, 1) := by decide +kernel
theorem d_Mo_doesSuit_3 : decode mt_Mo_doesSuit.2.1 3 = .ok (.istore 4, 2) := by decide +kernel
theorem d_Mo_doesSuit_5 : decode mt_Mo_doesSuit.2.1 5 = .ok (.iload 4, 2) := by decide +kernel
theorem d_Mo_doesSuit_7 : decode mt_Mo_doesSuit.2.1 7 = .ok (.aload_n 0, 1) := by decide +kernel
theorem d_Mo_doesSuit_8 : decode mt_Mo_doesSuit.2.1 8 = .ok (.getfield 105, 3) := by decide +kernel
theorem d_Mo_doesSuit_11 : decode mt_Mo_doesSuit.2.1 11 = .ok (.aload_n 0, 1) := by decide +kernel
theorem d_Mo_doesSuit_12 : decode mt_Mo_doesSuit.2.1 12 = .ok (.getfield 25, 3) := by decide +kernel
theorem d_Mo_doesSuit_15 : decode mt_Mo_doesSuit.2.1 15 = .ok (.iload_n 1, 1) := by decide +kernel
theorem d_Mo_doesSuit_16 : decode mt_Mo_doesSuit.2.1 16 = .ok (.iaload, 1) := by decide +kernel
theorem d_Mo_doesSuit_17 : decode mt_Mo_doesSuit.2.1 17 = .ok (.iaload, 1) := by decide +kernel
theorem d_Mo_doesSuit_18 : decode mt_Mo_doesSuit.2.1 18 = .ok (.if_icmp .ge 66, 3) := by decide +kernel
theorem d_Mo_doesSuit_21 : decode mt_Mo_doesSuit.2.1 21 = .ok (.iconst 4, 1) := by decide +kernel
theorem d_Mo_doesSuit_22 : decode mt_Mo_doesSuit.2.1 22 = .ok (.aload_n 0, 1) := by decide +kernel
theorem d_Mo_doesSuit_23 : decode mt_Mo_doesSuit.2.1 23 = .ok (.getfield 25, 3) := by decide +kernel
theorem d_Mo_doesSuit_26 : decode mt_Mo_doesSuit.2.1 26 = .ok (.iload_n 1, 1) := by decide +kernel
theorem d_Mo_doesSuit_27 : decode mt_Mo_doesSuit.2.1 27 = .ok (.iaload, 1) := by decide +kernel
theorem d_Mo_doesSuit_28 : decode mt_Mo_doesSuit.2.1 28 = .ok (.imul, 1) := by decide +kernel
theorem d_Mo_doesSuit_29 : decode mt_Mo_doesSuit.2.1 29 = .ok (.iload 4, 2) := by decide +kernel
theorem d_Mo_doesSuit_31 : decode mt_Mo_doesSuit.2.1 31 = .ok (.iadd, 1) := by decide +kernel
theorem d_Mo_doesSuit_32 : decode mt_Mo_doesSuit.2.1 32 = .ok (.istore 5, 2) := by decide +kernel
theorem d_Mo_doesSuit_34 : decode mt_Mo_doesSuit.2.1 34 = .ok (.aload_n 0, 1) := by decide +kernel
theorem d_Mo_doesSuit_35 : decode mt_Mo_doesSuit.2.1 35 = .ok (.getfield 108, 3) := by decide +kernel
theorem d_Mo_doesSuit_38 : decode mt_Mo_doesSuit.2.1 38 = .ok (.iload 5, 2) := by decide +kernel
theorem d_Mo_doesSuit_40 : decode mt_Mo_doesSuit.2.1 40 = .ok (.iaload, 1) := by decide +kernel
theorem d_Mo_doesSuit_41 : decode mt_Mo_doesSuit.2.1 41 = .ok (.aload_n 0, 1) := by decide +kernel
theorem d_Mo_doesSuit_42 : decode mt_Mo_doesSuit.2.1 42 = .ok (.getfield 171, 3) := by decide +kernel
theorem d_Mo_doesSuit_45 : decode mt_Mo_doesSuit.2.1 45 = .ok (.aload_n 0, 1) := by decide +kernel
theorem d_Mo_doesSuit_46 : decode mt_Mo_doesSuit.2.1 46 = .ok (.getfield 40, 3) := by decide +kernel
theorem d_Mo_doesSuit_49 : decode mt_Mo_doesSuit.2.1 49 = .ok (.iload_n 1, 1) := by decide +kernel
theorem d_Mo_doesSuit_50 : decode mt_Mo_doesSuit.2.1 50 = .ok (.iaload, 1) := by decide +kernel
theorem d_Mo_doesSuit_51 : decode mt_Mo_doesSuit.2.1 51 = .ok (.isub, 1) := by decide +kernel
theorem d_Mo_doesSuit_52 : decode mt_Mo_doesSuit.2.1 52 = .ok (.if_icmp .gt 26, 3) := by decide +kernel
theorem d_Mo_doesSuit_55 : decode mt_Mo_doesSuit.2.1 55 = .ok (.iload_n 3, 1) := by decide +kernel
theorem d_Mo_doesSuit_56 : decode mt_Mo_doesSuit.2.1 56 = .ok (.ifCond .lt 19, 3) := by decide +kernel
theorem d_Mo_doesSuit_59 : decode mt_Mo_doesSuit.2.1 59 = .ok (.aload_n 0, 1) := by decide +kernel
theorem d_Mo_doesSuit_60 : decode mt_Mo_doesSuit.2.1 60 = .ok (.getfield 108, 3) := by decide +kernel
theorem d_Mo_doesSuit_63 : decode mt_Mo_doesSuit.2.1 63 = .ok (.iload 5, 2) := by decide +kernel
theorem d_Mo_doesSuit_65 : decode mt_Mo_doesSuit.2.1 65 = .ok (.iaload, 1) := by decide +kernel
theorem d_Mo_doesSuit_66 : decode mt_Mo_doesSuit.2.1 66 = .ok (.aload_n 0, 1) := by decide +kernel
theorem d_Mo_doesSuit_67 : decode mt_Mo_doesSuit.2.1 67 = .ok (.getfield 108, 3) := by decide +kernel
theorem d_Mo_doesSuit_70 : decode mt_Mo_doesSuit.2.1 70 = .ok (.iload_n 3, 1) := by decide +kernel
theorem d_Mo_doesSuit_71 : decode mt_Mo_doesSuit.2.1 71 = .ok (.iaload, 1) := by decide +kernel
theorem d_Mo_doesSuit_72 : decode mt_Mo_doesSuit.2.1 72 = .ok (.if_icmp .lt 6, 3) := by decide +kernel
theorem d_Mo_doesSuit_75 : decode mt_Mo_doesSuit.2.1 75 = .ok (.iload 5, 2) := by decide +kernel
theorem d_Mo_doesSuit_77 : decode mt_Mo_doesSuit.2.1 77 = .ok (.istore_n 3, 1) := by decide +kernel
theorem d_Mo_doesSuit_78 : decode mt_Mo_doesSuit.2.1 78 = .ok (.iinc 4 1, 3) := by decide +kernel
theorem d_Mo_doesSuit_81 : decode mt_Mo_doesSuit.2.1 81 = .ok (.goto (-76), 3) := by decide +kernel
theorem d_Mo_doesSuit_84 : decode mt_Mo_doesSuit.2.1 84 = .ok (.iload_n 3, 1) := by decide +kernel
theorem d_Mo_doesSuit_85 : decode mt_Mo_doesSuit.2.1 85 = .ok (.ifCond .lt 33, 3) := by decide +kernel
theorem d_Mo_doesSuit_88 : decode mt_Mo_doesSuit.2.1 88 = .ok (.aload_n 0, 1) := by decide +kernel
theorem d_Mo_doesSuit_89 : decode mt_Mo_doesSuit.2.1 89 = .ok (.getfield 7, 3) := by decide +kernel
theorem d_Mo_doesSuit_92 : decode mt_Mo_doesSuit.2.1 92 = .ok (.iload_n 2, 1) := by decide +kernel
theorem d_Mo_doesSuit_93 : decode mt_Mo_doesSuit.2.1 93 = .ok (.iaload, 1) := by decide +kernel
theorem d_Mo_doesSuit_94 : decode mt_Mo_doesSuit.2.1 94 = .ok (.aload_n 0, 1) := by decide +kernel
theorem d_Mo_doesSuit_95 : decode mt_Mo_doesSuit.2.1 95 = .ok (.getfield 111, 3) := by decide +kernel
theorem d_Mo_doesSuit_98 : decode mt_Mo_doesSuit.2.1 98 = .ok (.iload_n 3, 1) := by decide +kernel
theorem d_Mo_doesSuit_99 : decode mt_Mo_doesSuit.2.1 99 = .ok (.iaload, 1) := by decide +kernel
theorem d_Mo_doesSuit_100 : decode mt_Mo_doesSuit.2.1 100 = .ok (.if_icmp .lt 22, 3) := by decide +kernel
theorem d_Mo_doesSuit_103 : decode mt_Mo_doesSuit.2.1 103 = .ok (.aload_n 0, 1) := by decide +kernel
theorem d_Mo_doesSuit_104 : decode mt_Mo_doesSuit.2.1 104 = .ok (.getfield 7, 3) := by decide +kernel
theorem d_Mo_doesSuit_107 : decode mt_Mo_doesSuit.2.1 107 = .ok (.iload_n 2, 1) := by decide +kernel
theorem d_Mo_doesSuit_108 : decode mt_Mo_doesSuit.2.1 108 = .ok (.iaload, 1) := by decide +kernel
theorem d_Mo_doesSuit_109 : decode mt_Mo_doesSuit.2.1 109 = .ok (.aload_n 0, 1) := by decide +kernel
theorem d_Mo_doesSuit_110 : decode mt_Mo_doesSuit.2.1 110 = .ok (.getfield 114, 3) := by decide +kernel
theorem d_Mo_doesSuit_113 : decode mt_Mo_doesSuit.2.1 113 = .ok (.iload_n 3, 1) := by decide +kernel
theorem d_Mo_doesSuit_114 : decode mt_Mo_doesSuit.2.1 114 = .ok (.iaload, 1) := by decide +kernel
theorem d_Mo_doesSuit_115 : decode mt_Mo_doesSuit.2.1 115 = .ok (.if_icmp .gt 7, 3) := by decide +kernel
theorem d_Mo_doesSuit_118 : decode mt_Mo_doesSuit.2.1 118 = .ok (.iconst 1, 1) := by decide +kernel
theorem d_Mo_doesSuit_119 : decode mt_Mo_doesSuit.2.1 119 = .ok (.goto 4, 3) := by decide +kernel
theorem d_Mo_doesSuit_122 : decode mt_Mo_doesSuit.2.1 122 = .ok (.iconst 0, 1) := by decide +kernel
theorem d_Mo_doesSuit_123 : decode mt_Mo_doesSuit.2.1 123 = .ok (.ireturn, 1) := by decide +kernel
theorem d_Mo_from_0 : decode mt_Mo_from.2.1 0 = .ok (.iload_n 1, 1) := by decide +kernel
theorem d_Mo_from_1 : decode mt_Mo_from.2.1 1 = .ok (.ifCond .lt 11, 3) := by decide +kernel
theorem d_Mo_from_4 : decode mt_Mo_from.2.1 4 = .ok (.iload_n 1, 1) := by decide +kernel
theorem d_Mo_from_5 : decode mt_Mo_from.2.1 5 = .ok (.aload_n 0, 1) := by decide +kernel
theorem d_Mo_from_6 : decode mt_Mo_from.2.1 6 = .ok (.getfield 162, 3) := by decide +kernel
theorem d_Mo_from_9 : decode mt_Mo_from.2.1 9 = .ok (.if_icmp .lt 5, 3) := by decide +kernel
theorem d_Mo_from_12 : decode mt_Mo_from.2.1 12 = .ok (.iconst (-1), 1) := by decide +kernel
theorem d_Mo_from_13 : decode mt_Mo_from.2.1 13 = .ok (.ireturn, 1) := by decide +kernel
theorem d_Mo_from_14 : decode mt_Mo_from.2.1 14 = .ok (.iload_n 2, 1) := by decide +kernel
theorem d_Mo_from_15 : decode mt_Mo_from.2.1 15 = .ok (.ifCond .ne 12, 3) := by decide +kernel
theorem d_Mo_from_18 : decode mt_Mo_from.2.1 18 = .ok (.aload_n 0, 1) := by decide +kernel
theorem d_Mo_from_19 : decode mt_Mo_from.2.1 19 = .ok (.getfield 16, 3) := by decide +kernel
theorem d_Mo_from_22 : decode mt_Mo_from.2.1 22 = .ok (.iload_n 1, 1) := by decide +kernel
theorem d_Mo_from_23 : decode mt_Mo_from.2.1 23 = .ok (.iaload, 1) := by decide +kernel
theorem d_Mo_from_24 : decode mt_Mo_from.2.1 24 = .ok (.goto 32, 3) := by decide +kernel
theorem d_Mo_from_27 : decode mt_Mo_from.2.1 27 = .ok (.iload_n 2, 1) := by decide +kernel
theorem d_Mo_from_28 : decode mt_Mo_from.2.1 28 = .ok (.iconst 1, 1) := by decide +kernel
theorem d_Mo_from_29 : decode mt_Mo_from.2.1 29 = .ok (.if_icmp .ne 12, 3) := by decide +kernel
theorem d_Mo_from_32 : decode mt_Mo_from.2.1 32 = .ok (.aload_n 0, 1) := by decide +kernel
theorem d_Mo_from_33 : decode mt_Mo_from.2.1 33 = .ok (.getfield 19, 3) := by decide +kernel
theorem d_Mo_from_36 : decode mt_Mo_from.2.1 36 = .ok (.iload_n 1, 1) := by decide +kernel
theorem d_Mo_from_37 : decode mt_Mo_from.2.1 37 = .ok (.iaload, 1) := by decide +kernel
theorem d_Mo_from_38 : decode mt_Mo_from.2.1 38 = .ok (.goto 18, 3) := by decide +kernel
theorem d_Mo_from_41 : decode mt_Mo_from.2.1 41 = .ok (.iload_n 2, 1) := by decide +kernel
theorem d_Mo_from_42 : decode mt_Mo_from.2.1 42 = .ok (.iconst 2, 1) := by decide +kernel
theorem d_Mo_from_43 : decode mt_Mo_from.2.1 43 = .ok (.if_icmp .ne 12, 3) := by decide +kernel
theorem d_Mo_from_46 : decode mt_Mo_from.2.1 46 = .ok (.aload_n 0, 1) := by decide +kernel
theorem d_Mo_from_47 : decode mt_Mo_from.2.1 47 = .ok (.getfield 22, 3) := by decide +kernel
theorem d_Mo_from_50 : decode mt_Mo_from.2.1 50 = .ok (.iload_n 1, 1) := by decide +kernel
theorem d_Mo_from_51 : decode mt_Mo_from.2.1 51 = .ok (.iaload, 1) := by decide +kernel
theorem d_Mo_from_52 : decode mt_Mo_from.2.1 52 = .ok (.goto 4, 3) := by decide +kernel
theorem d_Mo_from_55 : decode mt_Mo_from.2.1 55 = .ok (.iconst (-1), 1) := by decide +kernel
theorem d_Mo_from_56 : decode mt_Mo_from.2.1 56 = .ok (.ireturn, 1) := by decide +kernel
theorem d_Mo_band_0 : decode mt_Mo_band.2.1 0 = .ok (.iload_n 1, 1) := by decide +kernel
theorem d_Mo_band_1 : decode mt_Mo_band.2.1 1 = .ok (.ifCond .lt 46, 3) := by decide +kernel
theorem d_Mo_band_4 : decode mt_Mo_band.2.1 4 = .ok (.iload_n 1, 1) := by decide +kernel
theorem d_Mo_band_5 : decode mt_Mo_band.2.1 5 = .ok (.iconst 2, 1) := by decide +kernel
theorem d_Mo_band_6 : decode mt_Mo_band.2.1 6 = .ok (.if_icmp .gt 41, 3) := by decide +kernel
theorem d_Mo_band_9 : decode mt_Mo_band.2.1 9 = .ok (.aload_n 0, 1) := by decide +kernel
theorem d_Mo_band_10 : decode mt_Mo_band.2.1 10 = .ok (.getfield 105, 3) := by decide +kernel
theorem d_Mo_band_13 : decode mt_Mo_band.2.1 13 = .ok (.iload_n 1, 1) := by decide +kernel
theorem d_Mo_band_14 : decode mt_Mo_band.2.1 14 = .ok (.iaload, 1) := by decide +kernel
theorem d_Mo_band_15 : decode mt_Mo_band.2.1 15 = .ok (.iconst 4, 1) := by decide +kernel
theorem d_Mo_band_16 : decode mt_Mo_band.2.1 16 = .ok (.if_icmp .eq 31, 3) := by decide +kernel
theorem d_Mo_band_19 : decode mt_Mo_band.2.1 19 = .ok (.iload_n 2, 1) := by decide +kernel
theorem d_Mo_band_20 : decode mt_Mo_band.2.1 20 = .ok (.ifCond .lt 27, 3) := by decide +kernel
theorem d_Mo_band_23 : decode mt_Mo_band.2.1 23 = .ok (.iload_n 2, 1) := by decide +kernel
theorem d_Mo_band_24 : decode mt_Mo_band.2.1 24 = .ok (.sipush 1000, 3) := by decide +kernel
theorem d_Mo_band_27 : decode mt_Mo_band.2.1 27 = .ok (.if_icmp .gt 20, 3) := by decide +kernel
theorem d_Mo_band_30 : decode mt_Mo_band.2.1 30 = .ok (.iload_n 3, 1) := by decide +kernel
theorem d_Mo_band_31 : decode mt_Mo_band.2.1 31 = .ok (.ifCond .lt 16, 3) := by decide +kernel
theorem d_Mo_band_34 : decode mt_Mo_band.2.1 34 = .ok (.iload_n 3, 1) := by decide +kernel
theorem d_Mo_band_35 : decode mt_Mo_band.2.1 35 = .ok (.iload 4, 2) := by decide +kernel
theorem d_Mo_band_37 : decode mt_Mo_band.2.1 37 = .ok (.if_icmp .gt 10, 3) := by decide +kernel
theorem d_Mo_band_40 : decode mt_Mo_band.2.1 40 = .ok (.iload 4, 2) := by decide +kernel
theorem d_Mo_band_42 : decode mt_Mo_band.2.1 42 = .ok (.bipush 9, 2) := by decide +kernel
theorem d_Mo_band_44 : decode mt_Mo_band.2.1 44 = .ok (.if_icmp .le 5, 3) := by decide +kernel
theorem d_Mo_band_47 : decode mt_Mo_band.2.1 47 = .ok (.iconst (-1), 1) := by decide +kernel
theorem d_Mo_band_48 : decode mt_Mo_band.2.1 48 = .ok (.ireturn, 1) := by decide +kernel
theorem d_Mo_band_49 : decode mt_Mo_band.2.1 49 = .ok (.iconst 4, 1) := by decide +kernel
theorem d_Mo_band_50 : decode mt_Mo_band.2.1 50 = .ok (.iload_n 1, 1) := by decide +kernel
theorem d_Mo_band_51 : decode mt_Mo_band.2.1 51 = .ok (.imul, 1) := by decide +kernel
theorem d_Mo_band_52 : decode mt_Mo_band.2.1 52 = .ok (.aload_n 0, 1) := by decide +kernel
theorem d_Mo_band_53 : decode mt_Mo_band.2.1 53 = .ok (.getfield 105, 3) := by decide +kernel
theorem d_Mo_band_56 : decode mt_Mo_band.2.1 56 = .ok (.iload_n 1, 1) := by decide +kernel
theorem d_Mo_band_57 : decode mt_Mo_band.2.1 57 = .ok (.iaload, 1) := by decide +kernel
theorem d_Mo_band_58 : decode mt_Mo_band.2.1 58 = .ok (.iadd, 1) := by decide +kernel
theorem d_Mo_band_59 : decode mt_Mo_band.2.1 59 = .ok (.istore 5, 2) := by decide +kernel
theorem d_Mo_band_61 : decode mt_Mo_band.2.1 61 = .ok (.aload_n 0, 1) := by decide +kernel
theorem d_Mo_band_62 : decode mt_Mo_band.2.1 62 = .ok (.getfield 108, 3) := by decide +kernel
theorem d_Mo_band_65 : decode mt_Mo_band.2.1 65 = .ok (.iload 5, 2) := by decide +kernel
theorem d_Mo_band_67 : decode mt_Mo_band.2.1 67 = .ok (.iload_n 2, 1) := by decide +kernel
theorem d_Mo_band_68 : decode mt_Mo_band.2.1 68 = .ok (.iastore, 1) := by decide +kernel
theorem d_Mo_band_69 : decode mt_Mo_band.2.1 69 = .ok (.aload_n 0, 1) := by decide +kernel
theorem d_Mo_band_70 : decode mt_Mo_band.2.1 70 = .ok (.getfield 111, 3) := by decide +kernel
theorem d_Mo_band_73 : decode mt_Mo_band.2.1 73 = .ok (.iload 5, 2) := by decide +kernel
theorem d_Mo_band_75 : decode mt_Mo_band.2.1 75 = .ok (.iload_n 3, 1) := by decide +kernel
theorem d_Mo_band_76 : decode mt_Mo_band.2.1 76 = .ok (.iastore, 1) := by decide +kernel
theorem d_Mo_band_77 : decode mt_Mo_band.2.1 77 = .ok (.aload_n 0, 1) := by decide +kernel
theorem d_Mo_band_78 : decode mt_Mo_band.2.1 78 = .ok (.getfield 114, 3) := by decide +kernel
theorem d_Mo_band_81 : decode mt_Mo_band.2.1 81 = .ok (.iload 5, 2) := by decide +kernel
theorem d_Mo_band_83 : decode mt_Mo_band.2.1 83 = .ok (.iload 4, 2) := by decide +kernel
theorem d_Mo_band_85 : decode mt_Mo_band.2.1 85 = .ok (.iastore, 1) := by decide +kernel
theorem d_Mo_band_86 : decode mt_Mo_band.2.1 86 = .ok (.aload_n 0, 1) := by decide +kernel
theorem d_Mo_band_87 : decode mt_Mo_band.2.1 87 = .ok (.getfield 105, 3) := by decide +kernel
theorem d_Mo_band_90 : decode mt_Mo_band.2.1 90 = .ok (.iload_n 1, 1) := by decide +kernel
theorem d_Mo_band_91 : decode mt_Mo_band.2.1 91 = .ok (.dup2, 1) := by decide +kernel
theorem d_Mo_band_92 : decode mt_Mo_band.2.1 92 = .ok (.iaload, 1) := by decide +kernel
theorem d_Mo_band_93 : decode mt_Mo_band.2.1 93 = .ok (.iconst 1, 1) := by decide +kernel
theorem d_Mo_band_94 : decode mt_Mo_band.2.1 94 = .ok (.iadd, 1) := by decide +kernel
theorem d_Mo_band_95 : decode mt_Mo_band.2.1 95 = .ok (.iastore, 1) := by decide +kernel
theorem d_Mo_band_96 : decode mt_Mo_band.2.1 96 = .ok (.aload_n 0, 1) := by decide +kernel
theorem d_Mo_band_97 : decode mt_Mo_band.2.1 97 = .ok (.iconst 0, 1) := by decide +kernel
theorem d_Mo_band_98 : decode mt_Mo_band.2.1 98 = .ok (.putfield 158, 3) := by decide +kernel
theorem d_Mo_band_101 : decode mt_Mo_band.2.1 101 = .ok (.aload_n 0, 1) := by decide +kernel
theorem d_Mo_band_102 : decode mt_Mo_band.2.1 102 = .ok (.getfield 105, 3) := by decide +kernel
theorem d_Mo_band_105 : decode mt_Mo_band.2.1 105 = .ok (.iload_n 1, 1) := by decide +kernel
theorem d_Mo_band_106 : decode mt_Mo_band.2.1 106 = .ok (.iaload, 1) := by decide +kernel
theorem d_Mo_band_107 : decode mt_Mo_band.2.1 107 = .ok (.ireturn, 1) := by decide +kernel
theorem d_Mo_suits_0 : decode mt_Mo_suits.2.1 0 = .ok (.aload_n 0, 1) := by decide +kernel
theorem d_Mo_suits_1 : decode mt_Mo_suits.2.1 1 = .ok (.iload_n 1, 1) := by decide +kernel
theorem d_Mo_suits_2 : decode mt_Mo_suits.2.1 2 = .ok (.invokevirtual 193, 3) := by decide +kernel
theorem d_Mo_suits_5 : decode mt_Mo_suits.2.1 5 = .ok (.ifCond .eq 10, 3) := by decide +kernel
theorem d_Mo_suits_8 : decode mt_Mo_suits.2.1 8 = .ok (.iload_n 2, 1) := by decide +kernel
theorem d_Mo_suits_9 : decode mt_Mo_suits.2.1 9 = .ok (.invokestatic 154, 3) := by decide +kernel
theorem d_Mo_suits_12 : decode mt_Mo_suits.2.1 12 = .ok (.ifCond .ne 7, 3) := by decide +kernel
theorem d_Mo_suits_15 : decode mt_Mo_suits.2.1 15 = .ok (.iconst (-1), 1) := by decide +kernel
theorem d_Mo_suits_16 : decode mt_Mo_suits.2.1 16 = .ok (.goto 17, 3) := by decide +kernel
theorem d_Mo_suits_19 : decode mt_Mo_suits.2.1 19 = .ok (.aload_n 0, 1) := by decide +kernel
theorem d_Mo_suits_20 : decode mt_Mo_suits.2.1 20 = .ok (.iload_n 1, 1) := by decide +kernel
theorem d_Mo_suits_21 : decode mt_Mo_suits.2.1 21 = .ok (.iload_n 2, 1) := by decide +kernel
theorem d_Mo_suits_22 : decode mt_Mo_suits.2.1 22 = .ok (.invokevirtual 351, 3) := by decide +kernel
theorem d_Mo_suits_25 : decode mt_Mo_suits.2.1 25 = .ok (.ifCond .eq 7, 3) := by decide +kernel
theorem d_Mo_suits_28 : decode mt_Mo_suits.2.1 28 = .ok (.iconst 1, 1) := by decide +kernel
theorem d_Mo_suits_29 : decode mt_Mo_suits.2.1 29 = .ok (.goto 4, 3) := by decide +kernel
theorem d_Mo_suits_32 : decode mt_Mo_suits.2.1 32 = .ok (.iconst 0, 1) := by decide +kernel
theorem d_Mo_suits_33 : decode mt_Mo_suits.2.1 33 = .ok (.ireturn, 1) := by decide +kernel
theorem d_Mo_move_0 : decode mt_Mo_move.2.1 0 = .ok (.aload_n 0, 1) := by decide +kernel
theorem d_Mo_move_1 : decode mt_Mo_move.2.1 1 = .ok (.iload_n 1, 1) := by decide +kernel
theorem d_Mo_move_2 : decode mt_Mo_move.2.1 2 = .ok (.invokevirtual 193, 3) := by decide +kernel
theorem d_Mo_move_5 : decode mt_Mo_move.2.1 5 = .ok (.ifCond .eq 39, 3) := by decide +kernel
theorem d_Mo_move_8 : decode mt_Mo_move.2.1 8 = .ok (.iload_n 2, 1) := by decide +kernel
theorem d_Mo_move_9 : decode mt_Mo_move.2.1 9 = .ok (.invokestatic 154, 3) := by decide +kernel
theorem d_Mo_move_12 : decode mt_Mo_move.2.1 12 = .ok (.ifCond .eq 32, 3) := by decide +kernel
theorem d_Mo_move_15 : decode mt_Mo_move.2.1 15 = .ok (.aload_n 0, 1) := by decide +kernel
theorem d_Mo_move_16 : decode mt_Mo_move.2.1 16 = .ok (.getfield 28, 3) := by decide +kernel
theorem d_Mo_move_19 : decode mt_Mo_move.2.1 19 = .ok (.iload_n 1, 1) := by decide +kernel
theorem d_Mo_move_20 : decode mt_Mo_move.2.1 20 = .ok (.iaload, 1) := by decide +kernel
theorem d_Mo_move_21 : decode mt_Mo_move.2.1 21 = .ok (.iload_n 2, 1) := by decide +kernel
theorem d_Mo_move_22 : decode mt_Mo_move.2.1 22 = .ok (.if_icmp .eq 22, 3) := by decide +kernel
theorem d_Mo_move_25 : decode mt_Mo_move.2.1 25 = .ok (.aload_n 0, 1) := by decide +kernel
theorem d_Mo_move_26 : decode mt_Mo_move.2.1 26 = .ok (.iload_n 2, 1) := by decide +kernel
theorem d_Mo_move_27 : decode mt_Mo_move.2.1 27 = .ok (.invokevirtual 174, 3) := by decide +kernel
theorem d_Mo_move_30 : decode mt_Mo_move.2.1 30 = .ok (.iconst 4, 1) := by decide +kernel
theorem d_Mo_move_31 : decode mt_Mo_move.2.1 31 = .ok (.if_icmp .eq 13, 3) := by decide +kernel
theorem d_Mo_move_34 : decode mt_Mo_move.2.1 34 = .ok (.aload_n 0, 1) := by decide +kernel
theorem d_Mo_move_35 : decode mt_Mo_move.2.1 35 = .ok (.getfield 168, 3) := by decide +kernel
theorem d_Mo_move_38 : decode mt_Mo_move.2.1 38 = .ok (.sipush 200, 3) := by decide +kernel
theorem d_Mo_move_41 : decode mt_Mo_move.2.1 41 = .ok (.if_icmp .ne 5, 3) := by decide +kernel
theorem d_Mo_move_44 : decode mt_Mo_move.2.1 44 = .ok (.iconst 0, 1) := by decide +kernel
theorem d_Mo_move_45 : decode mt_Mo_move.2.1 45 = .ok (.ireturn, 1) := by decide +kernel
theorem d_Mo_move_46 : decode mt_Mo_move.2.1 46 = .ok (.aload_n 0, 1) := by decide +kernel
theorem d_Mo_move_47 : decode mt_Mo_move.2.1 47 = .ok (.iload_n 1, 1) := by decide +kernel
theorem d_Mo_move_48 : decode mt_Mo_move.2.1 48 = .ok (.iload_n 2, 1) := by decide +kernel
theorem d_Mo_move_49 : decode mt_Mo_move.2.1 49 = .ok (.invokevirtual 354, 3) := by decide +kernel
theorem d_Mo_move_52 : decode mt_Mo_move.2.1 52 = .ok (.aload_n 0, 1) := by decide +kernel
theorem d_Mo_move_53 : decode mt_Mo_move.2.1 53 = .ok (.iconst 0, 1) := by decide +kernel
theorem d_Mo_move_54 : decode mt_Mo_move.2.1 54 = .ok (.putfield 158, 3) := by decide +kernel
theorem d_Mo_move_57 : decode mt_Mo_move.2.1 57 = .ok (.iconst 1, 1) := by decide +kernel
theorem d_Mo_move_58 : decode mt_Mo_move.2.1 58 = .ok (.ireturn, 1) := by decide +kernel
theorem d_Mo_go_0 : decode mt_Mo_go.2.1 0 = .ok (.aload_n 0, 1) := by decide +kernel
theorem d_Mo_go_1 : decode mt_Mo_go.2.1 1 = .ok (.getfield 62, 3) := by decide +kernel
theorem d_Mo_go_4 : decode mt_Mo_go.2.1 4 = .ok (.aload_n 0, 1) := by decide +kernel
theorem d_Mo_go_5 : decode mt_Mo_go.2.1 5 = .ok (.getfield 46, 3) := by decide +kernel
theorem d_Mo_go_8 : decode mt_Mo_go.2.1 8 = .ok (.iload_n 1, 1) := by decide +kernel
theorem d_Mo_go_9 : decode mt_Mo_go.2.1 9 = .ok (.iaload, 1) := by decide +kernel
theorem d_Mo_go_10 : decode mt_Mo_go.2.1 10 = .ok (.aload_n 0, 1) := by decide +kernel
theorem d_Mo_go_11 : decode mt_Mo_go.2.1 11 = .ok (.getfield 171, 3) := by decide +kernel
theorem d_Mo_go_14 : decode mt_Mo_go.2.1 14 = .ok (.iastore, 1) := by decide +kernel
theorem d_Mo_go_15 : decode mt_Mo_go.2.1 15 = .ok (.aload_n 0, 1) := by decide +kernel
theorem d_Mo_go_16 : decode mt_Mo_go.2.1 16 = .ok (.iload_n 1, 1) := by decide +kernel
theorem d_Mo_go_17 : decode mt_Mo_go.2.1 17 = .ok (.iload_n 2, 1) := by decide +kernel
theorem d_Mo_go_18 : decode mt_Mo_go.2.1 18 = .ok (.invokevirtual 186, 3) := by decide +kernel
theorem d_Mo_go_21 : decode mt_Mo_go.2.1 21 = .ok (.return_, 1) := by decide +kernel
theorem d_Mo_plan_0 : decode mt_Mo_plan.2.1 0 = .ok (.aload_n 0, 1) := by decide +kernel
theorem d_Mo_plan_1 : decode mt_Mo_plan.2.1 1 = .ok (.iconst 0, 1) := by decide +kernel
theorem d_Mo_plan_2 : decode mt_Mo_plan.2.1 2 = .ok (.putfield 357, 3) := by decide +kernel
theorem d_Mo_plan_5 : decode mt_Mo_plan.2.1 5 = .ok (.iconst 0, 1) := by decide +kernel
theorem d_Mo_plan_6 : decode mt_Mo_plan.2.1 6 = .ok (.istore_n 1, 1) := by decide +kernel
theorem d_Mo_plan_7 : decode mt_Mo_plan.2.1 7 = .ok (.iconst 0, 1) := by decide +kernel
theorem d_Mo_plan_8 : decode mt_Mo_plan.2.1 8 = .ok (.istore_n 2, 1) := by decide +kernel
theorem d_Mo_plan_9 : decode mt_Mo_plan.2.1 9 = .ok (.iload_n 2, 1) := by decide +kernel
theorem d_Mo_plan_10 : decode mt_Mo_plan.2.1 10 = .ok (.aload_n 0, 1) := by decide +kernel
theorem d_Mo_plan_11 : decode mt_Mo_plan.2.1 11 = .ok (.getfield 165, 3) := by decide +kernel
theorem d_Mo_plan_14 : decode mt_Mo_plan.2.1 14 = .ok (.if_icmp .ge 51, 3) := by decide +kernel
theorem d_Mo_plan_17 : decode mt_Mo_plan.2.1 17 = .ok (.aload_n 0, 1) := by decide +kernel
theorem d_Mo_plan_18 : decode mt_Mo_plan.2.1 18 = .ok (.getfield 28, 3) := by decide +kernel
theorem d_Mo_plan_21 : decode mt_Mo_plan.2.1 21 = .ok (.iload_n 2, 1) := by decide +kernel
theorem d_Mo_plan_22 : decode mt_Mo_plan.2.1 22 = .ok (.iaload, 1) := by decide +kernel
theorem d_Mo_plan_23 : decode mt_Mo_plan.2.1 23 = .ok (.ifCond .lt 36, 3) := by decide +kernel
theorem d_Mo_plan_26 : decode mt_Mo_plan.2.1 26 = .ok (.aload_n 0, 1) := by decide +kernel
theorem d_Mo_plan_27 : decode mt_Mo_plan.2.1 27 = .ok (.iload_n 2, 1) := by decide +kernel
theorem d_Mo_plan_28 : decode mt_Mo_plan.2.1 28 = .ok (.aload_n 0, 1) := by decide +kernel
theorem d_Mo_plan_29 : decode mt_Mo_plan.2.1 29 = .ok (.getfield 28, 3) := by decide +kernel
theorem d_Mo_plan_32 : decode mt_Mo_plan.2.1 32 = .ok (.iload_n 2, 1) := by decide +kernel
theorem d_Mo_plan_33 : decode mt_Mo_plan.2.1 33 = .ok (.iaload, 1) := by decide +kernel
theorem d_Mo_plan_34 : decode mt_Mo_plan.2.1 34 = .ok (.invokevirtual 351, 3) := by decide +kernel
theorem d_Mo_plan_37 : decode mt_Mo_plan.2.1 37 = .ok (.ifCond .eq 6, 3) := by decide +kernel
theorem d_Mo_plan_40 : decode mt_Mo_plan.2.1 40 = .ok (.goto 19, 3) := by decide +kernel
theorem d_Mo_plan_43 : decode mt_Mo_plan.2.1 43 = .ok (.iload_n 1, 1) := by decide +kernel
theorem d_Mo_plan_44 : decode mt_Mo_plan.2.1 44 = .ok (.bipush 10, 2) := by decide +kernel
theorem d_Mo_plan_46 : decode mt_Mo_plan.2.1 46 = .ok (.if_icmp .ge 10, 3) := by decide +kernel
theorem d_Mo_plan_49 : decode mt_Mo_plan.2.1 49 = .ok (.aload_n 0, 1) := by decide +kernel
theorem d_Mo_plan_50 : decode mt_Mo_plan.2.1 50 = .ok (.getfield 117, 3) := by decide +kernel
theorem d_Mo_plan_53 : decode mt_Mo_plan.2.1 53 = .ok (.iload_n 1, 1) := by decide +kernel
theorem d_Mo_plan_54 : decode mt_Mo_plan.2.1 54 = .ok (.iload_n 2, 1) := by decide +kernel
theorem d_Mo_plan_55 : decode mt_Mo_plan.2.1 55 = .ok (.iastore, 1) := by decide +kernel
theorem d_Mo_plan_56 : decode mt_Mo_plan.2.1 56 = .ok (.iinc 1 1, 3) := by decide +kernel
theorem d_Mo_plan_59 : decode mt_Mo_plan.2.1 59 = .ok (.iinc 2 1, 3) := by decide +kernel
theorem d_Mo_plan_62 : decode mt_Mo_plan.2.1 62 = .ok (.goto (-53), 3) := by decide +kernel
theorem d_Mo_plan_65 : decode mt_Mo_plan.2.1 65 = .ok (.iload_n 1, 1) := by decide +kernel
theorem d_Mo_plan_66 : decode mt_Mo_plan.2.1 66 = .ok (.bipush 10, 2) := by decide +kernel
theorem d_Mo_plan_68 : decode mt_Mo_plan.2.1 68 = .ok (.if_icmp .le 6, 3) := by decide +kernel
theorem d_Mo_plan_71 : decode mt_Mo_plan.2.1 71 = .ok (.bipush (-3), 2) := by decide +kernel
theorem d_Mo_plan_73 : decode mt_Mo_plan.2.1 73 = .ok (.ireturn, 1) := by decide +kernel
theorem d_Mo_plan_74 : decode mt_Mo_plan.2.1 74 = .ok (.aload_n 0, 1) := by decide +kernel
theorem d_Mo_plan_75 : decode mt_Mo_plan.2.1 75 = .ok (.iload_n 1, 1) := by decide +kernel
theorem d_Mo_plan_76 : decode mt_Mo_plan.2.1 76 = .ok (.putfield 357, 3) := by decide +kernel
theorem d_Mo_plan_79 : decode mt_Mo_plan.2.1 79 = .ok (.aload_n 0, 1) := by decide +kernel
theorem d_Mo_plan_80 : decode mt_Mo_plan.2.1 80 = .ok (.invokevirtual 383, 3) := by decide +kernel
theorem d_Mo_plan_83 : decode mt_Mo_plan.2.1 83 = .ok (.ifCond .ne 6, 3) := by decide +kernel
theorem d_Mo_plan_86 : decode mt_Mo_plan.2.1 86 = .ok (.bipush (-2), 2) := by decide +kernel
theorem d_Mo_plan_88 : decode mt_Mo_plan.2.1 88 = .ok (.ireturn, 1) := by decide +kernel
theorem d_Mo_plan_89 : decode mt_Mo_plan.2.1 89 = .ok (.aload_n 0, 1) := by decide +kernel
theorem d_Mo_plan_90 : decode mt_Mo_plan.2.1 90 = .ok (.iload_n 1, 1) := by decide +kernel
theorem d_Mo_plan_91 : decode mt_Mo_plan.2.1 91 = .ok (.putfield 386, 3) := by decide +kernel
theorem d_Mo_plan_94 : decode mt_Mo_plan.2.1 94 = .ok (.iconst 0, 1) := by decide +kernel
theorem d_Mo_plan_95 : decode mt_Mo_plan.2.1 95 = .ok (.istore_n 2, 1) := by decide +kernel
theorem d_Mo_plan_96 : decode mt_Mo_plan.2.1 96 = .ok (.iconst 1, 1) := by decide +kernel
theorem d_Mo_plan_97 : decode mt_Mo_plan.2.1 97 = .ok (.iload_n 1, 1) := by decide +kernel
theorem d_Mo_plan_98 : decode mt_Mo_plan.2.1 98 = .ok (.ishl, 1) := by decide +kernel
theorem d_Mo_plan_99 : decode mt_Mo_plan.2.1 99 = .ok (.iconst 1, 1) := by decide +kernel
theorem d_Mo_plan_100 : decode mt_Mo_plan.2.1 100 = .ok (.isub, 1) := by decide +kernel
theorem d_Mo_plan_101 : decode mt_Mo_plan.2.1 101 = .ok (.istore_n 3, 1) := by decide +kernel
theorem d_Mo_plan_102 : decode mt_Mo_plan.2.1 102 = .ok (.iconst 0, 1) := by decide +kernel
theorem d_Mo_plan_103 : decode mt_Mo_plan.2.1 103 = .ok (.istore 4, 2) := by decide +kernel
theorem d_Mo_plan_105 : decode mt_Mo_plan.2.1 105 = .ok (.iload 4, 2) := by decide +kernel
theorem d_Mo_plan_107 : decode mt_Mo_plan.2.1 107 = .ok (.bipush 24, 2) := by decide +kernel
theorem d_Mo_plan_109 : decode mt_Mo_plan.2.1 109 = .ok (.if_icmp .ge 130, 3) := by decide +kernel
theorem d_Mo_plan_112 : decode mt_Mo_plan.2.1 112 = .ok (.aload_n 0, 1) := by decide +kernel
theorem d_Mo_plan_113 : decode mt_Mo_plan.2.1 113 = .ok (.getfield 126, 3) := by decide +kernel
theorem d_Mo_plan_116 : decode mt_Mo_plan.2.1 116 = .ok (.sipush 1024, 3) := by decide +kernel
theorem d_Mo_plan_119 : decode mt_Mo_plan.2.1 119 = .ok (.iload 4, 2) := by decide +kernel
theorem d_Mo_plan_121 : decode mt_Mo_plan.2.1 121 = .ok (.imul, 1) := by decide +kernel
theorem d_Mo_plan_122 : decode mt_Mo_plan.2.1 122 = .ok (.iload_n 3, 1) := by decide +kernel
theorem d_Mo_plan_123 : decode mt_Mo_plan.2.1 123 = .ok (.iadd, 1) := by decide +kernel
theorem d_Mo_plan_124 : decode mt_Mo_plan.2.1 124 = .ok (.iaload, 1) := by decide +kernel
theorem d_Mo_plan_125 : decode mt_Mo_plan.2.1 125 = .ok (.istore 5, 2) := by decide +kernel
theorem d_Mo_plan_127 : decode mt_Mo_plan.2.1 127 = .ok (.iconst 0, 1) := by decide +kernel
theorem d_Mo_plan_128 : decode mt_Mo_plan.2.1 128 = .ok (.istore 6, 2) := by decide +kernel
theorem d_Mo_plan_130 : decode mt_Mo_plan.2.1 130 = .ok (.iload 6, 2) := by decide +kernel
theorem d_Mo_plan_132 : decode mt_Mo_plan.2.1 132 = .ok (.iload_n 1, 1) := by decide +kernel
theorem d_Mo_plan_133 : decode mt_Mo_plan.2.1 133 = .ok (.if_icmp .ge 93, 3) := by decide +kernel
theorem d_Mo_plan_136 : decode mt_Mo_plan.2.1 136 = .ok (.aload_n 0, 1) := by decide +kernel
theorem d_Mo_plan_137 : decode mt_Mo_plan.2.1 137 = .ok (.iload 5, 2) := by decide +kernel
theorem d_Mo_plan_139 : decode mt_Mo_plan.2.1 139 = .ok (.iload 6, 2) := by decide +kernel
theorem d_Mo_plan_141 : decode mt_Mo_plan.2.1 141 = .ok (.invokevirtual 366, 3) := by decide +kernel
theorem d_Mo_plan_144 : decode mt_Mo_plan.2.1 144 = .ok (.ifCond .ne 6, 3) := by decide +kernel
theorem d_Mo_plan_147 : decode mt_Mo_plan.2.1 147 = .ok (.goto 73, 3) := by decide +kernel
theorem d_Mo_plan_150 : decode mt_Mo_plan.2.1 150 = .ok (.aload_n 0, 1) := by decide +kernel
theorem d_Mo_plan_151 : decode mt_Mo_plan.2.1 151 = .ok (.getfield 120, 3) := by decide +kernel
theorem d_Mo_plan_154 : decode mt_Mo_plan.2.1 154 = .ok (.iload 6, 2) := by decide +kernel
theorem d_Mo_plan_156 : decode mt_Mo_plan.2.1 156 = .ok (.aload_n 0, 1) := by decide +kernel
theorem d_Mo_plan_157 : decode mt_Mo_plan.2.1 157 = .ok (.getfield 117, 3) := by decide +kernel
theorem d_Mo_plan_160 : decode mt_Mo_plan.2.1 160 = .ok (.iload 6, 2) := by decide +kernel
theorem d_Mo_plan_162 : decode mt_Mo_plan.2.1 162 = .ok (.iaload, 1) := by decide +kernel
theorem d_Mo_plan_163 : decode mt_Mo_plan.2.1 163 = .ok (.iastore, 1) := by decide +kernel
theorem d_Mo_plan_164 : decode mt_Mo_plan.2.1 164 = .ok (.aload_n 0, 1) := by decide +kernel
theorem d_Mo_plan_165 : decode mt_Mo_plan.2.1 165 = .ok (.getfield 123, 3) := by decide +kernel
theorem d_Mo_plan_168 : decode mt_Mo_plan.2.1 168 = .ok (.iload 6, 2) := by decide +kernel
theorem d_Mo_plan_170 : decode mt_Mo_plan.2.1 170 = .ok (.iload 4, 2) := by decide +kernel
theorem d_Mo_plan_172 : decode mt_Mo_plan.2.1 172 = .ok (.iastore, 1) := by decide +kernel
theorem d_Mo_plan_173 : decode mt_Mo_plan.2.1 173 = .ok (.aload_n 0, 1) := by decide +kernel
theorem d_Mo_plan_174 : decode mt_Mo_plan.2.1 174 = .ok (.getfield 28, 3) := by decide +kernel
theorem d_Mo_plan_177 : decode mt_Mo_plan.2.1 177 = .ok (.aload_n 0, 1) := by decide +kernel
theorem d_Mo_plan_178 : decode mt_Mo_plan.2.1 178 = .ok (.getfield 117, 3) := by decide +kernel
theorem d_Mo_plan_181 : decode mt_Mo_plan.2.1 181 = .ok (.iload 6, 2) := by decide +kernel
theorem d_Mo_plan_183 : decode mt_Mo_plan.2.1 183 = .ok (.iaload, 1) := by decide +kernel
theorem d_Mo_plan_184 : decode mt_Mo_plan.2.1 184 = .ok (.iaload, 1) := by decide +kernel
theorem d_Mo_plan_185 : decode mt_Mo_plan.2.1 185 = .ok (.istore 7, 2) := by decide +kernel
theorem d_Mo_plan_187 : decode mt_Mo_plan.2.1 187 = .ok (.iload_n 2, 1) := by decide +kernel
theorem d_Mo_plan_188 : decode mt_Mo_plan.2.1 188 = .ok (.bipush 20, 2) := by decide +kernel
theorem d_Mo_plan_190 : decode mt_Mo_plan.2.1 190 = .ok (.iload 7, 2) := by decide +kernel
theorem d_Mo_plan_192 : decode mt_Mo_plan.2.1 192 = .ok (.bipush 6, 2) := by decide +kernel
theorem d_Mo_plan_194 : decode mt_Mo_plan.2.1 194 = .ok (.idiv, 1) := by decide +kernel
theorem d_Mo_plan_195 : decode mt_Mo_plan.2.1 195 = .ok (.iload 4, 2) := by decide +kernel
theorem d_Mo_plan_197 : decode mt_Mo_plan.2.1 197 = .ok (.bipush 6, 2) := by decide +kernel
theorem d_Mo_plan_199 : decode mt_Mo_plan.2.1 199 = .ok (.idiv, 1) := by decide +kernel
theorem d_Mo_plan_200 : decode mt_Mo_plan.2.1 200 = .ok (.invokestatic 362, 3) := by decide +kernel
theorem d_Mo_plan_203 : decode mt_Mo_plan.2.1 203 = .ok (.imul, 1) := by decide +kernel
theorem d_Mo_plan_204 : decode mt_Mo_plan.2.1 204 = .ok (.iload 7, 2) := by decide +kernel
theorem d_Mo_plan_206 : decode mt_Mo_plan.2.1 206 = .ok (.bipush 6, 2) := by decide +kernel
theorem d_Mo_plan_208 : decode mt_Mo_plan.2.1 208 = .ok (.irem, 1) := by decide +kernel
theorem d_Mo_plan_209 : decode mt_Mo_plan.2.1 209 = .ok (.iload 4, 2) := by decide +kernel
theorem d_Mo_plan_211 : decode mt_Mo_plan.2.1 211 = .ok (.bipush 6, 2) := by decide +kernel
theorem d_Mo_plan_213 : decode mt_Mo_plan.2.1 213 = .ok (.irem, 1) := by decide +kernel
theorem d_Mo_plan_214 : decode mt_Mo_plan.2.1 214 = .ok (.invokestatic 362, 3) := by decide +kernel
theorem d_Mo_plan_217 : decode mt_Mo_plan.2.1 217 = .ok (.iadd, 1) := by decide +kernel
theorem d_Mo_plan_218 : decode mt_Mo_plan.2.1 218 = .ok (.iadd, 1) := by decide +kernel
theorem d_Mo_plan_219 : decode mt_Mo_plan.2.1 219 = .ok (.istore_n 2, 1) := by decide +kernel
theorem d_Mo_plan_220 : decode mt_Mo_plan.2.1 220 = .ok (.iinc 6 1, 3) := by decide +kernel
theorem d_Mo_plan_223 : decode mt_Mo_plan.2.1 223 = .ok (.goto (-93), 3) := by decide +kernel
theorem d_Mo_plan_226 : decode mt_Mo_plan.2.1 226 = .ok (.iload_n 3, 1) := by decide +kernel
theorem d_Mo_plan_227 : decode mt_Mo_plan.2.1 227 = .ok (.iload 5, 2) := by decide +kernel
theorem d_Mo_plan_229 : decode mt_Mo_plan.2.1 229 = .ok (.iconst (-1), 1) := by decide +kernel
theorem d_Mo_plan_230 : decode mt_Mo_plan.2.1 230 = .ok (.ixor, 1) := by decide +kernel
theorem d_Mo_plan_231 : decode mt_Mo_plan.2.1 231 = .ok (.iand, 1) := by decide +kernel
theorem d_Mo_plan_232 : decode mt_Mo_plan.2.1 232 = .ok (.istore_n 3, 1) := by decide +kernel
theorem d_Mo_plan_233 : decode mt_Mo_plan.2.1 233 = .ok (.iinc 4 1, 3) := by decide +kernel
theorem d_Mo_plan_236 : decode mt_Mo_plan.2.1 236 = .ok (.goto (-131), 3) := by decide +kernel
theorem d_Mo_plan_239 : decode mt_Mo_plan.2.1 239 = .ok (.aload_n 0, 1) := by decide +kernel
theorem d_Mo_plan_240 : decode mt_Mo_plan.2.1 240 = .ok (.iconst 1, 1) := by decide +kernel
theorem d_Mo_plan_241 : decode mt_Mo_plan.2.1 241 = .ok (.putfield 158, 3) := by decide +kernel
theorem d_Mo_plan_244 : decode mt_Mo_plan.2.1 244 = .ok (.iload_n 2, 1) := by decide +kernel
theorem d_Mo_plan_245 : decode mt_Mo_plan.2.1 245 = .ok (.ireturn, 1) := by decide +kernel
theorem d_Mo_seek_0 : decode mt_Mo_seek.2.1 0 = .ok (.iconst 1, 1) := by decide +kernel
theorem d_Mo_seek_1 : decode mt_Mo_seek.2.1 1 = .ok (.aload_n 0, 1) := by decide +kernel
theorem d_Mo_seek_2 : decode mt_Mo_seek.2.1 2 = .ok (.getfield 357, 3) := by decide +kernel
theorem d_Mo_seek_5 : decode mt_Mo_seek.2.1 5 = .ok (.ishl, 1) := by decide +kernel
theorem d_Mo_seek_6 : decode mt_Mo_seek.2.1 6 = .ok (.iconst 1, 1) := by decide +kernel
theorem d_Mo_seek_7 : decode mt_Mo_seek.2.1 7 = .ok (.isub, 1) := by decide +kernel
theorem d_Mo_seek_8 : decode mt_Mo_seek.2.1 8 = .ok (.istore_n 1, 1) := by decide +kernel
theorem d_Mo_seek_9 : decode mt_Mo_seek.2.1 9 = .ok (.iconst 0, 1) := by decide +kernel
theorem d_Mo_seek_10 : decode mt_Mo_seek.2.1 10 = .ok (.istore_n 2, 1) := by decide +kernel
theorem d_Mo_seek_11 : decode mt_Mo_seek.2.1 11 = .ok (.iload_n 2, 1) := by decide +kernel
theorem d_Mo_seek_12 : decode mt_Mo_seek.2.1 12 = .ok (.bipush 24, 2) := by decide +kernel
theorem d_Mo_seek_14 : decode mt_Mo_seek.2.1 14 = .ok (.if_icmp .ge 62, 3) := by decide +kernel
theorem d_Mo_seek_17 : decode mt_Mo_seek.2.1 17 = .ok (.iconst 0, 1) := by decide +kernel
theorem d_Mo_seek_18 : decode mt_Mo_seek.2.1 18 = .ok (.istore_n 3, 1) := by decide +kernel
theorem d_Mo_seek_19 : decode mt_Mo_seek.2.1 19 = .ok (.iload_n 3, 1) := by decide +kernel
theorem d_Mo_seek_20 : decode mt_Mo_seek.2.1 20 = .ok (.aload_n 0, 1) := by decide +kernel
theorem d_Mo_seek_21 : decode mt_Mo_seek.2.1 21 = .ok (.getfield 357, 3) := by decide +kernel
theorem d_Mo_seek_24 : decode mt_Mo_seek.2.1 24 = .ok (.if_icmp .ge 46, 3) := by decide +kernel
theorem d_Mo_seek_27 : decode mt_Mo_seek.2.1 27 = .ok (.aload_n 0, 1) := by decide +kernel
theorem d_Mo_seek_28 : decode mt_Mo_seek.2.1 28 = .ok (.getfield 133, 3) := by decide +kernel
theorem d_Mo_seek_31 : decode mt_Mo_seek.2.1 31 = .ok (.bipush 10, 2) := by decide +kernel
theorem d_Mo_seek_33 : decode mt_Mo_seek.2.1 33 = .ok (.iload_n 2, 1) := by decide +kernel
theorem d_Mo_seek_34 : decode mt_Mo_seek.2.1 34 = .ok (.imul, 1) := by decide +kernel
theorem d_Mo_seek_35 : decode mt_Mo_seek.2.1 35 = .ok (.iload_n 3, 1) := by decide +kernel
theorem d_Mo_seek_36 : decode mt_Mo_seek.2.1 36 = .ok (.iadd, 1) := by decide +kernel
theorem d_Mo_seek_37 : decode mt_Mo_seek.2.1 37 = .ok (.aload_n 0, 1) := by decide +kernel
theorem d_Mo_seek_38 : decode mt_Mo_seek.2.1 38 = .ok (.aload_n 0, 1) := by decide +kernel
theorem d_Mo_seek_39 : decode mt_Mo_seek.2.1 39 = .ok (.getfield 117, 3) := by decide +kernel
theorem d_Mo_seek_42 : decode mt_Mo_seek.2.1 42 = .ok (.iload_n 3, 1) := by decide +kernel
theorem d_Mo_seek_43 : decode mt_Mo_seek.2.1 43 = .ok (.iaload, 1) := by decide +kernel
theorem d_Mo_seek_44 : decode mt_Mo_seek.2.1 44 = .ok (.iload_n 2, 1) := by decide +kernel
theorem d_Mo_seek_45 : decode mt_Mo_seek.2.1 45 = .ok (.invokevirtual 351, 3) := by decide +kernel
theorem d_Mo_seek_48 : decode mt_Mo_seek.2.1 48 = .ok (.ifCond .eq 12, 3) := by decide +kernel
theorem d_Mo_seek_51 : decode mt_Mo_seek.2.1 51 = .ok (.aload_n 0, 1) := by decide +kernel
theorem d_Mo_seek_52 : decode mt_Mo_seek.2.1 52 = .ok (.iload_n 3, 1) := by decide +kernel
theorem d_Mo_seek_53 : decode mt_Mo_seek.2.1 53 = .ok (.iload_n 2, 1) := by decide +kernel
theorem d_Mo_seek_54 : decode mt_Mo_seek.2.1 54 = .ok (.invokevirtual 371, 3) := by decide +kernel
theorem d_Mo_seek_57 : decode mt_Mo_seek.2.1 57 = .ok (.goto 6, 3) := by decide +kernel
theorem d_Mo_seek_60 : decode mt_Mo_seek.2.1 60 = .ok (.ldc2_w 369, 3) := by decide +kernel
theorem d_Mo_seek_63 : decode mt_Mo_seek.2.1 63 = .ok (.lastore, 1) := by decide +kernel
theorem d_Mo_seek_64 : decode mt_Mo_seek.2.1 64 = .ok (.iinc 3 1, 3) := by decide +kernel
theorem d_Mo_seek_67 : decode mt_Mo_seek.2.1 67 = .ok (.goto (-48), 3) := by decide +kernel
theorem d_Mo_seek_70 : decode mt_Mo_seek.2.1 70 = .ok (.iinc 2 1, 3) := by decide +kernel
theorem d_Mo_seek_73 : decode mt_Mo_seek.2.1 73 = .ok (.goto (-62), 3) := by decide +kernel
theorem d_Mo_seek_76 : decode mt_Mo_seek.2.1 76 = .ok (.iconst 0, 1) := by decide +kernel
theorem d_Mo_seek_77 : decode mt_Mo_seek.2.1 77 = .ok (.istore_n 2, 1) := by decide +kernel
theorem d_Mo_seek_78 : decode mt_Mo_seek.2.1 78 = .ok (.iload_n 2, 1) := by decide +kernel
theorem d_Mo_seek_79 : decode mt_Mo_seek.2.1 79 = .ok (.iload_n 1, 1) := by decide +kernel
theorem d_Mo_seek_80 : decode mt_Mo_seek.2.1 80 = .ok (.if_icmp .gt 30, 3) := by decide +kernel
theorem d_Mo_seek_83 : decode mt_Mo_seek.2.1 83 = .ok (.aload_n 0, 1) := by decide +kernel
theorem d_Mo_seek_84 : decode mt_Mo_seek.2.1 84 = .ok (.getfield 129, 3) := by decide +kernel
theorem d_Mo_seek_87 : decode mt_Mo_seek.2.1 87 = .ok (.sipush 24576, 3) := by decide +kernel
theorem d_Mo_seek_90 : decode mt_Mo_seek.2.1 90 = .ok (.iload_n 2, 1) := by decide +kernel
theorem d_Mo_seek_91 : decode mt_Mo_seek.2.1 91 = .ok (.iadd, 1) := by decide +kernel
theorem d_Mo_seek_92 : decode mt_Mo_seek.2.1 92 = .ok (.iload_n 2, 1) := by decide +kernel
theorem d_Mo_seek_93 : decode mt_Mo_seek.2.1 93 = .ok (.ifCond .ne 7, 3) := by decide +kernel
theorem d_Mo_seek_96 : decode mt_Mo_seek.2.1 96 = .ok (.lconst 0, 1) := by decide +kernel
theorem d_Mo_seek_97 : decode mt_Mo_seek.2.1 97 = .ok (.goto 6, 3) := by decide +kernel
theorem d_Mo_seek_100 : decode mt_Mo_seek.2.1 100 = .ok (.ldc2_w 375, 3) := by decide +kernel
theorem d_Mo_seek_103 : decode mt_Mo_seek.2.1 103 = .ok (.lastore, 1) := by decide +kernel
theorem d_Mo_seek_104 : decode mt_Mo_seek.2.1 104 = .ok (.iinc 2 1, 3) := by decide +kernel
theorem d_Mo_seek_107 : decode mt_Mo_seek.2.1 107 = .ok (.goto (-29), 3) := by decide +kernel
theorem d_Mo_seek_110 : decode mt_Mo_seek.2.1 110 = .ok (.bipush 23, 2) := by decide +kernel
theorem d_Mo_seek_112 : decode mt_Mo_seek.2.1 112 = .ok (.istore_n 2, 1) := by decide +kernel
theorem d_Mo_seek_113 : decode mt_Mo_seek.2.1 113 = .ok (.iload_n 2, 1) := by decide +kernel
theorem d_Mo_seek_114 : decode mt_Mo_seek.2.1 114 = .ok (.ifCond .lt 229, 3) := by decide +kernel
theorem d_Mo_seek_117 : decode mt_Mo_seek.2.1 117 = .ok (.iconst 4, 1) := by decide +kernel
theorem d_Mo_seek_118 : decode mt_Mo_seek.2.1 118 = .ok (.aload_n 0, 1) := by decide +kernel
theorem d_Mo_seek_119 : decode mt_Mo_seek.2.1 119 = .ok (.iload_n 2, 1) := by decide +kernel
theorem d_Mo_seek_120 : decode mt_Mo_seek.2.1 120 = .ok (.invokevirtual 174, 3) := by decide +kernel
theorem d_Mo_seek_123 : decode mt_Mo_seek.2.1 123 = .ok (.isub, 1) := by decide +kernel
theorem d_Mo_seek_124 : decode mt_Mo_seek.2.1 124 = .ok (.istore_n 3, 1) := by decide +kernel
theorem d_Mo_seek_125 : decode mt_Mo_seek.2.1 125 = .ok (.iconst 0, 1) := by decide +kernel
theorem d_Mo_seek_126 : decode mt_Mo_seek.2.1 126 = .ok (.istore 4, 2) := by decide +kernel
theorem d_Mo_seek_128 : decode mt_Mo_seek.2.1 128 = .ok (.iload 4, 2) := by decide +kernel
theorem d_Mo_seek_130 : decode mt_Mo_seek.2.1 130 = .ok (.aload_n 0, 1) := by decide +kernel
theorem d_Mo_seek_131 : decode mt_Mo_seek.2.1 131 = .ok (.getfield 357, 3) := by decide +kernel
theorem d_Mo_seek_134 : decode mt_Mo_seek.2.1 134 = .ok (.if_icmp .ge 33, 3) := by decide +kernel
theorem d_Mo_seek_137 : decode mt_Mo_seek.2.1 137 = .ok (.iload_n 3, 1) := by decide +kernel
theorem d_Mo_seek_138 : decode mt_Mo_seek.2.1 138 = .ok (.aload_n 0, 1) := by decide +kernel
theorem d_Mo_seek_139 : decode mt_Mo_seek.2.1 139 = .ok (.getfield 28, 3) := by decide +kernel
theorem d_Mo_seek_142 : decode mt_Mo_seek.2.1 142 = .ok (.aload_n 0, 1) := by decide +kernel
theorem d_Mo_seek_143 : decode mt_Mo_seek.2.1 143 = .ok (.getfield 117, 3) := by decide +kernel
theorem d_Mo_seek_146 : decode mt_Mo_seek.2.1 146 = .ok (.iload 4, 2) := by decide +kernel
theorem d_Mo_seek_148 : decode mt_Mo_seek.2.1 148 = .ok (.iaload, 1) := by decide +kernel
theorem d_Mo_seek_149 : decode mt_Mo_seek.2.1 149 = .ok (.iaload, 1) := by decide +kernel
theorem d_Mo_seek_150 : decode mt_Mo_seek.2.1 150 = .ok (.iload_n 2, 1) := by decide +kernel
theorem d_Mo_seek_151 : decode mt_Mo_seek.2.1 151 = .ok (.if_icmp .ne 7, 3) := by decide +kernel
theorem d_Mo_seek_154 : decode mt_Mo_seek.2.1 154 = .ok (.iconst 1, 1) := by decide +kernel
theorem d_Mo_seek_155 : decode mt_Mo_seek.2.1 155 = .ok (.goto 4, 3) := by decide +kernel
theorem d_Mo_seek_158 : decode mt_Mo_seek.2.1 158 = .ok (.iconst 0, 1) := by decide +kernel
theorem d_Mo_seek_159 : decode mt_Mo_seek.2.1 159 = .ok (.iadd, 1) := by decide +kernel
theorem d_Mo_seek_160 : decode mt_Mo_seek.2.1 160 = .ok (.istore_n 3, 1) := by decide +kernel
theorem d_Mo_seek_161 : decode mt_Mo_seek.2.1 161 = .ok (.iinc 4 1, 3) := by decide +kernel
theorem d_Mo_seek_164 : decode mt_Mo_seek.2.1 164 = .ok (.goto (-36), 3) := by decide +kernel
theorem d_Mo_seek_167 : decode mt_Mo_seek.2.1 167 = .ok (.iconst 0, 1) := by decide +kernel
theorem d_Mo_seek_168 : decode mt_Mo_seek.2.1 168 = .ok (.istore 4, 2) := by decide +kernel
theorem d_Mo_seek_170 : decode mt_Mo_seek.2.1 170 = .ok (.iload 4, 2) := by decide +kernel
theorem d_Mo_seek_172 : decode mt_Mo_seek.2.1 172 = .ok (.iload_n 1, 1) := by decide +kernel
theorem d_Mo_seek_173 : decode mt_Mo_seek.2.1 173 = .ok (.if_icmp .gt 164, 3) := by decide +kernel
theorem d_Mo_seek_176 : decode mt_Mo_seek.2.1 176 = .ok (.sipush 1024, 3) := by decide +kernel
theorem d_Mo_seek_179 : decode mt_Mo_seek.2.1 179 = .ok (.iload_n 2, 1) := by decide +kernel
theorem d_Mo_seek_180 : decode mt_Mo_seek.2.1 180 = .ok (.imul, 1) := by decide +kernel
theorem d_Mo_seek_181 : decode mt_Mo_seek.2.1 181 = .ok (.iload 4, 2) := by decide +kernel
theorem d_Mo_seek_183 : decode mt_Mo_seek.2.1 183 = .ok (.iadd, 1) := by decide +kernel
theorem d_Mo_seek_184 : decode mt_Mo_seek.2.1 184 = .ok (.istore 5, 2) := by decide +kernel
theorem d_Mo_seek_186 : decode mt_Mo_seek.2.1 186 = .ok (.aload_n 0, 1) := by decide +kernel
theorem d_Mo_seek_187 : decode mt_Mo_seek.2.1 187 = .ok (.getfield 129, 3) := by decide +kernel
theorem d_Mo_seek_190 : decode mt_Mo_seek.2.1 190 = .ok (.iload 5, 2) := by decide +kernel
theorem d_Mo_seek_192 : decode mt_Mo_seek.2.1 192 = .ok (.ldc2_w 375, 3) := by decide +kernel
theorem d_Mo_seek_195 : decode mt_Mo_seek.2.1 195 = .ok (.lastore, 1) := by decide +kernel
theorem d_Mo_seek_196 : decode mt_Mo_seek.2.1 196 = .ok (.iload 4, 2) := by decide +kernel
theorem d_Mo_seek_198 : decode mt_Mo_seek.2.1 198 = .ok (.istore 6, 2) := by decide +kernel
theorem d_Mo_seek_200 : decode mt_Mo_seek.2.1 200 = .ok (.iconst 1, 1) := by decide +kernel
theorem d_Mo_seek_201 : decode mt_Mo_seek.2.1 201 = .ok (.istore 7, 2) := by decide +kernel
theorem d_Mo_seek_203 : decode mt_Mo_seek.2.1 203 = .ok (.iload 7, 2) := by decide +kernel
theorem d_Mo_seek_205 : decode mt_Mo_seek.2.1 205 = .ok (.ifCond .eq 126, 3) := by decide +kernel
theorem d_Mo_seek_208 : decode mt_Mo_seek.2.1 208 = .ok (.aload_n 0, 1) := by decide +kernel
theorem d_Mo_seek_209 : decode mt_Mo_seek.2.1 209 = .ok (.getfield 129, 3) := by decide +kernel
theorem d_Mo_seek_212 : decode mt_Mo_seek.2.1 212 = .ok (.sipush 1024, 3) := by decide +kernel
theorem d_Mo_seek_215 : decode mt_Mo_seek.2.1 215 = .ok (.iload_n 2, 1) := by decide +kernel
theorem d_Mo_seek_216 : decode mt_Mo_seek.2.1 216 = .ok (.iconst 1, 1) := by decide +kernel
theorem d_Mo_seek_217 : decode mt_Mo_seek.2.1 217 = .ok (.iadd, 1) := by decide +kernel
theorem d_Mo_seek_218 : decode mt_Mo_seek.2.1 218 = .ok (.imul, 1) := by decide +kernel
theorem d_Mo_seek_219 : decode mt_Mo_seek.2.1 219 = .ok (.iload 4, 2) := by decide +kernel
theorem d_Mo_seek_221 : decode mt_Mo_seek.2.1 221 = .ok (.iload 6, 2) := by decide +kernel
theorem d_Mo_seek_223 : decode mt_Mo_seek.2.1 223 = .ok (.iconst (-1), 1) := by decide +kernel
theorem d_Mo_seek_224 : decode mt_Mo_seek.2.1 224 = .ok (.ixor, 1) := by decide +kernel
theorem d_Mo_seek_225 : decode mt_Mo_seek.2.1 225 = .ok (.iand, 1) := by decide +kernel
theorem d_Mo_seek_226 : decode mt_Mo_seek.2.1 226 = .ok (.iadd, 1) := by decide +kernel
theorem d_Mo_seek_227 : decode mt_Mo_seek.2.1 227 = .ok (.laload, 1) := by decide +kernel
theorem d_Mo_seek_228 : decode mt_Mo_seek.2.1 228 = .ok (.lstore 8, 2) := by decide +kernel
theorem d_Mo_seek_230 : decode mt_Mo_seek.2.1 230 = .ok (.lload 8, 2) := by decide +kernel
theorem d_Mo_seek_232 : decode mt_Mo_seek.2.1 232 = .ok (.ldc2_w 375, 3) := by decide +kernel
theorem d_Mo_seek_235 : decode mt_Mo_seek.2.1 235 = .ok (.lcmp, 1) := by decide +kernel
theorem d_Mo_seek_236 : decode mt_Mo_seek.2.1 236 = .ok (.ifCond .eq 12, 3) := by decide +kernel
theorem d_Mo_seek_239 : decode mt_Mo_seek.2.1 239 = .ok (.iload 6, 2) := by decide +kernel
theorem d_Mo_seek_241 : decode mt_Mo_seek.2.1 241 = .ok (.invokestatic 377, 3) := by decide +kernel
theorem d_Mo_seek_244 : decode mt_Mo_seek.2.1 244 = .ok (.iload_n 3, 1) := by decide +kernel
theorem d_Mo_seek_245 : decode mt_Mo_seek.2.1 245 = .ok (.if_icmp .le 9, 3) := by decide +kernel
theorem d_Mo_seek_248 : decode mt_Mo_seek.2.1 248 = .ok (.ldc2_w 369, 3) := by decide +kernel
theorem d_Mo_seek_251 : decode mt_Mo_seek.2.1 251 = .ok (.goto 10, 3) := by decide +kernel
theorem d_Mo_seek_254 : decode mt_Mo_seek.2.1 254 = .ok (.aload_n 0, 1) := by decide +kernel
theorem d_Mo_seek_255 : decode mt_Mo_seek.2.1 255 = .ok (.iload 6, 2) := by decide +kernel
theorem d_Mo_seek_257 : decode mt_Mo_seek.2.1 257 = .ok (.iload_n 2, 1) := by decide +kernel
theorem d_Mo_seek_258 : decode mt_Mo_seek.2.1 258 = .ok (.invokevirtual 380, 3) := by decide +kernel
theorem d_Mo_seek_261 : decode mt_Mo_seek.2.1 261 = .ok (.lstore 10, 2) := by decide +kernel
theorem d_Mo_seek_263 : decode mt_Mo_seek.2.1 263 = .ok (.lload 10, 2) := by decide +kernel
theorem d_Mo_seek_265 : decode mt_Mo_seek.2.1 265 = .ok (.lconst 0, 1) := by decide +kernel
theorem d_Mo_seek_266 : decode mt_Mo_seek.2.1 266 = .ok (.lcmp, 1) := by decide +kernel
theorem d_Mo_seek_267 : decode mt_Mo_seek.2.1 267 = .ok (.ifCond .lt 40, 3) := by decide +kernel
theorem d_Mo_seek_270 : decode mt_Mo_seek.2.1 270 = .ok (.lload 10, 2) := by decide +kernel
theorem d_Mo_seek_272 : decode mt_Mo_seek.2.1 272 = .ok (.lload 8, 2) := by decide +kernel
theorem d_Mo_seek_274 : decode mt_Mo_seek.2.1 274 = .ok (.ladd, 1) := by decide +kernel
theorem d_Mo_seek_275 : decode mt_Mo_seek.2.1 275 = .ok (.aload_n 0, 1) := by decide +kernel
theorem d_Mo_seek_276 : decode mt_Mo_seek.2.1 276 = .ok (.getfield 129, 3) := by decide +kernel
theorem d_Mo_seek_279 : decode mt_Mo_seek.2.1 279 = .ok (.iload 5, 2) := by decide +kernel
theorem d_Mo_seek_281 : decode mt_Mo_seek.2.1 281 = .ok (.laload, 1) := by decide +kernel
theorem d_Mo_seek_282 : decode mt_Mo_seek.2.1 282 = .ok (.lcmp, 1) := by decide +kernel
theorem d_Mo_seek_283 : decode mt_Mo_seek.2.1 283 = .ok (.ifCond .ge 24, 3) := by decide +kernel
theorem d_Mo_seek_286 : decode mt_Mo_seek.2.1 286 = .ok (.aload_n 0, 1) := by decide +kernel
theorem d_Mo_seek_287 : decode mt_Mo_seek.2.1 287 = .ok (.getfield 129, 3) := by decide +kernel
theorem d_Mo_seek_290 : decode mt_Mo_seek.2.1 290 = .ok (.iload 5, 2) := by decide +kernel
theorem d_Mo_seek_292 : decode mt_Mo_seek.2.1 292 = .ok (.lload 10, 2) := by decide +kernel
theorem d_Mo_seek_294 : decode mt_Mo_seek.2.1 294 = .ok (.lload 8, 2) := by decide +kernel
theorem d_Mo_seek_296 : decode mt_Mo_seek.2.1 296 = .ok (.ladd, 1) := by decide +kernel
theorem d_Mo_seek_297 : decode mt_Mo_seek.2.1 297 = .ok (.lastore, 1) := by decide +kernel
theorem d_Mo_seek_298 : decode mt_Mo_seek.2.1 298 = .ok (.aload_n 0, 1) := by decide +kernel
theorem d_Mo_seek_299 : decode mt_Mo_seek.2.1 299 = .ok (.getfield 126, 3) := by decide +kernel
theorem d_Mo_seek_302 : decode mt_Mo_seek.2.1 302 = .ok (.iload 5, 2) := by decide +kernel
theorem d_Mo_seek_304 : decode mt_Mo_seek.2.1 304 = .ok (.iload 6, 2) := by decide +kernel
theorem d_Mo_seek_306 : decode mt_Mo_seek.2.1 306 = .ok (.iastore, 1) := by decide +kernel
theorem d_Mo_seek_307 : decode mt_Mo_seek.2.1 307 = .ok (.iload 6, 2) := by decide +kernel
theorem d_Mo_seek_309 : decode mt_Mo_seek.2.1 309 = .ok (.ifCond .eq 7, 3) := by decide +kernel
theorem d_Mo_seek_312 : decode mt_Mo_seek.2.1 312 = .ok (.iconst 1, 1) := by decide +kernel
theorem d_Mo_seek_313 : decode mt_Mo_seek.2.1 313 = .ok (.goto 4, 3) := by decide +kernel
theorem d_Mo_seek_316 : decode mt_Mo_seek.2.1 316 = .ok (.iconst 0, 1) := by decide +kernel
theorem d_Mo_seek_317 : decode mt_Mo_seek.2.1 317 = .ok (.istore 7, 2) := by decide +kernel
theorem d_Mo_seek_319 : decode mt_Mo_seek.2.1 319 = .ok (.iload 6, 2) := by decide +kernel
theorem d_Mo_seek_321 : decode mt_Mo_seek.2.1 321 = .ok (.iconst 1, 1) := by decide +kernel
theorem d_Mo_seek_322 : decode mt_Mo_seek.2.1 322 = .ok (.isub, 1) := by decide +kernel
theorem d_Mo_seek_323 : decode mt_Mo_seek.2.1 323 = .ok (.iload 4, 2) := by decide +kernel
theorem d_Mo_seek_325 : decode mt_Mo_seek.2.1 325 = .ok (.iand, 1) := by decide +kernel
theorem d_Mo_seek_326 : decode mt_Mo_seek.2.1 326 = .ok (.istore 6, 2) := by decide +kernel
theorem d_Mo_seek_328 : decode mt_Mo_seek.2.1 328 = .ok (.goto (-125), 3) := by decide +kernel
theorem d_Mo_seek_331 : decode mt_Mo_seek.2.1 331 = .ok (.iinc 4 1, 3) := by decide +kernel
theorem d_Mo_seek_334 : decode mt_Mo_seek.2.1 334 = .ok (.goto (-164), 3) := by decide +kernel
theorem d_Mo_seek_337 : decode mt_Mo_seek.2.1 337 = .ok (.iinc 2 (-1), 3) := by decide +kernel
theorem d_Mo_seek_340 : decode mt_Mo_seek.2.1 340 = .ok (.goto (-227), 3) := by decide +kernel
theorem d_Mo_seek_343 : decode mt_Mo_seek.2.1 343 = .ok (.aload_n 0, 1) := by decide +kernel
theorem d_Mo_seek_344 : decode mt_Mo_seek.2.1 344 = .ok (.getfield 129, 3) := by decide +kernel
theorem d_Mo_seek_347 : decode mt_Mo_seek.2.1 347 = .ok (.iload_n 1, 1) := by decide +kernel
theorem d_Mo_seek_348 : decode mt_Mo_seek.2.1 348 = .ok (.laload, 1) := by decide +kernel
theorem d_Mo_seek_349 : decode mt_Mo_seek.2.1 349 = .ok (.ldc2_w 375, 3) := by decide +kernel
theorem d_Mo_seek_352 : decode mt_Mo_seek.2.1 352 = .ok (.lcmp, 1) := by decide +kernel
theorem d_Mo_seek_353 : decode mt_Mo_seek.2.1 353 = .ok (.ifCond .eq 7, 3) := by decide +kernel
theorem d_Mo_seek_356 : decode mt_Mo_seek.2.1 356 = .ok (.iconst 1, 1) := by decide +kernel
theorem d_Mo_seek_357 : decode mt_Mo_seek.2.1 357 = .ok (.goto 4, 3) := by decide +kernel
theorem d_Mo_seek_360 : decode mt_Mo_seek.2.1 360 = .ok (.iconst 0, 1) := by decide +kernel
theorem d_Mo_seek_361 : decode mt_Mo_seek.2.1 361 = .ok (.ireturn, 1) := by decide +kernel
theorem d_Mo_costOf_0 : decode mt_Mo_costOf.2.1 0 = .ok (.aload_n 0, 1) := by decide +kernel
theorem d_Mo_costOf_1 : decode mt_Mo_costOf.2.1 1 = .ok (.getfield 28, 3) := by decide +kernel
theorem d_Mo_costOf_4 : decode mt_Mo_costOf.2.1 4 = .ok (.aload_n 0, 1) := by decide +kernel
theorem d_Mo_costOf_5 : decode mt_Mo_costOf.2.1 5 = .ok (.getfield 117, 3) := by decide +kernel
theorem d_Mo_costOf_8 : decode mt_Mo_costOf.2.1 8 = .ok (.iload_n 1, 1) := by decide +kernel
theorem d_Mo_costOf_9 : decode mt_Mo_costOf.2.1 9 = .ok (.iaload, 1) := by decide +kernel
theorem d_Mo_costOf_10 : decode mt_Mo_costOf.2.1 10 = .ok (.iaload, 1) := by decide +kernel
theorem d_Mo_costOf_11 : decode mt_Mo_costOf.2.1 11 = .ok (.istore_n 3, 1) := by decide +kernel
theorem d_Mo_costOf_12 : decode mt_Mo_costOf.2.1 12 = .ok (.lconst 1, 1) := by decide +kernel
theorem d_Mo_costOf_13 : decode mt_Mo_costOf.2.1 13 = .ok (.lstore 4, 2) := by decide +kernel
theorem d_Mo_costOf_15 : decode mt_Mo_costOf.2.1 15 = .ok (.iload_n 1, 1) := by decide +kernel
theorem d_Mo_costOf_16 : decode mt_Mo_costOf.2.1 16 = .ok (.iconst 1, 1) := by decide +kernel
theorem d_Mo_costOf_17 : decode mt_Mo_costOf.2.1 17 = .ok (.iadd, 1) := by decide +kernel
theorem d_Mo_costOf_18 : decode mt_Mo_costOf.2.1 18 = .ok (.istore 6, 2) := by decide +kernel
theorem d_Mo_costOf_20 : decode mt_Mo_costOf.2.1 20 = .ok (.iload 6, 2) := by decide +kernel
theorem d_Mo_costOf_22 : decode mt_Mo_costOf.2.1 22 = .ok (.aload_n 0, 1) := by decide +kernel
theorem d_Mo_costOf_23 : decode mt_Mo_costOf.2.1 23 = .ok (.getfield 357, 3) := by decide +kernel
theorem d_Mo_costOf_26 : decode mt_Mo_costOf.2.1 26 = .ok (.if_icmp .ge 17, 3) := by decide +kernel
theorem d_Mo_costOf_29 : decode mt_Mo_costOf.2.1 29 = .ok (.lload 4, 2) := by decide +kernel
theorem d_Mo_costOf_31 : decode mt_Mo_costOf.2.1 31 = .ok (.ldc2_w 360, 3) := by decide +kernel
theorem d_Mo_costOf_34 : decode mt_Mo_costOf.2.1 34 = .ok (.lmul, 1) := by decide +kernel
theorem d_Mo_costOf_35 : decode mt_Mo_costOf.2.1 35 = .ok (.lstore 4, 2) := by decide +kernel
theorem d_Mo_costOf_37 : decode mt_Mo_costOf.2.1 37 = .ok (.iinc 6 1, 3) := by decide +kernel
theorem d_Mo_costOf_40 : decode mt_Mo_costOf.2.1 40 = .ok (.goto (-20), 3) := by decide +kernel
theorem d_Mo_costOf_43 : decode mt_Mo_costOf.2.1 43 = .ok (.lload 4, 2) := by decide +kernel
theorem d_Mo_costOf_45 : decode mt_Mo_costOf.2.1 45 = .ok (.lstore 6, 2) := by decide +kernel
theorem d_Mo_costOf_47 : decode mt_Mo_costOf.2.1 47 = .ok (.iconst 0, 1) := by decide +kernel
theorem d_Mo_costOf_48 : decode mt_Mo_costOf.2.1 48 = .ok (.istore 8, 2) := by decide +kernel
theorem d_Mo_costOf_50 : decode mt_Mo_costOf.2.1 50 = .ok (.iload 8, 2) := by decide +kernel
theorem d_Mo_costOf_52 : decode mt_Mo_costOf.2.1 52 = .ok (.iload_n 1, 1) := by decide +kernel
theorem d_Mo_costOf_53 : decode mt_Mo_costOf.2.1 53 = .ok (.if_icmp .gt 17, 3) := by decide +kernel
theorem d_Mo_costOf_56 : decode mt_Mo_costOf.2.1 56 = .ok (.lload 6, 2) := by decide +kernel
theorem d_Mo_costOf_58 : decode mt_Mo_costOf.2.1 58 = .ok (.ldc2_w 360, 3) := by decide +kernel
theorem d_Mo_costOf_61 : decode mt_Mo_costOf.2.1 61 = .ok (.lmul, 1) := by decide +kernel
theorem d_Mo_costOf_62 : decode mt_Mo_costOf.2.1 62 = .ok (.lstore 6, 2) := by decide +kernel
theorem d_Mo_costOf_64 : decode mt_Mo_costOf.2.1 64 = .ok (.iinc 8 1, 3) := by decide +kernel
theorem d_Mo_costOf_67 : decode mt_Mo_costOf.2.1 67 = .ok (.goto (-17), 3) := by decide +kernel
theorem d_Mo_costOf_70 : decode mt_Mo_costOf.2.1 70 = .ok (.lload 6, 2) := by decide +kernel
theorem d_Mo_costOf_72 : decode mt_Mo_costOf.2.1 72 = .ok (.bipush 20, 2) := by decide +kernel
theorem d_Mo_costOf_74 : decode mt_Mo_costOf.2.1 74 = .ok (.iload_n 3, 1) := by decide +kernel
theorem d_Mo_costOf_75 : decode mt_Mo_costOf.2.1 75 = .ok (.bipush 6, 2) := by decide +kernel
theorem d_Mo_costOf_77 : decode mt_Mo_costOf.2.1 77 = .ok (.idiv, 1) := by decide +kernel
theorem d_Mo_costOf_78 : decode mt_Mo_costOf.2.1 78 = .ok (.iload_n 2, 1) := by decide +kernel
theorem d_Mo_costOf_79 : decode mt_Mo_costOf.2.1 79 = .ok (.bipush 6, 2) := by decide +kernel
theorem d_Mo_costOf_81 : decode mt_Mo_costOf.2.1 81 = .ok (.idiv, 1) := by decide +kernel
theorem d_Mo_costOf_82 : decode mt_Mo_costOf.2.1 82 = .ok (.invokestatic 362, 3) := by decide +kernel
theorem d_Mo_costOf_85 : decode mt_Mo_costOf.2.1 85 = .ok (.imul, 1) := by decide +kernel
theorem d_Mo_costOf_86 : decode mt_Mo_costOf.2.1 86 = .ok (.iload_n 3, 1) := by decide +kernel
theorem d_Mo_costOf_87 : decode mt_Mo_costOf.2.1 87 = .ok (.bipush 6, 2) := by decide +kernel
theorem d_Mo_costOf_89 : decode mt_Mo_costOf.2.1 89 = .ok (.irem, 1) := by decide +kernel
theorem d_Mo_costOf_90 : decode mt_Mo_costOf.2.1 90 = .ok (.iload_n 2, 1) := by decide +kernel
theorem d_Mo_costOf_91 : decode mt_Mo_costOf.2.1 91 = .ok (.bipush 6, 2) := by decide +kernel
theorem d_Mo_costOf_93 : decode mt_Mo_costOf.2.1 93 = .ok (.irem, 1) := by decide +kernel
theorem d_Mo_costOf_94 : decode mt_Mo_costOf.2.1 94 = .ok (.invokestatic 362, 3) := by decide +kernel
theorem d_Mo_costOf_97 : decode mt_Mo_costOf.2.1 97 = .ok (.iadd, 1) := by decide +kernel
theorem d_Mo_costOf_98 : decode mt_Mo_costOf.2.1 98 = .ok (.i2l, 1) := by decide +kernel
theorem d_Mo_costOf_99 : decode mt_Mo_costOf.2.1 99 = .ok (.lmul, 1) := by decide +kernel
theorem d_Mo_costOf_100 : decode mt_Mo_costOf.2.1 100 = .ok (.lload 4, 2) := by decide +kernel
theorem d_Mo_costOf_102 : decode mt_Mo_costOf.2.1 102 = .ok (.iload_n 2, 1) := by decide +kernel
theorem d_Mo_costOf_103 : decode mt_Mo_costOf.2.1 103 = .ok (.i2l, 1) := by decide +kernel
theorem d_Mo_costOf_104 : decode mt_Mo_costOf.2.1 104 = .ok (.lmul, 1) := by decide +kernel
theorem d_Mo_costOf_105 : decode mt_Mo_costOf.2.1 105 = .ok (.ladd, 1) := by decide +kernel
theorem d_Mo_costOf_106 : decode mt_Mo_costOf.2.1 106 = .ok (.lreturn, 1) := by decide +kernel
theorem d_Mo_far_0 : decode mt_Mo_far.2.1 0 = .ok (.iload_n 0, 1) := by decide +kernel
theorem d_Mo_far_1 : decode mt_Mo_far.2.1 1 = .ok (.iload_n 1, 1) := by decide +kernel
theorem d_Mo_far_2 : decode mt_Mo_far.2.1 2 = .ok (.if_icmp .ge 9, 3) := by decide +kernel
theorem d_Mo_far_5 : decode mt_Mo_far.2.1 5 = .ok (.iload_n 1, 1) := by decide +kernel
theorem d_Mo_far_6 : decode mt_Mo_far.2.1 6 = .ok (.iload_n 0, 1) := by decide +kernel
theorem d_Mo_far_7 : decode mt_Mo_far.2.1 7 = .ok (.isub, 1) := by decide +kernel
theorem d_Mo_far_8 : decode mt_Mo_far.2.1 8 = .ok (.goto 6, 3) := by decide +kernel
theorem d_Mo_far_11 : decode mt_Mo_far.2.1 11 = .ok (.iload_n 0, 1) := by decide +kernel
theorem d_Mo_far_12 : decode mt_Mo_far.2.1 12 = .ok (.iload_n 1, 1) := by decide +kernel
theorem d_Mo_far_13 : decode mt_Mo_far.2.1 13 = .ok (.isub, 1) := by decide +kernel
theorem d_Mo_far_14 : decode mt_Mo_far.2.1 14 = .ok (.ireturn, 1) := by decide +kernel
theorem d_Mo_many_0 : decode mt_Mo_many.2.1 0 = .ok (.iconst 0, 1) := by decide +kernel
theorem d_Mo_many_1 : decode mt_Mo_many.2.1 1 = .ok (.istore_n 1, 1) := by decide +kernel
theorem d_Mo_many_2 : decode mt_Mo_many.2.1 2 = .ok (.iconst 0, 1) := by decide +kernel
theorem d_Mo_many_3 : decode mt_Mo_many.2.1 3 = .ok (.istore_n 2, 1) := by decide +kernel
theorem d_Mo_many_4 : decode mt_Mo_many.2.1 4 = .ok (.iload_n 2, 1) := by decide +kernel
theorem d_Mo_many_5 : decode mt_Mo_many.2.1 5 = .ok (.bipush 10, 2) := by decide +kernel
theorem d_Mo_many_7 : decode mt_Mo_many.2.1 7 = .ok (.if_icmp .ge 17, 3) := by decide +kernel
theorem d_Mo_many_10 : decode mt_Mo_many.2.1 10 = .ok (.iload_n 1, 1) := by decide +kernel
theorem d_Mo_many_11 : decode mt_Mo_many.2.1 11 = .ok (.iload_n 0, 1) := by decide +kernel
theorem d_Mo_many_12 : decode mt_Mo_many.2.1 12 = .ok (.iload_n 2, 1) := by decide +kernel
theorem d_Mo_many_13 : decode mt_Mo_many.2.1 13 = .ok (.ishr, 1) := by decide +kernel
theorem d_Mo_many_14 : decode mt_Mo_many.2.1 14 = .ok (.iconst 1, 1) := by decide +kernel
theorem d_Mo_many_15 : decode mt_Mo_many.2.1 15 = .ok (.iand, 1) := by decide +kernel
theorem d_Mo_many_16 : decode mt_Mo_many.2.1 16 = .ok (.iadd, 1) := by decide +kernel
theorem d_Mo_many_17 : decode mt_Mo_many.2.1 17 = .ok (.istore_n 1, 1) := by decide +kernel
theorem d_Mo_many_18 : decode mt_Mo_many.2.1 18 = .ok (.iinc 2 1, 3) := by decide +kernel
theorem d_Mo_many_21 : decode mt_Mo_many.2.1 21 = .ok (.goto (-17), 3) := by decide +kernel
theorem d_Mo_many_24 : decode mt_Mo_many.2.1 24 = .ok (.iload_n 1, 1) := by decide +kernel
theorem d_Mo_many_25 : decode mt_Mo_many.2.1 25 = .ok (.ireturn, 1) := by decide +kernel
theorem d_Mo_onOne_0 : decode mt_Mo_onOne.2.1 0 = .ok (.lconst 0, 1) := by decide +kernel
theorem d_Mo_onOne_1 : decode mt_Mo_onOne.2.1 1 = .ok (.lstore_n 3, 1) := by decide +kernel
theorem d_Mo_onOne_2 : decode mt_Mo_onOne.2.1 2 = .ok (.iconst 0, 1) := by decide +kernel
theorem d_Mo_onOne_3 : decode mt_Mo_onOne.2.1 3 = .ok (.istore 5, 2) := by decide +kernel
theorem d_Mo_onOne_5 : decode mt_Mo_onOne.2.1 5 = .ok (.iload 5, 2) := by decide +kernel
theorem d_Mo_onOne_7 : decode mt_Mo_onOne.2.1 7 = .ok (.aload_n 0, 1) := by decide +kernel
theorem d_Mo_onOne_8 : decode mt_Mo_onOne.2.1 8 = .ok (.getfield 357, 3) := by decide +kernel
theorem d_Mo_onOne_11 : decode mt_Mo_onOne.2.1 11 = .ok (.if_icmp .ge 52, 3) := by decide +kernel
theorem d_Mo_onOne_14 : decode mt_Mo_onOne.2.1 14 = .ok (.aload_n 0, 1) := by decide +kernel
theorem d_Mo_onOne_15 : decode mt_Mo_onOne.2.1 15 = .ok (.iload_n 1, 1) := by decide +kernel
theorem d_Mo_onOne_16 : decode mt_Mo_onOne.2.1 16 = .ok (.iload 5, 2) := by decide +kernel
theorem d_Mo_onOne_18 : decode mt_Mo_onOne.2.1 18 = .ok (.invokevirtual 366, 3) := by decide +kernel
theorem d_Mo_onOne_21 : decode mt_Mo_onOne.2.1 21 = .ok (.ifCond .ne 6, 3) := by decide +kernel
theorem d_Mo_onOne_24 : decode mt_Mo_onOne.2.1 24 = .ok (.goto 33, 3) := by decide +kernel
theorem d_Mo_onOne_27 : decode mt_Mo_onOne.2.1 27 = .ok (.aload_n 0, 1) := by decide +kernel
theorem d_Mo_onOne_28 : decode mt_Mo_onOne.2.1 28 = .ok (.getfield 133, 3) := by decide +kernel
theorem d_Mo_onOne_31 : decode mt_Mo_onOne.2.1 31 = .ok (.bipush 10, 2) := by decide +kernel
theorem d_Mo_onOne_33 : decode mt_Mo_onOne.2.1 33 = .ok (.iload_n 2, 1) := by decide +kernel
theorem d_Mo_onOne_34 : decode mt_Mo_onOne.2.1 34 = .ok (.imul, 1) := by decide +kernel
theorem d_Mo_onOne_35 : decode mt_Mo_onOne.2.1 35 = .ok (.iload 5, 2) := by decide +kernel
theorem d_Mo_onOne_37 : decode mt_Mo_onOne.2.1 37 = .ok (.iadd, 1) := by decide +kernel
theorem d_Mo_onOne_38 : decode mt_Mo_onOne.2.1 38 = .ok (.laload, 1) := by decide +kernel
theorem d_Mo_onOne_39 : decode mt_Mo_onOne.2.1 39 = .ok (.lstore 6, 2) := by decide +kernel
theorem d_Mo_onOne_41 : decode mt_Mo_onOne.2.1 41 = .ok (.lload 6, 2) := by decide +kernel
theorem d_Mo_onOne_43 : decode mt_Mo_onOne.2.1 43 = .ok (.lconst 0, 1) := by decide +kernel
theorem d_Mo_onOne_44 : decode mt_Mo_onOne.2.1 44 = .ok (.lcmp, 1) := by decide +kernel
theorem d_Mo_onOne_45 : decode mt_Mo_onOne.2.1 45 = .ok (.ifCond .ge 7, 3) := by decide +kernel
theorem d_Mo_onOne_48 : decode mt_Mo_onOne.2.1 48 = .ok (.ldc2_w 369, 3) := by decide +kernel
theorem d_Mo_onOne_51 : decode mt_Mo_onOne.2.1 51 = .ok (.lreturn, 1) := by decide +kernel
theorem d_Mo_onOne_52 : decode mt_Mo_onOne.2.1 52 = .ok (.lload_n 3, 1) := by decide +kernel
theorem d_Mo_onOne_53 : decode mt_Mo_onOne.2.1 53 = .ok (.lload 6, 2) := by decide +kernel
theorem d_Mo_onOne_55 : decode mt_Mo_onOne.2.1 55 = .ok (.ladd, 1) := by decide +kernel
theorem d_Mo_onOne_56 : decode mt_Mo_onOne.2.1 56 = .ok (.lstore_n 3, 1) := by decide +kernel
theorem d_Mo_onOne_57 : decode mt_Mo_onOne.2.1 57 = .ok (.iinc 5 1, 3) := by decide +kernel
theorem d_Mo_onOne_60 : decode mt_Mo_onOne.2.1 60 = .ok (.goto (-55), 3) := by decide +kernel
theorem d_Mo_onOne_63 : decode mt_Mo_onOne.2.1 63 = .ok (.lload_n 3, 1) := by decide +kernel
theorem d_Mo_onOne_64 : decode mt_Mo_onOne.2.1 64 = .ok (.lreturn, 1) := by decide +kernel
theorem d_Mo_isIn_0 : decode mt_Mo_isIn.2.1 0 = .ok (.iload_n 1, 1) := by decide +kernel
theorem d_Mo_isIn_1 : decode mt_Mo_isIn.2.1 1 = .ok (.iload_n 2, 1) := by decide +kernel
theorem d_Mo_isIn_2 : decode mt_Mo_isIn.2.1 2 = .ok (.ishr, 1) := by decide +kernel
theorem d_Mo_isIn_3 : decode mt_Mo_isIn.2.1 3 = .ok (.iconst 1, 1) := by decide +kernel
theorem d_Mo_isIn_4 : decode mt_Mo_isIn.2.1 4 = .ok (.iand, 1) := by decide +kernel
theorem d_Mo_isIn_5 : decode mt_Mo_isIn.2.1 5 = .ok (.iconst 1, 1) := by decide +kernel
theorem d_Mo_isIn_6 : decode mt_Mo_isIn.2.1 6 = .ok (.if_icmp .ne 7, 3) := by decide +kernel
theorem d_Mo_isIn_9 : decode mt_Mo_isIn.2.1 9 = .ok (.iconst 1, 1) := by decide +kernel
theorem d_Mo_isIn_10 : decode mt_Mo_isIn.2.1 10 = .ok (.goto 4, 3) := by decide +kernel
theorem d_Mo_isIn_13 : decode mt_Mo_isIn.2.1 13 = .ok (.iconst 0, 1) := by decide +kernel
theorem d_Mo_isIn_14 : decode mt_Mo_isIn.2.1 14 = .ok (.ireturn, 1) := by decide +kernel
theorem d_Mo_planned_0 : decode mt_Mo_planned.2.1 0 = .ok (.iconst 0, 1) := by decide +kernel
theorem d_Mo_planned_1 : decode mt_Mo_planned.2.1 1 = .ok (.istore_n 2, 1) := by decide +kernel
theorem d_Mo_planned_2 : decode mt_Mo_planned.2.1 2 = .ok (.iload_n 2, 1) := by decide +kernel
theorem d_Mo_planned_3 : decode mt_Mo_planned.2.1 3 = .ok (.aload_n 0, 1) := by decide +kernel
theorem d_Mo_planned_4 : decode mt_Mo_planned.2.1 4 = .ok (.getfield 386, 3) := by decide +kernel
theorem d_Mo_planned_7 : decode mt_Mo_planned.2.1 7 = .ok (.if_icmp .ge 26, 3) := by decide +kernel
theorem d_Mo_planned_10 : decode mt_Mo_planned.2.1 10 = .ok (.aload_n 0, 1) := by decide +kernel
theorem d_Mo_planned_11 : decode mt_Mo_planned.2.1 11 = .ok (.getfield 120, 3) := by decide +kernel
theorem d_Mo_planned_14 : decode mt_Mo_planned.2.1 14 = .ok (.iload_n 2, 1) := by decide +kernel
theorem d_Mo_planned_15 : decode mt_Mo_planned.2.1 15 = .ok (.iaload, 1) := by decide +kernel
theorem d_Mo_planned_16 : decode mt_Mo_planned.2.1 16 = .ok (.iload_n 1, 1) := by decide +kernel
theorem d_Mo_planned_17 : decode mt_Mo_planned.2.1 17 = .ok (.if_icmp .ne 10, 3) := by decide +kernel
theorem d_Mo_planned_20 : decode mt_Mo_planned.2.1 20 = .ok (.aload_n 0, 1) := by decide +kernel
theorem d_Mo_planned_21 : decode mt_Mo_planned.2.1 21 = .ok (.getfield 123, 3) := by decide +kernel
theorem d_Mo_planned_24 : decode mt_Mo_planned.2.1 24 = .ok (.iload_n 2, 1) := by decide +kernel
theorem d_Mo_planned_25 : decode mt_Mo_planned.2.1 25 = .ok (.iaload, 1) := by decide +kernel
theorem d_Mo_planned_26 : decode mt_Mo_planned.2.1 26 = .ok (.ireturn, 1) := by decide +kernel
theorem d_Mo_planned_27 : decode mt_Mo_planned.2.1 27 = .ok (.iinc 2 1, 3) := by decide +kernel
theorem d_Mo_planned_30 : decode mt_Mo_planned.2.1 30 = .ok (.goto (-28), 3) := by decide +kernel
theorem d_Mo_planned_33 : decode mt_Mo_planned.2.1 33 = .ok (.iconst (-1), 1) := by decide +kernel
theorem d_Mo_planned_34 : decode mt_Mo_planned.2.1 34 = .ok (.ireturn, 1) := by decide +kernel
theorem d_Mo_carry_0 : decode mt_Mo_carry.2.1 0 = .ok (.aload_n 0, 1) := by decide +kernel
theorem d_Mo_carry_1 : decode mt_Mo_carry.2.1 1 = .ok (.getfield 158, 3) := by decide +kernel
theorem d_Mo_carry_4 : decode mt_Mo_carry.2.1 4 = .ok (.ifCond .eq 18, 3) := by decide +kernel
theorem d_Mo_carry_7 : decode mt_Mo_carry.2.1 7 = .ok (.aload_n 0, 1) := by decide +kernel
theorem d_Mo_carry_8 : decode mt_Mo_carry.2.1 8 = .ok (.getfield 168, 3) := by decide +kernel
theorem d_Mo_carry_11 : decode mt_Mo_carry.2.1 11 = .ok (.aload_n 0, 1) := by decide +kernel
theorem d_Mo_carry_12 : decode mt_Mo_carry.2.1 12 = .ok (.getfield 386, 3) := by decide +kernel
theorem d_Mo_carry_15 : decode mt_Mo_carry.2.1 15 = .ok (.iadd, 1) := by decide +kernel
theorem d_Mo_carry_16 : decode mt_Mo_carry.2.1 16 = .ok (.sipush 200, 3) := by decide +kernel
theorem d_Mo_carry_19 : decode mt_Mo_carry.2.1 19 = .ok (.if_icmp .le 5, 3) := by decide +kernel
theorem d_Mo_carry_22 : decode mt_Mo_carry.2.1 22 = .ok (.iconst (-1), 1) := by decide +kernel
theorem d_Mo_carry_23 : decode mt_Mo_carry.2.1 23 = .ok (.ireturn, 1) := by decide +kernel
theorem d_Mo_carry_24 : decode mt_Mo_carry.2.1 24 = .ok (.iconst 0, 1) := by decide +kernel
theorem d_Mo_carry_25 : decode mt_Mo_carry.2.1 25 = .ok (.istore_n 1, 1) := by decide +kernel
theorem d_Mo_carry_26 : decode mt_Mo_carry.2.1 26 = .ok (.iload_n 1, 1) := by decide +kernel
theorem d_Mo_carry_27 : decode mt_Mo_carry.2.1 27 = .ok (.aload_n 0, 1) := by decide +kernel
theorem d_Mo_carry_28 : decode mt_Mo_carry.2.1 28 = .ok (.getfield 386, 3) := by decide +kernel
theorem d_Mo_carry_31 : decode mt_Mo_carry.2.1 31 = .ok (.if_icmp .ge 25, 3) := by decide +kernel
theorem d_Mo_carry_34 : decode mt_Mo_carry.2.1 34 = .ok (.aload_n 0, 1) := by decide +kernel
theorem d_Mo_carry_35 : decode mt_Mo_carry.2.1 35 = .ok (.aload_n 0, 1) := by decide +kernel
theorem d_Mo_carry_36 : decode mt_Mo_carry.2.1 36 = .ok (.getfield 120, 3) := by decide +kernel
theorem d_Mo_carry_39 : decode mt_Mo_carry.2.1 39 = .ok (.iload_n 1, 1) := by decide +kernel
theorem d_Mo_carry_40 : decode mt_Mo_carry.2.1 40 = .ok (.iaload, 1) := by decide +kernel
theorem d_Mo_carry_41 : decode mt_Mo_carry.2.1 41 = .ok (.aload_n 0, 1) := by decide +kernel
theorem d_Mo_carry_42 : decode mt_Mo_carry.2.1 42 = .ok (.getfield 123, 3) := by decide +kernel
theorem d_Mo_carry_45 : decode mt_Mo_carry.2.1 45 = .ok (.iload_n 1, 1) := by decide +kernel
theorem d_Mo_carry_46 : decode mt_Mo_carry.2.1 46 = .ok (.iaload, 1) := by decide +kernel
theorem d_Mo_carry_47 : decode mt_Mo_carry.2.1 47 = .ok (.invokevirtual 354, 3) := by decide +kernel
theorem d_Mo_carry_50 : decode mt_Mo_carry.2.1 50 = .ok (.iinc 1 1, 3) := by decide +kernel
theorem d_Mo_carry_53 : decode mt_Mo_carry.2.1 53 = .ok (.goto (-27), 3) := by decide +kernel
theorem d_Mo_carry_56 : decode mt_Mo_carry.2.1 56 = .ok (.aload_n 0, 1) := by decide +kernel
theorem d_Mo_carry_57 : decode mt_Mo_carry.2.1 57 = .ok (.getfield 386, 3) := by decide +kernel
theorem d_Mo_carry_60 : decode mt_Mo_carry.2.1 60 = .ok (.istore_n 1, 1) := by decide +kernel
theorem d_Mo_carry_61 : decode mt_Mo_carry.2.1 61 = .ok (.aload_n 0, 1) := by decide +kernel
theorem d_Mo_carry_62 : decode mt_Mo_carry.2.1 62 = .ok (.iconst 0, 1) := by decide +kernel
theorem d_Mo_carry_63 : decode mt_Mo_carry.2.1 63 = .ok (.putfield 386, 3) := by decide +kernel
theorem d_Mo_carry_66 : decode mt_Mo_carry.2.1 66 = .ok (.aload_n 0, 1) := by decide +kernel
theorem d_Mo_carry_67 : decode mt_Mo_carry.2.1 67 = .ok (.iconst 0, 1) := by decide +kernel
theorem d_Mo_carry_68 : decode mt_Mo_carry.2.1 68 = .ok (.putfield 158, 3) := by decide +kernel
theorem d_Mo_carry_71 : decode mt_Mo_carry.2.1 71 = .ok (.iload_n 1, 1) := by decide +kernel
theorem d_Mo_carry_72 : decode mt_Mo_carry.2.1 72 = .ok (.ireturn, 1) := by decide +kernel
theorem d_Mo_mark_0 : decode mt_Mo_mark.2.1 0 = .ok (.aload_n 0, 1) := by decide +kernel
theorem d_Mo_mark_1 : decode mt_Mo_mark.2.1 1 = .ok (.getfield 389, 3) := by decide +kernel
theorem d_Mo_mark_4 : decode mt_Mo_mark.2.1 4 = .ok (.bipush 100, 2) := by decide +kernel
theorem d_Mo_mark_6 : decode mt_Mo_mark.2.1 6 = .ok (.if_icmp .eq 30, 3) := by decide +kernel
theorem d_Mo_mark_9 : decode mt_Mo_mark.2.1 9 = .ok (.iload_n 1, 1) := by decide +kernel
theorem d_Mo_mark_10 : decode mt_Mo_mark.2.1 10 = .ok (.ifCond .lt 26, 3) := by decide +kernel
theorem d_Mo_mark_13 : decode mt_Mo_mark.2.1 13 = .ok (.iload_n 1, 1) := by decide +kernel
theorem d_Mo_mark_14 : decode mt_Mo_mark.2.1 14 = .ok (.iconst 5, 1) := by decide +kernel
theorem d_Mo_mark_15 : decode mt_Mo_mark.2.1 15 = .ok (.if_icmp .ge 21, 3) := by decide +kernel
theorem d_Mo_mark_18 : decode mt_Mo_mark.2.1 18 = .ok (.aload_n 0, 1) := by decide +kernel
theorem d_Mo_mark_19 : decode mt_Mo_mark.2.1 19 = .ok (.iload_n 2, 1) := by decide +kernel
theorem d_Mo_mark_20 : decode mt_Mo_mark.2.1 20 = .ok (.invokevirtual 190, 3) := by decide +kernel
theorem d_Mo_mark_23 : decode mt_Mo_mark.2.1 23 = .ok (.ifCond .eq 13, 3) := by decide +kernel
theorem d_Mo_mark_26 : decode mt_Mo_mark.2.1 26 = .ok (.iload_n 3, 1) := by decide +kernel
theorem d_Mo_mark_27 : decode mt_Mo_mark.2.1 27 = .ok (.ifCond .lt 9, 3) := by decide +kernel
theorem d_Mo_mark_30 : decode mt_Mo_mark.2.1 30 = .ok (.iload_n 3, 1) := by decide +kernel
theorem d_Mo_mark_31 : decode mt_Mo_mark.2.1 31 = .ok (.bipush 20, 2) := by decide +kernel
theorem d_Mo_mark_33 : decode mt_Mo_mark.2.1 33 = .ok (.if_icmp .le 5, 3) := by decide +kernel
theorem d_Mo_mark_36 : decode mt_Mo_mark.2.1 36 = .ok (.iconst (-1), 1) := by decide +kernel
theorem d_Mo_mark_37 : decode mt_Mo_mark.2.1 37 = .ok (.ireturn, 1) := by decide +kernel
theorem d_Mo_mark_38 : decode mt_Mo_mark.2.1 38 = .ok (.aload_n 0, 1) := by decide +kernel
theorem d_Mo_mark_39 : decode mt_Mo_mark.2.1 39 = .ok (.getfield 136, 3) := by decide +kernel
theorem d_Mo_mark_42 : decode mt_Mo_mark.2.1 42 = .ok (.aload_n 0, 1) := by decide +kernel
theorem d_Mo_mark_43 : decode mt_Mo_mark.2.1 43 = .ok (.getfield 389, 3) := by decide +kernel
theorem d_Mo_mark_46 : decode mt_Mo_mark.2.1 46 = .ok (.iload_n 1, 1) := by decide +kernel
theorem d_Mo_mark_47 : decode mt_Mo_mark.2.1 47 = .ok (.iastore, 1) := by decide +kernel
theorem d_Mo_mark_48 : decode mt_Mo_mark.2.1 48 = .ok (.aload_n 0, 1) := by decide +kernel
theorem d_Mo_mark_49 : decode mt_Mo_mark.2.1 49 = .ok (.getfield 139, 3) := by decide +kernel
theorem d_Mo_mark_52 : decode mt_Mo_mark.2.1 52 = .ok (.aload_n 0, 1) := by decide +kernel
theorem d_Mo_mark_53 : decode mt_Mo_mark.2.1 53 = .ok (.getfield 389, 3) := by decide +kernel
theorem d_Mo_mark_56 : decode mt_Mo_mark.2.1 56 = .ok (.iload_n 2, 1) := by decide +kernel
theorem d_Mo_mark_57 : decode mt_Mo_mark.2.1 57 = .ok (.iastore, 1) := by decide +kernel
theorem d_Mo_mark_58 : decode mt_Mo_mark.2.1 58 = .ok (.aload_n 0, 1) := by decide +kernel
theorem d_Mo_mark_59 : decode mt_Mo_mark.2.1 59 = .ok (.getfield 142, 3) := by decide +kernel
theorem d_Mo_mark_62 : decode mt_Mo_mark.2.1 62 = .ok (.aload_n 0, 1) := by decide +kernel
theorem d_Mo_mark_63 : decode mt_Mo_mark.2.1 63 = .ok (.getfield 389, 3) := by decide +kernel
theorem d_Mo_mark_66 : decode mt_Mo_mark.2.1 66 = .ok (.iload_n 3, 1) := by decide +kernel
theorem d_Mo_mark_67 : decode mt_Mo_mark.2.1 67 = .ok (.iastore, 1) := by decide +kernel
theorem d_Mo_mark_68 : decode mt_Mo_mark.2.1 68 = .ok (.aload_n 0, 1) := by decide +kernel
theorem d_Mo_mark_69 : decode mt_Mo_mark.2.1 69 = .ok (.getfield 145, 3) := by decide +kernel
theorem d_Mo_mark_72 : decode mt_Mo_mark.2.1 72 = .ok (.aload_n 0, 1) := by decide +kernel
theorem d_Mo_mark_73 : decode mt_Mo_mark.2.1 73 = .ok (.getfield 389, 3) := by decide +kernel
theorem d_Mo_mark_76 : decode mt_Mo_mark.2.1 76 = .ok (.aload_n 0, 1) := by decide +kernel
theorem d_Mo_mark_77 : decode mt_Mo_mark.2.1 77 = .ok (.getfield 171, 3) := by decide +kernel
theorem d_Mo_mark_80 : decode mt_Mo_mark.2.1 80 = .ok (.iastore, 1) := by decide +kernel
theorem d_Mo_mark_81 : decode mt_Mo_mark.2.1 81 = .ok (.aload_n 0, 1) := by decide +kernel
theorem d_Mo_mark_82 : decode mt_Mo_mark.2.1 82 = .ok (.getfield 148, 3) := by decide +kernel
theorem d_Mo_mark_85 : decode mt_Mo_mark.2.1 85 = .ok (.aload_n 0, 1) := by decide +kernel
theorem d_Mo_mark_86 : decode mt_Mo_mark.2.1 86 = .ok (.getfield 389, 3) := by decide +kernel
theorem d_Mo_mark_89 : decode mt_Mo_mark.2.1 89 = .ok (.iconst (-1), 1) := by decide +kernel
theorem d_Mo_mark_90 : decode mt_Mo_mark.2.1 90 = .ok (.iastore, 1) := by decide +kernel
theorem d_Mo_mark_91 : decode mt_Mo_mark.2.1 91 = .ok (.aload_n 0, 1) := by decide +kernel
theorem d_Mo_mark_92 : decode mt_Mo_mark.2.1 92 = .ok (.dup, 1) := by decide +kernel
theorem d_Mo_mark_93 : decode mt_Mo_mark.2.1 93 = .ok (.getfield 389, 3) := by decide +kernel
theorem d_Mo_mark_96 : decode mt_Mo_mark.2.1 96 = .ok (.iconst 1, 1) := by decide +kernel
theorem d_Mo_mark_97 : decode mt_Mo_mark.2.1 97 = .ok (.iadd, 1) := by decide +kernel
theorem d_Mo_mark_98 : decode mt_Mo_mark.2.1 98 = .ok (.putfield 389, 3) := by decide +kernel
theorem d_Mo_mark_101 : decode mt_Mo_mark.2.1 101 = .ok (.aload_n 0, 1) := by decide +kernel
theorem d_Mo_mark_102 : decode mt_Mo_mark.2.1 102 = .ok (.getfield 389, 3) := by decide +kernel
theorem d_Mo_mark_105 : decode mt_Mo_mark.2.1 105 = .ok (.iconst 1, 1) := by decide +kernel
theorem d_Mo_mark_106 : decode mt_Mo_mark.2.1 106 = .ok (.isub, 1) := by decide +kernel
theorem d_Mo_mark_107 : decode mt_Mo_mark.2.1 107 = .ok (.ireturn, 1) := by decide +kernel
theorem d_Mo_untell_0 : decode mt_Mo_untell.2.1 0 = .ok (.iload_n 1, 1) := by decide +kernel
theorem d_Mo_untell_1 : decode mt_Mo_untell.2.1 1 = .ok (.ifCond .lt 20, 3) := by decide +kernel
theorem d_Mo_untell_4 : decode mt_Mo_untell.2.1 4 = .ok (.iload_n 1, 1) := by decide +kernel
theorem d_Mo_untell_5 : decode mt_Mo_untell.2.1 5 = .ok (.aload_n 0, 1) := by decide +kernel
theorem d_Mo_untell_6 : decode mt_Mo_untell.2.1 6 = .ok (.getfield 389, 3) := by decide +kernel
theorem d_Mo_untell_9 : decode mt_Mo_untell.2.1 9 = .ok (.if_icmp .ge 12, 3) := by decide +kernel
theorem d_Mo_untell_12 : decode mt_Mo_untell.2.1 12 = .ok (.aload_n 0, 1) := by decide +kernel
theorem d_Mo_untell_13 : decode mt_Mo_untell.2.1 13 = .ok (.getfield 148, 3) := by decide +kernel
theorem d_Mo_untell_16 : decode mt_Mo_untell.2.1 16 = .ok (.iload_n 1, 1) := by decide +kernel
theorem d_Mo_untell_17 : decode mt_Mo_untell.2.1 17 = .ok (.iaload, 1) := by decide +kernel
theorem d_Mo_untell_18 : decode mt_Mo_untell.2.1 18 = .ok (.ifCond .lt 5, 3) := by decide +kernel
theorem d_Mo_untell_21 : decode mt_Mo_untell.2.1 21 = .ok (.iconst 0, 1) := by decide +kernel
theorem d_Mo_untell_22 : decode mt_Mo_untell.2.1 22 = .ok (.ireturn, 1) := by decide +kernel
theorem d_Mo_untell_23 : decode mt_Mo_untell.2.1 23 = .ok (.aload_n 0, 1) := by decide +kernel
theorem d_Mo_untell_24 : decode mt_Mo_untell.2.1 24 = .ok (.getfield 148, 3) := by decide +kernel
theorem d_Mo_untell_27 : decode mt_Mo_untell.2.1 27 = .ok (.iload_n 1, 1) := by decide +kernel
theorem d_Mo_untell_28 : decode mt_Mo_untell.2.1 28 = .ok (.aload_n 0, 1) := by decide +kernel
theorem d_Mo_untell_29 : decode mt_Mo_untell.2.1 29 = .ok (.getfield 171, 3) := by decide +kernel
theorem d_Mo_untell_32 : decode mt_Mo_untell.2.1 32 = .ok (.iastore, 1) := by decide +kernel
theorem d_Mo_untell_33 : decode mt_Mo_untell.2.1 33 = .ok (.iconst 1, 1) := by decide +kernel
theorem d_Mo_untell_34 : decode mt_Mo_untell.2.1 34 = .ok (.ireturn, 1) := by decide +kernel
theorem d_Mo_grade_0 : decode mt_Mo_grade.2.1 0 = .ok (.aload_n 0, 1) := by decide +kernel
theorem d_Mo_grade_1 : decode mt_Mo_grade.2.1 1 = .ok (.iload_n 1, 1) := by decide +kernel
theorem d_Mo_grade_2 : decode mt_Mo_grade.2.1 2 = .ok (.invokevirtual 190, 3) := by decide +kernel
theorem d_Mo_grade_5 : decode mt_Mo_grade.2.1 5 = .ok (.ifCond .ne 5, 3) := by decide +kernel
theorem d_Mo_grade_8 : decode mt_Mo_grade.2.1 8 = .ok (.iconst (-1), 1) := by decide +kernel
theorem d_Mo_grade_9 : decode mt_Mo_grade.2.1 9 = .ok (.ireturn, 1) := by decide +kernel
theorem d_Mo_grade_10 : decode mt_Mo_grade.2.1 10 = .ok (.iconst 0, 1) := by decide +kernel
theorem d_Mo_grade_11 : decode mt_Mo_grade.2.1 11 = .ok (.istore_n 3, 1) := by decide +kernel
theorem d_Mo_grade_12 : decode mt_Mo_grade.2.1 12 = .ok (.iconst 0, 1) := by decide +kernel
theorem d_Mo_grade_13 : decode mt_Mo_grade.2.1 13 = .ok (.istore 4, 2) := by decide +kernel
theorem d_Mo_grade_15 : decode mt_Mo_grade.2.1 15 = .ok (.iload 4, 2) := by decide +kernel
theorem d_Mo_grade_17 : decode mt_Mo_grade.2.1 17 = .ok (.iconst 5, 1) := by decide +kernel
theorem d_Mo_grade_18 : decode mt_Mo_grade.2.1 18 = .ok (.if_icmp .ge 158, 3) := by decide +kernel
theorem d_Mo_grade_21 : decode mt_Mo_grade.2.1 21 = .ok (.iconst (-1), 1) := by decide +kernel
theorem d_Mo_grade_22 : decode mt_Mo_grade.2.1 22 = .ok (.istore 5, 2) := by decide +kernel
theorem d_Mo_grade_24 : decode mt_Mo_grade.2.1 24 = .ok (.iconst 0, 1) := by decide +kernel
theorem d_Mo_grade_25 : decode mt_Mo_grade.2.1 25 = .ok (.istore 6, 2) := by decide +kernel
theorem d_Mo_grade_27 : decode mt_Mo_grade.2.1 27 = .ok (.iload 6, 2) := by decide +kernel
theorem d_Mo_grade_29 : decode mt_Mo_grade.2.1 29 = .ok (.aload_n 0, 1) := by decide +kernel
theorem d_Mo_grade_30 : decode mt_Mo_grade.2.1 30 = .ok (.getfield 389, 3) := by decide +kernel
theorem d_Mo_grade_33 : decode mt_Mo_grade.2.1 33 = .ok (.if_icmp .ge 73, 3) := by decide +kernel
theorem d_Mo_grade_36 : decode mt_Mo_grade.2.1 36 = .ok (.aload_n 0, 1) := by decide +kernel
theorem d_Mo_grade_37 : decode mt_Mo_grade.2.1 37 = .ok (.getfield 136, 3) := by decide +kernel
theorem d_Mo_grade_40 : decode mt_Mo_grade.2.1 40 = .ok (.iload 6, 2) := by decide +kernel
theorem d_Mo_grade_42 : decode mt_Mo_grade.2.1 42 = .ok (.iaload, 1) := by decide +kernel
theorem d_Mo_grade_43 : decode mt_Mo_grade.2.1 43 = .ok (.iload 4, 2) := by decide +kernel
theorem d_Mo_grade_45 : decode mt_Mo_grade.2.1 45 = .ok (.if_icmp .ne 55, 3) := by decide +kernel
theorem d_Mo_grade_48 : decode mt_Mo_grade.2.1 48 = .ok (.aload_n 0, 1) := by decide +kernel
theorem d_Mo_grade_49 : decode mt_Mo_grade.2.1 49 = .ok (.getfield 139, 3) := by decide +kernel
theorem d_Mo_grade_52 : decode mt_Mo_grade.2.1 52 = .ok (.iload 6, 2) := by decide +kernel
theorem d_Mo_grade_54 : decode mt_Mo_grade.2.1 54 = .ok (.iaload, 1) := by decide +kernel
theorem d_Mo_grade_55 : decode mt_Mo_grade.2.1 55 = .ok (.iload_n 1, 1) := by decide +kernel
theorem d_Mo_grade_56 : decode mt_Mo_grade.2.1 56 = .ok (.if_icmp .ne 44, 3) := by decide +kernel
theorem d_Mo_grade_59 : decode mt_Mo_grade.2.1 59 = .ok (.aload_n 0, 1) := by decide +kernel
theorem d_Mo_grade_60 : decode mt_Mo_grade.2.1 60 = .ok (.getfield 145, 3) := by decide +kernel
theorem d_Mo_grade_63 : decode mt_Mo_grade.2.1 63 = .ok (.iload 6, 2) := by decide +kernel
theorem d_Mo_grade_65 : decode mt_Mo_grade.2.1 65 = .ok (.iaload, 1) := by decide +kernel
theorem d_Mo_grade_66 : decode mt_Mo_grade.2.1 66 = .ok (.iload_n 2, 1) := by decide +kernel
theorem d_Mo_grade_67 : decode mt_Mo_grade.2.1 67 = .ok (.if_icmp .gt 33, 3) := by decide +kernel
theorem d_Mo_grade_70 : decode mt_Mo_grade.2.1 70 = .ok (.aload_n 0, 1) := by decide +kernel
theorem d_Mo_grade_71 : decode mt_Mo_grade.2.1 71 = .ok (.getfield 148, 3) := by decide +kernel
theorem d_Mo_grade_74 : decode mt_Mo_grade.2.1 74 = .ok (.iload 6, 2) := by decide +kernel
theorem d_Mo_grade_76 : decode mt_Mo_grade.2.1 76 = .ok (.iaload, 1) := by decide +kernel
theorem d_Mo_grade_77 : decode mt_Mo_grade.2.1 77 = .ok (.ifCond .lt 14, 3) := by decide +kernel
theorem d_Mo_grade_80 : decode mt_Mo_grade.2.1 80 = .ok (.aload_n 0, 1) := by decide +kernel
theorem d_Mo_grade_81 : decode mt_Mo_grade.2.1 81 = .ok (.getfield 148, 3) := by decide +kernel
theorem d_Mo_grade_84 : decode mt_Mo_grade.2.1 84 = .ok (.iload 6, 2) := by decide +kernel
theorem d_Mo_grade_86 : decode mt_Mo_grade.2.1 86 = .ok (.iaload, 1) := by decide +kernel
theorem d_Mo_grade_87 : decode mt_Mo_grade.2.1 87 = .ok (.iload_n 2, 1) := by decide +kernel
theorem d_Mo_grade_88 : decode mt_Mo_grade.2.1 88 = .ok (.if_icmp .le 12, 3) := by decide +kernel
theorem d_Mo_grade_91 : decode mt_Mo_grade.2.1 91 = .ok (.aload_n 0, 1) := by decide +kernel
theorem d_Mo_grade_92 : decode mt_Mo_grade.2.1 92 = .ok (.getfield 142, 3) := by decide +kernel
theorem d_Mo_grade_95 : decode mt_Mo_grade.2.1 95 = .ok (.iload 6, 2) := by decide +kernel
theorem d_Mo_grade_97 : decode mt_Mo_grade.2.1 97 = .ok (.iaload, 1) := by decide +kernel
theorem d_Mo_grade_98 : decode mt_Mo_grade.2.1 98 = .ok (.istore 5, 2) := by decide +kernel
theorem d_Mo_grade_100 : decode mt_Mo_grade.2.1 100 = .ok (.iinc 6 1, 3) := by decide +kernel
theorem d_Mo_grade_103 : decode mt_Mo_grade.2.1 103 = .ok (.goto (-76), 3) := by decide +kernel
theorem d_Mo_grade_106 : decode mt_Mo_grade.2.1 106 = .ok (.iload 5, 2) := by decide +kernel
theorem d_Mo_grade_108 : decode mt_Mo_grade.2.1 108 = .ok (.ifCond .ge 6, 3) := by decide +kernel
theorem d_Mo_grade_111 : decode mt_Mo_grade.2.1 111 = .ok (.goto 59, 3) := by decide +kernel
theorem d_Mo_grade_114 : decode mt_Mo_grade.2.1 114 = .ok (.iload_n 3, 1) := by decide +kernel
theorem d_Mo_grade_115 : decode mt_Mo_grade.2.1 115 = .ok (.istore 6, 2) := by decide +kernel
theorem d_Mo_grade_117 : decode mt_Mo_grade.2.1 117 = .ok (.iload 6, 2) := by decide +kernel
theorem d_Mo_grade_119 : decode mt_Mo_grade.2.1 119 = .ok (.ifCond .le 39, 3) := by decide +kernel
theorem d_Mo_grade_122 : decode mt_Mo_grade.2.1 122 = .ok (.aload_n 0, 1) := by decide +kernel
theorem d_Mo_grade_123 : decode mt_Mo_grade.2.1 123 = .ok (.getfield 151, 3) := by decide +kernel
theorem d_Mo_grade_126 : decode mt_Mo_grade.2.1 126 = .ok (.iload 6, 2) := by decide +kernel
theorem d_Mo_grade_128 : decode mt_Mo_grade.2.1 128 = .ok (.iconst 1, 1) := by decide +kernel
theorem d_Mo_grade_129 : decode mt_Mo_grade.2.1 129 = .ok (.isub, 1) := by decide +kernel
theorem d_Mo_grade_130 : decode mt_Mo_grade.2.1 130 = .ok (.iaload, 1) := by decide +kernel
theorem d_Mo_grade_131 : decode mt_Mo_grade.2.1 131 = .ok (.iload 5, 2) := by decide +kernel
theorem d_Mo_grade_133 : decode mt_Mo_grade.2.1 133 = .ok (.if_icmp .le 25, 3) := by decide +kernel
theorem d_Mo_grade_136 : decode mt_Mo_grade.2.1 136 = .ok (.aload_n 0, 1) := by decide +kernel
theorem d_Mo_grade_137 : decode mt_Mo_grade.2.1 137 = .ok (.getfield 151, 3) := by decide +kernel
theorem d_Mo_grade_140 : decode mt_Mo_grade.2.1 140 = .ok (.iload 6, 2) := by decide +kernel
theorem d_Mo_grade_142 : decode mt_Mo_grade.2.1 142 = .ok (.aload_n 0, 1) := by decide +kernel
theorem d_Mo_grade_143 : decode mt_Mo_grade.2.1 143 = .ok (.getfield 151, 3) := by decide +kernel
theorem d_Mo_grade_146 : decode mt_Mo_grade.2.1 146 = .ok (.iload 6, 2) := by decide +kernel
theorem d_Mo_grade_148 : decode mt_Mo_grade.2.1 148 = .ok (.iconst 1, 1) := by decide +kernel
theorem d_Mo_grade_149 : decode mt_Mo_grade.2.1 149 = .ok (.isub, 1) := by decide +kernel
theorem d_Mo_grade_150 : decode mt_Mo_grade.2.1 150 = .ok (.iaload, 1) := by decide +kernel
theorem d_Mo_grade_151 : decode mt_Mo_grade.2.1 151 = .ok (.iastore, 1) := by decide +kernel
theorem d_Mo_grade_152 : decode mt_Mo_grade.2.1 152 = .ok (.iinc 6 (-1), 3) := by decide +kernel
theorem d_Mo_grade_155 : decode mt_Mo_grade.2.1 155 = .ok (.goto (-38), 3) := by decide +kernel
theorem d_Mo_grade_158 : decode mt_Mo_grade.2.1 158 = .ok (.aload_n 0, 1) := by decide +kernel
theorem d_Mo_grade_159 : decode mt_Mo_grade.2.1 159 = .ok (.getfield 151, 3) := by decide +kernel
theorem d_Mo_grade_162 : decode mt_Mo_grade.2.1 162 = .ok (.iload 6, 2) := by decide +kernel
theorem d_Mo_grade_164 : decode mt_Mo_grade.2.1 164 = .ok (.iload 5, 2) := by decide +kernel
theorem d_Mo_grade_166 : decode mt_Mo_grade.2.1 166 = .ok (.iastore, 1) := by decide +kernel
theorem d_Mo_grade_167 : decode mt_Mo_grade.2.1 167 = .ok (.iinc 3 1, 3) := by decide +kernel
theorem d_Mo_grade_170 : decode mt_Mo_grade.2.1 170 = .ok (.iinc 4 1, 3) := by decide +kernel
theorem d_Mo_grade_173 : decode mt_Mo_grade.2.1 173 = .ok (.goto (-158), 3) := by decide +kernel
theorem d_Mo_grade_176 : decode mt_Mo_grade.2.1 176 = .ok (.iload_n 3, 1) := by decide +kernel
theorem d_Mo_grade_177 : decode mt_Mo_grade.2.1 177 = .ok (.ifCond .ne 7, 3) := by decide +kernel
theorem d_Mo_grade_180 : decode mt_Mo_grade.2.1 180 = .ok (.iconst (-1), 1) := by decide +kernel
theorem d_Mo_grade_181 : decode mt_Mo_grade.2.1 181 = .ok (.goto 13, 3) := by decide +kernel
theorem d_Mo_grade_184 : decode mt_Mo_grade.2.1 184 = .ok (.aload_n 0, 1) := by decide +kernel
theorem d_Mo_grade_185 : decode mt_Mo_grade.2.1 185 = .ok (.getfield 151, 3) := by decide +kernel
theorem d_Mo_grade_188 : decode mt_Mo_grade.2.1 188 = .ok (.iload_n 3, 1) := by decide +kernel
theorem d_Mo_grade_189 : decode mt_Mo_grade.2.1 189 = .ok (.iconst 1, 1) := by decide +kernel
theorem d_Mo_grade_190 : decode mt_Mo_grade.2.1 190 = .ok (.isub, 1) := by decide +kernel
theorem d_Mo_grade_191 : decode mt_Mo_grade.2.1 191 = .ok (.iconst 2, 1) := by decide +kernel
theorem d_Mo_grade_192 : decode mt_Mo_grade.2.1 192 = .ok (.idiv, 1) := by decide +kernel
theorem d_Mo_grade_193 : decode mt_Mo_grade.2.1 193 = .ok (.iaload, 1) := by decide +kernel
theorem d_Mo_grade_194 : decode mt_Mo_grade.2.1 194 = .ok (.ireturn, 1) := by decide +kernel
theorem d_Mo_beside_0 : decode mt_Mo_beside.2.1 0 = .ok (.aload_n 0, 1) := by decide +kernel
theorem d_Mo_beside_1 : decode mt_Mo_beside.2.1 1 = .ok (.iload_n 1, 1) := by decide +kernel
theorem d_Mo_beside_2 : decode mt_Mo_beside.2.1 2 = .ok (.invokevirtual 190, 3) := by decide +kernel
theorem d_Mo_beside_5 : decode mt_Mo_beside.2.1 5 = .ok (.ifCond .eq 16, 3) := by decide +kernel
theorem d_Mo_beside_8 : decode mt_Mo_beside.2.1 8 = .ok (.aload_n 0, 1) := by decide +kernel
theorem d_Mo_beside_9 : decode mt_Mo_beside.2.1 9 = .ok (.iload_n 2, 1) := by decide +kernel
theorem d_Mo_beside_10 : decode mt_Mo_beside.2.1 10 = .ok (.invokevirtual 190, 3) := by decide +kernel
theorem d_Mo_beside_13 : decode mt_Mo_beside.2.1 13 = .ok (.ifCond .eq 8, 3) := by decide +kernel
theorem d_Mo_beside_16 : decode mt_Mo_beside.2.1 16 = .ok (.iload_n 1, 1) := by decide +kernel
theorem d_Mo_beside_17 : decode mt_Mo_beside.2.1 17 = .ok (.iload_n 2, 1) := by decide +kernel
theorem d_Mo_beside_18 : decode mt_Mo_beside.2.1 18 = .ok (.if_icmp .ne 7, 3) := by decide +kernel
theorem d_Mo_beside_21 : decode mt_Mo_beside.2.1 21 = .ok (.iconst (-1), 1) := by decide +kernel
theorem d_Mo_beside_22 : decode mt_Mo_beside.2.1 22 = .ok (.goto 17, 3) := by decide +kernel
theorem d_Mo_beside_25 : decode mt_Mo_beside.2.1 25 = .ok (.aload_n 0, 1) := by decide +kernel
theorem d_Mo_beside_26 : decode mt_Mo_beside.2.1 26 = .ok (.iload_n 1, 1) := by decide +kernel
theorem d_Mo_beside_27 : decode mt_Mo_beside.2.1 27 = .ok (.iload_n 2, 1) := by decide +kernel
theorem d_Mo_beside_28 : decode mt_Mo_beside.2.1 28 = .ok (.invokevirtual 392, 3) := by decide +kernel
theorem d_Mo_beside_31 : decode mt_Mo_beside.2.1 31 = .ok (.ifCond .eq 7, 3) := by decide +kernel
theorem d_Mo_beside_34 : decode mt_Mo_beside.2.1 34 = .ok (.iconst 1, 1) := by decide +kernel
theorem d_Mo_beside_35 : decode mt_Mo_beside.2.1 35 = .ok (.goto 4, 3) := by decide +kernel
theorem d_Mo_beside_38 : decode mt_Mo_beside.2.1 38 = .ok (.iconst 0, 1) := by decide +kernel
theorem d_Mo_beside_39 : decode mt_Mo_beside.2.1 39 = .ok (.ireturn, 1) := by decide +kernel
theorem d_Mo_layBeside_0 : decode mt_Mo_layBeside.2.1 0 = .ok (.iconst 0, 1) := by decide +kernel
theorem d_Mo_layBeside_1 : decode mt_Mo_layBeside.2.1 1 = .ok (.istore_n 3, 1) := by decide +kernel
theorem d_Mo_layBeside_2 : decode mt_Mo_layBeside.2.1 2 = .ok (.iconst 0, 1) := by decide +kernel
theorem d_Mo_layBeside_3 : decode mt_Mo_layBeside.2.1 3 = .ok (.istore 4, 2) := by decide +kernel
theorem d_Mo_layBeside_5 : decode mt_Mo_layBeside.2.1 5 = .ok (.iload 4, 2) := by decide +kernel
theorem d_Mo_layBeside_7 : decode mt_Mo_layBeside.2.1 7 = .ok (.aload_n 0, 1) := by decide +kernel
theorem d_Mo_layBeside_8 : decode mt_Mo_layBeside.2.1 8 = .ok (.getfield 168, 3) := by decide +kernel
theorem d_Mo_layBeside_11 : decode mt_Mo_layBeside.2.1 11 = .ok (.if_icmp .ge 194, 3) := by decide +kernel
theorem d_Mo_layBeside_14 : decode mt_Mo_layBeside.2.1 14 = .ok (.iload_n 3, 1) := by decide +kernel
theorem d_Mo_layBeside_15 : decode mt_Mo_layBeside.2.1 15 = .ok (.ifCond .ne 190, 3) := by decide +kernel
theorem d_Mo_layBeside_18 : decode mt_Mo_layBeside.2.1 18 = .ok (.iconst 0, 1) := by decide +kernel
theorem d_Mo_layBeside_19 : decode mt_Mo_layBeside.2.1 19 = .ok (.istore 5, 2) := by decide +kernel
theorem d_Mo_layBeside_21 : decode mt_Mo_layBeside.2.1 21 = .ok (.iload 5, 2) := by decide +kernel
theorem d_Mo_layBeside_23 : decode mt_Mo_layBeside.2.1 23 = .ok (.aload_n 0, 1) := by decide +kernel
theorem d_Mo_layBeside_24 : decode mt_Mo_layBeside.2.1 24 = .ok (.getfield 168, 3) := by decide +kernel
theorem d_Mo_layBeside_27 : decode mt_Mo_layBeside.2.1 27 = .ok (.if_icmp .ge 172, 3) := by decide +kernel
theorem d_Mo_layBeside_30 : decode mt_Mo_layBeside.2.1 30 = .ok (.iload_n 3, 1) := by decide +kernel
theorem d_Mo_layBeside_31 : decode mt_Mo_layBeside.2.1 31 = .ok (.ifCond .ne 168, 3) := by decide +kernel
theorem d_Mo_layBeside_34 : decode mt_Mo_layBeside.2.1 34 = .ok (.aload_n 0, 1) := by decide +kernel
theorem d_Mo_layBeside_35 : decode mt_Mo_layBeside.2.1 35 = .ok (.getfield 53, 3) := by decide +kernel
theorem d_Mo_layBeside_38 : decode mt_Mo_layBeside.2.1 38 = .ok (.iload 4, 2) := by decide +kernel
theorem d_Mo_layBeside_40 : decode mt_Mo_layBeside.2.1 40 = .ok (.iaload, 1) := by decide +kernel
theorem d_Mo_layBeside_41 : decode mt_Mo_layBeside.2.1 41 = .ok (.iload_n 1, 1) := by decide +kernel
theorem d_Mo_layBeside_42 : decode mt_Mo_layBeside.2.1 42 = .ok (.if_icmp .ne 151, 3) := by decide +kernel
theorem d_Mo_layBeside_45 : decode mt_Mo_layBeside.2.1 45 = .ok (.aload_n 0, 1) := by decide +kernel
theorem d_Mo_layBeside_46 : decode mt_Mo_layBeside.2.1 46 = .ok (.getfield 53, 3) := by decide +kernel
theorem d_Mo_layBeside_49 : decode mt_Mo_layBeside.2.1 49 = .ok (.iload 5, 2) := by decide +kernel
theorem d_Mo_layBeside_51 : decode mt_Mo_layBeside.2.1 51 = .ok (.iaload, 1) := by decide +kernel
theorem d_Mo_layBeside_52 : decode mt_Mo_layBeside.2.1 52 = .ok (.iload_n 2, 1) := by decide +kernel
theorem d_Mo_layBeside_53 : decode mt_Mo_layBeside.2.1 53 = .ok (.if_icmp .ne 140, 3) := by decide +kernel
theorem d_Mo_layBeside_56 : decode mt_Mo_layBeside.2.1 56 = .ok (.aload_n 0, 1) := by decide +kernel
theorem d_Mo_layBeside_57 : decode mt_Mo_layBeside.2.1 57 = .ok (.getfield 56, 3) := by decide +kernel
theorem d_Mo_layBeside_60 : decode mt_Mo_layBeside.2.1 60 = .ok (.iload 4, 2) := by decide +kernel
theorem d_Mo_layBeside_62 : decode mt_Mo_layBeside.2.1 62 = .ok (.iaload, 1) := by decide +kernel
theorem d_Mo_layBeside_63 : decode mt_Mo_layBeside.2.1 63 = .ok (.aload_n 0, 1) := by decide +kernel
theorem d_Mo_layBeside_64 : decode mt_Mo_layBeside.2.1 64 = .ok (.getfield 56, 3) := by decide +kernel
theorem d_Mo_layBeside_67 : decode mt_Mo_layBeside.2.1 67 = .ok (.iload 5, 2) := by decide +kernel
theorem d_Mo_layBeside_69 : decode mt_Mo_layBeside.2.1 69 = .ok (.iaload, 1) := by decide +kernel
theorem d_Mo_layBeside_70 : decode mt_Mo_layBeside.2.1 70 = .ok (.if_icmp .eq 6, 3) := by decide +kernel
theorem d_Mo_layBeside_73 : decode mt_Mo_layBeside.2.1 73 = .ok (.goto 120, 3) := by decide +kernel
theorem d_Mo_layBeside_76 : decode mt_Mo_layBeside.2.1 76 = .ok (.aload_n 0, 1) := by decide +kernel
theorem d_Mo_layBeside_77 : decode mt_Mo_layBeside.2.1 77 = .ok (.getfield 59, 3) := by decide +kernel
theorem d_Mo_layBeside_80 : decode mt_Mo_layBeside.2.1 80 = .ok (.iload 4, 2) := by decide +kernel
theorem d_Mo_layBeside_82 : decode mt_Mo_layBeside.2.1 82 = .ok (.iaload, 1) := by decide +kernel
theorem d_Mo_layBeside_83 : decode mt_Mo_layBeside.2.1 83 = .ok (.aload_n 0, 1) := by decide +kernel
theorem d_Mo_layBeside_84 : decode mt_Mo_layBeside.2.1 84 = .ok (.getfield 59, 3) := by decide +kernel
theorem d_Mo_layBeside_87 : decode mt_Mo_layBeside.2.1 87 = .ok (.iload 5, 2) := by decide +kernel
theorem d_Mo_layBeside_89 : decode mt_Mo_layBeside.2.1 89 = .ok (.iaload, 1) := by decide +kernel
theorem d_Mo_layBeside_90 : decode mt_Mo_layBeside.2.1 90 = .ok (.if_icmp .le 13, 3) := by decide +kernel
theorem d_Mo_layBeside_93 : decode mt_Mo_layBeside.2.1 93 = .ok (.aload_n 0, 1) := by decide +kernel
theorem d_Mo_layBeside_94 : decode mt_Mo_layBeside.2.1 94 = .ok (.getfield 59, 3) := by decide +kernel
theorem d_Mo_layBeside_97 : decode mt_Mo_layBeside.2.1 97 = .ok (.iload 4, 2) := by decide +kernel
theorem d_Mo_layBeside_99 : decode mt_Mo_layBeside.2.1 99 = .ok (.iaload, 1) := by decide +kernel
theorem d_Mo_layBeside_100 : decode mt_Mo_layBeside.2.1 100 = .ok (.goto 10, 3) := by decide +kernel
theorem d_Mo_layBeside_103 : decode mt_Mo_layBeside.2.1 103 = .ok (.aload_n 0, 1) := by decide +kernel
theorem d_Mo_layBeside_104 : decode mt_Mo_layBeside.2.1 104 = .ok (.getfield 59, 3) := by decide +kernel
theorem d_Mo_layBeside_107 : decode mt_Mo_layBeside.2.1 107 = .ok (.iload 5, 2) := by decide +kernel
theorem d_Mo_layBeside_109 : decode mt_Mo_layBeside.2.1 109 = .ok (.iaload, 1) := by decide +kernel
theorem d_Mo_layBeside_110 : decode mt_Mo_layBeside.2.1 110 = .ok (.istore 6, 2) := by decide +kernel
theorem d_Mo_layBeside_112 : decode mt_Mo_layBeside.2.1 112 = .ok (.aload_n 0, 1) := by decide +kernel
theorem d_Mo_layBeside_113 : decode mt_Mo_layBeside.2.1 113 = .ok (.getfield 171, 3) := by decide +kernel
theorem d_Mo_layBeside_116 : decode mt_Mo_layBeside.2.1 116 = .ok (.istore 7, 2) := by decide +kernel
theorem d_Mo_layBeside_118 : decode mt_Mo_layBeside.2.1 118 = .ok (.aload_n 0, 1) := by decide +kernel
theorem d_Mo_layBeside_119 : decode mt_Mo_layBeside.2.1 119 = .ok (.getfield 62, 3) := by decide +kernel
theorem d_Mo_layBeside_122 : decode mt_Mo_layBeside.2.1 122 = .ok (.iload 4, 2) := by decide +kernel
theorem d_Mo_layBeside_124 : decode mt_Mo_layBeside.2.1 124 = .ok (.iaload, 1) := by decide +kernel
theorem d_Mo_layBeside_125 : decode mt_Mo_layBeside.2.1 125 = .ok (.ifCond .lt 24, 3) := by decide +kernel
theorem d_Mo_layBeside_128 : decode mt_Mo_layBeside.2.1 128 = .ok (.aload_n 0, 1) := by decide +kernel
theorem d_Mo_layBeside_129 : decode mt_Mo_layBeside.2.1 129 = .ok (.getfield 62, 3) := by decide +kernel
theorem d_Mo_layBeside_132 : decode mt_Mo_layBeside.2.1 132 = .ok (.iload 4, 2) := by decide +kernel
theorem d_Mo_layBeside_134 : decode mt_Mo_layBeside.2.1 134 = .ok (.iaload, 1) := by decide +kernel
theorem d_Mo_layBeside_135 : decode mt_Mo_layBeside.2.1 135 = .ok (.iload 7, 2) := by decide +kernel
theorem d_Mo_layBeside_137 : decode mt_Mo_layBeside.2.1 137 = .ok (.if_icmp .ge 12, 3) := by decide +kernel
theorem d_Mo_layBeside_140 : decode mt_Mo_layBeside.2.1 140 = .ok (.aload_n 0, 1) := by decide +kernel
theorem d_Mo_layBeside_141 : decode mt_Mo_layBeside.2.1 141 = .ok (.getfield 62, 3) := by decide +kernel
theorem d_Mo_layBeside_144 : decode mt_Mo_layBeside.2.1 144 = .ok (.iload 4, 2) := by decide +kernel
theorem d_Mo_layBeside_146 : decode mt_Mo_layBeside.2.1 146 = .ok (.iaload, 1) := by decide +kernel
theorem d_Mo_layBeside_147 : decode mt_Mo_layBeside.2.1 147 = .ok (.istore 7, 2) := by decide +kernel
theorem d_Mo_layBeside_149 : decode mt_Mo_layBeside.2.1 149 = .ok (.aload_n 0, 1) := by decide +kernel
theorem d_Mo_layBeside_150 : decode mt_Mo_layBeside.2.1 150 = .ok (.getfield 62, 3) := by decide +kernel
theorem d_Mo_layBeside_153 : decode mt_Mo_layBeside.2.1 153 = .ok (.iload 5, 2) := by decide +kernel
theorem d_Mo_layBeside_155 : decode mt_Mo_layBeside.2.1 155 = .ok (.iaload, 1) := by decide +kernel
theorem d_Mo_layBeside_156 : decode mt_Mo_layBeside.2.1 156 = .ok (.ifCond .lt 24, 3) := by decide +kernel
theorem d_Mo_layBeside_159 : decode mt_Mo_layBeside.2.1 159 = .ok (.aload_n 0, 1) := by decide +kernel
theorem d_Mo_layBeside_160 : decode mt_Mo_layBeside.2.1 160 = .ok (.getfield 62, 3) := by decide +kernel
theorem d_Mo_layBeside_163 : decode mt_Mo_layBeside.2.1 163 = .ok (.iload 5, 2) := by decide +kernel
theorem d_Mo_layBeside_165 : decode mt_Mo_layBeside.2.1 165 = .ok (.iaload, 1) := by decide +kernel
theorem d_Mo_layBeside_166 : decode mt_Mo_layBeside.2.1 166 = .ok (.iload 7, 2) := by decide +kernel
theorem d_Mo_layBeside_168 : decode mt_Mo_layBeside.2.1 168 = .ok (.if_icmp .ge 12, 3) := by decide +kernel
theorem d_Mo_layBeside_171 : decode mt_Mo_layBeside.2.1 171 = .ok (.aload_n 0, 1) := by decide +kernel
theorem d_Mo_layBeside_172 : decode mt_Mo_layBeside.2.1 172 = .ok (.getfield 62, 3) := by decide +kernel
theorem d_Mo_layBeside_175 : decode mt_Mo_layBeside.2.1 175 = .ok (.iload 5, 2) := by decide +kernel
theorem d_Mo_layBeside_177 : decode mt_Mo_layBeside.2.1 177 = .ok (.iaload, 1) := by decide +kernel
theorem d_Mo_layBeside_178 : decode mt_Mo_layBeside.2.1 178 = .ok (.istore 7, 2) := by decide +kernel
theorem d_Mo_layBeside_180 : decode mt_Mo_layBeside.2.1 180 = .ok (.iload 6, 2) := by decide +kernel
theorem d_Mo_layBeside_182 : decode mt_Mo_layBeside.2.1 182 = .ok (.iload 7, 2) := by decide +kernel
theorem d_Mo_layBeside_184 : decode mt_Mo_layBeside.2.1 184 = .ok (.if_icmp .ge 7, 3) := by decide +kernel
theorem d_Mo_layBeside_187 : decode mt_Mo_layBeside.2.1 187 = .ok (.iconst 1, 1) := by decide +kernel
theorem d_Mo_layBeside_188 : decode mt_Mo_layBeside.2.1 188 = .ok (.goto 4, 3) := by decide +kernel
theorem d_Mo_layBeside_191 : decode mt_Mo_layBeside.2.1 191 = .ok (.iconst 0, 1) := by decide +kernel
theorem d_Mo_layBeside_192 : decode mt_Mo_layBeside.2.1 192 = .ok (.istore_n 3, 1) := by decide +kernel
theorem d_Mo_layBeside_193 : decode mt_Mo_layBeside.2.1 193 = .ok (.iinc 5 1, 3) := by decide +kernel
theorem d_Mo_layBeside_196 : decode mt_Mo_layBeside.2.1 196 = .ok (.goto (-175), 3) := by decide +kernel
theorem d_Mo_layBeside_199 : decode mt_Mo_layBeside.2.1 199 = .ok (.iinc 4 1, 3) := by decide +kernel
theorem d_Mo_layBeside_202 : decode mt_Mo_layBeside.2.1 202 = .ok (.goto (-197), 3) := by decide +kernel
theorem d_Mo_layBeside_205 : decode mt_Mo_layBeside.2.1 205 = .ok (.iload_n 3, 1) := by decide +kernel
theorem d_Mo_layBeside_206 : decode mt_Mo_layBeside.2.1 206 = .ok (.ireturn, 1) := by decide +kernel
theorem d_Mo_reached_0 : decode mt_Mo_reached.2.1 0 = .ok (.iload_n 1, 1) := by decide +kernel
theorem d_Mo_reached_1 : decode mt_Mo_reached.2.1 1 = .ok (.ifCond .lt 11, 3) := by decide +kernel
theorem d_Mo_reached_4 : decode mt_Mo_reached.2.1 4 = .ok (.iload_n 1, 1) := by decide +kernel
theorem d_Mo_reached_5 : decode mt_Mo_reached.2.1 5 = .ok (.aload_n 0, 1) := by decide +kernel
theorem d_Mo_reached_6 : decode mt_Mo_reached.2.1 6 = .ok (.getfield 162, 3) := by decide +kernel
theorem d_Mo_reached_9 : decode mt_Mo_reached.2.1 9 = .ok (.if_icmp .lt 7, 3) := by decide +kernel
theorem d_Mo_reached_12 : decode mt_Mo_reached.2.1 12 = .ok (.ldc2_w 369, 3) := by decide +kernel
theorem d_Mo_reached_15 : decode mt_Mo_reached.2.1 15 = .ok (.lreturn, 1) := by decide +kernel
theorem d_Mo_reached_16 : decode mt_Mo_reached.2.1 16 = .ok (.lconst 0, 1) := by decide +kernel
theorem d_Mo_reached_17 : decode mt_Mo_reached.2.1 17 = .ok (.lstore_n 2, 1) := by decide +kernel
theorem d_Mo_reached_18 : decode mt_Mo_reached.2.1 18 = .ok (.iconst 0, 1) := by decide +kernel
theorem d_Mo_reached_19 : decode mt_Mo_reached.2.1 19 = .ok (.istore 4, 2) := by decide +kernel
theorem d_Mo_reached_21 : decode mt_Mo_reached.2.1 21 = .ok (.iload 4, 2) := by decide +kernel
theorem d_Mo_reached_23 : decode mt_Mo_reached.2.1 23 = .ok (.aload_n 0, 1) := by decide +kernel
theorem d_Mo_reached_24 : decode mt_Mo_reached.2.1 24 = .ok (.getfield 165, 3) := by decide +kernel
theorem d_Mo_reached_27 : decode mt_Mo_reached.2.1 27 = .ok (.if_icmp .ge 102, 3) := by decide +kernel
theorem d_Mo_reached_30 : decode mt_Mo_reached.2.1 30 = .ok (.aload_n 0, 1) := by decide +kernel
theorem d_Mo_reached_31 : decode mt_Mo_reached.2.1 31 = .ok (.getfield 49, 3) := by decide +kernel
theorem d_Mo_reached_34 : decode mt_Mo_reached.2.1 34 = .ok (.bipush 40, 2) := by decide +kernel
theorem d_Mo_reached_36 : decode mt_Mo_reached.2.1 36 = .ok (.iload_n 1, 1) := by decide +kernel
theorem d_Mo_reached_37 : decode mt_Mo_reached.2.1 37 = .ok (.imul, 1) := by decide +kernel
theorem d_Mo_reached_38 : decode mt_Mo_reached.2.1 38 = .ok (.iload 4, 2) := by decide +kernel
theorem d_Mo_reached_40 : decode mt_Mo_reached.2.1 40 = .ok (.iadd, 1) := by decide +kernel
theorem d_Mo_reached_41 : decode mt_Mo_reached.2.1 41 = .ok (.baload, 1) := by decide +kernel
theorem d_Mo_reached_42 : decode mt_Mo_reached.2.1 42 = .ok (.istore 5, 2) := by decide +kernel
theorem d_Mo_reached_44 : decode mt_Mo_reached.2.1 44 = .ok (.iconst 0, 1) := by decide +kernel
theorem d_Mo_reached_45 : decode mt_Mo_reached.2.1 45 = .ok (.istore 6, 2) := by decide +kernel
theorem d_Mo_reached_47 : decode mt_Mo_reached.2.1 47 = .ok (.iload 6, 2) := by decide +kernel
theorem d_Mo_reached_49 : decode mt_Mo_reached.2.1 49 = .ok (.aload_n 0, 1) := by decide +kernel
theorem d_Mo_reached_50 : decode mt_Mo_reached.2.1 50 = .ok (.getfield 165, 3) := by decide +kernel
theorem d_Mo_reached_53 : decode mt_Mo_reached.2.1 53 = .ok (.if_icmp .ge 54, 3) := by decide +kernel
theorem d_Mo_reached_56 : decode mt_Mo_reached.2.1 56 = .ok (.iload 5, 2) := by decide +kernel
theorem d_Mo_reached_58 : decode mt_Mo_reached.2.1 58 = .ok (.ifCond .ne 49, 3) := by decide +kernel
theorem d_Mo_reached_61 : decode mt_Mo_reached.2.1 61 = .ok (.iload 6, 2) := by decide +kernel
theorem d_Mo_reached_63 : decode mt_Mo_reached.2.1 63 = .ok (.iload 4, 2) := by decide +kernel
theorem d_Mo_reached_65 : decode mt_Mo_reached.2.1 65 = .ok (.if_icmp .eq 33, 3) := by decide +kernel
theorem d_Mo_reached_68 : decode mt_Mo_reached.2.1 68 = .ok (.aload_n 0, 1) := by decide +kernel
theorem d_Mo_reached_69 : decode mt_Mo_reached.2.1 69 = .ok (.getfield 49, 3) := by decide +kernel
theorem d_Mo_reached_72 : decode mt_Mo_reached.2.1 72 = .ok (.bipush 40, 2) := by decide +kernel
theorem d_Mo_reached_74 : decode mt_Mo_reached.2.1 74 = .ok (.iload_n 1, 1) := by decide +kernel
theorem d_Mo_reached_75 : decode mt_Mo_reached.2.1 75 = .ok (.imul, 1) := by decide +kernel
theorem d_Mo_reached_76 : decode mt_Mo_reached.2.1 76 = .ok (.iload 6, 2) := by decide +kernel
theorem d_Mo_reached_78 : decode mt_Mo_reached.2.1 78 = .ok (.iadd, 1) := by decide +kernel
theorem d_Mo_reached_79 : decode mt_Mo_reached.2.1 79 = .ok (.baload, 1) := by decide +kernel
theorem d_Mo_reached_80 : decode mt_Mo_reached.2.1 80 = .ok (.ifCond .eq 18, 3) := by decide +kernel
theorem d_Mo_reached_83 : decode mt_Mo_reached.2.1 83 = .ok (.aload_n 0, 1) := by decide +kernel
theorem d_Mo_reached_84 : decode mt_Mo_reached.2.1 84 = .ok (.iload 6, 2) := by decide +kernel
theorem d_Mo_reached_86 : decode mt_Mo_reached.2.1 86 = .ok (.iload 4, 2) := by decide +kernel
theorem d_Mo_reached_88 : decode mt_Mo_reached.2.1 88 = .ok (.invokevirtual 392, 3) := by decide +kernel
theorem d_Mo_reached_91 : decode mt_Mo_reached.2.1 91 = .ok (.ifCond .eq 7, 3) := by decide +kernel
theorem d_Mo_reached_94 : decode mt_Mo_reached.2.1 94 = .ok (.iconst 1, 1) := by decide +kernel
theorem d_Mo_reached_95 : decode mt_Mo_reached.2.1 95 = .ok (.goto 4, 3) := by decide +kernel
theorem d_Mo_reached_98 : decode mt_Mo_reached.2.1 98 = .ok (.iconst 0, 1) := by decide +kernel
theorem d_Mo_reached_99 : decode mt_Mo_reached.2.1 99 = .ok (.istore 5, 2) := by decide +kernel
theorem d_Mo_reached_101 : decode mt_Mo_reached.2.1 101 = .ok (.iinc 6 1, 3) := by decide +kernel
theorem d_Mo_reached_104 : decode mt_Mo_reached.2.1 104 = .ok (.goto (-57), 3) := by decide +kernel
theorem d_Mo_reached_107 : decode mt_Mo_reached.2.1 107 = .ok (.lload_n 2, 1) := by decide +kernel
theorem d_Mo_reached_108 : decode mt_Mo_reached.2.1 108 = .ok (.iload 5, 2) := by decide +kernel
theorem d_Mo_reached_110 : decode mt_Mo_reached.2.1 110 = .ok (.ifCond .eq 10, 3) := by decide +kernel
theorem d_Mo_reached_113 : decode mt_Mo_reached.2.1 113 = .ok (.lconst 1, 1) := by decide +kernel
theorem d_Mo_reached_114 : decode mt_Mo_reached.2.1 114 = .ok (.iload 4, 2) := by decide +kernel
theorem d_Mo_reached_116 : decode mt_Mo_reached.2.1 116 = .ok (.lshl, 1) := by decide +kernel
theorem d_Mo_reached_117 : decode mt_Mo_reached.2.1 117 = .ok (.goto 4, 3) := by decide +kernel
theorem d_Mo_reached_120 : decode mt_Mo_reached.2.1 120 = .ok (.lconst 0, 1) := by decide +kernel
theorem d_Mo_reached_121 : decode mt_Mo_reached.2.1 121 = .ok (.lor, 1) := by decide +kernel
theorem d_Mo_reached_122 : decode mt_Mo_reached.2.1 122 = .ok (.lstore_n 2, 1) := by decide +kernel
theorem d_Mo_reached_123 : decode mt_Mo_reached.2.1 123 = .ok (.iinc 4 1, 3) := by decide +kernel
theorem d_Mo_reached_126 : decode mt_Mo_reached.2.1 126 = .ok (.goto (-105), 3) := by decide +kernel
theorem d_Mo_reached_129 : decode mt_Mo_reached.2.1 129 = .ok (.lload_n 2, 1) := by decide +kernel
theorem d_Mo_reached_130 : decode mt_Mo_reached.2.1 130 = .ok (.lreturn, 1) := by decide +kernel
theorem d_Mo_about_0 : decode mt_Mo_about.2.1 0 = .ok (.iload_n 1, 1) := by decide +kernel
theorem d_Mo_about_1 : decode mt_Mo_about.2.1 1 = .ok (.tableswitch 78 0 6 #[43, 48, 53, 58, 63, 68, 73], 43) := by decide +kernel
theorem d_Mo_about_44 : decode mt_Mo_about.2.1 44 = .ok (.aload_n 0, 1) := by decide +kernel
theorem d_Mo_about_45 : decode mt_Mo_about.2.1 45 = .ok (.getfield 171, 3) := by decide +kernel
theorem d_Mo_about_48 : decode mt_Mo_about.2.1 48 = .ok (.ireturn, 1) := by decide +kernel
theorem d_Mo_about_49 : decode mt_Mo_about.2.1 49 = .ok (.aload_n 0, 1) := by decide +kernel
theorem d_Mo_about_50 : decode mt_Mo_about.2.1 50 = .ok (.getfield 162, 3) := by decide +kernel
theorem d_Mo_about_53 : decode mt_Mo_about.2.1 53 = .ok (.ireturn, 1) := by decide +kernel
theorem d_Mo_about_54 : decode mt_Mo_about.2.1 54 = .ok (.aload_n 0, 1) := by decide +kernel
theorem d_Mo_about_55 : decode mt_Mo_about.2.1 55 = .ok (.getfield 165, 3) := by decide +kernel
theorem d_Mo_about_58 : decode mt_Mo_about.2.1 58 = .ok (.ireturn, 1) := by decide +kernel
theorem d_Mo_about_59 : decode mt_Mo_about.2.1 59 = .ok (.aload_n 0, 1) := by decide +kernel
theorem d_Mo_about_60 : decode mt_Mo_about.2.1 60 = .ok (.getfield 334, 3) := by decide +kernel
theorem d_Mo_about_63 : decode mt_Mo_about.2.1 63 = .ok (.ireturn, 1) := by decide +kernel
theorem d_Mo_about_64 : decode mt_Mo_about.2.1 64 = .ok (.aload_n 0, 1) := by decide +kernel
theorem d_Mo_about_65 : decode mt_Mo_about.2.1 65 = .ok (.getfield 389, 3) := by decide +kernel
theorem d_Mo_about_68 : decode mt_Mo_about.2.1 68 = .ok (.ireturn, 1) := by decide +kernel
theorem d_Mo_about_69 : decode mt_Mo_about.2.1 69 = .ok (.aload_n 0, 1) := by decide +kernel
theorem d_Mo_about_70 : decode mt_Mo_about.2.1 70 = .ok (.getfield 168, 3) := by decide +kernel
theorem d_Mo_about_73 : decode mt_Mo_about.2.1 73 = .ok (.ireturn, 1) := by decide +kernel
theorem d_Mo_about_74 : decode mt_Mo_about.2.1 74 = .ok (.aload_n 0, 1) := by decide +kernel
theorem d_Mo_about_75 : decode mt_Mo_about.2.1 75 = .ok (.getfield 196, 3) := by decide +kernel
theorem d_Mo_about_78 : decode mt_Mo_about.2.1 78 = .ok (.ireturn, 1) := by decide +kernel
theorem d_Mo_about_79 : decode mt_Mo_about.2.1 79 = .ok (.iconst (-1), 1) := by decide +kernel
theorem d_Mo_about_80 : decode mt_Mo_about.2.1 80 = .ok (.ireturn, 1) := by decide +kernel
theorem d_Law_0 : decode mt_Law.2.1 0 = .ok (.new 7, 3) := by decide +kernel
theorem d_Law_3 : decode mt_Law.2.1 3 = .ok (.dup, 1) := by decide +kernel
theorem d_Law_4 : decode mt_Law.2.1 4 = .ok (.invokespecial 9, 3) := by decide +kernel
theorem d_Law_7 : decode mt_Law.2.1 7 = .ok (.astore_n 1, 1) := by decide +kernel
theorem d_Law_8 : decode mt_Law.2.1 8 = .ok (.new 10, 3) := by decide +kernel
theorem d_Law_11 : decode mt_Law.2.1 11 = .ok (.dup, 1) := by decide +kernel
theorem d_Law_12 : decode mt_Law.2.1 12 = .ok (.invokespecial 12, 3) := by decide +kernel
theorem d_Law_15 : decode mt_Law.2.1 15 = .ok (.astore_n 2, 1) := by decide +kernel
theorem d_Law_16 : decode mt_Law.2.1 16 = .ok (.iconst 0, 1) := by decide +kernel
theorem d_Law_17 : decode mt_Law.2.1 17 = .ok (.istore_n 3, 1) := by decide +kernel
theorem d_Law_18 : decode mt_Law.2.1 18 = .ok (.iload_n 3, 1) := by decide +kernel
theorem d_Law_19 : decode mt_Law.2.1 19 = .ok (.aload_n 0, 1) := by decide +kernel
theorem d_Law_20 : decode mt_Law.2.1 20 = .ok (.arraylength, 1) := by decide +kernel
theorem d_Law_21 : decode mt_Law.2.1 21 = .ok (.bipush 9, 2) := by decide +kernel
theorem d_Law_23 : decode mt_Law.2.1 23 = .ok (.isub, 1) := by decide +kernel
theorem d_Law_24 : decode mt_Law.2.1 24 = .ok (.if_icmp .gt 905, 3) := by decide +kernel
theorem d_Law_27 : decode mt_Law.2.1 27 = .ok (.aload_n 0, 1) := by decide +kernel
theorem d_Law_28 : decode mt_Law.2.1 28 = .ok (.iload_n 3, 1) := by decide +kernel
theorem d_Law_29 : decode mt_Law.2.1 29 = .ok (.iaload, 1) := by decide +kernel
theorem d_Law_30 : decode mt_Law.2.1 30 = .ok (.bipush 31, 2) := by decide +kernel
theorem d_Law_32 : decode mt_Law.2.1 32 = .ok (.iand, 1) := by decide +kernel
theorem d_Law_33 : decode mt_Law.2.1 33 = .ok (.tableswitch 890 0 23 #[111, 144, 177, 210, 309, 332, 395, 418, 431, 454, 477, 510, 543, 596, 629, 662, 675, 698, 711, 754, 777, 810, 843, 867], 111) := by decide +kernel
theorem d_Law_144 : decode mt_Law.2.1 144 = .ok (.aload_n 1, 1) := by decide +kernel
theorem d_Law_145 : decode mt_Law.2.1 145 = .ok (.aload_n 0, 1) := by decide +kernel
theorem d_Law_146 : decode mt_Law.2.1 146 = .ok (.iload_n 3, 1) := by decide +kernel
theorem d_Law_147 : decode mt_Law.2.1 147 = .ok (.iconst 1, 1) := by decide +kernel
theorem d_Law_148 : decode mt_Law.2.1 148 = .ok (.iadd, 1) := by decide +kernel
theorem d_Law_149 : decode mt_Law.2.1 149 = .ok (.iaload, 1) := by decide +kernel
theorem d_Law_150 : decode mt_Law.2.1 150 = .ok (.aload_n 0, 1) := by decide +kernel
theorem d_Law_151 : decode mt_Law.2.1 151 = .ok (.iload_n 3, 1) := by decide +kernel
theorem d_Law_152 : decode mt_Law.2.1 152 = .ok (.iconst 2, 1) := by decide +kernel
theorem d_Law_153 : decode mt_Law.2.1 153 = .ok (.iadd, 1) := by decide +kernel
theorem d_Law_154 : decode mt_Law.2.1 154 = .ok (.iaload, 1) := by decide +kernel
theorem d_Law_155 : decode mt_Law.2.1 155 = .ok (.invokevirtual 13, 3) := by decide +kernel
theorem d_Law_158 : decode mt_Law.2.1 158 = .ok (.aload_n 2, 1) := by decide +kernel
theorem d_Law_159 : decode mt_Law.2.1 159 = .ok (.aload_n 0, 1) := by decide +kernel
theorem d_Law_160 : decode mt_Law.2.1 160 = .ok (.iload_n 3, 1) := by decide +kernel
theorem d_Law_161 : decode mt_Law.2.1 161 = .ok (.iconst 1, 1) := by decide +kernel
theorem d_Law_162 : decode mt_Law.2.1 162 = .ok (.iadd, 1) := by decide +kernel
theorem d_Law_163 : decode mt_Law.2.1 163 = .ok (.iaload, 1) := by decide +kernel
theorem d_Law_164 : decode mt_Law.2.1 164 = .ok (.aload_n 0, 1) := by decide +kernel
theorem d_Law_165 : decode mt_Law.2.1 165 = .ok (.iload_n 3, 1) := by decide +kernel
theorem d_Law_166 : decode mt_Law.2.1 166 = .ok (.iconst 2, 1) := by decide +kernel
theorem d_Law_167 : decode mt_Law.2.1 167 = .ok (.iadd, 1) := by decide +kernel
theorem d_Law_168 : decode mt_Law.2.1 168 = .ok (.iaload, 1) := by decide +kernel
theorem d_Law_169 : decode mt_Law.2.1 169 = .ok (.invokevirtual 17, 3) := by decide +kernel
theorem d_Law_172 : decode mt_Law.2.1 172 = .ok (.if_icmp .eq 751, 3) := by decide +kernel
theorem d_Law_175 : decode mt_Law.2.1 175 = .ok (.iconst 0, 1) := by decide +kernel
theorem d_Law_176 : decode mt_Law.2.1 176 = .ok (.ireturn, 1) := by decide +kernel
theorem d_Law_177 : decode mt_Law.2.1 177 = .ok (.aload_n 1, 1) := by decide +kernel
theorem d_Law_178 : decode mt_Law.2.1 178 = .ok (.aload_n 0, 1) := by decide +kernel
theorem d_Law_179 : decode mt_Law.2.1 179 = .ok (.iload_n 3, 1) := by decide +kernel
theorem d_Law_180 : decode mt_Law.2.1 180 = .ok (.iconst 1, 1) := by decide +kernel
theorem d_Law_181 : decode mt_Law.2.1 181 = .ok (.iadd, 1) := by decide +kernel
theorem d_Law_182 : decode mt_Law.2.1 182 = .ok (.iaload, 1) := by decide +kernel
theorem d_Law_183 : decode mt_Law.2.1 183 = .ok (.aload_n 0, 1) := by decide +kernel
theorem d_Law_184 : decode mt_Law.2.1 184 = .ok (.iload_n 3, 1) := by decide +kernel
theorem d_Law_185 : decode mt_Law.2.1 185 = .ok (.iconst 2, 1) := by decide +kernel
theorem d_Law_186 : decode mt_Law.2.1 186 = .ok (.iadd, 1) := by decide +kernel
theorem d_Law_187 : decode mt_Law.2.1 187 = .ok (.iaload, 1) := by decide +kernel
theorem d_Law_188 : decode mt_Law.2.1 188 = .ok (.invokevirtual 18, 3) := by decide +kernel
theorem d_Law_191 : decode mt_Law.2.1 191 = .ok (.aload_n 2, 1) := by decide +kernel
theorem d_Law_192 : decode mt_Law.2.1 192 = .ok (.aload_n 0, 1) := by decide +kernel
theorem d_Law_193 : decode mt_Law.2.1 193 = .ok (.iload_n 3, 1) := by decide +kernel
theorem d_Law_194 : decode mt_Law.2.1 194 = .ok (.iconst 1, 1) := by decide +kernel
theorem d_Law_195 : decode mt_Law.2.1 195 = .ok (.iadd, 1) := by decide +kernel
theorem d_Law_196 : decode mt_Law.2.1 196 = .ok (.iaload, 1) := by decide +kernel
theorem d_Law_197 : decode mt_Law.2.1 197 = .ok (.aload_n 0, 1) := by decide +kernel
theorem d_Law_198 : decode mt_Law.2.1 198 = .ok (.iload_n 3, 1) := by decide +kernel
theorem d_Law_199 : decode mt_Law.2.1 199 = .ok (.iconst 2, 1) := by decide +kernel
theorem d_Law_200 : decode mt_Law.2.1 200 = .ok (.iadd, 1) := by decide +kernel
theorem d_Law_201 : decode mt_Law.2.1 201 = .ok (.iaload, 1) := by decide +kernel
theorem d_Law_202 : decode mt_Law.2.1 202 = .ok (.invokevirtual 21, 3) := by decide +kernel
theorem d_Law_205 : decode mt_Law.2.1 205 = .ok (.if_icmp .eq 718, 3) := by decide +kernel
theorem d_Law_208 : decode mt_Law.2.1 208 = .ok (.iconst 0, 1) := by decide +kernel
theorem d_Law_209 : decode mt_Law.2.1 209 = .ok (.ireturn, 1) := by decide +kernel
theorem d_Law_210 : decode mt_Law.2.1 210 = .ok (.aload_n 1, 1) := by decide +kernel
theorem d_Law_211 : decode mt_Law.2.1 211 = .ok (.aload_n 0, 1) := by decide +kernel
theorem d_Law_212 : decode mt_Law.2.1 212 = .ok (.iload_n 3, 1) := by decide +kernel
theorem d_Law_213 : decode mt_Law.2.1 213 = .ok (.iconst 1, 1) := by decide +kernel
theorem d_Law_214 : decode mt_Law.2.1 214 = .ok (.iadd, 1) := by decide +kernel
theorem d_Law_215 : decode mt_Law.2.1 215 = .ok (.iaload, 1) := by decide +kernel
theorem d_Law_216 : decode mt_Law.2.1 216 = .ok (.aload_n 0, 1) := by decide +kernel
theorem d_Law_217 : decode mt_Law.2.1 217 = .ok (.iload_n 3, 1) := by decide +kernel
theorem d_Law_218 : decode mt_Law.2.1 218 = .ok (.iconst 2, 1) := by decide +kernel
theorem d_Law_219 : decode mt_Law.2.1 219 = .ok (.iadd, 1) := by decide +kernel
theorem d_Law_220 : decode mt_Law.2.1 220 = .ok (.iaload, 1) := by decide +kernel
theorem d_Law_221 : decode mt_Law.2.1 221 = .ok (.invokevirtual 22, 3) := by decide +kernel
theorem d_Law_224 : decode mt_Law.2.1 224 = .ok (.aload_n 2, 1) := by decide +kernel
theorem d_Law_225 : decode mt_Law.2.1 225 = .ok (.aload_n 0, 1) := by decide +kernel
theorem d_Law_226 : decode mt_Law.2.1 226 = .ok (.iload_n 3, 1) := by decide +kernel
theorem d_Law_227 : decode mt_Law.2.1 227 = .ok (.iconst 1, 1) := by decide +kernel
theorem d_Law_228 : decode mt_Law.2.1 228 = .ok (.iadd, 1) := by decide +kernel
theorem d_Law_229 : decode mt_Law.2.1 229 = .ok (.iaload, 1) := by decide +kernel
theorem d_Law_230 : decode mt_Law.2.1 230 = .ok (.aload_n 0, 1) := by decide +kernel
theorem d_Law_231 : decode mt_Law.2.1 231 = .ok (.iload_n 3, 1) := by decide +kernel
theorem d_Law_232 : decode mt_Law.2.1 232 = .ok (.iconst 2, 1) := by decide +kernel
theorem d_Law_233 : decode mt_Law.2.1 233 = .ok (.iadd, 1) := by decide +kernel
theorem d_Law_234 : decode mt_Law.2.1 234 = .ok (.iaload, 1) := by decide +kernel
theorem d_Law_235 : decode mt_Law.2.1 235 = .ok (.invokevirtual 26, 3) := by decide +kernel
theorem d_Law_238 : decode mt_Law.2.1 238 = .ok (.if_icmp .eq 685, 3) := by decide +kernel
theorem d_Law_241 : decode mt_Law.2.1 241 = .ok (.iconst 0, 1) := by decide +kernel
theorem d_Law_242 : decode mt_Law.2.1 242 = .ok (.ireturn, 1) := by decide +kernel
theorem d_Law_243 : decode mt_Law.2.1 243 = .ok (.aload_n 1, 1) := by decide +kernel
theorem d_Law_244 : decode mt_Law.2.1 244 = .ok (.aload_n 0, 1) := by decide +kernel
theorem d_Law_245 : decode mt_Law.2.1 245 = .ok (.iload_n 3, 1) := by decide +kernel
theorem d_Law_246 : decode mt_Law.2.1 246 = .ok (.iconst 1, 1) := by decide +kernel
theorem d_Law_247 : decode mt_Law.2.1 247 = .ok (.iadd, 1) := by decide +kernel
theorem d_Law_248 : decode mt_Law.2.1 248 = .ok (.iaload, 1) := by decide +kernel
theorem d_Law_249 : decode mt_Law.2.1 249 = .ok (.aload_n 0, 1) := by decide +kernel
theorem d_Law_250 : decode mt_Law.2.1 250 = .ok (.iload_n 3, 1) := by decide +kernel
theorem d_Law_251 : decode mt_Law.2.1 251 = .ok (.iconst 2, 1) := by decide +kernel
theorem d_Law_252 : decode mt_Law.2.1 252 = .ok (.iadd, 1) := by decide +kernel
theorem d_Law_253 : decode mt_Law.2.1 253 = .ok (.iaload, 1) := by decide +kernel
theorem d_Law_254 : decode mt_Law.2.1 254 = .ok (.aload_n 0, 1) := by decide +kernel
theorem d_Law_255 : decode mt_Law.2.1 255 = .ok (.iload_n 3, 1) := by decide +kernel
theorem d_Law_256 : decode mt_Law.2.1 256 = .ok (.iconst 3, 1) := by decide +kernel
theorem d_Law_257 : decode mt_Law.2.1 257 = .ok (.iadd, 1) := by decide +kernel
theorem d_Law_258 : decode mt_Law.2.1 258 = .ok (.iaload, 1) := by decide +kernel
theorem d_Law_259 : decode mt_Law.2.1 259 = .ok (.aload_n 0, 1) := by decide +kernel
theorem d_Law_260 : decode mt_Law.2.1 260 = .ok (.iload_n 3, 1) := by decide +kernel
theorem d_Law_261 : decode mt_Law.2.1 261 = .ok (.iconst 4, 1) := by decide +kernel
theorem d_Law_262 : decode mt_Law.2.1 262 = .ok (.iadd, 1) := by decide +kernel
theorem d_Law_263 : decode mt_Law.2.1 263 = .ok (.iaload, 1) := by decide +kernel
theorem d_Law_264 : decode mt_Law.2.1 264 = .ok (.aload_n 0, 1) := by decide +kernel
theorem d_Law_265 : decode mt_Law.2.1 265 = .ok (.iload_n 3, 1) := by decide +kernel
theorem d_Law_266 : decode mt_Law.2.1 266 = .ok (.iconst 5, 1) := by decide +kernel
theorem d_Law_267 : decode mt_Law.2.1 267 = .ok (.iadd, 1) := by decide +kernel
theorem d_Law_268 : decode mt_Law.2.1 268 = .ok (.iaload, 1) := by decide +kernel
theorem d_Law_269 : decode mt_Law.2.1 269 = .ok (.aload_n 0, 1) := by decide +kernel
theorem d_Law_270 : decode mt_Law.2.1 270 = .ok (.iload_n 3, 1) := by decide +kernel
theorem d_Law_271 : decode mt_Law.2.1 271 = .ok (.bipush 6, 2) := by decide +kernel
theorem d_Law_273 : decode mt_Law.2.1 273 = .ok (.iadd, 1) := by decide +kernel
theorem d_Law_274 : decode mt_Law.2.1 274 = .ok (.iaload, 1) := by decide +kernel
theorem d_Law_275 : decode mt_Law.2.1 275 = .ok (.aload_n 0, 1) := by decide +kernel
theorem d_Law_276 : decode mt_Law.2.1 276 = .ok (.iload_n 3, 1) := by decide +kernel
theorem d_Law_277 : decode mt_Law.2.1 277 = .ok (.bipush 7, 2) := by decide +kernel
theorem d_Law_279 : decode mt_Law.2.1 279 = .ok (.iadd, 1) := by decide +kernel
theorem d_Law_280 : decode mt_Law.2.1 280 = .ok (.iaload, 1) := by decide +kernel
theorem d_Law_281 : decode mt_Law.2.1 281 = .ok (.aload_n 0, 1) := by decide +kernel
theorem d_Law_282 : decode mt_Law.2.1 282 = .ok (.iload_n 3, 1) := by decide +kernel
theorem d_Law_283 : decode mt_Law.2.1 283 = .ok (.bipush 8, 2) := by decide +kernel
theorem d_Law_285 : decode mt_Law.2.1 285 = .ok (.iadd, 1) := by decide +kernel
theorem d_Law_286 : decode mt_Law.2.1 286 = .ok (.iaload, 1) := by decide +kernel
theorem d_Law_287 : decode mt_Law.2.1 287 = .ok (.invokevirtual 27, 3) := by decide +kernel
theorem d_Law_290 : decode mt_Law.2.1 290 = .ok (.aload_n 2, 1) := by decide +kernel
theorem d_Law_291 : decode mt_Law.2.1 291 = .ok (.aload_n 0, 1) := by decide +kernel
theorem d_Law_292 : decode mt_Law.2.1 292 = .ok (.iload_n 3, 1) := by decide +kernel
theorem d_Law_293 : decode mt_Law.2.1 293 = .ok (.iconst 1, 1) := by decide +kernel
theorem d_Law_294 : decode mt_Law.2.1 294 = .ok (.iadd, 1) := by decide +kernel
theorem d_Law_295 : decode mt_Law.2.1 295 = .ok (.iaload, 1) := by decide +kernel
theorem d_Law_296 : decode mt_Law.2.1 296 = .ok (.aload_n 0, 1) := by decide +kernel
theorem d_Law_297 : decode mt_Law.2.1 297 = .ok (.iload_n 3, 1) := by decide +kernel
theorem d_Law_298 : decode mt_Law.2.1 298 = .ok (.iconst 2, 1) := by decide +kernel
theorem d_Law_299 : decode mt_Law.2.1 299 = .ok (.iadd, 1) := by decide +kernel
theorem d_Law_300 : decode mt_Law.2.1 300 = .ok (.iaload, 1) := by decide +kernel
theorem d_Law_301 : decode mt_Law.2.1 301 = .ok (.aload_n 0, 1) := by decide +kernel
theorem d_Law_302 : decode mt_Law.2.1 302 = .ok (.iload_n 3, 1) := by decide +kernel
theorem d_Law_303 : decode mt_Law.2.1 303 = .ok (.iconst 3, 1) := by decide +kernel
theorem d_Law_304 : decode mt_Law.2.1 304 = .ok (.iadd, 1) := by decide +kernel
theorem d_Law_305 : decode mt_Law.2.1 305 = .ok (.iaload, 1) := by decide +kernel
theorem d_Law_306 : decode mt_Law.2.1 306 = .ok (.aload_n 0, 1) := by decide +kernel
theorem d_Law_307 : decode mt_Law.2.1 307 = .ok (.iload_n 3, 1) := by decide +kernel
theorem d_Law_308 : decode mt_Law.2.1 308 = .ok (.iconst 4, 1) := by decide +kernel
theorem d_Law_309 : decode mt_Law.2.1 309 = .ok (.iadd, 1) := by decide +kernel
theorem d_Law_310 : decode mt_Law.2.1 310 = .ok (.iaload, 1) := by decide +kernel
theorem d_Law_311 : decode mt_Law.2.1 311 = .ok (.aload_n 0, 1) := by decide +kernel
theorem d_Law_312 : decode mt_Law.2.1 312 = .ok (.iload_n 3, 1) := by decide +kernel
theorem d_Law_313 : decode mt_Law.2.1 313 = .ok (.iconst 5, 1) := by decide +kernel
theorem d_Law_314 : decode mt_Law.2.1 314 = .ok (.iadd, 1) := by decide +kernel
theorem d_Law_315 : decode mt_Law.2.1 315 = .ok (.iaload, 1) := by decide +kernel
theorem d_Law_316 : decode mt_Law.2.1 316 = .ok (.aload_n 0, 1) := by decide +kernel
theorem d_Law_317 : decode mt_Law.2.1 317 = .ok (.iload_n 3, 1) := by decide +kernel
theorem d_Law_318 : decode mt_Law.2.1 318 = .ok (.bipush 6, 2) := by decide +kernel
theorem d_Law_320 : decode mt_Law.2.1 320 = .ok (.iadd, 1) := by decide +kernel
theorem d_Law_321 : decode mt_Law.2.1 321 = .ok (.iaload, 1) := by decide +kernel
theorem d_Law_322 : decode mt_Law.2.1 322 = .ok (.aload_n 0, 1) := by decide +kernel
theorem d_Law_323 : decode mt_Law.2.1 323 = .ok (.iload_n 3, 1) := by decide +kernel
theorem d_Law_324 : decode mt_Law.2.1 324 = .ok (.bipush 7, 2) := by decide +kernel
theorem d_Law_326 : decode mt_Law.2.1 326 = .ok (.iadd, 1) := by decide +kernel
theorem d_Law_327 : decode mt_Law.2.1 327 = .ok (.iaload, 1) := by decide +kernel
theorem d_Law_328 : decode mt_Law.2.1 328 = .ok (.aload_n 0, 1) := by decide +kernel
theorem d_Law_329 : decode mt_Law.2.1 329 = .ok (.iload_n 3, 1) := by decide +kernel
theorem d_Law_330 : decode mt_Law.2.1 330 = .ok (.bipush 8, 2) := by decide +kernel
theorem d_Law_332 : decode mt_Law.2.1 332 = .ok (.iadd, 1) := by decide +kernel
theorem d_Law_333 : decode mt_Law.2.1 333 = .ok (.iaload, 1) := by decide +kernel
theorem d_Law_334 : decode mt_Law.2.1 334 = .ok (.invokevirtual 31, 3) := by decide +kernel
theorem d_Law_337 : decode mt_Law.2.1 337 = .ok (.if_icmp .eq 586, 3) := by decide +kernel
theorem d_Law_340 : decode mt_Law.2.1 340 = .ok (.iconst 0, 1) := by decide +kernel
theorem d_Law_341 : decode mt_Law.2.1 341 = .ok (.ireturn, 1) := by decide +kernel
theorem d_Law_342 : decode mt_Law.2.1 342 = .ok (.aload_n 1, 1) := by decide +kernel
theorem d_Law_343 : decode mt_Law.2.1 343 = .ok (.aload_n 0, 1) := by decide +kernel
theorem d_Law_344 : decode mt_Law.2.1 344 = .ok (.iload_n 3, 1) := by decide +kernel
theorem d_Law_345 : decode mt_Law.2.1 345 = .ok (.iconst 1, 1) := by decide +kernel
theorem d_Law_346 : decode mt_Law.2.1 346 = .ok (.iadd, 1) := by decide +kernel
theorem d_Law_347 : decode mt_Law.2.1 347 = .ok (.iaload, 1) := by decide +kernel
theorem d_Law_348 : decode mt_Law.2.1 348 = .ok (.invokevirtual 32, 3) := by decide +kernel
theorem d_Law_351 : decode mt_Law.2.1 351 = .ok (.aload_n 2, 1) := by decide +kernel
theorem d_Law_352 : decode mt_Law.2.1 352 = .ok (.aload_n 0, 1) := by decide +kernel
theorem d_Law_353 : decode mt_Law.2.1 353 = .ok (.iload_n 3, 1) := by decide +kernel
theorem d_Law_354 : decode mt_Law.2.1 354 = .ok (.iconst 1, 1) := by decide +kernel
theorem d_Law_355 : decode mt_Law.2.1 355 = .ok (.iadd, 1) := by decide +kernel
theorem d_Law_356 : decode mt_Law.2.1 356 = .ok (.iaload, 1) := by decide +kernel
theorem d_Law_357 : decode mt_Law.2.1 357 = .ok (.invokevirtual 36, 3) := by decide +kernel
theorem d_Law_360 : decode mt_Law.2.1 360 = .ok (.if_icmp .eq 563, 3) := by decide +kernel
theorem d_Law_363 : decode mt_Law.2.1 363 = .ok (.iconst 0, 1) := by decide +kernel
theorem d_Law_364 : decode mt_Law.2.1 364 = .ok (.ireturn, 1) := by decide +kernel
theorem d_Law_365 : decode mt_Law.2.1 365 = .ok (.aload_n 1, 1) := by decide +kernel
theorem d_Law_366 : decode mt_Law.2.1 366 = .ok (.aload_n 0, 1) := by decide +kernel
theorem d_Law_367 : decode mt_Law.2.1 367 = .ok (.iload_n 3, 1) := by decide +kernel
theorem d_Law_368 : decode mt_Law.2.1 368 = .ok (.iconst 1, 1) := by decide +kernel
theorem d_Law_369 : decode mt_Law.2.1 369 = .ok (.iadd, 1) := by decide +kernel
theorem d_Law_370 : decode mt_Law.2.1 370 = .ok (.iaload, 1) := by decide +kernel
theorem d_Law_371 : decode mt_Law.2.1 371 = .ok (.aload_n 0, 1) := by decide +kernel
theorem d_Law_372 : decode mt_Law.2.1 372 = .ok (.iload_n 3, 1) := by decide +kernel
theorem d_Law_373 : decode mt_Law.2.1 373 = .ok (.iconst 2, 1) := by decide +kernel
theorem d_Law_374 : decode mt_Law.2.1 374 = .ok (.iadd, 1) := by decide +kernel
theorem d_Law_375 : decode mt_Law.2.1 375 = .ok (.iaload, 1) := by decide +kernel
theorem d_Law_376 : decode mt_Law.2.1 376 = .ok (.aload_n 0, 1) := by decide +kernel
theorem d_Law_377 : decode mt_Law.2.1 377 = .ok (.iload_n 3, 1) := by decide +kernel
theorem d_Law_378 : decode mt_Law.2.1 378 = .ok (.iconst 3, 1) := by decide +kernel
theorem d_Law_379 : decode mt_Law.2.1 379 = .ok (.iadd, 1) := by decide +kernel
theorem d_Law_380 : decode mt_Law.2.1 380 = .ok (.iaload, 1) := by decide +kernel
theorem d_Law_381 : decode mt_Law.2.1 381 = .ok (.aload_n 0, 1) := by decide +kernel
theorem d_Law_382 : decode mt_Law.2.1 382 = .ok (.iload_n 3, 1) := by decide +kernel
theorem d_Law_383 : decode mt_Law.2.1 383 = .ok (.iconst 4, 1) := by decide +kernel
theorem d_Law_384 : decode mt_Law.2.1 384 = .ok (.iadd, 1) := by decide +kernel
theorem d_Law_385 : decode mt_Law.2.1 385 = .ok (.iaload, 1) := by decide +kernel
theorem d_Law_386 : decode mt_Law.2.1 386 = .ok (.aload_n 0, 1) := by decide +kernel
theorem d_Law_387 : decode mt_Law.2.1 387 = .ok (.iload_n 3, 1) := by decide +kernel
theorem d_Law_388 : decode mt_Law.2.1 388 = .ok (.iconst 5, 1) := by decide +kernel
theorem d_Law_389 : decode mt_Law.2.1 389 = .ok (.iadd, 1) := by decide +kernel
theorem d_Law_390 : decode mt_Law.2.1 390 = .ok (.iaload, 1) := by decide +kernel
theorem d_Law_391 : decode mt_Law.2.1 391 = .ok (.invokevirtual 37, 3) := by decide +kernel
theorem d_Law_394 : decode mt_Law.2.1 394 = .ok (.aload_n 2, 1) := by decide +kernel
theorem d_Law_395 : decode mt_Law.2.1 395 = .ok (.aload_n 0, 1) := by decide +kernel
theorem d_Law_396 : decode mt_Law.2.1 396 = .ok (.iload_n 3, 1) := by decide +kernel
theorem d_Law_397 : decode mt_Law.2.1 397 = .ok (.iconst 1, 1) := by decide +kernel
theorem d_Law_398 : decode mt_Law.2.1 398 = .ok (.iadd, 1) := by decide +kernel
theorem d_Law_399 : decode mt_Law.2.1 399 = .ok (.iaload, 1) := by decide +kernel
theorem d_Law_400 : decode mt_Law.2.1 400 = .ok (.aload_n 0, 1) := by decide +kernel
theorem d_Law_401 : decode mt_Law.2.1 401 = .ok (.iload_n 3, 1) := by decide +kernel
theorem d_Law_402 : decode mt_Law.2.1 402 = .ok (.iconst 2, 1) := by decide +kernel
theorem d_Law_403 : decode mt_Law.2.1 403 = .ok (.iadd, 1) := by decide +kernel
theorem d_Law_404 : decode mt_Law.2.1 404 = .ok (.iaload, 1) := by decide +kernel
theorem d_Law_405 : decode mt_Law.2.1 405 = .ok (.aload_n 0, 1) := by decide +kernel
theorem d_Law_406 : decode mt_Law.2.1 406 = .ok (.iload_n 3, 1) := by decide +kernel
theorem d_Law_407 : decode mt_Law.2.1 407 = .ok (.iconst 3, 1) := by decide +kernel
theorem d_Law_408 : decode mt_Law.2.1 408 = .ok (.iadd, 1) := by decide +kernel
theorem d_Law_409 : decode mt_Law.2.1 409 = .ok (.iaload, 1) := by decide +kernel
theorem d_Law_410 : decode mt_Law.2.1 410 = .ok (.aload_n 0, 1) := by decide +kernel
theorem d_Law_411 : decode mt_Law.2.1 411 = .ok (.iload_n 3, 1) := by decide +kernel
theorem d_Law_412 : decode mt_Law.2.1 412 = .ok (.iconst 4, 1) := by decide +kernel
theorem d_Law_413 : decode mt_Law.2.1 413 = .ok (.iadd, 1) := by decide +kernel
theorem d_Law_414 : decode mt_Law.2.1 414 = .ok (.iaload, 1) := by decide +kernel
theorem d_Law_415 : decode mt_Law.2.1 415 = .ok (.aload_n 0, 1) := by decide +kernel
theorem d_Law_416 : decode mt_Law.2.1 416 = .ok (.iload_n 3, 1) := by decide +kernel
theorem d_Law_417 : decode mt_Law.2.1 417 = .ok (.iconst 5, 1) := by decide +kernel
theorem d_Law_418 : decode mt_Law.2.1 418 = .ok (.iadd, 1) := by decide +kernel
theorem d_Law_419 : decode mt_Law.2.1 419 = .ok (.iaload, 1) := by decide +kernel
theorem d_Law_420 : decode mt_Law.2.1 420 = .ok (.invokevirtual 41, 3) := by decide +kernel
theorem d_Law_423 : decode mt_Law.2.1 423 = .ok (.if_icmp .eq 500, 3) := by decide +kernel
theorem d_Law_426 : decode mt_Law.2.1 426 = .ok (.iconst 0, 1) := by decide +kernel
theorem d_Law_427 : decode mt_Law.2.1 427 = .ok (.ireturn, 1) := by decide +kernel
theorem d_Law_428 : decode mt_Law.2.1 428 = .ok (.aload_n 1, 1) := by decide +kernel
theorem d_Law_429 : decode mt_Law.2.1 429 = .ok (.aload_n 0, 1) := by decide +kernel
theorem d_Law_430 : decode mt_Law.2.1 430 = .ok (.iload_n 3, 1) := by decide +kernel
theorem d_Law_431 : decode mt_Law.2.1 431 = .ok (.iconst 1, 1) := by decide +kernel
theorem d_Law_432 : decode mt_Law.2.1 432 = .ok (.iadd, 1) := by decide +kernel
theorem d_Law_433 : decode mt_Law.2.1 433 = .ok (.iaload, 1) := by decide +kernel
theorem d_Law_434 : decode mt_Law.2.1 434 = .ok (.invokevirtual 42, 3) := by decide +kernel
theorem d_Law_437 : decode mt_Law.2.1 437 = .ok (.aload_n 2, 1) := by decide +kernel
theorem d_Law_438 : decode mt_Law.2.1 438 = .ok (.aload_n 0, 1) := by decide +kernel
theorem d_Law_439 : decode mt_Law.2.1 439 = .ok (.iload_n 3, 1) := by decide +kernel
theorem d_Law_440 : decode mt_Law.2.1 440 = .ok (.iconst 1, 1) := by decide +kernel
theorem d_Law_441 : decode mt_Law.2.1 441 = .ok (.iadd, 1) := by decide +kernel
theorem d_Law_442 : decode mt_Law.2.1 442 = .ok (.iaload, 1) := by decide +kernel
theorem d_Law_443 : decode mt_Law.2.1 443 = .ok (.invokevirtual 46, 3) := by decide +kernel
theorem d_Law_446 : decode mt_Law.2.1 446 = .ok (.if_icmp .eq 477, 3) := by decide +kernel
theorem d_Law_449 : decode mt_Law.2.1 449 = .ok (.iconst 0, 1) := by decide +kernel
theorem d_Law_450 : decode mt_Law.2.1 450 = .ok (.ireturn, 1) := by decide +kernel
theorem d_Law_451 : decode mt_Law.2.1 451 = .ok (.aload_n 1, 1) := by decide +kernel
theorem d_Law_452 : decode mt_Law.2.1 452 = .ok (.invokevirtual 47, 3) := by decide +kernel
theorem d_Law_455 : decode mt_Law.2.1 455 = .ok (.aload_n 2, 1) := by decide +kernel
theorem d_Law_456 : decode mt_Law.2.1 456 = .ok (.invokevirtual 51, 3) := by decide +kernel
theorem d_Law_459 : decode mt_Law.2.1 459 = .ok (.if_icmp .eq 464, 3) := by decide +kernel
theorem d_Law_462 : decode mt_Law.2.1 462 = .ok (.iconst 0, 1) := by decide +kernel
theorem d_Law_463 : decode mt_Law.2.1 463 = .ok (.ireturn, 1) := by decide +kernel
theorem d_Law_464 : decode mt_Law.2.1 464 = .ok (.aload_n 1, 1) := by decide +kernel
theorem d_Law_465 : decode mt_Law.2.1 465 = .ok (.aload_n 0, 1) := by decide +kernel
theorem d_Law_466 : decode mt_Law.2.1 466 = .ok (.iload_n 3, 1) := by decide +kernel
theorem d_Law_467 : decode mt_Law.2.1 467 = .ok (.iconst 1, 1) := by decide +kernel
theorem d_Law_468 : decode mt_Law.2.1 468 = .ok (.iadd, 1) := by decide +kernel
theorem d_Law_469 : decode mt_Law.2.1 469 = .ok (.iaload, 1) := by decide +kernel
theorem d_Law_470 : decode mt_Law.2.1 470 = .ok (.invokevirtual 52, 3) := by decide +kernel
theorem d_Law_473 : decode mt_Law.2.1 473 = .ok (.aload_n 2, 1) := by decide +kernel
theorem d_Law_474 : decode mt_Law.2.1 474 = .ok (.aload_n 0, 1) := by decide +kernel
theorem d_Law_475 : decode mt_Law.2.1 475 = .ok (.iload_n 3, 1) := by decide +kernel
theorem d_Law_476 : decode mt_Law.2.1 476 = .ok (.iconst 1, 1) := by decide +kernel
theorem d_Law_477 : decode mt_Law.2.1 477 = .ok (.iadd, 1) := by decide +kernel
theorem d_Law_478 : decode mt_Law.2.1 478 = .ok (.iaload, 1) := by decide +kernel
theorem d_Law_479 : decode mt_Law.2.1 479 = .ok (.invokevirtual 55, 3) := by decide +kernel
theorem d_Law_482 : decode mt_Law.2.1 482 = .ok (.if_icmp .eq 441, 3) := by decide +kernel
theorem d_Law_485 : decode mt_Law.2.1 485 = .ok (.iconst 0, 1) := by decide +kernel
theorem d_Law_486 : decode mt_Law.2.1 486 = .ok (.ireturn, 1) := by decide +kernel
theorem d_Law_487 : decode mt_Law.2.1 487 = .ok (.aload_n 1, 1) := by decide +kernel
theorem d_Law_488 : decode mt_Law.2.1 488 = .ok (.aload_n 0, 1) := by decide +kernel
theorem d_Law_489 : decode mt_Law.2.1 489 = .ok (.iload_n 3, 1) := by decide +kernel
theorem d_Law_490 : decode mt_Law.2.1 490 = .ok (.iconst 1, 1) := by decide +kernel
theorem d_Law_491 : decode mt_Law.2.1 491 = .ok (.iadd, 1) := by decide +kernel
theorem d_Law_492 : decode mt_Law.2.1 492 = .ok (.iaload, 1) := by decide +kernel
theorem d_Law_493 : decode mt_Law.2.1 493 = .ok (.invokevirtual 56, 3) := by decide +kernel
theorem d_Law_496 : decode mt_Law.2.1 496 = .ok (.aload_n 2, 1) := by decide +kernel
theorem d_Law_497 : decode mt_Law.2.1 497 = .ok (.aload_n 0, 1) := by decide +kernel
theorem d_Law_498 : decode mt_Law.2.1 498 = .ok (.iload_n 3, 1) := by decide +kernel
theorem d_Law_499 : decode mt_Law.2.1 499 = .ok (.iconst 1, 1) := by decide +kernel
theorem d_Law_500 : decode mt_Law.2.1 500 = .ok (.iadd, 1) := by decide +kernel
theorem d_Law_501 : decode mt_Law.2.1 501 = .ok (.iaload, 1) := by decide +kernel
theorem d_Law_502 : decode mt_Law.2.1 502 = .ok (.invokevirtual 59, 3) := by decide +kernel
theorem d_Law_505 : decode mt_Law.2.1 505 = .ok (.if_icmp .eq 418, 3) := by decide +kernel
theorem d_Law_508 : decode mt_Law.2.1 508 = .ok (.iconst 0, 1) := by decide +kernel
theorem d_Law_509 : decode mt_Law.2.1 509 = .ok (.ireturn, 1) := by decide +kernel
theorem d_Law_510 : decode mt_Law.2.1 510 = .ok (.aload_n 1, 1) := by decide +kernel
theorem d_Law_511 : decode mt_Law.2.1 511 = .ok (.aload_n 0, 1) := by decide +kernel
theorem d_Law_512 : decode mt_Law.2.1 512 = .ok (.iload_n 3, 1) := by decide +kernel
theorem d_Law_513 : decode mt_Law.2.1 513 = .ok (.iconst 1, 1) := by decide +kernel
theorem d_Law_514 : decode mt_Law.2.1 514 = .ok (.iadd, 1) := by decide +kernel
theorem d_Law_515 : decode mt_Law.2.1 515 = .ok (.iaload, 1) := by decide +kernel
theorem d_Law_516 : decode mt_Law.2.1 516 = .ok (.aload_n 0, 1) := by decide +kernel
theorem d_Law_517 : decode mt_Law.2.1 517 = .ok (.iload_n 3, 1) := by decide +kernel
theorem d_Law_518 : decode mt_Law.2.1 518 = .ok (.iconst 2, 1) := by decide +kernel
theorem d_Law_519 : decode mt_Law.2.1 519 = .ok (.iadd, 1) := by decide +kernel
theorem d_Law_520 : decode mt_Law.2.1 520 = .ok (.iaload, 1) := by decide +kernel
theorem d_Law_521 : decode mt_Law.2.1 521 = .ok (.invokevirtual 60, 3) := by decide +kernel
theorem d_Law_524 : decode mt_Law.2.1 524 = .ok (.aload_n 2, 1) := by decide +kernel
theorem d_Law_525 : decode mt_Law.2.1 525 = .ok (.aload_n 0, 1) := by decide +kernel
theorem d_Law_526 : decode mt_Law.2.1 526 = .ok (.iload_n 3, 1) := by decide +kernel
theorem d_Law_527 : decode mt_Law.2.1 527 = .ok (.iconst 1, 1) := by decide +kernel
theorem d_Law_528 : decode mt_Law.2.1 528 = .ok (.iadd, 1) := by decide +kernel
theorem d_Law_529 : decode mt_Law.2.1 529 = .ok (.iaload, 1) := by decide +kernel
theorem d_Law_530 : decode mt_Law.2.1 530 = .ok (.aload_n 0, 1) := by decide +kernel
theorem d_Law_531 : decode mt_Law.2.1 531 = .ok (.iload_n 3, 1) := by decide +kernel
theorem d_Law_532 : decode mt_Law.2.1 532 = .ok (.iconst 2, 1) := by decide +kernel
theorem d_Law_533 : decode mt_Law.2.1 533 = .ok (.iadd, 1) := by decide +kernel
theorem d_Law_534 : decode mt_Law.2.1 534 = .ok (.iaload, 1) := by decide +kernel
theorem d_Law_535 : decode mt_Law.2.1 535 = .ok (.invokevirtual 63, 3) := by decide +kernel
theorem d_Law_538 : decode mt_Law.2.1 538 = .ok (.if_icmp .eq 385, 3) := by decide +kernel
theorem d_Law_541 : decode mt_Law.2.1 541 = .ok (.iconst 0, 1) := by decide +kernel
theorem d_Law_542 : decode mt_Law.2.1 542 = .ok (.ireturn, 1) := by decide +kernel
theorem d_Law_543 : decode mt_Law.2.1 543 = .ok (.aload_n 1, 1) := by decide +kernel
theorem d_Law_544 : decode mt_Law.2.1 544 = .ok (.aload_n 0, 1) := by decide +kernel
theorem d_Law_545 : decode mt_Law.2.1 545 = .ok (.iload_n 3, 1) := by decide +kernel
theorem d_Law_546 : decode mt_Law.2.1 546 = .ok (.iconst 1, 1) := by decide +kernel
theorem d_Law_547 : decode mt_Law.2.1 547 = .ok (.iadd, 1) := by decide +kernel
theorem d_Law_548 : decode mt_Law.2.1 548 = .ok (.iaload, 1) := by decide +kernel
theorem d_Law_549 : decode mt_Law.2.1 549 = .ok (.aload_n 0, 1) := by decide +kernel
theorem d_Law_550 : decode mt_Law.2.1 550 = .ok (.iload_n 3, 1) := by decide +kernel
theorem d_Law_551 : decode mt_Law.2.1 551 = .ok (.iconst 2, 1) := by decide +kernel
theorem d_Law_552 : decode mt_Law.2.1 552 = .ok (.iadd, 1) := by decide +kernel
theorem d_Law_553 : decode mt_Law.2.1 553 = .ok (.iaload, 1) := by decide +kernel
theorem d_Law_554 : decode mt_Law.2.1 554 = .ok (.invokevirtual 64, 3) := by decide +kernel
theorem d_Law_557 : decode mt_Law.2.1 557 = .ok (.aload_n 2, 1) := by decide +kernel
theorem d_Law_558 : decode mt_Law.2.1 558 = .ok (.aload_n 0, 1) := by decide +kernel
theorem d_Law_559 : decode mt_Law.2.1 559 = .ok (.iload_n 3, 1) := by decide +kernel
theorem d_Law_560 : decode mt_Law.2.1 560 = .ok (.iconst 1, 1) := by decide +kernel
theorem d_Law_561 : decode mt_Law.2.1 561 = .ok (.iadd, 1) := by decide +kernel
theorem d_Law_562 : decode mt_Law.2.1 562 = .ok (.iaload, 1) := by decide +kernel
theorem d_Law_563 : decode mt_Law.2.1 563 = .ok (.aload_n 0, 1) := by decide +kernel
theorem d_Law_564 : decode mt_Law.2.1 564 = .ok (.iload_n 3, 1) := by decide +kernel
theorem d_Law_565 : decode mt_Law.2.1 565 = .ok (.iconst 2, 1) := by decide +kernel
theorem d_Law_566 : decode mt_Law.2.1 566 = .ok (.iadd, 1) := by decide +kernel
theorem d_Law_567 : decode mt_Law.2.1 567 = .ok (.iaload, 1) := by decide +kernel
theorem d_Law_568 : decode mt_Law.2.1 568 = .ok (.invokevirtual 67, 3) := by decide +kernel
theorem d_Law_571 : decode mt_Law.2.1 571 = .ok (.if_icmp .eq 352, 3) := by decide +kernel
theorem d_Law_574 : decode mt_Law.2.1 574 = .ok (.iconst 0, 1) := by decide +kernel
theorem d_Law_575 : decode mt_Law.2.1 575 = .ok (.ireturn, 1) := by decide +kernel
theorem d_Law_576 : decode mt_Law.2.1 576 = .ok (.aload_n 1, 1) := by decide +kernel
theorem d_Law_577 : decode mt_Law.2.1 577 = .ok (.aload_n 0, 1) := by decide +kernel
theorem d_Law_578 : decode mt_Law.2.1 578 = .ok (.iload_n 3, 1) := by decide +kernel
theorem d_Law_579 : decode mt_Law.2.1 579 = .ok (.iconst 1, 1) := by decide +kernel
theorem d_Law_580 : decode mt_Law.2.1 580 = .ok (.iadd, 1) := by decide +kernel
theorem d_Law_581 : decode mt_Law.2.1 581 = .ok (.iaload, 1) := by decide +kernel
theorem d_Law_582 : decode mt_Law.2.1 582 = .ok (.aload_n 0, 1) := by decide +kernel
theorem d_Law_583 : decode mt_Law.2.1 583 = .ok (.iload_n 3, 1) := by decide +kernel
theorem d_Law_584 : decode mt_Law.2.1 584 = .ok (.iconst 2, 1) := by decide +kernel
theorem d_Law_585 : decode mt_Law.2.1 585 = .ok (.iadd, 1) := by decide +kernel
theorem d_Law_586 : decode mt_Law.2.1 586 = .ok (.iaload, 1) := by decide +kernel
theorem d_Law_587 : decode mt_Law.2.1 587 = .ok (.aload_n 0, 1) := by decide +kernel
theorem d_Law_588 : decode mt_Law.2.1 588 = .ok (.iload_n 3, 1) := by decide +kernel
theorem d_Law_589 : decode mt_Law.2.1 589 = .ok (.iconst 3, 1) := by decide +kernel
theorem d_Law_590 : decode mt_Law.2.1 590 = .ok (.iadd, 1) := by decide +kernel
theorem d_Law_591 : decode mt_Law.2.1 591 = .ok (.iaload, 1) := by decide +kernel
theorem d_Law_592 : decode mt_Law.2.1 592 = .ok (.aload_n 0, 1) := by decide +kernel
theorem d_Law_593 : decode mt_Law.2.1 593 = .ok (.iload_n 3, 1) := by decide +kernel
theorem d_Law_594 : decode mt_Law.2.1 594 = .ok (.iconst 4, 1) := by decide +kernel
theorem d_Law_595 : decode mt_Law.2.1 595 = .ok (.iadd, 1) := by decide +kernel
theorem d_Law_596 : decode mt_Law.2.1 596 = .ok (.iaload, 1) := by decide +kernel
theorem d_Law_597 : decode mt_Law.2.1 597 = .ok (.invokevirtual 68, 3) := by decide +kernel
theorem d_Law_600 : decode mt_Law.2.1 600 = .ok (.aload_n 2, 1) := by decide +kernel
theorem d_Law_601 : decode mt_Law.2.1 601 = .ok (.aload_n 0, 1) := by decide +kernel
theorem d_Law_602 : decode mt_Law.2.1 602 = .ok (.iload_n 3, 1) := by decide +kernel
theorem d_Law_603 : decode mt_Law.2.1 603 = .ok (.iconst 1, 1) := by decide +kernel
theorem d_Law_604 : decode mt_Law.2.1 604 = .ok (.iadd, 1) := by decide +kernel
theorem d_Law_605 : decode mt_Law.2.1 605 = .ok (.iaload, 1) := by decide +kernel
theorem d_Law_606 : decode mt_Law.2.1 606 = .ok (.aload_n 0, 1) := by decide +kernel
theorem d_Law_607 : decode mt_Law.2.1 607 = .ok (.iload_n 3, 1) := by decide +kernel
theorem d_Law_608 : decode mt_Law.2.1 608 = .ok (.iconst 2, 1) := by decide +kernel
theorem d_Law_609 : decode mt_Law.2.1 609 = .ok (.iadd, 1) := by decide +kernel
theorem d_Law_610 : decode mt_Law.2.1 610 = .ok (.iaload, 1) := by decide +kernel
theorem d_Law_611 : decode mt_Law.2.1 611 = .ok (.aload_n 0, 1) := by decide +kernel
theorem d_Law_612 : decode mt_Law.2.1 612 = .ok (.iload_n 3, 1) := by decide +kernel
theorem d_Law_613 : decode mt_Law.2.1 613 = .ok (.iconst 3, 1) := by decide +kernel
theorem d_Law_614 : decode mt_Law.2.1 614 = .ok (.iadd, 1) := by decide +kernel
theorem d_Law_615 : decode mt_Law.2.1 615 = .ok (.iaload, 1) := by decide +kernel
theorem d_Law_616 : decode mt_Law.2.1 616 = .ok (.aload_n 0, 1) := by decide +kernel
theorem d_Law_617 : decode mt_Law.2.1 617 = .ok (.iload_n 3, 1) := by decide +kernel
theorem d_Law_618 : decode mt_Law.2.1 618 = .ok (.iconst 4, 1) := by decide +kernel
theorem d_Law_619 : decode mt_Law.2.1 619 = .ok (.iadd, 1) := by decide +kernel
theorem d_Law_620 : decode mt_Law.2.1 620 = .ok (.iaload, 1) := by decide +kernel
theorem d_Law_621 : decode mt_Law.2.1 621 = .ok (.invokevirtual 72, 3) := by decide +kernel
theorem d_Law_624 : decode mt_Law.2.1 624 = .ok (.if_icmp .eq 299, 3) := by decide +kernel
theorem d_Law_627 : decode mt_Law.2.1 627 = .ok (.iconst 0, 1) := by decide +kernel
theorem d_Law_628 : decode mt_Law.2.1 628 = .ok (.ireturn, 1) := by decide +kernel
theorem d_Law_629 : decode mt_Law.2.1 629 = .ok (.aload_n 1, 1) := by decide +kernel
theorem d_Law_630 : decode mt_Law.2.1 630 = .ok (.aload_n 0, 1) := by decide +kernel
theorem d_Law_631 : decode mt_Law.2.1 631 = .ok (.iload_n 3, 1) := by decide +kernel
theorem d_Law_632 : decode mt_Law.2.1 632 = .ok (.iconst 1, 1) := by decide +kernel
theorem d_Law_633 : decode mt_Law.2.1 633 = .ok (.iadd, 1) := by decide +kernel
theorem d_Law_634 : decode mt_Law.2.1 634 = .ok (.iaload, 1) := by decide +kernel
theorem d_Law_635 : decode mt_Law.2.1 635 = .ok (.aload_n 0, 1) := by decide +kernel
theorem d_Law_636 : decode mt_Law.2.1 636 = .ok (.iload_n 3, 1) := by decide +kernel
theorem d_Law_637 : decode mt_Law.2.1 637 = .ok (.iconst 2, 1) := by decide +kernel
theorem d_Law_638 : decode mt_Law.2.1 638 = .ok (.iadd, 1) := by decide +kernel
theorem d_Law_639 : decode mt_Law.2.1 639 = .ok (.iaload, 1) := by decide +kernel
theorem d_Law_640 : decode mt_Law.2.1 640 = .ok (.invokevirtual 73, 3) := by decide +kernel
theorem d_Law_643 : decode mt_Law.2.1 643 = .ok (.aload_n 2, 1) := by decide +kernel
theorem d_Law_644 : decode mt_Law.2.1 644 = .ok (.aload_n 0, 1) := by decide +kernel
theorem d_Law_645 : decode mt_Law.2.1 645 = .ok (.iload_n 3, 1) := by decide +kernel
theorem d_Law_646 : decode mt_Law.2.1 646 = .ok (.iconst 1, 1) := by decide +kernel
theorem d_Law_647 : decode mt_Law.2.1 647 = .ok (.iadd, 1) := by decide +kernel
theorem d_Law_648 : decode mt_Law.2.1 648 = .ok (.iaload, 1) := by decide +kernel
theorem d_Law_649 : decode mt_Law.2.1 649 = .ok (.aload_n 0, 1) := by decide +kernel
theorem d_Law_650 : decode mt_Law.2.1 650 = .ok (.iload_n 3, 1) := by decide +kernel
theorem d_Law_651 : decode mt_Law.2.1 651 = .ok (.iconst 2, 1) := by decide +kernel
theorem d_Law_652 : decode mt_Law.2.1 652 = .ok (.iadd, 1) := by decide +kernel
theorem d_Law_653 : decode mt_Law.2.1 653 = .ok (.iaload, 1) := by decide +kernel
theorem d_Law_654 : decode mt_Law.2.1 654 = .ok (.invokevirtual 76, 3) := by decide +kernel
theorem d_Law_657 : decode mt_Law.2.1 657 = .ok (.if_icmp .eq 266, 3) := by decide +kernel
theorem d_Law_660 : decode mt_Law.2.1 660 = .ok (.iconst 0, 1) := by decide +kernel
theorem d_Law_661 : decode mt_Law.2.1 661 = .ok (.ireturn, 1) := by decide +kernel
theorem d_Law_662 : decode mt_Law.2.1 662 = .ok (.aload_n 1, 1) := by decide +kernel
theorem d_Law_663 : decode mt_Law.2.1 663 = .ok (.aload_n 0, 1) := by decide +kernel
theorem d_Law_664 : decode mt_Law.2.1 664 = .ok (.iload_n 3, 1) := by decide +kernel
theorem d_Law_665 : decode mt_Law.2.1 665 = .ok (.iconst 1, 1) := by decide +kernel
theorem d_Law_666 : decode mt_Law.2.1 666 = .ok (.iadd, 1) := by decide +kernel
theorem d_Law_667 : decode mt_Law.2.1 667 = .ok (.iaload, 1) := by decide +kernel
theorem d_Law_668 : decode mt_Law.2.1 668 = .ok (.aload_n 0, 1) := by decide +kernel
theorem d_Law_669 : decode mt_Law.2.1 669 = .ok (.iload_n 3, 1) := by decide +kernel
theorem d_Law_670 : decode mt_Law.2.1 670 = .ok (.iconst 2, 1) := by decide +kernel
theorem d_Law_671 : decode mt_Law.2.1 671 = .ok (.iadd, 1) := by decide +kernel
theorem d_Law_672 : decode mt_Law.2.1 672 = .ok (.iaload, 1) := by decide +kernel
theorem d_Law_673 : decode mt_Law.2.1 673 = .ok (.invokevirtual 77, 3) := by decide +kernel
theorem d_Law_676 : decode mt_Law.2.1 676 = .ok (.aload_n 2, 1) := by decide +kernel
theorem d_Law_677 : decode mt_Law.2.1 677 = .ok (.aload_n 0, 1) := by decide +kernel
theorem d_Law_678 : decode mt_Law.2.1 678 = .ok (.iload_n 3, 1) := by decide +kernel
theorem d_Law_679 : decode mt_Law.2.1 679 = .ok (.iconst 1, 1) := by decide +kernel
theorem d_Law_680 : decode mt_Law.2.1 680 = .ok (.iadd, 1) := by decide +kernel
theorem d_Law_681 : decode mt_Law.2.1 681 = .ok (.iaload, 1) := by decide +kernel
theorem d_Law_682 : decode mt_Law.2.1 682 = .ok (.aload_n 0, 1) := by decide +kernel
theorem d_Law_683 : decode mt_Law.2.1 683 = .ok (.iload_n 3, 1) := by decide +kernel
theorem d_Law_684 : decode mt_Law.2.1 684 = .ok (.iconst 2, 1) := by decide +kernel
theorem d_Law_685 : decode mt_Law.2.1 685 = .ok (.iadd, 1) := by decide +kernel
theorem d_Law_686 : decode mt_Law.2.1 686 = .ok (.iaload, 1) := by decide +kernel
theorem d_Law_687 : decode mt_Law.2.1 687 = .ok (.invokevirtual 80, 3) := by decide +kernel
theorem d_Law_690 : decode mt_Law.2.1 690 = .ok (.if_icmp .eq 233, 3) := by decide +kernel
theorem d_Law_693 : decode mt_Law.2.1 693 = .ok (.iconst 0, 1) := by decide +kernel
theorem d_Law_694 : decode mt_Law.2.1 694 = .ok (.ireturn, 1) := by decide +kernel
theorem d_Law_695 : decode mt_Law.2.1 695 = .ok (.aload_n 1, 1) := by decide +kernel
theorem d_Law_696 : decode mt_Law.2.1 696 = .ok (.invokevirtual 81, 3) := by decide +kernel
theorem d_Law_699 : decode mt_Law.2.1 699 = .ok (.aload_n 2, 1) := by decide +kernel
theorem d_Law_700 : decode mt_Law.2.1 700 = .ok (.invokevirtual 84, 3) := by decide +kernel
theorem d_Law_703 : decode mt_Law.2.1 703 = .ok (.if_icmp .eq 220, 3) := by decide +kernel
theorem d_Law_706 : decode mt_Law.2.1 706 = .ok (.iconst 0, 1) := by decide +kernel
theorem d_Law_707 : decode mt_Law.2.1 707 = .ok (.ireturn, 1) := by decide +kernel
theorem d_Law_708 : decode mt_Law.2.1 708 = .ok (.aload_n 1, 1) := by decide +kernel
theorem d_Law_709 : decode mt_Law.2.1 709 = .ok (.aload_n 0, 1) := by decide +kernel
theorem d_Law_710 : decode mt_Law.2.1 710 = .ok (.iload_n 3, 1) := by decide +kernel
theorem d_Law_711 : decode mt_Law.2.1 711 = .ok (.iconst 1, 1) := by decide +kernel
theorem d_Law_712 : decode mt_Law.2.1 712 = .ok (.iadd, 1) := by decide +kernel
theorem d_Law_713 : decode mt_Law.2.1 713 = .ok (.iaload, 1) := by decide +kernel
theorem d_Law_714 : decode mt_Law.2.1 714 = .ok (.invokevirtual 85, 3) := by decide +kernel
theorem d_Law_717 : decode mt_Law.2.1 717 = .ok (.aload_n 2, 1) := by decide +kernel
theorem d_Law_718 : decode mt_Law.2.1 718 = .ok (.aload_n 0, 1) := by decide +kernel
theorem d_Law_719 : decode mt_Law.2.1 719 = .ok (.iload_n 3, 1) := by decide +kernel
theorem d_Law_720 : decode mt_Law.2.1 720 = .ok (.iconst 1, 1) := by decide +kernel
theorem d_Law_721 : decode mt_Law.2.1 721 = .ok (.iadd, 1) := by decide +kernel
theorem d_Law_722 : decode mt_Law.2.1 722 = .ok (.iaload, 1) := by decide +kernel
theorem d_Law_723 : decode mt_Law.2.1 723 = .ok (.invokevirtual 88, 3) := by decide +kernel
theorem d_Law_726 : decode mt_Law.2.1 726 = .ok (.if_icmp .eq 197, 3) := by decide +kernel
theorem d_Law_729 : decode mt_Law.2.1 729 = .ok (.iconst 0, 1) := by decide +kernel
theorem d_Law_730 : decode mt_Law.2.1 730 = .ok (.ireturn, 1) := by decide +kernel
theorem d_Law_731 : decode mt_Law.2.1 731 = .ok (.aload_n 1, 1) := by decide +kernel
theorem d_Law_732 : decode mt_Law.2.1 732 = .ok (.invokevirtual 89, 3) := by decide +kernel
theorem d_Law_735 : decode mt_Law.2.1 735 = .ok (.aload_n 2, 1) := by decide +kernel
theorem d_Law_736 : decode mt_Law.2.1 736 = .ok (.invokevirtual 92, 3) := by decide +kernel
theorem d_Law_739 : decode mt_Law.2.1 739 = .ok (.if_icmp .eq 184, 3) := by decide +kernel
theorem d_Law_742 : decode mt_Law.2.1 742 = .ok (.iconst 0, 1) := by decide +kernel
theorem d_Law_743 : decode mt_Law.2.1 743 = .ok (.ireturn, 1) := by decide +kernel
theorem d_Law_744 : decode mt_Law.2.1 744 = .ok (.aload_n 1, 1) := by decide +kernel
theorem d_Law_745 : decode mt_Law.2.1 745 = .ok (.aload_n 0, 1) := by decide +kernel
theorem d_Law_746 : decode mt_Law.2.1 746 = .ok (.iload_n 3, 1) := by decide +kernel
theorem d_Law_747 : decode mt_Law.2.1 747 = .ok (.iconst 1, 1) := by decide +kernel
theorem d_Law_748 : decode mt_Law.2.1 748 = .ok (.iadd, 1) := by decide +kernel
theorem d_Law_749 : decode mt_Law.2.1 749 = .ok (.iaload, 1) := by decide +kernel
theorem d_Law_750 : decode mt_Law.2.1 750 = .ok (.aload_n 0, 1) := by decide +kernel
theorem d_Law_751 : decode mt_Law.2.1 751 = .ok (.iload_n 3, 1) := by decide +kernel
theorem d_Law_752 : decode mt_Law.2.1 752 = .ok (.iconst 2, 1) := by decide +kernel
theorem d_Law_753 : decode mt_Law.2.1 753 = .ok (.iadd, 1) := by decide +kernel
theorem d_Law_754 : decode mt_Law.2.1 754 = .ok (.iaload, 1) := by decide +kernel
theorem d_Law_755 : decode mt_Law.2.1 755 = .ok (.aload_n 0, 1) := by decide +kernel
theorem d_Law_756 : decode mt_Law.2.1 756 = .ok (.iload_n 3, 1) := by decide +kernel
theorem d_Law_757 : decode mt_Law.2.1 757 = .ok (.iconst 3, 1) := by decide +kernel
theorem d_Law_758 : decode mt_Law.2.1 758 = .ok (.iadd, 1) := by decide +kernel
theorem d_Law_759 : decode mt_Law.2.1 759 = .ok (.iaload, 1) := by decide +kernel
theorem d_Law_760 : decode mt_Law.2.1 760 = .ok (.invokevirtual 93, 3) := by decide +kernel
theorem d_Law_763 : decode mt_Law.2.1 763 = .ok (.aload_n 2, 1) := by decide +kernel
theorem d_Law_764 : decode mt_Law.2.1 764 = .ok (.aload_n 0, 1) := by decide +kernel
theorem d_Law_765 : decode mt_Law.2.1 765 = .ok (.iload_n 3, 1) := by decide +kernel
theorem d_Law_766 : decode mt_Law.2.1 766 = .ok (.iconst 1, 1) := by decide +kernel
theorem d_Law_767 : decode mt_Law.2.1 767 = .ok (.iadd, 1) := by decide +kernel
theorem d_Law_768 : decode mt_Law.2.1 768 = .ok (.iaload, 1) := by decide +kernel
theorem d_Law_769 : decode mt_Law.2.1 769 = .ok (.aload_n 0, 1) := by decide +kernel
theorem d_Law_770 : decode mt_Law.2.1 770 = .ok (.iload_n 3, 1) := by decide +kernel
theorem d_Law_771 : decode mt_Law.2.1 771 = .ok (.iconst 2, 1) := by decide +kernel
theorem d_Law_772 : decode mt_Law.2.1 772 = .ok (.iadd, 1) := by decide +kernel
theorem d_Law_773 : decode mt_Law.2.1 773 = .ok (.iaload, 1) := by decide +kernel
theorem d_Law_774 : decode mt_Law.2.1 774 = .ok (.aload_n 0, 1) := by decide +kernel
theorem d_Law_775 : decode mt_Law.2.1 775 = .ok (.iload_n 3, 1) := by decide +kernel
theorem d_Law_776 : decode mt_Law.2.1 776 = .ok (.iconst 3, 1) := by decide +kernel
theorem d_Law_777 : decode mt_Law.2.1 777 = .ok (.iadd, 1) := by decide +kernel
theorem d_Law_778 : decode mt_Law.2.1 778 = .ok (.iaload, 1) := by decide +kernel
theorem d_Law_779 : decode mt_Law.2.1 779 = .ok (.invokevirtual 97, 3) := by decide +kernel
theorem d_Law_782 : decode mt_Law.2.1 782 = .ok (.if_icmp .eq 141, 3) := by decide +kernel
theorem d_Law_785 : decode mt_Law.2.1 785 = .ok (.iconst 0, 1) := by decide +kernel
theorem d_Law_786 : decode mt_Law.2.1 786 = .ok (.ireturn, 1) := by decide +kernel
theorem d_Law_787 : decode mt_Law.2.1 787 = .ok (.aload_n 1, 1) := by decide +kernel
theorem d_Law_788 : decode mt_Law.2.1 788 = .ok (.aload_n 0, 1) := by decide +kernel
theorem d_Law_789 : decode mt_Law.2.1 789 = .ok (.iload_n 3, 1) := by decide +kernel
theorem d_Law_790 : decode mt_Law.2.1 790 = .ok (.iconst 1, 1) := by decide +kernel
theorem d_Law_791 : decode mt_Law.2.1 791 = .ok (.iadd, 1) := by decide +kernel
theorem d_Law_792 : decode mt_Law.2.1 792 = .ok (.iaload, 1) := by decide +kernel
theorem d_Law_793 : decode mt_Law.2.1 793 = .ok (.invokevirtual 98, 3) := by decide +kernel
theorem d_Law_796 : decode mt_Law.2.1 796 = .ok (.aload_n 2, 1) := by decide +kernel
theorem d_Law_797 : decode mt_Law.2.1 797 = .ok (.aload_n 0, 1) := by decide +kernel
theorem d_Law_798 : decode mt_Law.2.1 798 = .ok (.iload_n 3, 1) := by decide +kernel
theorem d_Law_799 : decode mt_Law.2.1 799 = .ok (.iconst 1, 1) := by decide +kernel
theorem d_Law_800 : decode mt_Law.2.1 800 = .ok (.iadd, 1) := by decide +kernel
theorem d_Law_801 : decode mt_Law.2.1 801 = .ok (.iaload, 1) := by decide +kernel
theorem d_Law_802 : decode mt_Law.2.1 802 = .ok (.invokevirtual 101, 3) := by decide +kernel
theorem d_Law_805 : decode mt_Law.2.1 805 = .ok (.if_icmp .eq 118, 3) := by decide +kernel
theorem d_Law_808 : decode mt_Law.2.1 808 = .ok (.iconst 0, 1) := by decide +kernel
theorem d_Law_809 : decode mt_Law.2.1 809 = .ok (.ireturn, 1) := by decide +kernel
theorem d_Law_810 : decode mt_Law.2.1 810 = .ok (.aload_n 1, 1) := by decide +kernel
theorem d_Law_811 : decode mt_Law.2.1 811 = .ok (.aload_n 0, 1) := by decide +kernel
theorem d_Law_812 : decode mt_Law.2.1 812 = .ok (.iload_n 3, 1) := by decide +kernel
theorem d_Law_813 : decode mt_Law.2.1 813 = .ok (.iconst 1, 1) := by decide +kernel
theorem d_Law_814 : decode mt_Law.2.1 814 = .ok (.iadd, 1) := by decide +kernel
theorem d_Law_815 : decode mt_Law.2.1 815 = .ok (.iaload, 1) := by decide +kernel
theorem d_Law_816 : decode mt_Law.2.1 816 = .ok (.aload_n 0, 1) := by decide +kernel
theorem d_Law_817 : decode mt_Law.2.1 817 = .ok (.iload_n 3, 1) := by decide +kernel
theorem d_Law_818 : decode mt_Law.2.1 818 = .ok (.iconst 2, 1) := by decide +kernel
theorem d_Law_819 : decode mt_Law.2.1 819 = .ok (.iadd, 1) := by decide +kernel
theorem d_Law_820 : decode mt_Law.2.1 820 = .ok (.iaload, 1) := by decide +kernel
theorem d_Law_821 : decode mt_Law.2.1 821 = .ok (.invokevirtual 102, 3) := by decide +kernel
theorem d_Law_824 : decode mt_Law.2.1 824 = .ok (.aload_n 2, 1) := by decide +kernel
theorem d_Law_825 : decode mt_Law.2.1 825 = .ok (.aload_n 0, 1) := by decide +kernel
theorem d_Law_826 : decode mt_Law.2.1 826 = .ok (.iload_n 3, 1) := by decide +kernel
theorem d_Law_827 : decode mt_Law.2.1 827 = .ok (.iconst 1, 1) := by decide +kernel
theorem d_Law_828 : decode mt_Law.2.1 828 = .ok (.iadd, 1) := by decide +kernel
theorem d_Law_829 : decode mt_Law.2.1 829 = .ok (.iaload, 1) := by decide +kernel
theorem d_Law_830 : decode mt_Law.2.1 830 = .ok (.aload_n 0, 1) := by decide +kernel
theorem d_Law_831 : decode mt_Law.2.1 831 = .ok (.iload_n 3, 1) := by decide +kernel
theorem d_Law_832 : decode mt_Law.2.1 832 = .ok (.iconst 2, 1) := by decide +kernel
theorem d_Law_833 : decode mt_Law.2.1 833 = .ok (.iadd, 1) := by decide +kernel
theorem d_Law_834 : decode mt_Law.2.1 834 = .ok (.iaload, 1) := by decide +kernel
theorem d_Law_835 : decode mt_Law.2.1 835 = .ok (.invokevirtual 105, 3) := by decide +kernel
theorem d_Law_838 : decode mt_Law.2.1 838 = .ok (.if_icmp .eq 85, 3) := by decide +kernel
theorem d_Law_841 : decode mt_Law.2.1 841 = .ok (.iconst 0, 1) := by decide +kernel
theorem d_Law_842 : decode mt_Law.2.1 842 = .ok (.ireturn, 1) := by decide +kernel
theorem d_Law_843 : decode mt_Law.2.1 843 = .ok (.aload_n 1, 1) := by decide +kernel
theorem d_Law_844 : decode mt_Law.2.1 844 = .ok (.aload_n 0, 1) := by decide +kernel
theorem d_Law_845 : decode mt_Law.2.1 845 = .ok (.iload_n 3, 1) := by decide +kernel
theorem d_Law_846 : decode mt_Law.2.1 846 = .ok (.iconst 1, 1) := by decide +kernel
theorem d_Law_847 : decode mt_Law.2.1 847 = .ok (.iadd, 1) := by decide +kernel
theorem d_Law_848 : decode mt_Law.2.1 848 = .ok (.iaload, 1) := by decide +kernel
theorem d_Law_849 : decode mt_Law.2.1 849 = .ok (.aload_n 0, 1) := by decide +kernel
theorem d_Law_850 : decode mt_Law.2.1 850 = .ok (.iload_n 3, 1) := by decide +kernel
theorem d_Law_851 : decode mt_Law.2.1 851 = .ok (.iconst 2, 1) := by decide +kernel
theorem d_Law_852 : decode mt_Law.2.1 852 = .ok (.iadd, 1) := by decide +kernel
theorem d_Law_853 : decode mt_Law.2.1 853 = .ok (.iaload, 1) := by decide +kernel
theorem d_Law_854 : decode mt_Law.2.1 854 = .ok (.invokevirtual 106, 3) := by decide +kernel
theorem d_Law_857 : decode mt_Law.2.1 857 = .ok (.aload_n 2, 1) := by decide +kernel
theorem d_Law_858 : decode mt_Law.2.1 858 = .ok (.aload_n 0, 1) := by decide +kernel
theorem d_Law_859 : decode mt_Law.2.1 859 = .ok (.iload_n 3, 1) := by decide +kernel
theorem d_Law_860 : decode mt_Law.2.1 860 = .ok (.iconst 1, 1) := by decide +kernel
theorem d_Law_861 : decode mt_Law.2.1 861 = .ok (.iadd, 1) := by decide +kernel
theorem d_Law_862 : decode mt_Law.2.1 862 = .ok (.iaload, 1) := by decide +kernel
theorem d_Law_863 : decode mt_Law.2.1 863 = .ok (.aload_n 0, 1) := by decide +kernel
theorem d_Law_864 : decode mt_Law.2.1 864 = .ok (.iload_n 3, 1) := by decide +kernel
theorem d_Law_865 : decode mt_Law.2.1 865 = .ok (.iconst 2, 1) := by decide +kernel
theorem d_Law_866 : decode mt_Law.2.1 866 = .ok (.iadd, 1) := by decide +kernel
theorem d_Law_867 : decode mt_Law.2.1 867 = .ok (.iaload, 1) := by decide +kernel
theorem d_Law_868 : decode mt_Law.2.1 868 = .ok (.invokevirtual 109, 3) := by decide +kernel
theorem d_Law_871 : decode mt_Law.2.1 871 = .ok (.if_icmp .eq 52, 3) := by decide +kernel
theorem d_Law_874 : decode mt_Law.2.1 874 = .ok (.iconst 0, 1) := by decide +kernel
theorem d_Law_875 : decode mt_Law.2.1 875 = .ok (.ireturn, 1) := by decide +kernel
theorem d_Law_876 : decode mt_Law.2.1 876 = .ok (.aload_n 1, 1) := by decide +kernel
theorem d_Law_877 : decode mt_Law.2.1 877 = .ok (.aload_n 0, 1) := by decide +kernel
theorem d_Law_878 : decode mt_Law.2.1 878 = .ok (.iload_n 3, 1) := by decide +kernel
theorem d_Law_879 : decode mt_Law.2.1 879 = .ok (.iconst 1, 1) := by decide +kernel
theorem d_Law_880 : decode mt_Law.2.1 880 = .ok (.iadd, 1) := by decide +kernel
theorem d_Law_881 : decode mt_Law.2.1 881 = .ok (.iaload, 1) := by decide +kernel
theorem d_Law_882 : decode mt_Law.2.1 882 = .ok (.invokevirtual 110, 3) := by decide +kernel
theorem d_Law_885 : decode mt_Law.2.1 885 = .ok (.aload_n 2, 1) := by decide +kernel
theorem d_Law_886 : decode mt_Law.2.1 886 = .ok (.aload_n 0, 1) := by decide +kernel
theorem d_Law_887 : decode mt_Law.2.1 887 = .ok (.iload_n 3, 1) := by decide +kernel
theorem d_Law_888 : decode mt_Law.2.1 888 = .ok (.iconst 1, 1) := by decide +kernel
theorem d_Law_889 : decode mt_Law.2.1 889 = .ok (.iadd, 1) := by decide +kernel
theorem d_Law_890 : decode mt_Law.2.1 890 = .ok (.iaload, 1) := by decide +kernel
theorem d_Law_891 : decode mt_Law.2.1 891 = .ok (.invokevirtual 114, 3) := by decide +kernel
theorem d_Law_894 : decode mt_Law.2.1 894 = .ok (.lcmp, 1) := by decide +kernel
theorem d_Law_895 : decode mt_Law.2.1 895 = .ok (.ifCond .eq 28, 3) := by decide +kernel
theorem d_Law_898 : decode mt_Law.2.1 898 = .ok (.iconst 0, 1) := by decide +kernel
theorem d_Law_899 : decode mt_Law.2.1 899 = .ok (.ireturn, 1) := by decide +kernel
theorem d_Law_900 : decode mt_Law.2.1 900 = .ok (.aload_n 1, 1) := by decide +kernel
theorem d_Law_901 : decode mt_Law.2.1 901 = .ok (.aload_n 0, 1) := by decide +kernel
theorem d_Law_902 : decode mt_Law.2.1 902 = .ok (.iload_n 3, 1) := by decide +kernel
theorem d_Law_903 : decode mt_Law.2.1 903 = .ok (.iconst 1, 1) := by decide +kernel
theorem d_Law_904 : decode mt_Law.2.1 904 = .ok (.iadd, 1) := by decide +kernel
theorem d_Law_905 : decode mt_Law.2.1 905 = .ok (.iaload, 1) := by decide +kernel
theorem d_Law_906 : decode mt_Law.2.1 906 = .ok (.invokevirtual 115, 3) := by decide +kernel
theorem d_Law_909 : decode mt_Law.2.1 909 = .ok (.aload_n 2, 1) := by decide +kernel
theorem d_Law_910 : decode mt_Law.2.1 910 = .ok (.aload_n 0, 1) := by decide +kernel
theorem d_Law_911 : decode mt_Law.2.1 911 = .ok (.iload_n 3, 1) := by decide +kernel
theorem d_Law_912 : decode mt_Law.2.1 912 = .ok (.iconst 1, 1) := by decide +kernel
theorem d_Law_913 : decode mt_Law.2.1 913 = .ok (.iadd, 1) := by decide +kernel
theorem d_Law_914 : decode mt_Law.2.1 914 = .ok (.iaload, 1) := by decide +kernel
theorem d_Law_915 : decode mt_Law.2.1 915 = .ok (.invokevirtual 118, 3) := by decide +kernel
theorem d_Law_918 : decode mt_Law.2.1 918 = .ok (.if_icmp .eq 5, 3) := by decide +kernel
theorem d_Law_921 : decode mt_Law.2.1 921 = .ok (.iconst 0, 1) := by decide +kernel
theorem d_Law_922 : decode mt_Law.2.1 922 = .ok (.ireturn, 1) := by decide +kernel
theorem d_Law_923 : decode mt_Law.2.1 923 = .ok (.iinc 3 9, 3) := by decide +kernel
theorem d_Law_926 : decode mt_Law.2.1 926 = .ok (.goto (-908), 3) := by decide +kernel
theorem d_Law_929 : decode mt_Law.2.1 929 = .ok (.iconst 1, 1) := by decide +kernel
theorem d_Law_930 : decode mt_Law.2.1 930 = .ok (.ireturn, 1) := by decide +kernel
