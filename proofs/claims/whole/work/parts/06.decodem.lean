theorem dX3_init_0 : decode cX3_init 0 = .ok (.aload_n 0, 1) := by decide +kernel
theorem dX3_init_1 : decode cX3_init 1 = .ok (.invokespecial 1, 3) := by decide +kernel
theorem dX3_init_4 : decode cX3_init 4 = .ok (.aload_n 0, 1) := by decide +kernel
theorem dX3_init_5 : decode cX3_init 5 = .ok (.bipush 96, 2) := by decide +kernel
theorem dX3_init_7 : decode cX3_init 7 = .ok (.newarray .int, 2) := by decide +kernel
theorem dX3_init_9 : decode cX3_init 9 = .ok (.putfield 7, 3) := by decide +kernel
theorem dX3_init_12 : decode cX3_init 12 = .ok (.aload_n 0, 1) := by decide +kernel
theorem dX3_init_13 : decode cX3_init 13 = .ok (.sipush 1536, 3) := by decide +kernel
theorem dX3_init_16 : decode cX3_init 16 = .ok (.newarray .int, 2) := by decide +kernel
theorem dX3_init_18 : decode cX3_init 18 = .ok (.putfield 13, 3) := by decide +kernel
theorem dX3_init_21 : decode cX3_init 21 = .ok (.aload_n 0, 1) := by decide +kernel
theorem dX3_init_22 : decode cX3_init 22 = .ok (.bipush 6, 2) := by decide +kernel
theorem dX3_init_24 : decode cX3_init 24 = .ok (.newarray .int, 2) := by decide +kernel
theorem dX3_init_26 : decode cX3_init 26 = .ok (.putfield 16, 3) := by decide +kernel
theorem dX3_init_29 : decode cX3_init 29 = .ok (.aload_n 0, 1) := by decide +kernel
theorem dX3_init_30 : decode cX3_init 30 = .ok (.bipush 102, 2) := by decide +kernel
theorem dX3_init_32 : decode cX3_init 32 = .ok (.newarray .int, 2) := by decide +kernel
theorem dX3_init_34 : decode cX3_init 34 = .ok (.putfield 19, 3) := by decide +kernel
theorem dX3_init_37 : decode cX3_init 37 = .ok (.aload_n 0, 1) := by decide +kernel
theorem dX3_init_38 : decode cX3_init 38 = .ok (.bipush 6, 2) := by decide +kernel
theorem dX3_init_40 : decode cX3_init 40 = .ok (.newarray .int, 2) := by decide +kernel
theorem dX3_init_42 : decode cX3_init 42 = .ok (.putfield 22, 3) := by decide +kernel
theorem dX3_init_45 : decode cX3_init 45 = .ok (.aload_n 0, 1) := by decide +kernel
theorem dX3_init_46 : decode cX3_init 46 = .ok (.iconst 1, 1) := by decide +kernel
theorem dX3_init_47 : decode cX3_init 47 = .ok (.putfield 25, 3) := by decide +kernel
theorem dX3_init_50 : decode cX3_init 50 = .ok (.aload_n 0, 1) := by decide +kernel
theorem dX3_init_51 : decode cX3_init 51 = .ok (.iconst 3, 1) := by decide +kernel
theorem dX3_init_52 : decode cX3_init 52 = .ok (.putfield 29, 3) := by decide +kernel
theorem dX3_init_55 : decode cX3_init 55 = .ok (.aload_n 0, 1) := by decide +kernel
theorem dX3_init_56 : decode cX3_init 56 = .ok (.bipush 16, 2) := by decide +kernel
theorem dX3_init_58 : decode cX3_init 58 = .ok (.newarray .int, 2) := by decide +kernel
theorem dX3_init_60 : decode cX3_init 60 = .ok (.putfield 33, 3) := by decide +kernel
theorem dX3_init_63 : decode cX3_init 63 = .ok (.return_, 1) := by decide +kernel
theorem dX3_thrown_0 : decode cX3_thrown 0 = .ok (.aload_n 0, 1) := by decide +kernel
theorem dX3_thrown_1 : decode cX3_thrown 1 = .ok (.getfield 36, 3) := by decide +kernel
theorem dX3_thrown_4 : decode cX3_thrown 4 = .ok (.ireturn, 1) := by decide +kernel
theorem dX3_eraseBlock_0 : decode cX3_eraseBlock 0 = .ok (.bipush 16, 2) := by decide +kernel
theorem dX3_eraseBlock_2 : decode cX3_eraseBlock 2 = .ok (.iload_n 1, 1) := by decide +kernel
theorem dX3_eraseBlock_3 : decode cX3_eraseBlock 3 = .ok (.imul, 1) := by decide +kernel
theorem dX3_eraseBlock_4 : decode cX3_eraseBlock 4 = .ok (.istore_n 2, 1) := by decide +kernel
theorem dX3_eraseBlock_5 : decode cX3_eraseBlock 5 = .ok (.iload_n 2, 1) := by decide +kernel
theorem dX3_eraseBlock_6 : decode cX3_eraseBlock 6 = .ok (.bipush 16, 2) := by decide +kernel
theorem dX3_eraseBlock_8 : decode cX3_eraseBlock 8 = .ok (.iload_n 1, 1) := by decide +kernel
theorem dX3_eraseBlock_9 : decode cX3_eraseBlock 9 = .ok (.imul, 1) := by decide +kernel
theorem dX3_eraseBlock_10 : decode cX3_eraseBlock 10 = .ok (.bipush 16, 2) := by decide +kernel
theorem dX3_eraseBlock_12 : decode cX3_eraseBlock 12 = .ok (.iadd, 1) := by decide +kernel
theorem dX3_eraseBlock_13 : decode cX3_eraseBlock 13 = .ok (.if_icmp .ge 16, 3) := by decide +kernel
theorem dX3_eraseBlock_16 : decode cX3_eraseBlock 16 = .ok (.aload_n 0, 1) := by decide +kernel
theorem dX3_eraseBlock_17 : decode cX3_eraseBlock 17 = .ok (.getfield 7, 3) := by decide +kernel
theorem dX3_eraseBlock_20 : decode cX3_eraseBlock 20 = .ok (.iload_n 2, 1) := by decide +kernel
theorem dX3_eraseBlock_21 : decode cX3_eraseBlock 21 = .ok (.iconst 0, 1) := by decide +kernel
theorem dX3_eraseBlock_22 : decode cX3_eraseBlock 22 = .ok (.iastore, 1) := by decide +kernel
theorem dX3_eraseBlock_23 : decode cX3_eraseBlock 23 = .ok (.iinc 2 1, 3) := by decide +kernel
theorem dX3_eraseBlock_26 : decode cX3_eraseBlock 26 = .ok (.goto (-21), 3) := by decide +kernel
theorem dX3_eraseBlock_29 : decode cX3_eraseBlock 29 = .ok (.aload_n 0, 1) := by decide +kernel
theorem dX3_eraseBlock_30 : decode cX3_eraseBlock 30 = .ok (.getfield 16, 3) := by decide +kernel
theorem dX3_eraseBlock_33 : decode cX3_eraseBlock 33 = .ok (.iload_n 1, 1) := by decide +kernel
theorem dX3_eraseBlock_34 : decode cX3_eraseBlock 34 = .ok (.iconst 0, 1) := by decide +kernel
theorem dX3_eraseBlock_35 : decode cX3_eraseBlock 35 = .ok (.iastore, 1) := by decide +kernel
theorem dX3_eraseBlock_36 : decode cX3_eraseBlock 36 = .ok (.aload_n 0, 1) := by decide +kernel
theorem dX3_eraseBlock_37 : decode cX3_eraseBlock 37 = .ok (.getfield 22, 3) := by decide +kernel
theorem dX3_eraseBlock_40 : decode cX3_eraseBlock 40 = .ok (.iload_n 1, 1) := by decide +kernel
theorem dX3_eraseBlock_41 : decode cX3_eraseBlock 41 = .ok (.dup2, 1) := by decide +kernel
theorem dX3_eraseBlock_42 : decode cX3_eraseBlock 42 = .ok (.iaload, 1) := by decide +kernel
theorem dX3_eraseBlock_43 : decode cX3_eraseBlock 43 = .ok (.iconst 1, 1) := by decide +kernel
theorem dX3_eraseBlock_44 : decode cX3_eraseBlock 44 = .ok (.iadd, 1) := by decide +kernel
theorem dX3_eraseBlock_45 : decode cX3_eraseBlock 45 = .ok (.iastore, 1) := by decide +kernel
theorem dX3_eraseBlock_46 : decode cX3_eraseBlock 46 = .ok (.return_, 1) := by decide +kernel
theorem dX3_isErased_0 : decode cX3_isErased 0 = .ok (.aload_n 0, 1) := by decide +kernel
theorem dX3_isErased_1 : decode cX3_isErased 1 = .ok (.getfield 16, 3) := by decide +kernel
theorem dX3_isErased_4 : decode cX3_isErased 4 = .ok (.iload_n 1, 1) := by decide +kernel
theorem dX3_isErased_5 : decode cX3_isErased 5 = .ok (.iaload, 1) := by decide +kernel
theorem dX3_isErased_6 : decode cX3_isErased 6 = .ok (.ifCond .ne 7, 3) := by decide +kernel
theorem dX3_isErased_9 : decode cX3_isErased 9 = .ok (.iconst 1, 1) := by decide +kernel
theorem dX3_isErased_10 : decode cX3_isErased 10 = .ok (.goto 4, 3) := by decide +kernel
theorem dX3_isErased_13 : decode cX3_isErased 13 = .ok (.iconst 0, 1) := by decide +kernel
theorem dX3_isErased_14 : decode cX3_isErased 14 = .ok (.istore_n 2, 1) := by decide +kernel
theorem dX3_isErased_15 : decode cX3_isErased 15 = .ok (.bipush 16, 2) := by decide +kernel
theorem dX3_isErased_17 : decode cX3_isErased 17 = .ok (.iload_n 1, 1) := by decide +kernel
theorem dX3_isErased_18 : decode cX3_isErased 18 = .ok (.imul, 1) := by decide +kernel
theorem dX3_isErased_19 : decode cX3_isErased 19 = .ok (.istore_n 3, 1) := by decide +kernel
theorem dX3_isErased_20 : decode cX3_isErased 20 = .ok (.iload_n 3, 1) := by decide +kernel
theorem dX3_isErased_21 : decode cX3_isErased 21 = .ok (.bipush 16, 2) := by decide +kernel
theorem dX3_isErased_23 : decode cX3_isErased 23 = .ok (.iload_n 1, 1) := by decide +kernel
theorem dX3_isErased_24 : decode cX3_isErased 24 = .ok (.imul, 1) := by decide +kernel
theorem dX3_isErased_25 : decode cX3_isErased 25 = .ok (.bipush 16, 2) := by decide +kernel
theorem dX3_isErased_27 : decode cX3_isErased 27 = .ok (.iadd, 1) := by decide +kernel
theorem dX3_isErased_28 : decode cX3_isErased 28 = .ok (.if_icmp .ge 28, 3) := by decide +kernel
theorem dX3_isErased_31 : decode cX3_isErased 31 = .ok (.iload_n 2, 1) := by decide +kernel
theorem dX3_isErased_32 : decode cX3_isErased 32 = .ok (.ifCond .eq 16, 3) := by decide +kernel
theorem dX3_isErased_35 : decode cX3_isErased 35 = .ok (.aload_n 0, 1) := by decide +kernel
theorem dX3_isErased_36 : decode cX3_isErased 36 = .ok (.getfield 7, 3) := by decide +kernel
theorem dX3_isErased_39 : decode cX3_isErased 39 = .ok (.iload_n 3, 1) := by decide +kernel
theorem dX3_isErased_40 : decode cX3_isErased 40 = .ok (.iaload, 1) := by decide +kernel
theorem dX3_isErased_41 : decode cX3_isErased 41 = .ok (.ifCond .ne 7, 3) := by decide +kernel
theorem dX3_isErased_44 : decode cX3_isErased 44 = .ok (.iconst 1, 1) := by decide +kernel
theorem dX3_isErased_45 : decode cX3_isErased 45 = .ok (.goto 4, 3) := by decide +kernel
theorem dX3_isErased_48 : decode cX3_isErased 48 = .ok (.iconst 0, 1) := by decide +kernel
theorem dX3_isErased_49 : decode cX3_isErased 49 = .ok (.istore_n 2, 1) := by decide +kernel
theorem dX3_isErased_50 : decode cX3_isErased 50 = .ok (.iinc 3 1, 3) := by decide +kernel
theorem dX3_isErased_53 : decode cX3_isErased 53 = .ok (.goto (-33), 3) := by decide +kernel
theorem dX3_isErased_56 : decode cX3_isErased 56 = .ok (.iload_n 2, 1) := by decide +kernel
theorem dX3_isErased_57 : decode cX3_isErased 57 = .ok (.ireturn, 1) := by decide +kernel
theorem dX3_isCovered_0 : decode cX3_isCovered 0 = .ok (.aload_n 0, 1) := by decide +kernel
theorem dX3_isCovered_1 : decode cX3_isCovered 1 = .ok (.getfield 19, 3) := by decide +kernel
theorem dX3_isCovered_4 : decode cX3_isCovered 4 = .ok (.bipush 17, 2) := by decide +kernel
theorem dX3_isCovered_6 : decode cX3_isCovered 6 = .ok (.iload_n 1, 1) := by decide +kernel
theorem dX3_isCovered_7 : decode cX3_isCovered 7 = .ok (.imul, 1) := by decide +kernel
theorem dX3_isCovered_8 : decode cX3_isCovered 8 = .ok (.bipush 16, 2) := by decide +kernel
theorem dX3_isCovered_10 : decode cX3_isCovered 10 = .ok (.iadd, 1) := by decide +kernel
theorem dX3_isCovered_11 : decode cX3_isCovered 11 = .ok (.iaload, 1) := by decide +kernel
theorem dX3_isCovered_12 : decode cX3_isCovered 12 = .ok (.iload_n 2, 1) := by decide +kernel
theorem dX3_isCovered_13 : decode cX3_isCovered 13 = .ok (.ishr, 1) := by decide +kernel
theorem dX3_isCovered_14 : decode cX3_isCovered 14 = .ok (.iconst 1, 1) := by decide +kernel
theorem dX3_isCovered_15 : decode cX3_isCovered 15 = .ok (.iand, 1) := by decide +kernel
theorem dX3_isCovered_16 : decode cX3_isCovered 16 = .ok (.iconst 1, 1) := by decide +kernel
theorem dX3_isCovered_17 : decode cX3_isCovered 17 = .ok (.if_icmp .ne 7, 3) := by decide +kernel
theorem dX3_isCovered_20 : decode cX3_isCovered 20 = .ok (.iconst 1, 1) := by decide +kernel
theorem dX3_isCovered_21 : decode cX3_isCovered 21 = .ok (.goto 4, 3) := by decide +kernel
theorem dX3_isCovered_24 : decode cX3_isCovered 24 = .ok (.iconst 0, 1) := by decide +kernel
theorem dX3_isCovered_25 : decode cX3_isCovered 25 = .ok (.ireturn, 1) := by decide +kernel
theorem dX3_isRebuilt_0 : decode cX3_isRebuilt 0 = .ok (.iload_n 1, 1) := by decide +kernel
theorem dX3_isRebuilt_1 : decode cX3_isRebuilt 1 = .ok (.bipush 16, 2) := by decide +kernel
theorem dX3_isRebuilt_3 : decode cX3_isRebuilt 3 = .ok (.idiv, 1) := by decide +kernel
theorem dX3_isRebuilt_4 : decode cX3_isRebuilt 4 = .ok (.istore_n 2, 1) := by decide +kernel
theorem dX3_isRebuilt_5 : decode cX3_isRebuilt 5 = .ok (.iload_n 1, 1) := by decide +kernel
theorem dX3_isRebuilt_6 : decode cX3_isRebuilt 6 = .ok (.bipush 16, 2) := by decide +kernel
theorem dX3_isRebuilt_8 : decode cX3_isRebuilt 8 = .ok (.irem, 1) := by decide +kernel
theorem dX3_isRebuilt_9 : decode cX3_isRebuilt 9 = .ok (.bipush 8, 2) := by decide +kernel
theorem dX3_isRebuilt_11 : decode cX3_isRebuilt 11 = .ok (.if_icmp .ge 39, 3) := by decide +kernel
theorem dX3_isRebuilt_14 : decode cX3_isRebuilt 14 = .ok (.aload_n 0, 1) := by decide +kernel
theorem dX3_isRebuilt_15 : decode cX3_isRebuilt 15 = .ok (.getfield 7, 3) := by decide +kernel
theorem dX3_isRebuilt_18 : decode cX3_isRebuilt 18 = .ok (.iload_n 1, 1) := by decide +kernel
theorem dX3_isRebuilt_19 : decode cX3_isRebuilt 19 = .ok (.iaload, 1) := by decide +kernel
theorem dX3_isRebuilt_20 : decode cX3_isRebuilt 20 = .ok (.iconst 2, 1) := by decide +kernel
theorem dX3_isRebuilt_21 : decode cX3_isRebuilt 21 = .ok (.if_icmp .ne 29, 3) := by decide +kernel
theorem dX3_isRebuilt_24 : decode cX3_isRebuilt 24 = .ok (.aload_n 0, 1) := by decide +kernel
theorem dX3_isRebuilt_25 : decode cX3_isRebuilt 25 = .ok (.getfield 16, 3) := by decide +kernel
theorem dX3_isRebuilt_28 : decode cX3_isRebuilt 28 = .ok (.iload_n 2, 1) := by decide +kernel
theorem dX3_isRebuilt_29 : decode cX3_isRebuilt 29 = .ok (.iaload, 1) := by decide +kernel
theorem dX3_isRebuilt_30 : decode cX3_isRebuilt 30 = .ok (.iconst 1, 1) := by decide +kernel
theorem dX3_isRebuilt_31 : decode cX3_isRebuilt 31 = .ok (.if_icmp .ne 19, 3) := by decide +kernel
theorem dX3_isRebuilt_34 : decode cX3_isRebuilt 34 = .ok (.aload_n 0, 1) := by decide +kernel
theorem dX3_isRebuilt_35 : decode cX3_isRebuilt 35 = .ok (.iload_n 2, 1) := by decide +kernel
theorem dX3_isRebuilt_36 : decode cX3_isRebuilt 36 = .ok (.iload_n 1, 1) := by decide +kernel
theorem dX3_isRebuilt_37 : decode cX3_isRebuilt 37 = .ok (.bipush 16, 2) := by decide +kernel
theorem dX3_isRebuilt_39 : decode cX3_isRebuilt 39 = .ok (.irem, 1) := by decide +kernel
theorem dX3_isRebuilt_40 : decode cX3_isRebuilt 40 = .ok (.invokevirtual 39, 3) := by decide +kernel
theorem dX3_isRebuilt_43 : decode cX3_isRebuilt 43 = .ok (.ifCond .eq 7, 3) := by decide +kernel
theorem dX3_isRebuilt_46 : decode cX3_isRebuilt 46 = .ok (.iconst 1, 1) := by decide +kernel
theorem dX3_isRebuilt_47 : decode cX3_isRebuilt 47 = .ok (.goto 4, 3) := by decide +kernel
theorem dX3_isRebuilt_50 : decode cX3_isRebuilt 50 = .ok (.iconst 0, 1) := by decide +kernel
theorem dX3_isRebuilt_51 : decode cX3_isRebuilt 51 = .ok (.istore_n 3, 1) := by decide +kernel
theorem dX3_isRebuilt_52 : decode cX3_isRebuilt 52 = .ok (.iconst 0, 1) := by decide +kernel
theorem dX3_isRebuilt_53 : decode cX3_isRebuilt 53 = .ok (.istore 4, 2) := by decide +kernel
theorem dX3_isRebuilt_55 : decode cX3_isRebuilt 55 = .ok (.iload 4, 2) := by decide +kernel
theorem dX3_isRebuilt_57 : decode cX3_isRebuilt 57 = .ok (.bipush 8, 2) := by decide +kernel
theorem dX3_isRebuilt_59 : decode cX3_isRebuilt 59 = .ok (.if_icmp .ge 54, 3) := by decide +kernel
theorem dX3_isRebuilt_62 : decode cX3_isRebuilt 62 = .ok (.iload_n 3, 1) := by decide +kernel
theorem dX3_isRebuilt_63 : decode cX3_isRebuilt 63 = .ok (.ifCond .eq 50, 3) := by decide +kernel
theorem dX3_isRebuilt_66 : decode cX3_isRebuilt 66 = .ok (.iload 4, 2) := by decide +kernel
theorem dX3_isRebuilt_68 : decode cX3_isRebuilt 68 = .ok (.iload_n 1, 1) := by decide +kernel
theorem dX3_isRebuilt_69 : decode cX3_isRebuilt 69 = .ok (.bipush 16, 2) := by decide +kernel
theorem dX3_isRebuilt_71 : decode cX3_isRebuilt 71 = .ok (.irem, 1) := by decide +kernel
theorem dX3_isRebuilt_72 : decode cX3_isRebuilt 72 = .ok (.if_icmp .eq 29, 3) := by decide +kernel
theorem dX3_isRebuilt_75 : decode cX3_isRebuilt 75 = .ok (.aload_n 0, 1) := by decide +kernel
theorem dX3_isRebuilt_76 : decode cX3_isRebuilt 76 = .ok (.iload_n 2, 1) := by decide +kernel
theorem dX3_isRebuilt_77 : decode cX3_isRebuilt 77 = .ok (.iload 4, 2) := by decide +kernel
theorem dX3_isRebuilt_79 : decode cX3_isRebuilt 79 = .ok (.invokevirtual 39, 3) := by decide +kernel
theorem dX3_isRebuilt_82 : decode cX3_isRebuilt 82 = .ok (.ifCond .eq 19, 3) := by decide +kernel
theorem dX3_isRebuilt_85 : decode cX3_isRebuilt 85 = .ok (.aload_n 0, 1) := by decide +kernel
theorem dX3_isRebuilt_86 : decode cX3_isRebuilt 86 = .ok (.getfield 7, 3) := by decide +kernel
theorem dX3_isRebuilt_89 : decode cX3_isRebuilt 89 = .ok (.bipush 16, 2) := by decide +kernel
theorem dX3_isRebuilt_91 : decode cX3_isRebuilt 91 = .ok (.iload_n 2, 1) := by decide +kernel
theorem dX3_isRebuilt_92 : decode cX3_isRebuilt 92 = .ok (.imul, 1) := by decide +kernel
theorem dX3_isRebuilt_93 : decode cX3_isRebuilt 93 = .ok (.iload 4, 2) := by decide +kernel
theorem dX3_isRebuilt_95 : decode cX3_isRebuilt 95 = .ok (.iadd, 1) := by decide +kernel
theorem dX3_isRebuilt_96 : decode cX3_isRebuilt 96 = .ok (.iaload, 1) := by decide +kernel
theorem dX3_isRebuilt_97 : decode cX3_isRebuilt 97 = .ok (.iconst 1, 1) := by decide +kernel
theorem dX3_isRebuilt_98 : decode cX3_isRebuilt 98 = .ok (.if_icmp .ne 7, 3) := by decide +kernel
theorem dX3_isRebuilt_101 : decode cX3_isRebuilt 101 = .ok (.iconst 1, 1) := by decide +kernel
theorem dX3_isRebuilt_102 : decode cX3_isRebuilt 102 = .ok (.goto 4, 3) := by decide +kernel
theorem dX3_isRebuilt_105 : decode cX3_isRebuilt 105 = .ok (.iconst 0, 1) := by decide +kernel
theorem dX3_isRebuilt_106 : decode cX3_isRebuilt 106 = .ok (.istore_n 3, 1) := by decide +kernel
theorem dX3_isRebuilt_107 : decode cX3_isRebuilt 107 = .ok (.iinc 4 1, 3) := by decide +kernel
theorem dX3_isRebuilt_110 : decode cX3_isRebuilt 110 = .ok (.goto (-55), 3) := by decide +kernel
theorem dX3_isRebuilt_113 : decode cX3_isRebuilt 113 = .ok (.iload_n 3, 1) := by decide +kernel
theorem dX3_isRebuilt_114 : decode cX3_isRebuilt 114 = .ok (.ireturn, 1) := by decide +kernel
theorem dX3_isReadable_0 : decode cX3_isReadable 0 = .ok (.aload_n 0, 1) := by decide +kernel
theorem dX3_isReadable_1 : decode cX3_isReadable 1 = .ok (.getfield 7, 3) := by decide +kernel
theorem dX3_isReadable_4 : decode cX3_isReadable 4 = .ok (.iload_n 1, 1) := by decide +kernel
theorem dX3_isReadable_5 : decode cX3_isReadable 5 = .ok (.iaload, 1) := by decide +kernel
theorem dX3_isReadable_6 : decode cX3_isReadable 6 = .ok (.iconst 1, 1) := by decide +kernel
theorem dX3_isReadable_7 : decode cX3_isReadable 7 = .ok (.if_icmp .eq 11, 3) := by decide +kernel
theorem dX3_isReadable_10 : decode cX3_isReadable 10 = .ok (.aload_n 0, 1) := by decide +kernel
theorem dX3_isReadable_11 : decode cX3_isReadable 11 = .ok (.iload_n 1, 1) := by decide +kernel
theorem dX3_isReadable_12 : decode cX3_isReadable 12 = .ok (.invokevirtual 43, 3) := by decide +kernel
theorem dX3_isReadable_15 : decode cX3_isReadable 15 = .ok (.ifCond .eq 7, 3) := by decide +kernel
theorem dX3_isReadable_18 : decode cX3_isReadable 18 = .ok (.iconst 1, 1) := by decide +kernel
theorem dX3_isReadable_19 : decode cX3_isReadable 19 = .ok (.goto 4, 3) := by decide +kernel
theorem dX3_isReadable_22 : decode cX3_isReadable 22 = .ok (.iconst 0, 1) := by decide +kernel
theorem dX3_isReadable_23 : decode cX3_isReadable 23 = .ok (.ireturn, 1) := by decide +kernel
theorem dX3_byteOf_0 : decode cX3_byteOf 0 = .ok (.aload_n 0, 1) := by decide +kernel
theorem dX3_byteOf_1 : decode cX3_byteOf 1 = .ok (.getfield 7, 3) := by decide +kernel
theorem dX3_byteOf_4 : decode cX3_byteOf 4 = .ok (.iload_n 1, 1) := by decide +kernel
theorem dX3_byteOf_5 : decode cX3_byteOf 5 = .ok (.iaload, 1) := by decide +kernel
theorem dX3_byteOf_6 : decode cX3_byteOf 6 = .ok (.iconst 1, 1) := by decide +kernel
theorem dX3_byteOf_7 : decode cX3_byteOf 7 = .ok (.if_icmp .ne 15, 3) := by decide +kernel
theorem dX3_byteOf_10 : decode cX3_byteOf 10 = .ok (.aload_n 0, 1) := by decide +kernel
theorem dX3_byteOf_11 : decode cX3_byteOf 11 = .ok (.getfield 13, 3) := by decide +kernel
theorem dX3_byteOf_14 : decode cX3_byteOf 14 = .ok (.bipush 16, 2) := by decide +kernel
theorem dX3_byteOf_16 : decode cX3_byteOf 16 = .ok (.iload_n 1, 1) := by decide +kernel
theorem dX3_byteOf_17 : decode cX3_byteOf 17 = .ok (.imul, 1) := by decide +kernel
theorem dX3_byteOf_18 : decode cX3_byteOf 18 = .ok (.iload_n 2, 1) := by decide +kernel
theorem dX3_byteOf_19 : decode cX3_byteOf 19 = .ok (.iadd, 1) := by decide +kernel
theorem dX3_byteOf_20 : decode cX3_byteOf 20 = .ok (.iaload, 1) := by decide +kernel
theorem dX3_byteOf_21 : decode cX3_byteOf 21 = .ok (.ireturn, 1) := by decide +kernel
theorem dX3_byteOf_22 : decode cX3_byteOf 22 = .ok (.iload_n 1, 1) := by decide +kernel
theorem dX3_byteOf_23 : decode cX3_byteOf 23 = .ok (.bipush 16, 2) := by decide +kernel
theorem dX3_byteOf_25 : decode cX3_byteOf 25 = .ok (.idiv, 1) := by decide +kernel
theorem dX3_byteOf_26 : decode cX3_byteOf 26 = .ok (.istore_n 3, 1) := by decide +kernel
theorem dX3_byteOf_27 : decode cX3_byteOf 27 = .ok (.aload_n 0, 1) := by decide +kernel
theorem dX3_byteOf_28 : decode cX3_byteOf 28 = .ok (.getfield 19, 3) := by decide +kernel
theorem dX3_byteOf_31 : decode cX3_byteOf 31 = .ok (.bipush 17, 2) := by decide +kernel
theorem dX3_byteOf_33 : decode cX3_byteOf 33 = .ok (.iload_n 3, 1) := by decide +kernel
theorem dX3_byteOf_34 : decode cX3_byteOf 34 = .ok (.imul, 1) := by decide +kernel
theorem dX3_byteOf_35 : decode cX3_byteOf 35 = .ok (.iload_n 2, 1) := by decide +kernel
theorem dX3_byteOf_36 : decode cX3_byteOf 36 = .ok (.iadd, 1) := by decide +kernel
theorem dX3_byteOf_37 : decode cX3_byteOf 37 = .ok (.iaload, 1) := by decide +kernel
theorem dX3_byteOf_38 : decode cX3_byteOf 38 = .ok (.istore 4, 2) := by decide +kernel
theorem dX3_byteOf_40 : decode cX3_byteOf 40 = .ok (.iconst 0, 1) := by decide +kernel
theorem dX3_byteOf_41 : decode cX3_byteOf 41 = .ok (.istore 5, 2) := by decide +kernel
theorem dX3_byteOf_43 : decode cX3_byteOf 43 = .ok (.iload 5, 2) := by decide +kernel
theorem dX3_byteOf_45 : decode cX3_byteOf 45 = .ok (.bipush 8, 2) := by decide +kernel
theorem dX3_byteOf_47 : decode cX3_byteOf 47 = .ok (.if_icmp .ge 50, 3) := by decide +kernel
theorem dX3_byteOf_50 : decode cX3_byteOf 50 = .ok (.iload 5, 2) := by decide +kernel
theorem dX3_byteOf_52 : decode cX3_byteOf 52 = .ok (.iload_n 1, 1) := by decide +kernel
theorem dX3_byteOf_53 : decode cX3_byteOf 53 = .ok (.bipush 16, 2) := by decide +kernel
theorem dX3_byteOf_55 : decode cX3_byteOf 55 = .ok (.irem, 1) := by decide +kernel
theorem dX3_byteOf_56 : decode cX3_byteOf 56 = .ok (.if_icmp .eq 35, 3) := by decide +kernel
theorem dX3_byteOf_59 : decode cX3_byteOf 59 = .ok (.aload_n 0, 1) := by decide +kernel
theorem dX3_byteOf_60 : decode cX3_byteOf 60 = .ok (.iload_n 3, 1) := by decide +kernel
theorem dX3_byteOf_61 : decode cX3_byteOf 61 = .ok (.iload 5, 2) := by decide +kernel
theorem dX3_byteOf_63 : decode cX3_byteOf 63 = .ok (.invokevirtual 39, 3) := by decide +kernel
theorem dX3_byteOf_66 : decode cX3_byteOf 66 = .ok (.ifCond .eq 25, 3) := by decide +kernel
theorem dX3_byteOf_69 : decode cX3_byteOf 69 = .ok (.iload 4, 2) := by decide +kernel
theorem dX3_byteOf_71 : decode cX3_byteOf 71 = .ok (.aload_n 0, 1) := by decide +kernel
theorem dX3_byteOf_72 : decode cX3_byteOf 72 = .ok (.getfield 13, 3) := by decide +kernel
theorem dX3_byteOf_75 : decode cX3_byteOf 75 = .ok (.bipush 16, 2) := by decide +kernel
theorem dX3_byteOf_77 : decode cX3_byteOf 77 = .ok (.bipush 16, 2) := by decide +kernel
theorem dX3_byteOf_79 : decode cX3_byteOf 79 = .ok (.iload_n 3, 1) := by decide +kernel
theorem dX3_byteOf_80 : decode cX3_byteOf 80 = .ok (.imul, 1) := by decide +kernel
theorem dX3_byteOf_81 : decode cX3_byteOf 81 = .ok (.iload 5, 2) := by decide +kernel
theorem dX3_byteOf_83 : decode cX3_byteOf 83 = .ok (.iadd, 1) := by decide +kernel
theorem dX3_byteOf_84 : decode cX3_byteOf 84 = .ok (.imul, 1) := by decide +kernel
theorem dX3_byteOf_85 : decode cX3_byteOf 85 = .ok (.iload_n 2, 1) := by decide +kernel
theorem dX3_byteOf_86 : decode cX3_byteOf 86 = .ok (.iadd, 1) := by decide +kernel
theorem dX3_byteOf_87 : decode cX3_byteOf 87 = .ok (.iaload, 1) := by decide +kernel
theorem dX3_byteOf_88 : decode cX3_byteOf 88 = .ok (.ixor, 1) := by decide +kernel
theorem dX3_byteOf_89 : decode cX3_byteOf 89 = .ok (.istore 4, 2) := by decide +kernel
theorem dX3_byteOf_91 : decode cX3_byteOf 91 = .ok (.iinc 5 1, 3) := by decide +kernel
theorem dX3_byteOf_94 : decode cX3_byteOf 94 = .ok (.goto (-51), 3) := by decide +kernel
theorem dX3_byteOf_97 : decode cX3_byteOf 97 = .ok (.iload 4, 2) := by decide +kernel
theorem dX3_byteOf_99 : decode cX3_byteOf 99 = .ok (.ireturn, 1) := by decide +kernel
theorem dX3_isCut_0 : decode cX3_isCut 0 = .ok (.aload_n 0, 1) := by decide +kernel
theorem dX3_isCut_1 : decode cX3_isCut 1 = .ok (.getfield 47, 3) := by decide +kernel
theorem dX3_isCut_4 : decode cX3_isCut 4 = .ok (.ifCond .ne 5, 3) := by decide +kernel
theorem dX3_isCut_7 : decode cX3_isCut 7 = .ok (.iconst 0, 1) := by decide +kernel
theorem dX3_isCut_8 : decode cX3_isCut 8 = .ok (.ireturn, 1) := by decide +kernel
theorem dX3_isCut_9 : decode cX3_isCut 9 = .ok (.aload_n 0, 1) := by decide +kernel
theorem dX3_isCut_10 : decode cX3_isCut 10 = .ok (.dup, 1) := by decide +kernel
theorem dX3_isCut_11 : decode cX3_isCut 11 = .ok (.getfield 47, 3) := by decide +kernel
theorem dX3_isCut_14 : decode cX3_isCut 14 = .ok (.iconst 1, 1) := by decide +kernel
theorem dX3_isCut_15 : decode cX3_isCut 15 = .ok (.isub, 1) := by decide +kernel
theorem dX3_isCut_16 : decode cX3_isCut 16 = .ok (.putfield 47, 3) := by decide +kernel
theorem dX3_isCut_19 : decode cX3_isCut 19 = .ok (.aload_n 0, 1) := by decide +kernel
theorem dX3_isCut_20 : decode cX3_isCut 20 = .ok (.getfield 47, 3) := by decide +kernel
theorem dX3_isCut_23 : decode cX3_isCut 23 = .ok (.ifCond .le 5, 3) := by decide +kernel
theorem dX3_isCut_26 : decode cX3_isCut 26 = .ok (.iconst 0, 1) := by decide +kernel
theorem dX3_isCut_27 : decode cX3_isCut 27 = .ok (.ireturn, 1) := by decide +kernel
theorem dX3_isCut_28 : decode cX3_isCut 28 = .ok (.aload_n 0, 1) := by decide +kernel
theorem dX3_isCut_29 : decode cX3_isCut 29 = .ok (.iconst 0, 1) := by decide +kernel
theorem dX3_isCut_30 : decode cX3_isCut 30 = .ok (.putfield 25, 3) := by decide +kernel
theorem dX3_isCut_33 : decode cX3_isCut 33 = .ok (.iconst 1, 1) := by decide +kernel
theorem dX3_isCut_34 : decode cX3_isCut 34 = .ok (.ireturn, 1) := by decide +kernel
theorem dX3_used_0 : decode cX3_used 0 = .ok (.iconst 0, 1) := by decide +kernel
theorem dX3_used_1 : decode cX3_used 1 = .ok (.istore_n 2, 1) := by decide +kernel
theorem dX3_used_2 : decode cX3_used 2 = .ok (.bipush 16, 2) := by decide +kernel
theorem dX3_used_4 : decode cX3_used 4 = .ok (.iload_n 1, 1) := by decide +kernel
theorem dX3_used_5 : decode cX3_used 5 = .ok (.imul, 1) := by decide +kernel
theorem dX3_used_6 : decode cX3_used 6 = .ok (.istore_n 3, 1) := by decide +kernel
theorem dX3_used_7 : decode cX3_used 7 = .ok (.iload_n 3, 1) := by decide +kernel
theorem dX3_used_8 : decode cX3_used 8 = .ok (.bipush 16, 2) := by decide +kernel
theorem dX3_used_10 : decode cX3_used 10 = .ok (.iload_n 1, 1) := by decide +kernel
theorem dX3_used_11 : decode cX3_used 11 = .ok (.imul, 1) := by decide +kernel
theorem dX3_used_12 : decode cX3_used 12 = .ok (.bipush 16, 2) := by decide +kernel
theorem dX3_used_14 : decode cX3_used 14 = .ok (.iadd, 1) := by decide +kernel
theorem dX3_used_15 : decode cX3_used 15 = .ok (.if_icmp .ge 26, 3) := by decide +kernel
theorem dX3_used_18 : decode cX3_used 18 = .ok (.iload_n 2, 1) := by decide +kernel
theorem dX3_used_19 : decode cX3_used 19 = .ok (.aload_n 0, 1) := by decide +kernel
theorem dX3_used_20 : decode cX3_used 20 = .ok (.getfield 7, 3) := by decide +kernel
theorem dX3_used_23 : decode cX3_used 23 = .ok (.iload_n 3, 1) := by decide +kernel
theorem dX3_used_24 : decode cX3_used 24 = .ok (.iaload, 1) := by decide +kernel
theorem dX3_used_25 : decode cX3_used 25 = .ok (.ifCond .ne 7, 3) := by decide +kernel
theorem dX3_used_28 : decode cX3_used 28 = .ok (.iconst 0, 1) := by decide +kernel
theorem dX3_used_29 : decode cX3_used 29 = .ok (.goto 4, 3) := by decide +kernel
theorem dX3_used_32 : decode cX3_used 32 = .ok (.iconst 1, 1) := by decide +kernel
theorem dX3_used_33 : decode cX3_used 33 = .ok (.iadd, 1) := by decide +kernel
theorem dX3_used_34 : decode cX3_used 34 = .ok (.istore_n 2, 1) := by decide +kernel
theorem dX3_used_35 : decode cX3_used 35 = .ok (.iinc 3 1, 3) := by decide +kernel
theorem dX3_used_38 : decode cX3_used 38 = .ok (.goto (-31), 3) := by decide +kernel
theorem dX3_used_41 : decode cX3_used 41 = .ok (.iload_n 2, 1) := by decide +kernel
theorem dX3_used_42 : decode cX3_used 42 = .ok (.ireturn, 1) := by decide +kernel
theorem dX3_takesMore_0 : decode cX3_takesMore 0 = .ok (.aload_n 0, 1) := by decide +kernel
theorem dX3_takesMore_1 : decode cX3_takesMore 1 = .ok (.iload_n 1, 1) := by decide +kernel
theorem dX3_takesMore_2 : decode cX3_takesMore 2 = .ok (.invokevirtual 50, 3) := by decide +kernel
theorem dX3_takesMore_5 : decode cX3_takesMore 5 = .ok (.bipush 16, 2) := by decide +kernel
theorem dX3_takesMore_7 : decode cX3_takesMore 7 = .ok (.if_icmp .ge 7, 3) := by decide +kernel
theorem dX3_takesMore_10 : decode cX3_takesMore 10 = .ok (.iconst 1, 1) := by decide +kernel
theorem dX3_takesMore_11 : decode cX3_takesMore 11 = .ok (.goto 4, 3) := by decide +kernel
theorem dX3_takesMore_14 : decode cX3_takesMore 14 = .ok (.iconst 0, 1) := by decide +kernel
theorem dX3_takesMore_15 : decode cX3_takesMore 15 = .ok (.istore_n 2, 1) := by decide +kernel
theorem dX3_takesMore_16 : decode cX3_takesMore 16 = .ok (.bipush 16, 2) := by decide +kernel
theorem dX3_takesMore_18 : decode cX3_takesMore 18 = .ok (.iload_n 1, 1) := by decide +kernel
theorem dX3_takesMore_19 : decode cX3_takesMore 19 = .ok (.imul, 1) := by decide +kernel
theorem dX3_takesMore_20 : decode cX3_takesMore 20 = .ok (.bipush 8, 2) := by decide +kernel
theorem dX3_takesMore_22 : decode cX3_takesMore 22 = .ok (.iadd, 1) := by decide +kernel
theorem dX3_takesMore_23 : decode cX3_takesMore 23 = .ok (.istore_n 3, 1) := by decide +kernel
theorem dX3_takesMore_24 : decode cX3_takesMore 24 = .ok (.iload_n 3, 1) := by decide +kernel
theorem dX3_takesMore_25 : decode cX3_takesMore 25 = .ok (.bipush 16, 2) := by decide +kernel
theorem dX3_takesMore_27 : decode cX3_takesMore 27 = .ok (.iload_n 1, 1) := by decide +kernel
theorem dX3_takesMore_28 : decode cX3_takesMore 28 = .ok (.imul, 1) := by decide +kernel
theorem dX3_takesMore_29 : decode cX3_takesMore 29 = .ok (.bipush 16, 2) := by decide +kernel
theorem dX3_takesMore_31 : decode cX3_takesMore 31 = .ok (.iadd, 1) := by decide +kernel
theorem dX3_takesMore_32 : decode cX3_takesMore 32 = .ok (.if_icmp .ge 29, 3) := by decide +kernel
theorem dX3_takesMore_35 : decode cX3_takesMore 35 = .ok (.iload_n 2, 1) := by decide +kernel
theorem dX3_takesMore_36 : decode cX3_takesMore 36 = .ok (.ifCond .eq 17, 3) := by decide +kernel
theorem dX3_takesMore_39 : decode cX3_takesMore 39 = .ok (.aload_n 0, 1) := by decide +kernel
theorem dX3_takesMore_40 : decode cX3_takesMore 40 = .ok (.getfield 7, 3) := by decide +kernel
theorem dX3_takesMore_43 : decode cX3_takesMore 43 = .ok (.iload_n 3, 1) := by decide +kernel
theorem dX3_takesMore_44 : decode cX3_takesMore 44 = .ok (.iaload, 1) := by decide +kernel
theorem dX3_takesMore_45 : decode cX3_takesMore 45 = .ok (.iconst 2, 1) := by decide +kernel
theorem dX3_takesMore_46 : decode cX3_takesMore 46 = .ok (.if_icmp .eq 7, 3) := by decide +kernel
theorem dX3_takesMore_49 : decode cX3_takesMore 49 = .ok (.iconst 1, 1) := by decide +kernel
theorem dX3_takesMore_50 : decode cX3_takesMore 50 = .ok (.goto 4, 3) := by decide +kernel
theorem dX3_takesMore_53 : decode cX3_takesMore 53 = .ok (.iconst 0, 1) := by decide +kernel
theorem dX3_takesMore_54 : decode cX3_takesMore 54 = .ok (.istore_n 2, 1) := by decide +kernel
theorem dX3_takesMore_55 : decode cX3_takesMore 55 = .ok (.iinc 3 1, 3) := by decide +kernel
theorem dX3_takesMore_58 : decode cX3_takesMore 58 = .ok (.goto (-34), 3) := by decide +kernel
theorem dX3_takesMore_61 : decode cX3_takesMore 61 = .ok (.iload_n 2, 1) := by decide +kernel
theorem dX3_takesMore_62 : decode cX3_takesMore 62 = .ok (.ireturn, 1) := by decide +kernel
theorem dX3_isFull_0 : decode cX3_isFull 0 = .ok (.aload_n 0, 1) := by decide +kernel
theorem dX3_isFull_1 : decode cX3_isFull 1 = .ok (.aload_n 0, 1) := by decide +kernel
theorem dX3_isFull_2 : decode cX3_isFull 2 = .ok (.getfield 54, 3) := by decide +kernel
theorem dX3_isFull_5 : decode cX3_isFull 5 = .ok (.invokevirtual 57, 3) := by decide +kernel
theorem dX3_isFull_8 : decode cX3_isFull 8 = .ok (.ifCond .ne 23, 3) := by decide +kernel
theorem dX3_isFull_11 : decode cX3_isFull 11 = .ok (.aload_n 0, 1) := by decide +kernel
theorem dX3_isFull_12 : decode cX3_isFull 12 = .ok (.aload_n 0, 1) := by decide +kernel
theorem dX3_isFull_13 : decode cX3_isFull 13 = .ok (.getfield 54, 3) := by decide +kernel
theorem dX3_isFull_16 : decode cX3_isFull 16 = .ok (.iconst 1, 1) := by decide +kernel
theorem dX3_isFull_17 : decode cX3_isFull 17 = .ok (.iadd, 1) := by decide +kernel
theorem dX3_isFull_18 : decode cX3_isFull 18 = .ok (.bipush 6, 2) := by decide +kernel
theorem dX3_isFull_20 : decode cX3_isFull 20 = .ok (.irem, 1) := by decide +kernel
theorem dX3_isFull_21 : decode cX3_isFull 21 = .ok (.invokevirtual 60, 3) := by decide +kernel
theorem dX3_isFull_24 : decode cX3_isFull 24 = .ok (.ifCond .ne 7, 3) := by decide +kernel
theorem dX3_isFull_27 : decode cX3_isFull 27 = .ok (.iconst 1, 1) := by decide +kernel
theorem dX3_isFull_28 : decode cX3_isFull 28 = .ok (.goto 4, 3) := by decide +kernel
theorem dX3_isFull_31 : decode cX3_isFull 31 = .ok (.iconst 0, 1) := by decide +kernel
theorem dX3_isFull_32 : decode cX3_isFull 32 = .ok (.ireturn, 1) := by decide +kernel
theorem dX3_writeGuard_0 : decode cX3_writeGuard 0 = .ok (.aload_n 0, 1) := by decide +kernel
theorem dX3_writeGuard_1 : decode cX3_writeGuard 1 = .ok (.getfield 54, 3) := by decide +kernel
theorem dX3_writeGuard_4 : decode cX3_writeGuard 4 = .ok (.istore_n 1, 1) := by decide +kernel
theorem dX3_writeGuard_5 : decode cX3_writeGuard 5 = .ok (.aload_n 0, 1) := by decide +kernel
theorem dX3_writeGuard_6 : decode cX3_writeGuard 6 = .ok (.getfield 16, 3) := by decide +kernel
theorem dX3_writeGuard_9 : decode cX3_writeGuard 9 = .ok (.iload_n 1, 1) := by decide +kernel
theorem dX3_writeGuard_10 : decode cX3_writeGuard 10 = .ok (.iconst 0, 1) := by decide +kernel
theorem dX3_writeGuard_11 : decode cX3_writeGuard 11 = .ok (.iastore, 1) := by decide +kernel
theorem dX3_writeGuard_12 : decode cX3_writeGuard 12 = .ok (.aload_n 0, 1) := by decide +kernel
theorem dX3_writeGuard_13 : decode cX3_writeGuard 13 = .ok (.invokevirtual 63, 3) := by decide +kernel
theorem dX3_writeGuard_16 : decode cX3_writeGuard 16 = .ok (.ifCond .eq 12, 3) := by decide +kernel
theorem dX3_writeGuard_19 : decode cX3_writeGuard 19 = .ok (.aload_n 0, 1) := by decide +kernel
theorem dX3_writeGuard_20 : decode cX3_writeGuard 20 = .ok (.getfield 16, 3) := by decide +kernel
theorem dX3_writeGuard_23 : decode cX3_writeGuard 23 = .ok (.iload_n 1, 1) := by decide +kernel
theorem dX3_writeGuard_24 : decode cX3_writeGuard 24 = .ok (.iconst 2, 1) := by decide +kernel
theorem dX3_writeGuard_25 : decode cX3_writeGuard 25 = .ok (.iastore, 1) := by decide +kernel
theorem dX3_writeGuard_26 : decode cX3_writeGuard 26 = .ok (.iconst 0, 1) := by decide +kernel
theorem dX3_writeGuard_27 : decode cX3_writeGuard 27 = .ok (.ireturn, 1) := by decide +kernel
theorem dX3_writeGuard_28 : decode cX3_writeGuard 28 = .ok (.iconst 0, 1) := by decide +kernel
theorem dX3_writeGuard_29 : decode cX3_writeGuard 29 = .ok (.istore_n 2, 1) := by decide +kernel
theorem dX3_writeGuard_30 : decode cX3_writeGuard 30 = .ok (.iload_n 2, 1) := by decide +kernel
theorem dX3_writeGuard_31 : decode cX3_writeGuard 31 = .ok (.bipush 17, 2) := by decide +kernel
theorem dX3_writeGuard_33 : decode cX3_writeGuard 33 = .ok (.if_icmp .ge 21, 3) := by decide +kernel
theorem dX3_writeGuard_36 : decode cX3_writeGuard 36 = .ok (.aload_n 0, 1) := by decide +kernel
theorem dX3_writeGuard_37 : decode cX3_writeGuard 37 = .ok (.getfield 19, 3) := by decide +kernel
theorem dX3_writeGuard_40 : decode cX3_writeGuard 40 = .ok (.bipush 17, 2) := by decide +kernel
theorem dX3_writeGuard_42 : decode cX3_writeGuard 42 = .ok (.iload_n 1, 1) := by decide +kernel
theorem dX3_writeGuard_43 : decode cX3_writeGuard 43 = .ok (.imul, 1) := by decide +kernel
theorem dX3_writeGuard_44 : decode cX3_writeGuard 44 = .ok (.iload_n 2, 1) := by decide +kernel
theorem dX3_writeGuard_45 : decode cX3_writeGuard 45 = .ok (.iadd, 1) := by decide +kernel
theorem dX3_writeGuard_46 : decode cX3_writeGuard 46 = .ok (.iconst 0, 1) := by decide +kernel
theorem dX3_writeGuard_47 : decode cX3_writeGuard 47 = .ok (.iastore, 1) := by decide +kernel
theorem dX3_writeGuard_48 : decode cX3_writeGuard 48 = .ok (.iinc 2 1, 3) := by decide +kernel
theorem dX3_writeGuard_51 : decode cX3_writeGuard 51 = .ok (.goto (-21), 3) := by decide +kernel
theorem dX3_writeGuard_54 : decode cX3_writeGuard 54 = .ok (.iconst 0, 1) := by decide +kernel
theorem dX3_writeGuard_55 : decode cX3_writeGuard 55 = .ok (.istore_n 2, 1) := by decide +kernel
theorem dX3_writeGuard_56 : decode cX3_writeGuard 56 = .ok (.iload_n 2, 1) := by decide +kernel
theorem dX3_writeGuard_57 : decode cX3_writeGuard 57 = .ok (.bipush 8, 2) := by decide +kernel
theorem dX3_writeGuard_59 : decode cX3_writeGuard 59 = .ok (.if_icmp .ge 90, 3) := by decide +kernel
theorem dX3_writeGuard_62 : decode cX3_writeGuard 62 = .ok (.bipush 16, 2) := by decide +kernel
theorem dX3_writeGuard_64 : decode cX3_writeGuard 64 = .ok (.iload_n 1, 1) := by decide +kernel
theorem dX3_writeGuard_65 : decode cX3_writeGuard 65 = .ok (.imul, 1) := by decide +kernel
theorem dX3_writeGuard_66 : decode cX3_writeGuard 66 = .ok (.iload_n 2, 1) := by decide +kernel
theorem dX3_writeGuard_67 : decode cX3_writeGuard 67 = .ok (.iadd, 1) := by decide +kernel
theorem dX3_writeGuard_68 : decode cX3_writeGuard 68 = .ok (.istore_n 3, 1) := by decide +kernel
theorem dX3_writeGuard_69 : decode cX3_writeGuard 69 = .ok (.aload_n 0, 1) := by decide +kernel
theorem dX3_writeGuard_70 : decode cX3_writeGuard 70 = .ok (.getfield 7, 3) := by decide +kernel
theorem dX3_writeGuard_73 : decode cX3_writeGuard 73 = .ok (.iload_n 3, 1) := by decide +kernel
theorem dX3_writeGuard_74 : decode cX3_writeGuard 74 = .ok (.iaload, 1) := by decide +kernel
theorem dX3_writeGuard_75 : decode cX3_writeGuard 75 = .ok (.iconst 1, 1) := by decide +kernel
theorem dX3_writeGuard_76 : decode cX3_writeGuard 76 = .ok (.if_icmp .eq 6, 3) := by decide +kernel
theorem dX3_writeGuard_79 : decode cX3_writeGuard 79 = .ok (.goto 64, 3) := by decide +kernel
theorem dX3_writeGuard_82 : decode cX3_writeGuard 82 = .ok (.iconst 0, 1) := by decide +kernel
theorem dX3_writeGuard_83 : decode cX3_writeGuard 83 = .ok (.istore 4, 2) := by decide +kernel
theorem dX3_writeGuard_85 : decode cX3_writeGuard 85 = .ok (.iload 4, 2) := by decide +kernel
theorem dX3_writeGuard_87 : decode cX3_writeGuard 87 = .ok (.bipush 16, 2) := by decide +kernel
theorem dX3_writeGuard_89 : decode cX3_writeGuard 89 = .ok (.if_icmp .ge 36, 3) := by decide +kernel
theorem dX3_writeGuard_92 : decode cX3_writeGuard 92 = .ok (.aload_n 0, 1) := by decide +kernel
theorem dX3_writeGuard_93 : decode cX3_writeGuard 93 = .ok (.getfield 19, 3) := by decide +kernel
theorem dX3_writeGuard_96 : decode cX3_writeGuard 96 = .ok (.bipush 17, 2) := by decide +kernel
theorem dX3_writeGuard_98 : decode cX3_writeGuard 98 = .ok (.iload_n 1, 1) := by decide +kernel
theorem dX3_writeGuard_99 : decode cX3_writeGuard 99 = .ok (.imul, 1) := by decide +kernel
theorem dX3_writeGuard_100 : decode cX3_writeGuard 100 = .ok (.iload 4, 2) := by decide +kernel
theorem dX3_writeGuard_102 : decode cX3_writeGuard 102 = .ok (.iadd, 1) := by decide +kernel
theorem dX3_writeGuard_103 : decode cX3_writeGuard 103 = .ok (.dup2, 1) := by decide +kernel
theorem dX3_writeGuard_104 : decode cX3_writeGuard 104 = .ok (.iaload, 1) := by decide +kernel
theorem dX3_writeGuard_105 : decode cX3_writeGuard 105 = .ok (.aload_n 0, 1) := by decide +kernel
theorem dX3_writeGuard_106 : decode cX3_writeGuard 106 = .ok (.getfield 13, 3) := by decide +kernel
theorem dX3_writeGuard_109 : decode cX3_writeGuard 109 = .ok (.bipush 16, 2) := by decide +kernel
theorem dX3_writeGuard_111 : decode cX3_writeGuard 111 = .ok (.iload_n 3, 1) := by decide +kernel
theorem dX3_writeGuard_112 : decode cX3_writeGuard 112 = .ok (.imul, 1) := by decide +kernel
theorem dX3_writeGuard_113 : decode cX3_writeGuard 113 = .ok (.iload 4, 2) := by decide +kernel
theorem dX3_writeGuard_115 : decode cX3_writeGuard 115 = .ok (.iadd, 1) := by decide +kernel
theorem dX3_writeGuard_116 : decode cX3_writeGuard 116 = .ok (.iaload, 1) := by decide +kernel
theorem dX3_writeGuard_117 : decode cX3_writeGuard 117 = .ok (.ixor, 1) := by decide +kernel
theorem dX3_writeGuard_118 : decode cX3_writeGuard 118 = .ok (.iastore, 1) := by decide +kernel
theorem dX3_writeGuard_119 : decode cX3_writeGuard 119 = .ok (.iinc 4 1, 3) := by decide +kernel
theorem dX3_writeGuard_122 : decode cX3_writeGuard 122 = .ok (.goto (-37), 3) := by decide +kernel
theorem dX3_writeGuard_125 : decode cX3_writeGuard 125 = .ok (.aload_n 0, 1) := by decide +kernel
theorem dX3_writeGuard_126 : decode cX3_writeGuard 126 = .ok (.getfield 19, 3) := by decide +kernel
theorem dX3_writeGuard_129 : decode cX3_writeGuard 129 = .ok (.bipush 17, 2) := by decide +kernel
theorem dX3_writeGuard_131 : decode cX3_writeGuard 131 = .ok (.iload_n 1, 1) := by decide +kernel
theorem dX3_writeGuard_132 : decode cX3_writeGuard 132 = .ok (.imul, 1) := by decide +kernel
theorem dX3_writeGuard_133 : decode cX3_writeGuard 133 = .ok (.bipush 16, 2) := by decide +kernel
theorem dX3_writeGuard_135 : decode cX3_writeGuard 135 = .ok (.iadd, 1) := by decide +kernel
theorem dX3_writeGuard_136 : decode cX3_writeGuard 136 = .ok (.dup2, 1) := by decide +kernel
theorem dX3_writeGuard_137 : decode cX3_writeGuard 137 = .ok (.iaload, 1) := by decide +kernel
theorem dX3_writeGuard_138 : decode cX3_writeGuard 138 = .ok (.iconst 1, 1) := by decide +kernel
theorem dX3_writeGuard_139 : decode cX3_writeGuard 139 = .ok (.iload_n 2, 1) := by decide +kernel
theorem dX3_writeGuard_140 : decode cX3_writeGuard 140 = .ok (.ishl, 1) := by decide +kernel
theorem dX3_writeGuard_141 : decode cX3_writeGuard 141 = .ok (.ior, 1) := by decide +kernel
theorem dX3_writeGuard_142 : decode cX3_writeGuard 142 = .ok (.iastore, 1) := by decide +kernel
theorem dX3_writeGuard_143 : decode cX3_writeGuard 143 = .ok (.iinc 2 1, 3) := by decide +kernel
theorem dX3_writeGuard_146 : decode cX3_writeGuard 146 = .ok (.goto (-90), 3) := by decide +kernel
theorem dX3_writeGuard_149 : decode cX3_writeGuard 149 = .ok (.aload_n 0, 1) := by decide +kernel
theorem dX3_writeGuard_150 : decode cX3_writeGuard 150 = .ok (.getfield 16, 3) := by decide +kernel
theorem dX3_writeGuard_153 : decode cX3_writeGuard 153 = .ok (.iload_n 1, 1) := by decide +kernel
theorem dX3_writeGuard_154 : decode cX3_writeGuard 154 = .ok (.iconst 1, 1) := by decide +kernel
theorem dX3_writeGuard_155 : decode cX3_writeGuard 155 = .ok (.iastore, 1) := by decide +kernel
theorem dX3_writeGuard_156 : decode cX3_writeGuard 156 = .ok (.iconst 1, 1) := by decide +kernel
theorem dX3_writeGuard_157 : decode cX3_writeGuard 157 = .ok (.ireturn, 1) := by decide +kernel
theorem dX3_empty_0 : decode cX3_empty 0 = .ok (.aload_n 0, 1) := by decide +kernel
theorem dX3_empty_1 : decode cX3_empty 1 = .ok (.iconst 0, 1) := by decide +kernel
theorem dX3_empty_2 : decode cX3_empty 2 = .ok (.putfield 67, 3) := by decide +kernel
theorem dX3_empty_5 : decode cX3_empty 5 = .ok (.aload_n 0, 1) := by decide +kernel
theorem dX3_empty_6 : decode cX3_empty 6 = .ok (.iconst 3, 1) := by decide +kernel
theorem dX3_empty_7 : decode cX3_empty 7 = .ok (.putfield 29, 3) := by decide +kernel
theorem dX3_empty_10 : decode cX3_empty 10 = .ok (.iconst 0, 1) := by decide +kernel
theorem dX3_empty_11 : decode cX3_empty 11 = .ok (.istore_n 1, 1) := by decide +kernel
theorem dX3_empty_12 : decode cX3_empty 12 = .ok (.iload_n 1, 1) := by decide +kernel
theorem dX3_empty_13 : decode cX3_empty 13 = .ok (.bipush 16, 2) := by decide +kernel
theorem dX3_empty_15 : decode cX3_empty 15 = .ok (.if_icmp .ge 16, 3) := by decide +kernel
theorem dX3_empty_18 : decode cX3_empty 18 = .ok (.aload_n 0, 1) := by decide +kernel
theorem dX3_empty_19 : decode cX3_empty 19 = .ok (.getfield 33, 3) := by decide +kernel
theorem dX3_empty_22 : decode cX3_empty 22 = .ok (.iload_n 1, 1) := by decide +kernel
theorem dX3_empty_23 : decode cX3_empty 23 = .ok (.iconst 0, 1) := by decide +kernel
theorem dX3_empty_24 : decode cX3_empty 24 = .ok (.iastore, 1) := by decide +kernel
theorem dX3_empty_25 : decode cX3_empty 25 = .ok (.iinc 1 1, 3) := by decide +kernel
theorem dX3_empty_28 : decode cX3_empty 28 = .ok (.goto (-16), 3) := by decide +kernel
theorem dX3_empty_31 : decode cX3_empty 31 = .ok (.return_, 1) := by decide +kernel
theorem dX3_flush_0 : decode cX3_flush 0 = .ok (.aload_n 0, 1) := by decide +kernel
theorem dX3_flush_1 : decode cX3_flush 1 = .ok (.aload_n 0, 1) := by decide +kernel
theorem dX3_flush_2 : decode cX3_flush 2 = .ok (.getfield 54, 3) := by decide +kernel
theorem dX3_flush_5 : decode cX3_flush 5 = .ok (.invokevirtual 57, 3) := by decide +kernel
theorem dX3_flush_8 : decode cX3_flush 8 = .ok (.ifCond .ne 16, 3) := by decide +kernel
theorem dX3_flush_11 : decode cX3_flush 11 = .ok (.aload_n 0, 1) := by decide +kernel
theorem dX3_flush_12 : decode cX3_flush 12 = .ok (.aload_n 0, 1) := by decide +kernel
theorem dX3_flush_13 : decode cX3_flush 13 = .ok (.getfield 54, 3) := by decide +kernel
theorem dX3_flush_16 : decode cX3_flush 16 = .ok (.iconst 1, 1) := by decide +kernel
theorem dX3_flush_17 : decode cX3_flush 17 = .ok (.iadd, 1) := by decide +kernel
theorem dX3_flush_18 : decode cX3_flush 18 = .ok (.bipush 6, 2) := by decide +kernel
theorem dX3_flush_20 : decode cX3_flush 20 = .ok (.irem, 1) := by decide +kernel
theorem dX3_flush_21 : decode cX3_flush 21 = .ok (.putfield 54, 3) := by decide +kernel
theorem dX3_flush_24 : decode cX3_flush 24 = .ok (.bipush 16, 2) := by decide +kernel
theorem dX3_flush_26 : decode cX3_flush 26 = .ok (.aload_n 0, 1) := by decide +kernel
theorem dX3_flush_27 : decode cX3_flush 27 = .ok (.getfield 54, 3) := by decide +kernel
theorem dX3_flush_30 : decode cX3_flush 30 = .ok (.imul, 1) := by decide +kernel
theorem dX3_flush_31 : decode cX3_flush 31 = .ok (.aload_n 0, 1) := by decide +kernel
theorem dX3_flush_32 : decode cX3_flush 32 = .ok (.aload_n 0, 1) := by decide +kernel
theorem dX3_flush_33 : decode cX3_flush 33 = .ok (.getfield 54, 3) := by decide +kernel
theorem dX3_flush_36 : decode cX3_flush 36 = .ok (.invokevirtual 50, 3) := by decide +kernel
theorem dX3_flush_39 : decode cX3_flush 39 = .ok (.iadd, 1) := by decide +kernel
theorem dX3_flush_40 : decode cX3_flush 40 = .ok (.istore_n 1, 1) := by decide +kernel
theorem dX3_flush_41 : decode cX3_flush 41 = .ok (.iload_n 1, 1) := by decide +kernel
theorem dX3_flush_42 : decode cX3_flush 42 = .ok (.bipush 16, 2) := by decide +kernel
theorem dX3_flush_44 : decode cX3_flush 44 = .ok (.irem, 1) := by decide +kernel
theorem dX3_flush_45 : decode cX3_flush 45 = .ok (.bipush 8, 2) := by decide +kernel
theorem dX3_flush_47 : decode cX3_flush 47 = .ok (.if_icmp .ne 12, 3) := by decide +kernel
theorem dX3_flush_50 : decode cX3_flush 50 = .ok (.aload_n 0, 1) := by decide +kernel
theorem dX3_flush_51 : decode cX3_flush 51 = .ok (.invokevirtual 70, 3) := by decide +kernel
theorem dX3_flush_54 : decode cX3_flush 54 = .ok (.ifCond .ne 5, 3) := by decide +kernel
theorem dX3_flush_57 : decode cX3_flush 57 = .ok (.iconst 0, 1) := by decide +kernel
theorem dX3_flush_58 : decode cX3_flush 58 = .ok (.ireturn, 1) := by decide +kernel
theorem dX3_flush_59 : decode cX3_flush 59 = .ok (.aload_n 0, 1) := by decide +kernel
theorem dX3_flush_60 : decode cX3_flush 60 = .ok (.invokevirtual 63, 3) := by decide +kernel
theorem dX3_flush_63 : decode cX3_flush 63 = .ok (.ifCond .eq 31, 3) := by decide +kernel
theorem dX3_flush_66 : decode cX3_flush 66 = .ok (.aload_n 0, 1) := by decide +kernel
theorem dX3_flush_67 : decode cX3_flush 67 = .ok (.getfield 7, 3) := by decide +kernel
theorem dX3_flush_70 : decode cX3_flush 70 = .ok (.iload_n 1, 1) := by decide +kernel
theorem dX3_flush_71 : decode cX3_flush 71 = .ok (.iconst 2, 1) := by decide +kernel
theorem dX3_flush_72 : decode cX3_flush 72 = .ok (.iastore, 1) := by decide +kernel
theorem dX3_flush_73 : decode cX3_flush 73 = .ok (.iload_n 1, 1) := by decide +kernel
theorem dX3_flush_74 : decode cX3_flush 74 = .ok (.bipush 16, 2) := by decide +kernel
theorem dX3_flush_76 : decode cX3_flush 76 = .ok (.irem, 1) := by decide +kernel
theorem dX3_flush_77 : decode cX3_flush 77 = .ok (.bipush 7, 2) := by decide +kernel
theorem dX3_flush_79 : decode cX3_flush 79 = .ok (.if_icmp .le 13, 3) := by decide +kernel
theorem dX3_flush_82 : decode cX3_flush 82 = .ok (.aload_n 0, 1) := by decide +kernel
theorem dX3_flush_83 : decode cX3_flush 83 = .ok (.getfield 7, 3) := by decide +kernel
theorem dX3_flush_86 : decode cX3_flush 86 = .ok (.iload_n 1, 1) := by decide +kernel
theorem dX3_flush_87 : decode cX3_flush 87 = .ok (.bipush 8, 2) := by decide +kernel
theorem dX3_flush_89 : decode cX3_flush 89 = .ok (.isub, 1) := by decide +kernel
theorem dX3_flush_90 : decode cX3_flush 90 = .ok (.iconst 2, 1) := by decide +kernel
theorem dX3_flush_91 : decode cX3_flush 91 = .ok (.iastore, 1) := by decide +kernel
theorem dX3_flush_92 : decode cX3_flush 92 = .ok (.iconst 0, 1) := by decide +kernel
theorem dX3_flush_93 : decode cX3_flush 93 = .ok (.ireturn, 1) := by decide +kernel
theorem dX3_flush_94 : decode cX3_flush 94 = .ok (.aload_n 0, 1) := by decide +kernel
theorem dX3_flush_95 : decode cX3_flush 95 = .ok (.getfield 73, 3) := by decide +kernel
theorem dX3_flush_98 : decode cX3_flush 98 = .ok (.aload_n 0, 1) := by decide +kernel
theorem dX3_flush_99 : decode cX3_flush 99 = .ok (.getfield 67, 3) := by decide +kernel
theorem dX3_flush_102 : decode cX3_flush 102 = .ok (.isub, 1) := by decide +kernel
theorem dX3_flush_103 : decode cX3_flush 103 = .ok (.istore_n 2, 1) := by decide +kernel
theorem dX3_flush_104 : decode cX3_flush 104 = .ok (.aload_n 0, 1) := by decide +kernel
theorem dX3_flush_105 : decode cX3_flush 105 = .ok (.getfield 33, 3) := by decide +kernel
theorem dX3_flush_108 : decode cX3_flush 108 = .ok (.iconst 0, 1) := by decide +kernel
theorem dX3_flush_109 : decode cX3_flush 109 = .ok (.aload_n 0, 1) := by decide +kernel
theorem dX3_flush_110 : decode cX3_flush 110 = .ok (.getfield 67, 3) := by decide +kernel
theorem dX3_flush_113 : decode cX3_flush 113 = .ok (.iastore, 1) := by decide +kernel
theorem dX3_flush_114 : decode cX3_flush 114 = .ok (.aload_n 0, 1) := by decide +kernel
theorem dX3_flush_115 : decode cX3_flush 115 = .ok (.getfield 33, 3) := by decide +kernel
theorem dX3_flush_118 : decode cX3_flush 118 = .ok (.iconst 1, 1) := by decide +kernel
theorem dX3_flush_119 : decode cX3_flush 119 = .ok (.iload_n 2, 1) := by decide +kernel
theorem dX3_flush_120 : decode cX3_flush 120 = .ok (.bipush 8, 2) := by decide +kernel
theorem dX3_flush_122 : decode cX3_flush 122 = .ok (.ishr, 1) := by decide +kernel
theorem dX3_flush_123 : decode cX3_flush 123 = .ok (.sipush 255, 3) := by decide +kernel
theorem dX3_flush_126 : decode cX3_flush 126 = .ok (.iand, 1) := by decide +kernel
theorem dX3_flush_127 : decode cX3_flush 127 = .ok (.iastore, 1) := by decide +kernel
theorem dX3_flush_128 : decode cX3_flush 128 = .ok (.aload_n 0, 1) := by decide +kernel
theorem dX3_flush_129 : decode cX3_flush 129 = .ok (.getfield 33, 3) := by decide +kernel
theorem dX3_flush_132 : decode cX3_flush 132 = .ok (.iconst 2, 1) := by decide +kernel
theorem dX3_flush_133 : decode cX3_flush 133 = .ok (.iload_n 2, 1) := by decide +kernel
theorem dX3_flush_134 : decode cX3_flush 134 = .ok (.sipush 255, 3) := by decide +kernel
theorem dX3_flush_137 : decode cX3_flush 137 = .ok (.iand, 1) := by decide +kernel
theorem dX3_flush_138 : decode cX3_flush 138 = .ok (.iastore, 1) := by decide +kernel
theorem dX3_flush_139 : decode cX3_flush 139 = .ok (.iconst 0, 1) := by decide +kernel
theorem dX3_flush_140 : decode cX3_flush 140 = .ok (.istore_n 3, 1) := by decide +kernel
theorem dX3_flush_141 : decode cX3_flush 141 = .ok (.iload_n 3, 1) := by decide +kernel
theorem dX3_flush_142 : decode cX3_flush 142 = .ok (.bipush 16, 2) := by decide +kernel
theorem dX3_flush_144 : decode cX3_flush 144 = .ok (.if_icmp .ge 26, 3) := by decide +kernel
theorem dX3_flush_147 : decode cX3_flush 147 = .ok (.aload_n 0, 1) := by decide +kernel
theorem dX3_flush_148 : decode cX3_flush 148 = .ok (.getfield 13, 3) := by decide +kernel
theorem dX3_flush_151 : decode cX3_flush 151 = .ok (.bipush 16, 2) := by decide +kernel
theorem dX3_flush_153 : decode cX3_flush 153 = .ok (.iload_n 1, 1) := by decide +kernel
theorem dX3_flush_154 : decode cX3_flush 154 = .ok (.imul, 1) := by decide +kernel
theorem dX3_flush_155 : decode cX3_flush 155 = .ok (.iload_n 3, 1) := by decide +kernel
theorem dX3_flush_156 : decode cX3_flush 156 = .ok (.iadd, 1) := by decide +kernel
theorem dX3_flush_157 : decode cX3_flush 157 = .ok (.aload_n 0, 1) := by decide +kernel
theorem dX3_flush_158 : decode cX3_flush 158 = .ok (.getfield 33, 3) := by decide +kernel
theorem dX3_flush_161 : decode cX3_flush 161 = .ok (.iload_n 3, 1) := by decide +kernel
theorem dX3_flush_162 : decode cX3_flush 162 = .ok (.iaload, 1) := by decide +kernel
theorem dX3_flush_163 : decode cX3_flush 163 = .ok (.iastore, 1) := by decide +kernel
theorem dX3_flush_164 : decode cX3_flush 164 = .ok (.iinc 3 1, 3) := by decide +kernel
theorem dX3_flush_167 : decode cX3_flush 167 = .ok (.goto (-26), 3) := by decide +kernel
theorem dX3_flush_170 : decode cX3_flush 170 = .ok (.aload_n 0, 1) := by decide +kernel
theorem dX3_flush_171 : decode cX3_flush 171 = .ok (.getfield 7, 3) := by decide +kernel
theorem dX3_flush_174 : decode cX3_flush 174 = .ok (.iload_n 1, 1) := by decide +kernel
theorem dX3_flush_175 : decode cX3_flush 175 = .ok (.iconst 1, 1) := by decide +kernel
theorem dX3_flush_176 : decode cX3_flush 176 = .ok (.iastore, 1) := by decide +kernel
theorem dX3_flush_177 : decode cX3_flush 177 = .ok (.aload_n 0, 1) := by decide +kernel
theorem dX3_flush_178 : decode cX3_flush 178 = .ok (.invokevirtual 76, 3) := by decide +kernel
theorem dX3_flush_181 : decode cX3_flush 181 = .ok (.iconst 1, 1) := by decide +kernel
theorem dX3_flush_182 : decode cX3_flush 182 = .ok (.ireturn, 1) := by decide +kernel
theorem dX3_append_0 : decode cX3_append 0 = .ok (.aload_n 0, 1) := by decide +kernel
theorem dX3_append_1 : decode cX3_append 1 = .ok (.aload_n 0, 1) := by decide +kernel
theorem dX3_append_2 : decode cX3_append 2 = .ok (.getfield 25, 3) := by decide +kernel
theorem dX3_append_5 : decode cX3_append 5 = .ok (.ifCond .ne 7, 3) := by decide +kernel
theorem dX3_append_8 : decode cX3_append 8 = .ok (.iconst 1, 1) := by decide +kernel
theorem dX3_append_9 : decode cX3_append 9 = .ok (.goto 19, 3) := by decide +kernel
theorem dX3_append_12 : decode cX3_append 12 = .ok (.iload_n 1, 1) := by decide +kernel
theorem dX3_append_13 : decode cX3_append 13 = .ok (.iconst 1, 1) := by decide +kernel
theorem dX3_append_14 : decode cX3_append 14 = .ok (.if_icmp .lt 9, 3) := by decide +kernel
theorem dX3_append_17 : decode cX3_append 17 = .ok (.iload_n 1, 1) := by decide +kernel
theorem dX3_append_18 : decode cX3_append 18 = .ok (.bipush 6, 2) := by decide +kernel
theorem dX3_append_20 : decode cX3_append 20 = .ok (.if_icmp .le 7, 3) := by decide +kernel
theorem dX3_append_23 : decode cX3_append 23 = .ok (.iconst 2, 1) := by decide +kernel
theorem dX3_append_24 : decode cX3_append 24 = .ok (.goto 4, 3) := by decide +kernel
theorem dX3_append_27 : decode cX3_append 27 = .ok (.iconst 0, 1) := by decide +kernel
theorem dX3_append_28 : decode cX3_append 28 = .ok (.putfield 36, 3) := by decide +kernel
theorem dX3_append_31 : decode cX3_append 31 = .ok (.aload_n 0, 1) := by decide +kernel
theorem dX3_append_32 : decode cX3_append 32 = .ok (.getfield 36, 3) := by decide +kernel
theorem dX3_append_35 : decode cX3_append 35 = .ok (.ifCond .eq 5, 3) := by decide +kernel
theorem dX3_append_38 : decode cX3_append 38 = .ok (.iconst 0, 1) := by decide +kernel
theorem dX3_append_39 : decode cX3_append 39 = .ok (.ireturn, 1) := by decide +kernel
theorem dX3_append_40 : decode cX3_append 40 = .ok (.aload_n 0, 1) := by decide +kernel
theorem dX3_append_41 : decode cX3_append 41 = .ok (.getfield 29, 3) := by decide +kernel
theorem dX3_append_44 : decode cX3_append 44 = .ok (.iconst 1, 1) := by decide +kernel
theorem dX3_append_45 : decode cX3_append 45 = .ok (.iadd, 1) := by decide +kernel
theorem dX3_append_46 : decode cX3_append 46 = .ok (.iload_n 1, 1) := by decide +kernel
theorem dX3_append_47 : decode cX3_append 47 = .ok (.iadd, 1) := by decide +kernel
theorem dX3_append_48 : decode cX3_append 48 = .ok (.bipush 16, 2) := by decide +kernel
theorem dX3_append_50 : decode cX3_append 50 = .ok (.if_icmp .le 38, 3) := by decide +kernel
theorem dX3_append_53 : decode cX3_append 53 = .ok (.aload_n 0, 1) := by decide +kernel
theorem dX3_append_54 : decode cX3_append 54 = .ok (.aload_n 0, 1) := by decide +kernel
theorem dX3_append_55 : decode cX3_append 55 = .ok (.invokevirtual 79, 3) := by decide +kernel
theorem dX3_append_58 : decode cX3_append 58 = .ok (.ifCond .eq 7, 3) := by decide +kernel
theorem dX3_append_61 : decode cX3_append 61 = .ok (.iconst 3, 1) := by decide +kernel
theorem dX3_append_62 : decode cX3_append 62 = .ok (.goto 4, 3) := by decide +kernel
theorem dX3_append_65 : decode cX3_append 65 = .ok (.iconst 0, 1) := by decide +kernel
theorem dX3_append_66 : decode cX3_append 66 = .ok (.putfield 36, 3) := by decide +kernel
theorem dX3_append_69 : decode cX3_append 69 = .ok (.aload_n 0, 1) := by decide +kernel
theorem dX3_append_70 : decode cX3_append 70 = .ok (.getfield 36, 3) := by decide +kernel
theorem dX3_append_73 : decode cX3_append 73 = .ok (.ifCond .eq 5, 3) := by decide +kernel
theorem dX3_append_76 : decode cX3_append 76 = .ok (.iconst 0, 1) := by decide +kernel
theorem dX3_append_77 : decode cX3_append 77 = .ok (.ireturn, 1) := by decide +kernel
theorem dX3_append_78 : decode cX3_append 78 = .ok (.aload_n 0, 1) := by decide +kernel
theorem dX3_append_79 : decode cX3_append 79 = .ok (.invokevirtual 82, 3) := by decide +kernel
theorem dX3_append_82 : decode cX3_append 82 = .ok (.ifCond .ne 6, 3) := by decide +kernel
theorem dX3_append_85 : decode cX3_append 85 = .ok (.bipush (-2), 2) := by decide +kernel
theorem dX3_append_87 : decode cX3_append 87 = .ok (.ireturn, 1) := by decide +kernel
theorem dX3_append_88 : decode cX3_append 88 = .ok (.aload_n 0, 1) := by decide +kernel
theorem dX3_append_89 : decode cX3_append 89 = .ok (.getfield 33, 3) := by decide +kernel
theorem dX3_append_92 : decode cX3_append 92 = .ok (.aload_n 0, 1) := by decide +kernel
theorem dX3_append_93 : decode cX3_append 93 = .ok (.getfield 29, 3) := by decide +kernel
theorem dX3_append_96 : decode cX3_append 96 = .ok (.iload_n 1, 1) := by decide +kernel
theorem dX3_append_97 : decode cX3_append 97 = .ok (.iastore, 1) := by decide +kernel
theorem dX3_append_98 : decode cX3_append 98 = .ok (.iconst 0, 1) := by decide +kernel
theorem dX3_append_99 : decode cX3_append 99 = .ok (.istore 4, 2) := by decide +kernel
theorem dX3_append_101 : decode cX3_append 101 = .ok (.iload 4, 2) := by decide +kernel
theorem dX3_append_103 : decode cX3_append 103 = .ok (.iload_n 1, 1) := by decide +kernel
theorem dX3_append_104 : decode cX3_append 104 = .ok (.if_icmp .ge 35, 3) := by decide +kernel
theorem dX3_append_107 : decode cX3_append 107 = .ok (.aload_n 0, 1) := by decide +kernel
theorem dX3_append_108 : decode cX3_append 108 = .ok (.getfield 33, 3) := by decide +kernel
theorem dX3_append_111 : decode cX3_append 111 = .ok (.aload_n 0, 1) := by decide +kernel
theorem dX3_append_112 : decode cX3_append 112 = .ok (.getfield 29, 3) := by decide +kernel
theorem dX3_append_115 : decode cX3_append 115 = .ok (.iconst 1, 1) := by decide +kernel
theorem dX3_append_116 : decode cX3_append 116 = .ok (.iadd, 1) := by decide +kernel
theorem dX3_append_117 : decode cX3_append 117 = .ok (.iload 4, 2) := by decide +kernel
theorem dX3_append_119 : decode cX3_append 119 = .ok (.iadd, 1) := by decide +kernel
theorem dX3_append_120 : decode cX3_append 120 = .ok (.lload_n 2, 1) := by decide +kernel
theorem dX3_append_121 : decode cX3_append 121 = .ok (.bipush 8, 2) := by decide +kernel
theorem dX3_append_123 : decode cX3_append 123 = .ok (.iload 4, 2) := by decide +kernel
theorem dX3_append_125 : decode cX3_append 125 = .ok (.imul, 1) := by decide +kernel
theorem dX3_append_126 : decode cX3_append 126 = .ok (.lshr, 1) := by decide +kernel
theorem dX3_append_127 : decode cX3_append 127 = .ok (.ldc2_w 85, 3) := by decide +kernel
theorem dX3_append_130 : decode cX3_append 130 = .ok (.land, 1) := by decide +kernel
theorem dX3_append_131 : decode cX3_append 131 = .ok (.l2i, 1) := by decide +kernel
theorem dX3_append_132 : decode cX3_append 132 = .ok (.iastore, 1) := by decide +kernel
theorem dX3_append_133 : decode cX3_append 133 = .ok (.iinc 4 1, 3) := by decide +kernel
theorem dX3_append_136 : decode cX3_append 136 = .ok (.goto (-35), 3) := by decide +kernel
theorem dX3_append_139 : decode cX3_append 139 = .ok (.aload_n 0, 1) := by decide +kernel
theorem dX3_append_140 : decode cX3_append 140 = .ok (.dup, 1) := by decide +kernel
theorem dX3_append_141 : decode cX3_append 141 = .ok (.getfield 29, 3) := by decide +kernel
theorem dX3_append_144 : decode cX3_append 144 = .ok (.iload_n 1, 1) := by decide +kernel
theorem dX3_append_145 : decode cX3_append 145 = .ok (.iconst 1, 1) := by decide +kernel
theorem dX3_append_146 : decode cX3_append 146 = .ok (.iadd, 1) := by decide +kernel
theorem dX3_append_147 : decode cX3_append 147 = .ok (.iadd, 1) := by decide +kernel
theorem dX3_append_148 : decode cX3_append 148 = .ok (.putfield 29, 3) := by decide +kernel
theorem dX3_append_151 : decode cX3_append 151 = .ok (.aload_n 0, 1) := by decide +kernel
theorem dX3_append_152 : decode cX3_append 152 = .ok (.dup, 1) := by decide +kernel
theorem dX3_append_153 : decode cX3_append 153 = .ok (.getfield 67, 3) := by decide +kernel
theorem dX3_append_156 : decode cX3_append 156 = .ok (.iconst 1, 1) := by decide +kernel
theorem dX3_append_157 : decode cX3_append 157 = .ok (.iadd, 1) := by decide +kernel
theorem dX3_append_158 : decode cX3_append 158 = .ok (.putfield 67, 3) := by decide +kernel
theorem dX3_append_161 : decode cX3_append 161 = .ok (.aload_n 0, 1) := by decide +kernel
theorem dX3_append_162 : decode cX3_append 162 = .ok (.dup, 1) := by decide +kernel
theorem dX3_append_163 : decode cX3_append 163 = .ok (.getfield 73, 3) := by decide +kernel
theorem dX3_append_166 : decode cX3_append 166 = .ok (.iconst 1, 1) := by decide +kernel
theorem dX3_append_167 : decode cX3_append 167 = .ok (.iadd, 1) := by decide +kernel
theorem dX3_append_168 : decode cX3_append 168 = .ok (.putfield 73, 3) := by decide +kernel
theorem dX3_append_171 : decode cX3_append 171 = .ok (.aload_n 0, 1) := by decide +kernel
theorem dX3_append_172 : decode cX3_append 172 = .ok (.getfield 73, 3) := by decide +kernel
theorem dX3_append_175 : decode cX3_append 175 = .ok (.iconst 1, 1) := by decide +kernel
theorem dX3_append_176 : decode cX3_append 176 = .ok (.isub, 1) := by decide +kernel
theorem dX3_append_177 : decode cX3_append 177 = .ok (.ireturn, 1) := by decide +kernel
theorem dX3_sync_0 : decode cX3_sync 0 = .ok (.aload_n 0, 1) := by decide +kernel
theorem dX3_sync_1 : decode cX3_sync 1 = .ok (.aload_n 0, 1) := by decide +kernel
theorem dX3_sync_2 : decode cX3_sync 2 = .ok (.getfield 25, 3) := by decide +kernel
theorem dX3_sync_5 : decode cX3_sync 5 = .ok (.ifCond .ne 7, 3) := by decide +kernel
theorem dX3_sync_8 : decode cX3_sync 8 = .ok (.iconst 1, 1) := by decide +kernel
theorem dX3_sync_9 : decode cX3_sync 9 = .ok (.goto 22, 3) := by decide +kernel
theorem dX3_sync_12 : decode cX3_sync 12 = .ok (.aload_n 0, 1) := by decide +kernel
theorem dX3_sync_13 : decode cX3_sync 13 = .ok (.getfield 67, 3) := by decide +kernel
theorem dX3_sync_16 : decode cX3_sync 16 = .ok (.ifCond .le 14, 3) := by decide +kernel
theorem dX3_sync_19 : decode cX3_sync 19 = .ok (.aload_n 0, 1) := by decide +kernel
theorem dX3_sync_20 : decode cX3_sync 20 = .ok (.invokevirtual 79, 3) := by decide +kernel
theorem dX3_sync_23 : decode cX3_sync 23 = .ok (.ifCond .eq 7, 3) := by decide +kernel
theorem dX3_sync_26 : decode cX3_sync 26 = .ok (.iconst 2, 1) := by decide +kernel
theorem dX3_sync_27 : decode cX3_sync 27 = .ok (.goto 4, 3) := by decide +kernel
theorem dX3_sync_30 : decode cX3_sync 30 = .ok (.iconst 0, 1) := by decide +kernel
theorem dX3_sync_31 : decode cX3_sync 31 = .ok (.putfield 36, 3) := by decide +kernel
theorem dX3_sync_34 : decode cX3_sync 34 = .ok (.aload_n 0, 1) := by decide +kernel
theorem dX3_sync_35 : decode cX3_sync 35 = .ok (.getfield 36, 3) := by decide +kernel
theorem dX3_sync_38 : decode cX3_sync 38 = .ok (.ifCond .eq 5, 3) := by decide +kernel
theorem dX3_sync_41 : decode cX3_sync 41 = .ok (.iconst 0, 1) := by decide +kernel
theorem dX3_sync_42 : decode cX3_sync 42 = .ok (.ireturn, 1) := by decide +kernel
theorem dX3_sync_43 : decode cX3_sync 43 = .ok (.aload_n 0, 1) := by decide +kernel
theorem dX3_sync_44 : decode cX3_sync 44 = .ok (.getfield 67, 3) := by decide +kernel
theorem dX3_sync_47 : decode cX3_sync 47 = .ok (.ifCond .le 13, 3) := by decide +kernel
theorem dX3_sync_50 : decode cX3_sync 50 = .ok (.aload_n 0, 1) := by decide +kernel
theorem dX3_sync_51 : decode cX3_sync 51 = .ok (.invokevirtual 82, 3) := by decide +kernel
theorem dX3_sync_54 : decode cX3_sync 54 = .ok (.ifCond .ne 6, 3) := by decide +kernel
theorem dX3_sync_57 : decode cX3_sync 57 = .ok (.bipush (-2), 2) := by decide +kernel
theorem dX3_sync_59 : decode cX3_sync 59 = .ok (.ireturn, 1) := by decide +kernel
theorem dX3_sync_60 : decode cX3_sync 60 = .ok (.aload_n 0, 1) := by decide +kernel
theorem dX3_sync_61 : decode cX3_sync 61 = .ok (.getfield 73, 3) := by decide +kernel
theorem dX3_sync_64 : decode cX3_sync 64 = .ok (.ireturn, 1) := by decide +kernel
theorem dX3_cutAfter_0 : decode cX3_cutAfter 0 = .ok (.aload_n 0, 1) := by decide +kernel
theorem dX3_cutAfter_1 : decode cX3_cutAfter 1 = .ok (.iload_n 1, 1) := by decide +kernel
theorem dX3_cutAfter_2 : decode cX3_cutAfter 2 = .ok (.ifCond .lt 9, 3) := by decide +kernel
theorem dX3_cutAfter_5 : decode cX3_cutAfter 5 = .ok (.iload_n 1, 1) := by decide +kernel
theorem dX3_cutAfter_6 : decode cX3_cutAfter 6 = .ok (.bipush 60, 2) := by decide +kernel
theorem dX3_cutAfter_8 : decode cX3_cutAfter 8 = .ok (.if_icmp .le 7, 3) := by decide +kernel
theorem dX3_cutAfter_11 : decode cX3_cutAfter 11 = .ok (.iconst 1, 1) := by decide +kernel
theorem dX3_cutAfter_12 : decode cX3_cutAfter 12 = .ok (.goto 4, 3) := by decide +kernel
theorem dX3_cutAfter_15 : decode cX3_cutAfter 15 = .ok (.iconst 0, 1) := by decide +kernel
theorem dX3_cutAfter_16 : decode cX3_cutAfter 16 = .ok (.putfield 36, 3) := by decide +kernel
theorem dX3_cutAfter_19 : decode cX3_cutAfter 19 = .ok (.aload_n 0, 1) := by decide +kernel
theorem dX3_cutAfter_20 : decode cX3_cutAfter 20 = .ok (.getfield 36, 3) := by decide +kernel
theorem dX3_cutAfter_23 : decode cX3_cutAfter 23 = .ok (.ifCond .ne 8, 3) := by decide +kernel
theorem dX3_cutAfter_26 : decode cX3_cutAfter 26 = .ok (.aload_n 0, 1) := by decide +kernel
theorem dX3_cutAfter_27 : decode cX3_cutAfter 27 = .ok (.iload_n 1, 1) := by decide +kernel
theorem dX3_cutAfter_28 : decode cX3_cutAfter 28 = .ok (.putfield 47, 3) := by decide +kernel
theorem dX3_cutAfter_31 : decode cX3_cutAfter 31 = .ok (.return_, 1) := by decide +kernel
theorem dX3_off_0 : decode cX3_off 0 = .ok (.aload_n 0, 1) := by decide +kernel
theorem dX3_off_1 : decode cX3_off 1 = .ok (.aload_n 0, 1) := by decide +kernel
theorem dX3_off_2 : decode cX3_off 2 = .ok (.getfield 25, 3) := by decide +kernel
theorem dX3_off_5 : decode cX3_off 5 = .ok (.ifCond .eq 7, 3) := by decide +kernel
theorem dX3_off_8 : decode cX3_off 8 = .ok (.iconst 0, 1) := by decide +kernel
theorem dX3_off_9 : decode cX3_off 9 = .ok (.goto 4, 3) := by decide +kernel
theorem dX3_off_12 : decode cX3_off 12 = .ok (.iconst 1, 1) := by decide +kernel
theorem dX3_off_13 : decode cX3_off 13 = .ok (.putfield 36, 3) := by decide +kernel
theorem dX3_off_16 : decode cX3_off 16 = .ok (.aload_n 0, 1) := by decide +kernel
theorem dX3_off_17 : decode cX3_off 17 = .ok (.getfield 36, 3) := by decide +kernel
theorem dX3_off_20 : decode cX3_off 20 = .ok (.ifCond .eq 5, 3) := by decide +kernel
theorem dX3_off_23 : decode cX3_off 23 = .ok (.iconst 0, 1) := by decide +kernel
theorem dX3_off_24 : decode cX3_off 24 = .ok (.ireturn, 1) := by decide +kernel
theorem dX3_off_25 : decode cX3_off 25 = .ok (.aload_n 0, 1) := by decide +kernel
theorem dX3_off_26 : decode cX3_off 26 = .ok (.iconst 0, 1) := by decide +kernel
theorem dX3_off_27 : decode cX3_off 27 = .ok (.putfield 25, 3) := by decide +kernel
theorem dX3_off_30 : decode cX3_off 30 = .ok (.aload_n 0, 1) := by decide +kernel
theorem dX3_off_31 : decode cX3_off 31 = .ok (.getfield 67, 3) := by decide +kernel
theorem dX3_off_34 : decode cX3_off 34 = .ok (.ireturn, 1) := by decide +kernel
theorem dX3_firstOf_0 : decode cX3_firstOf 0 = .ok (.sipush 256, 3) := by decide +kernel
theorem dX3_firstOf_3 : decode cX3_firstOf 3 = .ok (.aload_n 0, 1) := by decide +kernel
theorem dX3_firstOf_4 : decode cX3_firstOf 4 = .ok (.iload_n 1, 1) := by decide +kernel
theorem dX3_firstOf_5 : decode cX3_firstOf 5 = .ok (.iconst 1, 1) := by decide +kernel
theorem dX3_firstOf_6 : decode cX3_firstOf 6 = .ok (.invokevirtual 87, 3) := by decide +kernel
theorem dX3_firstOf_9 : decode cX3_firstOf 9 = .ok (.imul, 1) := by decide +kernel
theorem dX3_firstOf_10 : decode cX3_firstOf 10 = .ok (.aload_n 0, 1) := by decide +kernel
theorem dX3_firstOf_11 : decode cX3_firstOf 11 = .ok (.iload_n 1, 1) := by decide +kernel
theorem dX3_firstOf_12 : decode cX3_firstOf 12 = .ok (.iconst 2, 1) := by decide +kernel
theorem dX3_firstOf_13 : decode cX3_firstOf 13 = .ok (.invokevirtual 87, 3) := by decide +kernel
theorem dX3_firstOf_16 : decode cX3_firstOf 16 = .ok (.iadd, 1) := by decide +kernel
theorem dX3_firstOf_17 : decode cX3_firstOf 17 = .ok (.ireturn, 1) := by decide +kernel
theorem dX3_lastOf_0 : decode cX3_lastOf 0 = .ok (.aload_n 0, 1) := by decide +kernel
theorem dX3_lastOf_1 : decode cX3_lastOf 1 = .ok (.iload_n 1, 1) := by decide +kernel
theorem dX3_lastOf_2 : decode cX3_lastOf 2 = .ok (.invokevirtual 91, 3) := by decide +kernel
theorem dX3_lastOf_5 : decode cX3_lastOf 5 = .ok (.aload_n 0, 1) := by decide +kernel
theorem dX3_lastOf_6 : decode cX3_lastOf 6 = .ok (.iload_n 1, 1) := by decide +kernel
theorem dX3_lastOf_7 : decode cX3_lastOf 7 = .ok (.iconst 0, 1) := by decide +kernel
theorem dX3_lastOf_8 : decode cX3_lastOf 8 = .ok (.invokevirtual 87, 3) := by decide +kernel
theorem dX3_lastOf_11 : decode cX3_lastOf 11 = .ok (.iadd, 1) := by decide +kernel
theorem dX3_lastOf_12 : decode cX3_lastOf 12 = .ok (.iconst 1, 1) := by decide +kernel
theorem dX3_lastOf_13 : decode cX3_lastOf 13 = .ok (.isub, 1) := by decide +kernel
theorem dX3_lastOf_14 : decode cX3_lastOf 14 = .ok (.ireturn, 1) := by decide +kernel
theorem dX3_greatestIn_0 : decode cX3_greatestIn 0 = .ok (.iconst (-1), 1) := by decide +kernel
theorem dX3_greatestIn_1 : decode cX3_greatestIn 1 = .ok (.istore_n 2, 1) := by decide +kernel
theorem dX3_greatestIn_2 : decode cX3_greatestIn 2 = .ok (.bipush 16, 2) := by decide +kernel
theorem dX3_greatestIn_4 : decode cX3_greatestIn 4 = .ok (.iload_n 1, 1) := by decide +kernel
theorem dX3_greatestIn_5 : decode cX3_greatestIn 5 = .ok (.imul, 1) := by decide +kernel
theorem dX3_greatestIn_6 : decode cX3_greatestIn 6 = .ok (.istore_n 3, 1) := by decide +kernel
theorem dX3_greatestIn_7 : decode cX3_greatestIn 7 = .ok (.iload_n 3, 1) := by decide +kernel
theorem dX3_greatestIn_8 : decode cX3_greatestIn 8 = .ok (.bipush 16, 2) := by decide +kernel
theorem dX3_greatestIn_10 : decode cX3_greatestIn 10 = .ok (.iload_n 1, 1) := by decide +kernel
theorem dX3_greatestIn_11 : decode cX3_greatestIn 11 = .ok (.imul, 1) := by decide +kernel
theorem dX3_greatestIn_12 : decode cX3_greatestIn 12 = .ok (.bipush 16, 2) := by decide +kernel
theorem dX3_greatestIn_14 : decode cX3_greatestIn 14 = .ok (.iadd, 1) := by decide +kernel
theorem dX3_greatestIn_15 : decode cX3_greatestIn 15 = .ok (.if_icmp .ge 36, 3) := by decide +kernel
theorem dX3_greatestIn_18 : decode cX3_greatestIn 18 = .ok (.aload_n 0, 1) := by decide +kernel
theorem dX3_greatestIn_19 : decode cX3_greatestIn 19 = .ok (.iload_n 3, 1) := by decide +kernel
theorem dX3_greatestIn_20 : decode cX3_greatestIn 20 = .ok (.invokevirtual 94, 3) := by decide +kernel
theorem dX3_greatestIn_23 : decode cX3_greatestIn 23 = .ok (.ifCond .eq 20, 3) := by decide +kernel
theorem dX3_greatestIn_26 : decode cX3_greatestIn 26 = .ok (.aload_n 0, 1) := by decide +kernel
theorem dX3_greatestIn_27 : decode cX3_greatestIn 27 = .ok (.iload_n 3, 1) := by decide +kernel
theorem dX3_greatestIn_28 : decode cX3_greatestIn 28 = .ok (.invokevirtual 97, 3) := by decide +kernel
theorem dX3_greatestIn_31 : decode cX3_greatestIn 31 = .ok (.iload_n 2, 1) := by decide +kernel
theorem dX3_greatestIn_32 : decode cX3_greatestIn 32 = .ok (.if_icmp .le 11, 3) := by decide +kernel
theorem dX3_greatestIn_35 : decode cX3_greatestIn 35 = .ok (.aload_n 0, 1) := by decide +kernel
theorem dX3_greatestIn_36 : decode cX3_greatestIn 36 = .ok (.iload_n 3, 1) := by decide +kernel
theorem dX3_greatestIn_37 : decode cX3_greatestIn 37 = .ok (.invokevirtual 97, 3) := by decide +kernel
theorem dX3_greatestIn_40 : decode cX3_greatestIn 40 = .ok (.goto 4, 3) := by decide +kernel
theorem dX3_greatestIn_43 : decode cX3_greatestIn 43 = .ok (.iload_n 2, 1) := by decide +kernel
theorem dX3_greatestIn_44 : decode cX3_greatestIn 44 = .ok (.istore_n 2, 1) := by decide +kernel
theorem dX3_greatestIn_45 : decode cX3_greatestIn 45 = .ok (.iinc 3 1, 3) := by decide +kernel
theorem dX3_greatestIn_48 : decode cX3_greatestIn 48 = .ok (.goto (-41), 3) := by decide +kernel
theorem dX3_greatestIn_51 : decode cX3_greatestIn 51 = .ok (.iload_n 2, 1) := by decide +kernel
theorem dX3_greatestIn_52 : decode cX3_greatestIn 52 = .ok (.ireturn, 1) := by decide +kernel
theorem dX3_start_0 : decode cX3_start 0 = .ok (.aload_n 0, 1) := by decide +kernel
theorem dX3_start_1 : decode cX3_start 1 = .ok (.aload_n 0, 1) := by decide +kernel
theorem dX3_start_2 : decode cX3_start 2 = .ok (.getfield 25, 3) := by decide +kernel
theorem dX3_start_5 : decode cX3_start 5 = .ok (.ifCond .eq 7, 3) := by decide +kernel
theorem dX3_start_8 : decode cX3_start 8 = .ok (.iconst 1, 1) := by decide +kernel
theorem dX3_start_9 : decode cX3_start 9 = .ok (.goto 4, 3) := by decide +kernel
theorem dX3_start_12 : decode cX3_start 12 = .ok (.iconst 0, 1) := by decide +kernel
theorem dX3_start_13 : decode cX3_start 13 = .ok (.putfield 36, 3) := by decide +kernel
theorem dX3_start_16 : decode cX3_start 16 = .ok (.aload_n 0, 1) := by decide +kernel
theorem dX3_start_17 : decode cX3_start 17 = .ok (.getfield 36, 3) := by decide +kernel
theorem dX3_start_20 : decode cX3_start 20 = .ok (.ifCond .eq 5, 3) := by decide +kernel
theorem dX3_start_23 : decode cX3_start 23 = .ok (.iconst 0, 1) := by decide +kernel
theorem dX3_start_24 : decode cX3_start 24 = .ok (.ireturn, 1) := by decide +kernel
theorem dX3_start_25 : decode cX3_start 25 = .ok (.aload_n 0, 1) := by decide +kernel
theorem dX3_start_26 : decode cX3_start 26 = .ok (.iconst 1, 1) := by decide +kernel
theorem dX3_start_27 : decode cX3_start 27 = .ok (.putfield 25, 3) := by decide +kernel
theorem dX3_start_30 : decode cX3_start 30 = .ok (.aload_n 0, 1) := by decide +kernel
theorem dX3_start_31 : decode cX3_start 31 = .ok (.invokevirtual 76, 3) := by decide +kernel
theorem dX3_start_34 : decode cX3_start 34 = .ok (.iconst (-1), 1) := by decide +kernel
theorem dX3_start_35 : decode cX3_start 35 = .ok (.istore_n 1, 1) := by decide +kernel
theorem dX3_start_36 : decode cX3_start 36 = .ok (.iconst (-1), 1) := by decide +kernel
theorem dX3_start_37 : decode cX3_start 37 = .ok (.istore_n 2, 1) := by decide +kernel
theorem dX3_start_38 : decode cX3_start 38 = .ok (.aload_n 0, 1) := by decide +kernel
theorem dX3_start_39 : decode cX3_start 39 = .ok (.iconst 0, 1) := by decide +kernel
theorem dX3_start_40 : decode cX3_start 40 = .ok (.putfield 54, 3) := by decide +kernel
theorem dX3_start_43 : decode cX3_start 43 = .ok (.iconst 0, 1) := by decide +kernel
theorem dX3_start_44 : decode cX3_start 44 = .ok (.istore_n 3, 1) := by decide +kernel
theorem dX3_start_45 : decode cX3_start 45 = .ok (.iload_n 3, 1) := by decide +kernel
theorem dX3_start_46 : decode cX3_start 46 = .ok (.bipush 6, 2) := by decide +kernel
theorem dX3_start_48 : decode cX3_start 48 = .ok (.if_icmp .ge 123, 3) := by decide +kernel
theorem dX3_start_51 : decode cX3_start 51 = .ok (.aload_n 0, 1) := by decide +kernel
theorem dX3_start_52 : decode cX3_start 52 = .ok (.iload_n 3, 1) := by decide +kernel
theorem dX3_start_53 : decode cX3_start 53 = .ok (.invokevirtual 100, 3) := by decide +kernel
theorem dX3_start_56 : decode cX3_start 56 = .ok (.istore 4, 2) := by decide +kernel
theorem dX3_start_58 : decode cX3_start 58 = .ok (.iload 4, 2) := by decide +kernel
theorem dX3_start_60 : decode cX3_start 60 = .ok (.ifCond .ge 16, 3) := by decide +kernel
theorem dX3_start_63 : decode cX3_start 63 = .ok (.aload_n 0, 1) := by decide +kernel
theorem dX3_start_64 : decode cX3_start 64 = .ok (.iload_n 3, 1) := by decide +kernel
theorem dX3_start_65 : decode cX3_start 65 = .ok (.invokevirtual 60, 3) := by decide +kernel
theorem dX3_start_68 : decode cX3_start 68 = .ok (.ifCond .ne 8, 3) := by decide +kernel
theorem dX3_start_71 : decode cX3_start 71 = .ok (.aload_n 0, 1) := by decide +kernel
theorem dX3_start_72 : decode cX3_start 72 = .ok (.iload_n 3, 1) := by decide +kernel
theorem dX3_start_73 : decode cX3_start 73 = .ok (.invokevirtual 103, 3) := by decide +kernel
theorem dX3_start_76 : decode cX3_start 76 = .ok (.aload_n 0, 1) := by decide +kernel
theorem dX3_start_77 : decode cX3_start 77 = .ok (.iload 4, 2) := by decide +kernel
theorem dX3_start_79 : decode cX3_start 79 = .ok (.iload_n 1, 1) := by decide +kernel
theorem dX3_start_80 : decode cX3_start 80 = .ok (.if_icmp .le 7, 3) := by decide +kernel
theorem dX3_start_83 : decode cX3_start 83 = .ok (.iload_n 3, 1) := by decide +kernel
theorem dX3_start_84 : decode cX3_start 84 = .ok (.goto 7, 3) := by decide +kernel
theorem dX3_start_87 : decode cX3_start 87 = .ok (.aload_n 0, 1) := by decide +kernel
theorem dX3_start_88 : decode cX3_start 88 = .ok (.getfield 54, 3) := by decide +kernel
theorem dX3_start_91 : decode cX3_start 91 = .ok (.putfield 54, 3) := by decide +kernel
theorem dX3_start_94 : decode cX3_start 94 = .ok (.iload 4, 2) := by decide +kernel
theorem dX3_start_96 : decode cX3_start 96 = .ok (.iload_n 1, 1) := by decide +kernel
theorem dX3_start_97 : decode cX3_start 97 = .ok (.if_icmp .le 8, 3) := by decide +kernel
theorem dX3_start_100 : decode cX3_start 100 = .ok (.iload 4, 2) := by decide +kernel
theorem dX3_start_102 : decode cX3_start 102 = .ok (.goto 4, 3) := by decide +kernel
theorem dX3_start_105 : decode cX3_start 105 = .ok (.iload_n 1, 1) := by decide +kernel
theorem dX3_start_106 : decode cX3_start 106 = .ok (.istore_n 1, 1) := by decide +kernel
theorem dX3_start_107 : decode cX3_start 107 = .ok (.bipush 16, 2) := by decide +kernel
theorem dX3_start_109 : decode cX3_start 109 = .ok (.iload_n 3, 1) := by decide +kernel
theorem dX3_start_110 : decode cX3_start 110 = .ok (.imul, 1) := by decide +kernel
theorem dX3_start_111 : decode cX3_start 111 = .ok (.istore 5, 2) := by decide +kernel
theorem dX3_start_113 : decode cX3_start 113 = .ok (.iload 5, 2) := by decide +kernel
theorem dX3_start_115 : decode cX3_start 115 = .ok (.bipush 16, 2) := by decide +kernel
theorem dX3_start_117 : decode cX3_start 117 = .ok (.iload_n 3, 1) := by decide +kernel
theorem dX3_start_118 : decode cX3_start 118 = .ok (.imul, 1) := by decide +kernel
theorem dX3_start_119 : decode cX3_start 119 = .ok (.bipush 16, 2) := by decide +kernel
theorem dX3_start_121 : decode cX3_start 121 = .ok (.iadd, 1) := by decide +kernel
theorem dX3_start_122 : decode cX3_start 122 = .ok (.if_icmp .ge 43, 3) := by decide +kernel
theorem dX3_start_125 : decode cX3_start 125 = .ok (.aload_n 0, 1) := by decide +kernel
theorem dX3_start_126 : decode cX3_start 126 = .ok (.iload 5, 2) := by decide +kernel
theorem dX3_start_128 : decode cX3_start 128 = .ok (.invokevirtual 94, 3) := by decide +kernel
theorem dX3_start_131 : decode cX3_start 131 = .ok (.ifCond .eq 28, 3) := by decide +kernel
theorem dX3_start_134 : decode cX3_start 134 = .ok (.iload_n 2, 1) := by decide +kernel
theorem dX3_start_135 : decode cX3_start 135 = .ok (.ifCond .lt 13, 3) := by decide +kernel
theorem dX3_start_138 : decode cX3_start 138 = .ok (.aload_n 0, 1) := by decide +kernel
theorem dX3_start_139 : decode cX3_start 139 = .ok (.iload 5, 2) := by decide +kernel
theorem dX3_start_141 : decode cX3_start 141 = .ok (.invokevirtual 91, 3) := by decide +kernel
theorem dX3_start_144 : decode cX3_start 144 = .ok (.iload_n 2, 1) := by decide +kernel
theorem dX3_start_145 : decode cX3_start 145 = .ok (.if_icmp .ge 12, 3) := by decide +kernel
theorem dX3_start_148 : decode cX3_start 148 = .ok (.aload_n 0, 1) := by decide +kernel
theorem dX3_start_149 : decode cX3_start 149 = .ok (.iload 5, 2) := by decide +kernel
theorem dX3_start_151 : decode cX3_start 151 = .ok (.invokevirtual 91, 3) := by decide +kernel
theorem dX3_start_154 : decode cX3_start 154 = .ok (.goto 4, 3) := by decide +kernel
theorem dX3_start_157 : decode cX3_start 157 = .ok (.iload_n 2, 1) := by decide +kernel
theorem dX3_start_158 : decode cX3_start 158 = .ok (.istore_n 2, 1) := by decide +kernel
theorem dX3_start_159 : decode cX3_start 159 = .ok (.iinc 5 1, 3) := by decide +kernel
theorem dX3_start_162 : decode cX3_start 162 = .ok (.goto (-49), 3) := by decide +kernel
theorem dX3_start_165 : decode cX3_start 165 = .ok (.iinc 3 1, 3) := by decide +kernel
theorem dX3_start_168 : decode cX3_start 168 = .ok (.goto (-123), 3) := by decide +kernel
theorem dX3_start_171 : decode cX3_start 171 = .ok (.aload_n 0, 1) := by decide +kernel
theorem dX3_start_172 : decode cX3_start 172 = .ok (.iload_n 2, 1) := by decide +kernel
theorem dX3_start_173 : decode cX3_start 173 = .ok (.ifCond .ge 7, 3) := by decide +kernel
theorem dX3_start_176 : decode cX3_start 176 = .ok (.iconst 0, 1) := by decide +kernel
theorem dX3_start_177 : decode cX3_start 177 = .ok (.goto 4, 3) := by decide +kernel
theorem dX3_start_180 : decode cX3_start 180 = .ok (.iload_n 2, 1) := by decide +kernel
theorem dX3_start_181 : decode cX3_start 181 = .ok (.putfield 107, 3) := by decide +kernel
theorem dX3_start_184 : decode cX3_start 184 = .ok (.aload_n 0, 1) := by decide +kernel
theorem dX3_start_185 : decode cX3_start 185 = .ok (.iload_n 1, 1) := by decide +kernel
theorem dX3_start_186 : decode cX3_start 186 = .ok (.iconst 1, 1) := by decide +kernel
theorem dX3_start_187 : decode cX3_start 187 = .ok (.iadd, 1) := by decide +kernel
theorem dX3_start_188 : decode cX3_start 188 = .ok (.putfield 73, 3) := by decide +kernel
theorem dX3_start_191 : decode cX3_start 191 = .ok (.aload_n 0, 1) := by decide +kernel
theorem dX3_start_192 : decode cX3_start 192 = .ok (.getfield 73, 3) := by decide +kernel
theorem dX3_start_195 : decode cX3_start 195 = .ok (.ireturn, 1) := by decide +kernel
theorem dX3_trim_0 : decode cX3_trim 0 = .ok (.aload_n 0, 1) := by decide +kernel
theorem dX3_trim_1 : decode cX3_trim 1 = .ok (.aload_n 0, 1) := by decide +kernel
theorem dX3_trim_2 : decode cX3_trim 2 = .ok (.getfield 25, 3) := by decide +kernel
theorem dX3_trim_5 : decode cX3_trim 5 = .ok (.ifCond .ne 7, 3) := by decide +kernel
theorem dX3_trim_8 : decode cX3_trim 8 = .ok (.iconst 1, 1) := by decide +kernel
theorem dX3_trim_9 : decode cX3_trim 9 = .ok (.goto 24, 3) := by decide +kernel
theorem dX3_trim_12 : decode cX3_trim 12 = .ok (.iload_n 1, 1) := by decide +kernel
theorem dX3_trim_13 : decode cX3_trim 13 = .ok (.aload_n 0, 1) := by decide +kernel
theorem dX3_trim_14 : decode cX3_trim 14 = .ok (.getfield 107, 3) := by decide +kernel
theorem dX3_trim_17 : decode cX3_trim 17 = .ok (.if_icmp .lt 11, 3) := by decide +kernel
theorem dX3_trim_20 : decode cX3_trim 20 = .ok (.iload_n 1, 1) := by decide +kernel
theorem dX3_trim_21 : decode cX3_trim 21 = .ok (.aload_n 0, 1) := by decide +kernel
theorem dX3_trim_22 : decode cX3_trim 22 = .ok (.getfield 73, 3) := by decide +kernel
theorem dX3_trim_25 : decode cX3_trim 25 = .ok (.if_icmp .le 7, 3) := by decide +kernel
theorem dX3_trim_28 : decode cX3_trim 28 = .ok (.iconst 2, 1) := by decide +kernel
theorem dX3_trim_29 : decode cX3_trim 29 = .ok (.goto 4, 3) := by decide +kernel
theorem dX3_trim_32 : decode cX3_trim 32 = .ok (.iconst 0, 1) := by decide +kernel
theorem dX3_trim_33 : decode cX3_trim 33 = .ok (.putfield 36, 3) := by decide +kernel
theorem dX3_trim_36 : decode cX3_trim 36 = .ok (.aload_n 0, 1) := by decide +kernel
theorem dX3_trim_37 : decode cX3_trim 37 = .ok (.getfield 36, 3) := by decide +kernel
theorem dX3_trim_40 : decode cX3_trim 40 = .ok (.ifCond .eq 5, 3) := by decide +kernel
theorem dX3_trim_43 : decode cX3_trim 43 = .ok (.iconst 0, 1) := by decide +kernel
theorem dX3_trim_44 : decode cX3_trim 44 = .ok (.ireturn, 1) := by decide +kernel
theorem dX3_trim_45 : decode cX3_trim 45 = .ok (.aload_n 0, 1) := by decide +kernel
theorem dX3_trim_46 : decode cX3_trim 46 = .ok (.iload_n 1, 1) := by decide +kernel
theorem dX3_trim_47 : decode cX3_trim 47 = .ok (.putfield 107, 3) := by decide +kernel
theorem dX3_trim_50 : decode cX3_trim 50 = .ok (.iconst 0, 1) := by decide +kernel
theorem dX3_trim_51 : decode cX3_trim 51 = .ok (.istore_n 2, 1) := by decide +kernel
theorem dX3_trim_52 : decode cX3_trim 52 = .ok (.iconst 0, 1) := by decide +kernel
theorem dX3_trim_53 : decode cX3_trim 53 = .ok (.istore_n 3, 1) := by decide +kernel
theorem dX3_trim_54 : decode cX3_trim 54 = .ok (.iload_n 3, 1) := by decide +kernel
theorem dX3_trim_55 : decode cX3_trim 55 = .ok (.bipush 6, 2) := by decide +kernel
theorem dX3_trim_57 : decode cX3_trim 57 = .ok (.if_icmp .ge 45, 3) := by decide +kernel
theorem dX3_trim_60 : decode cX3_trim 60 = .ok (.iload_n 3, 1) := by decide +kernel
theorem dX3_trim_61 : decode cX3_trim 61 = .ok (.aload_n 0, 1) := by decide +kernel
theorem dX3_trim_62 : decode cX3_trim 62 = .ok (.getfield 54, 3) := by decide +kernel
theorem dX3_trim_65 : decode cX3_trim 65 = .ok (.if_icmp .eq 31, 3) := by decide +kernel
theorem dX3_trim_68 : decode cX3_trim 68 = .ok (.aload_n 0, 1) := by decide +kernel
theorem dX3_trim_69 : decode cX3_trim 69 = .ok (.iload_n 3, 1) := by decide +kernel
theorem dX3_trim_70 : decode cX3_trim 70 = .ok (.invokevirtual 60, 3) := by decide +kernel
theorem dX3_trim_73 : decode cX3_trim 73 = .ok (.ifCond .ne 23, 3) := by decide +kernel
theorem dX3_trim_76 : decode cX3_trim 76 = .ok (.aload_n 0, 1) := by decide +kernel
theorem dX3_trim_77 : decode cX3_trim 77 = .ok (.iload_n 3, 1) := by decide +kernel
theorem dX3_trim_78 : decode cX3_trim 78 = .ok (.invokevirtual 100, 3) := by decide +kernel
theorem dX3_trim_81 : decode cX3_trim 81 = .ok (.iload_n 1, 1) := by decide +kernel
theorem dX3_trim_82 : decode cX3_trim 82 = .ok (.if_icmp .lt 6, 3) := by decide +kernel
theorem dX3_trim_85 : decode cX3_trim 85 = .ok (.goto 11, 3) := by decide +kernel
theorem dX3_trim_88 : decode cX3_trim 88 = .ok (.aload_n 0, 1) := by decide +kernel
theorem dX3_trim_89 : decode cX3_trim 89 = .ok (.iload_n 3, 1) := by decide +kernel
theorem dX3_trim_90 : decode cX3_trim 90 = .ok (.invokevirtual 103, 3) := by decide +kernel
theorem dX3_trim_93 : decode cX3_trim 93 = .ok (.iinc 2 1, 3) := by decide +kernel
theorem dX3_trim_96 : decode cX3_trim 96 = .ok (.iinc 3 1, 3) := by decide +kernel
theorem dX3_trim_99 : decode cX3_trim 99 = .ok (.goto (-45), 3) := by decide +kernel
theorem dX3_trim_102 : decode cX3_trim 102 = .ok (.iload_n 2, 1) := by decide +kernel
theorem dX3_trim_103 : decode cX3_trim 103 = .ok (.ireturn, 1) := by decide +kernel
theorem dX3_first_0 : decode cX3_first 0 = .ok (.aload_n 0, 1) := by decide +kernel
theorem dX3_first_1 : decode cX3_first 1 = .ok (.aload_n 0, 1) := by decide +kernel
theorem dX3_first_2 : decode cX3_first 2 = .ok (.getfield 25, 3) := by decide +kernel
theorem dX3_first_5 : decode cX3_first 5 = .ok (.ifCond .eq 7, 3) := by decide +kernel
theorem dX3_first_8 : decode cX3_first 8 = .ok (.iconst 0, 1) := by decide +kernel
theorem dX3_first_9 : decode cX3_first 9 = .ok (.goto 4, 3) := by decide +kernel
theorem dX3_first_12 : decode cX3_first 12 = .ok (.iconst 1, 1) := by decide +kernel
theorem dX3_first_13 : decode cX3_first 13 = .ok (.putfield 36, 3) := by decide +kernel
theorem dX3_first_16 : decode cX3_first 16 = .ok (.aload_n 0, 1) := by decide +kernel
theorem dX3_first_17 : decode cX3_first 17 = .ok (.getfield 25, 3) := by decide +kernel
theorem dX3_first_20 : decode cX3_first 20 = .ok (.ifCond .eq 10, 3) := by decide +kernel
theorem dX3_first_23 : decode cX3_first 23 = .ok (.aload_n 0, 1) := by decide +kernel
theorem dX3_first_24 : decode cX3_first 24 = .ok (.getfield 107, 3) := by decide +kernel
theorem dX3_first_27 : decode cX3_first 27 = .ok (.goto 4, 3) := by decide +kernel
theorem dX3_first_30 : decode cX3_first 30 = .ok (.iconst 0, 1) := by decide +kernel
theorem dX3_first_31 : decode cX3_first 31 = .ok (.ireturn, 1) := by decide +kernel
theorem dX3_count_0 : decode cX3_count 0 = .ok (.aload_n 0, 1) := by decide +kernel
theorem dX3_count_1 : decode cX3_count 1 = .ok (.aload_n 0, 1) := by decide +kernel
theorem dX3_count_2 : decode cX3_count 2 = .ok (.getfield 25, 3) := by decide +kernel
theorem dX3_count_5 : decode cX3_count 5 = .ok (.ifCond .eq 7, 3) := by decide +kernel
theorem dX3_count_8 : decode cX3_count 8 = .ok (.iconst 0, 1) := by decide +kernel
theorem dX3_count_9 : decode cX3_count 9 = .ok (.goto 4, 3) := by decide +kernel
theorem dX3_count_12 : decode cX3_count 12 = .ok (.iconst 1, 1) := by decide +kernel
theorem dX3_count_13 : decode cX3_count 13 = .ok (.putfield 36, 3) := by decide +kernel
theorem dX3_count_16 : decode cX3_count 16 = .ok (.aload_n 0, 1) := by decide +kernel
theorem dX3_count_17 : decode cX3_count 17 = .ok (.getfield 25, 3) := by decide +kernel
theorem dX3_count_20 : decode cX3_count 20 = .ok (.ifCond .eq 10, 3) := by decide +kernel
theorem dX3_count_23 : decode cX3_count 23 = .ok (.aload_n 0, 1) := by decide +kernel
theorem dX3_count_24 : decode cX3_count 24 = .ok (.getfield 73, 3) := by decide +kernel
theorem dX3_count_27 : decode cX3_count 27 = .ok (.goto 4, 3) := by decide +kernel
theorem dX3_count_30 : decode cX3_count 30 = .ok (.iconst 0, 1) := by decide +kernel
theorem dX3_count_31 : decode cX3_count 31 = .ok (.ireturn, 1) := by decide +kernel
theorem dX3_find_0 : decode cX3_find 0 = .ok (.aload_n 0, 1) := by decide +kernel
theorem dX3_find_1 : decode cX3_find 1 = .ok (.iconst (-1), 1) := by decide +kernel
theorem dX3_find_2 : decode cX3_find 2 = .ok (.putfield 110, 3) := by decide +kernel
theorem dX3_find_5 : decode cX3_find 5 = .ok (.aload_n 0, 1) := by decide +kernel
theorem dX3_find_6 : decode cX3_find 6 = .ok (.iconst 3, 1) := by decide +kernel
theorem dX3_find_7 : decode cX3_find 7 = .ok (.putfield 113, 3) := by decide +kernel
theorem dX3_find_10 : decode cX3_find 10 = .ok (.iconst 0, 1) := by decide +kernel
theorem dX3_find_11 : decode cX3_find 11 = .ok (.istore_n 2, 1) := by decide +kernel
theorem dX3_find_12 : decode cX3_find 12 = .ok (.iload_n 1, 1) := by decide +kernel
theorem dX3_find_13 : decode cX3_find 13 = .ok (.aload_n 0, 1) := by decide +kernel
theorem dX3_find_14 : decode cX3_find 14 = .ok (.getfield 73, 3) := by decide +kernel
theorem dX3_find_17 : decode cX3_find 17 = .ok (.aload_n 0, 1) := by decide +kernel
theorem dX3_find_18 : decode cX3_find 18 = .ok (.getfield 67, 3) := by decide +kernel
theorem dX3_find_21 : decode cX3_find 21 = .ok (.isub, 1) := by decide +kernel
theorem dX3_find_22 : decode cX3_find 22 = .ok (.if_icmp .lt 21, 3) := by decide +kernel
theorem dX3_find_25 : decode cX3_find 25 = .ok (.aload_n 0, 1) := by decide +kernel
theorem dX3_find_26 : decode cX3_find 26 = .ok (.bipush 96, 2) := by decide +kernel
theorem dX3_find_28 : decode cX3_find 28 = .ok (.putfield 110, 3) := by decide +kernel
theorem dX3_find_31 : decode cX3_find 31 = .ok (.iload_n 1, 1) := by decide +kernel
theorem dX3_find_32 : decode cX3_find 32 = .ok (.aload_n 0, 1) := by decide +kernel
theorem dX3_find_33 : decode cX3_find 33 = .ok (.getfield 73, 3) := by decide +kernel
theorem dX3_find_36 : decode cX3_find 36 = .ok (.isub, 1) := by decide +kernel
theorem dX3_find_37 : decode cX3_find 37 = .ok (.aload_n 0, 1) := by decide +kernel
theorem dX3_find_38 : decode cX3_find 38 = .ok (.getfield 67, 3) := by decide +kernel
theorem dX3_find_41 : decode cX3_find 41 = .ok (.iadd, 1) := by decide +kernel
theorem dX3_find_42 : decode cX3_find 42 = .ok (.istore_n 2, 1) := by decide +kernel
theorem dX3_find_43 : decode cX3_find 43 = .ok (.iconst 0, 1) := by decide +kernel
theorem dX3_find_44 : decode cX3_find 44 = .ok (.istore_n 3, 1) := by decide +kernel
theorem dX3_find_45 : decode cX3_find 45 = .ok (.iload_n 3, 1) := by decide +kernel
theorem dX3_find_46 : decode cX3_find 46 = .ok (.bipush 96, 2) := by decide +kernel
theorem dX3_find_48 : decode cX3_find 48 = .ok (.if_icmp .ge 55, 3) := by decide +kernel
theorem dX3_find_51 : decode cX3_find 51 = .ok (.aload_n 0, 1) := by decide +kernel
theorem dX3_find_52 : decode cX3_find 52 = .ok (.getfield 110, 3) := by decide +kernel
theorem dX3_find_55 : decode cX3_find 55 = .ok (.ifCond .ge 48, 3) := by decide +kernel
theorem dX3_find_58 : decode cX3_find 58 = .ok (.aload_n 0, 1) := by decide +kernel
theorem dX3_find_59 : decode cX3_find 59 = .ok (.iload_n 3, 1) := by decide +kernel
theorem dX3_find_60 : decode cX3_find 60 = .ok (.invokevirtual 94, 3) := by decide +kernel
theorem dX3_find_63 : decode cX3_find 63 = .ok (.ifCond .eq 34, 3) := by decide +kernel
theorem dX3_find_66 : decode cX3_find 66 = .ok (.aload_n 0, 1) := by decide +kernel
theorem dX3_find_67 : decode cX3_find 67 = .ok (.iload_n 3, 1) := by decide +kernel
theorem dX3_find_68 : decode cX3_find 68 = .ok (.invokevirtual 91, 3) := by decide +kernel
theorem dX3_find_71 : decode cX3_find 71 = .ok (.iload_n 1, 1) := by decide +kernel
theorem dX3_find_72 : decode cX3_find 72 = .ok (.if_icmp .gt 25, 3) := by decide +kernel
theorem dX3_find_75 : decode cX3_find 75 = .ok (.aload_n 0, 1) := by decide +kernel
theorem dX3_find_76 : decode cX3_find 76 = .ok (.iload_n 3, 1) := by decide +kernel
theorem dX3_find_77 : decode cX3_find 77 = .ok (.invokevirtual 97, 3) := by decide +kernel
theorem dX3_find_80 : decode cX3_find 80 = .ok (.iload_n 1, 1) := by decide +kernel
theorem dX3_find_81 : decode cX3_find 81 = .ok (.if_icmp .lt 16, 3) := by decide +kernel
theorem dX3_find_84 : decode cX3_find 84 = .ok (.aload_n 0, 1) := by decide +kernel
theorem dX3_find_85 : decode cX3_find 85 = .ok (.iload_n 3, 1) := by decide +kernel
theorem dX3_find_86 : decode cX3_find 86 = .ok (.putfield 110, 3) := by decide +kernel
theorem dX3_find_89 : decode cX3_find 89 = .ok (.iload_n 1, 1) := by decide +kernel
theorem dX3_find_90 : decode cX3_find 90 = .ok (.aload_n 0, 1) := by decide +kernel
theorem dX3_find_91 : decode cX3_find 91 = .ok (.iload_n 3, 1) := by decide +kernel
theorem dX3_find_92 : decode cX3_find 92 = .ok (.invokevirtual 91, 3) := by decide +kernel
theorem dX3_find_95 : decode cX3_find 95 = .ok (.isub, 1) := by decide +kernel
theorem dX3_find_96 : decode cX3_find 96 = .ok (.istore_n 2, 1) := by decide +kernel
theorem dX3_find_97 : decode cX3_find 97 = .ok (.iinc 3 1, 3) := by decide +kernel
theorem dX3_find_100 : decode cX3_find 100 = .ok (.goto (-55), 3) := by decide +kernel
theorem dX3_find_103 : decode cX3_find 103 = .ok (.iconst 0, 1) := by decide +kernel
theorem dX3_find_104 : decode cX3_find 104 = .ok (.istore_n 3, 1) := by decide +kernel
theorem dX3_find_105 : decode cX3_find 105 = .ok (.iload_n 3, 1) := by decide +kernel
theorem dX3_find_106 : decode cX3_find 106 = .ok (.iload_n 2, 1) := by decide +kernel
theorem dX3_find_107 : decode cX3_find 107 = .ok (.if_icmp .ge 28, 3) := by decide +kernel
theorem dX3_find_110 : decode cX3_find 110 = .ok (.aload_n 0, 1) := by decide +kernel
theorem dX3_find_111 : decode cX3_find 111 = .ok (.dup, 1) := by decide +kernel
theorem dX3_find_112 : decode cX3_find 112 = .ok (.getfield 113, 3) := by decide +kernel
theorem dX3_find_115 : decode cX3_find 115 = .ok (.iconst 1, 1) := by decide +kernel
theorem dX3_find_116 : decode cX3_find 116 = .ok (.aload_n 0, 1) := by decide +kernel
theorem dX3_find_117 : decode cX3_find 117 = .ok (.aload_n 0, 1) := by decide +kernel
theorem dX3_find_118 : decode cX3_find 118 = .ok (.getfield 113, 3) := by decide +kernel
theorem dX3_find_121 : decode cX3_find 121 = .ok (.invokevirtual 116, 3) := by decide +kernel
theorem dX3_find_124 : decode cX3_find 124 = .ok (.iadd, 1) := by decide +kernel
theorem dX3_find_125 : decode cX3_find 125 = .ok (.iadd, 1) := by decide +kernel
theorem dX3_find_126 : decode cX3_find 126 = .ok (.putfield 113, 3) := by decide +kernel
theorem dX3_find_129 : decode cX3_find 129 = .ok (.iinc 3 1, 3) := by decide +kernel
theorem dX3_find_132 : decode cX3_find 132 = .ok (.goto (-27), 3) := by decide +kernel
theorem dX3_find_135 : decode cX3_find 135 = .ok (.return_, 1) := by decide +kernel
theorem dX3_foundByte_0 : decode cX3_foundByte 0 = .ok (.aload_n 0, 1) := by decide +kernel
theorem dX3_foundByte_1 : decode cX3_foundByte 1 = .ok (.getfield 110, 3) := by decide +kernel
theorem dX3_foundByte_4 : decode cX3_foundByte 4 = .ok (.bipush 96, 2) := by decide +kernel
theorem dX3_foundByte_6 : decode cX3_foundByte 6 = .ok (.if_icmp .ne 12, 3) := by decide +kernel
theorem dX3_foundByte_9 : decode cX3_foundByte 9 = .ok (.aload_n 0, 1) := by decide +kernel
theorem dX3_foundByte_10 : decode cX3_foundByte 10 = .ok (.getfield 33, 3) := by decide +kernel
theorem dX3_foundByte_13 : decode cX3_foundByte 13 = .ok (.iload_n 1, 1) := by decide +kernel
theorem dX3_foundByte_14 : decode cX3_foundByte 14 = .ok (.iaload, 1) := by decide +kernel
theorem dX3_foundByte_15 : decode cX3_foundByte 15 = .ok (.goto 12, 3) := by decide +kernel
theorem dX3_foundByte_18 : decode cX3_foundByte 18 = .ok (.aload_n 0, 1) := by decide +kernel
theorem dX3_foundByte_19 : decode cX3_foundByte 19 = .ok (.aload_n 0, 1) := by decide +kernel
theorem dX3_foundByte_20 : decode cX3_foundByte 20 = .ok (.getfield 110, 3) := by decide +kernel
theorem dX3_foundByte_23 : decode cX3_foundByte 23 = .ok (.iload_n 1, 1) := by decide +kernel
theorem dX3_foundByte_24 : decode cX3_foundByte 24 = .ok (.invokevirtual 87, 3) := by decide +kernel
theorem dX3_foundByte_27 : decode cX3_foundByte 27 = .ok (.ireturn, 1) := by decide +kernel
theorem dX3_length_0 : decode cX3_length 0 = .ok (.aload_n 0, 1) := by decide +kernel
theorem dX3_length_1 : decode cX3_length 1 = .ok (.aload_n 0, 1) := by decide +kernel
theorem dX3_length_2 : decode cX3_length 2 = .ok (.getfield 25, 3) := by decide +kernel
theorem dX3_length_5 : decode cX3_length 5 = .ok (.ifCond .ne 7, 3) := by decide +kernel
theorem dX3_length_8 : decode cX3_length 8 = .ok (.iconst 1, 1) := by decide +kernel
theorem dX3_length_9 : decode cX3_length 9 = .ok (.goto 24, 3) := by decide +kernel
theorem dX3_length_12 : decode cX3_length 12 = .ok (.iload_n 1, 1) := by decide +kernel
theorem dX3_length_13 : decode cX3_length 13 = .ok (.aload_n 0, 1) := by decide +kernel
theorem dX3_length_14 : decode cX3_length 14 = .ok (.getfield 107, 3) := by decide +kernel
theorem dX3_length_17 : decode cX3_length 17 = .ok (.if_icmp .lt 11, 3) := by decide +kernel
theorem dX3_length_20 : decode cX3_length 20 = .ok (.iload_n 1, 1) := by decide +kernel
theorem dX3_length_21 : decode cX3_length 21 = .ok (.aload_n 0, 1) := by decide +kernel
theorem dX3_length_22 : decode cX3_length 22 = .ok (.getfield 73, 3) := by decide +kernel
theorem dX3_length_25 : decode cX3_length 25 = .ok (.if_icmp .lt 7, 3) := by decide +kernel
theorem dX3_length_28 : decode cX3_length 28 = .ok (.iconst 2, 1) := by decide +kernel
theorem dX3_length_29 : decode cX3_length 29 = .ok (.goto 4, 3) := by decide +kernel
theorem dX3_length_32 : decode cX3_length 32 = .ok (.iconst 0, 1) := by decide +kernel
theorem dX3_length_33 : decode cX3_length 33 = .ok (.putfield 36, 3) := by decide +kernel
theorem dX3_length_36 : decode cX3_length 36 = .ok (.aload_n 0, 1) := by decide +kernel
theorem dX3_length_37 : decode cX3_length 37 = .ok (.getfield 36, 3) := by decide +kernel
theorem dX3_length_40 : decode cX3_length 40 = .ok (.ifCond .eq 5, 3) := by decide +kernel
theorem dX3_length_43 : decode cX3_length 43 = .ok (.iconst 0, 1) := by decide +kernel
theorem dX3_length_44 : decode cX3_length 44 = .ok (.ireturn, 1) := by decide +kernel
theorem dX3_length_45 : decode cX3_length 45 = .ok (.aload_n 0, 1) := by decide +kernel
theorem dX3_length_46 : decode cX3_length 46 = .ok (.iload_n 1, 1) := by decide +kernel
theorem dX3_length_47 : decode cX3_length 47 = .ok (.invokevirtual 119, 3) := by decide +kernel
theorem dX3_length_50 : decode cX3_length 50 = .ok (.aload_n 0, 1) := by decide +kernel
theorem dX3_length_51 : decode cX3_length 51 = .ok (.getfield 110, 3) := by decide +kernel
theorem dX3_length_54 : decode cX3_length 54 = .ok (.ifCond .ge 7, 3) := by decide +kernel
theorem dX3_length_57 : decode cX3_length 57 = .ok (.iconst (-1), 1) := by decide +kernel
theorem dX3_length_58 : decode cX3_length 58 = .ok (.goto 11, 3) := by decide +kernel
theorem dX3_length_61 : decode cX3_length 61 = .ok (.aload_n 0, 1) := by decide +kernel
theorem dX3_length_62 : decode cX3_length 62 = .ok (.aload_n 0, 1) := by decide +kernel
theorem dX3_length_63 : decode cX3_length 63 = .ok (.getfield 113, 3) := by decide +kernel
theorem dX3_length_66 : decode cX3_length 66 = .ok (.invokevirtual 116, 3) := by decide +kernel
theorem dX3_length_69 : decode cX3_length 69 = .ok (.ireturn, 1) := by decide +kernel
theorem dX3_event_0 : decode cX3_event 0 = .ok (.aload_n 0, 1) := by decide +kernel
theorem dX3_event_1 : decode cX3_event 1 = .ok (.aload_n 0, 1) := by decide +kernel
theorem dX3_event_2 : decode cX3_event 2 = .ok (.getfield 25, 3) := by decide +kernel
theorem dX3_event_5 : decode cX3_event 5 = .ok (.ifCond .ne 7, 3) := by decide +kernel
theorem dX3_event_8 : decode cX3_event 8 = .ok (.iconst 1, 1) := by decide +kernel
theorem dX3_event_9 : decode cX3_event 9 = .ok (.goto 24, 3) := by decide +kernel
theorem dX3_event_12 : decode cX3_event 12 = .ok (.iload_n 1, 1) := by decide +kernel
theorem dX3_event_13 : decode cX3_event 13 = .ok (.aload_n 0, 1) := by decide +kernel
theorem dX3_event_14 : decode cX3_event 14 = .ok (.getfield 107, 3) := by decide +kernel
theorem dX3_event_17 : decode cX3_event 17 = .ok (.if_icmp .lt 11, 3) := by decide +kernel
theorem dX3_event_20 : decode cX3_event 20 = .ok (.iload_n 1, 1) := by decide +kernel
theorem dX3_event_21 : decode cX3_event 21 = .ok (.aload_n 0, 1) := by decide +kernel
theorem dX3_event_22 : decode cX3_event 22 = .ok (.getfield 73, 3) := by decide +kernel
theorem dX3_event_25 : decode cX3_event 25 = .ok (.if_icmp .lt 7, 3) := by decide +kernel
theorem dX3_event_28 : decode cX3_event 28 = .ok (.iconst 2, 1) := by decide +kernel
theorem dX3_event_29 : decode cX3_event 29 = .ok (.goto 4, 3) := by decide +kernel
theorem dX3_event_32 : decode cX3_event 32 = .ok (.iconst 0, 1) := by decide +kernel
theorem dX3_event_33 : decode cX3_event 33 = .ok (.putfield 36, 3) := by decide +kernel
theorem dX3_event_36 : decode cX3_event 36 = .ok (.aload_n 0, 1) := by decide +kernel
theorem dX3_event_37 : decode cX3_event 37 = .ok (.getfield 36, 3) := by decide +kernel
theorem dX3_event_40 : decode cX3_event 40 = .ok (.ifCond .eq 5, 3) := by decide +kernel
theorem dX3_event_43 : decode cX3_event 43 = .ok (.lconst 0, 1) := by decide +kernel
theorem dX3_event_44 : decode cX3_event 44 = .ok (.lreturn, 1) := by decide +kernel
theorem dX3_event_45 : decode cX3_event 45 = .ok (.aload_n 0, 1) := by decide +kernel
theorem dX3_event_46 : decode cX3_event 46 = .ok (.iload_n 1, 1) := by decide +kernel
theorem dX3_event_47 : decode cX3_event 47 = .ok (.invokevirtual 119, 3) := by decide +kernel
theorem dX3_event_50 : decode cX3_event 50 = .ok (.aload_n 0, 1) := by decide +kernel
theorem dX3_event_51 : decode cX3_event 51 = .ok (.aload_n 0, 1) := by decide +kernel
theorem dX3_event_52 : decode cX3_event 52 = .ok (.getfield 110, 3) := by decide +kernel
theorem dX3_event_55 : decode cX3_event 55 = .ok (.ifCond .ge 7, 3) := by decide +kernel
theorem dX3_event_58 : decode cX3_event 58 = .ok (.iconst 3, 1) := by decide +kernel
theorem dX3_event_59 : decode cX3_event 59 = .ok (.goto 4, 3) := by decide +kernel
theorem dX3_event_62 : decode cX3_event 62 = .ok (.iconst 0, 1) := by decide +kernel
theorem dX3_event_63 : decode cX3_event 63 = .ok (.putfield 36, 3) := by decide +kernel
theorem dX3_event_66 : decode cX3_event 66 = .ok (.lconst 0, 1) := by decide +kernel
theorem dX3_event_67 : decode cX3_event 67 = .ok (.lstore_n 2, 1) := by decide +kernel
theorem dX3_event_68 : decode cX3_event 68 = .ok (.aload_n 0, 1) := by decide +kernel
theorem dX3_event_69 : decode cX3_event 69 = .ok (.getfield 36, 3) := by decide +kernel
theorem dX3_event_72 : decode cX3_event 72 = .ok (.ifCond .ne 14, 3) := by decide +kernel
theorem dX3_event_75 : decode cX3_event 75 = .ok (.aload_n 0, 1) := by decide +kernel
theorem dX3_event_76 : decode cX3_event 76 = .ok (.aload_n 0, 1) := by decide +kernel
theorem dX3_event_77 : decode cX3_event 77 = .ok (.getfield 113, 3) := by decide +kernel
theorem dX3_event_80 : decode cX3_event 80 = .ok (.invokevirtual 116, 3) := by decide +kernel
theorem dX3_event_83 : decode cX3_event 83 = .ok (.goto 4, 3) := by decide +kernel
theorem dX3_event_86 : decode cX3_event 86 = .ok (.iconst 0, 1) := by decide +kernel
theorem dX3_event_87 : decode cX3_event 87 = .ok (.istore 4, 2) := by decide +kernel
theorem dX3_event_89 : decode cX3_event 89 = .ok (.iload 4, 2) := by decide +kernel
theorem dX3_event_91 : decode cX3_event 91 = .ok (.ifCond .le 27, 3) := by decide +kernel
theorem dX3_event_94 : decode cX3_event 94 = .ok (.lload_n 2, 1) := by decide +kernel
theorem dX3_event_95 : decode cX3_event 95 = .ok (.bipush 8, 2) := by decide +kernel
theorem dX3_event_97 : decode cX3_event 97 = .ok (.lshl, 1) := by decide +kernel
theorem dX3_event_98 : decode cX3_event 98 = .ok (.aload_n 0, 1) := by decide +kernel
theorem dX3_event_99 : decode cX3_event 99 = .ok (.aload_n 0, 1) := by decide +kernel
theorem dX3_event_100 : decode cX3_event 100 = .ok (.getfield 113, 3) := by decide +kernel
theorem dX3_event_103 : decode cX3_event 103 = .ok (.iload 4, 2) := by decide +kernel
theorem dX3_event_105 : decode cX3_event 105 = .ok (.iadd, 1) := by decide +kernel
theorem dX3_event_106 : decode cX3_event 106 = .ok (.invokevirtual 116, 3) := by decide +kernel
theorem dX3_event_109 : decode cX3_event 109 = .ok (.i2l, 1) := by decide +kernel
theorem dX3_event_110 : decode cX3_event 110 = .ok (.lor, 1) := by decide +kernel
theorem dX3_event_111 : decode cX3_event 111 = .ok (.lstore_n 2, 1) := by decide +kernel
theorem dX3_event_112 : decode cX3_event 112 = .ok (.iinc 4 (-1), 3) := by decide +kernel
theorem dX3_event_115 : decode cX3_event 115 = .ok (.goto (-26), 3) := by decide +kernel
theorem dX3_event_118 : decode cX3_event 118 = .ok (.lload_n 2, 1) := by decide +kernel
theorem dX3_event_119 : decode cX3_event 119 = .ok (.lreturn, 1) := by decide +kernel
theorem dX3_noPage_0 : decode cX3_noPage 0 = .ok (.iload_n 0, 1) := by decide +kernel
theorem dX3_noPage_1 : decode cX3_noPage 1 = .ok (.ifCond .lt 18, 3) := by decide +kernel
theorem dX3_noPage_4 : decode cX3_noPage 4 = .ok (.iload_n 0, 1) := by decide +kernel
theorem dX3_noPage_5 : decode cX3_noPage 5 = .ok (.iconst 5, 1) := by decide +kernel
theorem dX3_noPage_6 : decode cX3_noPage 6 = .ok (.if_icmp .gt 13, 3) := by decide +kernel
theorem dX3_noPage_9 : decode cX3_noPage 9 = .ok (.iload_n 1, 1) := by decide +kernel
theorem dX3_noPage_10 : decode cX3_noPage 10 = .ok (.ifCond .lt 9, 3) := by decide +kernel
theorem dX3_noPage_13 : decode cX3_noPage 13 = .ok (.iload_n 1, 1) := by decide +kernel
theorem dX3_noPage_14 : decode cX3_noPage 14 = .ok (.bipush 7, 2) := by decide +kernel
theorem dX3_noPage_16 : decode cX3_noPage 16 = .ok (.if_icmp .le 7, 3) := by decide +kernel
theorem dX3_noPage_19 : decode cX3_noPage 19 = .ok (.iconst 1, 1) := by decide +kernel
theorem dX3_noPage_20 : decode cX3_noPage 20 = .ok (.goto 4, 3) := by decide +kernel
theorem dX3_noPage_23 : decode cX3_noPage 23 = .ok (.iconst 0, 1) := by decide +kernel
theorem dX3_noPage_24 : decode cX3_noPage 24 = .ok (.ireturn, 1) := by decide +kernel
theorem dX3_place_0 : decode cX3_place 0 = .ok (.bipush 16, 2) := by decide +kernel
theorem dX3_place_2 : decode cX3_place 2 = .ok (.iload_n 0, 1) := by decide +kernel
theorem dX3_place_3 : decode cX3_place 3 = .ok (.imul, 1) := by decide +kernel
theorem dX3_place_4 : decode cX3_place 4 = .ok (.iload_n 1, 1) := by decide +kernel
theorem dX3_place_5 : decode cX3_place 5 = .ok (.iadd, 1) := by decide +kernel
theorem dX3_place_6 : decode cX3_place 6 = .ok (.iload_n 2, 1) := by decide +kernel
theorem dX3_place_7 : decode cX3_place 7 = .ok (.ifCond .eq 8, 3) := by decide +kernel
theorem dX3_place_10 : decode cX3_place 10 = .ok (.bipush 8, 2) := by decide +kernel
theorem dX3_place_12 : decode cX3_place 12 = .ok (.goto 4, 3) := by decide +kernel
theorem dX3_place_15 : decode cX3_place 15 = .ok (.iconst 0, 1) := by decide +kernel
theorem dX3_place_16 : decode cX3_place 16 = .ok (.iadd, 1) := by decide +kernel
theorem dX3_place_17 : decode cX3_place 17 = .ok (.ireturn, 1) := by decide +kernel
theorem dX3_ruin_0 : decode cX3_ruin 0 = .ok (.aload_n 0, 1) := by decide +kernel
theorem dX3_ruin_1 : decode cX3_ruin 1 = .ok (.iload_n 1, 1) := by decide +kernel
theorem dX3_ruin_2 : decode cX3_ruin 2 = .ok (.iload_n 2, 1) := by decide +kernel
theorem dX3_ruin_3 : decode cX3_ruin 3 = .ok (.invokestatic 122, 3) := by decide +kernel
theorem dX3_ruin_6 : decode cX3_ruin 6 = .ok (.ifCond .eq 7, 3) := by decide +kernel
theorem dX3_ruin_9 : decode cX3_ruin 9 = .ok (.iconst 1, 1) := by decide +kernel
theorem dX3_ruin_10 : decode cX3_ruin 10 = .ok (.goto 4, 3) := by decide +kernel
theorem dX3_ruin_13 : decode cX3_ruin 13 = .ok (.iconst 0, 1) := by decide +kernel
theorem dX3_ruin_14 : decode cX3_ruin 14 = .ok (.putfield 36, 3) := by decide +kernel
theorem dX3_ruin_17 : decode cX3_ruin 17 = .ok (.aload_n 0, 1) := by decide +kernel
theorem dX3_ruin_18 : decode cX3_ruin 18 = .ok (.getfield 36, 3) := by decide +kernel
theorem dX3_ruin_21 : decode cX3_ruin 21 = .ok (.ifCond .ne 18, 3) := by decide +kernel
theorem dX3_ruin_24 : decode cX3_ruin 24 = .ok (.aload_n 0, 1) := by decide +kernel
theorem dX3_ruin_25 : decode cX3_ruin 25 = .ok (.getfield 7, 3) := by decide +kernel
theorem dX3_ruin_28 : decode cX3_ruin 28 = .ok (.iload_n 1, 1) := by decide +kernel
theorem dX3_ruin_29 : decode cX3_ruin 29 = .ok (.iload_n 2, 1) := by decide +kernel
theorem dX3_ruin_30 : decode cX3_ruin 30 = .ok (.iload_n 3, 1) := by decide +kernel
theorem dX3_ruin_31 : decode cX3_ruin 31 = .ok (.invokestatic 125, 3) := by decide +kernel
theorem dX3_ruin_34 : decode cX3_ruin 34 = .ok (.iaload, 1) := by decide +kernel
theorem dX3_ruin_35 : decode cX3_ruin 35 = .ok (.iconst 1, 1) := by decide +kernel
theorem dX3_ruin_36 : decode cX3_ruin 36 = .ok (.if_icmp .eq 5, 3) := by decide +kernel
theorem dX3_ruin_39 : decode cX3_ruin 39 = .ok (.iconst 0, 1) := by decide +kernel
theorem dX3_ruin_40 : decode cX3_ruin 40 = .ok (.ireturn, 1) := by decide +kernel
theorem dX3_ruin_41 : decode cX3_ruin 41 = .ok (.aload_n 0, 1) := by decide +kernel
theorem dX3_ruin_42 : decode cX3_ruin 42 = .ok (.getfield 7, 3) := by decide +kernel
theorem dX3_ruin_45 : decode cX3_ruin 45 = .ok (.iload_n 1, 1) := by decide +kernel
theorem dX3_ruin_46 : decode cX3_ruin 46 = .ok (.iload_n 2, 1) := by decide +kernel
theorem dX3_ruin_47 : decode cX3_ruin 47 = .ok (.iload_n 3, 1) := by decide +kernel
theorem dX3_ruin_48 : decode cX3_ruin 48 = .ok (.invokestatic 125, 3) := by decide +kernel
theorem dX3_ruin_51 : decode cX3_ruin 51 = .ok (.iconst 2, 1) := by decide +kernel
theorem dX3_ruin_52 : decode cX3_ruin 52 = .ok (.iastore, 1) := by decide +kernel
theorem dX3_ruin_53 : decode cX3_ruin 53 = .ok (.iconst 1, 1) := by decide +kernel
theorem dX3_ruin_54 : decode cX3_ruin 54 = .ok (.ireturn, 1) := by decide +kernel
theorem dX3_page_0 : decode cX3_page 0 = .ok (.aload_n 0, 1) := by decide +kernel
theorem dX3_page_1 : decode cX3_page 1 = .ok (.iload_n 1, 1) := by decide +kernel
theorem dX3_page_2 : decode cX3_page 2 = .ok (.iload_n 2, 1) := by decide +kernel
theorem dX3_page_3 : decode cX3_page 3 = .ok (.invokestatic 122, 3) := by decide +kernel
theorem dX3_page_6 : decode cX3_page 6 = .ok (.ifCond .eq 7, 3) := by decide +kernel
theorem dX3_page_9 : decode cX3_page 9 = .ok (.iconst 1, 1) := by decide +kernel
theorem dX3_page_10 : decode cX3_page 10 = .ok (.goto 4, 3) := by decide +kernel
theorem dX3_page_13 : decode cX3_page 13 = .ok (.iconst 0, 1) := by decide +kernel
theorem dX3_page_14 : decode cX3_page 14 = .ok (.putfield 36, 3) := by decide +kernel
theorem dX3_page_17 : decode cX3_page 17 = .ok (.aload_n 0, 1) := by decide +kernel
theorem dX3_page_18 : decode cX3_page 18 = .ok (.getfield 36, 3) := by decide +kernel
theorem dX3_page_21 : decode cX3_page 21 = .ok (.ifCond .eq 5, 3) := by decide +kernel
theorem dX3_page_24 : decode cX3_page 24 = .ok (.iconst 0, 1) := by decide +kernel
theorem dX3_page_25 : decode cX3_page 25 = .ok (.ireturn, 1) := by decide +kernel
theorem dX3_page_26 : decode cX3_page 26 = .ok (.iload_n 1, 1) := by decide +kernel
theorem dX3_page_27 : decode cX3_page 27 = .ok (.iload_n 2, 1) := by decide +kernel
theorem dX3_page_28 : decode cX3_page 28 = .ok (.iload_n 3, 1) := by decide +kernel
theorem dX3_page_29 : decode cX3_page 29 = .ok (.invokestatic 125, 3) := by decide +kernel
theorem dX3_page_32 : decode cX3_page 32 = .ok (.istore 4, 2) := by decide +kernel
theorem dX3_page_34 : decode cX3_page 34 = .ok (.aload_n 0, 1) := by decide +kernel
theorem dX3_page_35 : decode cX3_page 35 = .ok (.iload 4, 2) := by decide +kernel
theorem dX3_page_37 : decode cX3_page 37 = .ok (.invokevirtual 43, 3) := by decide +kernel
theorem dX3_page_40 : decode cX3_page 40 = .ok (.ifCond .eq 7, 3) := by decide +kernel
theorem dX3_page_43 : decode cX3_page 43 = .ok (.iconst 3, 1) := by decide +kernel
theorem dX3_page_44 : decode cX3_page 44 = .ok (.goto 10, 3) := by decide +kernel
theorem dX3_page_47 : decode cX3_page 47 = .ok (.aload_n 0, 1) := by decide +kernel
theorem dX3_page_48 : decode cX3_page 48 = .ok (.getfield 7, 3) := by decide +kernel
theorem dX3_page_51 : decode cX3_page 51 = .ok (.iload 4, 2) := by decide +kernel
theorem dX3_page_53 : decode cX3_page 53 = .ok (.iaload, 1) := by decide +kernel
theorem dX3_page_54 : decode cX3_page 54 = .ok (.ireturn, 1) := by decide +kernel
theorem dX3_at_0 : decode cX3_at 0 = .ok (.aload_n 0, 1) := by decide +kernel
theorem dX3_at_1 : decode cX3_at 1 = .ok (.iload_n 1, 1) := by decide +kernel
theorem dX3_at_2 : decode cX3_at 2 = .ok (.iload_n 2, 1) := by decide +kernel
theorem dX3_at_3 : decode cX3_at 3 = .ok (.invokestatic 122, 3) := by decide +kernel
theorem dX3_at_6 : decode cX3_at 6 = .ok (.ifCond .ne 15, 3) := by decide +kernel
theorem dX3_at_9 : decode cX3_at 9 = .ok (.iload 4, 2) := by decide +kernel
theorem dX3_at_11 : decode cX3_at 11 = .ok (.ifCond .lt 10, 3) := by decide +kernel
theorem dX3_at_14 : decode cX3_at 14 = .ok (.iload 4, 2) := by decide +kernel
theorem dX3_at_16 : decode cX3_at 16 = .ok (.bipush 15, 2) := by decide +kernel
theorem dX3_at_18 : decode cX3_at 18 = .ok (.if_icmp .le 7, 3) := by decide +kernel
theorem dX3_at_21 : decode cX3_at 21 = .ok (.iconst 1, 1) := by decide +kernel
theorem dX3_at_22 : decode cX3_at 22 = .ok (.goto 4, 3) := by decide +kernel
theorem dX3_at_25 : decode cX3_at 25 = .ok (.iconst 0, 1) := by decide +kernel
theorem dX3_at_26 : decode cX3_at 26 = .ok (.putfield 36, 3) := by decide +kernel
theorem dX3_at_29 : decode cX3_at 29 = .ok (.aload_n 0, 1) := by decide +kernel
theorem dX3_at_30 : decode cX3_at 30 = .ok (.getfield 36, 3) := by decide +kernel
theorem dX3_at_33 : decode cX3_at 33 = .ok (.ifCond .eq 5, 3) := by decide +kernel
theorem dX3_at_36 : decode cX3_at 36 = .ok (.iconst 0, 1) := by decide +kernel
theorem dX3_at_37 : decode cX3_at 37 = .ok (.ireturn, 1) := by decide +kernel
theorem dX3_at_38 : decode cX3_at 38 = .ok (.iload_n 1, 1) := by decide +kernel
theorem dX3_at_39 : decode cX3_at 39 = .ok (.iload_n 2, 1) := by decide +kernel
theorem dX3_at_40 : decode cX3_at 40 = .ok (.iload_n 3, 1) := by decide +kernel
theorem dX3_at_41 : decode cX3_at 41 = .ok (.invokestatic 125, 3) := by decide +kernel
theorem dX3_at_44 : decode cX3_at 44 = .ok (.istore 5, 2) := by decide +kernel
theorem dX3_at_46 : decode cX3_at 46 = .ok (.aload_n 0, 1) := by decide +kernel
theorem dX3_at_47 : decode cX3_at 47 = .ok (.aload_n 0, 1) := by decide +kernel
theorem dX3_at_48 : decode cX3_at 48 = .ok (.iload 5, 2) := by decide +kernel
theorem dX3_at_50 : decode cX3_at 50 = .ok (.invokevirtual 94, 3) := by decide +kernel
theorem dX3_at_53 : decode cX3_at 53 = .ok (.ifCond .eq 7, 3) := by decide +kernel
theorem dX3_at_56 : decode cX3_at 56 = .ok (.iconst 0, 1) := by decide +kernel
theorem dX3_at_57 : decode cX3_at 57 = .ok (.goto 4, 3) := by decide +kernel
theorem dX3_at_60 : decode cX3_at 60 = .ok (.iconst 2, 1) := by decide +kernel
theorem dX3_at_61 : decode cX3_at 61 = .ok (.putfield 36, 3) := by decide +kernel
theorem dX3_at_64 : decode cX3_at 64 = .ok (.aload_n 0, 1) := by decide +kernel
theorem dX3_at_65 : decode cX3_at 65 = .ok (.getfield 36, 3) := by decide +kernel
theorem dX3_at_68 : decode cX3_at 68 = .ok (.ifCond .ne 14, 3) := by decide +kernel
theorem dX3_at_71 : decode cX3_at 71 = .ok (.aload_n 0, 1) := by decide +kernel
theorem dX3_at_72 : decode cX3_at 72 = .ok (.iload 5, 2) := by decide +kernel
theorem dX3_at_74 : decode cX3_at 74 = .ok (.iload 4, 2) := by decide +kernel
theorem dX3_at_76 : decode cX3_at 76 = .ok (.invokevirtual 87, 3) := by decide +kernel
theorem dX3_at_79 : decode cX3_at 79 = .ok (.goto 4, 3) := by decide +kernel
theorem dX3_at_82 : decode cX3_at 82 = .ok (.iconst 0, 1) := by decide +kernel
theorem dX3_at_83 : decode cX3_at 83 = .ok (.ireturn, 1) := by decide +kernel
theorem dX3_guard_0 : decode cX3_guard 0 = .ok (.aload_n 0, 1) := by decide +kernel
theorem dX3_guard_1 : decode cX3_guard 1 = .ok (.iload_n 1, 1) := by decide +kernel
theorem dX3_guard_2 : decode cX3_guard 2 = .ok (.ifCond .lt 8, 3) := by decide +kernel
theorem dX3_guard_5 : decode cX3_guard 5 = .ok (.iload_n 1, 1) := by decide +kernel
theorem dX3_guard_6 : decode cX3_guard 6 = .ok (.iconst 5, 1) := by decide +kernel
theorem dX3_guard_7 : decode cX3_guard 7 = .ok (.if_icmp .le 7, 3) := by decide +kernel
theorem dX3_guard_10 : decode cX3_guard 10 = .ok (.iconst 1, 1) := by decide +kernel
theorem dX3_guard_11 : decode cX3_guard 11 = .ok (.goto 4, 3) := by decide +kernel
theorem dX3_guard_14 : decode cX3_guard 14 = .ok (.iconst 0, 1) := by decide +kernel
theorem dX3_guard_15 : decode cX3_guard 15 = .ok (.putfield 36, 3) := by decide +kernel
theorem dX3_guard_18 : decode cX3_guard 18 = .ok (.aload_n 0, 1) := by decide +kernel
theorem dX3_guard_19 : decode cX3_guard 19 = .ok (.getfield 36, 3) := by decide +kernel
theorem dX3_guard_22 : decode cX3_guard 22 = .ok (.ifCond .ne 12, 3) := by decide +kernel
theorem dX3_guard_25 : decode cX3_guard 25 = .ok (.aload_n 0, 1) := by decide +kernel
theorem dX3_guard_26 : decode cX3_guard 26 = .ok (.getfield 16, 3) := by decide +kernel
theorem dX3_guard_29 : decode cX3_guard 29 = .ok (.iload_n 1, 1) := by decide +kernel
theorem dX3_guard_30 : decode cX3_guard 30 = .ok (.iaload, 1) := by decide +kernel
theorem dX3_guard_31 : decode cX3_guard 31 = .ok (.goto 4, 3) := by decide +kernel
theorem dX3_guard_34 : decode cX3_guard 34 = .ok (.iconst 0, 1) := by decide +kernel
theorem dX3_guard_35 : decode cX3_guard 35 = .ok (.ireturn, 1) := by decide +kernel
theorem dX3_guarded_0 : decode cX3_guarded 0 = .ok (.aload_n 0, 1) := by decide +kernel
theorem dX3_guarded_1 : decode cX3_guarded 1 = .ok (.iload_n 1, 1) := by decide +kernel
theorem dX3_guarded_2 : decode cX3_guarded 2 = .ok (.ifCond .lt 18, 3) := by decide +kernel
theorem dX3_guarded_5 : decode cX3_guarded 5 = .ok (.iload_n 1, 1) := by decide +kernel
theorem dX3_guarded_6 : decode cX3_guarded 6 = .ok (.iconst 5, 1) := by decide +kernel
theorem dX3_guarded_7 : decode cX3_guarded 7 = .ok (.if_icmp .gt 13, 3) := by decide +kernel
theorem dX3_guarded_10 : decode cX3_guarded 10 = .ok (.iload_n 2, 1) := by decide +kernel
theorem dX3_guarded_11 : decode cX3_guarded 11 = .ok (.ifCond .lt 9, 3) := by decide +kernel
theorem dX3_guarded_14 : decode cX3_guarded 14 = .ok (.iload_n 2, 1) := by decide +kernel
theorem dX3_guarded_15 : decode cX3_guarded 15 = .ok (.bipush 16, 2) := by decide +kernel
theorem dX3_guarded_17 : decode cX3_guarded 17 = .ok (.if_icmp .le 7, 3) := by decide +kernel
theorem dX3_guarded_20 : decode cX3_guarded 20 = .ok (.iconst 1, 1) := by decide +kernel
theorem dX3_guarded_21 : decode cX3_guarded 21 = .ok (.goto 4, 3) := by decide +kernel
theorem dX3_guarded_24 : decode cX3_guarded 24 = .ok (.iconst 0, 1) := by decide +kernel
theorem dX3_guarded_25 : decode cX3_guarded 25 = .ok (.putfield 36, 3) := by decide +kernel
theorem dX3_guarded_28 : decode cX3_guarded 28 = .ok (.aload_n 0, 1) := by decide +kernel
theorem dX3_guarded_29 : decode cX3_guarded 29 = .ok (.getfield 36, 3) := by decide +kernel
theorem dX3_guarded_32 : decode cX3_guarded 32 = .ok (.ifCond .eq 5, 3) := by decide +kernel
theorem dX3_guarded_35 : decode cX3_guarded 35 = .ok (.iconst 0, 1) := by decide +kernel
theorem dX3_guarded_36 : decode cX3_guarded 36 = .ok (.ireturn, 1) := by decide +kernel
theorem dX3_guarded_37 : decode cX3_guarded 37 = .ok (.aload_n 0, 1) := by decide +kernel
theorem dX3_guarded_38 : decode cX3_guarded 38 = .ok (.aload_n 0, 1) := by decide +kernel
theorem dX3_guarded_39 : decode cX3_guarded 39 = .ok (.getfield 16, 3) := by decide +kernel
theorem dX3_guarded_42 : decode cX3_guarded 42 = .ok (.iload_n 1, 1) := by decide +kernel
theorem dX3_guarded_43 : decode cX3_guarded 43 = .ok (.iaload, 1) := by decide +kernel
theorem dX3_guarded_44 : decode cX3_guarded 44 = .ok (.iconst 1, 1) := by decide +kernel
theorem dX3_guarded_45 : decode cX3_guarded 45 = .ok (.if_icmp .ne 7, 3) := by decide +kernel
theorem dX3_guarded_48 : decode cX3_guarded 48 = .ok (.iconst 0, 1) := by decide +kernel
theorem dX3_guarded_49 : decode cX3_guarded 49 = .ok (.goto 4, 3) := by decide +kernel
theorem dX3_guarded_52 : decode cX3_guarded 52 = .ok (.iconst 2, 1) := by decide +kernel
theorem dX3_guarded_53 : decode cX3_guarded 53 = .ok (.putfield 36, 3) := by decide +kernel
theorem dX3_guarded_56 : decode cX3_guarded 56 = .ok (.aload_n 0, 1) := by decide +kernel
theorem dX3_guarded_57 : decode cX3_guarded 57 = .ok (.getfield 36, 3) := by decide +kernel
theorem dX3_guarded_60 : decode cX3_guarded 60 = .ok (.ifCond .ne 17, 3) := by decide +kernel
theorem dX3_guarded_63 : decode cX3_guarded 63 = .ok (.aload_n 0, 1) := by decide +kernel
theorem dX3_guarded_64 : decode cX3_guarded 64 = .ok (.getfield 19, 3) := by decide +kernel
theorem dX3_guarded_67 : decode cX3_guarded 67 = .ok (.bipush 17, 2) := by decide +kernel
theorem dX3_guarded_69 : decode cX3_guarded 69 = .ok (.iload_n 1, 1) := by decide +kernel
theorem dX3_guarded_70 : decode cX3_guarded 70 = .ok (.imul, 1) := by decide +kernel
theorem dX3_guarded_71 : decode cX3_guarded 71 = .ok (.iload_n 2, 1) := by decide +kernel
theorem dX3_guarded_72 : decode cX3_guarded 72 = .ok (.iadd, 1) := by decide +kernel
theorem dX3_guarded_73 : decode cX3_guarded 73 = .ok (.iaload, 1) := by decide +kernel
theorem dX3_guarded_74 : decode cX3_guarded 74 = .ok (.goto 4, 3) := by decide +kernel
theorem dX3_guarded_77 : decode cX3_guarded 77 = .ok (.iconst 0, 1) := by decide +kernel
theorem dX3_guarded_78 : decode cX3_guarded 78 = .ok (.ireturn, 1) := by decide +kernel
theorem dX3_told_0 : decode cX3_told 0 = .ok (.aload_n 0, 1) := by decide +kernel
theorem dX3_told_1 : decode cX3_told 1 = .ok (.iconst 0, 1) := by decide +kernel
theorem dX3_told_2 : decode cX3_told 2 = .ok (.putfield 36, 3) := by decide +kernel
theorem dX3_told_5 : decode cX3_told 5 = .ok (.iconst 0, 1) := by decide +kernel
theorem dX3_told_6 : decode cX3_told 6 = .ok (.istore_n 2, 1) := by decide +kernel
theorem dX3_told_7 : decode cX3_told 7 = .ok (.iconst 0, 1) := by decide +kernel
theorem dX3_told_8 : decode cX3_told 8 = .ok (.istore_n 3, 1) := by decide +kernel
theorem dX3_told_9 : decode cX3_told 9 = .ok (.iload_n 3, 1) := by decide +kernel
theorem dX3_told_10 : decode cX3_told 10 = .ok (.bipush 6, 2) := by decide +kernel
theorem dX3_told_12 : decode cX3_told 12 = .ok (.if_icmp .ge 25, 3) := by decide +kernel
theorem dX3_told_15 : decode cX3_told 15 = .ok (.iload_n 2, 1) := by decide +kernel
theorem dX3_told_16 : decode cX3_told 16 = .ok (.aload_n 0, 1) := by decide +kernel
theorem dX3_told_17 : decode cX3_told 17 = .ok (.iload_n 3, 1) := by decide +kernel
theorem dX3_told_18 : decode cX3_told 18 = .ok (.invokevirtual 60, 3) := by decide +kernel
theorem dX3_told_21 : decode cX3_told 21 = .ok (.ifCond .eq 7, 3) := by decide +kernel
theorem dX3_told_24 : decode cX3_told 24 = .ok (.iconst 1, 1) := by decide +kernel
theorem dX3_told_25 : decode cX3_told 25 = .ok (.goto 4, 3) := by decide +kernel
theorem dX3_told_28 : decode cX3_told 28 = .ok (.iconst 0, 1) := by decide +kernel
theorem dX3_told_29 : decode cX3_told 29 = .ok (.iadd, 1) := by decide +kernel
theorem dX3_told_30 : decode cX3_told 30 = .ok (.istore_n 2, 1) := by decide +kernel
theorem dX3_told_31 : decode cX3_told 31 = .ok (.iinc 3 1, 3) := by decide +kernel
theorem dX3_told_34 : decode cX3_told 34 = .ok (.goto (-25), 3) := by decide +kernel
theorem dX3_told_37 : decode cX3_told 37 = .ok (.iload_n 1, 1) := by decide +kernel
theorem dX3_told_38 : decode cX3_told 38 = .ok (.bipush 10, 2) := by decide +kernel
theorem dX3_told_40 : decode cX3_told 40 = .ok (.if_icmp .lt 19, 3) := by decide +kernel
theorem dX3_told_43 : decode cX3_told 43 = .ok (.iload_n 1, 1) := by decide +kernel
theorem dX3_told_44 : decode cX3_told 44 = .ok (.bipush 16, 2) := by decide +kernel
theorem dX3_told_46 : decode cX3_told 46 = .ok (.if_icmp .ge 13, 3) := by decide +kernel
theorem dX3_told_49 : decode cX3_told 49 = .ok (.aload_n 0, 1) := by decide +kernel
theorem dX3_told_50 : decode cX3_told 50 = .ok (.getfield 22, 3) := by decide +kernel
theorem dX3_told_53 : decode cX3_told 53 = .ok (.iload_n 1, 1) := by decide +kernel
theorem dX3_told_54 : decode cX3_told 54 = .ok (.bipush 10, 2) := by decide +kernel
theorem dX3_told_56 : decode cX3_told 56 = .ok (.isub, 1) := by decide +kernel
theorem dX3_told_57 : decode cX3_told 57 = .ok (.iaload, 1) := by decide +kernel
theorem dX3_told_58 : decode cX3_told 58 = .ok (.ireturn, 1) := by decide +kernel
theorem dX3_told_59 : decode cX3_told 59 = .ok (.iload_n 1, 1) := by decide +kernel
theorem dX3_told_60 : decode cX3_told 60 = .ok (.ifCond .ne 10, 3) := by decide +kernel
theorem dX3_told_63 : decode cX3_told 63 = .ok (.aload_n 0, 1) := by decide +kernel
theorem dX3_told_64 : decode cX3_told 64 = .ok (.getfield 54, 3) := by decide +kernel
theorem dX3_told_67 : decode cX3_told 67 = .ok (.goto 45, 3) := by decide +kernel
theorem dX3_told_70 : decode cX3_told 70 = .ok (.iload_n 1, 1) := by decide +kernel
theorem dX3_told_71 : decode cX3_told 71 = .ok (.iconst 1, 1) := by decide +kernel
theorem dX3_told_72 : decode cX3_told 72 = .ok (.if_icmp .ne 18, 3) := by decide +kernel
theorem dX3_told_75 : decode cX3_told 75 = .ok (.aload_n 0, 1) := by decide +kernel
theorem dX3_told_76 : decode cX3_told 76 = .ok (.getfield 25, 3) := by decide +kernel
theorem dX3_told_79 : decode cX3_told 79 = .ok (.ifCond .eq 7, 3) := by decide +kernel
theorem dX3_told_82 : decode cX3_told 82 = .ok (.iconst 1, 1) := by decide +kernel
theorem dX3_told_83 : decode cX3_told 83 = .ok (.goto 29, 3) := by decide +kernel
theorem dX3_told_86 : decode cX3_told 86 = .ok (.iconst 0, 1) := by decide +kernel
theorem dX3_told_87 : decode cX3_told 87 = .ok (.goto 25, 3) := by decide +kernel
theorem dX3_told_90 : decode cX3_told 90 = .ok (.iload_n 1, 1) := by decide +kernel
theorem dX3_told_91 : decode cX3_told 91 = .ok (.iconst 2, 1) := by decide +kernel
theorem dX3_told_92 : decode cX3_told 92 = .ok (.if_icmp .ne 7, 3) := by decide +kernel
theorem dX3_told_95 : decode cX3_told 95 = .ok (.iload_n 2, 1) := by decide +kernel
theorem dX3_told_96 : decode cX3_told 96 = .ok (.goto 16, 3) := by decide +kernel
theorem dX3_told_99 : decode cX3_told 99 = .ok (.iload_n 1, 1) := by decide +kernel
theorem dX3_told_100 : decode cX3_told 100 = .ok (.iconst 3, 1) := by decide +kernel
theorem dX3_told_101 : decode cX3_told 101 = .ok (.if_icmp .ne 10, 3) := by decide +kernel
theorem dX3_told_104 : decode cX3_told 104 = .ok (.aload_n 0, 1) := by decide +kernel
theorem dX3_told_105 : decode cX3_told 105 = .ok (.getfield 47, 3) := by decide +kernel
theorem dX3_told_108 : decode cX3_told 108 = .ok (.goto 4, 3) := by decide +kernel
theorem dX3_told_111 : decode cX3_told 111 = .ok (.iconst (-1), 1) := by decide +kernel
theorem dX3_told_112 : decode cX3_told 112 = .ok (.ireturn, 1) := by decide +kernel
