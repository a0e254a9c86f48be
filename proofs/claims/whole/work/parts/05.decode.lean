theorem dX0_init_0 : decode cX0_init 0 = .ok (.aload_n 0, 1) := by decide +kernel
theorem dX0_init_1 : decode cX0_init 1 = .ok (.invokespecial 3, 3) := by decide +kernel
theorem dX0_init_4 : decode cX0_init 4 = .ok (.aload_n 0, 1) := by decide +kernel
theorem dX0_init_5 : decode cX0_init 5 = .ok (.bipush 16, 2) := by decide +kernel
theorem dX0_init_7 : decode cX0_init 7 = .ok (.newarray .int, 2) := by decide +kernel
theorem dX0_init_9 : decode cX0_init 9 = .ok (.putfield 9, 3) := by decide +kernel
theorem dX0_init_12 : decode cX0_init 12 = .ok (.aload_n 0, 1) := by decide +kernel
theorem dX0_init_13 : decode cX0_init 13 = .ok (.sipush 256, 3) := by decide +kernel
theorem dX0_init_16 : decode cX0_init 16 = .ok (.newarray .int, 2) := by decide +kernel
theorem dX0_init_18 : decode cX0_init 18 = .ok (.putfield 15, 3) := by decide +kernel
theorem dX0_init_21 : decode cX0_init 21 = .ok (.aload_n 0, 1) := by decide +kernel
theorem dX0_init_22 : decode cX0_init 22 = .ok (.bipush 17, 2) := by decide +kernel
theorem dX0_init_24 : decode cX0_init 24 = .ok (.newarray .int, 2) := by decide +kernel
theorem dX0_init_26 : decode cX0_init 26 = .ok (.putfield 18, 3) := by decide +kernel
theorem dX0_init_29 : decode cX0_init 29 = .ok (.aload_n 0, 1) := by decide +kernel
theorem dX0_init_30 : decode cX0_init 30 = .ok (.iconst 0, 1) := by decide +kernel
theorem dX0_init_31 : decode cX0_init 31 = .ok (.putfield 21, 3) := by decide +kernel
theorem dX0_init_34 : decode cX0_init 34 = .ok (.aload_n 0, 1) := by decide +kernel
theorem dX0_init_35 : decode cX0_init 35 = .ok (.iconst 0, 1) := by decide +kernel
theorem dX0_init_36 : decode cX0_init 36 = .ok (.putfield 25, 3) := by decide +kernel
theorem dX0_init_39 : decode cX0_init 39 = .ok (.return_, 1) := by decide +kernel
theorem dX0_nextPlace_0 : decode cX0_nextPlace 0 = .ok (.iconst 0, 1) := by decide +kernel
theorem dX0_nextPlace_1 : decode cX0_nextPlace 1 = .ok (.istore_n 1, 1) := by decide +kernel
theorem dX0_nextPlace_2 : decode cX0_nextPlace 2 = .ok (.iload_n 1, 1) := by decide +kernel
theorem dX0_nextPlace_3 : decode cX0_nextPlace 3 = .ok (.bipush 16, 2) := by decide +kernel
theorem dX0_nextPlace_5 : decode cX0_nextPlace 5 = .ok (.if_icmp .ge 18, 3) := by decide +kernel
theorem dX0_nextPlace_8 : decode cX0_nextPlace 8 = .ok (.aload_n 0, 1) := by decide +kernel
theorem dX0_nextPlace_9 : decode cX0_nextPlace 9 = .ok (.getfield 9, 3) := by decide +kernel
theorem dX0_nextPlace_12 : decode cX0_nextPlace 12 = .ok (.iload_n 1, 1) := by decide +kernel
theorem dX0_nextPlace_13 : decode cX0_nextPlace 13 = .ok (.iaload, 1) := by decide +kernel
theorem dX0_nextPlace_14 : decode cX0_nextPlace 14 = .ok (.ifCond .eq 9, 3) := by decide +kernel
theorem dX0_nextPlace_17 : decode cX0_nextPlace 17 = .ok (.iinc 1 1, 3) := by decide +kernel
theorem dX0_nextPlace_20 : decode cX0_nextPlace 20 = .ok (.goto (-18), 3) := by decide +kernel
theorem dX0_nextPlace_23 : decode cX0_nextPlace 23 = .ok (.iload_n 1, 1) := by decide +kernel
theorem dX0_nextPlace_24 : decode cX0_nextPlace 24 = .ok (.ireturn, 1) := by decide +kernel
theorem dX0_isErased_0 : decode cX0_isErased 0 = .ok (.aload_n 0, 1) := by decide +kernel
theorem dX0_isErased_1 : decode cX0_isErased 1 = .ok (.invokevirtual 28, 3) := by decide +kernel
theorem dX0_isErased_4 : decode cX0_isErased 4 = .ok (.ifCond .ne 7, 3) := by decide +kernel
theorem dX0_isErased_7 : decode cX0_isErased 7 = .ok (.iconst 1, 1) := by decide +kernel
theorem dX0_isErased_8 : decode cX0_isErased 8 = .ok (.goto 4, 3) := by decide +kernel
theorem dX0_isErased_11 : decode cX0_isErased 11 = .ok (.iconst 0, 1) := by decide +kernel
theorem dX0_isErased_12 : decode cX0_isErased 12 = .ok (.ireturn, 1) := by decide +kernel
theorem dX0_takesMore_0 : decode cX0_takesMore 0 = .ok (.bipush 8, 2) := by decide +kernel
theorem dX0_takesMore_2 : decode cX0_takesMore 2 = .ok (.istore_n 1, 1) := by decide +kernel
theorem dX0_takesMore_3 : decode cX0_takesMore 3 = .ok (.iload_n 1, 1) := by decide +kernel
theorem dX0_takesMore_4 : decode cX0_takesMore 4 = .ok (.bipush 16, 2) := by decide +kernel
theorem dX0_takesMore_6 : decode cX0_takesMore 6 = .ok (.if_icmp .ge 21, 3) := by decide +kernel
theorem dX0_takesMore_9 : decode cX0_takesMore 9 = .ok (.aload_n 0, 1) := by decide +kernel
theorem dX0_takesMore_10 : decode cX0_takesMore 10 = .ok (.getfield 9, 3) := by decide +kernel
theorem dX0_takesMore_13 : decode cX0_takesMore 13 = .ok (.iload_n 1, 1) := by decide +kernel
theorem dX0_takesMore_14 : decode cX0_takesMore 14 = .ok (.iaload, 1) := by decide +kernel
theorem dX0_takesMore_15 : decode cX0_takesMore 15 = .ok (.iconst 2, 1) := by decide +kernel
theorem dX0_takesMore_16 : decode cX0_takesMore 16 = .ok (.if_icmp .ne 5, 3) := by decide +kernel
theorem dX0_takesMore_19 : decode cX0_takesMore 19 = .ok (.iconst 0, 1) := by decide +kernel
theorem dX0_takesMore_20 : decode cX0_takesMore 20 = .ok (.ireturn, 1) := by decide +kernel
theorem dX0_takesMore_21 : decode cX0_takesMore 21 = .ok (.iinc 1 1, 3) := by decide +kernel
theorem dX0_takesMore_24 : decode cX0_takesMore 24 = .ok (.goto (-21), 3) := by decide +kernel
theorem dX0_takesMore_27 : decode cX0_takesMore 27 = .ok (.aload_n 0, 1) := by decide +kernel
theorem dX0_takesMore_28 : decode cX0_takesMore 28 = .ok (.invokevirtual 28, 3) := by decide +kernel
theorem dX0_takesMore_31 : decode cX0_takesMore 31 = .ok (.bipush 16, 2) := by decide +kernel
theorem dX0_takesMore_33 : decode cX0_takesMore 33 = .ok (.if_icmp .ge 7, 3) := by decide +kernel
theorem dX0_takesMore_36 : decode cX0_takesMore 36 = .ok (.iconst 1, 1) := by decide +kernel
theorem dX0_takesMore_37 : decode cX0_takesMore 37 = .ok (.goto 4, 3) := by decide +kernel
theorem dX0_takesMore_40 : decode cX0_takesMore 40 = .ok (.iconst 0, 1) := by decide +kernel
theorem dX0_takesMore_41 : decode cX0_takesMore 41 = .ok (.ireturn, 1) := by decide +kernel
theorem dX0_erase_0 : decode cX0_erase 0 = .ok (.aload_n 0, 1) := by decide +kernel
theorem dX0_erase_1 : decode cX0_erase 1 = .ok (.getfield 9, 3) := by decide +kernel
theorem dX0_erase_4 : decode cX0_erase 4 = .ok (.iconst 0, 1) := by decide +kernel
theorem dX0_erase_5 : decode cX0_erase 5 = .ok (.invokestatic 32, 3) := by decide +kernel
theorem dX0_erase_8 : decode cX0_erase 8 = .ok (.aload_n 0, 1) := by decide +kernel
theorem dX0_erase_9 : decode cX0_erase 9 = .ok (.iconst 0, 1) := by decide +kernel
theorem dX0_erase_10 : decode cX0_erase 10 = .ok (.putfield 21, 3) := by decide +kernel
theorem dX0_erase_13 : decode cX0_erase 13 = .ok (.aload_n 0, 1) := by decide +kernel
theorem dX0_erase_14 : decode cX0_erase 14 = .ok (.dup, 1) := by decide +kernel
theorem dX0_erase_15 : decode cX0_erase 15 = .ok (.getfield 25, 3) := by decide +kernel
theorem dX0_erase_18 : decode cX0_erase 18 = .ok (.iconst 1, 1) := by decide +kernel
theorem dX0_erase_19 : decode cX0_erase 19 = .ok (.iadd, 1) := by decide +kernel
theorem dX0_erase_20 : decode cX0_erase 20 = .ok (.putfield 25, 3) := by decide +kernel
theorem dX0_erase_23 : decode cX0_erase 23 = .ok (.return_, 1) := by decide +kernel
theorem dX0_write_0 : decode cX0_write 0 = .ok (.aload_n 0, 1) := by decide +kernel
theorem dX0_write_1 : decode cX0_write 1 = .ok (.getfield 9, 3) := by decide +kernel
theorem dX0_write_4 : decode cX0_write 4 = .ok (.iload_n 1, 1) := by decide +kernel
theorem dX0_write_5 : decode cX0_write 5 = .ok (.iconst 1, 1) := by decide +kernel
theorem dX0_write_6 : decode cX0_write 6 = .ok (.iastore, 1) := by decide +kernel
theorem dX0_write_7 : decode cX0_write 7 = .ok (.aload_n 2, 1) := by decide +kernel
theorem dX0_write_8 : decode cX0_write 8 = .ok (.getfield 38, 3) := by decide +kernel
theorem dX0_write_11 : decode cX0_write 11 = .ok (.iconst 0, 1) := by decide +kernel
theorem dX0_write_12 : decode cX0_write 12 = .ok (.aload_n 0, 1) := by decide +kernel
theorem dX0_write_13 : decode cX0_write 13 = .ok (.getfield 15, 3) := by decide +kernel
theorem dX0_write_16 : decode cX0_write 16 = .ok (.iload_n 1, 1) := by decide +kernel
theorem dX0_write_17 : decode cX0_write 17 = .ok (.bipush 16, 2) := by decide +kernel
theorem dX0_write_19 : decode cX0_write 19 = .ok (.imul, 1) := by decide +kernel
theorem dX0_write_20 : decode cX0_write 20 = .ok (.bipush 16, 2) := by decide +kernel
theorem dX0_write_22 : decode cX0_write 22 = .ok (.invokestatic 41, 3) := by decide +kernel
theorem dX0_write_25 : decode cX0_write 25 = .ok (.return_, 1) := by decide +kernel
theorem dX0_cutAt_0 : decode cX0_cutAt 0 = .ok (.aload_n 0, 1) := by decide +kernel
theorem dX0_cutAt_1 : decode cX0_cutAt 1 = .ok (.getfield 9, 3) := by decide +kernel
theorem dX0_cutAt_4 : decode cX0_cutAt 4 = .ok (.iload_n 1, 1) := by decide +kernel
theorem dX0_cutAt_5 : decode cX0_cutAt 5 = .ok (.iconst 2, 1) := by decide +kernel
theorem dX0_cutAt_6 : decode cX0_cutAt 6 = .ok (.iastore, 1) := by decide +kernel
theorem dX0_cutAt_7 : decode cX0_cutAt 7 = .ok (.iload_n 1, 1) := by decide +kernel
theorem dX0_cutAt_8 : decode cX0_cutAt 8 = .ok (.bipush 8, 2) := by decide +kernel
theorem dX0_cutAt_10 : decode cX0_cutAt 10 = .ok (.if_icmp .lt 13, 3) := by decide +kernel
theorem dX0_cutAt_13 : decode cX0_cutAt 13 = .ok (.aload_n 0, 1) := by decide +kernel
theorem dX0_cutAt_14 : decode cX0_cutAt 14 = .ok (.getfield 9, 3) := by decide +kernel
theorem dX0_cutAt_17 : decode cX0_cutAt 17 = .ok (.iload_n 1, 1) := by decide +kernel
theorem dX0_cutAt_18 : decode cX0_cutAt 18 = .ok (.bipush 8, 2) := by decide +kernel
theorem dX0_cutAt_20 : decode cX0_cutAt 20 = .ok (.isub, 1) := by decide +kernel
theorem dX0_cutAt_21 : decode cX0_cutAt 21 = .ok (.iconst 2, 1) := by decide +kernel
theorem dX0_cutAt_22 : decode cX0_cutAt 22 = .ok (.iastore, 1) := by decide +kernel
theorem dX0_cutAt_23 : decode cX0_cutAt 23 = .ok (.return_, 1) := by decide +kernel
theorem dX0_ruinWritten_0 : decode cX0_ruinWritten 0 = .ok (.aload_n 0, 1) := by decide +kernel
theorem dX0_ruinWritten_1 : decode cX0_ruinWritten 1 = .ok (.getfield 9, 3) := by decide +kernel
theorem dX0_ruinWritten_4 : decode cX0_ruinWritten 4 = .ok (.iload_n 1, 1) := by decide +kernel
theorem dX0_ruinWritten_5 : decode cX0_ruinWritten 5 = .ok (.iaload, 1) := by decide +kernel
theorem dX0_ruinWritten_6 : decode cX0_ruinWritten 6 = .ok (.iconst 1, 1) := by decide +kernel
theorem dX0_ruinWritten_7 : decode cX0_ruinWritten 7 = .ok (.if_icmp .eq 5, 3) := by decide +kernel
theorem dX0_ruinWritten_10 : decode cX0_ruinWritten 10 = .ok (.iconst 0, 1) := by decide +kernel
theorem dX0_ruinWritten_11 : decode cX0_ruinWritten 11 = .ok (.ireturn, 1) := by decide +kernel
theorem dX0_ruinWritten_12 : decode cX0_ruinWritten 12 = .ok (.aload_n 0, 1) := by decide +kernel
theorem dX0_ruinWritten_13 : decode cX0_ruinWritten 13 = .ok (.getfield 9, 3) := by decide +kernel
theorem dX0_ruinWritten_16 : decode cX0_ruinWritten 16 = .ok (.iload_n 1, 1) := by decide +kernel
theorem dX0_ruinWritten_17 : decode cX0_ruinWritten 17 = .ok (.iconst 2, 1) := by decide +kernel
theorem dX0_ruinWritten_18 : decode cX0_ruinWritten 18 = .ok (.iastore, 1) := by decide +kernel
theorem dX0_ruinWritten_19 : decode cX0_ruinWritten 19 = .ok (.iconst 1, 1) := by decide +kernel
theorem dX0_ruinWritten_20 : decode cX0_ruinWritten 20 = .ok (.ireturn, 1) := by decide +kernel
theorem dX0_writeGuard_0 : decode cX0_writeGuard 0 = .ok (.aload_n 0, 1) := by decide +kernel
theorem dX0_writeGuard_1 : decode cX0_writeGuard 1 = .ok (.getfield 18, 3) := by decide +kernel
theorem dX0_writeGuard_4 : decode cX0_writeGuard 4 = .ok (.iconst 0, 1) := by decide +kernel
theorem dX0_writeGuard_5 : decode cX0_writeGuard 5 = .ok (.invokestatic 32, 3) := by decide +kernel
theorem dX0_writeGuard_8 : decode cX0_writeGuard 8 = .ok (.iconst 0, 1) := by decide +kernel
theorem dX0_writeGuard_9 : decode cX0_writeGuard 9 = .ok (.istore_n 1, 1) := by decide +kernel
theorem dX0_writeGuard_10 : decode cX0_writeGuard 10 = .ok (.iload_n 1, 1) := by decide +kernel
theorem dX0_writeGuard_11 : decode cX0_writeGuard 11 = .ok (.bipush 8, 2) := by decide +kernel
theorem dX0_writeGuard_13 : decode cX0_writeGuard 13 = .ok (.if_icmp .ge 66, 3) := by decide +kernel
theorem dX0_writeGuard_16 : decode cX0_writeGuard 16 = .ok (.aload_n 0, 1) := by decide +kernel
theorem dX0_writeGuard_17 : decode cX0_writeGuard 17 = .ok (.getfield 9, 3) := by decide +kernel
theorem dX0_writeGuard_20 : decode cX0_writeGuard 20 = .ok (.iload_n 1, 1) := by decide +kernel
theorem dX0_writeGuard_21 : decode cX0_writeGuard 21 = .ok (.iaload, 1) := by decide +kernel
theorem dX0_writeGuard_22 : decode cX0_writeGuard 22 = .ok (.iconst 1, 1) := by decide +kernel
theorem dX0_writeGuard_23 : decode cX0_writeGuard 23 = .ok (.if_icmp .ne 50, 3) := by decide +kernel
theorem dX0_writeGuard_26 : decode cX0_writeGuard 26 = .ok (.aload_n 0, 1) := by decide +kernel
theorem dX0_writeGuard_27 : decode cX0_writeGuard 27 = .ok (.getfield 18, 3) := by decide +kernel
theorem dX0_writeGuard_30 : decode cX0_writeGuard 30 = .ok (.bipush 16, 2) := by decide +kernel
theorem dX0_writeGuard_32 : decode cX0_writeGuard 32 = .ok (.dup2, 1) := by decide +kernel
theorem dX0_writeGuard_33 : decode cX0_writeGuard 33 = .ok (.iaload, 1) := by decide +kernel
theorem dX0_writeGuard_34 : decode cX0_writeGuard 34 = .ok (.iconst 1, 1) := by decide +kernel
theorem dX0_writeGuard_35 : decode cX0_writeGuard 35 = .ok (.iload_n 1, 1) := by decide +kernel
theorem dX0_writeGuard_36 : decode cX0_writeGuard 36 = .ok (.ishl, 1) := by decide +kernel
theorem dX0_writeGuard_37 : decode cX0_writeGuard 37 = .ok (.ior, 1) := by decide +kernel
theorem dX0_writeGuard_38 : decode cX0_writeGuard 38 = .ok (.iastore, 1) := by decide +kernel
theorem dX0_writeGuard_39 : decode cX0_writeGuard 39 = .ok (.iconst 0, 1) := by decide +kernel
theorem dX0_writeGuard_40 : decode cX0_writeGuard 40 = .ok (.istore_n 2, 1) := by decide +kernel
theorem dX0_writeGuard_41 : decode cX0_writeGuard 41 = .ok (.iload_n 2, 1) := by decide +kernel
theorem dX0_writeGuard_42 : decode cX0_writeGuard 42 = .ok (.bipush 16, 2) := by decide +kernel
theorem dX0_writeGuard_44 : decode cX0_writeGuard 44 = .ok (.if_icmp .ge 29, 3) := by decide +kernel
theorem dX0_writeGuard_47 : decode cX0_writeGuard 47 = .ok (.aload_n 0, 1) := by decide +kernel
theorem dX0_writeGuard_48 : decode cX0_writeGuard 48 = .ok (.getfield 18, 3) := by decide +kernel
theorem dX0_writeGuard_51 : decode cX0_writeGuard 51 = .ok (.iload_n 2, 1) := by decide +kernel
theorem dX0_writeGuard_52 : decode cX0_writeGuard 52 = .ok (.dup2, 1) := by decide +kernel
theorem dX0_writeGuard_53 : decode cX0_writeGuard 53 = .ok (.iaload, 1) := by decide +kernel
theorem dX0_writeGuard_54 : decode cX0_writeGuard 54 = .ok (.aload_n 0, 1) := by decide +kernel
theorem dX0_writeGuard_55 : decode cX0_writeGuard 55 = .ok (.getfield 15, 3) := by decide +kernel
theorem dX0_writeGuard_58 : decode cX0_writeGuard 58 = .ok (.iload_n 1, 1) := by decide +kernel
theorem dX0_writeGuard_59 : decode cX0_writeGuard 59 = .ok (.bipush 16, 2) := by decide +kernel
theorem dX0_writeGuard_61 : decode cX0_writeGuard 61 = .ok (.imul, 1) := by decide +kernel
theorem dX0_writeGuard_62 : decode cX0_writeGuard 62 = .ok (.iload_n 2, 1) := by decide +kernel
theorem dX0_writeGuard_63 : decode cX0_writeGuard 63 = .ok (.iadd, 1) := by decide +kernel
theorem dX0_writeGuard_64 : decode cX0_writeGuard 64 = .ok (.iaload, 1) := by decide +kernel
theorem dX0_writeGuard_65 : decode cX0_writeGuard 65 = .ok (.ixor, 1) := by decide +kernel
theorem dX0_writeGuard_66 : decode cX0_writeGuard 66 = .ok (.iastore, 1) := by decide +kernel
theorem dX0_writeGuard_67 : decode cX0_writeGuard 67 = .ok (.iinc 2 1, 3) := by decide +kernel
theorem dX0_writeGuard_70 : decode cX0_writeGuard 70 = .ok (.goto (-29), 3) := by decide +kernel
theorem dX0_writeGuard_73 : decode cX0_writeGuard 73 = .ok (.iinc 1 1, 3) := by decide +kernel
theorem dX0_writeGuard_76 : decode cX0_writeGuard 76 = .ok (.goto (-66), 3) := by decide +kernel
theorem dX0_writeGuard_79 : decode cX0_writeGuard 79 = .ok (.aload_n 0, 1) := by decide +kernel
theorem dX0_writeGuard_80 : decode cX0_writeGuard 80 = .ok (.iconst 1, 1) := by decide +kernel
theorem dX0_writeGuard_81 : decode cX0_writeGuard 81 = .ok (.putfield 21, 3) := by decide +kernel
theorem dX0_writeGuard_84 : decode cX0_writeGuard 84 = .ok (.return_, 1) := by decide +kernel
theorem dX0_stateAt_0 : decode cX0_stateAt 0 = .ok (.aload_n 0, 1) := by decide +kernel
theorem dX0_stateAt_1 : decode cX0_stateAt 1 = .ok (.iload_n 1, 1) := by decide +kernel
theorem dX0_stateAt_2 : decode cX0_stateAt 2 = .ok (.invokevirtual 47, 3) := by decide +kernel
theorem dX0_stateAt_5 : decode cX0_stateAt 5 = .ok (.ifCond .eq 7, 3) := by decide +kernel
theorem dX0_stateAt_8 : decode cX0_stateAt 8 = .ok (.iconst 3, 1) := by decide +kernel
theorem dX0_stateAt_9 : decode cX0_stateAt 9 = .ok (.goto 9, 3) := by decide +kernel
theorem dX0_stateAt_12 : decode cX0_stateAt 12 = .ok (.aload_n 0, 1) := by decide +kernel
theorem dX0_stateAt_13 : decode cX0_stateAt 13 = .ok (.getfield 9, 3) := by decide +kernel
theorem dX0_stateAt_16 : decode cX0_stateAt 16 = .ok (.iload_n 1, 1) := by decide +kernel
theorem dX0_stateAt_17 : decode cX0_stateAt 17 = .ok (.iaload, 1) := by decide +kernel
theorem dX0_stateAt_18 : decode cX0_stateAt 18 = .ok (.ireturn, 1) := by decide +kernel
theorem dX0_isReadable_0 : decode cX0_isReadable 0 = .ok (.aload_n 0, 1) := by decide +kernel
theorem dX0_isReadable_1 : decode cX0_isReadable 1 = .ok (.getfield 9, 3) := by decide +kernel
theorem dX0_isReadable_4 : decode cX0_isReadable 4 = .ok (.iload_n 1, 1) := by decide +kernel
theorem dX0_isReadable_5 : decode cX0_isReadable 5 = .ok (.iaload, 1) := by decide +kernel
theorem dX0_isReadable_6 : decode cX0_isReadable 6 = .ok (.iconst 1, 1) := by decide +kernel
theorem dX0_isReadable_7 : decode cX0_isReadable 7 = .ok (.if_icmp .eq 11, 3) := by decide +kernel
theorem dX0_isReadable_10 : decode cX0_isReadable 10 = .ok (.aload_n 0, 1) := by decide +kernel
theorem dX0_isReadable_11 : decode cX0_isReadable 11 = .ok (.iload_n 1, 1) := by decide +kernel
theorem dX0_isReadable_12 : decode cX0_isReadable 12 = .ok (.invokevirtual 47, 3) := by decide +kernel
theorem dX0_isReadable_15 : decode cX0_isReadable 15 = .ok (.ifCond .eq 7, 3) := by decide +kernel
theorem dX0_isReadable_18 : decode cX0_isReadable 18 = .ok (.iconst 1, 1) := by decide +kernel
theorem dX0_isReadable_19 : decode cX0_isReadable 19 = .ok (.goto 4, 3) := by decide +kernel
theorem dX0_isReadable_22 : decode cX0_isReadable 22 = .ok (.iconst 0, 1) := by decide +kernel
theorem dX0_isReadable_23 : decode cX0_isReadable 23 = .ok (.ireturn, 1) := by decide +kernel
theorem dX0_isRebuilt_0 : decode cX0_isRebuilt 0 = .ok (.aload_n 0, 1) := by decide +kernel
theorem dX0_isRebuilt_1 : decode cX0_isRebuilt 1 = .ok (.getfield 9, 3) := by decide +kernel
theorem dX0_isRebuilt_4 : decode cX0_isRebuilt 4 = .ok (.iload_n 1, 1) := by decide +kernel
theorem dX0_isRebuilt_5 : decode cX0_isRebuilt 5 = .ok (.iaload, 1) := by decide +kernel
theorem dX0_isRebuilt_6 : decode cX0_isRebuilt 6 = .ok (.iconst 2, 1) := by decide +kernel
theorem dX0_isRebuilt_7 : decode cX0_isRebuilt 7 = .ok (.if_icmp .ne 11, 3) := by decide +kernel
theorem dX0_isRebuilt_10 : decode cX0_isRebuilt 10 = .ok (.aload_n 0, 1) := by decide +kernel
theorem dX0_isRebuilt_11 : decode cX0_isRebuilt 11 = .ok (.iload_n 1, 1) := by decide +kernel
theorem dX0_isRebuilt_12 : decode cX0_isRebuilt 12 = .ok (.invokevirtual 51, 3) := by decide +kernel
theorem dX0_isRebuilt_15 : decode cX0_isRebuilt 15 = .ok (.ifCond .ne 5, 3) := by decide +kernel
theorem dX0_isRebuilt_18 : decode cX0_isRebuilt 18 = .ok (.iconst 0, 1) := by decide +kernel
theorem dX0_isRebuilt_19 : decode cX0_isRebuilt 19 = .ok (.ireturn, 1) := by decide +kernel
theorem dX0_isRebuilt_20 : decode cX0_isRebuilt 20 = .ok (.iconst 0, 1) := by decide +kernel
theorem dX0_isRebuilt_21 : decode cX0_isRebuilt 21 = .ok (.istore_n 2, 1) := by decide +kernel
theorem dX0_isRebuilt_22 : decode cX0_isRebuilt 22 = .ok (.iload_n 2, 1) := by decide +kernel
theorem dX0_isRebuilt_23 : decode cX0_isRebuilt 23 = .ok (.bipush 8, 2) := by decide +kernel
theorem dX0_isRebuilt_25 : decode cX0_isRebuilt 25 = .ok (.if_icmp .ge 34, 3) := by decide +kernel
theorem dX0_isRebuilt_28 : decode cX0_isRebuilt 28 = .ok (.iload_n 2, 1) := by decide +kernel
theorem dX0_isRebuilt_29 : decode cX0_isRebuilt 29 = .ok (.iload_n 1, 1) := by decide +kernel
theorem dX0_isRebuilt_30 : decode cX0_isRebuilt 30 = .ok (.if_icmp .eq 23, 3) := by decide +kernel
theorem dX0_isRebuilt_33 : decode cX0_isRebuilt 33 = .ok (.aload_n 0, 1) := by decide +kernel
theorem dX0_isRebuilt_34 : decode cX0_isRebuilt 34 = .ok (.iload_n 2, 1) := by decide +kernel
theorem dX0_isRebuilt_35 : decode cX0_isRebuilt 35 = .ok (.invokevirtual 51, 3) := by decide +kernel
theorem dX0_isRebuilt_38 : decode cX0_isRebuilt 38 = .ok (.ifCond .eq 15, 3) := by decide +kernel
theorem dX0_isRebuilt_41 : decode cX0_isRebuilt 41 = .ok (.aload_n 0, 1) := by decide +kernel
theorem dX0_isRebuilt_42 : decode cX0_isRebuilt 42 = .ok (.getfield 9, 3) := by decide +kernel
theorem dX0_isRebuilt_45 : decode cX0_isRebuilt 45 = .ok (.iload_n 2, 1) := by decide +kernel
theorem dX0_isRebuilt_46 : decode cX0_isRebuilt 46 = .ok (.iaload, 1) := by decide +kernel
theorem dX0_isRebuilt_47 : decode cX0_isRebuilt 47 = .ok (.iconst 1, 1) := by decide +kernel
theorem dX0_isRebuilt_48 : decode cX0_isRebuilt 48 = .ok (.if_icmp .eq 5, 3) := by decide +kernel
theorem dX0_isRebuilt_51 : decode cX0_isRebuilt 51 = .ok (.iconst 0, 1) := by decide +kernel
theorem dX0_isRebuilt_52 : decode cX0_isRebuilt 52 = .ok (.ireturn, 1) := by decide +kernel
theorem dX0_isRebuilt_53 : decode cX0_isRebuilt 53 = .ok (.iinc 2 1, 3) := by decide +kernel
theorem dX0_isRebuilt_56 : decode cX0_isRebuilt 56 = .ok (.goto (-34), 3) := by decide +kernel
theorem dX0_isRebuilt_59 : decode cX0_isRebuilt 59 = .ok (.iconst 1, 1) := by decide +kernel
theorem dX0_isRebuilt_60 : decode cX0_isRebuilt 60 = .ok (.ireturn, 1) := by decide +kernel
theorem dX0_covers_0 : decode cX0_covers 0 = .ok (.aload_n 0, 1) := by decide +kernel
theorem dX0_covers_1 : decode cX0_covers 1 = .ok (.getfield 21, 3) := by decide +kernel
theorem dX0_covers_4 : decode cX0_covers 4 = .ok (.iconst 1, 1) := by decide +kernel
theorem dX0_covers_5 : decode cX0_covers 5 = .ok (.if_icmp .ne 28, 3) := by decide +kernel
theorem dX0_covers_8 : decode cX0_covers 8 = .ok (.iload_n 1, 1) := by decide +kernel
theorem dX0_covers_9 : decode cX0_covers 9 = .ok (.bipush 8, 2) := by decide +kernel
theorem dX0_covers_11 : decode cX0_covers 11 = .ok (.if_icmp .ge 22, 3) := by decide +kernel
theorem dX0_covers_14 : decode cX0_covers 14 = .ok (.aload_n 0, 1) := by decide +kernel
theorem dX0_covers_15 : decode cX0_covers 15 = .ok (.getfield 18, 3) := by decide +kernel
theorem dX0_covers_18 : decode cX0_covers 18 = .ok (.bipush 16, 2) := by decide +kernel
theorem dX0_covers_20 : decode cX0_covers 20 = .ok (.iaload, 1) := by decide +kernel
theorem dX0_covers_21 : decode cX0_covers 21 = .ok (.iload_n 1, 1) := by decide +kernel
theorem dX0_covers_22 : decode cX0_covers 22 = .ok (.ishr, 1) := by decide +kernel
theorem dX0_covers_23 : decode cX0_covers 23 = .ok (.iconst 1, 1) := by decide +kernel
theorem dX0_covers_24 : decode cX0_covers 24 = .ok (.iand, 1) := by decide +kernel
theorem dX0_covers_25 : decode cX0_covers 25 = .ok (.iconst 1, 1) := by decide +kernel
theorem dX0_covers_26 : decode cX0_covers 26 = .ok (.if_icmp .ne 7, 3) := by decide +kernel
theorem dX0_covers_29 : decode cX0_covers 29 = .ok (.iconst 1, 1) := by decide +kernel
theorem dX0_covers_30 : decode cX0_covers 30 = .ok (.goto 4, 3) := by decide +kernel
theorem dX0_covers_33 : decode cX0_covers 33 = .ok (.iconst 0, 1) := by decide +kernel
theorem dX0_covers_34 : decode cX0_covers 34 = .ok (.ireturn, 1) := by decide +kernel
theorem dX0_byteAt_0 : decode cX0_byteAt 0 = .ok (.aload_n 0, 1) := by decide +kernel
theorem dX0_byteAt_1 : decode cX0_byteAt 1 = .ok (.getfield 9, 3) := by decide +kernel
theorem dX0_byteAt_4 : decode cX0_byteAt 4 = .ok (.iload_n 1, 1) := by decide +kernel
theorem dX0_byteAt_5 : decode cX0_byteAt 5 = .ok (.iaload, 1) := by decide +kernel
theorem dX0_byteAt_6 : decode cX0_byteAt 6 = .ok (.iconst 1, 1) := by decide +kernel
theorem dX0_byteAt_7 : decode cX0_byteAt 7 = .ok (.if_icmp .ne 15, 3) := by decide +kernel
theorem dX0_byteAt_10 : decode cX0_byteAt 10 = .ok (.aload_n 0, 1) := by decide +kernel
theorem dX0_byteAt_11 : decode cX0_byteAt 11 = .ok (.getfield 15, 3) := by decide +kernel
theorem dX0_byteAt_14 : decode cX0_byteAt 14 = .ok (.iload_n 1, 1) := by decide +kernel
theorem dX0_byteAt_15 : decode cX0_byteAt 15 = .ok (.bipush 16, 2) := by decide +kernel
theorem dX0_byteAt_17 : decode cX0_byteAt 17 = .ok (.imul, 1) := by decide +kernel
theorem dX0_byteAt_18 : decode cX0_byteAt 18 = .ok (.iload_n 2, 1) := by decide +kernel
theorem dX0_byteAt_19 : decode cX0_byteAt 19 = .ok (.iadd, 1) := by decide +kernel
theorem dX0_byteAt_20 : decode cX0_byteAt 20 = .ok (.iaload, 1) := by decide +kernel
theorem dX0_byteAt_21 : decode cX0_byteAt 21 = .ok (.ireturn, 1) := by decide +kernel
theorem dX0_byteAt_22 : decode cX0_byteAt 22 = .ok (.aload_n 0, 1) := by decide +kernel
theorem dX0_byteAt_23 : decode cX0_byteAt 23 = .ok (.getfield 18, 3) := by decide +kernel
theorem dX0_byteAt_26 : decode cX0_byteAt 26 = .ok (.iload_n 2, 1) := by decide +kernel
theorem dX0_byteAt_27 : decode cX0_byteAt 27 = .ok (.iaload, 1) := by decide +kernel
theorem dX0_byteAt_28 : decode cX0_byteAt 28 = .ok (.istore_n 3, 1) := by decide +kernel
theorem dX0_byteAt_29 : decode cX0_byteAt 29 = .ok (.iconst 0, 1) := by decide +kernel
theorem dX0_byteAt_30 : decode cX0_byteAt 30 = .ok (.istore 4, 2) := by decide +kernel
theorem dX0_byteAt_32 : decode cX0_byteAt 32 = .ok (.iload 4, 2) := by decide +kernel
theorem dX0_byteAt_34 : decode cX0_byteAt 34 = .ok (.bipush 8, 2) := by decide +kernel
theorem dX0_byteAt_36 : decode cX0_byteAt 36 = .ok (.if_icmp .ge 39, 3) := by decide +kernel
theorem dX0_byteAt_39 : decode cX0_byteAt 39 = .ok (.iload 4, 2) := by decide +kernel
theorem dX0_byteAt_41 : decode cX0_byteAt 41 = .ok (.iload_n 1, 1) := by decide +kernel
theorem dX0_byteAt_42 : decode cX0_byteAt 42 = .ok (.if_icmp .eq 27, 3) := by decide +kernel
theorem dX0_byteAt_45 : decode cX0_byteAt 45 = .ok (.aload_n 0, 1) := by decide +kernel
theorem dX0_byteAt_46 : decode cX0_byteAt 46 = .ok (.iload 4, 2) := by decide +kernel
theorem dX0_byteAt_48 : decode cX0_byteAt 48 = .ok (.invokevirtual 51, 3) := by decide +kernel
theorem dX0_byteAt_51 : decode cX0_byteAt 51 = .ok (.ifCond .eq 18, 3) := by decide +kernel
theorem dX0_byteAt_54 : decode cX0_byteAt 54 = .ok (.iload_n 3, 1) := by decide +kernel
theorem dX0_byteAt_55 : decode cX0_byteAt 55 = .ok (.aload_n 0, 1) := by decide +kernel
theorem dX0_byteAt_56 : decode cX0_byteAt 56 = .ok (.getfield 15, 3) := by decide +kernel
theorem dX0_byteAt_59 : decode cX0_byteAt 59 = .ok (.iload 4, 2) := by decide +kernel
theorem dX0_byteAt_61 : decode cX0_byteAt 61 = .ok (.bipush 16, 2) := by decide +kernel
theorem dX0_byteAt_63 : decode cX0_byteAt 63 = .ok (.imul, 1) := by decide +kernel
theorem dX0_byteAt_64 : decode cX0_byteAt 64 = .ok (.iload_n 2, 1) := by decide +kernel
theorem dX0_byteAt_65 : decode cX0_byteAt 65 = .ok (.iadd, 1) := by decide +kernel
theorem dX0_byteAt_66 : decode cX0_byteAt 66 = .ok (.iaload, 1) := by decide +kernel
theorem dX0_byteAt_67 : decode cX0_byteAt 67 = .ok (.ixor, 1) := by decide +kernel
theorem dX0_byteAt_68 : decode cX0_byteAt 68 = .ok (.istore_n 3, 1) := by decide +kernel
theorem dX0_byteAt_69 : decode cX0_byteAt 69 = .ok (.iinc 4 1, 3) := by decide +kernel
theorem dX0_byteAt_72 : decode cX0_byteAt 72 = .ok (.goto (-40), 3) := by decide +kernel
theorem dX0_byteAt_75 : decode cX0_byteAt 75 = .ok (.iload_n 3, 1) := by decide +kernel
theorem dX0_byteAt_76 : decode cX0_byteAt 76 = .ok (.ireturn, 1) := by decide +kernel
theorem dX0_show_0 : decode cX0_show 0 = .ok (.aload_n 0, 1) := by decide +kernel
theorem dX0_show_1 : decode cX0_show 1 = .ok (.iload_n 1, 1) := by decide +kernel
theorem dX0_show_2 : decode cX0_show 2 = .ok (.invokevirtual 54, 3) := by decide +kernel
theorem dX0_show_5 : decode cX0_show 5 = .ok (.ifCond .ne 5, 3) := by decide +kernel
theorem dX0_show_8 : decode cX0_show 8 = .ok (.iconst 0, 1) := by decide +kernel
theorem dX0_show_9 : decode cX0_show 9 = .ok (.ireturn, 1) := by decide +kernel
theorem dX0_show_10 : decode cX0_show 10 = .ok (.iconst 0, 1) := by decide +kernel
theorem dX0_show_11 : decode cX0_show 11 = .ok (.istore_n 3, 1) := by decide +kernel
theorem dX0_show_12 : decode cX0_show 12 = .ok (.iload_n 3, 1) := by decide +kernel
theorem dX0_show_13 : decode cX0_show 13 = .ok (.bipush 16, 2) := by decide +kernel
theorem dX0_show_15 : decode cX0_show 15 = .ok (.if_icmp .ge 21, 3) := by decide +kernel
theorem dX0_show_18 : decode cX0_show 18 = .ok (.aload_n 2, 1) := by decide +kernel
theorem dX0_show_19 : decode cX0_show 19 = .ok (.getfield 38, 3) := by decide +kernel
theorem dX0_show_22 : decode cX0_show 22 = .ok (.iload_n 3, 1) := by decide +kernel
theorem dX0_show_23 : decode cX0_show 23 = .ok (.aload_n 0, 1) := by decide +kernel
theorem dX0_show_24 : decode cX0_show 24 = .ok (.iload_n 1, 1) := by decide +kernel
theorem dX0_show_25 : decode cX0_show 25 = .ok (.iload_n 3, 1) := by decide +kernel
theorem dX0_show_26 : decode cX0_show 26 = .ok (.invokevirtual 57, 3) := by decide +kernel
theorem dX0_show_29 : decode cX0_show 29 = .ok (.iastore, 1) := by decide +kernel
theorem dX0_show_30 : decode cX0_show 30 = .ok (.iinc 3 1, 3) := by decide +kernel
theorem dX0_show_33 : decode cX0_show 33 = .ok (.goto (-21), 3) := by decide +kernel
theorem dX0_show_36 : decode cX0_show 36 = .ok (.iconst 1, 1) := by decide +kernel
theorem dX0_show_37 : decode cX0_show 37 = .ok (.ireturn, 1) := by decide +kernel
theorem dX1_init_0 : decode cX1_init 0 = .ok (.aload_n 0, 1) := by decide +kernel
theorem dX1_init_1 : decode cX1_init 1 = .ok (.invokespecial 3, 3) := by decide +kernel
theorem dX1_init_4 : decode cX1_init 4 = .ok (.aload_n 0, 1) := by decide +kernel
theorem dX1_init_5 : decode cX1_init 5 = .ok (.bipush 16, 2) := by decide +kernel
theorem dX1_init_7 : decode cX1_init 7 = .ok (.newarray .int, 2) := by decide +kernel
theorem dX1_init_9 : decode cX1_init 9 = .ok (.putfield 9, 3) := by decide +kernel
theorem dX1_init_12 : decode cX1_init 12 = .ok (.return_, 1) := by decide +kernel
theorem dX1_clear_0 : decode cX1_clear 0 = .ok (.aload_n 0, 1) := by decide +kernel
theorem dX1_clear_1 : decode cX1_clear 1 = .ok (.getfield 9, 3) := by decide +kernel
theorem dX1_clear_4 : decode cX1_clear 4 = .ok (.iconst 0, 1) := by decide +kernel
theorem dX1_clear_5 : decode cX1_clear 5 = .ok (.invokestatic 15, 3) := by decide +kernel
theorem dX1_clear_8 : decode cX1_clear 8 = .ok (.return_, 1) := by decide +kernel
theorem dX1_events_0 : decode cX1_events 0 = .ok (.aload_n 0, 1) := by decide +kernel
theorem dX1_events_1 : decode cX1_events 1 = .ok (.getfield 9, 3) := by decide +kernel
theorem dX1_events_4 : decode cX1_events 4 = .ok (.iconst 0, 1) := by decide +kernel
theorem dX1_events_5 : decode cX1_events 5 = .ok (.iaload, 1) := by decide +kernel
theorem dX1_events_6 : decode cX1_events 6 = .ok (.ireturn, 1) := by decide +kernel
theorem dX1_isEmpty_0 : decode cX1_isEmpty 0 = .ok (.aload_n 0, 1) := by decide +kernel
theorem dX1_isEmpty_1 : decode cX1_isEmpty 1 = .ok (.invokevirtual 21, 3) := by decide +kernel
theorem dX1_isEmpty_4 : decode cX1_isEmpty 4 = .ok (.ifCond .ne 7, 3) := by decide +kernel
theorem dX1_isEmpty_7 : decode cX1_isEmpty 7 = .ok (.iconst 1, 1) := by decide +kernel
theorem dX1_isEmpty_8 : decode cX1_isEmpty 8 = .ok (.goto 4, 3) := by decide +kernel
theorem dX1_isEmpty_11 : decode cX1_isEmpty 11 = .ok (.iconst 0, 1) := by decide +kernel
theorem dX1_isEmpty_12 : decode cX1_isEmpty 12 = .ok (.ireturn, 1) := by decide +kernel
theorem dX1_firstNumber_0 : decode cX1_firstNumber 0 = .ok (.aload_n 0, 1) := by decide +kernel
theorem dX1_firstNumber_1 : decode cX1_firstNumber 1 = .ok (.getfield 9, 3) := by decide +kernel
theorem dX1_firstNumber_4 : decode cX1_firstNumber 4 = .ok (.iconst 1, 1) := by decide +kernel
theorem dX1_firstNumber_5 : decode cX1_firstNumber 5 = .ok (.iaload, 1) := by decide +kernel
theorem dX1_firstNumber_6 : decode cX1_firstNumber 6 = .ok (.bipush 8, 2) := by decide +kernel
theorem dX1_firstNumber_8 : decode cX1_firstNumber 8 = .ok (.ishl, 1) := by decide +kernel
theorem dX1_firstNumber_9 : decode cX1_firstNumber 9 = .ok (.aload_n 0, 1) := by decide +kernel
theorem dX1_firstNumber_10 : decode cX1_firstNumber 10 = .ok (.getfield 9, 3) := by decide +kernel
theorem dX1_firstNumber_13 : decode cX1_firstNumber 13 = .ok (.iconst 2, 1) := by decide +kernel
theorem dX1_firstNumber_14 : decode cX1_firstNumber 14 = .ok (.iaload, 1) := by decide +kernel
theorem dX1_firstNumber_15 : decode cX1_firstNumber 15 = .ok (.ior, 1) := by decide +kernel
theorem dX1_firstNumber_16 : decode cX1_firstNumber 16 = .ok (.ireturn, 1) := by decide +kernel
theorem dX1_lastNumber_0 : decode cX1_lastNumber 0 = .ok (.aload_n 0, 1) := by decide +kernel
theorem dX1_lastNumber_1 : decode cX1_lastNumber 1 = .ok (.invokevirtual 25, 3) := by decide +kernel
theorem dX1_lastNumber_4 : decode cX1_lastNumber 4 = .ok (.aload_n 0, 1) := by decide +kernel
theorem dX1_lastNumber_5 : decode cX1_lastNumber 5 = .ok (.invokevirtual 21, 3) := by decide +kernel
theorem dX1_lastNumber_8 : decode cX1_lastNumber 8 = .ok (.iadd, 1) := by decide +kernel
theorem dX1_lastNumber_9 : decode cX1_lastNumber 9 = .ok (.iconst 1, 1) := by decide +kernel
theorem dX1_lastNumber_10 : decode cX1_lastNumber 10 = .ok (.isub, 1) := by decide +kernel
theorem dX1_lastNumber_11 : decode cX1_lastNumber 11 = .ok (.ireturn, 1) := by decide +kernel
theorem dX1_holds_0 : decode cX1_holds 0 = .ok (.aload_n 0, 1) := by decide +kernel
theorem dX1_holds_1 : decode cX1_holds 1 = .ok (.invokevirtual 28, 3) := by decide +kernel
theorem dX1_holds_4 : decode cX1_holds 4 = .ok (.ifCond .ne 23, 3) := by decide +kernel
theorem dX1_holds_7 : decode cX1_holds 7 = .ok (.iload_n 1, 1) := by decide +kernel
theorem dX1_holds_8 : decode cX1_holds 8 = .ok (.aload_n 0, 1) := by decide +kernel
theorem dX1_holds_9 : decode cX1_holds 9 = .ok (.invokevirtual 25, 3) := by decide +kernel
theorem dX1_holds_12 : decode cX1_holds 12 = .ok (.if_icmp .lt 15, 3) := by decide +kernel
theorem dX1_holds_15 : decode cX1_holds 15 = .ok (.iload_n 1, 1) := by decide +kernel
theorem dX1_holds_16 : decode cX1_holds 16 = .ok (.aload_n 0, 1) := by decide +kernel
theorem dX1_holds_17 : decode cX1_holds 17 = .ok (.invokevirtual 32, 3) := by decide +kernel
theorem dX1_holds_20 : decode cX1_holds 20 = .ok (.if_icmp .gt 7, 3) := by decide +kernel
theorem dX1_holds_23 : decode cX1_holds 23 = .ok (.iconst 1, 1) := by decide +kernel
theorem dX1_holds_24 : decode cX1_holds 24 = .ok (.goto 4, 3) := by decide +kernel
theorem dX1_holds_27 : decode cX1_holds 27 = .ok (.iconst 0, 1) := by decide +kernel
theorem dX1_holds_28 : decode cX1_holds 28 = .ok (.ireturn, 1) := by decide +kernel
theorem dX1_fits_0 : decode cX1_fits 0 = .ok (.aload_n 0, 1) := by decide +kernel
theorem dX1_fits_1 : decode cX1_fits 1 = .ok (.aload_n 0, 1) := by decide +kernel
theorem dX1_fits_2 : decode cX1_fits 2 = .ok (.invokevirtual 21, 3) := by decide +kernel
theorem dX1_fits_5 : decode cX1_fits 5 = .ok (.invokevirtual 35, 3) := by decide +kernel
theorem dX1_fits_8 : decode cX1_fits 8 = .ok (.iconst 1, 1) := by decide +kernel
theorem dX1_fits_9 : decode cX1_fits 9 = .ok (.iadd, 1) := by decide +kernel
theorem dX1_fits_10 : decode cX1_fits 10 = .ok (.iload_n 1, 1) := by decide +kernel
theorem dX1_fits_11 : decode cX1_fits 11 = .ok (.iadd, 1) := by decide +kernel
theorem dX1_fits_12 : decode cX1_fits 12 = .ok (.bipush 16, 2) := by decide +kernel
theorem dX1_fits_14 : decode cX1_fits 14 = .ok (.if_icmp .gt 7, 3) := by decide +kernel
theorem dX1_fits_17 : decode cX1_fits 17 = .ok (.iconst 1, 1) := by decide +kernel
theorem dX1_fits_18 : decode cX1_fits 18 = .ok (.goto 4, 3) := by decide +kernel
theorem dX1_fits_21 : decode cX1_fits 21 = .ok (.iconst 0, 1) := by decide +kernel
theorem dX1_fits_22 : decode cX1_fits 22 = .ok (.ireturn, 1) := by decide +kernel
theorem dX1_add_0 : decode cX1_add 0 = .ok (.aload_n 0, 1) := by decide +kernel
theorem dX1_add_1 : decode cX1_add 1 = .ok (.aload_n 0, 1) := by decide +kernel
theorem dX1_add_2 : decode cX1_add 2 = .ok (.invokevirtual 21, 3) := by decide +kernel
theorem dX1_add_5 : decode cX1_add 5 = .ok (.invokevirtual 35, 3) := by decide +kernel
theorem dX1_add_8 : decode cX1_add 8 = .ok (.istore 5, 2) := by decide +kernel
theorem dX1_add_10 : decode cX1_add 10 = .ok (.aload_n 0, 1) := by decide +kernel
theorem dX1_add_11 : decode cX1_add 11 = .ok (.invokevirtual 28, 3) := by decide +kernel
theorem dX1_add_14 : decode cX1_add 14 = .ok (.ifCond .eq 28, 3) := by decide +kernel
theorem dX1_add_17 : decode cX1_add 17 = .ok (.aload_n 0, 1) := by decide +kernel
theorem dX1_add_18 : decode cX1_add 18 = .ok (.getfield 9, 3) := by decide +kernel
theorem dX1_add_21 : decode cX1_add 21 = .ok (.iconst 1, 1) := by decide +kernel
theorem dX1_add_22 : decode cX1_add 22 = .ok (.iload_n 1, 1) := by decide +kernel
theorem dX1_add_23 : decode cX1_add 23 = .ok (.bipush 8, 2) := by decide +kernel
theorem dX1_add_25 : decode cX1_add 25 = .ok (.ishr, 1) := by decide +kernel
theorem dX1_add_26 : decode cX1_add 26 = .ok (.sipush 255, 3) := by decide +kernel
theorem dX1_add_29 : decode cX1_add 29 = .ok (.iand, 1) := by decide +kernel
theorem dX1_add_30 : decode cX1_add 30 = .ok (.iastore, 1) := by decide +kernel
theorem dX1_add_31 : decode cX1_add 31 = .ok (.aload_n 0, 1) := by decide +kernel
theorem dX1_add_32 : decode cX1_add 32 = .ok (.getfield 9, 3) := by decide +kernel
theorem dX1_add_35 : decode cX1_add 35 = .ok (.iconst 2, 1) := by decide +kernel
theorem dX1_add_36 : decode cX1_add 36 = .ok (.iload_n 1, 1) := by decide +kernel
theorem dX1_add_37 : decode cX1_add 37 = .ok (.sipush 255, 3) := by decide +kernel
theorem dX1_add_40 : decode cX1_add 40 = .ok (.iand, 1) := by decide +kernel
theorem dX1_add_41 : decode cX1_add 41 = .ok (.iastore, 1) := by decide +kernel
theorem dX1_add_42 : decode cX1_add 42 = .ok (.aload_n 0, 1) := by decide +kernel
theorem dX1_add_43 : decode cX1_add 43 = .ok (.getfield 9, 3) := by decide +kernel
theorem dX1_add_46 : decode cX1_add 46 = .ok (.iconst 0, 1) := by decide +kernel
theorem dX1_add_47 : decode cX1_add 47 = .ok (.dup2, 1) := by decide +kernel
theorem dX1_add_48 : decode cX1_add 48 = .ok (.iaload, 1) := by decide +kernel
theorem dX1_add_49 : decode cX1_add 49 = .ok (.iconst 1, 1) := by decide +kernel
theorem dX1_add_50 : decode cX1_add 50 = .ok (.iadd, 1) := by decide +kernel
theorem dX1_add_51 : decode cX1_add 51 = .ok (.iastore, 1) := by decide +kernel
theorem dX1_add_52 : decode cX1_add 52 = .ok (.aload_n 0, 1) := by decide +kernel
theorem dX1_add_53 : decode cX1_add 53 = .ok (.getfield 9, 3) := by decide +kernel
theorem dX1_add_56 : decode cX1_add 56 = .ok (.iload 5, 2) := by decide +kernel
theorem dX1_add_58 : decode cX1_add 58 = .ok (.iload_n 2, 1) := by decide +kernel
theorem dX1_add_59 : decode cX1_add 59 = .ok (.iastore, 1) := by decide +kernel
theorem dX1_add_60 : decode cX1_add 60 = .ok (.iconst 0, 1) := by decide +kernel
theorem dX1_add_61 : decode cX1_add 61 = .ok (.istore 6, 2) := by decide +kernel
theorem dX1_add_63 : decode cX1_add 63 = .ok (.iload 6, 2) := by decide +kernel
theorem dX1_add_65 : decode cX1_add 65 = .ok (.iload_n 2, 1) := by decide +kernel
theorem dX1_add_66 : decode cX1_add 66 = .ok (.if_icmp .ge 33, 3) := by decide +kernel
theorem dX1_add_69 : decode cX1_add 69 = .ok (.aload_n 0, 1) := by decide +kernel
theorem dX1_add_70 : decode cX1_add 70 = .ok (.getfield 9, 3) := by decide +kernel
theorem dX1_add_73 : decode cX1_add 73 = .ok (.iload 5, 2) := by decide +kernel
theorem dX1_add_75 : decode cX1_add 75 = .ok (.iconst 1, 1) := by decide +kernel
theorem dX1_add_76 : decode cX1_add 76 = .ok (.iadd, 1) := by decide +kernel
theorem dX1_add_77 : decode cX1_add 77 = .ok (.iload 6, 2) := by decide +kernel
theorem dX1_add_79 : decode cX1_add 79 = .ok (.iadd, 1) := by decide +kernel
theorem dX1_add_80 : decode cX1_add 80 = .ok (.lload_n 3, 1) := by decide +kernel
theorem dX1_add_81 : decode cX1_add 81 = .ok (.bipush 8, 2) := by decide +kernel
theorem dX1_add_83 : decode cX1_add 83 = .ok (.iload 6, 2) := by decide +kernel
theorem dX1_add_85 : decode cX1_add 85 = .ok (.imul, 1) := by decide +kernel
theorem dX1_add_86 : decode cX1_add 86 = .ok (.lshr, 1) := by decide +kernel
theorem dX1_add_87 : decode cX1_add 87 = .ok (.ldc2_w 39, 3) := by decide +kernel
theorem dX1_add_90 : decode cX1_add 90 = .ok (.land, 1) := by decide +kernel
theorem dX1_add_91 : decode cX1_add 91 = .ok (.l2i, 1) := by decide +kernel
theorem dX1_add_92 : decode cX1_add 92 = .ok (.iastore, 1) := by decide +kernel
theorem dX1_add_93 : decode cX1_add 93 = .ok (.iinc 6 1, 3) := by decide +kernel
theorem dX1_add_96 : decode cX1_add 96 = .ok (.goto (-33), 3) := by decide +kernel
theorem dX1_add_99 : decode cX1_add 99 = .ok (.return_, 1) := by decide +kernel
theorem dX1_lengthOf_0 : decode cX1_lengthOf 0 = .ok (.aload_n 0, 1) := by decide +kernel
theorem dX1_lengthOf_1 : decode cX1_lengthOf 1 = .ok (.getfield 9, 3) := by decide +kernel
theorem dX1_lengthOf_4 : decode cX1_lengthOf 4 = .ok (.aload_n 0, 1) := by decide +kernel
theorem dX1_lengthOf_5 : decode cX1_lengthOf 5 = .ok (.iload_n 1, 1) := by decide +kernel
theorem dX1_lengthOf_6 : decode cX1_lengthOf 6 = .ok (.aload_n 0, 1) := by decide +kernel
theorem dX1_lengthOf_7 : decode cX1_lengthOf 7 = .ok (.invokevirtual 25, 3) := by decide +kernel
theorem dX1_lengthOf_10 : decode cX1_lengthOf 10 = .ok (.isub, 1) := by decide +kernel
theorem dX1_lengthOf_11 : decode cX1_lengthOf 11 = .ok (.invokevirtual 35, 3) := by decide +kernel
theorem dX1_lengthOf_14 : decode cX1_lengthOf 14 = .ok (.iaload, 1) := by decide +kernel
theorem dX1_lengthOf_15 : decode cX1_lengthOf 15 = .ok (.ireturn, 1) := by decide +kernel
theorem dX1_bytesOf_0 : decode cX1_bytesOf 0 = .ok (.aload_n 0, 1) := by decide +kernel
theorem dX1_bytesOf_1 : decode cX1_bytesOf 1 = .ok (.iload_n 1, 1) := by decide +kernel
theorem dX1_bytesOf_2 : decode cX1_bytesOf 2 = .ok (.aload_n 0, 1) := by decide +kernel
theorem dX1_bytesOf_3 : decode cX1_bytesOf 3 = .ok (.invokevirtual 25, 3) := by decide +kernel
theorem dX1_bytesOf_6 : decode cX1_bytesOf 6 = .ok (.isub, 1) := by decide +kernel
theorem dX1_bytesOf_7 : decode cX1_bytesOf 7 = .ok (.invokevirtual 35, 3) := by decide +kernel
theorem dX1_bytesOf_10 : decode cX1_bytesOf 10 = .ok (.istore_n 2, 1) := by decide +kernel
theorem dX1_bytesOf_11 : decode cX1_bytesOf 11 = .ok (.lconst 0, 1) := by decide +kernel
theorem dX1_bytesOf_12 : decode cX1_bytesOf 12 = .ok (.lstore_n 3, 1) := by decide +kernel
theorem dX1_bytesOf_13 : decode cX1_bytesOf 13 = .ok (.aload_n 0, 1) := by decide +kernel
theorem dX1_bytesOf_14 : decode cX1_bytesOf 14 = .ok (.getfield 9, 3) := by decide +kernel
theorem dX1_bytesOf_17 : decode cX1_bytesOf 17 = .ok (.iload_n 2, 1) := by decide +kernel
theorem dX1_bytesOf_18 : decode cX1_bytesOf 18 = .ok (.iaload, 1) := by decide +kernel
theorem dX1_bytesOf_19 : decode cX1_bytesOf 19 = .ok (.istore 5, 2) := by decide +kernel
theorem dX1_bytesOf_21 : decode cX1_bytesOf 21 = .ok (.iload 5, 2) := by decide +kernel
theorem dX1_bytesOf_23 : decode cX1_bytesOf 23 = .ok (.ifCond .le 25, 3) := by decide +kernel
theorem dX1_bytesOf_26 : decode cX1_bytesOf 26 = .ok (.lload_n 3, 1) := by decide +kernel
theorem dX1_bytesOf_27 : decode cX1_bytesOf 27 = .ok (.bipush 8, 2) := by decide +kernel
theorem dX1_bytesOf_29 : decode cX1_bytesOf 29 = .ok (.lshl, 1) := by decide +kernel
theorem dX1_bytesOf_30 : decode cX1_bytesOf 30 = .ok (.aload_n 0, 1) := by decide +kernel
theorem dX1_bytesOf_31 : decode cX1_bytesOf 31 = .ok (.getfield 9, 3) := by decide +kernel
theorem dX1_bytesOf_34 : decode cX1_bytesOf 34 = .ok (.iload_n 2, 1) := by decide +kernel
theorem dX1_bytesOf_35 : decode cX1_bytesOf 35 = .ok (.iload 5, 2) := by decide +kernel
theorem dX1_bytesOf_37 : decode cX1_bytesOf 37 = .ok (.iadd, 1) := by decide +kernel
theorem dX1_bytesOf_38 : decode cX1_bytesOf 38 = .ok (.iaload, 1) := by decide +kernel
theorem dX1_bytesOf_39 : decode cX1_bytesOf 39 = .ok (.i2l, 1) := by decide +kernel
theorem dX1_bytesOf_40 : decode cX1_bytesOf 40 = .ok (.lor, 1) := by decide +kernel
theorem dX1_bytesOf_41 : decode cX1_bytesOf 41 = .ok (.lstore_n 3, 1) := by decide +kernel
theorem dX1_bytesOf_42 : decode cX1_bytesOf 42 = .ok (.iinc 5 (-1), 3) := by decide +kernel
theorem dX1_bytesOf_45 : decode cX1_bytesOf 45 = .ok (.goto (-24), 3) := by decide +kernel
theorem dX1_bytesOf_48 : decode cX1_bytesOf 48 = .ok (.lload_n 3, 1) := by decide +kernel
theorem dX1_bytesOf_49 : decode cX1_bytesOf 49 = .ok (.lreturn, 1) := by decide +kernel
theorem dX1_placeOfRow_0 : decode cX1_placeOfRow 0 = .ok (.iconst 3, 1) := by decide +kernel
theorem dX1_placeOfRow_1 : decode cX1_placeOfRow 1 = .ok (.istore_n 2, 1) := by decide +kernel
theorem dX1_placeOfRow_2 : decode cX1_placeOfRow 2 = .ok (.iconst 0, 1) := by decide +kernel
theorem dX1_placeOfRow_3 : decode cX1_placeOfRow 3 = .ok (.istore_n 3, 1) := by decide +kernel
theorem dX1_placeOfRow_4 : decode cX1_placeOfRow 4 = .ok (.iload_n 3, 1) := by decide +kernel
theorem dX1_placeOfRow_5 : decode cX1_placeOfRow 5 = .ok (.iload_n 1, 1) := by decide +kernel
theorem dX1_placeOfRow_6 : decode cX1_placeOfRow 6 = .ok (.if_icmp .ge 20, 3) := by decide +kernel
theorem dX1_placeOfRow_9 : decode cX1_placeOfRow 9 = .ok (.iload_n 2, 1) := by decide +kernel
theorem dX1_placeOfRow_10 : decode cX1_placeOfRow 10 = .ok (.iconst 1, 1) := by decide +kernel
theorem dX1_placeOfRow_11 : decode cX1_placeOfRow 11 = .ok (.aload_n 0, 1) := by decide +kernel
theorem dX1_placeOfRow_12 : decode cX1_placeOfRow 12 = .ok (.getfield 9, 3) := by decide +kernel
theorem dX1_placeOfRow_15 : decode cX1_placeOfRow 15 = .ok (.iload_n 2, 1) := by decide +kernel
theorem dX1_placeOfRow_16 : decode cX1_placeOfRow 16 = .ok (.iaload, 1) := by decide +kernel
theorem dX1_placeOfRow_17 : decode cX1_placeOfRow 17 = .ok (.iadd, 1) := by decide +kernel
theorem dX1_placeOfRow_18 : decode cX1_placeOfRow 18 = .ok (.iadd, 1) := by decide +kernel
theorem dX1_placeOfRow_19 : decode cX1_placeOfRow 19 = .ok (.istore_n 2, 1) := by decide +kernel
theorem dX1_placeOfRow_20 : decode cX1_placeOfRow 20 = .ok (.iinc 3 1, 3) := by decide +kernel
theorem dX1_placeOfRow_23 : decode cX1_placeOfRow 23 = .ok (.goto (-19), 3) := by decide +kernel
theorem dX1_placeOfRow_26 : decode cX1_placeOfRow 26 = .ok (.iload_n 2, 1) := by decide +kernel
theorem dX1_placeOfRow_27 : decode cX1_placeOfRow 27 = .ok (.ireturn, 1) := by decide +kernel
theorem dX2_init_0 : decode cX2_init 0 = .ok (.aload_n 0, 1) := by decide +kernel
theorem dX2_init_1 : decode cX2_init 1 = .ok (.invokespecial 3, 3) := by decide +kernel
theorem dX2_init_4 : decode cX2_init 4 = .ok (.aload_n 0, 1) := by decide +kernel
theorem dX2_init_5 : decode cX2_init 5 = .ok (.bipush 6, 2) := by decide +kernel
theorem dX2_init_7 : decode cX2_init 7 = .ok (.anewarray 9, 3) := by decide +kernel
theorem dX2_init_10 : decode cX2_init 10 = .ok (.putfield 11, 3) := by decide +kernel
theorem dX2_init_13 : decode cX2_init 13 = .ok (.aload_n 0, 1) := by decide +kernel
theorem dX2_init_14 : decode cX2_init 14 = .ok (.new 15, 3) := by decide +kernel
theorem dX2_init_17 : decode cX2_init 17 = .ok (.dup, 1) := by decide +kernel
theorem dX2_init_18 : decode cX2_init 18 = .ok (.invokespecial 17, 3) := by decide +kernel
theorem dX2_init_21 : decode cX2_init 21 = .ok (.putfield 18, 3) := by decide +kernel
theorem dX2_init_24 : decode cX2_init 24 = .ok (.aload_n 0, 1) := by decide +kernel
theorem dX2_init_25 : decode cX2_init 25 = .ok (.new 15, 3) := by decide +kernel
theorem dX2_init_28 : decode cX2_init 28 = .ok (.dup, 1) := by decide +kernel
theorem dX2_init_29 : decode cX2_init 29 = .ok (.invokespecial 17, 3) := by decide +kernel
theorem dX2_init_32 : decode cX2_init 32 = .ok (.putfield 22, 3) := by decide +kernel
theorem dX2_init_35 : decode cX2_init 35 = .ok (.aload_n 0, 1) := by decide +kernel
theorem dX2_init_36 : decode cX2_init 36 = .ok (.iconst 0, 1) := by decide +kernel
theorem dX2_init_37 : decode cX2_init 37 = .ok (.putfield 25, 3) := by decide +kernel
theorem dX2_init_40 : decode cX2_init 40 = .ok (.aload_n 0, 1) := by decide +kernel
theorem dX2_init_41 : decode cX2_init 41 = .ok (.iconst 0, 1) := by decide +kernel
theorem dX2_init_42 : decode cX2_init 42 = .ok (.putfield 29, 3) := by decide +kernel
theorem dX2_init_45 : decode cX2_init 45 = .ok (.aload_n 0, 1) := by decide +kernel
theorem dX2_init_46 : decode cX2_init 46 = .ok (.iconst 0, 1) := by decide +kernel
theorem dX2_init_47 : decode cX2_init 47 = .ok (.putfield 32, 3) := by decide +kernel
theorem dX2_init_50 : decode cX2_init 50 = .ok (.aload_n 0, 1) := by decide +kernel
theorem dX2_init_51 : decode cX2_init 51 = .ok (.iconst 0, 1) := by decide +kernel
theorem dX2_init_52 : decode cX2_init 52 = .ok (.putfield 35, 3) := by decide +kernel
theorem dX2_init_55 : decode cX2_init 55 = .ok (.aload_n 0, 1) := by decide +kernel
theorem dX2_init_56 : decode cX2_init 56 = .ok (.iconst 1, 1) := by decide +kernel
theorem dX2_init_57 : decode cX2_init 57 = .ok (.putfield 38, 3) := by decide +kernel
theorem dX2_init_60 : decode cX2_init 60 = .ok (.iconst 0, 1) := by decide +kernel
theorem dX2_init_61 : decode cX2_init 61 = .ok (.istore_n 1, 1) := by decide +kernel
theorem dX2_init_62 : decode cX2_init 62 = .ok (.iload_n 1, 1) := by decide +kernel
theorem dX2_init_63 : decode cX2_init 63 = .ok (.bipush 6, 2) := by decide +kernel
theorem dX2_init_65 : decode cX2_init 65 = .ok (.if_icmp .ge 22, 3) := by decide +kernel
theorem dX2_init_68 : decode cX2_init 68 = .ok (.aload_n 0, 1) := by decide +kernel
theorem dX2_init_69 : decode cX2_init 69 = .ok (.getfield 11, 3) := by decide +kernel
theorem dX2_init_72 : decode cX2_init 72 = .ok (.iload_n 1, 1) := by decide +kernel
theorem dX2_init_73 : decode cX2_init 73 = .ok (.new 9, 3) := by decide +kernel
theorem dX2_init_76 : decode cX2_init 76 = .ok (.dup, 1) := by decide +kernel
theorem dX2_init_77 : decode cX2_init 77 = .ok (.invokespecial 42, 3) := by decide +kernel
theorem dX2_init_80 : decode cX2_init 80 = .ok (.aastore, 1) := by decide +kernel
theorem dX2_init_81 : decode cX2_init 81 = .ok (.iinc 1 1, 3) := by decide +kernel
theorem dX2_init_84 : decode cX2_init 84 = .ok (.goto (-22), 3) := by decide +kernel
theorem dX2_init_87 : decode cX2_init 87 = .ok (.return_, 1) := by decide +kernel
theorem dX2_append_0 : decode cX2_append 0 = .ok (.aload_n 0, 1) := by decide +kernel
theorem dX2_append_1 : decode cX2_append 1 = .ok (.invokevirtual 43, 3) := by decide +kernel
theorem dX2_append_4 : decode cX2_append 4 = .ok (.iload_n 1, 1) := by decide +kernel
theorem dX2_append_5 : decode cX2_append 5 = .ok (.iconst 1, 1) := by decide +kernel
theorem dX2_append_6 : decode cX2_append 6 = .ok (.if_icmp .lt 9, 3) := by decide +kernel
theorem dX2_append_9 : decode cX2_append 9 = .ok (.iload_n 1, 1) := by decide +kernel
theorem dX2_append_10 : decode cX2_append 10 = .ok (.bipush 6, 2) := by decide +kernel
theorem dX2_append_12 : decode cX2_append 12 = .ok (.if_icmp .le 13, 3) := by decide +kernel
theorem dX2_append_15 : decode cX2_append 15 = .ok (.new 46, 3) := by decide +kernel
theorem dX2_append_18 : decode cX2_append 18 = .ok (.dup, 1) := by decide +kernel
theorem dX2_append_19 : decode cX2_append 19 = .ok (.ldc 48, 2) := by decide +kernel
theorem dX2_append_21 : decode cX2_append 21 = .ok (.invokespecial 50, 3) := by decide +kernel
theorem dX2_append_24 : decode cX2_append 24 = .ok (.athrow, 1) := by decide +kernel
theorem dX2_append_25 : decode cX2_append 25 = .ok (.aload_n 0, 1) := by decide +kernel
theorem dX2_append_26 : decode cX2_append 26 = .ok (.getfield 18, 3) := by decide +kernel
theorem dX2_append_29 : decode cX2_append 29 = .ok (.iload_n 1, 1) := by decide +kernel
theorem dX2_append_30 : decode cX2_append 30 = .ok (.invokevirtual 53, 3) := by decide +kernel
theorem dX2_append_33 : decode cX2_append 33 = .ok (.ifCond .ne 13, 3) := by decide +kernel
theorem dX2_append_36 : decode cX2_append 36 = .ok (.aload_n 0, 1) := by decide +kernel
theorem dX2_append_37 : decode cX2_append 37 = .ok (.invokevirtual 57, 3) := by decide +kernel
theorem dX2_append_40 : decode cX2_append 40 = .ok (.ifCond .ne 6, 3) := by decide +kernel
theorem dX2_append_43 : decode cX2_append 43 = .ok (.bipush (-2), 2) := by decide +kernel
theorem dX2_append_45 : decode cX2_append 45 = .ok (.ireturn, 1) := by decide +kernel
theorem dX2_append_46 : decode cX2_append 46 = .ok (.aload_n 0, 1) := by decide +kernel
theorem dX2_append_47 : decode cX2_append 47 = .ok (.getfield 18, 3) := by decide +kernel
theorem dX2_append_50 : decode cX2_append 50 = .ok (.aload_n 0, 1) := by decide +kernel
theorem dX2_append_51 : decode cX2_append 51 = .ok (.getfield 32, 3) := by decide +kernel
theorem dX2_append_54 : decode cX2_append 54 = .ok (.iload_n 1, 1) := by decide +kernel
theorem dX2_append_55 : decode cX2_append 55 = .ok (.lload_n 2, 1) := by decide +kernel
theorem dX2_append_56 : decode cX2_append 56 = .ok (.invokevirtual 61, 3) := by decide +kernel
theorem dX2_append_59 : decode cX2_append 59 = .ok (.aload_n 0, 1) := by decide +kernel
theorem dX2_append_60 : decode cX2_append 60 = .ok (.dup, 1) := by decide +kernel
theorem dX2_append_61 : decode cX2_append 61 = .ok (.getfield 32, 3) := by decide +kernel
theorem dX2_append_64 : decode cX2_append 64 = .ok (.iconst 1, 1) := by decide +kernel
theorem dX2_append_65 : decode cX2_append 65 = .ok (.iadd, 1) := by decide +kernel
theorem dX2_append_66 : decode cX2_append 66 = .ok (.putfield 32, 3) := by decide +kernel
theorem dX2_append_69 : decode cX2_append 69 = .ok (.aload_n 0, 1) := by decide +kernel
theorem dX2_append_70 : decode cX2_append 70 = .ok (.getfield 32, 3) := by decide +kernel
theorem dX2_append_73 : decode cX2_append 73 = .ok (.iconst 1, 1) := by decide +kernel
theorem dX2_append_74 : decode cX2_append 74 = .ok (.isub, 1) := by decide +kernel
theorem dX2_append_75 : decode cX2_append 75 = .ok (.ireturn, 1) := by decide +kernel
theorem dX2_sync_0 : decode cX2_sync 0 = .ok (.aload_n 0, 1) := by decide +kernel
theorem dX2_sync_1 : decode cX2_sync 1 = .ok (.invokevirtual 43, 3) := by decide +kernel
theorem dX2_sync_4 : decode cX2_sync 4 = .ok (.aload_n 0, 1) := by decide +kernel
theorem dX2_sync_5 : decode cX2_sync 5 = .ok (.getfield 18, 3) := by decide +kernel
theorem dX2_sync_8 : decode cX2_sync 8 = .ok (.invokevirtual 65, 3) := by decide +kernel
theorem dX2_sync_11 : decode cX2_sync 11 = .ok (.ifCond .ne 13, 3) := by decide +kernel
theorem dX2_sync_14 : decode cX2_sync 14 = .ok (.aload_n 0, 1) := by decide +kernel
theorem dX2_sync_15 : decode cX2_sync 15 = .ok (.invokevirtual 57, 3) := by decide +kernel
theorem dX2_sync_18 : decode cX2_sync 18 = .ok (.ifCond .ne 6, 3) := by decide +kernel
theorem dX2_sync_21 : decode cX2_sync 21 = .ok (.bipush (-2), 2) := by decide +kernel
theorem dX2_sync_23 : decode cX2_sync 23 = .ok (.ireturn, 1) := by decide +kernel
theorem dX2_sync_24 : decode cX2_sync 24 = .ok (.aload_n 0, 1) := by decide +kernel
theorem dX2_sync_25 : decode cX2_sync 25 = .ok (.getfield 32, 3) := by decide +kernel
theorem dX2_sync_28 : decode cX2_sync 28 = .ok (.ireturn, 1) := by decide +kernel
theorem dX2_cutAfter_0 : decode cX2_cutAfter 0 = .ok (.iload_n 1, 1) := by decide +kernel
theorem dX2_cutAfter_1 : decode cX2_cutAfter 1 = .ok (.ifCond .lt 9, 3) := by decide +kernel
theorem dX2_cutAfter_4 : decode cX2_cutAfter 4 = .ok (.iload_n 1, 1) := by decide +kernel
theorem dX2_cutAfter_5 : decode cX2_cutAfter 5 = .ok (.bipush 60, 2) := by decide +kernel
theorem dX2_cutAfter_7 : decode cX2_cutAfter 7 = .ok (.if_icmp .le 13, 3) := by decide +kernel
theorem dX2_cutAfter_10 : decode cX2_cutAfter 10 = .ok (.new 46, 3) := by decide +kernel
theorem dX2_cutAfter_13 : decode cX2_cutAfter 13 = .ok (.dup, 1) := by decide +kernel
theorem dX2_cutAfter_14 : decode cX2_cutAfter 14 = .ok (.ldc 68, 2) := by decide +kernel
theorem dX2_cutAfter_16 : decode cX2_cutAfter 16 = .ok (.invokespecial 50, 3) := by decide +kernel
theorem dX2_cutAfter_19 : decode cX2_cutAfter 19 = .ok (.athrow, 1) := by decide +kernel
theorem dX2_cutAfter_20 : decode cX2_cutAfter 20 = .ok (.aload_n 0, 1) := by decide +kernel
theorem dX2_cutAfter_21 : decode cX2_cutAfter 21 = .ok (.iload_n 1, 1) := by decide +kernel
theorem dX2_cutAfter_22 : decode cX2_cutAfter 22 = .ok (.putfield 35, 3) := by decide +kernel
theorem dX2_cutAfter_25 : decode cX2_cutAfter 25 = .ok (.return_, 1) := by decide +kernel
theorem dX2_off_0 : decode cX2_off 0 = .ok (.aload_n 0, 1) := by decide +kernel
theorem dX2_off_1 : decode cX2_off 1 = .ok (.invokevirtual 43, 3) := by decide +kernel
theorem dX2_off_4 : decode cX2_off 4 = .ok (.aload_n 0, 1) := by decide +kernel
theorem dX2_off_5 : decode cX2_off 5 = .ok (.iconst 0, 1) := by decide +kernel
theorem dX2_off_6 : decode cX2_off 6 = .ok (.putfield 38, 3) := by decide +kernel
theorem dX2_off_9 : decode cX2_off 9 = .ok (.aload_n 0, 1) := by decide +kernel
theorem dX2_off_10 : decode cX2_off 10 = .ok (.getfield 18, 3) := by decide +kernel
theorem dX2_off_13 : decode cX2_off 13 = .ok (.invokevirtual 70, 3) := by decide +kernel
theorem dX2_off_16 : decode cX2_off 16 = .ok (.ireturn, 1) := by decide +kernel
theorem dX2_start_0 : decode cX2_start 0 = .ok (.aload_n 0, 1) := by decide +kernel
theorem dX2_start_1 : decode cX2_start 1 = .ok (.getfield 38, 3) := by decide +kernel
theorem dX2_start_4 : decode cX2_start 4 = .ok (.ifCond .eq 13, 3) := by decide +kernel
theorem dX2_start_7 : decode cX2_start 7 = .ok (.new 74, 3) := by decide +kernel
theorem dX2_start_10 : decode cX2_start 10 = .ok (.dup, 1) := by decide +kernel
theorem dX2_start_11 : decode cX2_start 11 = .ok (.ldc 76, 2) := by decide +kernel
theorem dX2_start_13 : decode cX2_start 13 = .ok (.invokespecial 78, 3) := by decide +kernel
theorem dX2_start_16 : decode cX2_start 16 = .ok (.athrow, 1) := by decide +kernel
theorem dX2_start_17 : decode cX2_start 17 = .ok (.aload_n 0, 1) := by decide +kernel
theorem dX2_start_18 : decode cX2_start 18 = .ok (.getfield 18, 3) := by decide +kernel
theorem dX2_start_21 : decode cX2_start 21 = .ok (.invokevirtual 79, 3) := by decide +kernel
theorem dX2_start_24 : decode cX2_start 24 = .ok (.aload_n 0, 1) := by decide +kernel
theorem dX2_start_25 : decode cX2_start 25 = .ok (.invokevirtual 82, 3) := by decide +kernel
theorem dX2_start_28 : decode cX2_start 28 = .ok (.aload_n 0, 1) := by decide +kernel
theorem dX2_start_29 : decode cX2_start 29 = .ok (.invokevirtual 85, 3) := by decide +kernel
theorem dX2_start_32 : decode cX2_start 32 = .ok (.aload_n 0, 1) := by decide +kernel
theorem dX2_start_33 : decode cX2_start 33 = .ok (.iconst 1, 1) := by decide +kernel
theorem dX2_start_34 : decode cX2_start 34 = .ok (.putfield 38, 3) := by decide +kernel
theorem dX2_start_37 : decode cX2_start 37 = .ok (.aload_n 0, 1) := by decide +kernel
theorem dX2_start_38 : decode cX2_start 38 = .ok (.getfield 32, 3) := by decide +kernel
theorem dX2_start_41 : decode cX2_start 41 = .ok (.ireturn, 1) := by decide +kernel
theorem dX2_trim_0 : decode cX2_trim 0 = .ok (.aload_n 0, 1) := by decide +kernel
theorem dX2_trim_1 : decode cX2_trim 1 = .ok (.invokevirtual 43, 3) := by decide +kernel
theorem dX2_trim_4 : decode cX2_trim 4 = .ok (.iload_n 1, 1) := by decide +kernel
theorem dX2_trim_5 : decode cX2_trim 5 = .ok (.aload_n 0, 1) := by decide +kernel
theorem dX2_trim_6 : decode cX2_trim 6 = .ok (.getfield 29, 3) := by decide +kernel
theorem dX2_trim_9 : decode cX2_trim 9 = .ok (.if_icmp .lt 11, 3) := by decide +kernel
theorem dX2_trim_12 : decode cX2_trim 12 = .ok (.iload_n 1, 1) := by decide +kernel
theorem dX2_trim_13 : decode cX2_trim 13 = .ok (.aload_n 0, 1) := by decide +kernel
theorem dX2_trim_14 : decode cX2_trim 14 = .ok (.getfield 32, 3) := by decide +kernel
theorem dX2_trim_17 : decode cX2_trim 17 = .ok (.if_icmp .le 13, 3) := by decide +kernel
theorem dX2_trim_20 : decode cX2_trim 20 = .ok (.new 46, 3) := by decide +kernel
theorem dX2_trim_23 : decode cX2_trim 23 = .ok (.dup, 1) := by decide +kernel
theorem dX2_trim_24 : decode cX2_trim 24 = .ok (.ldc 88, 2) := by decide +kernel
theorem dX2_trim_26 : decode cX2_trim 26 = .ok (.invokespecial 50, 3) := by decide +kernel
theorem dX2_trim_29 : decode cX2_trim 29 = .ok (.athrow, 1) := by decide +kernel
theorem dX2_trim_30 : decode cX2_trim 30 = .ok (.aload_n 0, 1) := by decide +kernel
theorem dX2_trim_31 : decode cX2_trim 31 = .ok (.iload_n 1, 1) := by decide +kernel
theorem dX2_trim_32 : decode cX2_trim 32 = .ok (.putfield 29, 3) := by decide +kernel
theorem dX2_trim_35 : decode cX2_trim 35 = .ok (.iconst 0, 1) := by decide +kernel
theorem dX2_trim_36 : decode cX2_trim 36 = .ok (.istore_n 2, 1) := by decide +kernel
theorem dX2_trim_37 : decode cX2_trim 37 = .ok (.iconst 0, 1) := by decide +kernel
theorem dX2_trim_38 : decode cX2_trim 38 = .ok (.istore_n 3, 1) := by decide +kernel
theorem dX2_trim_39 : decode cX2_trim 39 = .ok (.iload_n 3, 1) := by decide +kernel
theorem dX2_trim_40 : decode cX2_trim 40 = .ok (.bipush 6, 2) := by decide +kernel
theorem dX2_trim_42 : decode cX2_trim 42 = .ok (.if_icmp .ge 55, 3) := by decide +kernel
theorem dX2_trim_45 : decode cX2_trim 45 = .ok (.iload_n 3, 1) := by decide +kernel
theorem dX2_trim_46 : decode cX2_trim 46 = .ok (.aload_n 0, 1) := by decide +kernel
theorem dX2_trim_47 : decode cX2_trim 47 = .ok (.getfield 25, 3) := by decide +kernel
theorem dX2_trim_50 : decode cX2_trim 50 = .ok (.if_icmp .eq 41, 3) := by decide +kernel
theorem dX2_trim_53 : decode cX2_trim 53 = .ok (.aload_n 0, 1) := by decide +kernel
theorem dX2_trim_54 : decode cX2_trim 54 = .ok (.getfield 11, 3) := by decide +kernel
theorem dX2_trim_57 : decode cX2_trim 57 = .ok (.iload_n 3, 1) := by decide +kernel
theorem dX2_trim_58 : decode cX2_trim 58 = .ok (.aaload, 1) := by decide +kernel
theorem dX2_trim_59 : decode cX2_trim 59 = .ok (.invokevirtual 90, 3) := by decide +kernel
theorem dX2_trim_62 : decode cX2_trim 62 = .ok (.ifCond .ne 29, 3) := by decide +kernel
theorem dX2_trim_65 : decode cX2_trim 65 = .ok (.aload_n 0, 1) := by decide +kernel
theorem dX2_trim_66 : decode cX2_trim 66 = .ok (.aload_n 0, 1) := by decide +kernel
theorem dX2_trim_67 : decode cX2_trim 67 = .ok (.getfield 11, 3) := by decide +kernel
theorem dX2_trim_70 : decode cX2_trim 70 = .ok (.iload_n 3, 1) := by decide +kernel
theorem dX2_trim_71 : decode cX2_trim 71 = .ok (.aaload, 1) := by decide +kernel
theorem dX2_trim_72 : decode cX2_trim 72 = .ok (.invokevirtual 93, 3) := by decide +kernel
theorem dX2_trim_75 : decode cX2_trim 75 = .ok (.iload_n 1, 1) := by decide +kernel
theorem dX2_trim_76 : decode cX2_trim 76 = .ok (.if_icmp .ge 15, 3) := by decide +kernel
theorem dX2_trim_79 : decode cX2_trim 79 = .ok (.aload_n 0, 1) := by decide +kernel
theorem dX2_trim_80 : decode cX2_trim 80 = .ok (.getfield 11, 3) := by decide +kernel
theorem dX2_trim_83 : decode cX2_trim 83 = .ok (.iload_n 3, 1) := by decide +kernel
theorem dX2_trim_84 : decode cX2_trim 84 = .ok (.aaload, 1) := by decide +kernel
theorem dX2_trim_85 : decode cX2_trim 85 = .ok (.invokevirtual 97, 3) := by decide +kernel
theorem dX2_trim_88 : decode cX2_trim 88 = .ok (.iinc 2 1, 3) := by decide +kernel
theorem dX2_trim_91 : decode cX2_trim 91 = .ok (.iinc 3 1, 3) := by decide +kernel
theorem dX2_trim_94 : decode cX2_trim 94 = .ok (.goto (-55), 3) := by decide +kernel
theorem dX2_trim_97 : decode cX2_trim 97 = .ok (.iload_n 2, 1) := by decide +kernel
theorem dX2_trim_98 : decode cX2_trim 98 = .ok (.ireturn, 1) := by decide +kernel
theorem dX2_first_0 : decode cX2_first 0 = .ok (.aload_n 0, 1) := by decide +kernel
theorem dX2_first_1 : decode cX2_first 1 = .ok (.invokevirtual 43, 3) := by decide +kernel
theorem dX2_first_4 : decode cX2_first 4 = .ok (.aload_n 0, 1) := by decide +kernel
theorem dX2_first_5 : decode cX2_first 5 = .ok (.getfield 29, 3) := by decide +kernel
theorem dX2_first_8 : decode cX2_first 8 = .ok (.ireturn, 1) := by decide +kernel
theorem dX2_count_0 : decode cX2_count 0 = .ok (.aload_n 0, 1) := by decide +kernel
theorem dX2_count_1 : decode cX2_count 1 = .ok (.invokevirtual 43, 3) := by decide +kernel
theorem dX2_count_4 : decode cX2_count 4 = .ok (.aload_n 0, 1) := by decide +kernel
theorem dX2_count_5 : decode cX2_count 5 = .ok (.getfield 32, 3) := by decide +kernel
theorem dX2_count_8 : decode cX2_count 8 = .ok (.ireturn, 1) := by decide +kernel
theorem dX2_length_0 : decode cX2_length 0 = .ok (.aload_n 0, 1) := by decide +kernel
theorem dX2_length_1 : decode cX2_length 1 = .ok (.invokevirtual 43, 3) := by decide +kernel
theorem dX2_length_4 : decode cX2_length 4 = .ok (.aload_n 0, 1) := by decide +kernel
theorem dX2_length_5 : decode cX2_length 5 = .ok (.iload_n 1, 1) := by decide +kernel
theorem dX2_length_6 : decode cX2_length 6 = .ok (.invokevirtual 100, 3) := by decide +kernel
theorem dX2_length_9 : decode cX2_length 9 = .ok (.aload_n 0, 1) := by decide +kernel
theorem dX2_length_10 : decode cX2_length 10 = .ok (.iload_n 1, 1) := by decide +kernel
theorem dX2_length_11 : decode cX2_length 11 = .ok (.invokevirtual 104, 3) := by decide +kernel
theorem dX2_length_14 : decode cX2_length 14 = .ok (.astore_n 2, 1) := by decide +kernel
theorem dX2_length_15 : decode cX2_length 15 = .ok (.aload_n 2, 1) := by decide +kernel
theorem dX2_length_16 : decode cX2_length 16 = .ok (.ifnonnull 7, 3) := by decide +kernel
theorem dX2_length_19 : decode cX2_length 19 = .ok (.iconst (-1), 1) := by decide +kernel
theorem dX2_length_20 : decode cX2_length 20 = .ok (.goto 8, 3) := by decide +kernel
theorem dX2_length_23 : decode cX2_length 23 = .ok (.aload_n 2, 1) := by decide +kernel
theorem dX2_length_24 : decode cX2_length 24 = .ok (.iload_n 1, 1) := by decide +kernel
theorem dX2_length_25 : decode cX2_length 25 = .ok (.invokevirtual 108, 3) := by decide +kernel
theorem dX2_length_28 : decode cX2_length 28 = .ok (.ireturn, 1) := by decide +kernel
theorem dX2_event_0 : decode cX2_event 0 = .ok (.aload_n 0, 1) := by decide +kernel
theorem dX2_event_1 : decode cX2_event 1 = .ok (.invokevirtual 43, 3) := by decide +kernel
theorem dX2_event_4 : decode cX2_event 4 = .ok (.aload_n 0, 1) := by decide +kernel
theorem dX2_event_5 : decode cX2_event 5 = .ok (.iload_n 1, 1) := by decide +kernel
theorem dX2_event_6 : decode cX2_event 6 = .ok (.invokevirtual 100, 3) := by decide +kernel
theorem dX2_event_9 : decode cX2_event 9 = .ok (.aload_n 0, 1) := by decide +kernel
theorem dX2_event_10 : decode cX2_event 10 = .ok (.iload_n 1, 1) := by decide +kernel
theorem dX2_event_11 : decode cX2_event 11 = .ok (.invokevirtual 104, 3) := by decide +kernel
theorem dX2_event_14 : decode cX2_event 14 = .ok (.astore_n 2, 1) := by decide +kernel
theorem dX2_event_15 : decode cX2_event 15 = .ok (.aload_n 2, 1) := by decide +kernel
theorem dX2_event_16 : decode cX2_event 16 = .ok (.ifnonnull 13, 3) := by decide +kernel
theorem dX2_event_19 : decode cX2_event 19 = .ok (.new 112, 3) := by decide +kernel
theorem dX2_event_22 : decode cX2_event 22 = .ok (.dup, 1) := by decide +kernel
theorem dX2_event_23 : decode cX2_event 23 = .ok (.ldc 114, 2) := by decide +kernel
theorem dX2_event_25 : decode cX2_event 25 = .ok (.invokespecial 116, 3) := by decide +kernel
theorem dX2_event_28 : decode cX2_event 28 = .ok (.athrow, 1) := by decide +kernel
theorem dX2_event_29 : decode cX2_event 29 = .ok (.aload_n 2, 1) := by decide +kernel
theorem dX2_event_30 : decode cX2_event 30 = .ok (.iload_n 1, 1) := by decide +kernel
theorem dX2_event_31 : decode cX2_event 31 = .ok (.invokevirtual 117, 3) := by decide +kernel
theorem dX2_event_34 : decode cX2_event 34 = .ok (.lreturn, 1) := by decide +kernel
theorem dX2_ruin_0 : decode cX2_ruin 0 = .ok (.iload_n 1, 1) := by decide +kernel
theorem dX2_ruin_1 : decode cX2_ruin 1 = .ok (.iload_n 2, 1) := by decide +kernel
theorem dX2_ruin_2 : decode cX2_ruin 2 = .ok (.invokestatic 121, 3) := by decide +kernel
theorem dX2_ruin_5 : decode cX2_ruin 5 = .ok (.aload_n 0, 1) := by decide +kernel
theorem dX2_ruin_6 : decode cX2_ruin 6 = .ok (.getfield 11, 3) := by decide +kernel
theorem dX2_ruin_9 : decode cX2_ruin 9 = .ok (.iload_n 1, 1) := by decide +kernel
theorem dX2_ruin_10 : decode cX2_ruin 10 = .ok (.aaload, 1) := by decide +kernel
theorem dX2_ruin_11 : decode cX2_ruin 11 = .ok (.iload_n 2, 1) := by decide +kernel
theorem dX2_ruin_12 : decode cX2_ruin 12 = .ok (.iload_n 3, 1) := by decide +kernel
theorem dX2_ruin_13 : decode cX2_ruin 13 = .ok (.invokestatic 125, 3) := by decide +kernel
theorem dX2_ruin_16 : decode cX2_ruin 16 = .ok (.invokevirtual 129, 3) := by decide +kernel
theorem dX2_ruin_19 : decode cX2_ruin 19 = .ok (.ireturn, 1) := by decide +kernel
theorem dX2_page_0 : decode cX2_page 0 = .ok (.iload_n 1, 1) := by decide +kernel
theorem dX2_page_1 : decode cX2_page 1 = .ok (.iload_n 2, 1) := by decide +kernel
theorem dX2_page_2 : decode cX2_page 2 = .ok (.invokestatic 121, 3) := by decide +kernel
theorem dX2_page_5 : decode cX2_page 5 = .ok (.aload_n 0, 1) := by decide +kernel
theorem dX2_page_6 : decode cX2_page 6 = .ok (.getfield 11, 3) := by decide +kernel
theorem dX2_page_9 : decode cX2_page 9 = .ok (.iload_n 1, 1) := by decide +kernel
theorem dX2_page_10 : decode cX2_page 10 = .ok (.aaload, 1) := by decide +kernel
theorem dX2_page_11 : decode cX2_page 11 = .ok (.iload_n 2, 1) := by decide +kernel
theorem dX2_page_12 : decode cX2_page 12 = .ok (.iload_n 3, 1) := by decide +kernel
theorem dX2_page_13 : decode cX2_page 13 = .ok (.invokestatic 125, 3) := by decide +kernel
theorem dX2_page_16 : decode cX2_page 16 = .ok (.invokevirtual 132, 3) := by decide +kernel
theorem dX2_page_19 : decode cX2_page 19 = .ok (.ireturn, 1) := by decide +kernel
theorem dX2_at_0 : decode cX2_at 0 = .ok (.iload_n 1, 1) := by decide +kernel
theorem dX2_at_1 : decode cX2_at 1 = .ok (.iload_n 2, 1) := by decide +kernel
theorem dX2_at_2 : decode cX2_at 2 = .ok (.invokestatic 121, 3) := by decide +kernel
theorem dX2_at_5 : decode cX2_at 5 = .ok (.iload 4, 2) := by decide +kernel
theorem dX2_at_7 : decode cX2_at 7 = .ok (.ifCond .lt 10, 3) := by decide +kernel
theorem dX2_at_10 : decode cX2_at 10 = .ok (.iload 4, 2) := by decide +kernel
theorem dX2_at_12 : decode cX2_at 12 = .ok (.bipush 16, 2) := by decide +kernel
theorem dX2_at_14 : decode cX2_at 14 = .ok (.if_icmp .lt 13, 3) := by decide +kernel
theorem dX2_at_17 : decode cX2_at 17 = .ok (.new 135, 3) := by decide +kernel
theorem dX2_at_20 : decode cX2_at 20 = .ok (.dup, 1) := by decide +kernel
theorem dX2_at_21 : decode cX2_at 21 = .ok (.ldc 137, 2) := by decide +kernel
theorem dX2_at_23 : decode cX2_at 23 = .ok (.invokespecial 139, 3) := by decide +kernel
theorem dX2_at_26 : decode cX2_at 26 = .ok (.athrow, 1) := by decide +kernel
theorem dX2_at_27 : decode cX2_at 27 = .ok (.iload_n 2, 1) := by decide +kernel
theorem dX2_at_28 : decode cX2_at 28 = .ok (.iload_n 3, 1) := by decide +kernel
theorem dX2_at_29 : decode cX2_at 29 = .ok (.invokestatic 125, 3) := by decide +kernel
theorem dX2_at_32 : decode cX2_at 32 = .ok (.istore 5, 2) := by decide +kernel
theorem dX2_at_34 : decode cX2_at 34 = .ok (.aload_n 0, 1) := by decide +kernel
theorem dX2_at_35 : decode cX2_at 35 = .ok (.getfield 11, 3) := by decide +kernel
theorem dX2_at_38 : decode cX2_at 38 = .ok (.iload_n 1, 1) := by decide +kernel
theorem dX2_at_39 : decode cX2_at 39 = .ok (.aaload, 1) := by decide +kernel
theorem dX2_at_40 : decode cX2_at 40 = .ok (.iload 5, 2) := by decide +kernel
theorem dX2_at_42 : decode cX2_at 42 = .ok (.invokevirtual 140, 3) := by decide +kernel
theorem dX2_at_45 : decode cX2_at 45 = .ok (.ifCond .ne 13, 3) := by decide +kernel
theorem dX2_at_48 : decode cX2_at 48 = .ok (.new 112, 3) := by decide +kernel
theorem dX2_at_51 : decode cX2_at 51 = .ok (.dup, 1) := by decide +kernel
theorem dX2_at_52 : decode cX2_at 52 = .ok (.ldc 143, 2) := by decide +kernel
theorem dX2_at_54 : decode cX2_at 54 = .ok (.invokespecial 116, 3) := by decide +kernel
theorem dX2_at_57 : decode cX2_at 57 = .ok (.athrow, 1) := by decide +kernel
theorem dX2_at_58 : decode cX2_at 58 = .ok (.aload_n 0, 1) := by decide +kernel
theorem dX2_at_59 : decode cX2_at 59 = .ok (.getfield 11, 3) := by decide +kernel
theorem dX2_at_62 : decode cX2_at 62 = .ok (.iload_n 1, 1) := by decide +kernel
theorem dX2_at_63 : decode cX2_at 63 = .ok (.aaload, 1) := by decide +kernel
theorem dX2_at_64 : decode cX2_at 64 = .ok (.iload 5, 2) := by decide +kernel
theorem dX2_at_66 : decode cX2_at 66 = .ok (.iload 4, 2) := by decide +kernel
theorem dX2_at_68 : decode cX2_at 68 = .ok (.invokevirtual 145, 3) := by decide +kernel
theorem dX2_at_71 : decode cX2_at 71 = .ok (.ireturn, 1) := by decide +kernel
theorem dX2_guard_0 : decode cX2_guard 0 = .ok (.iload_n 1, 1) := by decide +kernel
theorem dX2_guard_1 : decode cX2_guard 1 = .ok (.invokestatic 149, 3) := by decide +kernel
theorem dX2_guard_4 : decode cX2_guard 4 = .ok (.aload_n 0, 1) := by decide +kernel
theorem dX2_guard_5 : decode cX2_guard 5 = .ok (.getfield 11, 3) := by decide +kernel
theorem dX2_guard_8 : decode cX2_guard 8 = .ok (.iload_n 1, 1) := by decide +kernel
theorem dX2_guard_9 : decode cX2_guard 9 = .ok (.aaload, 1) := by decide +kernel
theorem dX2_guard_10 : decode cX2_guard 10 = .ok (.getfield 152, 3) := by decide +kernel
theorem dX2_guard_13 : decode cX2_guard 13 = .ok (.ireturn, 1) := by decide +kernel
theorem dX2_guarded_0 : decode cX2_guarded 0 = .ok (.iload_n 1, 1) := by decide +kernel
theorem dX2_guarded_1 : decode cX2_guarded 1 = .ok (.invokestatic 149, 3) := by decide +kernel
theorem dX2_guarded_4 : decode cX2_guarded 4 = .ok (.iload_n 2, 1) := by decide +kernel
theorem dX2_guarded_5 : decode cX2_guarded 5 = .ok (.ifCond .lt 9, 3) := by decide +kernel
theorem dX2_guarded_8 : decode cX2_guarded 8 = .ok (.iload_n 2, 1) := by decide +kernel
theorem dX2_guarded_9 : decode cX2_guarded 9 = .ok (.bipush 17, 2) := by decide +kernel
theorem dX2_guarded_11 : decode cX2_guarded 11 = .ok (.if_icmp .lt 13, 3) := by decide +kernel
theorem dX2_guarded_14 : decode cX2_guarded 14 = .ok (.new 135, 3) := by decide +kernel
theorem dX2_guarded_17 : decode cX2_guarded 17 = .ok (.dup, 1) := by decide +kernel
theorem dX2_guarded_18 : decode cX2_guarded 18 = .ok (.ldc 137, 2) := by decide +kernel
theorem dX2_guarded_20 : decode cX2_guarded 20 = .ok (.invokespecial 139, 3) := by decide +kernel
theorem dX2_guarded_23 : decode cX2_guarded 23 = .ok (.athrow, 1) := by decide +kernel
theorem dX2_guarded_24 : decode cX2_guarded 24 = .ok (.aload_n 0, 1) := by decide +kernel
theorem dX2_guarded_25 : decode cX2_guarded 25 = .ok (.getfield 11, 3) := by decide +kernel
theorem dX2_guarded_28 : decode cX2_guarded 28 = .ok (.iload_n 1, 1) := by decide +kernel
theorem dX2_guarded_29 : decode cX2_guarded 29 = .ok (.aaload, 1) := by decide +kernel
theorem dX2_guarded_30 : decode cX2_guarded 30 = .ok (.getfield 152, 3) := by decide +kernel
theorem dX2_guarded_33 : decode cX2_guarded 33 = .ok (.iconst 1, 1) := by decide +kernel
theorem dX2_guarded_34 : decode cX2_guarded 34 = .ok (.if_icmp .eq 13, 3) := by decide +kernel
theorem dX2_guarded_37 : decode cX2_guarded 37 = .ok (.new 112, 3) := by decide +kernel
theorem dX2_guarded_40 : decode cX2_guarded 40 = .ok (.dup, 1) := by decide +kernel
theorem dX2_guarded_41 : decode cX2_guarded 41 = .ok (.ldc 155, 2) := by decide +kernel
theorem dX2_guarded_43 : decode cX2_guarded 43 = .ok (.invokespecial 116, 3) := by decide +kernel
theorem dX2_guarded_46 : decode cX2_guarded 46 = .ok (.athrow, 1) := by decide +kernel
theorem dX2_guarded_47 : decode cX2_guarded 47 = .ok (.aload_n 0, 1) := by decide +kernel
theorem dX2_guarded_48 : decode cX2_guarded 48 = .ok (.getfield 11, 3) := by decide +kernel
theorem dX2_guarded_51 : decode cX2_guarded 51 = .ok (.iload_n 1, 1) := by decide +kernel
theorem dX2_guarded_52 : decode cX2_guarded 52 = .ok (.aaload, 1) := by decide +kernel
theorem dX2_guarded_53 : decode cX2_guarded 53 = .ok (.getfield 157, 3) := by decide +kernel
theorem dX2_guarded_56 : decode cX2_guarded 56 = .ok (.iload_n 2, 1) := by decide +kernel
theorem dX2_guarded_57 : decode cX2_guarded 57 = .ok (.iaload, 1) := by decide +kernel
theorem dX2_guarded_58 : decode cX2_guarded 58 = .ok (.ireturn, 1) := by decide +kernel
theorem dX2_told_0 : decode cX2_told 0 = .ok (.iload_n 1, 1) := by decide +kernel
theorem dX2_told_1 : decode cX2_told 1 = .ok (.bipush 10, 2) := by decide +kernel
theorem dX2_told_3 : decode cX2_told 3 = .ok (.if_icmp .lt 22, 3) := by decide +kernel
theorem dX2_told_6 : decode cX2_told 6 = .ok (.iload_n 1, 1) := by decide +kernel
theorem dX2_told_7 : decode cX2_told 7 = .ok (.bipush 16, 2) := by decide +kernel
theorem dX2_told_9 : decode cX2_told 9 = .ok (.if_icmp .ge 16, 3) := by decide +kernel
theorem dX2_told_12 : decode cX2_told 12 = .ok (.aload_n 0, 1) := by decide +kernel
theorem dX2_told_13 : decode cX2_told 13 = .ok (.getfield 11, 3) := by decide +kernel
theorem dX2_told_16 : decode cX2_told 16 = .ok (.iload_n 1, 1) := by decide +kernel
theorem dX2_told_17 : decode cX2_told 17 = .ok (.bipush 10, 2) := by decide +kernel
theorem dX2_told_19 : decode cX2_told 19 = .ok (.isub, 1) := by decide +kernel
theorem dX2_told_20 : decode cX2_told 20 = .ok (.aaload, 1) := by decide +kernel
theorem dX2_told_21 : decode cX2_told 21 = .ok (.getfield 161, 3) := by decide +kernel
theorem dX2_told_24 : decode cX2_told 24 = .ok (.ireturn, 1) := by decide +kernel
theorem dX2_told_25 : decode cX2_told 25 = .ok (.iload_n 1, 1) := by decide +kernel
theorem dX2_told_26 : decode cX2_told 26 = .ok (.tableswitch 58 0 3 #[30, 35, 48, 53], 30) := by decide +kernel
theorem dX2_told_56 : decode cX2_told 56 = .ok (.aload_n 0, 1) := by decide +kernel
theorem dX2_told_57 : decode cX2_told 57 = .ok (.getfield 25, 3) := by decide +kernel
theorem dX2_told_60 : decode cX2_told 60 = .ok (.ireturn, 1) := by decide +kernel
theorem dX2_told_61 : decode cX2_told 61 = .ok (.aload_n 0, 1) := by decide +kernel
theorem dX2_told_62 : decode cX2_told 62 = .ok (.getfield 38, 3) := by decide +kernel
theorem dX2_told_65 : decode cX2_told 65 = .ok (.ifCond .eq 7, 3) := by decide +kernel
theorem dX2_told_68 : decode cX2_told 68 = .ok (.iconst 1, 1) := by decide +kernel
theorem dX2_told_69 : decode cX2_told 69 = .ok (.goto 4, 3) := by decide +kernel
theorem dX2_told_72 : decode cX2_told 72 = .ok (.iconst 0, 1) := by decide +kernel
theorem dX2_told_73 : decode cX2_told 73 = .ok (.ireturn, 1) := by decide +kernel
theorem dX2_told_74 : decode cX2_told 74 = .ok (.aload_n 0, 1) := by decide +kernel
theorem dX2_told_75 : decode cX2_told 75 = .ok (.invokevirtual 164, 3) := by decide +kernel
theorem dX2_told_78 : decode cX2_told 78 = .ok (.ireturn, 1) := by decide +kernel
theorem dX2_told_79 : decode cX2_told 79 = .ok (.aload_n 0, 1) := by decide +kernel
theorem dX2_told_80 : decode cX2_told 80 = .ok (.getfield 35, 3) := by decide +kernel
theorem dX2_told_83 : decode cX2_told 83 = .ok (.ireturn, 1) := by decide +kernel
theorem dX2_told_84 : decode cX2_told 84 = .ok (.iconst (-1), 1) := by decide +kernel
theorem dX2_told_85 : decode cX2_told 85 = .ok (.ireturn, 1) := by decide +kernel
theorem dX2_requirePower_0 : decode cX2_requirePower 0 = .ok (.aload_n 0, 1) := by decide +kernel
theorem dX2_requirePower_1 : decode cX2_requirePower 1 = .ok (.getfield 38, 3) := by decide +kernel
theorem dX2_requirePower_4 : decode cX2_requirePower 4 = .ok (.ifCond .ne 13, 3) := by decide +kernel
theorem dX2_requirePower_7 : decode cX2_requirePower 7 = .ok (.new 74, 3) := by decide +kernel
theorem dX2_requirePower_10 : decode cX2_requirePower 10 = .ok (.dup, 1) := by decide +kernel
theorem dX2_requirePower_11 : decode cX2_requirePower 11 = .ok (.ldc 167, 2) := by decide +kernel
theorem dX2_requirePower_13 : decode cX2_requirePower 13 = .ok (.invokespecial 78, 3) := by decide +kernel
theorem dX2_requirePower_16 : decode cX2_requirePower 16 = .ok (.athrow, 1) := by decide +kernel
theorem dX2_requirePower_17 : decode cX2_requirePower 17 = .ok (.return_, 1) := by decide +kernel
theorem dX2_requireEvent_0 : decode cX2_requireEvent 0 = .ok (.iload_n 1, 1) := by decide +kernel
theorem dX2_requireEvent_1 : decode cX2_requireEvent 1 = .ok (.aload_n 0, 1) := by decide +kernel
theorem dX2_requireEvent_2 : decode cX2_requireEvent 2 = .ok (.getfield 29, 3) := by decide +kernel
theorem dX2_requireEvent_5 : decode cX2_requireEvent 5 = .ok (.if_icmp .lt 11, 3) := by decide +kernel
theorem dX2_requireEvent_8 : decode cX2_requireEvent 8 = .ok (.iload_n 1, 1) := by decide +kernel
theorem dX2_requireEvent_9 : decode cX2_requireEvent 9 = .ok (.aload_n 0, 1) := by decide +kernel
theorem dX2_requireEvent_10 : decode cX2_requireEvent 10 = .ok (.getfield 32, 3) := by decide +kernel
theorem dX2_requireEvent_13 : decode cX2_requireEvent 13 = .ok (.if_icmp .lt 13, 3) := by decide +kernel
theorem dX2_requireEvent_16 : decode cX2_requireEvent 16 = .ok (.new 135, 3) := by decide +kernel
theorem dX2_requireEvent_19 : decode cX2_requireEvent 19 = .ok (.dup, 1) := by decide +kernel
theorem dX2_requireEvent_20 : decode cX2_requireEvent 20 = .ok (.ldc 169, 2) := by decide +kernel
theorem dX2_requireEvent_22 : decode cX2_requireEvent 22 = .ok (.invokespecial 139, 3) := by decide +kernel
theorem dX2_requireEvent_25 : decode cX2_requireEvent 25 = .ok (.athrow, 1) := by decide +kernel
theorem dX2_requireEvent_26 : decode cX2_requireEvent 26 = .ok (.return_, 1) := by decide +kernel
theorem dX2_requireBlock_0 : decode cX2_requireBlock 0 = .ok (.iload_n 0, 1) := by decide +kernel
theorem dX2_requireBlock_1 : decode cX2_requireBlock 1 = .ok (.ifCond .lt 9, 3) := by decide +kernel
theorem dX2_requireBlock_4 : decode cX2_requireBlock 4 = .ok (.iload_n 0, 1) := by decide +kernel
theorem dX2_requireBlock_5 : decode cX2_requireBlock 5 = .ok (.bipush 6, 2) := by decide +kernel
theorem dX2_requireBlock_7 : decode cX2_requireBlock 7 = .ok (.if_icmp .lt 13, 3) := by decide +kernel
theorem dX2_requireBlock_10 : decode cX2_requireBlock 10 = .ok (.new 135, 3) := by decide +kernel
theorem dX2_requireBlock_13 : decode cX2_requireBlock 13 = .ok (.dup, 1) := by decide +kernel
theorem dX2_requireBlock_14 : decode cX2_requireBlock 14 = .ok (.ldc 171, 2) := by decide +kernel
theorem dX2_requireBlock_16 : decode cX2_requireBlock 16 = .ok (.invokespecial 139, 3) := by decide +kernel
theorem dX2_requireBlock_19 : decode cX2_requireBlock 19 = .ok (.athrow, 1) := by decide +kernel
theorem dX2_requireBlock_20 : decode cX2_requireBlock 20 = .ok (.return_, 1) := by decide +kernel
theorem dX2_requireLine_0 : decode cX2_requireLine 0 = .ok (.iload_n 0, 1) := by decide +kernel
theorem dX2_requireLine_1 : decode cX2_requireLine 1 = .ok (.invokestatic 149, 3) := by decide +kernel
theorem dX2_requireLine_4 : decode cX2_requireLine 4 = .ok (.iload_n 1, 1) := by decide +kernel
theorem dX2_requireLine_5 : decode cX2_requireLine 5 = .ok (.ifCond .lt 9, 3) := by decide +kernel
theorem dX2_requireLine_8 : decode cX2_requireLine 8 = .ok (.iload_n 1, 1) := by decide +kernel
theorem dX2_requireLine_9 : decode cX2_requireLine 9 = .ok (.bipush 8, 2) := by decide +kernel
theorem dX2_requireLine_11 : decode cX2_requireLine 11 = .ok (.if_icmp .lt 13, 3) := by decide +kernel
theorem dX2_requireLine_14 : decode cX2_requireLine 14 = .ok (.new 135, 3) := by decide +kernel
theorem dX2_requireLine_17 : decode cX2_requireLine 17 = .ok (.dup, 1) := by decide +kernel
theorem dX2_requireLine_18 : decode cX2_requireLine 18 = .ok (.ldc 173, 2) := by decide +kernel
theorem dX2_requireLine_20 : decode cX2_requireLine 20 = .ok (.invokespecial 139, 3) := by decide +kernel
theorem dX2_requireLine_23 : decode cX2_requireLine 23 = .ok (.athrow, 1) := by decide +kernel
theorem dX2_requireLine_24 : decode cX2_requireLine 24 = .ok (.return_, 1) := by decide +kernel
theorem dX2_placeOf_0 : decode cX2_placeOf 0 = .ok (.iload_n 1, 1) := by decide +kernel
theorem dX2_placeOf_1 : decode cX2_placeOf 1 = .ok (.ifCond .eq 10, 3) := by decide +kernel
theorem dX2_placeOf_4 : decode cX2_placeOf 4 = .ok (.bipush 8, 2) := by decide +kernel
theorem dX2_placeOf_6 : decode cX2_placeOf 6 = .ok (.iload_n 0, 1) := by decide +kernel
theorem dX2_placeOf_7 : decode cX2_placeOf 7 = .ok (.iadd, 1) := by decide +kernel
theorem dX2_placeOf_8 : decode cX2_placeOf 8 = .ok (.goto 4, 3) := by decide +kernel
theorem dX2_placeOf_11 : decode cX2_placeOf 11 = .ok (.iload_n 0, 1) := by decide +kernel
theorem dX2_placeOf_12 : decode cX2_placeOf 12 = .ok (.ireturn, 1) := by decide +kernel
theorem dX2_flush_0 : decode cX2_flush 0 = .ok (.aload_n 0, 1) := by decide +kernel
theorem dX2_flush_1 : decode cX2_flush 1 = .ok (.aload_n 0, 1) := by decide +kernel
theorem dX2_flush_2 : decode cX2_flush 2 = .ok (.invokevirtual 175, 3) := by decide +kernel
theorem dX2_flush_5 : decode cX2_flush 5 = .ok (.putfield 25, 3) := by decide +kernel
theorem dX2_flush_8 : decode cX2_flush 8 = .ok (.aload_n 0, 1) := by decide +kernel
theorem dX2_flush_9 : decode cX2_flush 9 = .ok (.getfield 11, 3) := by decide +kernel
theorem dX2_flush_12 : decode cX2_flush 12 = .ok (.aload_n 0, 1) := by decide +kernel
theorem dX2_flush_13 : decode cX2_flush 13 = .ok (.getfield 25, 3) := by decide +kernel
theorem dX2_flush_16 : decode cX2_flush 16 = .ok (.aaload, 1) := by decide +kernel
theorem dX2_flush_17 : decode cX2_flush 17 = .ok (.astore_n 1, 1) := by decide +kernel
theorem dX2_flush_18 : decode cX2_flush 18 = .ok (.aload_n 1, 1) := by decide +kernel
theorem dX2_flush_19 : decode cX2_flush 19 = .ok (.invokevirtual 178, 3) := by decide +kernel
theorem dX2_flush_22 : decode cX2_flush 22 = .ok (.istore_n 2, 1) := by decide +kernel
theorem dX2_flush_23 : decode cX2_flush 23 = .ok (.iload_n 2, 1) := by decide +kernel
theorem dX2_flush_24 : decode cX2_flush 24 = .ok (.bipush 8, 2) := by decide +kernel
theorem dX2_flush_26 : decode cX2_flush 26 = .ok (.if_icmp .ne 13, 3) := by decide +kernel
theorem dX2_flush_29 : decode cX2_flush 29 = .ok (.aload_n 0, 1) := by decide +kernel
theorem dX2_flush_30 : decode cX2_flush 30 = .ok (.aload_n 1, 1) := by decide +kernel
theorem dX2_flush_31 : decode cX2_flush 31 = .ok (.invokevirtual 181, 3) := by decide +kernel
theorem dX2_flush_34 : decode cX2_flush 34 = .ok (.ifCond .ne 5, 3) := by decide +kernel
theorem dX2_flush_37 : decode cX2_flush 37 = .ok (.iconst 0, 1) := by decide +kernel
theorem dX2_flush_38 : decode cX2_flush 38 = .ok (.ireturn, 1) := by decide +kernel
theorem dX2_flush_39 : decode cX2_flush 39 = .ok (.aload_n 0, 1) := by decide +kernel
theorem dX2_flush_40 : decode cX2_flush 40 = .ok (.invokevirtual 185, 3) := by decide +kernel
theorem dX2_flush_43 : decode cX2_flush 43 = .ok (.ifCond .eq 10, 3) := by decide +kernel
theorem dX2_flush_46 : decode cX2_flush 46 = .ok (.aload_n 1, 1) := by decide +kernel
theorem dX2_flush_47 : decode cX2_flush 47 = .ok (.iload_n 2, 1) := by decide +kernel
theorem dX2_flush_48 : decode cX2_flush 48 = .ok (.invokevirtual 188, 3) := by decide +kernel
theorem dX2_flush_51 : decode cX2_flush 51 = .ok (.iconst 0, 1) := by decide +kernel
theorem dX2_flush_52 : decode cX2_flush 52 = .ok (.ireturn, 1) := by decide +kernel
theorem dX2_flush_53 : decode cX2_flush 53 = .ok (.aload_n 1, 1) := by decide +kernel
theorem dX2_flush_54 : decode cX2_flush 54 = .ok (.iload_n 2, 1) := by decide +kernel
theorem dX2_flush_55 : decode cX2_flush 55 = .ok (.aload_n 0, 1) := by decide +kernel
theorem dX2_flush_56 : decode cX2_flush 56 = .ok (.getfield 18, 3) := by decide +kernel
theorem dX2_flush_59 : decode cX2_flush 59 = .ok (.invokevirtual 191, 3) := by decide +kernel
theorem dX2_flush_62 : decode cX2_flush 62 = .ok (.aload_n 0, 1) := by decide +kernel
theorem dX2_flush_63 : decode cX2_flush 63 = .ok (.getfield 18, 3) := by decide +kernel
theorem dX2_flush_66 : decode cX2_flush 66 = .ok (.invokevirtual 79, 3) := by decide +kernel
theorem dX2_flush_69 : decode cX2_flush 69 = .ok (.iconst 1, 1) := by decide +kernel
theorem dX2_flush_70 : decode cX2_flush 70 = .ok (.ireturn, 1) := by decide +kernel
theorem dX2_blockToProgram_0 : decode cX2_blockToProgram 0 = .ok (.aload_n 0, 1) := by decide +kernel
theorem dX2_blockToProgram_1 : decode cX2_blockToProgram 1 = .ok (.getfield 11, 3) := by decide +kernel
theorem dX2_blockToProgram_4 : decode cX2_blockToProgram 4 = .ok (.aload_n 0, 1) := by decide +kernel
theorem dX2_blockToProgram_5 : decode cX2_blockToProgram 5 = .ok (.getfield 25, 3) := by decide +kernel
theorem dX2_blockToProgram_8 : decode cX2_blockToProgram 8 = .ok (.aaload, 1) := by decide +kernel
theorem dX2_blockToProgram_9 : decode cX2_blockToProgram 9 = .ok (.invokevirtual 195, 3) := by decide +kernel
theorem dX2_blockToProgram_12 : decode cX2_blockToProgram 12 = .ok (.ifCond .eq 8, 3) := by decide +kernel
theorem dX2_blockToProgram_15 : decode cX2_blockToProgram 15 = .ok (.aload_n 0, 1) := by decide +kernel
theorem dX2_blockToProgram_16 : decode cX2_blockToProgram 16 = .ok (.getfield 25, 3) := by decide +kernel
theorem dX2_blockToProgram_19 : decode cX2_blockToProgram 19 = .ok (.ireturn, 1) := by decide +kernel
theorem dX2_blockToProgram_20 : decode cX2_blockToProgram 20 = .ok (.aload_n 0, 1) := by decide +kernel
theorem dX2_blockToProgram_21 : decode cX2_blockToProgram 21 = .ok (.getfield 25, 3) := by decide +kernel
theorem dX2_blockToProgram_24 : decode cX2_blockToProgram 24 = .ok (.iconst 1, 1) := by decide +kernel
theorem dX2_blockToProgram_25 : decode cX2_blockToProgram 25 = .ok (.iadd, 1) := by decide +kernel
theorem dX2_blockToProgram_26 : decode cX2_blockToProgram 26 = .ok (.bipush 6, 2) := by decide +kernel
theorem dX2_blockToProgram_28 : decode cX2_blockToProgram 28 = .ok (.irem, 1) := by decide +kernel
theorem dX2_blockToProgram_29 : decode cX2_blockToProgram 29 = .ok (.istore_n 1, 1) := by decide +kernel
theorem dX2_blockToProgram_30 : decode cX2_blockToProgram 30 = .ok (.aload_n 0, 1) := by decide +kernel
theorem dX2_blockToProgram_31 : decode cX2_blockToProgram 31 = .ok (.getfield 11, 3) := by decide +kernel
theorem dX2_blockToProgram_34 : decode cX2_blockToProgram 34 = .ok (.iload_n 1, 1) := by decide +kernel
theorem dX2_blockToProgram_35 : decode cX2_blockToProgram 35 = .ok (.aaload, 1) := by decide +kernel
theorem dX2_blockToProgram_36 : decode cX2_blockToProgram 36 = .ok (.invokevirtual 90, 3) := by decide +kernel
theorem dX2_blockToProgram_39 : decode cX2_blockToProgram 39 = .ok (.ifCond .ne 13, 3) := by decide +kernel
theorem dX2_blockToProgram_42 : decode cX2_blockToProgram 42 = .ok (.new 198, 3) := by decide +kernel
theorem dX2_blockToProgram_45 : decode cX2_blockToProgram 45 = .ok (.dup, 1) := by decide +kernel
theorem dX2_blockToProgram_46 : decode cX2_blockToProgram 46 = .ok (.ldc 200, 2) := by decide +kernel
theorem dX2_blockToProgram_48 : decode cX2_blockToProgram 48 = .ok (.invokespecial 202, 3) := by decide +kernel
theorem dX2_blockToProgram_51 : decode cX2_blockToProgram 51 = .ok (.athrow, 1) := by decide +kernel
theorem dX2_blockToProgram_52 : decode cX2_blockToProgram 52 = .ok (.iload_n 1, 1) := by decide +kernel
theorem dX2_blockToProgram_53 : decode cX2_blockToProgram 53 = .ok (.ireturn, 1) := by decide +kernel
theorem dX2_programGuard_0 : decode cX2_programGuard 0 = .ok (.aload_n 0, 1) := by decide +kernel
theorem dX2_programGuard_1 : decode cX2_programGuard 1 = .ok (.invokevirtual 185, 3) := by decide +kernel
theorem dX2_programGuard_4 : decode cX2_programGuard 4 = .ok (.ifCond .eq 10, 3) := by decide +kernel
theorem dX2_programGuard_7 : decode cX2_programGuard 7 = .ok (.aload_n 1, 1) := by decide +kernel
theorem dX2_programGuard_8 : decode cX2_programGuard 8 = .ok (.iconst 2, 1) := by decide +kernel
theorem dX2_programGuard_9 : decode cX2_programGuard 9 = .ok (.putfield 152, 3) := by decide +kernel
theorem dX2_programGuard_12 : decode cX2_programGuard 12 = .ok (.iconst 0, 1) := by decide +kernel
theorem dX2_programGuard_13 : decode cX2_programGuard 13 = .ok (.ireturn, 1) := by decide +kernel
theorem dX2_programGuard_14 : decode cX2_programGuard 14 = .ok (.aload_n 1, 1) := by decide +kernel
theorem dX2_programGuard_15 : decode cX2_programGuard 15 = .ok (.invokevirtual 203, 3) := by decide +kernel
theorem dX2_programGuard_18 : decode cX2_programGuard 18 = .ok (.iconst 1, 1) := by decide +kernel
theorem dX2_programGuard_19 : decode cX2_programGuard 19 = .ok (.ireturn, 1) := by decide +kernel
theorem dX2_cutIsDue_0 : decode cX2_cutIsDue 0 = .ok (.aload_n 0, 1) := by decide +kernel
theorem dX2_cutIsDue_1 : decode cX2_cutIsDue 1 = .ok (.getfield 35, 3) := by decide +kernel
theorem dX2_cutIsDue_4 : decode cX2_cutIsDue 4 = .ok (.ifCond .ne 5, 3) := by decide +kernel
theorem dX2_cutIsDue_7 : decode cX2_cutIsDue 7 = .ok (.iconst 0, 1) := by decide +kernel
theorem dX2_cutIsDue_8 : decode cX2_cutIsDue 8 = .ok (.ireturn, 1) := by decide +kernel
theorem dX2_cutIsDue_9 : decode cX2_cutIsDue 9 = .ok (.aload_n 0, 1) := by decide +kernel
theorem dX2_cutIsDue_10 : decode cX2_cutIsDue 10 = .ok (.dup, 1) := by decide +kernel
theorem dX2_cutIsDue_11 : decode cX2_cutIsDue 11 = .ok (.getfield 35, 3) := by decide +kernel
theorem dX2_cutIsDue_14 : decode cX2_cutIsDue 14 = .ok (.iconst 1, 1) := by decide +kernel
theorem dX2_cutIsDue_15 : decode cX2_cutIsDue 15 = .ok (.isub, 1) := by decide +kernel
theorem dX2_cutIsDue_16 : decode cX2_cutIsDue 16 = .ok (.putfield 35, 3) := by decide +kernel
theorem dX2_cutIsDue_19 : decode cX2_cutIsDue 19 = .ok (.aload_n 0, 1) := by decide +kernel
theorem dX2_cutIsDue_20 : decode cX2_cutIsDue 20 = .ok (.getfield 35, 3) := by decide +kernel
theorem dX2_cutIsDue_23 : decode cX2_cutIsDue 23 = .ok (.ifCond .le 5, 3) := by decide +kernel
theorem dX2_cutIsDue_26 : decode cX2_cutIsDue 26 = .ok (.iconst 0, 1) := by decide +kernel
theorem dX2_cutIsDue_27 : decode cX2_cutIsDue 27 = .ok (.ireturn, 1) := by decide +kernel
theorem dX2_cutIsDue_28 : decode cX2_cutIsDue 28 = .ok (.aload_n 0, 1) := by decide +kernel
theorem dX2_cutIsDue_29 : decode cX2_cutIsDue 29 = .ok (.iconst 0, 1) := by decide +kernel
theorem dX2_cutIsDue_30 : decode cX2_cutIsDue 30 = .ok (.putfield 38, 3) := by decide +kernel
theorem dX2_cutIsDue_33 : decode cX2_cutIsDue 33 = .ok (.iconst 1, 1) := by decide +kernel
theorem dX2_cutIsDue_34 : decode cX2_cutIsDue 34 = .ok (.ireturn, 1) := by decide +kernel
theorem dX2_eraseUnreadableBlocks_0 : decode cX2_eraseUnreadableBlocks 0 = .ok (.iconst 0, 1) := by decide +kernel
theorem dX2_eraseUnreadableBlocks_1 : decode cX2_eraseUnreadableBlocks 1 = .ok (.istore_n 1, 1) := by decide +kernel
theorem dX2_eraseUnreadableBlocks_2 : decode cX2_eraseUnreadableBlocks 2 = .ok (.iload_n 1, 1) := by decide +kernel
theorem dX2_eraseUnreadableBlocks_3 : decode cX2_eraseUnreadableBlocks 3 = .ok (.bipush 6, 2) := by decide +kernel
theorem dX2_eraseUnreadableBlocks_5 : decode cX2_eraseUnreadableBlocks 5 = .ok (.if_icmp .ge 44, 3) := by decide +kernel
theorem dX2_eraseUnreadableBlocks_8 : decode cX2_eraseUnreadableBlocks 8 = .ok (.aload_n 0, 1) := by decide +kernel
theorem dX2_eraseUnreadableBlocks_9 : decode cX2_eraseUnreadableBlocks 9 = .ok (.getfield 11, 3) := by decide +kernel
theorem dX2_eraseUnreadableBlocks_12 : decode cX2_eraseUnreadableBlocks 12 = .ok (.iload_n 1, 1) := by decide +kernel
theorem dX2_eraseUnreadableBlocks_13 : decode cX2_eraseUnreadableBlocks 13 = .ok (.aaload, 1) := by decide +kernel
theorem dX2_eraseUnreadableBlocks_14 : decode cX2_eraseUnreadableBlocks 14 = .ok (.invokevirtual 90, 3) := by decide +kernel
theorem dX2_eraseUnreadableBlocks_17 : decode cX2_eraseUnreadableBlocks 17 = .ok (.ifCond .ne 26, 3) := by decide +kernel
theorem dX2_eraseUnreadableBlocks_20 : decode cX2_eraseUnreadableBlocks 20 = .ok (.aload_n 0, 1) := by decide +kernel
theorem dX2_eraseUnreadableBlocks_21 : decode cX2_eraseUnreadableBlocks 21 = .ok (.aload_n 0, 1) := by decide +kernel
theorem dX2_eraseUnreadableBlocks_22 : decode cX2_eraseUnreadableBlocks 22 = .ok (.getfield 11, 3) := by decide +kernel
theorem dX2_eraseUnreadableBlocks_25 : decode cX2_eraseUnreadableBlocks 25 = .ok (.iload_n 1, 1) := by decide +kernel
theorem dX2_eraseUnreadableBlocks_26 : decode cX2_eraseUnreadableBlocks 26 = .ok (.aaload, 1) := by decide +kernel
theorem dX2_eraseUnreadableBlocks_27 : decode cX2_eraseUnreadableBlocks 27 = .ok (.invokevirtual 93, 3) := by decide +kernel
theorem dX2_eraseUnreadableBlocks_30 : decode cX2_eraseUnreadableBlocks 30 = .ok (.iconst (-1), 1) := by decide +kernel
theorem dX2_eraseUnreadableBlocks_31 : decode cX2_eraseUnreadableBlocks 31 = .ok (.if_icmp .ne 12, 3) := by decide +kernel
theorem dX2_eraseUnreadableBlocks_34 : decode cX2_eraseUnreadableBlocks 34 = .ok (.aload_n 0, 1) := by decide +kernel
theorem dX2_eraseUnreadableBlocks_35 : decode cX2_eraseUnreadableBlocks 35 = .ok (.getfield 11, 3) := by decide +kernel
theorem dX2_eraseUnreadableBlocks_38 : decode cX2_eraseUnreadableBlocks 38 = .ok (.iload_n 1, 1) := by decide +kernel
theorem dX2_eraseUnreadableBlocks_39 : decode cX2_eraseUnreadableBlocks 39 = .ok (.aaload, 1) := by decide +kernel
theorem dX2_eraseUnreadableBlocks_40 : decode cX2_eraseUnreadableBlocks 40 = .ok (.invokevirtual 97, 3) := by decide +kernel
theorem dX2_eraseUnreadableBlocks_43 : decode cX2_eraseUnreadableBlocks 43 = .ok (.iinc 1 1, 3) := by decide +kernel
theorem dX2_eraseUnreadableBlocks_46 : decode cX2_eraseUnreadableBlocks 46 = .ok (.goto (-44), 3) := by decide +kernel
theorem dX2_eraseUnreadableBlocks_49 : decode cX2_eraseUnreadableBlocks 49 = .ok (.return_, 1) := by decide +kernel
theorem dX2_findEvents_0 : decode cX2_findEvents 0 = .ok (.iconst (-1), 1) := by decide +kernel
theorem dX2_findEvents_1 : decode cX2_findEvents 1 = .ok (.istore_n 1, 1) := by decide +kernel
theorem dX2_findEvents_2 : decode cX2_findEvents 2 = .ok (.iconst (-1), 1) := by decide +kernel
theorem dX2_findEvents_3 : decode cX2_findEvents 3 = .ok (.istore_n 2, 1) := by decide +kernel
theorem dX2_findEvents_4 : decode cX2_findEvents 4 = .ok (.aload_n 0, 1) := by decide +kernel
theorem dX2_findEvents_5 : decode cX2_findEvents 5 = .ok (.iconst 0, 1) := by decide +kernel
theorem dX2_findEvents_6 : decode cX2_findEvents 6 = .ok (.putfield 25, 3) := by decide +kernel
theorem dX2_findEvents_9 : decode cX2_findEvents 9 = .ok (.iconst 0, 1) := by decide +kernel
theorem dX2_findEvents_10 : decode cX2_findEvents 10 = .ok (.istore_n 3, 1) := by decide +kernel
theorem dX2_findEvents_11 : decode cX2_findEvents 11 = .ok (.iload_n 3, 1) := by decide +kernel
theorem dX2_findEvents_12 : decode cX2_findEvents 12 = .ok (.bipush 6, 2) := by decide +kernel
theorem dX2_findEvents_14 : decode cX2_findEvents 14 = .ok (.if_icmp .ge 67, 3) := by decide +kernel
theorem dX2_findEvents_17 : decode cX2_findEvents 17 = .ok (.aload_n 0, 1) := by decide +kernel
theorem dX2_findEvents_18 : decode cX2_findEvents 18 = .ok (.aload_n 0, 1) := by decide +kernel
theorem dX2_findEvents_19 : decode cX2_findEvents 19 = .ok (.getfield 11, 3) := by decide +kernel
theorem dX2_findEvents_22 : decode cX2_findEvents 22 = .ok (.iload_n 3, 1) := by decide +kernel
theorem dX2_findEvents_23 : decode cX2_findEvents 23 = .ok (.aaload, 1) := by decide +kernel
theorem dX2_findEvents_24 : decode cX2_findEvents 24 = .ok (.invokevirtual 206, 3) := by decide +kernel
theorem dX2_findEvents_27 : decode cX2_findEvents 27 = .ok (.istore 4, 2) := by decide +kernel
theorem dX2_findEvents_29 : decode cX2_findEvents 29 = .ok (.aload_n 0, 1) := by decide +kernel
theorem dX2_findEvents_30 : decode cX2_findEvents 30 = .ok (.aload_n 0, 1) := by decide +kernel
theorem dX2_findEvents_31 : decode cX2_findEvents 31 = .ok (.getfield 11, 3) := by decide +kernel
theorem dX2_findEvents_34 : decode cX2_findEvents 34 = .ok (.iload_n 3, 1) := by decide +kernel
theorem dX2_findEvents_35 : decode cX2_findEvents 35 = .ok (.aaload, 1) := by decide +kernel
theorem dX2_findEvents_36 : decode cX2_findEvents 36 = .ok (.invokevirtual 93, 3) := by decide +kernel
theorem dX2_findEvents_39 : decode cX2_findEvents 39 = .ok (.istore 5, 2) := by decide +kernel
theorem dX2_findEvents_41 : decode cX2_findEvents 41 = .ok (.iload 4, 2) := by decide +kernel
theorem dX2_findEvents_43 : decode cX2_findEvents 43 = .ok (.iconst (-1), 1) := by decide +kernel
theorem dX2_findEvents_44 : decode cX2_findEvents 44 = .ok (.if_icmp .eq 17, 3) := by decide +kernel
theorem dX2_findEvents_47 : decode cX2_findEvents 47 = .ok (.iload_n 1, 1) := by decide +kernel
theorem dX2_findEvents_48 : decode cX2_findEvents 48 = .ok (.iconst (-1), 1) := by decide +kernel
theorem dX2_findEvents_49 : decode cX2_findEvents 49 = .ok (.if_icmp .eq 9, 3) := by decide +kernel
theorem dX2_findEvents_52 : decode cX2_findEvents 52 = .ok (.iload 4, 2) := by decide +kernel
theorem dX2_findEvents_54 : decode cX2_findEvents 54 = .ok (.iload_n 1, 1) := by decide +kernel
theorem dX2_findEvents_55 : decode cX2_findEvents 55 = .ok (.if_icmp .ge 6, 3) := by decide +kernel
theorem dX2_findEvents_58 : decode cX2_findEvents 58 = .ok (.iload 4, 2) := by decide +kernel
theorem dX2_findEvents_60 : decode cX2_findEvents 60 = .ok (.istore_n 1, 1) := by decide +kernel
theorem dX2_findEvents_61 : decode cX2_findEvents 61 = .ok (.iload 5, 2) := by decide +kernel
theorem dX2_findEvents_63 : decode cX2_findEvents 63 = .ok (.iload_n 2, 1) := by decide +kernel
theorem dX2_findEvents_64 : decode cX2_findEvents 64 = .ok (.if_icmp .le 11, 3) := by decide +kernel
theorem dX2_findEvents_67 : decode cX2_findEvents 67 = .ok (.iload 5, 2) := by decide +kernel
theorem dX2_findEvents_69 : decode cX2_findEvents 69 = .ok (.istore_n 2, 1) := by decide +kernel
theorem dX2_findEvents_70 : decode cX2_findEvents 70 = .ok (.aload_n 0, 1) := by decide +kernel
theorem dX2_findEvents_71 : decode cX2_findEvents 71 = .ok (.iload_n 3, 1) := by decide +kernel
theorem dX2_findEvents_72 : decode cX2_findEvents 72 = .ok (.putfield 25, 3) := by decide +kernel
theorem dX2_findEvents_75 : decode cX2_findEvents 75 = .ok (.iinc 3 1, 3) := by decide +kernel
theorem dX2_findEvents_78 : decode cX2_findEvents 78 = .ok (.goto (-67), 3) := by decide +kernel
theorem dX2_findEvents_81 : decode cX2_findEvents 81 = .ok (.aload_n 0, 1) := by decide +kernel
theorem dX2_findEvents_82 : decode cX2_findEvents 82 = .ok (.iload_n 1, 1) := by decide +kernel
theorem dX2_findEvents_83 : decode cX2_findEvents 83 = .ok (.iconst (-1), 1) := by decide +kernel
theorem dX2_findEvents_84 : decode cX2_findEvents 84 = .ok (.if_icmp .ne 7, 3) := by decide +kernel
theorem dX2_findEvents_87 : decode cX2_findEvents 87 = .ok (.iconst 0, 1) := by decide +kernel
theorem dX2_findEvents_88 : decode cX2_findEvents 88 = .ok (.goto 4, 3) := by decide +kernel
theorem dX2_findEvents_91 : decode cX2_findEvents 91 = .ok (.iload_n 1, 1) := by decide +kernel
theorem dX2_findEvents_92 : decode cX2_findEvents 92 = .ok (.putfield 29, 3) := by decide +kernel
theorem dX2_findEvents_95 : decode cX2_findEvents 95 = .ok (.aload_n 0, 1) := by decide +kernel
theorem dX2_findEvents_96 : decode cX2_findEvents 96 = .ok (.iload_n 2, 1) := by decide +kernel
theorem dX2_findEvents_97 : decode cX2_findEvents 97 = .ok (.iconst 1, 1) := by decide +kernel
theorem dX2_findEvents_98 : decode cX2_findEvents 98 = .ok (.iadd, 1) := by decide +kernel
theorem dX2_findEvents_99 : decode cX2_findEvents 99 = .ok (.putfield 32, 3) := by decide +kernel
theorem dX2_findEvents_102 : decode cX2_findEvents 102 = .ok (.return_, 1) := by decide +kernel
theorem dX2_leastEvent_0 : decode cX2_leastEvent 0 = .ok (.iconst (-1), 1) := by decide +kernel
theorem dX2_leastEvent_1 : decode cX2_leastEvent 1 = .ok (.istore_n 2, 1) := by decide +kernel
theorem dX2_leastEvent_2 : decode cX2_leastEvent 2 = .ok (.iconst 0, 1) := by decide +kernel
theorem dX2_leastEvent_3 : decode cX2_leastEvent 3 = .ok (.istore_n 3, 1) := by decide +kernel
theorem dX2_leastEvent_4 : decode cX2_leastEvent 4 = .ok (.iload_n 3, 1) := by decide +kernel
theorem dX2_leastEvent_5 : decode cX2_leastEvent 5 = .ok (.bipush 16, 2) := by decide +kernel
theorem dX2_leastEvent_7 : decode cX2_leastEvent 7 = .ok (.if_icmp .ge 45, 3) := by decide +kernel
theorem dX2_leastEvent_10 : decode cX2_leastEvent 10 = .ok (.aload_n 1, 1) := by decide +kernel
theorem dX2_leastEvent_11 : decode cX2_leastEvent 11 = .ok (.iload_n 3, 1) := by decide +kernel
theorem dX2_leastEvent_12 : decode cX2_leastEvent 12 = .ok (.aload_n 0, 1) := by decide +kernel
theorem dX2_leastEvent_13 : decode cX2_leastEvent 13 = .ok (.getfield 22, 3) := by decide +kernel
theorem dX2_leastEvent_16 : decode cX2_leastEvent 16 = .ok (.invokevirtual 209, 3) := by decide +kernel
theorem dX2_leastEvent_19 : decode cX2_leastEvent 19 = .ok (.ifCond .eq 27, 3) := by decide +kernel
theorem dX2_leastEvent_22 : decode cX2_leastEvent 22 = .ok (.iload_n 2, 1) := by decide +kernel
theorem dX2_leastEvent_23 : decode cX2_leastEvent 23 = .ok (.iconst (-1), 1) := by decide +kernel
theorem dX2_leastEvent_24 : decode cX2_leastEvent 24 = .ok (.if_icmp .eq 14, 3) := by decide +kernel
theorem dX2_leastEvent_27 : decode cX2_leastEvent 27 = .ok (.aload_n 0, 1) := by decide +kernel
theorem dX2_leastEvent_28 : decode cX2_leastEvent 28 = .ok (.getfield 22, 3) := by decide +kernel
theorem dX2_leastEvent_31 : decode cX2_leastEvent 31 = .ok (.invokevirtual 213, 3) := by decide +kernel
theorem dX2_leastEvent_34 : decode cX2_leastEvent 34 = .ok (.iload_n 2, 1) := by decide +kernel
theorem dX2_leastEvent_35 : decode cX2_leastEvent 35 = .ok (.if_icmp .ge 11, 3) := by decide +kernel
theorem dX2_leastEvent_38 : decode cX2_leastEvent 38 = .ok (.aload_n 0, 1) := by decide +kernel
theorem dX2_leastEvent_39 : decode cX2_leastEvent 39 = .ok (.getfield 22, 3) := by decide +kernel
theorem dX2_leastEvent_42 : decode cX2_leastEvent 42 = .ok (.invokevirtual 213, 3) := by decide +kernel
theorem dX2_leastEvent_45 : decode cX2_leastEvent 45 = .ok (.istore_n 2, 1) := by decide +kernel
theorem dX2_leastEvent_46 : decode cX2_leastEvent 46 = .ok (.iinc 3 1, 3) := by decide +kernel
theorem dX2_leastEvent_49 : decode cX2_leastEvent 49 = .ok (.goto (-45), 3) := by decide +kernel
theorem dX2_leastEvent_52 : decode cX2_leastEvent 52 = .ok (.iload_n 2, 1) := by decide +kernel
theorem dX2_leastEvent_53 : decode cX2_leastEvent 53 = .ok (.ireturn, 1) := by decide +kernel
theorem dX2_greatestEvent_0 : decode cX2_greatestEvent 0 = .ok (.iconst (-1), 1) := by decide +kernel
theorem dX2_greatestEvent_1 : decode cX2_greatestEvent 1 = .ok (.istore_n 2, 1) := by decide +kernel
theorem dX2_greatestEvent_2 : decode cX2_greatestEvent 2 = .ok (.iconst 0, 1) := by decide +kernel
theorem dX2_greatestEvent_3 : decode cX2_greatestEvent 3 = .ok (.istore_n 3, 1) := by decide +kernel
theorem dX2_greatestEvent_4 : decode cX2_greatestEvent 4 = .ok (.iload_n 3, 1) := by decide +kernel
theorem dX2_greatestEvent_5 : decode cX2_greatestEvent 5 = .ok (.bipush 16, 2) := by decide +kernel
theorem dX2_greatestEvent_7 : decode cX2_greatestEvent 7 = .ok (.if_icmp .ge 33, 3) := by decide +kernel
theorem dX2_greatestEvent_10 : decode cX2_greatestEvent 10 = .ok (.aload_n 1, 1) := by decide +kernel
theorem dX2_greatestEvent_11 : decode cX2_greatestEvent 11 = .ok (.iload_n 3, 1) := by decide +kernel
theorem dX2_greatestEvent_12 : decode cX2_greatestEvent 12 = .ok (.aload_n 0, 1) := by decide +kernel
theorem dX2_greatestEvent_13 : decode cX2_greatestEvent 13 = .ok (.getfield 22, 3) := by decide +kernel
theorem dX2_greatestEvent_16 : decode cX2_greatestEvent 16 = .ok (.invokevirtual 209, 3) := by decide +kernel
theorem dX2_greatestEvent_19 : decode cX2_greatestEvent 19 = .ok (.ifCond .eq 15, 3) := by decide +kernel
theorem dX2_greatestEvent_22 : decode cX2_greatestEvent 22 = .ok (.iload_n 2, 1) := by decide +kernel
theorem dX2_greatestEvent_23 : decode cX2_greatestEvent 23 = .ok (.aload_n 0, 1) := by decide +kernel
theorem dX2_greatestEvent_24 : decode cX2_greatestEvent 24 = .ok (.getfield 22, 3) := by decide +kernel
theorem dX2_greatestEvent_27 : decode cX2_greatestEvent 27 = .ok (.invokevirtual 216, 3) := by decide +kernel
theorem dX2_greatestEvent_30 : decode cX2_greatestEvent 30 = .ok (.invokestatic 219, 3) := by decide +kernel
theorem dX2_greatestEvent_33 : decode cX2_greatestEvent 33 = .ok (.istore_n 2, 1) := by decide +kernel
theorem dX2_greatestEvent_34 : decode cX2_greatestEvent 34 = .ok (.iinc 3 1, 3) := by decide +kernel
theorem dX2_greatestEvent_37 : decode cX2_greatestEvent 37 = .ok (.goto (-33), 3) := by decide +kernel
theorem dX2_greatestEvent_40 : decode cX2_greatestEvent 40 = .ok (.iload_n 2, 1) := by decide +kernel
theorem dX2_greatestEvent_41 : decode cX2_greatestEvent 41 = .ok (.ireturn, 1) := by decide +kernel
theorem dX2_pageWith_0 : decode cX2_pageWith 0 = .ok (.aload_n 0, 1) := by decide +kernel
theorem dX2_pageWith_1 : decode cX2_pageWith 1 = .ok (.getfield 18, 3) := by decide +kernel
theorem dX2_pageWith_4 : decode cX2_pageWith 4 = .ok (.iload_n 1, 1) := by decide +kernel
theorem dX2_pageWith_5 : decode cX2_pageWith 5 = .ok (.invokevirtual 224, 3) := by decide +kernel
theorem dX2_pageWith_8 : decode cX2_pageWith 8 = .ok (.ifCond .eq 8, 3) := by decide +kernel
theorem dX2_pageWith_11 : decode cX2_pageWith 11 = .ok (.aload_n 0, 1) := by decide +kernel
theorem dX2_pageWith_12 : decode cX2_pageWith 12 = .ok (.getfield 18, 3) := by decide +kernel
theorem dX2_pageWith_15 : decode cX2_pageWith 15 = .ok (.areturn, 1) := by decide +kernel
theorem dX2_pageWith_16 : decode cX2_pageWith 16 = .ok (.iconst 0, 1) := by decide +kernel
theorem dX2_pageWith_17 : decode cX2_pageWith 17 = .ok (.istore_n 2, 1) := by decide +kernel
theorem dX2_pageWith_18 : decode cX2_pageWith 18 = .ok (.iload_n 2, 1) := by decide +kernel
theorem dX2_pageWith_19 : decode cX2_pageWith 19 = .ok (.bipush 6, 2) := by decide +kernel
theorem dX2_pageWith_21 : decode cX2_pageWith 21 = .ok (.if_icmp .ge 56, 3) := by decide +kernel
theorem dX2_pageWith_24 : decode cX2_pageWith 24 = .ok (.iconst 0, 1) := by decide +kernel
theorem dX2_pageWith_25 : decode cX2_pageWith 25 = .ok (.istore_n 3, 1) := by decide +kernel
theorem dX2_pageWith_26 : decode cX2_pageWith 26 = .ok (.iload_n 3, 1) := by decide +kernel
theorem dX2_pageWith_27 : decode cX2_pageWith 27 = .ok (.bipush 16, 2) := by decide +kernel
theorem dX2_pageWith_29 : decode cX2_pageWith 29 = .ok (.if_icmp .ge 42, 3) := by decide +kernel
theorem dX2_pageWith_32 : decode cX2_pageWith 32 = .ok (.aload_n 0, 1) := by decide +kernel
theorem dX2_pageWith_33 : decode cX2_pageWith 33 = .ok (.getfield 11, 3) := by decide +kernel
theorem dX2_pageWith_36 : decode cX2_pageWith 36 = .ok (.iload_n 2, 1) := by decide +kernel
theorem dX2_pageWith_37 : decode cX2_pageWith 37 = .ok (.aaload, 1) := by decide +kernel
theorem dX2_pageWith_38 : decode cX2_pageWith 38 = .ok (.iload_n 3, 1) := by decide +kernel
theorem dX2_pageWith_39 : decode cX2_pageWith 39 = .ok (.aload_n 0, 1) := by decide +kernel
theorem dX2_pageWith_40 : decode cX2_pageWith 40 = .ok (.getfield 22, 3) := by decide +kernel
theorem dX2_pageWith_43 : decode cX2_pageWith 43 = .ok (.invokevirtual 209, 3) := by decide +kernel
theorem dX2_pageWith_46 : decode cX2_pageWith 46 = .ok (.ifCond .eq 19, 3) := by decide +kernel
theorem dX2_pageWith_49 : decode cX2_pageWith 49 = .ok (.aload_n 0, 1) := by decide +kernel
theorem dX2_pageWith_50 : decode cX2_pageWith 50 = .ok (.getfield 22, 3) := by decide +kernel
theorem dX2_pageWith_53 : decode cX2_pageWith 53 = .ok (.iload_n 1, 1) := by decide +kernel
theorem dX2_pageWith_54 : decode cX2_pageWith 54 = .ok (.invokevirtual 224, 3) := by decide +kernel
theorem dX2_pageWith_57 : decode cX2_pageWith 57 = .ok (.ifCond .eq 8, 3) := by decide +kernel
theorem dX2_pageWith_60 : decode cX2_pageWith 60 = .ok (.aload_n 0, 1) := by decide +kernel
theorem dX2_pageWith_61 : decode cX2_pageWith 61 = .ok (.getfield 22, 3) := by decide +kernel
theorem dX2_pageWith_64 : decode cX2_pageWith 64 = .ok (.areturn, 1) := by decide +kernel
theorem dX2_pageWith_65 : decode cX2_pageWith 65 = .ok (.iinc 3 1, 3) := by decide +kernel
theorem dX2_pageWith_68 : decode cX2_pageWith 68 = .ok (.goto (-42), 3) := by decide +kernel
theorem dX2_pageWith_71 : decode cX2_pageWith 71 = .ok (.iinc 2 1, 3) := by decide +kernel
theorem dX2_pageWith_74 : decode cX2_pageWith 74 = .ok (.goto (-56), 3) := by decide +kernel
theorem dX2_pageWith_77 : decode cX2_pageWith 77 = .ok (.aconst_null, 1) := by decide +kernel
theorem dX2_pageWith_78 : decode cX2_pageWith 78 = .ok (.areturn, 1) := by decide +kernel
theorem dX2_erasedBlocks_0 : decode cX2_erasedBlocks 0 = .ok (.iconst 0, 1) := by decide +kernel
theorem dX2_erasedBlocks_1 : decode cX2_erasedBlocks 1 = .ok (.istore_n 1, 1) := by decide +kernel
theorem dX2_erasedBlocks_2 : decode cX2_erasedBlocks 2 = .ok (.iconst 0, 1) := by decide +kernel
theorem dX2_erasedBlocks_3 : decode cX2_erasedBlocks 3 = .ok (.istore_n 2, 1) := by decide +kernel
theorem dX2_erasedBlocks_4 : decode cX2_erasedBlocks 4 = .ok (.iload_n 2, 1) := by decide +kernel
theorem dX2_erasedBlocks_5 : decode cX2_erasedBlocks 5 = .ok (.bipush 6, 2) := by decide +kernel
theorem dX2_erasedBlocks_7 : decode cX2_erasedBlocks 7 = .ok (.if_icmp .ge 24, 3) := by decide +kernel
theorem dX2_erasedBlocks_10 : decode cX2_erasedBlocks 10 = .ok (.aload_n 0, 1) := by decide +kernel
theorem dX2_erasedBlocks_11 : decode cX2_erasedBlocks 11 = .ok (.getfield 11, 3) := by decide +kernel
theorem dX2_erasedBlocks_14 : decode cX2_erasedBlocks 14 = .ok (.iload_n 2, 1) := by decide +kernel
theorem dX2_erasedBlocks_15 : decode cX2_erasedBlocks 15 = .ok (.aaload, 1) := by decide +kernel
theorem dX2_erasedBlocks_16 : decode cX2_erasedBlocks 16 = .ok (.invokevirtual 90, 3) := by decide +kernel
theorem dX2_erasedBlocks_19 : decode cX2_erasedBlocks 19 = .ok (.ifCond .eq 6, 3) := by decide +kernel
theorem dX2_erasedBlocks_22 : decode cX2_erasedBlocks 22 = .ok (.iinc 1 1, 3) := by decide +kernel
theorem dX2_erasedBlocks_25 : decode cX2_erasedBlocks 25 = .ok (.iinc 2 1, 3) := by decide +kernel
theorem dX2_erasedBlocks_28 : decode cX2_erasedBlocks 28 = .ok (.goto (-24), 3) := by decide +kernel
theorem dX2_erasedBlocks_31 : decode cX2_erasedBlocks 31 = .ok (.iload_n 1, 1) := by decide +kernel
theorem dX2_erasedBlocks_32 : decode cX2_erasedBlocks 32 = .ok (.ireturn, 1) := by decide +kernel
theorem dJ9_max_7cf53_0 : decode cJ9_max_7cf53 0 = .ok (.iload_n 0, 1) := by decide +kernel
theorem dJ9_max_7cf53_1 : decode cJ9_max_7cf53 1 = .ok (.iload_n 1, 1) := by decide +kernel
theorem dJ9_max_7cf53_2 : decode cJ9_max_7cf53 2 = .ok (.if_icmp .lt 7, 3) := by decide +kernel
theorem dJ9_max_7cf53_5 : decode cJ9_max_7cf53 5 = .ok (.iload_n 0, 1) := by decide +kernel
theorem dJ9_max_7cf53_6 : decode cJ9_max_7cf53 6 = .ok (.goto 4, 3) := by decide +kernel
theorem dJ9_max_7cf53_9 : decode cJ9_max_7cf53 9 = .ok (.iload_n 1, 1) := by decide +kernel
theorem dJ9_max_7cf53_10 : decode cJ9_max_7cf53 10 = .ok (.ireturn, 1) := by decide +kernel
theorem dJ7_fill_53178_0 : decode cJ7_fill_53178 0 = .ok (.iconst 0, 1) := by decide +kernel
theorem dJ7_fill_53178_1 : decode cJ7_fill_53178 1 = .ok (.istore_n 2, 1) := by decide +kernel
theorem dJ7_fill_53178_2 : decode cJ7_fill_53178 2 = .ok (.aload_n 0, 1) := by decide +kernel
theorem dJ7_fill_53178_3 : decode cJ7_fill_53178 3 = .ok (.arraylength, 1) := by decide +kernel
theorem dJ7_fill_53178_4 : decode cJ7_fill_53178 4 = .ok (.istore_n 3, 1) := by decide +kernel
theorem dJ7_fill_53178_5 : decode cJ7_fill_53178 5 = .ok (.iload_n 2, 1) := by decide +kernel
theorem dJ7_fill_53178_6 : decode cJ7_fill_53178 6 = .ok (.iload_n 3, 1) := by decide +kernel
theorem dJ7_fill_53178_7 : decode cJ7_fill_53178 7 = .ok (.if_icmp .ge 13, 3) := by decide +kernel
theorem dJ7_fill_53178_10 : decode cJ7_fill_53178 10 = .ok (.aload_n 0, 1) := by decide +kernel
theorem dJ7_fill_53178_11 : decode cJ7_fill_53178 11 = .ok (.iload_n 2, 1) := by decide +kernel
theorem dJ7_fill_53178_12 : decode cJ7_fill_53178 12 = .ok (.iload_n 1, 1) := by decide +kernel
theorem dJ7_fill_53178_13 : decode cJ7_fill_53178 13 = .ok (.iastore, 1) := by decide +kernel
theorem dJ7_fill_53178_14 : decode cJ7_fill_53178 14 = .ok (.iinc 2 1, 3) := by decide +kernel
theorem dJ7_fill_53178_17 : decode cJ7_fill_53178 17 = .ok (.goto (-12), 3) := by decide +kernel
theorem dJ7_fill_53178_20 : decode cJ7_fill_53178 20 = .ok (.return_, 1) := by decide +kernel
