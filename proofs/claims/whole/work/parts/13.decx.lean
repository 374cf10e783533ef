theorem dX0_init_0 : decode cX0_init 0 = .ok (.aload_n 0, 1) := by decide +kernel
theorem dX0_init_1 : decode cX0_init 1 = .ok (.invokespecial 1, 3) := by decide +kernel
theorem dX0_init_4 : decode cX0_init 4 = .ok (.aload_n 0, 1) := by decide +kernel
theorem dX0_init_5 : decode cX0_init 5 = .ok (.sipush 300, 3) := by decide +kernel
theorem dX0_init_8 : decode cX0_init 8 = .ok (.newarray .long, 2) := by decide +kernel
theorem dX0_init_10 : decode cX0_init 10 = .ok (.putfield 9, 3) := by decide +kernel
theorem dX0_init_13 : decode cX0_init 13 = .ok (.aload_n 0, 1) := by decide +kernel
theorem dX0_init_14 : decode cX0_init 14 = .ok (.bipush 16, 2) := by decide +kernel
theorem dX0_init_16 : decode cX0_init 16 = .ok (.newarray .int, 2) := by decide +kernel
theorem dX0_init_18 : decode cX0_init 18 = .ok (.putfield 13, 3) := by decide +kernel
theorem dX0_init_21 : decode cX0_init 21 = .ok (.aload_n 0, 1) := by decide +kernel
theorem dX0_init_22 : decode cX0_init 22 = .ok (.iconst 0, 1) := by decide +kernel
theorem dX0_init_23 : decode cX0_init 23 = .ok (.putfield 17, 3) := by decide +kernel
theorem dX0_init_26 : decode cX0_init 26 = .ok (.aload_n 0, 1) := by decide +kernel
theorem dX0_init_27 : decode cX0_init 27 = .ok (.iconst 0, 1) := by decide +kernel
theorem dX0_init_28 : decode cX0_init 28 = .ok (.putfield 21, 3) := by decide +kernel
theorem dX0_init_31 : decode cX0_init 31 = .ok (.aload_n 0, 1) := by decide +kernel
theorem dX0_init_32 : decode cX0_init 32 = .ok (.iconst 0, 1) := by decide +kernel
theorem dX0_init_33 : decode cX0_init 33 = .ok (.putfield 24, 3) := by decide +kernel
theorem dX0_init_36 : decode cX0_init 36 = .ok (.aload_n 0, 1) := by decide +kernel
theorem dX0_init_37 : decode cX0_init 37 = .ok (.sipush 300, 3) := by decide +kernel
theorem dX0_init_40 : decode cX0_init 40 = .ok (.newarray .int, 2) := by decide +kernel
theorem dX0_init_42 : decode cX0_init 42 = .ok (.putfield 27, 3) := by decide +kernel
theorem dX0_init_45 : decode cX0_init 45 = .ok (.aload_n 0, 1) := by decide +kernel
theorem dX0_init_46 : decode cX0_init 46 = .ok (.iconst 0, 1) := by decide +kernel
theorem dX0_init_47 : decode cX0_init 47 = .ok (.putfield 30, 3) := by decide +kernel
theorem dX0_init_50 : decode cX0_init 50 = .ok (.aload_n 0, 1) := by decide +kernel
theorem dX0_init_51 : decode cX0_init 51 = .ok (.sipush 300, 3) := by decide +kernel
theorem dX0_init_54 : decode cX0_init 54 = .ok (.newarray .int, 2) := by decide +kernel
theorem dX0_init_56 : decode cX0_init 56 = .ok (.putfield 33, 3) := by decide +kernel
theorem dX0_init_59 : decode cX0_init 59 = .ok (.aload_n 0, 1) := by decide +kernel
theorem dX0_init_60 : decode cX0_init 60 = .ok (.getfield 13, 3) := by decide +kernel
theorem dX0_init_63 : decode cX0_init 63 = .ok (.iconst (-1), 1) := by decide +kernel
theorem dX0_init_64 : decode cX0_init 64 = .ok (.invokestatic 36, 3) := by decide +kernel
theorem dX0_init_67 : decode cX0_init 67 = .ok (.return_, 1) := by decide +kernel
theorem dX0_make_0 : decode cX0_make 0 = .ok (.iload_n 1, 1) := by decide +kernel
theorem dX0_make_1 : decode cX0_make 1 = .ok (.invokestatic 42, 3) := by decide +kernel
theorem dX0_make_4 : decode cX0_make 4 = .ok (.iload_n 3, 1) := by decide +kernel
theorem dX0_make_5 : decode cX0_make 5 = .ok (.bipush 41, 2) := by decide +kernel
theorem dX0_make_7 : decode cX0_make 7 = .ok (.invokestatic 46, 3) := by decide +kernel
theorem dX0_make_10 : decode cX0_make 10 = .ok (.aload_n 0, 1) := by decide +kernel
theorem dX0_make_11 : decode cX0_make 11 = .ok (.iload_n 2, 1) := by decide +kernel
theorem dX0_make_12 : decode cX0_make 12 = .ok (.ifCond .eq 7, 3) := by decide +kernel
theorem dX0_make_15 : decode cX0_make 15 = .ok (.iconst 1, 1) := by decide +kernel
theorem dX0_make_16 : decode cX0_make 16 = .ok (.goto 4, 3) := by decide +kernel
theorem dX0_make_19 : decode cX0_make 19 = .ok (.iconst 2, 1) := by decide +kernel
theorem dX0_make_20 : decode cX0_make 20 = .ok (.iload_n 3, 1) := by decide +kernel
theorem dX0_make_21 : decode cX0_make 21 = .ok (.invokevirtual 50, 3) := by decide +kernel
theorem dX0_make_24 : decode cX0_make 24 = .ok (.istore 4, 2) := by decide +kernel
theorem dX0_make_26 : decode cX0_make 26 = .ok (.iload_n 2, 1) := by decide +kernel
theorem dX0_make_27 : decode cX0_make 27 = .ok (.ifCond .eq 9, 3) := by decide +kernel
theorem dX0_make_30 : decode cX0_make 30 = .ok (.ldc2_w 54, 3) := by decide +kernel
theorem dX0_make_33 : decode cX0_make 33 = .ok (.goto 4, 3) := by decide +kernel
theorem dX0_make_36 : decode cX0_make 36 = .ok (.lconst 0, 1) := by decide +kernel
theorem dX0_make_37 : decode cX0_make 37 = .ok (.lstore 5, 2) := by decide +kernel
theorem dX0_make_39 : decode cX0_make 39 = .ok (.iconst 0, 1) := by decide +kernel
theorem dX0_make_40 : decode cX0_make 40 = .ok (.istore 7, 2) := by decide +kernel
theorem dX0_make_42 : decode cX0_make 42 = .ok (.iload 7, 2) := by decide +kernel
theorem dX0_make_44 : decode cX0_make 44 = .ok (.iload_n 3, 1) := by decide +kernel
theorem dX0_make_45 : decode cX0_make 45 = .ok (.if_icmp .ge 23, 3) := by decide +kernel
theorem dX0_make_48 : decode cX0_make 48 = .ok (.aload_n 0, 1) := by decide +kernel
theorem dX0_make_49 : decode cX0_make 49 = .ok (.getfield 9, 3) := by decide +kernel
theorem dX0_make_52 : decode cX0_make 52 = .ok (.iload 4, 2) := by decide +kernel
theorem dX0_make_54 : decode cX0_make 54 = .ok (.iconst 1, 1) := by decide +kernel
theorem dX0_make_55 : decode cX0_make 55 = .ok (.iadd, 1) := by decide +kernel
theorem dX0_make_56 : decode cX0_make 56 = .ok (.iload 7, 2) := by decide +kernel
theorem dX0_make_58 : decode cX0_make 58 = .ok (.iadd, 1) := by decide +kernel
theorem dX0_make_59 : decode cX0_make 59 = .ok (.lload 5, 2) := by decide +kernel
theorem dX0_make_61 : decode cX0_make 61 = .ok (.lastore, 1) := by decide +kernel
theorem dX0_make_62 : decode cX0_make 62 = .ok (.iinc 7 1, 3) := by decide +kernel
theorem dX0_make_65 : decode cX0_make 65 = .ok (.goto (-23), 3) := by decide +kernel
theorem dX0_make_68 : decode cX0_make 68 = .ok (.aload_n 0, 1) := by decide +kernel
theorem dX0_make_69 : decode cX0_make 69 = .ok (.getfield 13, 3) := by decide +kernel
theorem dX0_make_72 : decode cX0_make 72 = .ok (.iload_n 1, 1) := by decide +kernel
theorem dX0_make_73 : decode cX0_make 73 = .ok (.iload 4, 2) := by decide +kernel
theorem dX0_make_75 : decode cX0_make 75 = .ok (.iastore, 1) := by decide +kernel
theorem dX0_make_76 : decode cX0_make 76 = .ok (.iload 4, 2) := by decide +kernel
theorem dX0_make_78 : decode cX0_make 78 = .ok (.ireturn, 1) := by decide +kernel
theorem dX0_weak_0 : decode cX0_weak 0 = .ok (.iload_n 1, 1) := by decide +kernel
theorem dX0_weak_1 : decode cX0_weak 1 = .ok (.invokestatic 42, 3) := by decide +kernel
theorem dX0_weak_4 : decode cX0_weak 4 = .ok (.iload_n 2, 1) := by decide +kernel
theorem dX0_weak_5 : decode cX0_weak 5 = .ok (.invokestatic 42, 3) := by decide +kernel
theorem dX0_weak_8 : decode cX0_weak 8 = .ok (.aload_n 0, 1) := by decide +kernel
theorem dX0_weak_9 : decode cX0_weak 9 = .ok (.getfield 13, 3) := by decide +kernel
theorem dX0_weak_12 : decode cX0_weak 12 = .ok (.iload_n 2, 1) := by decide +kernel
theorem dX0_weak_13 : decode cX0_weak 13 = .ok (.iaload, 1) := by decide +kernel
theorem dX0_weak_14 : decode cX0_weak 14 = .ok (.invokestatic 56, 3) := by decide +kernel
theorem dX0_weak_17 : decode cX0_weak 17 = .ok (.aload_n 0, 1) := by decide +kernel
theorem dX0_weak_18 : decode cX0_weak 18 = .ok (.iconst 3, 1) := by decide +kernel
theorem dX0_weak_19 : decode cX0_weak 19 = .ok (.iconst 1, 1) := by decide +kernel
theorem dX0_weak_20 : decode cX0_weak 20 = .ok (.invokevirtual 50, 3) := by decide +kernel
theorem dX0_weak_23 : decode cX0_weak 23 = .ok (.istore_n 3, 1) := by decide +kernel
theorem dX0_weak_24 : decode cX0_weak 24 = .ok (.aload_n 0, 1) := by decide +kernel
theorem dX0_weak_25 : decode cX0_weak 25 = .ok (.getfield 9, 3) := by decide +kernel
theorem dX0_weak_28 : decode cX0_weak 28 = .ok (.iload_n 3, 1) := by decide +kernel
theorem dX0_weak_29 : decode cX0_weak 29 = .ok (.iconst 1, 1) := by decide +kernel
theorem dX0_weak_30 : decode cX0_weak 30 = .ok (.iadd, 1) := by decide +kernel
theorem dX0_weak_31 : decode cX0_weak 31 = .ok (.aload_n 0, 1) := by decide +kernel
theorem dX0_weak_32 : decode cX0_weak 32 = .ok (.getfield 13, 3) := by decide +kernel
theorem dX0_weak_35 : decode cX0_weak 35 = .ok (.iload_n 2, 1) := by decide +kernel
theorem dX0_weak_36 : decode cX0_weak 36 = .ok (.iaload, 1) := by decide +kernel
theorem dX0_weak_37 : decode cX0_weak 37 = .ok (.i2l, 1) := by decide +kernel
theorem dX0_weak_38 : decode cX0_weak 38 = .ok (.lastore, 1) := by decide +kernel
theorem dX0_weak_39 : decode cX0_weak 39 = .ok (.aload_n 0, 1) := by decide +kernel
theorem dX0_weak_40 : decode cX0_weak 40 = .ok (.getfield 13, 3) := by decide +kernel
theorem dX0_weak_43 : decode cX0_weak 43 = .ok (.iload_n 1, 1) := by decide +kernel
theorem dX0_weak_44 : decode cX0_weak 44 = .ok (.iload_n 3, 1) := by decide +kernel
theorem dX0_weak_45 : decode cX0_weak 45 = .ok (.iastore, 1) := by decide +kernel
theorem dX0_weak_46 : decode cX0_weak 46 = .ok (.iload_n 3, 1) := by decide +kernel
theorem dX0_weak_47 : decode cX0_weak 47 = .ok (.ireturn, 1) := by decide +kernel
theorem dX0_copy_0 : decode cX0_copy 0 = .ok (.iload_n 1, 1) := by decide +kernel
theorem dX0_copy_1 : decode cX0_copy 1 = .ok (.invokestatic 42, 3) := by decide +kernel
theorem dX0_copy_4 : decode cX0_copy 4 = .ok (.iload_n 2, 1) := by decide +kernel
theorem dX0_copy_5 : decode cX0_copy 5 = .ok (.invokestatic 42, 3) := by decide +kernel
theorem dX0_copy_8 : decode cX0_copy 8 = .ok (.aload_n 0, 1) := by decide +kernel
theorem dX0_copy_9 : decode cX0_copy 9 = .ok (.getfield 13, 3) := by decide +kernel
theorem dX0_copy_12 : decode cX0_copy 12 = .ok (.iload_n 1, 1) := by decide +kernel
theorem dX0_copy_13 : decode cX0_copy 13 = .ok (.aload_n 0, 1) := by decide +kernel
theorem dX0_copy_14 : decode cX0_copy 14 = .ok (.getfield 13, 3) := by decide +kernel
theorem dX0_copy_17 : decode cX0_copy 17 = .ok (.iload_n 2, 1) := by decide +kernel
theorem dX0_copy_18 : decode cX0_copy 18 = .ok (.iaload, 1) := by decide +kernel
theorem dX0_copy_19 : decode cX0_copy 19 = .ok (.iastore, 1) := by decide +kernel
theorem dX0_copy_20 : decode cX0_copy 20 = .ok (.return_, 1) := by decide +kernel
theorem dX0_drop_0 : decode cX0_drop 0 = .ok (.iload_n 1, 1) := by decide +kernel
theorem dX0_drop_1 : decode cX0_drop 1 = .ok (.invokestatic 42, 3) := by decide +kernel
theorem dX0_drop_4 : decode cX0_drop 4 = .ok (.aload_n 0, 1) := by decide +kernel
theorem dX0_drop_5 : decode cX0_drop 5 = .ok (.getfield 13, 3) := by decide +kernel
theorem dX0_drop_8 : decode cX0_drop 8 = .ok (.iload_n 1, 1) := by decide +kernel
theorem dX0_drop_9 : decode cX0_drop 9 = .ok (.iconst (-1), 1) := by decide +kernel
theorem dX0_drop_10 : decode cX0_drop 10 = .ok (.iastore, 1) := by decide +kernel
theorem dX0_drop_11 : decode cX0_drop 11 = .ok (.return_, 1) := by decide +kernel
theorem dX0_link_0 : decode cX0_link 0 = .ok (.iload_n 1, 1) := by decide +kernel
theorem dX0_link_1 : decode cX0_link 1 = .ok (.invokestatic 42, 3) := by decide +kernel
theorem dX0_link_4 : decode cX0_link 4 = .ok (.iload_n 3, 1) := by decide +kernel
theorem dX0_link_5 : decode cX0_link 5 = .ok (.invokestatic 42, 3) := by decide +kernel
theorem dX0_link_8 : decode cX0_link 8 = .ok (.aload_n 0, 1) := by decide +kernel
theorem dX0_link_9 : decode cX0_link 9 = .ok (.getfield 13, 3) := by decide +kernel
theorem dX0_link_12 : decode cX0_link 12 = .ok (.iload_n 1, 1) := by decide +kernel
theorem dX0_link_13 : decode cX0_link 13 = .ok (.iaload, 1) := by decide +kernel
theorem dX0_link_14 : decode cX0_link 14 = .ok (.istore 4, 2) := by decide +kernel
theorem dX0_link_16 : decode cX0_link 16 = .ok (.iload 4, 2) := by decide +kernel
theorem dX0_link_18 : decode cX0_link 18 = .ok (.invokestatic 56, 3) := by decide +kernel
theorem dX0_link_21 : decode cX0_link 21 = .ok (.aload_n 0, 1) := by decide +kernel
theorem dX0_link_22 : decode cX0_link 22 = .ok (.iload 4, 2) := by decide +kernel
theorem dX0_link_24 : decode cX0_link 24 = .ok (.invokevirtual 59, 3) := by decide +kernel
theorem dX0_link_27 : decode cX0_link 27 = .ok (.iconst 1, 1) := by decide +kernel
theorem dX0_link_28 : decode cX0_link 28 = .ok (.if_icmp .ne 7, 3) := by decide +kernel
theorem dX0_link_31 : decode cX0_link 31 = .ok (.iconst 1, 1) := by decide +kernel
theorem dX0_link_32 : decode cX0_link 32 = .ok (.goto 4, 3) := by decide +kernel
theorem dX0_link_35 : decode cX0_link 35 = .ok (.iconst 0, 1) := by decide +kernel
theorem dX0_link_36 : decode cX0_link 36 = .ok (.invokestatic 63, 3) := by decide +kernel
theorem dX0_link_39 : decode cX0_link 39 = .ok (.iload_n 2, 1) := by decide +kernel
theorem dX0_link_40 : decode cX0_link 40 = .ok (.aload_n 0, 1) := by decide +kernel
theorem dX0_link_41 : decode cX0_link 41 = .ok (.iload 4, 2) := by decide +kernel
theorem dX0_link_43 : decode cX0_link 43 = .ok (.invokevirtual 67, 3) := by decide +kernel
theorem dX0_link_46 : decode cX0_link 46 = .ok (.invokestatic 46, 3) := by decide +kernel
theorem dX0_link_49 : decode cX0_link 49 = .ok (.aload_n 0, 1) := by decide +kernel
theorem dX0_link_50 : decode cX0_link 50 = .ok (.getfield 9, 3) := by decide +kernel
theorem dX0_link_53 : decode cX0_link 53 = .ok (.iload 4, 2) := by decide +kernel
theorem dX0_link_55 : decode cX0_link 55 = .ok (.iconst 1, 1) := by decide +kernel
theorem dX0_link_56 : decode cX0_link 56 = .ok (.iadd, 1) := by decide +kernel
theorem dX0_link_57 : decode cX0_link 57 = .ok (.iload_n 2, 1) := by decide +kernel
theorem dX0_link_58 : decode cX0_link 58 = .ok (.iadd, 1) := by decide +kernel
theorem dX0_link_59 : decode cX0_link 59 = .ok (.aload_n 0, 1) := by decide +kernel
theorem dX0_link_60 : decode cX0_link 60 = .ok (.getfield 13, 3) := by decide +kernel
theorem dX0_link_63 : decode cX0_link 63 = .ok (.iload_n 3, 1) := by decide +kernel
theorem dX0_link_64 : decode cX0_link 64 = .ok (.iaload, 1) := by decide +kernel
theorem dX0_link_65 : decode cX0_link 65 = .ok (.i2l, 1) := by decide +kernel
theorem dX0_link_66 : decode cX0_link 66 = .ok (.lastore, 1) := by decide +kernel
theorem dX0_link_67 : decode cX0_link 67 = .ok (.return_, 1) := by decide +kernel
theorem dX0_follow_0 : decode cX0_follow 0 = .ok (.iload_n 1, 1) := by decide +kernel
theorem dX0_follow_1 : decode cX0_follow 1 = .ok (.invokestatic 42, 3) := by decide +kernel
theorem dX0_follow_4 : decode cX0_follow 4 = .ok (.iload_n 2, 1) := by decide +kernel
theorem dX0_follow_5 : decode cX0_follow 5 = .ok (.invokestatic 42, 3) := by decide +kernel
theorem dX0_follow_8 : decode cX0_follow 8 = .ok (.aload_n 0, 1) := by decide +kernel
theorem dX0_follow_9 : decode cX0_follow 9 = .ok (.getfield 13, 3) := by decide +kernel
theorem dX0_follow_12 : decode cX0_follow 12 = .ok (.iload_n 2, 1) := by decide +kernel
theorem dX0_follow_13 : decode cX0_follow 13 = .ok (.iaload, 1) := by decide +kernel
theorem dX0_follow_14 : decode cX0_follow 14 = .ok (.istore 4, 2) := by decide +kernel
theorem dX0_follow_16 : decode cX0_follow 16 = .ok (.iload 4, 2) := by decide +kernel
theorem dX0_follow_18 : decode cX0_follow 18 = .ok (.invokestatic 56, 3) := by decide +kernel
theorem dX0_follow_21 : decode cX0_follow 21 = .ok (.aload_n 0, 1) := by decide +kernel
theorem dX0_follow_22 : decode cX0_follow 22 = .ok (.iload 4, 2) := by decide +kernel
theorem dX0_follow_24 : decode cX0_follow 24 = .ok (.invokevirtual 59, 3) := by decide +kernel
theorem dX0_follow_27 : decode cX0_follow 27 = .ok (.iconst 2, 1) := by decide +kernel
theorem dX0_follow_28 : decode cX0_follow 28 = .ok (.if_icmp .eq 7, 3) := by decide +kernel
theorem dX0_follow_31 : decode cX0_follow 31 = .ok (.iconst 1, 1) := by decide +kernel
theorem dX0_follow_32 : decode cX0_follow 32 = .ok (.goto 4, 3) := by decide +kernel
theorem dX0_follow_35 : decode cX0_follow 35 = .ok (.iconst 0, 1) := by decide +kernel
theorem dX0_follow_36 : decode cX0_follow 36 = .ok (.invokestatic 63, 3) := by decide +kernel
theorem dX0_follow_39 : decode cX0_follow 39 = .ok (.iload_n 3, 1) := by decide +kernel
theorem dX0_follow_40 : decode cX0_follow 40 = .ok (.aload_n 0, 1) := by decide +kernel
theorem dX0_follow_41 : decode cX0_follow 41 = .ok (.iload 4, 2) := by decide +kernel
theorem dX0_follow_43 : decode cX0_follow 43 = .ok (.invokevirtual 67, 3) := by decide +kernel
theorem dX0_follow_46 : decode cX0_follow 46 = .ok (.invokestatic 46, 3) := by decide +kernel
theorem dX0_follow_49 : decode cX0_follow 49 = .ok (.aload_n 0, 1) := by decide +kernel
theorem dX0_follow_50 : decode cX0_follow 50 = .ok (.getfield 13, 3) := by decide +kernel
theorem dX0_follow_53 : decode cX0_follow 53 = .ok (.iload_n 1, 1) := by decide +kernel
theorem dX0_follow_54 : decode cX0_follow 54 = .ok (.aload_n 0, 1) := by decide +kernel
theorem dX0_follow_55 : decode cX0_follow 55 = .ok (.getfield 9, 3) := by decide +kernel
theorem dX0_follow_58 : decode cX0_follow 58 = .ok (.iload 4, 2) := by decide +kernel
theorem dX0_follow_60 : decode cX0_follow 60 = .ok (.iconst 1, 1) := by decide +kernel
theorem dX0_follow_61 : decode cX0_follow 61 = .ok (.iadd, 1) := by decide +kernel
theorem dX0_follow_62 : decode cX0_follow 62 = .ok (.iload_n 3, 1) := by decide +kernel
theorem dX0_follow_63 : decode cX0_follow 63 = .ok (.iadd, 1) := by decide +kernel
theorem dX0_follow_64 : decode cX0_follow 64 = .ok (.laload, 1) := by decide +kernel
theorem dX0_follow_65 : decode cX0_follow 65 = .ok (.l2i, 1) := by decide +kernel
theorem dX0_follow_66 : decode cX0_follow 66 = .ok (.iastore, 1) := by decide +kernel
theorem dX0_follow_67 : decode cX0_follow 67 = .ok (.return_, 1) := by decide +kernel
theorem dX0_put_0 : decode cX0_put 0 = .ok (.aload_n 0, 1) := by decide +kernel
theorem dX0_put_1 : decode cX0_put 1 = .ok (.getfield 9, 3) := by decide +kernel
theorem dX0_put_4 : decode cX0_put 4 = .ok (.aload_n 0, 1) := by decide +kernel
theorem dX0_put_5 : decode cX0_put 5 = .ok (.iload_n 1, 1) := by decide +kernel
theorem dX0_put_6 : decode cX0_put 6 = .ok (.iload_n 2, 1) := by decide +kernel
theorem dX0_put_7 : decode cX0_put 7 = .ok (.invokevirtual 70, 3) := by decide +kernel
theorem dX0_put_10 : decode cX0_put 10 = .ok (.lload_n 3, 1) := by decide +kernel
theorem dX0_put_11 : decode cX0_put 11 = .ok (.lastore, 1) := by decide +kernel
theorem dX0_put_12 : decode cX0_put 12 = .ok (.return_, 1) := by decide +kernel
theorem dX0_get_0 : decode cX0_get 0 = .ok (.aload_n 0, 1) := by decide +kernel
theorem dX0_get_1 : decode cX0_get 1 = .ok (.getfield 9, 3) := by decide +kernel
theorem dX0_get_4 : decode cX0_get 4 = .ok (.aload_n 0, 1) := by decide +kernel
theorem dX0_get_5 : decode cX0_get 5 = .ok (.iload_n 1, 1) := by decide +kernel
theorem dX0_get_6 : decode cX0_get 6 = .ok (.iload_n 2, 1) := by decide +kernel
theorem dX0_get_7 : decode cX0_get 7 = .ok (.invokevirtual 70, 3) := by decide +kernel
theorem dX0_get_10 : decode cX0_get 10 = .ok (.laload, 1) := by decide +kernel
theorem dX0_get_11 : decode cX0_get 11 = .ok (.lreturn, 1) := by decide +kernel
theorem dX0_collect_0 : decode cX0_collect 0 = .ok (.aload_n 0, 1) := by decide +kernel
theorem dX0_collect_1 : decode cX0_collect 1 = .ok (.getfield 21, 3) := by decide +kernel
theorem dX0_collect_4 : decode cX0_collect 4 = .ok (.istore_n 1, 1) := by decide +kernel
theorem dX0_collect_5 : decode cX0_collect 5 = .ok (.aload_n 0, 1) := by decide +kernel
theorem dX0_collect_6 : decode cX0_collect 6 = .ok (.invokevirtual 73, 3) := by decide +kernel
theorem dX0_collect_9 : decode cX0_collect 9 = .ok (.iload_n 1, 1) := by decide +kernel
theorem dX0_collect_10 : decode cX0_collect 10 = .ok (.aload_n 0, 1) := by decide +kernel
theorem dX0_collect_11 : decode cX0_collect 11 = .ok (.getfield 21, 3) := by decide +kernel
theorem dX0_collect_14 : decode cX0_collect 14 = .ok (.isub, 1) := by decide +kernel
theorem dX0_collect_15 : decode cX0_collect 15 = .ok (.ireturn, 1) := by decide +kernel
theorem dX0_state_0 : decode cX0_state 0 = .ok (.iload_n 1, 1) := by decide +kernel
theorem dX0_state_1 : decode cX0_state 1 = .ok (.invokestatic 42, 3) := by decide +kernel
theorem dX0_state_4 : decode cX0_state 4 = .ok (.iload_n 2, 1) := by decide +kernel
theorem dX0_state_5 : decode cX0_state 5 = .ok (.iconst 3, 1) := by decide +kernel
theorem dX0_state_6 : decode cX0_state 6 = .ok (.invokestatic 46, 3) := by decide +kernel
theorem dX0_state_9 : decode cX0_state 9 = .ok (.aload_n 0, 1) := by decide +kernel
theorem dX0_state_10 : decode cX0_state 10 = .ok (.getfield 13, 3) := by decide +kernel
theorem dX0_state_13 : decode cX0_state 13 = .ok (.iload_n 1, 1) := by decide +kernel
theorem dX0_state_14 : decode cX0_state 14 = .ok (.iaload, 1) := by decide +kernel
theorem dX0_state_15 : decode cX0_state 15 = .ok (.istore_n 3, 1) := by decide +kernel
theorem dX0_state_16 : decode cX0_state 16 = .ok (.iload_n 2, 1) := by decide +kernel
theorem dX0_state_17 : decode cX0_state 17 = .ok (.ifCond .ne 18, 3) := by decide +kernel
theorem dX0_state_20 : decode cX0_state 20 = .ok (.iload_n 3, 1) := by decide +kernel
theorem dX0_state_21 : decode cX0_state 21 = .ok (.iconst (-1), 1) := by decide +kernel
theorem dX0_state_22 : decode cX0_state 22 = .ok (.if_icmp .ne 7, 3) := by decide +kernel
theorem dX0_state_25 : decode cX0_state 25 = .ok (.iconst 0, 1) := by decide +kernel
theorem dX0_state_26 : decode cX0_state 26 = .ok (.goto 8, 3) := by decide +kernel
theorem dX0_state_29 : decode cX0_state 29 = .ok (.aload_n 0, 1) := by decide +kernel
theorem dX0_state_30 : decode cX0_state 30 = .ok (.iload_n 3, 1) := by decide +kernel
theorem dX0_state_31 : decode cX0_state 31 = .ok (.invokevirtual 59, 3) := by decide +kernel
theorem dX0_state_34 : decode cX0_state 34 = .ok (.ireturn, 1) := by decide +kernel
theorem dX0_state_35 : decode cX0_state 35 = .ok (.iload_n 3, 1) := by decide +kernel
theorem dX0_state_36 : decode cX0_state 36 = .ok (.iconst (-1), 1) := by decide +kernel
theorem dX0_state_37 : decode cX0_state 37 = .ok (.if_icmp .ne 5, 3) := by decide +kernel
theorem dX0_state_40 : decode cX0_state 40 = .ok (.iconst (-1), 1) := by decide +kernel
theorem dX0_state_41 : decode cX0_state 41 = .ok (.ireturn, 1) := by decide +kernel
theorem dX0_state_42 : decode cX0_state 42 = .ok (.iload_n 2, 1) := by decide +kernel
theorem dX0_state_43 : decode cX0_state 43 = .ok (.iconst 1, 1) := by decide +kernel
theorem dX0_state_44 : decode cX0_state 44 = .ok (.if_icmp .ne 7, 3) := by decide +kernel
theorem dX0_state_47 : decode cX0_state 47 = .ok (.iload_n 3, 1) := by decide +kernel
theorem dX0_state_48 : decode cX0_state 48 = .ok (.goto 8, 3) := by decide +kernel
theorem dX0_state_51 : decode cX0_state 51 = .ok (.aload_n 0, 1) := by decide +kernel
theorem dX0_state_52 : decode cX0_state 52 = .ok (.iload_n 3, 1) := by decide +kernel
theorem dX0_state_53 : decode cX0_state 53 = .ok (.invokevirtual 67, 3) := by decide +kernel
theorem dX0_state_56 : decode cX0_state 56 = .ok (.ireturn, 1) := by decide +kernel
theorem dX0_count_0 : decode cX0_count 0 = .ok (.iload_n 1, 1) := by decide +kernel
theorem dX0_count_1 : decode cX0_count 1 = .ok (.tableswitch 42 0 2 #[27, 32, 37], 27) := by decide +kernel
theorem dX0_count_28 : decode cX0_count 28 = .ok (.aload_n 0, 1) := by decide +kernel
theorem dX0_count_29 : decode cX0_count 29 = .ok (.getfield 17, 3) := by decide +kernel
theorem dX0_count_32 : decode cX0_count 32 = .ok (.ireturn, 1) := by decide +kernel
theorem dX0_count_33 : decode cX0_count 33 = .ok (.aload_n 0, 1) := by decide +kernel
theorem dX0_count_34 : decode cX0_count 34 = .ok (.getfield 21, 3) := by decide +kernel
theorem dX0_count_37 : decode cX0_count 37 = .ok (.ireturn, 1) := by decide +kernel
theorem dX0_count_38 : decode cX0_count 38 = .ok (.aload_n 0, 1) := by decide +kernel
theorem dX0_count_39 : decode cX0_count 39 = .ok (.getfield 24, 3) := by decide +kernel
theorem dX0_count_42 : decode cX0_count 42 = .ok (.ireturn, 1) := by decide +kernel
theorem dX0_count_43 : decode cX0_count 43 = .ok (.iconst (-1), 1) := by decide +kernel
theorem dX0_count_44 : decode cX0_count 44 = .ok (.ireturn, 1) := by decide +kernel
theorem dX0_checkRegister_0 : decode cX0_checkRegister 0 = .ok (.iload_n 0, 1) := by decide +kernel
theorem dX0_checkRegister_1 : decode cX0_checkRegister 1 = .ok (.bipush 16, 2) := by decide +kernel
theorem dX0_checkRegister_3 : decode cX0_checkRegister 3 = .ok (.invokestatic 46, 3) := by decide +kernel
theorem dX0_checkRegister_6 : decode cX0_checkRegister 6 = .ok (.return_, 1) := by decide +kernel
theorem dX0_checkBelow_0 : decode cX0_checkBelow 0 = .ok (.iload_n 0, 1) := by decide +kernel
theorem dX0_checkBelow_1 : decode cX0_checkBelow 1 = .ok (.ifCond .lt 8, 3) := by decide +kernel
theorem dX0_checkBelow_4 : decode cX0_checkBelow 4 = .ok (.iload_n 0, 1) := by decide +kernel
theorem dX0_checkBelow_5 : decode cX0_checkBelow 5 = .ok (.iload_n 1, 1) := by decide +kernel
theorem dX0_checkBelow_6 : decode cX0_checkBelow 6 = .ok (.if_icmp .lt 13, 3) := by decide +kernel
theorem dX0_checkBelow_9 : decode cX0_checkBelow 9 = .ok (.new 76, 3) := by decide +kernel
theorem dX0_checkBelow_12 : decode cX0_checkBelow 12 = .ok (.dup, 1) := by decide +kernel
theorem dX0_checkBelow_13 : decode cX0_checkBelow 13 = .ok (.ldc 78, 2) := by decide +kernel
theorem dX0_checkBelow_15 : decode cX0_checkBelow 15 = .ok (.invokespecial 80, 3) := by decide +kernel
theorem dX0_checkBelow_18 : decode cX0_checkBelow 18 = .ok (.athrow, 1) := by decide +kernel
theorem dX0_checkBelow_19 : decode cX0_checkBelow 19 = .ok (.return_, 1) := by decide +kernel
theorem dX0_checkKind_0 : decode cX0_checkKind 0 = .ok (.iload_n 0, 1) := by decide +kernel
theorem dX0_checkKind_1 : decode cX0_checkKind 1 = .ok (.ifCond .ne 13, 3) := by decide +kernel
theorem dX0_checkKind_4 : decode cX0_checkKind 4 = .ok (.new 76, 3) := by decide +kernel
theorem dX0_checkKind_7 : decode cX0_checkKind 7 = .ok (.dup, 1) := by decide +kernel
theorem dX0_checkKind_8 : decode cX0_checkKind 8 = .ok (.ldc 83, 2) := by decide +kernel
theorem dX0_checkKind_10 : decode cX0_checkKind 10 = .ok (.invokespecial 80, 3) := by decide +kernel
theorem dX0_checkKind_13 : decode cX0_checkKind 13 = .ok (.athrow, 1) := by decide +kernel
theorem dX0_checkKind_14 : decode cX0_checkKind 14 = .ok (.return_, 1) := by decide +kernel
theorem dX0_checkNotNull_0 : decode cX0_checkNotNull 0 = .ok (.iload_n 0, 1) := by decide +kernel
theorem dX0_checkNotNull_1 : decode cX0_checkNotNull 1 = .ok (.iconst (-1), 1) := by decide +kernel
theorem dX0_checkNotNull_2 : decode cX0_checkNotNull 2 = .ok (.if_icmp .ne 13, 3) := by decide +kernel
theorem dX0_checkNotNull_5 : decode cX0_checkNotNull 5 = .ok (.new 85, 3) := by decide +kernel
theorem dX0_checkNotNull_8 : decode cX0_checkNotNull 8 = .ok (.dup, 1) := by decide +kernel
theorem dX0_checkNotNull_9 : decode cX0_checkNotNull 9 = .ok (.ldc 87, 2) := by decide +kernel
theorem dX0_checkNotNull_11 : decode cX0_checkNotNull 11 = .ok (.invokespecial 89, 3) := by decide +kernel
theorem dX0_checkNotNull_14 : decode cX0_checkNotNull 14 = .ok (.athrow, 1) := by decide +kernel
theorem dX0_checkNotNull_15 : decode cX0_checkNotNull 15 = .ok (.return_, 1) := by decide +kernel
theorem dX0_numberCell_0 : decode cX0_numberCell 0 = .ok (.iload_n 1, 1) := by decide +kernel
theorem dX0_numberCell_1 : decode cX0_numberCell 1 = .ok (.invokestatic 42, 3) := by decide +kernel
theorem dX0_numberCell_4 : decode cX0_numberCell 4 = .ok (.aload_n 0, 1) := by decide +kernel
theorem dX0_numberCell_5 : decode cX0_numberCell 5 = .ok (.getfield 13, 3) := by decide +kernel
theorem dX0_numberCell_8 : decode cX0_numberCell 8 = .ok (.iload_n 1, 1) := by decide +kernel
theorem dX0_numberCell_9 : decode cX0_numberCell 9 = .ok (.iaload, 1) := by decide +kernel
theorem dX0_numberCell_10 : decode cX0_numberCell 10 = .ok (.istore_n 3, 1) := by decide +kernel
theorem dX0_numberCell_11 : decode cX0_numberCell 11 = .ok (.iload_n 3, 1) := by decide +kernel
theorem dX0_numberCell_12 : decode cX0_numberCell 12 = .ok (.invokestatic 56, 3) := by decide +kernel
theorem dX0_numberCell_15 : decode cX0_numberCell 15 = .ok (.aload_n 0, 1) := by decide +kernel
theorem dX0_numberCell_16 : decode cX0_numberCell 16 = .ok (.iload_n 3, 1) := by decide +kernel
theorem dX0_numberCell_17 : decode cX0_numberCell 17 = .ok (.invokevirtual 59, 3) := by decide +kernel
theorem dX0_numberCell_20 : decode cX0_numberCell 20 = .ok (.iconst 2, 1) := by decide +kernel
theorem dX0_numberCell_21 : decode cX0_numberCell 21 = .ok (.if_icmp .ne 7, 3) := by decide +kernel
theorem dX0_numberCell_24 : decode cX0_numberCell 24 = .ok (.iconst 1, 1) := by decide +kernel
theorem dX0_numberCell_25 : decode cX0_numberCell 25 = .ok (.goto 4, 3) := by decide +kernel
theorem dX0_numberCell_28 : decode cX0_numberCell 28 = .ok (.iconst 0, 1) := by decide +kernel
theorem dX0_numberCell_29 : decode cX0_numberCell 29 = .ok (.invokestatic 63, 3) := by decide +kernel
theorem dX0_numberCell_32 : decode cX0_numberCell 32 = .ok (.iload_n 2, 1) := by decide +kernel
theorem dX0_numberCell_33 : decode cX0_numberCell 33 = .ok (.aload_n 0, 1) := by decide +kernel
theorem dX0_numberCell_34 : decode cX0_numberCell 34 = .ok (.iload_n 3, 1) := by decide +kernel
theorem dX0_numberCell_35 : decode cX0_numberCell 35 = .ok (.invokevirtual 67, 3) := by decide +kernel
theorem dX0_numberCell_38 : decode cX0_numberCell 38 = .ok (.invokestatic 46, 3) := by decide +kernel
theorem dX0_numberCell_41 : decode cX0_numberCell 41 = .ok (.iload_n 3, 1) := by decide +kernel
theorem dX0_numberCell_42 : decode cX0_numberCell 42 = .ok (.iconst 1, 1) := by decide +kernel
theorem dX0_numberCell_43 : decode cX0_numberCell 43 = .ok (.iadd, 1) := by decide +kernel
theorem dX0_numberCell_44 : decode cX0_numberCell 44 = .ok (.iload_n 2, 1) := by decide +kernel
theorem dX0_numberCell_45 : decode cX0_numberCell 45 = .ok (.iadd, 1) := by decide +kernel
theorem dX0_numberCell_46 : decode cX0_numberCell 46 = .ok (.ireturn, 1) := by decide +kernel
theorem dX0_kindAt_0 : decode cX0_kindAt 0 = .ok (.aload_n 0, 1) := by decide +kernel
theorem dX0_kindAt_1 : decode cX0_kindAt 1 = .ok (.getfield 9, 3) := by decide +kernel
theorem dX0_kindAt_4 : decode cX0_kindAt 4 = .ok (.iload_n 1, 1) := by decide +kernel
theorem dX0_kindAt_5 : decode cX0_kindAt 5 = .ok (.laload, 1) := by decide +kernel
theorem dX0_kindAt_6 : decode cX0_kindAt 6 = .ok (.l2i, 1) := by decide +kernel
theorem dX0_kindAt_7 : decode cX0_kindAt 7 = .ok (.iconst 3, 1) := by decide +kernel
theorem dX0_kindAt_8 : decode cX0_kindAt 8 = .ok (.iand, 1) := by decide +kernel
theorem dX0_kindAt_9 : decode cX0_kindAt 9 = .ok (.ireturn, 1) := by decide +kernel
theorem dX0_lengthAt_0 : decode cX0_lengthAt 0 = .ok (.aload_n 0, 1) := by decide +kernel
theorem dX0_lengthAt_1 : decode cX0_lengthAt 1 = .ok (.getfield 9, 3) := by decide +kernel
theorem dX0_lengthAt_4 : decode cX0_lengthAt 4 = .ok (.iload_n 1, 1) := by decide +kernel
theorem dX0_lengthAt_5 : decode cX0_lengthAt 5 = .ok (.laload, 1) := by decide +kernel
theorem dX0_lengthAt_6 : decode cX0_lengthAt 6 = .ok (.l2i, 1) := by decide +kernel
theorem dX0_lengthAt_7 : decode cX0_lengthAt 7 = .ok (.iconst 2, 1) := by decide +kernel
theorem dX0_lengthAt_8 : decode cX0_lengthAt 8 = .ok (.ishr, 1) := by decide +kernel
theorem dX0_lengthAt_9 : decode cX0_lengthAt 9 = .ok (.ireturn, 1) := by decide +kernel
theorem dX0_sizeAt_0 : decode cX0_sizeAt 0 = .ok (.iconst 1, 1) := by decide +kernel
theorem dX0_sizeAt_1 : decode cX0_sizeAt 1 = .ok (.aload_n 0, 1) := by decide +kernel
theorem dX0_sizeAt_2 : decode cX0_sizeAt 2 = .ok (.iload_n 1, 1) := by decide +kernel
theorem dX0_sizeAt_3 : decode cX0_sizeAt 3 = .ok (.invokevirtual 67, 3) := by decide +kernel
theorem dX0_sizeAt_6 : decode cX0_sizeAt 6 = .ok (.iadd, 1) := by decide +kernel
theorem dX0_sizeAt_7 : decode cX0_sizeAt 7 = .ok (.ireturn, 1) := by decide +kernel
theorem dX0_takeCells_0 : decode cX0_takeCells 0 = .ok (.aload_n 0, 1) := by decide +kernel
theorem dX0_takeCells_1 : decode cX0_takeCells 1 = .ok (.iload_n 2, 1) := by decide +kernel
theorem dX0_takeCells_2 : decode cX0_takeCells 2 = .ok (.invokevirtual 90, 3) := by decide +kernel
theorem dX0_takeCells_5 : decode cX0_takeCells 5 = .ok (.ifCond .ne 7, 3) := by decide +kernel
theorem dX0_takeCells_8 : decode cX0_takeCells 8 = .ok (.aload_n 0, 1) := by decide +kernel
theorem dX0_takeCells_9 : decode cX0_takeCells 9 = .ok (.invokevirtual 73, 3) := by decide +kernel
theorem dX0_takeCells_12 : decode cX0_takeCells 12 = .ok (.aload_n 0, 1) := by decide +kernel
theorem dX0_takeCells_13 : decode cX0_takeCells 13 = .ok (.iload_n 2, 1) := by decide +kernel
theorem dX0_takeCells_14 : decode cX0_takeCells 14 = .ok (.invokevirtual 90, 3) := by decide +kernel
theorem dX0_takeCells_17 : decode cX0_takeCells 17 = .ok (.ifCond .ne 13, 3) := by decide +kernel
theorem dX0_takeCells_20 : decode cX0_takeCells 20 = .ok (.new 94, 3) := by decide +kernel
theorem dX0_takeCells_23 : decode cX0_takeCells 23 = .ok (.dup, 1) := by decide +kernel
theorem dX0_takeCells_24 : decode cX0_takeCells 24 = .ok (.ldc 96, 2) := by decide +kernel
theorem dX0_takeCells_26 : decode cX0_takeCells 26 = .ok (.invokespecial 98, 3) := by decide +kernel
theorem dX0_takeCells_29 : decode cX0_takeCells 29 = .ok (.athrow, 1) := by decide +kernel
theorem dX0_takeCells_30 : decode cX0_takeCells 30 = .ok (.aload_n 0, 1) := by decide +kernel
theorem dX0_takeCells_31 : decode cX0_takeCells 31 = .ok (.getfield 17, 3) := by decide +kernel
theorem dX0_takeCells_34 : decode cX0_takeCells 34 = .ok (.istore_n 3, 1) := by decide +kernel
theorem dX0_takeCells_35 : decode cX0_takeCells 35 = .ok (.aload_n 0, 1) := by decide +kernel
theorem dX0_takeCells_36 : decode cX0_takeCells 36 = .ok (.getfield 9, 3) := by decide +kernel
theorem dX0_takeCells_39 : decode cX0_takeCells 39 = .ok (.iload_n 3, 1) := by decide +kernel
theorem dX0_takeCells_40 : decode cX0_takeCells 40 = .ok (.iload_n 2, 1) := by decide +kernel
theorem dX0_takeCells_41 : decode cX0_takeCells 41 = .ok (.iconst 2, 1) := by decide +kernel
theorem dX0_takeCells_42 : decode cX0_takeCells 42 = .ok (.ishl, 1) := by decide +kernel
theorem dX0_takeCells_43 : decode cX0_takeCells 43 = .ok (.iload_n 1, 1) := by decide +kernel
theorem dX0_takeCells_44 : decode cX0_takeCells 44 = .ok (.ior, 1) := by decide +kernel
theorem dX0_takeCells_45 : decode cX0_takeCells 45 = .ok (.i2l, 1) := by decide +kernel
theorem dX0_takeCells_46 : decode cX0_takeCells 46 = .ok (.lastore, 1) := by decide +kernel
theorem dX0_takeCells_47 : decode cX0_takeCells 47 = .ok (.aload_n 0, 1) := by decide +kernel
theorem dX0_takeCells_48 : decode cX0_takeCells 48 = .ok (.dup, 1) := by decide +kernel
theorem dX0_takeCells_49 : decode cX0_takeCells 49 = .ok (.getfield 17, 3) := by decide +kernel
theorem dX0_takeCells_52 : decode cX0_takeCells 52 = .ok (.iconst 1, 1) := by decide +kernel
theorem dX0_takeCells_53 : decode cX0_takeCells 53 = .ok (.iload_n 2, 1) := by decide +kernel
theorem dX0_takeCells_54 : decode cX0_takeCells 54 = .ok (.iadd, 1) := by decide +kernel
theorem dX0_takeCells_55 : decode cX0_takeCells 55 = .ok (.iadd, 1) := by decide +kernel
theorem dX0_takeCells_56 : decode cX0_takeCells 56 = .ok (.putfield 17, 3) := by decide +kernel
theorem dX0_takeCells_59 : decode cX0_takeCells 59 = .ok (.aload_n 0, 1) := by decide +kernel
theorem dX0_takeCells_60 : decode cX0_takeCells 60 = .ok (.dup, 1) := by decide +kernel
theorem dX0_takeCells_61 : decode cX0_takeCells 61 = .ok (.getfield 21, 3) := by decide +kernel
theorem dX0_takeCells_64 : decode cX0_takeCells 64 = .ok (.iconst 1, 1) := by decide +kernel
theorem dX0_takeCells_65 : decode cX0_takeCells 65 = .ok (.iadd, 1) := by decide +kernel
theorem dX0_takeCells_66 : decode cX0_takeCells 66 = .ok (.putfield 21, 3) := by decide +kernel
theorem dX0_takeCells_69 : decode cX0_takeCells 69 = .ok (.iload_n 3, 1) := by decide +kernel
theorem dX0_takeCells_70 : decode cX0_takeCells 70 = .ok (.ireturn, 1) := by decide +kernel
theorem dX0_hasRoom_0 : decode cX0_hasRoom 0 = .ok (.aload_n 0, 1) := by decide +kernel
theorem dX0_hasRoom_1 : decode cX0_hasRoom 1 = .ok (.getfield 17, 3) := by decide +kernel
theorem dX0_hasRoom_4 : decode cX0_hasRoom 4 = .ok (.iconst 1, 1) := by decide +kernel
theorem dX0_hasRoom_5 : decode cX0_hasRoom 5 = .ok (.iadd, 1) := by decide +kernel
theorem dX0_hasRoom_6 : decode cX0_hasRoom 6 = .ok (.iload_n 1, 1) := by decide +kernel
theorem dX0_hasRoom_7 : decode cX0_hasRoom 7 = .ok (.iadd, 1) := by decide +kernel
theorem dX0_hasRoom_8 : decode cX0_hasRoom 8 = .ok (.sipush 300, 3) := by decide +kernel
theorem dX0_hasRoom_11 : decode cX0_hasRoom 11 = .ok (.if_icmp .gt 7, 3) := by decide +kernel
theorem dX0_hasRoom_14 : decode cX0_hasRoom 14 = .ok (.iconst 1, 1) := by decide +kernel
theorem dX0_hasRoom_15 : decode cX0_hasRoom 15 = .ok (.goto 4, 3) := by decide +kernel
theorem dX0_hasRoom_18 : decode cX0_hasRoom 18 = .ok (.iconst 0, 1) := by decide +kernel
theorem dX0_hasRoom_19 : decode cX0_hasRoom 19 = .ok (.ireturn, 1) := by decide +kernel
theorem dX0_pressTogether_0 : decode cX0_pressTogether 0 = .ok (.aload_n 0, 1) := by decide +kernel
theorem dX0_pressTogether_1 : decode cX0_pressTogether 1 = .ok (.dup, 1) := by decide +kernel
theorem dX0_pressTogether_2 : decode cX0_pressTogether 2 = .ok (.getfield 24, 3) := by decide +kernel
theorem dX0_pressTogether_5 : decode cX0_pressTogether 5 = .ok (.iconst 1, 1) := by decide +kernel
theorem dX0_pressTogether_6 : decode cX0_pressTogether 6 = .ok (.iadd, 1) := by decide +kernel
theorem dX0_pressTogether_7 : decode cX0_pressTogether 7 = .ok (.putfield 24, 3) := by decide +kernel
theorem dX0_pressTogether_10 : decode cX0_pressTogether 10 = .ok (.aload_n 0, 1) := by decide +kernel
theorem dX0_pressTogether_11 : decode cX0_pressTogether 11 = .ok (.invokevirtual 99, 3) := by decide +kernel
theorem dX0_pressTogether_14 : decode cX0_pressTogether 14 = .ok (.aload_n 0, 1) := by decide +kernel
theorem dX0_pressTogether_15 : decode cX0_pressTogether 15 = .ok (.invokevirtual 102, 3) := by decide +kernel
theorem dX0_pressTogether_18 : decode cX0_pressTogether 18 = .ok (.istore_n 1, 1) := by decide +kernel
theorem dX0_pressTogether_19 : decode cX0_pressTogether 19 = .ok (.aload_n 0, 1) := by decide +kernel
theorem dX0_pressTogether_20 : decode cX0_pressTogether 20 = .ok (.invokevirtual 106, 3) := by decide +kernel
theorem dX0_pressTogether_23 : decode cX0_pressTogether 23 = .ok (.aload_n 0, 1) := by decide +kernel
theorem dX0_pressTogether_24 : decode cX0_pressTogether 24 = .ok (.invokevirtual 109, 3) := by decide +kernel
theorem dX0_pressTogether_27 : decode cX0_pressTogether 27 = .ok (.aload_n 0, 1) := by decide +kernel
theorem dX0_pressTogether_28 : decode cX0_pressTogether 28 = .ok (.invokevirtual 112, 3) := by decide +kernel
theorem dX0_pressTogether_31 : decode cX0_pressTogether 31 = .ok (.aload_n 0, 1) := by decide +kernel
theorem dX0_pressTogether_32 : decode cX0_pressTogether 32 = .ok (.iload_n 1, 1) := by decide +kernel
theorem dX0_pressTogether_33 : decode cX0_pressTogether 33 = .ok (.putfield 17, 3) := by decide +kernel
theorem dX0_pressTogether_36 : decode cX0_pressTogether 36 = .ok (.aload_n 0, 1) := by decide +kernel
theorem dX0_pressTogether_37 : decode cX0_pressTogether 37 = .ok (.aload_n 0, 1) := by decide +kernel
theorem dX0_pressTogether_38 : decode cX0_pressTogether 38 = .ok (.getfield 30, 3) := by decide +kernel
theorem dX0_pressTogether_41 : decode cX0_pressTogether 41 = .ok (.putfield 21, 3) := by decide +kernel
theorem dX0_pressTogether_44 : decode cX0_pressTogether 44 = .ok (.return_, 1) := by decide +kernel
theorem dX0_findReached_0 : decode cX0_findReached 0 = .ok (.aload_n 0, 1) := by decide +kernel
theorem dX0_findReached_1 : decode cX0_findReached 1 = .ok (.getfield 33, 3) := by decide +kernel
theorem dX0_findReached_4 : decode cX0_findReached 4 = .ok (.iconst (-1), 1) := by decide +kernel
theorem dX0_findReached_5 : decode cX0_findReached 5 = .ok (.invokestatic 36, 3) := by decide +kernel
theorem dX0_findReached_8 : decode cX0_findReached 8 = .ok (.aload_n 0, 1) := by decide +kernel
theorem dX0_findReached_9 : decode cX0_findReached 9 = .ok (.iconst 0, 1) := by decide +kernel
theorem dX0_findReached_10 : decode cX0_findReached 10 = .ok (.putfield 30, 3) := by decide +kernel
theorem dX0_findReached_13 : decode cX0_findReached 13 = .ok (.iconst 0, 1) := by decide +kernel
theorem dX0_findReached_14 : decode cX0_findReached 14 = .ok (.istore_n 1, 1) := by decide +kernel
theorem dX0_findReached_15 : decode cX0_findReached 15 = .ok (.iload_n 1, 1) := by decide +kernel
theorem dX0_findReached_16 : decode cX0_findReached 16 = .ok (.bipush 16, 2) := by decide +kernel
theorem dX0_findReached_18 : decode cX0_findReached 18 = .ok (.if_icmp .ge 19, 3) := by decide +kernel
theorem dX0_findReached_21 : decode cX0_findReached 21 = .ok (.aload_n 0, 1) := by decide +kernel
theorem dX0_findReached_22 : decode cX0_findReached 22 = .ok (.aload_n 0, 1) := by decide +kernel
theorem dX0_findReached_23 : decode cX0_findReached 23 = .ok (.getfield 13, 3) := by decide +kernel
theorem dX0_findReached_26 : decode cX0_findReached 26 = .ok (.iload_n 1, 1) := by decide +kernel
theorem dX0_findReached_27 : decode cX0_findReached 27 = .ok (.iaload, 1) := by decide +kernel
theorem dX0_findReached_28 : decode cX0_findReached 28 = .ok (.invokevirtual 115, 3) := by decide +kernel
theorem dX0_findReached_31 : decode cX0_findReached 31 = .ok (.iinc 1 1, 3) := by decide +kernel
theorem dX0_findReached_34 : decode cX0_findReached 34 = .ok (.goto (-19), 3) := by decide +kernel
theorem dX0_findReached_37 : decode cX0_findReached 37 = .ok (.iconst 0, 1) := by decide +kernel
theorem dX0_findReached_38 : decode cX0_findReached 38 = .ok (.istore_n 1, 1) := by decide +kernel
theorem dX0_findReached_39 : decode cX0_findReached 39 = .ok (.iload_n 1, 1) := by decide +kernel
theorem dX0_findReached_40 : decode cX0_findReached 40 = .ok (.sipush 300, 3) := by decide +kernel
theorem dX0_findReached_43 : decode cX0_findReached 43 = .ok (.if_icmp .ge 41, 3) := by decide +kernel
theorem dX0_findReached_46 : decode cX0_findReached 46 = .ok (.iload_n 1, 1) := by decide +kernel
theorem dX0_findReached_47 : decode cX0_findReached 47 = .ok (.aload_n 0, 1) := by decide +kernel
theorem dX0_findReached_48 : decode cX0_findReached 48 = .ok (.getfield 30, 3) := by decide +kernel
theorem dX0_findReached_51 : decode cX0_findReached 51 = .ok (.if_icmp .ge 33, 3) := by decide +kernel
theorem dX0_findReached_54 : decode cX0_findReached 54 = .ok (.aload_n 0, 1) := by decide +kernel
theorem dX0_findReached_55 : decode cX0_findReached 55 = .ok (.aload_n 0, 1) := by decide +kernel
theorem dX0_findReached_56 : decode cX0_findReached 56 = .ok (.getfield 27, 3) := by decide +kernel
theorem dX0_findReached_59 : decode cX0_findReached 59 = .ok (.iload_n 1, 1) := by decide +kernel
theorem dX0_findReached_60 : decode cX0_findReached 60 = .ok (.iaload, 1) := by decide +kernel
theorem dX0_findReached_61 : decode cX0_findReached 61 = .ok (.invokevirtual 59, 3) := by decide +kernel
theorem dX0_findReached_64 : decode cX0_findReached 64 = .ok (.iconst 1, 1) := by decide +kernel
theorem dX0_findReached_65 : decode cX0_findReached 65 = .ok (.if_icmp .ne 13, 3) := by decide +kernel
theorem dX0_findReached_68 : decode cX0_findReached 68 = .ok (.aload_n 0, 1) := by decide +kernel
theorem dX0_findReached_69 : decode cX0_findReached 69 = .ok (.aload_n 0, 1) := by decide +kernel
theorem dX0_findReached_70 : decode cX0_findReached 70 = .ok (.getfield 27, 3) := by decide +kernel
theorem dX0_findReached_73 : decode cX0_findReached 73 = .ok (.iload_n 1, 1) := by decide +kernel
theorem dX0_findReached_74 : decode cX0_findReached 74 = .ok (.iaload, 1) := by decide +kernel
theorem dX0_findReached_75 : decode cX0_findReached 75 = .ok (.invokevirtual 118, 3) := by decide +kernel
theorem dX0_findReached_78 : decode cX0_findReached 78 = .ok (.iinc 1 1, 3) := by decide +kernel
theorem dX0_findReached_81 : decode cX0_findReached 81 = .ok (.goto (-42), 3) := by decide +kernel
theorem dX0_findReached_84 : decode cX0_findReached 84 = .ok (.return_, 1) := by decide +kernel
theorem dX0_noteContents_0 : decode cX0_noteContents 0 = .ok (.iload_n 1, 1) := by decide +kernel
theorem dX0_noteContents_1 : decode cX0_noteContents 1 = .ok (.aload_n 0, 1) := by decide +kernel
theorem dX0_noteContents_2 : decode cX0_noteContents 2 = .ok (.iload_n 1, 1) := by decide +kernel
theorem dX0_noteContents_3 : decode cX0_noteContents 3 = .ok (.invokevirtual 121, 3) := by decide +kernel
theorem dX0_noteContents_6 : decode cX0_noteContents 6 = .ok (.iadd, 1) := by decide +kernel
theorem dX0_noteContents_7 : decode cX0_noteContents 7 = .ok (.istore_n 2, 1) := by decide +kernel
theorem dX0_noteContents_8 : decode cX0_noteContents 8 = .ok (.iload_n 1, 1) := by decide +kernel
theorem dX0_noteContents_9 : decode cX0_noteContents 9 = .ok (.iconst 1, 1) := by decide +kernel
theorem dX0_noteContents_10 : decode cX0_noteContents 10 = .ok (.iadd, 1) := by decide +kernel
theorem dX0_noteContents_11 : decode cX0_noteContents 11 = .ok (.istore_n 3, 1) := by decide +kernel
theorem dX0_noteContents_12 : decode cX0_noteContents 12 = .ok (.iload_n 3, 1) := by decide +kernel
theorem dX0_noteContents_13 : decode cX0_noteContents 13 = .ok (.iload_n 2, 1) := by decide +kernel
theorem dX0_noteContents_14 : decode cX0_noteContents 14 = .ok (.if_icmp .ge 20, 3) := by decide +kernel
theorem dX0_noteContents_17 : decode cX0_noteContents 17 = .ok (.aload_n 0, 1) := by decide +kernel
theorem dX0_noteContents_18 : decode cX0_noteContents 18 = .ok (.aload_n 0, 1) := by decide +kernel
theorem dX0_noteContents_19 : decode cX0_noteContents 19 = .ok (.getfield 9, 3) := by decide +kernel
theorem dX0_noteContents_22 : decode cX0_noteContents 22 = .ok (.iload_n 3, 1) := by decide +kernel
theorem dX0_noteContents_23 : decode cX0_noteContents 23 = .ok (.laload, 1) := by decide +kernel
theorem dX0_noteContents_24 : decode cX0_noteContents 24 = .ok (.l2i, 1) := by decide +kernel
theorem dX0_noteContents_25 : decode cX0_noteContents 25 = .ok (.invokevirtual 115, 3) := by decide +kernel
theorem dX0_noteContents_28 : decode cX0_noteContents 28 = .ok (.iinc 3 1, 3) := by decide +kernel
theorem dX0_noteContents_31 : decode cX0_noteContents 31 = .ok (.goto (-19), 3) := by decide +kernel
theorem dX0_noteContents_34 : decode cX0_noteContents 34 = .ok (.return_, 1) := by decide +kernel
theorem dX0_noteReached_0 : decode cX0_noteReached 0 = .ok (.iload_n 1, 1) := by decide +kernel
theorem dX0_noteReached_1 : decode cX0_noteReached 1 = .ok (.iconst (-1), 1) := by decide +kernel
theorem dX0_noteReached_2 : decode cX0_noteReached 2 = .ok (.if_icmp .eq 40, 3) := by decide +kernel
theorem dX0_noteReached_5 : decode cX0_noteReached 5 = .ok (.aload_n 0, 1) := by decide +kernel
theorem dX0_noteReached_6 : decode cX0_noteReached 6 = .ok (.getfield 33, 3) := by decide +kernel
theorem dX0_noteReached_9 : decode cX0_noteReached 9 = .ok (.iload_n 1, 1) := by decide +kernel
theorem dX0_noteReached_10 : decode cX0_noteReached 10 = .ok (.iaload, 1) := by decide +kernel
theorem dX0_noteReached_11 : decode cX0_noteReached 11 = .ok (.iconst (-1), 1) := by decide +kernel
theorem dX0_noteReached_12 : decode cX0_noteReached 12 = .ok (.if_icmp .ne 30, 3) := by decide +kernel
theorem dX0_noteReached_15 : decode cX0_noteReached 15 = .ok (.aload_n 0, 1) := by decide +kernel
theorem dX0_noteReached_16 : decode cX0_noteReached 16 = .ok (.getfield 33, 3) := by decide +kernel
theorem dX0_noteReached_19 : decode cX0_noteReached 19 = .ok (.iload_n 1, 1) := by decide +kernel
theorem dX0_noteReached_20 : decode cX0_noteReached 20 = .ok (.iload_n 1, 1) := by decide +kernel
theorem dX0_noteReached_21 : decode cX0_noteReached 21 = .ok (.iastore, 1) := by decide +kernel
theorem dX0_noteReached_22 : decode cX0_noteReached 22 = .ok (.aload_n 0, 1) := by decide +kernel
theorem dX0_noteReached_23 : decode cX0_noteReached 23 = .ok (.getfield 27, 3) := by decide +kernel
theorem dX0_noteReached_26 : decode cX0_noteReached 26 = .ok (.aload_n 0, 1) := by decide +kernel
theorem dX0_noteReached_27 : decode cX0_noteReached 27 = .ok (.getfield 30, 3) := by decide +kernel
theorem dX0_noteReached_30 : decode cX0_noteReached 30 = .ok (.iload_n 1, 1) := by decide +kernel
theorem dX0_noteReached_31 : decode cX0_noteReached 31 = .ok (.iastore, 1) := by decide +kernel
theorem dX0_noteReached_32 : decode cX0_noteReached 32 = .ok (.aload_n 0, 1) := by decide +kernel
theorem dX0_noteReached_33 : decode cX0_noteReached 33 = .ok (.dup, 1) := by decide +kernel
theorem dX0_noteReached_34 : decode cX0_noteReached 34 = .ok (.getfield 30, 3) := by decide +kernel
theorem dX0_noteReached_37 : decode cX0_noteReached 37 = .ok (.iconst 1, 1) := by decide +kernel
theorem dX0_noteReached_38 : decode cX0_noteReached 38 = .ok (.iadd, 1) := by decide +kernel
theorem dX0_noteReached_39 : decode cX0_noteReached 39 = .ok (.putfield 30, 3) := by decide +kernel
theorem dX0_noteReached_42 : decode cX0_noteReached 42 = .ok (.return_, 1) := by decide +kernel
theorem dX0_planNewPlaces_0 : decode cX0_planNewPlaces 0 = .ok (.iconst 0, 1) := by decide +kernel
theorem dX0_planNewPlaces_1 : decode cX0_planNewPlaces 1 = .ok (.istore_n 1, 1) := by decide +kernel
theorem dX0_planNewPlaces_2 : decode cX0_planNewPlaces 2 = .ok (.iconst 0, 1) := by decide +kernel
theorem dX0_planNewPlaces_3 : decode cX0_planNewPlaces 3 = .ok (.istore_n 2, 1) := by decide +kernel
theorem dX0_planNewPlaces_4 : decode cX0_planNewPlaces 4 = .ok (.iconst 0, 1) := by decide +kernel
theorem dX0_planNewPlaces_5 : decode cX0_planNewPlaces 5 = .ok (.istore_n 3, 1) := by decide +kernel
theorem dX0_planNewPlaces_6 : decode cX0_planNewPlaces 6 = .ok (.iload_n 3, 1) := by decide +kernel
theorem dX0_planNewPlaces_7 : decode cX0_planNewPlaces 7 = .ok (.aload_n 0, 1) := by decide +kernel
theorem dX0_planNewPlaces_8 : decode cX0_planNewPlaces 8 = .ok (.getfield 21, 3) := by decide +kernel
theorem dX0_planNewPlaces_11 : decode cX0_planNewPlaces 11 = .ok (.if_icmp .ge 43, 3) := by decide +kernel
theorem dX0_planNewPlaces_14 : decode cX0_planNewPlaces 14 = .ok (.aload_n 0, 1) := by decide +kernel
theorem dX0_planNewPlaces_15 : decode cX0_planNewPlaces 15 = .ok (.iload_n 1, 1) := by decide +kernel
theorem dX0_planNewPlaces_16 : decode cX0_planNewPlaces 16 = .ok (.invokevirtual 121, 3) := by decide +kernel
theorem dX0_planNewPlaces_19 : decode cX0_planNewPlaces 19 = .ok (.istore 4, 2) := by decide +kernel
theorem dX0_planNewPlaces_21 : decode cX0_planNewPlaces 21 = .ok (.aload_n 0, 1) := by decide +kernel
theorem dX0_planNewPlaces_22 : decode cX0_planNewPlaces 22 = .ok (.getfield 33, 3) := by decide +kernel
theorem dX0_planNewPlaces_25 : decode cX0_planNewPlaces 25 = .ok (.iload_n 1, 1) := by decide +kernel
theorem dX0_planNewPlaces_26 : decode cX0_planNewPlaces 26 = .ok (.iaload, 1) := by decide +kernel
theorem dX0_planNewPlaces_27 : decode cX0_planNewPlaces 27 = .ok (.iconst (-1), 1) := by decide +kernel
theorem dX0_planNewPlaces_28 : decode cX0_planNewPlaces 28 = .ok (.if_icmp .eq 15, 3) := by decide +kernel
theorem dX0_planNewPlaces_31 : decode cX0_planNewPlaces 31 = .ok (.aload_n 0, 1) := by decide +kernel
theorem dX0_planNewPlaces_32 : decode cX0_planNewPlaces 32 = .ok (.getfield 33, 3) := by decide +kernel
theorem dX0_planNewPlaces_35 : decode cX0_planNewPlaces 35 = .ok (.iload_n 1, 1) := by decide +kernel
theorem dX0_planNewPlaces_36 : decode cX0_planNewPlaces 36 = .ok (.iload_n 2, 1) := by decide +kernel
theorem dX0_planNewPlaces_37 : decode cX0_planNewPlaces 37 = .ok (.iastore, 1) := by decide +kernel
theorem dX0_planNewPlaces_38 : decode cX0_planNewPlaces 38 = .ok (.iload_n 2, 1) := by decide +kernel
theorem dX0_planNewPlaces_39 : decode cX0_planNewPlaces 39 = .ok (.iload 4, 2) := by decide +kernel
theorem dX0_planNewPlaces_41 : decode cX0_planNewPlaces 41 = .ok (.iadd, 1) := by decide +kernel
theorem dX0_planNewPlaces_42 : decode cX0_planNewPlaces 42 = .ok (.istore_n 2, 1) := by decide +kernel
theorem dX0_planNewPlaces_43 : decode cX0_planNewPlaces 43 = .ok (.iload_n 1, 1) := by decide +kernel
theorem dX0_planNewPlaces_44 : decode cX0_planNewPlaces 44 = .ok (.iload 4, 2) := by decide +kernel
theorem dX0_planNewPlaces_46 : decode cX0_planNewPlaces 46 = .ok (.iadd, 1) := by decide +kernel
theorem dX0_planNewPlaces_47 : decode cX0_planNewPlaces 47 = .ok (.istore_n 1, 1) := by decide +kernel
theorem dX0_planNewPlaces_48 : decode cX0_planNewPlaces 48 = .ok (.iinc 3 1, 3) := by decide +kernel
theorem dX0_planNewPlaces_51 : decode cX0_planNewPlaces 51 = .ok (.goto (-45), 3) := by decide +kernel
theorem dX0_planNewPlaces_54 : decode cX0_planNewPlaces 54 = .ok (.iload_n 2, 1) := by decide +kernel
theorem dX0_planNewPlaces_55 : decode cX0_planNewPlaces 55 = .ok (.ireturn, 1) := by decide +kernel
theorem dX0_redirectRegisters_0 : decode cX0_redirectRegisters 0 = .ok (.iconst 0, 1) := by decide +kernel
theorem dX0_redirectRegisters_1 : decode cX0_redirectRegisters 1 = .ok (.istore_n 1, 1) := by decide +kernel
theorem dX0_redirectRegisters_2 : decode cX0_redirectRegisters 2 = .ok (.iload_n 1, 1) := by decide +kernel
theorem dX0_redirectRegisters_3 : decode cX0_redirectRegisters 3 = .ok (.bipush 16, 2) := by decide +kernel
theorem dX0_redirectRegisters_5 : decode cX0_redirectRegisters 5 = .ok (.if_icmp .ge 25, 3) := by decide +kernel
theorem dX0_redirectRegisters_8 : decode cX0_redirectRegisters 8 = .ok (.aload_n 0, 1) := by decide +kernel
theorem dX0_redirectRegisters_9 : decode cX0_redirectRegisters 9 = .ok (.getfield 13, 3) := by decide +kernel
theorem dX0_redirectRegisters_12 : decode cX0_redirectRegisters 12 = .ok (.iload_n 1, 1) := by decide +kernel
theorem dX0_redirectRegisters_13 : decode cX0_redirectRegisters 13 = .ok (.aload_n 0, 1) := by decide +kernel
theorem dX0_redirectRegisters_14 : decode cX0_redirectRegisters 14 = .ok (.aload_n 0, 1) := by decide +kernel
theorem dX0_redirectRegisters_15 : decode cX0_redirectRegisters 15 = .ok (.getfield 13, 3) := by decide +kernel
theorem dX0_redirectRegisters_18 : decode cX0_redirectRegisters 18 = .ok (.iload_n 1, 1) := by decide +kernel
theorem dX0_redirectRegisters_19 : decode cX0_redirectRegisters 19 = .ok (.iaload, 1) := by decide +kernel
theorem dX0_redirectRegisters_20 : decode cX0_redirectRegisters 20 = .ok (.invokevirtual 124, 3) := by decide +kernel
theorem dX0_redirectRegisters_23 : decode cX0_redirectRegisters 23 = .ok (.iastore, 1) := by decide +kernel
theorem dX0_redirectRegisters_24 : decode cX0_redirectRegisters 24 = .ok (.iinc 1 1, 3) := by decide +kernel
theorem dX0_redirectRegisters_27 : decode cX0_redirectRegisters 27 = .ok (.goto (-25), 3) := by decide +kernel
theorem dX0_redirectRegisters_30 : decode cX0_redirectRegisters 30 = .ok (.return_, 1) := by decide +kernel
theorem dX0_redirectContents_0 : decode cX0_redirectContents 0 = .ok (.iconst 0, 1) := by decide +kernel
theorem dX0_redirectContents_1 : decode cX0_redirectContents 1 = .ok (.istore_n 1, 1) := by decide +kernel
theorem dX0_redirectContents_2 : decode cX0_redirectContents 2 = .ok (.iload_n 1, 1) := by decide +kernel
theorem dX0_redirectContents_3 : decode cX0_redirectContents 3 = .ok (.aload_n 0, 1) := by decide +kernel
theorem dX0_redirectContents_4 : decode cX0_redirectContents 4 = .ok (.getfield 30, 3) := by decide +kernel
theorem dX0_redirectContents_7 : decode cX0_redirectContents 7 = .ok (.if_icmp .ge 30, 3) := by decide +kernel
theorem dX0_redirectContents_10 : decode cX0_redirectContents 10 = .ok (.aload_n 0, 1) := by decide +kernel
theorem dX0_redirectContents_11 : decode cX0_redirectContents 11 = .ok (.getfield 27, 3) := by decide +kernel
theorem dX0_redirectContents_14 : decode cX0_redirectContents 14 = .ok (.iload_n 1, 1) := by decide +kernel
theorem dX0_redirectContents_15 : decode cX0_redirectContents 15 = .ok (.iaload, 1) := by decide +kernel
theorem dX0_redirectContents_16 : decode cX0_redirectContents 16 = .ok (.istore_n 2, 1) := by decide +kernel
theorem dX0_redirectContents_17 : decode cX0_redirectContents 17 = .ok (.aload_n 0, 1) := by decide +kernel
theorem dX0_redirectContents_18 : decode cX0_redirectContents 18 = .ok (.iload_n 2, 1) := by decide +kernel
theorem dX0_redirectContents_19 : decode cX0_redirectContents 19 = .ok (.invokevirtual 59, 3) := by decide +kernel
theorem dX0_redirectContents_22 : decode cX0_redirectContents 22 = .ok (.iconst 2, 1) := by decide +kernel
theorem dX0_redirectContents_23 : decode cX0_redirectContents 23 = .ok (.if_icmp .eq 8, 3) := by decide +kernel
theorem dX0_redirectContents_26 : decode cX0_redirectContents 26 = .ok (.aload_n 0, 1) := by decide +kernel
theorem dX0_redirectContents_27 : decode cX0_redirectContents 27 = .ok (.iload_n 2, 1) := by decide +kernel
theorem dX0_redirectContents_28 : decode cX0_redirectContents 28 = .ok (.invokevirtual 127, 3) := by decide +kernel
theorem dX0_redirectContents_31 : decode cX0_redirectContents 31 = .ok (.iinc 1 1, 3) := by decide +kernel
theorem dX0_redirectContents_34 : decode cX0_redirectContents 34 = .ok (.goto (-32), 3) := by decide +kernel
theorem dX0_redirectContents_37 : decode cX0_redirectContents 37 = .ok (.return_, 1) := by decide +kernel
theorem dX0_redirectContentsAt_0 : decode cX0_redirectContentsAt 0 = .ok (.iload_n 1, 1) := by decide +kernel
theorem dX0_redirectContentsAt_1 : decode cX0_redirectContentsAt 1 = .ok (.aload_n 0, 1) := by decide +kernel
theorem dX0_redirectContentsAt_2 : decode cX0_redirectContentsAt 2 = .ok (.iload_n 1, 1) := by decide +kernel
theorem dX0_redirectContentsAt_3 : decode cX0_redirectContentsAt 3 = .ok (.invokevirtual 121, 3) := by decide +kernel
theorem dX0_redirectContentsAt_6 : decode cX0_redirectContentsAt 6 = .ok (.iadd, 1) := by decide +kernel
theorem dX0_redirectContentsAt_7 : decode cX0_redirectContentsAt 7 = .ok (.istore_n 2, 1) := by decide +kernel
theorem dX0_redirectContentsAt_8 : decode cX0_redirectContentsAt 8 = .ok (.iload_n 1, 1) := by decide +kernel
theorem dX0_redirectContentsAt_9 : decode cX0_redirectContentsAt 9 = .ok (.iconst 1, 1) := by decide +kernel
theorem dX0_redirectContentsAt_10 : decode cX0_redirectContentsAt 10 = .ok (.iadd, 1) := by decide +kernel
theorem dX0_redirectContentsAt_11 : decode cX0_redirectContentsAt 11 = .ok (.istore_n 3, 1) := by decide +kernel
theorem dX0_redirectContentsAt_12 : decode cX0_redirectContentsAt 12 = .ok (.iload_n 3, 1) := by decide +kernel
theorem dX0_redirectContentsAt_13 : decode cX0_redirectContentsAt 13 = .ok (.iload_n 2, 1) := by decide +kernel
theorem dX0_redirectContentsAt_14 : decode cX0_redirectContentsAt 14 = .ok (.if_icmp .ge 27, 3) := by decide +kernel
theorem dX0_redirectContentsAt_17 : decode cX0_redirectContentsAt 17 = .ok (.aload_n 0, 1) := by decide +kernel
theorem dX0_redirectContentsAt_18 : decode cX0_redirectContentsAt 18 = .ok (.getfield 9, 3) := by decide +kernel
theorem dX0_redirectContentsAt_21 : decode cX0_redirectContentsAt 21 = .ok (.iload_n 3, 1) := by decide +kernel
theorem dX0_redirectContentsAt_22 : decode cX0_redirectContentsAt 22 = .ok (.aload_n 0, 1) := by decide +kernel
theorem dX0_redirectContentsAt_23 : decode cX0_redirectContentsAt 23 = .ok (.aload_n 0, 1) := by decide +kernel
theorem dX0_redirectContentsAt_24 : decode cX0_redirectContentsAt 24 = .ok (.getfield 9, 3) := by decide +kernel
theorem dX0_redirectContentsAt_27 : decode cX0_redirectContentsAt 27 = .ok (.iload_n 3, 1) := by decide +kernel
theorem dX0_redirectContentsAt_28 : decode cX0_redirectContentsAt 28 = .ok (.laload, 1) := by decide +kernel
theorem dX0_redirectContentsAt_29 : decode cX0_redirectContentsAt 29 = .ok (.l2i, 1) := by decide +kernel
theorem dX0_redirectContentsAt_30 : decode cX0_redirectContentsAt 30 = .ok (.invokevirtual 124, 3) := by decide +kernel
theorem dX0_redirectContentsAt_33 : decode cX0_redirectContentsAt 33 = .ok (.i2l, 1) := by decide +kernel
theorem dX0_redirectContentsAt_34 : decode cX0_redirectContentsAt 34 = .ok (.lastore, 1) := by decide +kernel
theorem dX0_redirectContentsAt_35 : decode cX0_redirectContentsAt 35 = .ok (.iinc 3 1, 3) := by decide +kernel
theorem dX0_redirectContentsAt_38 : decode cX0_redirectContentsAt 38 = .ok (.goto (-26), 3) := by decide +kernel
theorem dX0_redirectContentsAt_41 : decode cX0_redirectContentsAt 41 = .ok (.return_, 1) := by decide +kernel
theorem dX0_newPlaceOf_0 : decode cX0_newPlaceOf 0 = .ok (.iload_n 1, 1) := by decide +kernel
theorem dX0_newPlaceOf_1 : decode cX0_newPlaceOf 1 = .ok (.iconst (-1), 1) := by decide +kernel
theorem dX0_newPlaceOf_2 : decode cX0_newPlaceOf 2 = .ok (.if_icmp .ne 7, 3) := by decide +kernel
theorem dX0_newPlaceOf_5 : decode cX0_newPlaceOf 5 = .ok (.iconst (-1), 1) := by decide +kernel
theorem dX0_newPlaceOf_6 : decode cX0_newPlaceOf 6 = .ok (.goto 9, 3) := by decide +kernel
theorem dX0_newPlaceOf_9 : decode cX0_newPlaceOf 9 = .ok (.aload_n 0, 1) := by decide +kernel
theorem dX0_newPlaceOf_10 : decode cX0_newPlaceOf 10 = .ok (.getfield 33, 3) := by decide +kernel
theorem dX0_newPlaceOf_13 : decode cX0_newPlaceOf 13 = .ok (.iload_n 1, 1) := by decide +kernel
theorem dX0_newPlaceOf_14 : decode cX0_newPlaceOf 14 = .ok (.iaload, 1) := by decide +kernel
theorem dX0_newPlaceOf_15 : decode cX0_newPlaceOf 15 = .ok (.ireturn, 1) := by decide +kernel
theorem dX0_moveDown_0 : decode cX0_moveDown 0 = .ok (.iconst 0, 1) := by decide +kernel
theorem dX0_moveDown_1 : decode cX0_moveDown 1 = .ok (.istore_n 1, 1) := by decide +kernel
theorem dX0_moveDown_2 : decode cX0_moveDown 2 = .ok (.iconst 0, 1) := by decide +kernel
theorem dX0_moveDown_3 : decode cX0_moveDown 3 = .ok (.istore_n 2, 1) := by decide +kernel
theorem dX0_moveDown_4 : decode cX0_moveDown 4 = .ok (.iload_n 2, 1) := by decide +kernel
theorem dX0_moveDown_5 : decode cX0_moveDown 5 = .ok (.aload_n 0, 1) := by decide +kernel
theorem dX0_moveDown_6 : decode cX0_moveDown 6 = .ok (.getfield 21, 3) := by decide +kernel
theorem dX0_moveDown_9 : decode cX0_moveDown 9 = .ok (.if_icmp .ge 48, 3) := by decide +kernel
theorem dX0_moveDown_12 : decode cX0_moveDown 12 = .ok (.aload_n 0, 1) := by decide +kernel
theorem dX0_moveDown_13 : decode cX0_moveDown 13 = .ok (.iload_n 1, 1) := by decide +kernel
theorem dX0_moveDown_14 : decode cX0_moveDown 14 = .ok (.invokevirtual 121, 3) := by decide +kernel
theorem dX0_moveDown_17 : decode cX0_moveDown 17 = .ok (.istore_n 3, 1) := by decide +kernel
theorem dX0_moveDown_18 : decode cX0_moveDown 18 = .ok (.aload_n 0, 1) := by decide +kernel
theorem dX0_moveDown_19 : decode cX0_moveDown 19 = .ok (.getfield 33, 3) := by decide +kernel
theorem dX0_moveDown_22 : decode cX0_moveDown 22 = .ok (.iload_n 1, 1) := by decide +kernel
theorem dX0_moveDown_23 : decode cX0_moveDown 23 = .ok (.iaload, 1) := by decide +kernel
theorem dX0_moveDown_24 : decode cX0_moveDown 24 = .ok (.iconst (-1), 1) := by decide +kernel
theorem dX0_moveDown_25 : decode cX0_moveDown 25 = .ok (.if_icmp .eq 22, 3) := by decide +kernel
theorem dX0_moveDown_28 : decode cX0_moveDown 28 = .ok (.aload_n 0, 1) := by decide +kernel
theorem dX0_moveDown_29 : decode cX0_moveDown 29 = .ok (.getfield 9, 3) := by decide +kernel
theorem dX0_moveDown_32 : decode cX0_moveDown 32 = .ok (.iload_n 1, 1) := by decide +kernel
theorem dX0_moveDown_33 : decode cX0_moveDown 33 = .ok (.aload_n 0, 1) := by decide +kernel
theorem dX0_moveDown_34 : decode cX0_moveDown 34 = .ok (.getfield 9, 3) := by decide +kernel
theorem dX0_moveDown_37 : decode cX0_moveDown 37 = .ok (.aload_n 0, 1) := by decide +kernel
theorem dX0_moveDown_38 : decode cX0_moveDown 38 = .ok (.getfield 33, 3) := by decide +kernel
theorem dX0_moveDown_41 : decode cX0_moveDown 41 = .ok (.iload_n 1, 1) := by decide +kernel
theorem dX0_moveDown_42 : decode cX0_moveDown 42 = .ok (.iaload, 1) := by decide +kernel
theorem dX0_moveDown_43 : decode cX0_moveDown 43 = .ok (.iload_n 3, 1) := by decide +kernel
theorem dX0_moveDown_44 : decode cX0_moveDown 44 = .ok (.invokestatic 130, 3) := by decide +kernel
theorem dX0_moveDown_47 : decode cX0_moveDown 47 = .ok (.iload_n 1, 1) := by decide +kernel
theorem dX0_moveDown_48 : decode cX0_moveDown 48 = .ok (.iload_n 3, 1) := by decide +kernel
theorem dX0_moveDown_49 : decode cX0_moveDown 49 = .ok (.iadd, 1) := by decide +kernel
theorem dX0_moveDown_50 : decode cX0_moveDown 50 = .ok (.istore_n 1, 1) := by decide +kernel
theorem dX0_moveDown_51 : decode cX0_moveDown 51 = .ok (.iinc 2 1, 3) := by decide +kernel
theorem dX0_moveDown_54 : decode cX0_moveDown 54 = .ok (.goto (-50), 3) := by decide +kernel
theorem dX0_moveDown_57 : decode cX0_moveDown 57 = .ok (.return_, 1) := by decide +kernel
theorem dJ7_fill_0 : decode cJ7_fill 0 = .ok (.iconst 0, 1) := by decide +kernel
theorem dJ7_fill_1 : decode cJ7_fill 1 = .ok (.istore_n 2, 1) := by decide +kernel
theorem dJ7_fill_2 : decode cJ7_fill 2 = .ok (.aload_n 0, 1) := by decide +kernel
theorem dJ7_fill_3 : decode cJ7_fill 3 = .ok (.arraylength, 1) := by decide +kernel
theorem dJ7_fill_4 : decode cJ7_fill 4 = .ok (.istore_n 3, 1) := by decide +kernel
theorem dJ7_fill_5 : decode cJ7_fill 5 = .ok (.iload_n 2, 1) := by decide +kernel
theorem dJ7_fill_6 : decode cJ7_fill 6 = .ok (.iload_n 3, 1) := by decide +kernel
theorem dJ7_fill_7 : decode cJ7_fill 7 = .ok (.if_icmp .ge 13, 3) := by decide +kernel
theorem dJ7_fill_10 : decode cJ7_fill 10 = .ok (.aload_n 0, 1) := by decide +kernel
theorem dJ7_fill_11 : decode cJ7_fill 11 = .ok (.iload_n 2, 1) := by decide +kernel
theorem dJ7_fill_12 : decode cJ7_fill 12 = .ok (.iload_n 1, 1) := by decide +kernel
theorem dJ7_fill_13 : decode cJ7_fill 13 = .ok (.iastore, 1) := by decide +kernel
theorem dJ7_fill_14 : decode cJ7_fill 14 = .ok (.iinc 2 1, 3) := by decide +kernel
theorem dJ7_fill_17 : decode cJ7_fill 17 = .ok (.goto (-12), 3) := by decide +kernel
theorem dJ7_fill_20 : decode cJ7_fill 20 = .ok (.return_, 1) := by decide +kernel
