theorem dL_make_0 : decode cL_make 0 = .ok (.aload 4, 2) := by decide +kernel
theorem dL_make_2 : decode cL_make 2 = .ok (.iconst 0, 1) := by decide +kernel
theorem dL_make_3 : decode cL_make 3 = .ok (.aload_n 0, 1) := by decide +kernel
theorem dL_make_4 : decode cL_make 4 = .ok (.iload_n 1, 1) := by decide +kernel
theorem dL_make_5 : decode cL_make 5 = .ok (.iload_n 2, 1) := by decide +kernel
theorem dL_make_6 : decode cL_make 6 = .ok (.iload_n 3, 1) := by decide +kernel
theorem dL_make_7 : decode cL_make 7 = .ok (.invokevirtual 7, 3) := by decide +kernel
theorem dL_make_10 : decode cL_make 10 = .ok (.i2l, 1) := by decide +kernel
theorem dL_make_11 : decode cL_make 11 = .ok (.lastore, 1) := by decide +kernel
theorem dL_make_12 : decode cL_make 12 = .ok (.goto 11, 3) := by decide +kernel
theorem dL_make_15 : decode cL_make 15 = .ok (.astore 5, 2) := by decide +kernel
theorem dL_make_17 : decode cL_make 17 = .ok (.iconst 1, 1) := by decide +kernel
theorem dL_make_18 : decode cL_make 18 = .ok (.ireturn, 1) := by decide +kernel
theorem dL_make_19 : decode cL_make 19 = .ok (.astore 5, 2) := by decide +kernel
theorem dL_make_21 : decode cL_make 21 = .ok (.iconst 2, 1) := by decide +kernel
theorem dL_make_22 : decode cL_make 22 = .ok (.ireturn, 1) := by decide +kernel
theorem dL_make_23 : decode cL_make 23 = .ok (.iconst 0, 1) := by decide +kernel
theorem dL_make_24 : decode cL_make 24 = .ok (.ireturn, 1) := by decide +kernel
theorem dL_weak_0 : decode cL_weak 0 = .ok (.aload_n 3, 1) := by decide +kernel
theorem dL_weak_1 : decode cL_weak 1 = .ok (.iconst 0, 1) := by decide +kernel
theorem dL_weak_2 : decode cL_weak 2 = .ok (.aload_n 0, 1) := by decide +kernel
theorem dL_weak_3 : decode cL_weak 3 = .ok (.iload_n 1, 1) := by decide +kernel
theorem dL_weak_4 : decode cL_weak 4 = .ok (.iload_n 2, 1) := by decide +kernel
theorem dL_weak_5 : decode cL_weak 5 = .ok (.invokevirtual 17, 3) := by decide +kernel
theorem dL_weak_8 : decode cL_weak 8 = .ok (.i2l, 1) := by decide +kernel
theorem dL_weak_9 : decode cL_weak 9 = .ok (.lastore, 1) := by decide +kernel
theorem dL_weak_10 : decode cL_weak 10 = .ok (.goto 15, 3) := by decide +kernel
theorem dL_weak_13 : decode cL_weak 13 = .ok (.astore 4, 2) := by decide +kernel
theorem dL_weak_15 : decode cL_weak 15 = .ok (.iconst 1, 1) := by decide +kernel
theorem dL_weak_16 : decode cL_weak 16 = .ok (.ireturn, 1) := by decide +kernel
theorem dL_weak_17 : decode cL_weak 17 = .ok (.astore 4, 2) := by decide +kernel
theorem dL_weak_19 : decode cL_weak 19 = .ok (.iconst 2, 1) := by decide +kernel
theorem dL_weak_20 : decode cL_weak 20 = .ok (.ireturn, 1) := by decide +kernel
theorem dL_weak_21 : decode cL_weak 21 = .ok (.astore 4, 2) := by decide +kernel
theorem dL_weak_23 : decode cL_weak 23 = .ok (.iconst 3, 1) := by decide +kernel
theorem dL_weak_24 : decode cL_weak 24 = .ok (.ireturn, 1) := by decide +kernel
theorem dL_weak_25 : decode cL_weak 25 = .ok (.iconst 0, 1) := by decide +kernel
theorem dL_weak_26 : decode cL_weak 26 = .ok (.ireturn, 1) := by decide +kernel
theorem dL_copy_0 : decode cL_copy 0 = .ok (.aload_n 0, 1) := by decide +kernel
theorem dL_copy_1 : decode cL_copy 1 = .ok (.iload_n 1, 1) := by decide +kernel
theorem dL_copy_2 : decode cL_copy 2 = .ok (.iload_n 2, 1) := by decide +kernel
theorem dL_copy_3 : decode cL_copy 3 = .ok (.invokevirtual 23, 3) := by decide +kernel
theorem dL_copy_6 : decode cL_copy 6 = .ok (.goto 6, 3) := by decide +kernel
theorem dL_copy_9 : decode cL_copy 9 = .ok (.astore_n 3, 1) := by decide +kernel
theorem dL_copy_10 : decode cL_copy 10 = .ok (.iconst 1, 1) := by decide +kernel
theorem dL_copy_11 : decode cL_copy 11 = .ok (.ireturn, 1) := by decide +kernel
theorem dL_copy_12 : decode cL_copy 12 = .ok (.iconst 0, 1) := by decide +kernel
theorem dL_copy_13 : decode cL_copy 13 = .ok (.ireturn, 1) := by decide +kernel
theorem dL_drop_0 : decode cL_drop 0 = .ok (.aload_n 0, 1) := by decide +kernel
theorem dL_drop_1 : decode cL_drop 1 = .ok (.iload_n 1, 1) := by decide +kernel
theorem dL_drop_2 : decode cL_drop 2 = .ok (.invokevirtual 27, 3) := by decide +kernel
theorem dL_drop_5 : decode cL_drop 5 = .ok (.goto 6, 3) := by decide +kernel
theorem dL_drop_8 : decode cL_drop 8 = .ok (.astore_n 2, 1) := by decide +kernel
theorem dL_drop_9 : decode cL_drop 9 = .ok (.iconst 1, 1) := by decide +kernel
theorem dL_drop_10 : decode cL_drop 10 = .ok (.ireturn, 1) := by decide +kernel
theorem dL_drop_11 : decode cL_drop 11 = .ok (.iconst 0, 1) := by decide +kernel
theorem dL_drop_12 : decode cL_drop 12 = .ok (.ireturn, 1) := by decide +kernel
theorem dL_link_0 : decode cL_link 0 = .ok (.aload_n 0, 1) := by decide +kernel
theorem dL_link_1 : decode cL_link 1 = .ok (.iload_n 1, 1) := by decide +kernel
theorem dL_link_2 : decode cL_link 2 = .ok (.iload_n 2, 1) := by decide +kernel
theorem dL_link_3 : decode cL_link 3 = .ok (.iload_n 3, 1) := by decide +kernel
theorem dL_link_4 : decode cL_link 4 = .ok (.invokevirtual 31, 3) := by decide +kernel
theorem dL_link_7 : decode cL_link 7 = .ok (.goto 11, 3) := by decide +kernel
theorem dL_link_10 : decode cL_link 10 = .ok (.astore 4, 2) := by decide +kernel
theorem dL_link_12 : decode cL_link 12 = .ok (.iconst 1, 1) := by decide +kernel
theorem dL_link_13 : decode cL_link 13 = .ok (.ireturn, 1) := by decide +kernel
theorem dL_link_14 : decode cL_link 14 = .ok (.astore 4, 2) := by decide +kernel
theorem dL_link_16 : decode cL_link 16 = .ok (.iconst 2, 1) := by decide +kernel
theorem dL_link_17 : decode cL_link 17 = .ok (.ireturn, 1) := by decide +kernel
theorem dL_link_18 : decode cL_link 18 = .ok (.iconst 0, 1) := by decide +kernel
theorem dL_link_19 : decode cL_link 19 = .ok (.ireturn, 1) := by decide +kernel
theorem dL_follow_0 : decode cL_follow 0 = .ok (.aload_n 0, 1) := by decide +kernel
theorem dL_follow_1 : decode cL_follow 1 = .ok (.iload_n 1, 1) := by decide +kernel
theorem dL_follow_2 : decode cL_follow 2 = .ok (.iload_n 2, 1) := by decide +kernel
theorem dL_follow_3 : decode cL_follow 3 = .ok (.iload_n 3, 1) := by decide +kernel
theorem dL_follow_4 : decode cL_follow 4 = .ok (.invokevirtual 35, 3) := by decide +kernel
theorem dL_follow_7 : decode cL_follow 7 = .ok (.goto 11, 3) := by decide +kernel
theorem dL_follow_10 : decode cL_follow 10 = .ok (.astore 4, 2) := by decide +kernel
theorem dL_follow_12 : decode cL_follow 12 = .ok (.iconst 1, 1) := by decide +kernel
theorem dL_follow_13 : decode cL_follow 13 = .ok (.ireturn, 1) := by decide +kernel
theorem dL_follow_14 : decode cL_follow 14 = .ok (.astore 4, 2) := by decide +kernel
theorem dL_follow_16 : decode cL_follow 16 = .ok (.iconst 2, 1) := by decide +kernel
theorem dL_follow_17 : decode cL_follow 17 = .ok (.ireturn, 1) := by decide +kernel
theorem dL_follow_18 : decode cL_follow 18 = .ok (.iconst 0, 1) := by decide +kernel
theorem dL_follow_19 : decode cL_follow 19 = .ok (.ireturn, 1) := by decide +kernel
theorem dL_put_0 : decode cL_put 0 = .ok (.aload_n 0, 1) := by decide +kernel
theorem dL_put_1 : decode cL_put 1 = .ok (.iload_n 1, 1) := by decide +kernel
theorem dL_put_2 : decode cL_put 2 = .ok (.iload_n 2, 1) := by decide +kernel
theorem dL_put_3 : decode cL_put 3 = .ok (.lload_n 3, 1) := by decide +kernel
theorem dL_put_4 : decode cL_put 4 = .ok (.invokevirtual 38, 3) := by decide +kernel
theorem dL_put_7 : decode cL_put 7 = .ok (.goto 11, 3) := by decide +kernel
theorem dL_put_10 : decode cL_put 10 = .ok (.astore 5, 2) := by decide +kernel
theorem dL_put_12 : decode cL_put 12 = .ok (.iconst 1, 1) := by decide +kernel
theorem dL_put_13 : decode cL_put 13 = .ok (.ireturn, 1) := by decide +kernel
theorem dL_put_14 : decode cL_put 14 = .ok (.astore 5, 2) := by decide +kernel
theorem dL_put_16 : decode cL_put 16 = .ok (.iconst 2, 1) := by decide +kernel
theorem dL_put_17 : decode cL_put 17 = .ok (.ireturn, 1) := by decide +kernel
theorem dL_put_18 : decode cL_put 18 = .ok (.iconst 0, 1) := by decide +kernel
theorem dL_put_19 : decode cL_put 19 = .ok (.ireturn, 1) := by decide +kernel
theorem dL_get_0 : decode cL_get 0 = .ok (.aload_n 3, 1) := by decide +kernel
theorem dL_get_1 : decode cL_get 1 = .ok (.iconst 0, 1) := by decide +kernel
theorem dL_get_2 : decode cL_get 2 = .ok (.aload_n 0, 1) := by decide +kernel
theorem dL_get_3 : decode cL_get 3 = .ok (.iload_n 1, 1) := by decide +kernel
theorem dL_get_4 : decode cL_get 4 = .ok (.iload_n 2, 1) := by decide +kernel
theorem dL_get_5 : decode cL_get 5 = .ok (.invokevirtual 42, 3) := by decide +kernel
theorem dL_get_8 : decode cL_get 8 = .ok (.lastore, 1) := by decide +kernel
theorem dL_get_9 : decode cL_get 9 = .ok (.goto 11, 3) := by decide +kernel
theorem dL_get_12 : decode cL_get 12 = .ok (.astore 4, 2) := by decide +kernel
theorem dL_get_14 : decode cL_get 14 = .ok (.iconst 1, 1) := by decide +kernel
theorem dL_get_15 : decode cL_get 15 = .ok (.ireturn, 1) := by decide +kernel
theorem dL_get_16 : decode cL_get 16 = .ok (.astore 4, 2) := by decide +kernel
theorem dL_get_18 : decode cL_get 18 = .ok (.iconst 2, 1) := by decide +kernel
theorem dL_get_19 : decode cL_get 19 = .ok (.ireturn, 1) := by decide +kernel
theorem dL_get_20 : decode cL_get 20 = .ok (.iconst 0, 1) := by decide +kernel
theorem dL_get_21 : decode cL_get 21 = .ok (.ireturn, 1) := by decide +kernel
theorem dL_state_0 : decode cL_state 0 = .ok (.aload_n 3, 1) := by decide +kernel
theorem dL_state_1 : decode cL_state 1 = .ok (.iconst 0, 1) := by decide +kernel
theorem dL_state_2 : decode cL_state 2 = .ok (.aload_n 0, 1) := by decide +kernel
theorem dL_state_3 : decode cL_state 3 = .ok (.iload_n 1, 1) := by decide +kernel
theorem dL_state_4 : decode cL_state 4 = .ok (.iload_n 2, 1) := by decide +kernel
theorem dL_state_5 : decode cL_state 5 = .ok (.invokevirtual 46, 3) := by decide +kernel
theorem dL_state_8 : decode cL_state 8 = .ok (.i2l, 1) := by decide +kernel
theorem dL_state_9 : decode cL_state 9 = .ok (.lastore, 1) := by decide +kernel
theorem dL_state_10 : decode cL_state 10 = .ok (.goto 7, 3) := by decide +kernel
theorem dL_state_13 : decode cL_state 13 = .ok (.astore 4, 2) := by decide +kernel
theorem dL_state_15 : decode cL_state 15 = .ok (.iconst 1, 1) := by decide +kernel
theorem dL_state_16 : decode cL_state 16 = .ok (.ireturn, 1) := by decide +kernel
theorem dL_state_17 : decode cL_state 17 = .ok (.iconst 0, 1) := by decide +kernel
theorem dL_state_18 : decode cL_state 18 = .ok (.ireturn, 1) := by decide +kernel
