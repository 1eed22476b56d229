theorem dX5_init_0 : decode cX5_init 0 = .ok (.aload_n 0, 1) := by decide +kernel
theorem dX5_init_1 : decode cX5_init 1 = .ok (.invokespecial 3, 3) := by decide +kernel
theorem dX5_init_4 : decode cX5_init 4 = .ok (.aload_n 0, 1) := by decide +kernel
theorem dX5_init_5 : decode cX5_init 5 = .ok (.iload_n 1, 1) := by decide +kernel
theorem dX5_init_6 : decode cX5_init 6 = .ok (.ifCond .le 7, 3) := by decide +kernel
theorem dX5_init_9 : decode cX5_init 9 = .ok (.iload_n 1, 1) := by decide +kernel
theorem dX5_init_10 : decode cX5_init 10 = .ok (.goto 4, 3) := by decide +kernel
theorem dX5_init_13 : decode cX5_init 13 = .ok (.iconst 0, 1) := by decide +kernel
theorem dX5_init_14 : decode cX5_init 14 = .ok (.newarray .int, 2) := by decide +kernel
theorem dX5_init_16 : decode cX5_init 16 = .ok (.putfield 9, 3) := by decide +kernel
theorem dX5_init_19 : decode cX5_init 19 = .ok (.aload_n 0, 1) := by decide +kernel
theorem dX5_init_20 : decode cX5_init 20 = .ok (.iconst 0, 1) := by decide +kernel
theorem dX5_init_21 : decode cX5_init 21 = .ok (.putfield 15, 3) := by decide +kernel
theorem dX5_init_24 : decode cX5_init 24 = .ok (.return_, 1) := by decide +kernel
theorem dX5_at_0 : decode cX5_at 0 = .ok (.iload_n 1, 1) := by decide +kernel
theorem dX5_at_1 : decode cX5_at 1 = .ok (.ifCond .lt 21, 3) := by decide +kernel
theorem dX5_at_4 : decode cX5_at 4 = .ok (.iload_n 1, 1) := by decide +kernel
theorem dX5_at_5 : decode cX5_at 5 = .ok (.aload_n 0, 1) := by decide +kernel
theorem dX5_at_6 : decode cX5_at 6 = .ok (.getfield 9, 3) := by decide +kernel
theorem dX5_at_9 : decode cX5_at 9 = .ok (.arraylength, 1) := by decide +kernel
theorem dX5_at_10 : decode cX5_at 10 = .ok (.if_icmp .ge 12, 3) := by decide +kernel
theorem dX5_at_13 : decode cX5_at 13 = .ok (.aload_n 0, 1) := by decide +kernel
theorem dX5_at_14 : decode cX5_at 14 = .ok (.getfield 9, 3) := by decide +kernel
theorem dX5_at_17 : decode cX5_at 17 = .ok (.iload_n 1, 1) := by decide +kernel
theorem dX5_at_18 : decode cX5_at 18 = .ok (.iaload, 1) := by decide +kernel
theorem dX5_at_19 : decode cX5_at 19 = .ok (.goto 4, 3) := by decide +kernel
theorem dX5_at_22 : decode cX5_at 22 = .ok (.iconst 0, 1) := by decide +kernel
theorem dX5_at_23 : decode cX5_at 23 = .ok (.ireturn, 1) := by decide +kernel
theorem dX5_put_0 : decode cX5_put 0 = .ok (.iload_n 1, 1) := by decide +kernel
theorem dX5_put_1 : decode cX5_put 1 = .ok (.ifCond .lt 19, 3) := by decide +kernel
theorem dX5_put_4 : decode cX5_put 4 = .ok (.iload_n 1, 1) := by decide +kernel
theorem dX5_put_5 : decode cX5_put 5 = .ok (.aload_n 0, 1) := by decide +kernel
theorem dX5_put_6 : decode cX5_put 6 = .ok (.getfield 9, 3) := by decide +kernel
theorem dX5_put_9 : decode cX5_put 9 = .ok (.arraylength, 1) := by decide +kernel
theorem dX5_put_10 : decode cX5_put 10 = .ok (.if_icmp .ge 10, 3) := by decide +kernel
theorem dX5_put_13 : decode cX5_put 13 = .ok (.aload_n 0, 1) := by decide +kernel
theorem dX5_put_14 : decode cX5_put 14 = .ok (.getfield 9, 3) := by decide +kernel
theorem dX5_put_17 : decode cX5_put 17 = .ok (.iload_n 1, 1) := by decide +kernel
theorem dX5_put_18 : decode cX5_put 18 = .ok (.iload_n 2, 1) := by decide +kernel
theorem dX5_put_19 : decode cX5_put 19 = .ok (.iastore, 1) := by decide +kernel
theorem dX5_put_20 : decode cX5_put 20 = .ok (.return_, 1) := by decide +kernel
theorem dX5_add_0 : decode cX5_add 0 = .ok (.aload_n 0, 1) := by decide +kernel
theorem dX5_add_1 : decode cX5_add 1 = .ok (.iload_n 1, 1) := by decide +kernel
theorem dX5_add_2 : decode cX5_add 2 = .ok (.aload_n 0, 1) := by decide +kernel
theorem dX5_add_3 : decode cX5_add 3 = .ok (.iload_n 1, 1) := by decide +kernel
theorem dX5_add_4 : decode cX5_add 4 = .ok (.invokevirtual 19, 3) := by decide +kernel
theorem dX5_add_7 : decode cX5_add 7 = .ok (.iload_n 2, 1) := by decide +kernel
theorem dX5_add_8 : decode cX5_add 8 = .ok (.iadd, 1) := by decide +kernel
theorem dX5_add_9 : decode cX5_add 9 = .ok (.invokevirtual 23, 3) := by decide +kernel
theorem dX5_add_12 : decode cX5_add 12 = .ok (.return_, 1) := by decide +kernel
theorem dX5_swap_0 : decode cX5_swap 0 = .ok (.aload_n 0, 1) := by decide +kernel
theorem dX5_swap_1 : decode cX5_swap 1 = .ok (.iload_n 1, 1) := by decide +kernel
theorem dX5_swap_2 : decode cX5_swap 2 = .ok (.invokevirtual 19, 3) := by decide +kernel
theorem dX5_swap_5 : decode cX5_swap 5 = .ok (.istore_n 3, 1) := by decide +kernel
theorem dX5_swap_6 : decode cX5_swap 6 = .ok (.aload_n 0, 1) := by decide +kernel
theorem dX5_swap_7 : decode cX5_swap 7 = .ok (.iload_n 1, 1) := by decide +kernel
theorem dX5_swap_8 : decode cX5_swap 8 = .ok (.iload_n 2, 1) := by decide +kernel
theorem dX5_swap_9 : decode cX5_swap 9 = .ok (.invokevirtual 23, 3) := by decide +kernel
theorem dX5_swap_12 : decode cX5_swap 12 = .ok (.iload_n 3, 1) := by decide +kernel
theorem dX5_swap_13 : decode cX5_swap 13 = .ok (.ireturn, 1) := by decide +kernel
theorem dX5_fill_0 : decode cX5_fill 0 = .ok (.iconst 0, 1) := by decide +kernel
theorem dX5_fill_1 : decode cX5_fill 1 = .ok (.istore_n 2, 1) := by decide +kernel
theorem dX5_fill_2 : decode cX5_fill 2 = .ok (.iload_n 2, 1) := by decide +kernel
theorem dX5_fill_3 : decode cX5_fill 3 = .ok (.aload_n 0, 1) := by decide +kernel
theorem dX5_fill_4 : decode cX5_fill 4 = .ok (.getfield 9, 3) := by decide +kernel
theorem dX5_fill_7 : decode cX5_fill 7 = .ok (.arraylength, 1) := by decide +kernel
theorem dX5_fill_8 : decode cX5_fill 8 = .ok (.if_icmp .ge 16, 3) := by decide +kernel
theorem dX5_fill_11 : decode cX5_fill 11 = .ok (.aload_n 0, 1) := by decide +kernel
theorem dX5_fill_12 : decode cX5_fill 12 = .ok (.getfield 9, 3) := by decide +kernel
theorem dX5_fill_15 : decode cX5_fill 15 = .ok (.iload_n 2, 1) := by decide +kernel
theorem dX5_fill_16 : decode cX5_fill 16 = .ok (.iload_n 1, 1) := by decide +kernel
theorem dX5_fill_17 : decode cX5_fill 17 = .ok (.iastore, 1) := by decide +kernel
theorem dX5_fill_18 : decode cX5_fill 18 = .ok (.iinc 2 1, 3) := by decide +kernel
theorem dX5_fill_21 : decode cX5_fill 21 = .ok (.goto (-19), 3) := by decide +kernel
theorem dX5_fill_24 : decode cX5_fill 24 = .ok (.return_, 1) := by decide +kernel
theorem dX5_size_0 : decode cX5_size 0 = .ok (.aload_n 0, 1) := by decide +kernel
theorem dX5_size_1 : decode cX5_size 1 = .ok (.getfield 15, 3) := by decide +kernel
theorem dX5_size_4 : decode cX5_size 4 = .ok (.ireturn, 1) := by decide +kernel
theorem dX5_isFull_0 : decode cX5_isFull 0 = .ok (.aload_n 0, 1) := by decide +kernel
theorem dX5_isFull_1 : decode cX5_isFull 1 = .ok (.getfield 15, 3) := by decide +kernel
theorem dX5_isFull_4 : decode cX5_isFull 4 = .ok (.aload_n 0, 1) := by decide +kernel
theorem dX5_isFull_5 : decode cX5_isFull 5 = .ok (.getfield 9, 3) := by decide +kernel
theorem dX5_isFull_8 : decode cX5_isFull 8 = .ok (.arraylength, 1) := by decide +kernel
theorem dX5_isFull_9 : decode cX5_isFull 9 = .ok (.if_icmp .lt 7, 3) := by decide +kernel
theorem dX5_isFull_12 : decode cX5_isFull 12 = .ok (.iconst 1, 1) := by decide +kernel
theorem dX5_isFull_13 : decode cX5_isFull 13 = .ok (.goto 4, 3) := by decide +kernel
theorem dX5_isFull_16 : decode cX5_isFull 16 = .ok (.iconst 0, 1) := by decide +kernel
theorem dX5_isFull_17 : decode cX5_isFull 17 = .ok (.ireturn, 1) := by decide +kernel
theorem dX5_push_0 : decode cX5_push 0 = .ok (.aload_n 0, 1) := by decide +kernel
theorem dX5_push_1 : decode cX5_push 1 = .ok (.getfield 15, 3) := by decide +kernel
theorem dX5_push_4 : decode cX5_push 4 = .ok (.ifCond .lt 35, 3) := by decide +kernel
theorem dX5_push_7 : decode cX5_push 7 = .ok (.aload_n 0, 1) := by decide +kernel
theorem dX5_push_8 : decode cX5_push 8 = .ok (.getfield 15, 3) := by decide +kernel
theorem dX5_push_11 : decode cX5_push 11 = .ok (.aload_n 0, 1) := by decide +kernel
theorem dX5_push_12 : decode cX5_push 12 = .ok (.getfield 9, 3) := by decide +kernel
theorem dX5_push_15 : decode cX5_push 15 = .ok (.arraylength, 1) := by decide +kernel
theorem dX5_push_16 : decode cX5_push 16 = .ok (.if_icmp .ge 23, 3) := by decide +kernel
theorem dX5_push_19 : decode cX5_push 19 = .ok (.aload_n 0, 1) := by decide +kernel
theorem dX5_push_20 : decode cX5_push 20 = .ok (.getfield 9, 3) := by decide +kernel
theorem dX5_push_23 : decode cX5_push 23 = .ok (.aload_n 0, 1) := by decide +kernel
theorem dX5_push_24 : decode cX5_push 24 = .ok (.getfield 15, 3) := by decide +kernel
theorem dX5_push_27 : decode cX5_push 27 = .ok (.iload_n 1, 1) := by decide +kernel
theorem dX5_push_28 : decode cX5_push 28 = .ok (.iastore, 1) := by decide +kernel
theorem dX5_push_29 : decode cX5_push 29 = .ok (.aload_n 0, 1) := by decide +kernel
theorem dX5_push_30 : decode cX5_push 30 = .ok (.dup, 1) := by decide +kernel
theorem dX5_push_31 : decode cX5_push 31 = .ok (.getfield 15, 3) := by decide +kernel
theorem dX5_push_34 : decode cX5_push 34 = .ok (.iconst 1, 1) := by decide +kernel
theorem dX5_push_35 : decode cX5_push 35 = .ok (.iadd, 1) := by decide +kernel
theorem dX5_push_36 : decode cX5_push 36 = .ok (.putfield 15, 3) := by decide +kernel
theorem dX5_push_39 : decode cX5_push 39 = .ok (.return_, 1) := by decide +kernel
theorem dX5_number_0 : decode cX5_number 0 = .ok (.aload_n 0, 1) := by decide +kernel
theorem dX5_number_1 : decode cX5_number 1 = .ok (.getfield 15, 3) := by decide +kernel
theorem dX5_number_4 : decode cX5_number 4 = .ok (.ifCond .lt 15, 3) := by decide +kernel
theorem dX5_number_7 : decode cX5_number 7 = .ok (.aload_n 0, 1) := by decide +kernel
theorem dX5_number_8 : decode cX5_number 8 = .ok (.getfield 15, 3) := by decide +kernel
theorem dX5_number_11 : decode cX5_number 11 = .ok (.aload_n 0, 1) := by decide +kernel
theorem dX5_number_12 : decode cX5_number 12 = .ok (.getfield 9, 3) := by decide +kernel
theorem dX5_number_15 : decode cX5_number 15 = .ok (.arraylength, 1) := by decide +kernel
theorem dX5_number_16 : decode cX5_number 16 = .ok (.if_icmp .lt 6, 3) := by decide +kernel
theorem dX5_number_19 : decode cX5_number 19 = .ok (.bipush (-4), 2) := by decide +kernel
theorem dX5_number_21 : decode cX5_number 21 = .ok (.ireturn, 1) := by decide +kernel
theorem dX5_number_22 : decode cX5_number 22 = .ok (.aload_n 0, 1) := by decide +kernel
theorem dX5_number_23 : decode cX5_number 23 = .ok (.getfield 9, 3) := by decide +kernel
theorem dX5_number_26 : decode cX5_number 26 = .ok (.aload_n 0, 1) := by decide +kernel
theorem dX5_number_27 : decode cX5_number 27 = .ok (.getfield 15, 3) := by decide +kernel
theorem dX5_number_30 : decode cX5_number 30 = .ok (.iload_n 1, 1) := by decide +kernel
theorem dX5_number_31 : decode cX5_number 31 = .ok (.iastore, 1) := by decide +kernel
theorem dX5_number_32 : decode cX5_number 32 = .ok (.aload_n 0, 1) := by decide +kernel
theorem dX5_number_33 : decode cX5_number 33 = .ok (.dup, 1) := by decide +kernel
theorem dX5_number_34 : decode cX5_number 34 = .ok (.getfield 15, 3) := by decide +kernel
theorem dX5_number_37 : decode cX5_number 37 = .ok (.iconst 1, 1) := by decide +kernel
theorem dX5_number_38 : decode cX5_number 38 = .ok (.iadd, 1) := by decide +kernel
theorem dX5_number_39 : decode cX5_number 39 = .ok (.putfield 15, 3) := by decide +kernel
theorem dX5_number_42 : decode cX5_number 42 = .ok (.aload_n 0, 1) := by decide +kernel
theorem dX5_number_43 : decode cX5_number 43 = .ok (.getfield 15, 3) := by decide +kernel
theorem dX5_number_46 : decode cX5_number 46 = .ok (.iconst 1, 1) := by decide +kernel
theorem dX5_number_47 : decode cX5_number 47 = .ok (.isub, 1) := by decide +kernel
theorem dX5_number_48 : decode cX5_number 48 = .ok (.ireturn, 1) := by decide +kernel
theorem dX5_indexOf_0 : decode cX5_indexOf 0 = .ok (.iconst 0, 1) := by decide +kernel
theorem dX5_indexOf_1 : decode cX5_indexOf 1 = .ok (.istore_n 2, 1) := by decide +kernel
theorem dX5_indexOf_2 : decode cX5_indexOf 2 = .ok (.iload_n 2, 1) := by decide +kernel
theorem dX5_indexOf_3 : decode cX5_indexOf 3 = .ok (.aload_n 0, 1) := by decide +kernel
theorem dX5_indexOf_4 : decode cX5_indexOf 4 = .ok (.getfield 15, 3) := by decide +kernel
theorem dX5_indexOf_7 : decode cX5_indexOf 7 = .ok (.if_icmp .ge 30, 3) := by decide +kernel
theorem dX5_indexOf_10 : decode cX5_indexOf 10 = .ok (.iload_n 2, 1) := by decide +kernel
theorem dX5_indexOf_11 : decode cX5_indexOf 11 = .ok (.aload_n 0, 1) := by decide +kernel
theorem dX5_indexOf_12 : decode cX5_indexOf 12 = .ok (.getfield 9, 3) := by decide +kernel
theorem dX5_indexOf_15 : decode cX5_indexOf 15 = .ok (.arraylength, 1) := by decide +kernel
theorem dX5_indexOf_16 : decode cX5_indexOf 16 = .ok (.if_icmp .ge 21, 3) := by decide +kernel
theorem dX5_indexOf_19 : decode cX5_indexOf 19 = .ok (.aload_n 0, 1) := by decide +kernel
theorem dX5_indexOf_20 : decode cX5_indexOf 20 = .ok (.getfield 9, 3) := by decide +kernel
theorem dX5_indexOf_23 : decode cX5_indexOf 23 = .ok (.iload_n 2, 1) := by decide +kernel
theorem dX5_indexOf_24 : decode cX5_indexOf 24 = .ok (.iaload, 1) := by decide +kernel
theorem dX5_indexOf_25 : decode cX5_indexOf 25 = .ok (.iload_n 1, 1) := by decide +kernel
theorem dX5_indexOf_26 : decode cX5_indexOf 26 = .ok (.if_icmp .ne 5, 3) := by decide +kernel
theorem dX5_indexOf_29 : decode cX5_indexOf 29 = .ok (.iload_n 2, 1) := by decide +kernel
theorem dX5_indexOf_30 : decode cX5_indexOf 30 = .ok (.ireturn, 1) := by decide +kernel
theorem dX5_indexOf_31 : decode cX5_indexOf 31 = .ok (.iinc 2 1, 3) := by decide +kernel
theorem dX5_indexOf_34 : decode cX5_indexOf 34 = .ok (.goto (-32), 3) := by decide +kernel
theorem dX5_indexOf_37 : decode cX5_indexOf 37 = .ok (.iconst (-1), 1) := by decide +kernel
theorem dX5_indexOf_38 : decode cX5_indexOf 38 = .ok (.ireturn, 1) := by decide +kernel
theorem dX5_has_0 : decode cX5_has 0 = .ok (.aload_n 0, 1) := by decide +kernel
theorem dX5_has_1 : decode cX5_has 1 = .ok (.iload_n 1, 1) := by decide +kernel
theorem dX5_has_2 : decode cX5_has 2 = .ok (.invokevirtual 27, 3) := by decide +kernel
theorem dX5_has_5 : decode cX5_has 5 = .ok (.ifCond .lt 7, 3) := by decide +kernel
theorem dX5_has_8 : decode cX5_has 8 = .ok (.iconst 1, 1) := by decide +kernel
theorem dX5_has_9 : decode cX5_has 9 = .ok (.goto 4, 3) := by decide +kernel
theorem dX5_has_12 : decode cX5_has 12 = .ok (.iconst 0, 1) := by decide +kernel
theorem dX5_has_13 : decode cX5_has 13 = .ok (.ireturn, 1) := by decide +kernel
theorem dX5_shorten_0 : decode cX5_shorten 0 = .ok (.aload_n 0, 1) := by decide +kernel
theorem dX5_shorten_1 : decode cX5_shorten 1 = .ok (.aload_n 0, 1) := by decide +kernel
theorem dX5_shorten_2 : decode cX5_shorten 2 = .ok (.getfield 15, 3) := by decide +kernel
theorem dX5_shorten_5 : decode cX5_shorten 5 = .ok (.ifCond .le 12, 3) := by decide +kernel
theorem dX5_shorten_8 : decode cX5_shorten 8 = .ok (.aload_n 0, 1) := by decide +kernel
theorem dX5_shorten_9 : decode cX5_shorten 9 = .ok (.getfield 15, 3) := by decide +kernel
theorem dX5_shorten_12 : decode cX5_shorten 12 = .ok (.iconst 1, 1) := by decide +kernel
theorem dX5_shorten_13 : decode cX5_shorten 13 = .ok (.isub, 1) := by decide +kernel
theorem dX5_shorten_14 : decode cX5_shorten 14 = .ok (.goto 4, 3) := by decide +kernel
theorem dX5_shorten_17 : decode cX5_shorten 17 = .ok (.iconst 0, 1) := by decide +kernel
theorem dX5_shorten_18 : decode cX5_shorten 18 = .ok (.putfield 15, 3) := by decide +kernel
theorem dX5_shorten_21 : decode cX5_shorten 21 = .ok (.return_, 1) := by decide +kernel
theorem dX5_clear_0 : decode cX5_clear 0 = .ok (.aload_n 0, 1) := by decide +kernel
theorem dX5_clear_1 : decode cX5_clear 1 = .ok (.iconst 0, 1) := by decide +kernel
theorem dX5_clear_2 : decode cX5_clear 2 = .ok (.putfield 15, 3) := by decide +kernel
theorem dX5_clear_5 : decode cX5_clear 5 = .ok (.return_, 1) := by decide +kernel
theorem dX5_copy_0 : decode cX5_copy 0 = .ok (.aload_n 0, 1) := by decide +kernel
theorem dX5_copy_1 : decode cX5_copy 1 = .ok (.ifnull 20, 3) := by decide +kernel
theorem dX5_copy_4 : decode cX5_copy 4 = .ok (.aload_n 1, 1) := by decide +kernel
theorem dX5_copy_5 : decode cX5_copy 5 = .ok (.ifnull 16, 3) := by decide +kernel
theorem dX5_copy_8 : decode cX5_copy 8 = .ok (.aload_n 0, 1) := by decide +kernel
theorem dX5_copy_9 : decode cX5_copy 9 = .ok (.getfield 9, 3) := by decide +kernel
theorem dX5_copy_12 : decode cX5_copy 12 = .ok (.arraylength, 1) := by decide +kernel
theorem dX5_copy_13 : decode cX5_copy 13 = .ok (.aload_n 1, 1) := by decide +kernel
theorem dX5_copy_14 : decode cX5_copy 14 = .ok (.getfield 9, 3) := by decide +kernel
theorem dX5_copy_17 : decode cX5_copy 17 = .ok (.arraylength, 1) := by decide +kernel
theorem dX5_copy_18 : decode cX5_copy 18 = .ok (.if_icmp .eq 4, 3) := by decide +kernel
theorem dX5_copy_21 : decode cX5_copy 21 = .ok (.return_, 1) := by decide +kernel
theorem dX5_copy_22 : decode cX5_copy 22 = .ok (.aload_n 0, 1) := by decide +kernel
theorem dX5_copy_23 : decode cX5_copy 23 = .ok (.getfield 9, 3) := by decide +kernel
theorem dX5_copy_26 : decode cX5_copy 26 = .ok (.iconst 0, 1) := by decide +kernel
theorem dX5_copy_27 : decode cX5_copy 27 = .ok (.aload_n 1, 1) := by decide +kernel
theorem dX5_copy_28 : decode cX5_copy 28 = .ok (.getfield 9, 3) := by decide +kernel
theorem dX5_copy_31 : decode cX5_copy 31 = .ok (.iconst 0, 1) := by decide +kernel
theorem dX5_copy_32 : decode cX5_copy 32 = .ok (.aload_n 0, 1) := by decide +kernel
theorem dX5_copy_33 : decode cX5_copy 33 = .ok (.getfield 9, 3) := by decide +kernel
theorem dX5_copy_36 : decode cX5_copy 36 = .ok (.arraylength, 1) := by decide +kernel
theorem dX5_copy_37 : decode cX5_copy 37 = .ok (.invokestatic 30, 3) := by decide +kernel
theorem dX5_copy_40 : decode cX5_copy 40 = .ok (.aload_n 1, 1) := by decide +kernel
theorem dX5_copy_41 : decode cX5_copy 41 = .ok (.aload_n 0, 1) := by decide +kernel
theorem dX5_copy_42 : decode cX5_copy 42 = .ok (.getfield 15, 3) := by decide +kernel
theorem dX5_copy_45 : decode cX5_copy 45 = .ok (.putfield 15, 3) := by decide +kernel
theorem dX5_copy_48 : decode cX5_copy 48 = .ok (.return_, 1) := by decide +kernel
theorem dX8_init_0 : decode cX8_init 0 = .ok (.aload_n 0, 1) := by decide +kernel
theorem dX8_init_1 : decode cX8_init 1 = .ok (.invokespecial 3, 3) := by decide +kernel
theorem dX8_init_4 : decode cX8_init 4 = .ok (.aload_n 0, 1) := by decide +kernel
theorem dX8_init_5 : decode cX8_init 5 = .ok (.aload_n 1, 1) := by decide +kernel
theorem dX8_init_6 : decode cX8_init 6 = .ok (.bipush 27, 2) := by decide +kernel
theorem dX8_init_8 : decode cX8_init 8 = .ok (.invokevirtual 9, 3) := by decide +kernel
theorem dX8_init_11 : decode cX8_init 11 = .ok (.putfield 15, 3) := by decide +kernel
theorem dX8_init_14 : decode cX8_init 14 = .ok (.aload_n 0, 1) := by decide +kernel
theorem dX8_init_15 : decode cX8_init 15 = .ok (.aload_n 1, 1) := by decide +kernel
theorem dX8_init_16 : decode cX8_init 16 = .ok (.bipush 27, 2) := by decide +kernel
theorem dX8_init_18 : decode cX8_init 18 = .ok (.invokevirtual 9, 3) := by decide +kernel
theorem dX8_init_21 : decode cX8_init 21 = .ok (.putfield 21, 3) := by decide +kernel
theorem dX8_init_24 : decode cX8_init 24 = .ok (.aload_n 0, 1) := by decide +kernel
theorem dX8_init_25 : decode cX8_init 25 = .ok (.aload_n 1, 1) := by decide +kernel
theorem dX8_init_26 : decode cX8_init 26 = .ok (.bipush 27, 2) := by decide +kernel
theorem dX8_init_28 : decode cX8_init 28 = .ok (.invokevirtual 9, 3) := by decide +kernel
theorem dX8_init_31 : decode cX8_init 31 = .ok (.putfield 24, 3) := by decide +kernel
theorem dX8_init_34 : decode cX8_init 34 = .ok (.aload_n 0, 1) := by decide +kernel
theorem dX8_init_35 : decode cX8_init 35 = .ok (.aload_n 1, 1) := by decide +kernel
theorem dX8_init_36 : decode cX8_init 36 = .ok (.bipush 20, 2) := by decide +kernel
theorem dX8_init_38 : decode cX8_init 38 = .ok (.invokevirtual 9, 3) := by decide +kernel
theorem dX8_init_41 : decode cX8_init 41 = .ok (.putfield 27, 3) := by decide +kernel
theorem dX8_init_44 : decode cX8_init 44 = .ok (.aload_n 0, 1) := by decide +kernel
theorem dX8_init_45 : decode cX8_init 45 = .ok (.aload_n 1, 1) := by decide +kernel
theorem dX8_init_46 : decode cX8_init 46 = .ok (.bipush 20, 2) := by decide +kernel
theorem dX8_init_48 : decode cX8_init 48 = .ok (.invokevirtual 9, 3) := by decide +kernel
theorem dX8_init_51 : decode cX8_init 51 = .ok (.putfield 30, 3) := by decide +kernel
theorem dX8_init_54 : decode cX8_init 54 = .ok (.aload_n 0, 1) := by decide +kernel
theorem dX8_init_55 : decode cX8_init 55 = .ok (.aload_n 1, 1) := by decide +kernel
theorem dX8_init_56 : decode cX8_init 56 = .ok (.sipush 540, 3) := by decide +kernel
theorem dX8_init_59 : decode cX8_init 59 = .ok (.invokevirtual 9, 3) := by decide +kernel
theorem dX8_init_62 : decode cX8_init 62 = .ok (.putfield 33, 3) := by decide +kernel
theorem dX8_init_65 : decode cX8_init 65 = .ok (.aload_n 0, 1) := by decide +kernel
theorem dX8_init_66 : decode cX8_init 66 = .ok (.getfield 15, 3) := by decide +kernel
theorem dX8_init_69 : decode cX8_init 69 = .ok (.iconst 2, 1) := by decide +kernel
theorem dX8_init_70 : decode cX8_init 70 = .ok (.invokevirtual 36, 3) := by decide +kernel
theorem dX8_init_73 : decode cX8_init 73 = .ok (.aload_n 0, 1) := by decide +kernel
theorem dX8_init_74 : decode cX8_init 74 = .ok (.getfield 15, 3) := by decide +kernel
theorem dX8_init_77 : decode cX8_init 77 = .ok (.bipush 26, 2) := by decide +kernel
theorem dX8_init_79 : decode cX8_init 79 = .ok (.iconst 1, 1) := by decide +kernel
theorem dX8_init_80 : decode cX8_init 80 = .ok (.invokevirtual 42, 3) := by decide +kernel
theorem dX8_init_83 : decode cX8_init 83 = .ok (.return_, 1) := by decide +kernel
theorem dX8_castAnew_0 : decode cX8_castAnew 0 = .ok (.aload_n 0, 1) := by decide +kernel
theorem dX8_castAnew_1 : decode cX8_castAnew 1 = .ok (.getfield 24, 3) := by decide +kernel
theorem dX8_castAnew_4 : decode cX8_castAnew 4 = .ok (.iload_n 1, 1) := by decide +kernel
theorem dX8_castAnew_5 : decode cX8_castAnew 5 = .ok (.iload_n 2, 1) := by decide +kernel
theorem dX8_castAnew_6 : decode cX8_castAnew 6 = .ok (.aload_n 0, 1) := by decide +kernel
theorem dX8_castAnew_7 : decode cX8_castAnew 7 = .ok (.getfield 24, 3) := by decide +kernel
theorem dX8_castAnew_10 : decode cX8_castAnew 10 = .ok (.iload_n 1, 1) := by decide +kernel
theorem dX8_castAnew_11 : decode cX8_castAnew 11 = .ok (.invokevirtual 46, 3) := by decide +kernel
theorem dX8_castAnew_14 : decode cX8_castAnew 14 = .ok (.invokestatic 50, 3) := by decide +kernel
theorem dX8_castAnew_17 : decode cX8_castAnew 17 = .ok (.ineg, 1) := by decide +kernel
theorem dX8_castAnew_18 : decode cX8_castAnew 18 = .ok (.invokevirtual 56, 3) := by decide +kernel
theorem dX8_castAnew_21 : decode cX8_castAnew 21 = .ok (.aload_n 0, 1) := by decide +kernel
theorem dX8_castAnew_22 : decode cX8_castAnew 22 = .ok (.getfield 21, 3) := by decide +kernel
theorem dX8_castAnew_25 : decode cX8_castAnew 25 = .ok (.iload_n 1, 1) := by decide +kernel
theorem dX8_castAnew_26 : decode cX8_castAnew 26 = .ok (.iload_n 2, 1) := by decide +kernel
theorem dX8_castAnew_27 : decode cX8_castAnew 27 = .ok (.invokevirtual 56, 3) := by decide +kernel
theorem dX8_castAnew_30 : decode cX8_castAnew 30 = .ok (.aload_n 0, 1) := by decide +kernel
theorem dX8_castAnew_31 : decode cX8_castAnew 31 = .ok (.getfield 21, 3) := by decide +kernel
theorem dX8_castAnew_34 : decode cX8_castAnew 34 = .ok (.iload_n 1, 1) := by decide +kernel
theorem dX8_castAnew_35 : decode cX8_castAnew 35 = .ok (.invokevirtual 46, 3) := by decide +kernel
theorem dX8_castAnew_38 : decode cX8_castAnew 38 = .ok (.ireturn, 1) := by decide +kernel
theorem dX8_hasPage_0 : decode cX8_hasPage 0 = .ok (.iload_n 1, 1) := by decide +kernel
theorem dX8_hasPage_1 : decode cX8_hasPage 1 = .ok (.ifCond .lt 18, 3) := by decide +kernel
theorem dX8_hasPage_4 : decode cX8_hasPage 4 = .ok (.iload_n 1, 1) := by decide +kernel
theorem dX8_hasPage_5 : decode cX8_hasPage 5 = .ok (.aload_n 0, 1) := by decide +kernel
theorem dX8_hasPage_6 : decode cX8_hasPage 6 = .ok (.getfield 27, 3) := by decide +kernel
theorem dX8_hasPage_9 : decode cX8_hasPage 9 = .ok (.invokevirtual 59, 3) := by decide +kernel
theorem dX8_hasPage_12 : decode cX8_hasPage 12 = .ok (.if_icmp .ge 7, 3) := by decide +kernel
theorem dX8_hasPage_15 : decode cX8_hasPage 15 = .ok (.iconst 1, 1) := by decide +kernel
theorem dX8_hasPage_16 : decode cX8_hasPage 16 = .ok (.goto 4, 3) := by decide +kernel
theorem dX8_hasPage_19 : decode cX8_hasPage 19 = .ok (.iconst 0, 1) := by decide +kernel
theorem dX8_hasPage_20 : decode cX8_hasPage 20 = .ok (.ireturn, 1) := by decide +kernel
theorem dX8_hasAllPages_0 : decode cX8_hasAllPages 0 = .ok (.aload_n 0, 1) := by decide +kernel
theorem dX8_hasAllPages_1 : decode cX8_hasAllPages 1 = .ok (.getfield 27, 3) := by decide +kernel
theorem dX8_hasAllPages_4 : decode cX8_hasAllPages 4 = .ok (.invokevirtual 63, 3) := by decide +kernel
theorem dX8_hasAllPages_7 : decode cX8_hasAllPages 7 = .ok (.ireturn, 1) := by decide +kernel
theorem dX8_stands_0 : decode cX8_stands 0 = .ok (.aload_n 0, 1) := by decide +kernel
theorem dX8_stands_1 : decode cX8_stands 1 = .ok (.getfield 30, 3) := by decide +kernel
theorem dX8_stands_4 : decode cX8_stands 4 = .ok (.iload_n 1, 1) := by decide +kernel
theorem dX8_stands_5 : decode cX8_stands 5 = .ok (.invokevirtual 46, 3) := by decide +kernel
theorem dX8_stands_8 : decode cX8_stands 8 = .ok (.iconst 1, 1) := by decide +kernel
theorem dX8_stands_9 : decode cX8_stands 9 = .ok (.if_icmp .ne 7, 3) := by decide +kernel
theorem dX8_stands_12 : decode cX8_stands 12 = .ok (.iconst 1, 1) := by decide +kernel
theorem dX8_stands_13 : decode cX8_stands 13 = .ok (.goto 4, 3) := by decide +kernel
theorem dX8_stands_16 : decode cX8_stands 16 = .ok (.iconst 0, 1) := by decide +kernel
theorem dX8_stands_17 : decode cX8_stands 17 = .ok (.ireturn, 1) := by decide +kernel
theorem dX8_standing_0 : decode cX8_standing 0 = .ok (.iconst 0, 1) := by decide +kernel
theorem dX8_standing_1 : decode cX8_standing 1 = .ok (.istore_n 1, 1) := by decide +kernel
theorem dX8_standing_2 : decode cX8_standing 2 = .ok (.iconst 0, 1) := by decide +kernel
theorem dX8_standing_3 : decode cX8_standing 3 = .ok (.istore_n 2, 1) := by decide +kernel
theorem dX8_standing_4 : decode cX8_standing 4 = .ok (.iload_n 2, 1) := by decide +kernel
theorem dX8_standing_5 : decode cX8_standing 5 = .ok (.aload_n 0, 1) := by decide +kernel
theorem dX8_standing_6 : decode cX8_standing 6 = .ok (.getfield 27, 3) := by decide +kernel
theorem dX8_standing_9 : decode cX8_standing 9 = .ok (.invokevirtual 59, 3) := by decide +kernel
theorem dX8_standing_12 : decode cX8_standing 12 = .ok (.if_icmp .ge 20, 3) := by decide +kernel
theorem dX8_standing_15 : decode cX8_standing 15 = .ok (.iload_n 1, 1) := by decide +kernel
theorem dX8_standing_16 : decode cX8_standing 16 = .ok (.aload_n 0, 1) := by decide +kernel
theorem dX8_standing_17 : decode cX8_standing 17 = .ok (.getfield 30, 3) := by decide +kernel
theorem dX8_standing_20 : decode cX8_standing 20 = .ok (.iload_n 2, 1) := by decide +kernel
theorem dX8_standing_21 : decode cX8_standing 21 = .ok (.invokevirtual 46, 3) := by decide +kernel
theorem dX8_standing_24 : decode cX8_standing 24 = .ok (.iadd, 1) := by decide +kernel
theorem dX8_standing_25 : decode cX8_standing 25 = .ok (.istore_n 1, 1) := by decide +kernel
theorem dX8_standing_26 : decode cX8_standing 26 = .ok (.iinc 2 1, 3) := by decide +kernel
theorem dX8_standing_29 : decode cX8_standing 29 = .ok (.goto (-25), 3) := by decide +kernel
theorem dX8_standing_32 : decode cX8_standing 32 = .ok (.iload_n 1, 1) := by decide +kernel
theorem dX8_standing_33 : decode cX8_standing 33 = .ok (.ireturn, 1) := by decide +kernel
theorem dX8_inPages_0 : decode cX8_inPages 0 = .ok (.iconst 0, 1) := by decide +kernel
theorem dX8_inPages_1 : decode cX8_inPages 1 = .ok (.istore_n 2, 1) := by decide +kernel
theorem dX8_inPages_2 : decode cX8_inPages 2 = .ok (.iconst 0, 1) := by decide +kernel
theorem dX8_inPages_3 : decode cX8_inPages 3 = .ok (.istore_n 3, 1) := by decide +kernel
theorem dX8_inPages_4 : decode cX8_inPages 4 = .ok (.iload_n 3, 1) := by decide +kernel
theorem dX8_inPages_5 : decode cX8_inPages 5 = .ok (.aload_n 0, 1) := by decide +kernel
theorem dX8_inPages_6 : decode cX8_inPages 6 = .ok (.getfield 27, 3) := by decide +kernel
theorem dX8_inPages_9 : decode cX8_inPages 9 = .ok (.invokevirtual 59, 3) := by decide +kernel
theorem dX8_inPages_12 : decode cX8_inPages 12 = .ok (.if_icmp .ge 37, 3) := by decide +kernel
theorem dX8_inPages_15 : decode cX8_inPages 15 = .ok (.iload_n 2, 1) := by decide +kernel
theorem dX8_inPages_16 : decode cX8_inPages 16 = .ok (.aload_n 0, 1) := by decide +kernel
theorem dX8_inPages_17 : decode cX8_inPages 17 = .ok (.iload_n 3, 1) := by decide +kernel
theorem dX8_inPages_18 : decode cX8_inPages 18 = .ok (.invokevirtual 67, 3) := by decide +kernel
theorem dX8_inPages_21 : decode cX8_inPages 21 = .ok (.ifCond .eq 19, 3) := by decide +kernel
theorem dX8_inPages_24 : decode cX8_inPages 24 = .ok (.aload_n 0, 1) := by decide +kernel
theorem dX8_inPages_25 : decode cX8_inPages 25 = .ok (.getfield 33, 3) := by decide +kernel
theorem dX8_inPages_28 : decode cX8_inPages 28 = .ok (.iload_n 3, 1) := by decide +kernel
theorem dX8_inPages_29 : decode cX8_inPages 29 = .ok (.bipush 27, 2) := by decide +kernel
theorem dX8_inPages_31 : decode cX8_inPages 31 = .ok (.imul, 1) := by decide +kernel
theorem dX8_inPages_32 : decode cX8_inPages 32 = .ok (.iload_n 1, 1) := by decide +kernel
theorem dX8_inPages_33 : decode cX8_inPages 33 = .ok (.iadd, 1) := by decide +kernel
theorem dX8_inPages_34 : decode cX8_inPages 34 = .ok (.invokevirtual 46, 3) := by decide +kernel
theorem dX8_inPages_37 : decode cX8_inPages 37 = .ok (.goto 4, 3) := by decide +kernel
theorem dX8_inPages_40 : decode cX8_inPages 40 = .ok (.iconst 0, 1) := by decide +kernel
theorem dX8_inPages_41 : decode cX8_inPages 41 = .ok (.iadd, 1) := by decide +kernel
theorem dX8_inPages_42 : decode cX8_inPages 42 = .ok (.istore_n 2, 1) := by decide +kernel
theorem dX8_inPages_43 : decode cX8_inPages 43 = .ok (.iinc 3 1, 3) := by decide +kernel
theorem dX8_inPages_46 : decode cX8_inPages 46 = .ok (.goto (-42), 3) := by decide +kernel
theorem dX8_inPages_49 : decode cX8_inPages 49 = .ok (.iload_n 2, 1) := by decide +kernel
theorem dX8_inPages_50 : decode cX8_inPages 50 = .ok (.ireturn, 1) := by decide +kernel
theorem dX8_lacking_0 : decode cX8_lacking 0 = .ok (.iconst 0, 1) := by decide +kernel
theorem dX8_lacking_1 : decode cX8_lacking 1 = .ok (.istore_n 2, 1) := by decide +kernel
theorem dX8_lacking_2 : decode cX8_lacking 2 = .ok (.iload_n 2, 1) := by decide +kernel
theorem dX8_lacking_3 : decode cX8_lacking 3 = .ok (.bipush 27, 2) := by decide +kernel
theorem dX8_lacking_5 : decode cX8_lacking 5 = .ok (.if_icmp .ge 27, 3) := by decide +kernel
theorem dX8_lacking_8 : decode cX8_lacking 8 = .ok (.aload_n 0, 1) := by decide +kernel
theorem dX8_lacking_9 : decode cX8_lacking 9 = .ok (.getfield 21, 3) := by decide +kernel
theorem dX8_lacking_12 : decode cX8_lacking 12 = .ok (.iload_n 2, 1) := by decide +kernel
theorem dX8_lacking_13 : decode cX8_lacking 13 = .ok (.invokevirtual 46, 3) := by decide +kernel
theorem dX8_lacking_16 : decode cX8_lacking 16 = .ok (.aload_n 1, 1) := by decide +kernel
theorem dX8_lacking_17 : decode cX8_lacking 17 = .ok (.iload_n 2, 1) := by decide +kernel
theorem dX8_lacking_18 : decode cX8_lacking 18 = .ok (.invokevirtual 46, 3) := by decide +kernel
theorem dX8_lacking_21 : decode cX8_lacking 21 = .ok (.if_icmp .ge 5, 3) := by decide +kernel
theorem dX8_lacking_24 : decode cX8_lacking 24 = .ok (.iload_n 2, 1) := by decide +kernel
theorem dX8_lacking_25 : decode cX8_lacking 25 = .ok (.ireturn, 1) := by decide +kernel
theorem dX8_lacking_26 : decode cX8_lacking 26 = .ok (.iinc 2 1, 3) := by decide +kernel
theorem dX8_lacking_29 : decode cX8_lacking 29 = .ok (.goto (-27), 3) := by decide +kernel
theorem dX8_lacking_32 : decode cX8_lacking 32 = .ok (.bipush (-5), 2) := by decide +kernel
theorem dX8_lacking_34 : decode cX8_lacking 34 = .ok (.ireturn, 1) := by decide +kernel
theorem dX8_putUp_0 : decode cX8_putUp 0 = .ok (.aload_n 0, 1) := by decide +kernel
theorem dX8_putUp_1 : decode cX8_putUp 1 = .ok (.getfield 27, 3) := by decide +kernel
theorem dX8_putUp_4 : decode cX8_putUp 4 = .ok (.iconst 0, 1) := by decide +kernel
theorem dX8_putUp_5 : decode cX8_putUp 5 = .ok (.invokevirtual 71, 3) := by decide +kernel
theorem dX8_putUp_8 : decode cX8_putUp 8 = .ok (.istore_n 2, 1) := by decide +kernel
theorem dX8_putUp_9 : decode cX8_putUp 9 = .ok (.aload_n 0, 1) := by decide +kernel
theorem dX8_putUp_10 : decode cX8_putUp 10 = .ok (.getfield 30, 3) := by decide +kernel
theorem dX8_putUp_13 : decode cX8_putUp 13 = .ok (.iload_n 2, 1) := by decide +kernel
theorem dX8_putUp_14 : decode cX8_putUp 14 = .ok (.iconst 1, 1) := by decide +kernel
theorem dX8_putUp_15 : decode cX8_putUp 15 = .ok (.invokevirtual 42, 3) := by decide +kernel
theorem dX8_putUp_18 : decode cX8_putUp 18 = .ok (.iconst 0, 1) := by decide +kernel
theorem dX8_putUp_19 : decode cX8_putUp 19 = .ok (.istore_n 3, 1) := by decide +kernel
theorem dX8_putUp_20 : decode cX8_putUp 20 = .ok (.iload_n 3, 1) := by decide +kernel
theorem dX8_putUp_21 : decode cX8_putUp 21 = .ok (.bipush 27, 2) := by decide +kernel
theorem dX8_putUp_23 : decode cX8_putUp 23 = .ok (.if_icmp .ge 41, 3) := by decide +kernel
theorem dX8_putUp_26 : decode cX8_putUp 26 = .ok (.aload_n 0, 1) := by decide +kernel
theorem dX8_putUp_27 : decode cX8_putUp 27 = .ok (.getfield 33, 3) := by decide +kernel
theorem dX8_putUp_30 : decode cX8_putUp 30 = .ok (.iload_n 2, 1) := by decide +kernel
theorem dX8_putUp_31 : decode cX8_putUp 31 = .ok (.bipush 27, 2) := by decide +kernel
theorem dX8_putUp_33 : decode cX8_putUp 33 = .ok (.imul, 1) := by decide +kernel
theorem dX8_putUp_34 : decode cX8_putUp 34 = .ok (.iload_n 3, 1) := by decide +kernel
theorem dX8_putUp_35 : decode cX8_putUp 35 = .ok (.iadd, 1) := by decide +kernel
theorem dX8_putUp_36 : decode cX8_putUp 36 = .ok (.aload_n 1, 1) := by decide +kernel
theorem dX8_putUp_37 : decode cX8_putUp 37 = .ok (.iload_n 3, 1) := by decide +kernel
theorem dX8_putUp_38 : decode cX8_putUp 38 = .ok (.invokevirtual 46, 3) := by decide +kernel
theorem dX8_putUp_41 : decode cX8_putUp 41 = .ok (.invokevirtual 42, 3) := by decide +kernel
theorem dX8_putUp_44 : decode cX8_putUp 44 = .ok (.aload_n 0, 1) := by decide +kernel
theorem dX8_putUp_45 : decode cX8_putUp 45 = .ok (.getfield 21, 3) := by decide +kernel
theorem dX8_putUp_48 : decode cX8_putUp 48 = .ok (.iload_n 3, 1) := by decide +kernel
theorem dX8_putUp_49 : decode cX8_putUp 49 = .ok (.aload_n 1, 1) := by decide +kernel
theorem dX8_putUp_50 : decode cX8_putUp 50 = .ok (.iload_n 3, 1) := by decide +kernel
theorem dX8_putUp_51 : decode cX8_putUp 51 = .ok (.invokevirtual 46, 3) := by decide +kernel
theorem dX8_putUp_54 : decode cX8_putUp 54 = .ok (.ineg, 1) := by decide +kernel
theorem dX8_putUp_55 : decode cX8_putUp 55 = .ok (.invokevirtual 56, 3) := by decide +kernel
theorem dX8_putUp_58 : decode cX8_putUp 58 = .ok (.iinc 3 1, 3) := by decide +kernel
theorem dX8_putUp_61 : decode cX8_putUp 61 = .ok (.goto (-41), 3) := by decide +kernel
theorem dX8_putUp_64 : decode cX8_putUp 64 = .ok (.iload_n 2, 1) := by decide +kernel
theorem dX8_putUp_65 : decode cX8_putUp 65 = .ok (.ireturn, 1) := by decide +kernel
theorem dX8_takeDown_0 : decode cX8_takeDown 0 = .ok (.iconst 0, 1) := by decide +kernel
theorem dX8_takeDown_1 : decode cX8_takeDown 1 = .ok (.istore_n 2, 1) := by decide +kernel
theorem dX8_takeDown_2 : decode cX8_takeDown 2 = .ok (.iconst 0, 1) := by decide +kernel
theorem dX8_takeDown_3 : decode cX8_takeDown 3 = .ok (.istore_n 3, 1) := by decide +kernel
theorem dX8_takeDown_4 : decode cX8_takeDown 4 = .ok (.iload_n 3, 1) := by decide +kernel
theorem dX8_takeDown_5 : decode cX8_takeDown 5 = .ok (.bipush 27, 2) := by decide +kernel
theorem dX8_takeDown_7 : decode cX8_takeDown 7 = .ok (.if_icmp .ge 74, 3) := by decide +kernel
theorem dX8_takeDown_10 : decode cX8_takeDown 10 = .ok (.aload_n 0, 1) := by decide +kernel
theorem dX8_takeDown_11 : decode cX8_takeDown 11 = .ok (.getfield 33, 3) := by decide +kernel
theorem dX8_takeDown_14 : decode cX8_takeDown 14 = .ok (.iload_n 1, 1) := by decide +kernel
theorem dX8_takeDown_15 : decode cX8_takeDown 15 = .ok (.bipush 27, 2) := by decide +kernel
theorem dX8_takeDown_17 : decode cX8_takeDown 17 = .ok (.imul, 1) := by decide +kernel
theorem dX8_takeDown_18 : decode cX8_takeDown 18 = .ok (.iload_n 3, 1) := by decide +kernel
theorem dX8_takeDown_19 : decode cX8_takeDown 19 = .ok (.iadd, 1) := by decide +kernel
theorem dX8_takeDown_20 : decode cX8_takeDown 20 = .ok (.invokevirtual 46, 3) := by decide +kernel
theorem dX8_takeDown_23 : decode cX8_takeDown 23 = .ok (.istore 4, 2) := by decide +kernel
theorem dX8_takeDown_25 : decode cX8_takeDown 25 = .ok (.iload 4, 2) := by decide +kernel
theorem dX8_takeDown_27 : decode cX8_takeDown 27 = .ok (.iload 4, 2) := by decide +kernel
theorem dX8_takeDown_29 : decode cX8_takeDown 29 = .ok (.aload_n 0, 1) := by decide +kernel
theorem dX8_takeDown_30 : decode cX8_takeDown 30 = .ok (.getfield 27, 3) := by decide +kernel
theorem dX8_takeDown_33 : decode cX8_takeDown 33 = .ok (.iload_n 1, 1) := by decide +kernel
theorem dX8_takeDown_34 : decode cX8_takeDown 34 = .ok (.invokevirtual 46, 3) := by decide +kernel
theorem dX8_takeDown_37 : decode cX8_takeDown 37 = .ok (.imul, 1) := by decide +kernel
theorem dX8_takeDown_38 : decode cX8_takeDown 38 = .ok (.sipush 10000, 3) := by decide +kernel
theorem dX8_takeDown_41 : decode cX8_takeDown 41 = .ok (.idiv, 1) := by decide +kernel
theorem dX8_takeDown_42 : decode cX8_takeDown 42 = .ok (.invokestatic 50, 3) := by decide +kernel
theorem dX8_takeDown_45 : decode cX8_takeDown 45 = .ok (.istore 5, 2) := by decide +kernel
theorem dX8_takeDown_47 : decode cX8_takeDown 47 = .ok (.aload_n 0, 1) := by decide +kernel
theorem dX8_takeDown_48 : decode cX8_takeDown 48 = .ok (.getfield 24, 3) := by decide +kernel
theorem dX8_takeDown_51 : decode cX8_takeDown 51 = .ok (.iload_n 3, 1) := by decide +kernel
theorem dX8_takeDown_52 : decode cX8_takeDown 52 = .ok (.iload 5, 2) := by decide +kernel
theorem dX8_takeDown_54 : decode cX8_takeDown 54 = .ok (.invokevirtual 56, 3) := by decide +kernel
theorem dX8_takeDown_57 : decode cX8_takeDown 57 = .ok (.aload_n 0, 1) := by decide +kernel
theorem dX8_takeDown_58 : decode cX8_takeDown 58 = .ok (.getfield 21, 3) := by decide +kernel
theorem dX8_takeDown_61 : decode cX8_takeDown 61 = .ok (.iload_n 3, 1) := by decide +kernel
theorem dX8_takeDown_62 : decode cX8_takeDown 62 = .ok (.iload 4, 2) := by decide +kernel
theorem dX8_takeDown_64 : decode cX8_takeDown 64 = .ok (.iload 5, 2) := by decide +kernel
theorem dX8_takeDown_66 : decode cX8_takeDown 66 = .ok (.isub, 1) := by decide +kernel
theorem dX8_takeDown_67 : decode cX8_takeDown 67 = .ok (.invokevirtual 56, 3) := by decide +kernel
theorem dX8_takeDown_70 : decode cX8_takeDown 70 = .ok (.iload_n 2, 1) := by decide +kernel
theorem dX8_takeDown_71 : decode cX8_takeDown 71 = .ok (.iload 5, 2) := by decide +kernel
theorem dX8_takeDown_73 : decode cX8_takeDown 73 = .ok (.iadd, 1) := by decide +kernel
theorem dX8_takeDown_74 : decode cX8_takeDown 74 = .ok (.istore_n 2, 1) := by decide +kernel
theorem dX8_takeDown_75 : decode cX8_takeDown 75 = .ok (.iinc 3 1, 3) := by decide +kernel
theorem dX8_takeDown_78 : decode cX8_takeDown 78 = .ok (.goto (-74), 3) := by decide +kernel
theorem dX8_takeDown_81 : decode cX8_takeDown 81 = .ok (.aload_n 0, 1) := by decide +kernel
theorem dX8_takeDown_82 : decode cX8_takeDown 82 = .ok (.getfield 30, 3) := by decide +kernel
theorem dX8_takeDown_85 : decode cX8_takeDown 85 = .ok (.iload_n 1, 1) := by decide +kernel
theorem dX8_takeDown_86 : decode cX8_takeDown 86 = .ok (.iconst 0, 1) := by decide +kernel
theorem dX8_takeDown_87 : decode cX8_takeDown 87 = .ok (.invokevirtual 42, 3) := by decide +kernel
theorem dX8_takeDown_90 : decode cX8_takeDown 90 = .ok (.iload_n 2, 1) := by decide +kernel
theorem dX8_takeDown_91 : decode cX8_takeDown 91 = .ok (.ireturn, 1) := by decide +kernel
