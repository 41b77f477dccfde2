theorem dX6_keepsAssumptions_23 : decode cX6_keepsAssumptions 23 = .ok (.land, 1) := by decide +kernel
theorem dX6_keepsAssumptions_24 : decode cX6_keepsAssumptions 24 = .ok (.lconst 0, 1) := by decide +kernel
theorem dX6_keepsAssumptions_25 : decode cX6_keepsAssumptions 25 = .ok (.lcmp, 1) := by decide +kernel
theorem dX6_keepsAssumptions_26 : decode cX6_keepsAssumptions 26 = .ok (.ifCond .eq 22, 3) := by decide +kernel
theorem dX6_keepsAssumptions_29 : decode cX6_keepsAssumptions 29 = .ok (.aload_n 0, 1) := by decide +kernel
theorem dX6_keepsAssumptions_30 : decode cX6_keepsAssumptions 30 = .ok (.aload_n 0, 1) := by decide +kernel
theorem dX6_keepsAssumptions_31 : decode cX6_keepsAssumptions 31 = .ok (.getfield 22, 3) := by decide +kernel
theorem dX6_keepsAssumptions_34 : decode cX6_keepsAssumptions 34 = .ok (.iload_n 3, 1) := by decide +kernel
theorem dX6_keepsAssumptions_35 : decode cX6_keepsAssumptions 35 = .ok (.iaload, 1) := by decide +kernel
theorem dX6_keepsAssumptions_36 : decode cX6_keepsAssumptions 36 = .ok (.invokevirtual 54, 3) := by decide +kernel
theorem dX6_keepsAssumptions_39 : decode cX6_keepsAssumptions 39 = .ok (.aload_n 2, 1) := by decide +kernel
theorem dX6_keepsAssumptions_40 : decode cX6_keepsAssumptions 40 = .ok (.invokevirtual 58, 3) := by decide +kernel
theorem dX6_keepsAssumptions_43 : decode cX6_keepsAssumptions 43 = .ok (.ifCond .ne 5, 3) := by decide +kernel
theorem dX6_keepsAssumptions_46 : decode cX6_keepsAssumptions 46 = .ok (.iconst 0, 1) := by decide +kernel
theorem dX6_keepsAssumptions_47 : decode cX6_keepsAssumptions 47 = .ok (.ireturn, 1) := by decide +kernel
theorem dX6_keepsAssumptions_48 : decode cX6_keepsAssumptions 48 = .ok (.iinc 3 1, 3) := by decide +kernel
theorem dX6_keepsAssumptions_51 : decode cX6_keepsAssumptions 51 = .ok (.goto (-49), 3) := by decide +kernel
theorem dX6_keepsAssumptions_54 : decode cX6_keepsAssumptions 54 = .ok (.iconst 1, 1) := by decide +kernel
theorem dX6_keepsAssumptions_55 : decode cX6_keepsAssumptions 55 = .ok (.ireturn, 1) := by decide +kernel
theorem dX6_firstProof_0 : decode cX6_firstProof 0 = .ok (.iconst 0, 1) := by decide +kernel
theorem dX6_firstProof_1 : decode cX6_firstProof 1 = .ok (.istore_n 2, 1) := by decide +kernel
theorem dX6_firstProof_2 : decode cX6_firstProof 2 = .ok (.iload_n 2, 1) := by decide +kernel
theorem dX6_firstProof_3 : decode cX6_firstProof 3 = .ok (.sipush 200, 3) := by decide +kernel
theorem dX6_firstProof_6 : decode cX6_firstProof 6 = .ok (.if_icmp .ge 50, 3) := by decide +kernel
theorem dX6_firstProof_9 : decode cX6_firstProof 9 = .ok (.iload_n 2, 1) := by decide +kernel
theorem dX6_firstProof_10 : decode cX6_firstProof 10 = .ok (.aload_n 0, 1) := by decide +kernel
theorem dX6_firstProof_11 : decode cX6_firstProof 11 = .ok (.getfield 26, 3) := by decide +kernel
theorem dX6_firstProof_14 : decode cX6_firstProof 14 = .ok (.if_icmp .ge 42, 3) := by decide +kernel
theorem dX6_firstProof_17 : decode cX6_firstProof 17 = .ok (.aload_n 0, 1) := by decide +kernel
theorem dX6_firstProof_18 : decode cX6_firstProof 18 = .ok (.getfield 11, 3) := by decide +kernel
theorem dX6_firstProof_21 : decode cX6_firstProof 21 = .ok (.iload_n 2, 1) := by decide +kernel
theorem dX6_firstProof_22 : decode cX6_firstProof 22 = .ok (.aaload, 1) := by decide +kernel
theorem dX6_firstProof_23 : decode cX6_firstProof 23 = .ok (.astore_n 3, 1) := by decide +kernel
theorem dX6_firstProof_24 : decode cX6_firstProof 24 = .ok (.aload_n 3, 1) := by decide +kernel
theorem dX6_firstProof_25 : decode cX6_firstProof 25 = .ok (.getfield 50, 3) := by decide +kernel
theorem dX6_firstProof_28 : decode cX6_firstProof 28 = .ok (.lconst 0, 1) := by decide +kernel
theorem dX6_firstProof_29 : decode cX6_firstProof 29 = .ok (.lcmp, 1) := by decide +kernel
theorem dX6_firstProof_30 : decode cX6_firstProof 30 = .ok (.ifCond .ne 20, 3) := by decide +kernel
theorem dX6_firstProof_33 : decode cX6_firstProof 33 = .ok (.aload_n 3, 1) := by decide +kernel
theorem dX6_firstProof_34 : decode cX6_firstProof 34 = .ok (.getfield 62, 3) := by decide +kernel
theorem dX6_firstProof_37 : decode cX6_firstProof 37 = .ok (.iload_n 1, 1) := by decide +kernel
theorem dX6_firstProof_38 : decode cX6_firstProof 38 = .ok (.if_icmp .ne 12, 3) := by decide +kernel
theorem dX6_firstProof_41 : decode cX6_firstProof 41 = .ok (.aload_n 3, 1) := by decide +kernel
theorem dX6_firstProof_42 : decode cX6_firstProof 42 = .ok (.invokevirtual 66, 3) := by decide +kernel
theorem dX6_firstProof_45 : decode cX6_firstProof 45 = .ok (.ifCond .eq 5, 3) := by decide +kernel
theorem dX6_firstProof_48 : decode cX6_firstProof 48 = .ok (.iload_n 2, 1) := by decide +kernel
theorem dX6_firstProof_49 : decode cX6_firstProof 49 = .ok (.ireturn, 1) := by decide +kernel
theorem dX6_firstProof_50 : decode cX6_firstProof 50 = .ok (.iinc 2 1, 3) := by decide +kernel
theorem dX6_firstProof_53 : decode cX6_firstProof 53 = .ok (.goto (-51), 3) := by decide +kernel
theorem dX6_firstProof_56 : decode cX6_firstProof 56 = .ok (.iconst (-1), 1) := by decide +kernel
theorem dX6_firstProof_57 : decode cX6_firstProof 57 = .ok (.ireturn, 1) := by decide +kernel
theorem dX6_greatestBound_0 : decode cX6_greatestBound 0 = .ok (.ldc2_w 69, 3) := by decide +kernel
theorem dX6_greatestBound_3 : decode cX6_greatestBound 3 = .ok (.lstore_n 2, 1) := by decide +kernel
theorem dX6_greatestBound_4 : decode cX6_greatestBound 4 = .ok (.iconst 0, 1) := by decide +kernel
theorem dX6_greatestBound_5 : decode cX6_greatestBound 5 = .ok (.istore 4, 2) := by decide +kernel
theorem dX6_greatestBound_7 : decode cX6_greatestBound 7 = .ok (.iload 4, 2) := by decide +kernel
theorem dX6_greatestBound_9 : decode cX6_greatestBound 9 = .ok (.sipush 200, 3) := by decide +kernel
theorem dX6_greatestBound_12 : decode cX6_greatestBound 12 = .ok (.if_icmp .ge 34, 3) := by decide +kernel
theorem dX6_greatestBound_15 : decode cX6_greatestBound 15 = .ok (.iload 4, 2) := by decide +kernel
theorem dX6_greatestBound_17 : decode cX6_greatestBound 17 = .ok (.aload_n 0, 1) := by decide +kernel
theorem dX6_greatestBound_18 : decode cX6_greatestBound 18 = .ok (.getfield 26, 3) := by decide +kernel
theorem dX6_greatestBound_21 : decode cX6_greatestBound 21 = .ok (.if_icmp .ge 25, 3) := by decide +kernel
theorem dX6_greatestBound_24 : decode cX6_greatestBound 24 = .ok (.lload_n 2, 1) := by decide +kernel
theorem dX6_greatestBound_25 : decode cX6_greatestBound 25 = .ok (.aload_n 0, 1) := by decide +kernel
theorem dX6_greatestBound_26 : decode cX6_greatestBound 26 = .ok (.getfield 11, 3) := by decide +kernel
theorem dX6_greatestBound_29 : decode cX6_greatestBound 29 = .ok (.iload 4, 2) := by decide +kernel
theorem dX6_greatestBound_31 : decode cX6_greatestBound 31 = .ok (.aaload, 1) := by decide +kernel
theorem dX6_greatestBound_32 : decode cX6_greatestBound 32 = .ok (.aload_n 1, 1) := by decide +kernel
theorem dX6_greatestBound_33 : decode cX6_greatestBound 33 = .ok (.invokevirtual 71, 3) := by decide +kernel
theorem dX6_greatestBound_36 : decode cX6_greatestBound 36 = .ok (.invokestatic 75, 3) := by decide +kernel
theorem dX6_greatestBound_39 : decode cX6_greatestBound 39 = .ok (.lstore_n 2, 1) := by decide +kernel
theorem dX6_greatestBound_40 : decode cX6_greatestBound 40 = .ok (.iinc 4 1, 3) := by decide +kernel
theorem dX6_greatestBound_43 : decode cX6_greatestBound 43 = .ok (.goto (-36), 3) := by decide +kernel
theorem dX6_greatestBound_46 : decode cX6_greatestBound 46 = .ok (.lload_n 2, 1) := by decide +kernel
theorem dX6_greatestBound_47 : decode cX6_greatestBound 47 = .ok (.lreturn, 1) := by decide +kernel
theorem dX7_init_0 : decode cX7_init 0 = .ok (.aload_n 0, 1) := by decide +kernel
theorem dX7_init_1 : decode cX7_init 1 = .ok (.invokespecial 3, 3) := by decide +kernel
theorem dX7_init_4 : decode cX7_init 4 = .ok (.aload_n 0, 1) := by decide +kernel
theorem dX7_init_5 : decode cX7_init 5 = .ok (.sipush 1000, 3) := by decide +kernel
theorem dX7_init_8 : decode cX7_init 8 = .ok (.newarray .int, 2) := by decide +kernel
theorem dX7_init_10 : decode cX7_init 10 = .ok (.putfield 9, 3) := by decide +kernel
theorem dX7_init_13 : decode cX7_init 13 = .ok (.return_, 1) := by decide +kernel
theorem dX7_hasRoomFor_0 : decode cX7_hasRoomFor 0 = .ok (.iload_n 1, 1) := by decide +kernel
theorem dX7_hasRoomFor_1 : decode cX7_hasRoomFor 1 = .ok (.aload_n 0, 1) := by decide +kernel
theorem dX7_hasRoomFor_2 : decode cX7_hasRoomFor 2 = .ok (.getfield 9, 3) := by decide +kernel
theorem dX7_hasRoomFor_5 : decode cX7_hasRoomFor 5 = .ok (.arraylength, 1) := by decide +kernel
theorem dX7_hasRoomFor_6 : decode cX7_hasRoomFor 6 = .ok (.aload_n 0, 1) := by decide +kernel
theorem dX7_hasRoomFor_7 : decode cX7_hasRoomFor 7 = .ok (.getfield 15, 3) := by decide +kernel
theorem dX7_hasRoomFor_10 : decode cX7_hasRoomFor 10 = .ok (.isub, 1) := by decide +kernel
theorem dX7_hasRoomFor_11 : decode cX7_hasRoomFor 11 = .ok (.if_icmp .gt 7, 3) := by decide +kernel
theorem dX7_hasRoomFor_14 : decode cX7_hasRoomFor 14 = .ok (.iconst 1, 1) := by decide +kernel
theorem dX7_hasRoomFor_15 : decode cX7_hasRoomFor 15 = .ok (.goto 4, 3) := by decide +kernel
theorem dX7_hasRoomFor_18 : decode cX7_hasRoomFor 18 = .ok (.iconst 0, 1) := by decide +kernel
theorem dX7_hasRoomFor_19 : decode cX7_hasRoomFor 19 = .ok (.ireturn, 1) := by decide +kernel
theorem dX7_append_0 : decode cX7_append 0 = .ok (.aload_n 0, 1) := by decide +kernel
theorem dX7_append_1 : decode cX7_append 1 = .ok (.getfield 15, 3) := by decide +kernel
theorem dX7_append_4 : decode cX7_append 4 = .ok (.ifCond .lt 35, 3) := by decide +kernel
theorem dX7_append_7 : decode cX7_append 7 = .ok (.aload_n 0, 1) := by decide +kernel
theorem dX7_append_8 : decode cX7_append 8 = .ok (.getfield 15, 3) := by decide +kernel
theorem dX7_append_11 : decode cX7_append 11 = .ok (.aload_n 0, 1) := by decide +kernel
theorem dX7_append_12 : decode cX7_append 12 = .ok (.getfield 9, 3) := by decide +kernel
theorem dX7_append_15 : decode cX7_append 15 = .ok (.arraylength, 1) := by decide +kernel
theorem dX7_append_16 : decode cX7_append 16 = .ok (.if_icmp .ge 23, 3) := by decide +kernel
theorem dX7_append_19 : decode cX7_append 19 = .ok (.aload_n 0, 1) := by decide +kernel
theorem dX7_append_20 : decode cX7_append 20 = .ok (.getfield 9, 3) := by decide +kernel
theorem dX7_append_23 : decode cX7_append 23 = .ok (.aload_n 0, 1) := by decide +kernel
theorem dX7_append_24 : decode cX7_append 24 = .ok (.getfield 15, 3) := by decide +kernel
theorem dX7_append_27 : decode cX7_append 27 = .ok (.iload_n 1, 1) := by decide +kernel
theorem dX7_append_28 : decode cX7_append 28 = .ok (.iastore, 1) := by decide +kernel
theorem dX7_append_29 : decode cX7_append 29 = .ok (.aload_n 0, 1) := by decide +kernel
theorem dX7_append_30 : decode cX7_append 30 = .ok (.dup, 1) := by decide +kernel
theorem dX7_append_31 : decode cX7_append 31 = .ok (.getfield 15, 3) := by decide +kernel
theorem dX7_append_34 : decode cX7_append 34 = .ok (.iconst 1, 1) := by decide +kernel
theorem dX7_append_35 : decode cX7_append 35 = .ok (.iadd, 1) := by decide +kernel
theorem dX7_append_36 : decode cX7_append 36 = .ok (.putfield 15, 3) := by decide +kernel
theorem dX7_append_39 : decode cX7_append 39 = .ok (.return_, 1) := by decide +kernel
theorem dX7_clear_0 : decode cX7_clear 0 = .ok (.aload_n 0, 1) := by decide +kernel
theorem dX7_clear_1 : decode cX7_clear 1 = .ok (.iconst 0, 1) := by decide +kernel
theorem dX7_clear_2 : decode cX7_clear 2 = .ok (.putfield 15, 3) := by decide +kernel
theorem dX7_clear_5 : decode cX7_clear 5 = .ok (.return_, 1) := by decide +kernel
theorem dX7_at_0 : decode cX7_at 0 = .ok (.iload_n 1, 1) := by decide +kernel
theorem dX7_at_1 : decode cX7_at 1 = .ok (.ifCond .lt 29, 3) := by decide +kernel
theorem dX7_at_4 : decode cX7_at 4 = .ok (.iload_n 1, 1) := by decide +kernel
theorem dX7_at_5 : decode cX7_at 5 = .ok (.aload_n 0, 1) := by decide +kernel
theorem dX7_at_6 : decode cX7_at 6 = .ok (.getfield 15, 3) := by decide +kernel
theorem dX7_at_9 : decode cX7_at 9 = .ok (.if_icmp .ge 21, 3) := by decide +kernel
theorem dX7_at_12 : decode cX7_at 12 = .ok (.iload_n 1, 1) := by decide +kernel
theorem dX7_at_13 : decode cX7_at 13 = .ok (.aload_n 0, 1) := by decide +kernel
theorem dX7_at_14 : decode cX7_at 14 = .ok (.getfield 9, 3) := by decide +kernel
theorem dX7_at_17 : decode cX7_at 17 = .ok (.arraylength, 1) := by decide +kernel
theorem dX7_at_18 : decode cX7_at 18 = .ok (.if_icmp .ge 12, 3) := by decide +kernel
theorem dX7_at_21 : decode cX7_at 21 = .ok (.aload_n 0, 1) := by decide +kernel
theorem dX7_at_22 : decode cX7_at 22 = .ok (.getfield 9, 3) := by decide +kernel
theorem dX7_at_25 : decode cX7_at 25 = .ok (.iload_n 1, 1) := by decide +kernel
theorem dX7_at_26 : decode cX7_at 26 = .ok (.iaload, 1) := by decide +kernel
theorem dX7_at_27 : decode cX7_at 27 = .ok (.goto 4, 3) := by decide +kernel
theorem dX7_at_30 : decode cX7_at 30 = .ok (.iconst 0, 1) := by decide +kernel
theorem dX7_at_31 : decode cX7_at 31 = .ok (.ireturn, 1) := by decide +kernel
theorem dX7_rewind_0 : decode cX7_rewind 0 = .ok (.aload_n 0, 1) := by decide +kernel
theorem dX7_rewind_1 : decode cX7_rewind 1 = .ok (.iconst 0, 1) := by decide +kernel
theorem dX7_rewind_2 : decode cX7_rewind 2 = .ok (.putfield 19, 3) := by decide +kernel
theorem dX7_rewind_5 : decode cX7_rewind 5 = .ok (.aload_n 0, 1) := by decide +kernel
theorem dX7_rewind_6 : decode cX7_rewind 6 = .ok (.iconst 1, 1) := by decide +kernel
theorem dX7_rewind_7 : decode cX7_rewind 7 = .ok (.putfield 22, 3) := by decide +kernel
theorem dX7_rewind_10 : decode cX7_rewind 10 = .ok (.return_, 1) := by decide +kernel
theorem dX7_next_0 : decode cX7_next 0 = .ok (.aload_n 0, 1) := by decide +kernel
theorem dX7_next_1 : decode cX7_next 1 = .ok (.getfield 22, 3) := by decide +kernel
theorem dX7_next_4 : decode cX7_next 4 = .ok (.ifCond .ne 5, 3) := by decide +kernel
theorem dX7_next_7 : decode cX7_next 7 = .ok (.iload_n 1, 1) := by decide +kernel
theorem dX7_next_8 : decode cX7_next 8 = .ok (.ireturn, 1) := by decide +kernel
theorem dX7_next_9 : decode cX7_next 9 = .ok (.aload_n 0, 1) := by decide +kernel
theorem dX7_next_10 : decode cX7_next 10 = .ok (.getfield 19, 3) := by decide +kernel
theorem dX7_next_13 : decode cX7_next 13 = .ok (.aload_n 0, 1) := by decide +kernel
theorem dX7_next_14 : decode cX7_next 14 = .ok (.getfield 15, 3) := by decide +kernel
theorem dX7_next_17 : decode cX7_next 17 = .ok (.if_icmp .ge 19, 3) := by decide +kernel
theorem dX7_next_20 : decode cX7_next 20 = .ok (.aload_n 0, 1) := by decide +kernel
theorem dX7_next_21 : decode cX7_next 21 = .ok (.aload_n 0, 1) := by decide +kernel
theorem dX7_next_22 : decode cX7_next 22 = .ok (.getfield 19, 3) := by decide +kernel
theorem dX7_next_25 : decode cX7_next 25 = .ok (.invokevirtual 26, 3) := by decide +kernel
theorem dX7_next_28 : decode cX7_next 28 = .ok (.iload_n 1, 1) := by decide +kernel
theorem dX7_next_29 : decode cX7_next 29 = .ok (.iload_n 2, 1) := by decide +kernel
theorem dX7_next_30 : decode cX7_next 30 = .ok (.invokestatic 30, 3) := by decide +kernel
theorem dX7_next_33 : decode cX7_next 33 = .ok (.ifCond .ne 10, 3) := by decide +kernel
theorem dX7_next_36 : decode cX7_next 36 = .ok (.aload_n 0, 1) := by decide +kernel
theorem dX7_next_37 : decode cX7_next 37 = .ok (.iconst 0, 1) := by decide +kernel
theorem dX7_next_38 : decode cX7_next 38 = .ok (.putfield 22, 3) := by decide +kernel
theorem dX7_next_41 : decode cX7_next 41 = .ok (.iload_n 1, 1) := by decide +kernel
theorem dX7_next_42 : decode cX7_next 42 = .ok (.ireturn, 1) := by decide +kernel
theorem dX7_next_43 : decode cX7_next 43 = .ok (.aload_n 0, 1) := by decide +kernel
theorem dX7_next_44 : decode cX7_next 44 = .ok (.aload_n 0, 1) := by decide +kernel
theorem dX7_next_45 : decode cX7_next 45 = .ok (.getfield 19, 3) := by decide +kernel
theorem dX7_next_48 : decode cX7_next 48 = .ok (.invokevirtual 26, 3) := by decide +kernel
theorem dX7_next_51 : decode cX7_next 51 = .ok (.istore_n 3, 1) := by decide +kernel
theorem dX7_next_52 : decode cX7_next 52 = .ok (.aload_n 0, 1) := by decide +kernel
theorem dX7_next_53 : decode cX7_next 53 = .ok (.dup, 1) := by decide +kernel
theorem dX7_next_54 : decode cX7_next 54 = .ok (.getfield 19, 3) := by decide +kernel
theorem dX7_next_57 : decode cX7_next 57 = .ok (.iconst 1, 1) := by decide +kernel
theorem dX7_next_58 : decode cX7_next 58 = .ok (.iadd, 1) := by decide +kernel
theorem dX7_next_59 : decode cX7_next 59 = .ok (.putfield 19, 3) := by decide +kernel
theorem dX7_next_62 : decode cX7_next 62 = .ok (.iload_n 3, 1) := by decide +kernel
theorem dX7_next_63 : decode cX7_next 63 = .ok (.ireturn, 1) := by decide +kernel
theorem dX7_nextBut_0 : decode cX7_nextBut 0 = .ok (.aload_n 0, 1) := by decide +kernel
theorem dX7_nextBut_1 : decode cX7_nextBut 1 = .ok (.getfield 19, 3) := by decide +kernel
theorem dX7_nextBut_4 : decode cX7_nextBut 4 = .ok (.aload_n 0, 1) := by decide +kernel
theorem dX7_nextBut_5 : decode cX7_nextBut 5 = .ok (.getfield 15, 3) := by decide +kernel
theorem dX7_nextBut_8 : decode cX7_nextBut 8 = .ok (.if_icmp .ge 20, 3) := by decide +kernel
theorem dX7_nextBut_11 : decode cX7_nextBut 11 = .ok (.aload_n 0, 1) := by decide +kernel
theorem dX7_nextBut_12 : decode cX7_nextBut 12 = .ok (.aload_n 0, 1) := by decide +kernel
theorem dX7_nextBut_13 : decode cX7_nextBut 13 = .ok (.getfield 19, 3) := by decide +kernel
theorem dX7_nextBut_16 : decode cX7_nextBut 16 = .ok (.invokevirtual 26, 3) := by decide +kernel
theorem dX7_nextBut_19 : decode cX7_nextBut 19 = .ok (.iload_n 1, 1) := by decide +kernel
theorem dX7_nextBut_20 : decode cX7_nextBut 20 = .ok (.if_icmp .ne 8, 3) := by decide +kernel
theorem dX7_nextBut_23 : decode cX7_nextBut 23 = .ok (.aload_n 0, 1) := by decide +kernel
theorem dX7_nextBut_24 : decode cX7_nextBut 24 = .ok (.iconst 0, 1) := by decide +kernel
theorem dX7_nextBut_25 : decode cX7_nextBut 25 = .ok (.putfield 22, 3) := by decide +kernel
theorem dX7_nextBut_28 : decode cX7_nextBut 28 = .ok (.aload_n 0, 1) := by decide +kernel
theorem dX7_nextBut_29 : decode cX7_nextBut 29 = .ok (.iload_n 2, 1) := by decide +kernel
theorem dX7_nextBut_30 : decode cX7_nextBut 30 = .ok (.iload_n 3, 1) := by decide +kernel
theorem dX7_nextBut_31 : decode cX7_nextBut 31 = .ok (.invokevirtual 36, 3) := by decide +kernel
theorem dX7_nextBut_34 : decode cX7_nextBut 34 = .ok (.ireturn, 1) := by decide +kernel
theorem dX7_isReadWhole_0 : decode cX7_isReadWhole 0 = .ok (.aload_n 0, 1) := by decide +kernel
theorem dX7_isReadWhole_1 : decode cX7_isReadWhole 1 = .ok (.getfield 22, 3) := by decide +kernel
theorem dX7_isReadWhole_4 : decode cX7_isReadWhole 4 = .ok (.ifCond .eq 18, 3) := by decide +kernel
theorem dX7_isReadWhole_7 : decode cX7_isReadWhole 7 = .ok (.aload_n 0, 1) := by decide +kernel
theorem dX7_isReadWhole_8 : decode cX7_isReadWhole 8 = .ok (.getfield 19, 3) := by decide +kernel
theorem dX7_isReadWhole_11 : decode cX7_isReadWhole 11 = .ok (.aload_n 0, 1) := by decide +kernel
theorem dX7_isReadWhole_12 : decode cX7_isReadWhole 12 = .ok (.getfield 15, 3) := by decide +kernel
theorem dX7_isReadWhole_15 : decode cX7_isReadWhole 15 = .ok (.if_icmp .ne 7, 3) := by decide +kernel
theorem dX7_isReadWhole_18 : decode cX7_isReadWhole 18 = .ok (.iconst 1, 1) := by decide +kernel
theorem dX7_isReadWhole_19 : decode cX7_isReadWhole 19 = .ok (.goto 4, 3) := by decide +kernel
theorem dX7_isReadWhole_22 : decode cX7_isReadWhole 22 = .ok (.iconst 0, 1) := by decide +kernel
theorem dX7_isReadWhole_23 : decode cX7_isReadWhole 23 = .ok (.ireturn, 1) := by decide +kernel
theorem dX7_isPlanOf_0 : decode cX7_isPlanOf 0 = .ok (.aload_n 0, 1) := by decide +kernel
theorem dX7_isPlanOf_1 : decode cX7_isPlanOf 1 = .ok (.invokevirtual 40, 3) := by decide +kernel
theorem dX7_isPlanOf_4 : decode cX7_isPlanOf 4 = .ok (.iconst 0, 1) := by decide +kernel
theorem dX7_isPlanOf_5 : decode cX7_isPlanOf 5 = .ok (.istore_n 2, 1) := by decide +kernel
theorem dX7_isPlanOf_6 : decode cX7_isPlanOf 6 = .ok (.iload_n 2, 1) := by decide +kernel
theorem dX7_isPlanOf_7 : decode cX7_isPlanOf 7 = .ok (.iload_n 1, 1) := by decide +kernel
theorem dX7_isPlanOf_8 : decode cX7_isPlanOf 8 = .ok (.if_icmp .ge 18, 3) := by decide +kernel
theorem dX7_isPlanOf_11 : decode cX7_isPlanOf 11 = .ok (.aload_n 0, 1) := by decide +kernel
theorem dX7_isPlanOf_12 : decode cX7_isPlanOf 12 = .ok (.ldc 43, 2) := by decide +kernel
theorem dX7_isPlanOf_14 : decode cX7_isPlanOf 14 = .ok (.ldc 44, 2) := by decide +kernel
theorem dX7_isPlanOf_16 : decode cX7_isPlanOf 16 = .ok (.invokevirtual 36, 3) := by decide +kernel
theorem dX7_isPlanOf_19 : decode cX7_isPlanOf 19 = .ok (.pop, 1) := by decide +kernel
theorem dX7_isPlanOf_20 : decode cX7_isPlanOf 20 = .ok (.iinc 2 1, 3) := by decide +kernel
theorem dX7_isPlanOf_23 : decode cX7_isPlanOf 23 = .ok (.goto (-17), 3) := by decide +kernel
theorem dX7_isPlanOf_26 : decode cX7_isPlanOf 26 = .ok (.aload_n 0, 1) := by decide +kernel
theorem dX7_isPlanOf_27 : decode cX7_isPlanOf 27 = .ok (.invokevirtual 45, 3) := by decide +kernel
theorem dX7_isPlanOf_30 : decode cX7_isPlanOf 30 = .ok (.ireturn, 1) := by decide +kernel
theorem dX7_digestOfAll_0 : decode cX7_digestOfAll 0 = .ok (.bipush 17, 2) := by decide +kernel
theorem dX7_digestOfAll_2 : decode cX7_digestOfAll 2 = .ok (.istore_n 1, 1) := by decide +kernel
theorem dX7_digestOfAll_3 : decode cX7_digestOfAll 3 = .ok (.iconst 0, 1) := by decide +kernel
theorem dX7_digestOfAll_4 : decode cX7_digestOfAll 4 = .ok (.istore_n 2, 1) := by decide +kernel
theorem dX7_digestOfAll_5 : decode cX7_digestOfAll 5 = .ok (.iload_n 2, 1) := by decide +kernel
theorem dX7_digestOfAll_6 : decode cX7_digestOfAll 6 = .ok (.aload_n 0, 1) := by decide +kernel
theorem dX7_digestOfAll_7 : decode cX7_digestOfAll 7 = .ok (.getfield 15, 3) := by decide +kernel
theorem dX7_digestOfAll_10 : decode cX7_digestOfAll 10 = .ok (.if_icmp .ge 20, 3) := by decide +kernel
theorem dX7_digestOfAll_13 : decode cX7_digestOfAll 13 = .ok (.bipush 31, 2) := by decide +kernel
theorem dX7_digestOfAll_15 : decode cX7_digestOfAll 15 = .ok (.iload_n 1, 1) := by decide +kernel
theorem dX7_digestOfAll_16 : decode cX7_digestOfAll 16 = .ok (.imul, 1) := by decide +kernel
theorem dX7_digestOfAll_17 : decode cX7_digestOfAll 17 = .ok (.aload_n 0, 1) := by decide +kernel
theorem dX7_digestOfAll_18 : decode cX7_digestOfAll 18 = .ok (.iload_n 2, 1) := by decide +kernel
theorem dX7_digestOfAll_19 : decode cX7_digestOfAll 19 = .ok (.invokevirtual 26, 3) := by decide +kernel
theorem dX7_digestOfAll_22 : decode cX7_digestOfAll 22 = .ok (.iadd, 1) := by decide +kernel
theorem dX7_digestOfAll_23 : decode cX7_digestOfAll 23 = .ok (.istore_n 1, 1) := by decide +kernel
theorem dX7_digestOfAll_24 : decode cX7_digestOfAll 24 = .ok (.iinc 2 1, 3) := by decide +kernel
theorem dX7_digestOfAll_27 : decode cX7_digestOfAll 27 = .ok (.goto (-22), 3) := by decide +kernel
theorem dX7_digestOfAll_30 : decode cX7_digestOfAll 30 = .ok (.iload_n 1, 1) := by decide +kernel
theorem dX7_digestOfAll_31 : decode cX7_digestOfAll 31 = .ok (.ireturn, 1) := by decide +kernel
theorem dX8_init_0 : decode cX8_init 0 = .ok (.aload_n 0, 1) := by decide +kernel
theorem dX8_init_1 : decode cX8_init 1 = .ok (.invokespecial 3, 3) := by decide +kernel
theorem dX8_init_4 : decode cX8_init 4 = .ok (.aload_n 0, 1) := by decide +kernel
theorem dX8_init_5 : decode cX8_init 5 = .ok (.new 9, 3) := by decide +kernel
theorem dX8_init_8 : decode cX8_init 8 = .ok (.dup, 1) := by decide +kernel
theorem dX8_init_9 : decode cX8_init 9 = .ok (.invokespecial 11, 3) := by decide +kernel
theorem dX8_init_12 : decode cX8_init 12 = .ok (.putfield 12, 3) := by decide +kernel
theorem dX8_init_15 : decode cX8_init 15 = .ok (.aload_n 0, 1) := by decide +kernel
theorem dX8_init_16 : decode cX8_init 16 = .ok (.new 16, 3) := by decide +kernel
theorem dX8_init_19 : decode cX8_init 19 = .ok (.dup, 1) := by decide +kernel
theorem dX8_init_20 : decode cX8_init 20 = .ok (.invokespecial 18, 3) := by decide +kernel
theorem dX8_init_23 : decode cX8_init 23 = .ok (.putfield 19, 3) := by decide +kernel
theorem dX8_init_26 : decode cX8_init 26 = .ok (.aload_n 0, 1) := by decide +kernel
theorem dX8_init_27 : decode cX8_init 27 = .ok (.new 23, 3) := by decide +kernel
theorem dX8_init_30 : decode cX8_init 30 = .ok (.dup, 1) := by decide +kernel
theorem dX8_init_31 : decode cX8_init 31 = .ok (.invokespecial 25, 3) := by decide +kernel
theorem dX8_init_34 : decode cX8_init 34 = .ok (.putfield 26, 3) := by decide +kernel
theorem dX8_init_37 : decode cX8_init 37 = .ok (.aload_n 0, 1) := by decide +kernel
theorem dX8_init_38 : decode cX8_init 38 = .ok (.new 30, 3) := by decide +kernel
theorem dX8_init_41 : decode cX8_init 41 = .ok (.dup, 1) := by decide +kernel
theorem dX8_init_42 : decode cX8_init 42 = .ok (.invokespecial 32, 3) := by decide +kernel
theorem dX8_init_45 : decode cX8_init 45 = .ok (.putfield 33, 3) := by decide +kernel
theorem dX8_init_48 : decode cX8_init 48 = .ok (.aload_n 0, 1) := by decide +kernel
theorem dX8_init_49 : decode cX8_init 49 = .ok (.new 30, 3) := by decide +kernel
theorem dX8_init_52 : decode cX8_init 52 = .ok (.dup, 1) := by decide +kernel
theorem dX8_init_53 : decode cX8_init 53 = .ok (.invokespecial 32, 3) := by decide +kernel
theorem dX8_init_56 : decode cX8_init 56 = .ok (.putfield 37, 3) := by decide +kernel
theorem dX8_init_59 : decode cX8_init 59 = .ok (.return_, 1) := by decide +kernel
theorem dX8_put_0 : decode cX8_put 0 = .ok (.iload_n 1, 1) := by decide +kernel
theorem dX8_put_1 : decode cX8_put 1 = .ok (.iconst 1, 1) := by decide +kernel
theorem dX8_put_2 : decode cX8_put 2 = .ok (.if_icmp .lt 8, 3) := by decide +kernel
theorem dX8_put_5 : decode cX8_put 5 = .ok (.iload_n 1, 1) := by decide +kernel
theorem dX8_put_6 : decode cX8_put 6 = .ok (.iconst 4, 1) := by decide +kernel
theorem dX8_put_7 : decode cX8_put 7 = .ok (.if_icmp .le 6, 3) := by decide +kernel
theorem dX8_put_10 : decode cX8_put 10 = .ok (.bipush (-3), 2) := by decide +kernel
theorem dX8_put_12 : decode cX8_put 12 = .ok (.ireturn, 1) := by decide +kernel
theorem dX8_put_13 : decode cX8_put 13 = .ok (.aload_n 0, 1) := by decide +kernel
theorem dX8_put_14 : decode cX8_put 14 = .ok (.getfield 12, 3) := by decide +kernel
theorem dX8_put_17 : decode cX8_put 17 = .ok (.iload_n 1, 1) := by decide +kernel
theorem dX8_put_18 : decode cX8_put 18 = .ok (.invokevirtual 40, 3) := by decide +kernel
theorem dX8_put_21 : decode cX8_put 21 = .ok (.ifCond .ne 6, 3) := by decide +kernel
theorem dX8_put_24 : decode cX8_put 24 = .ok (.bipush (-5), 2) := by decide +kernel
theorem dX8_put_26 : decode cX8_put 26 = .ok (.ireturn, 1) := by decide +kernel
theorem dX8_put_27 : decode cX8_put 27 = .ok (.aload_n 0, 1) := by decide +kernel
theorem dX8_put_28 : decode cX8_put 28 = .ok (.getfield 12, 3) := by decide +kernel
theorem dX8_put_31 : decode cX8_put 31 = .ok (.iload_n 2, 1) := by decide +kernel
theorem dX8_put_32 : decode cX8_put 32 = .ok (.invokevirtual 44, 3) := by decide +kernel
theorem dX8_put_35 : decode cX8_put 35 = .ok (.iload_n 1, 1) := by decide +kernel
theorem dX8_put_36 : decode cX8_put 36 = .ok (.iconst 1, 1) := by decide +kernel
theorem dX8_put_37 : decode cX8_put 37 = .ok (.if_icmp .le 11, 3) := by decide +kernel
theorem dX8_put_40 : decode cX8_put 40 = .ok (.aload_n 0, 1) := by decide +kernel
theorem dX8_put_41 : decode cX8_put 41 = .ok (.getfield 12, 3) := by decide +kernel
theorem dX8_put_44 : decode cX8_put 44 = .ok (.iload_n 3, 1) := by decide +kernel
theorem dX8_put_45 : decode cX8_put 45 = .ok (.invokevirtual 44, 3) := by decide +kernel
theorem dX8_put_48 : decode cX8_put 48 = .ok (.iload_n 1, 1) := by decide +kernel
theorem dX8_put_49 : decode cX8_put 49 = .ok (.iconst 2, 1) := by decide +kernel
theorem dX8_put_50 : decode cX8_put 50 = .ok (.if_icmp .le 12, 3) := by decide +kernel
theorem dX8_put_53 : decode cX8_put 53 = .ok (.aload_n 0, 1) := by decide +kernel
theorem dX8_put_54 : decode cX8_put 54 = .ok (.getfield 12, 3) := by decide +kernel
theorem dX8_put_57 : decode cX8_put 57 = .ok (.iload 4, 2) := by decide +kernel
theorem dX8_put_59 : decode cX8_put 59 = .ok (.invokevirtual 44, 3) := by decide +kernel
theorem dX8_put_62 : decode cX8_put 62 = .ok (.iload_n 1, 1) := by decide +kernel
theorem dX8_put_63 : decode cX8_put 63 = .ok (.iconst 3, 1) := by decide +kernel
theorem dX8_put_64 : decode cX8_put 64 = .ok (.if_icmp .le 12, 3) := by decide +kernel
theorem dX8_put_67 : decode cX8_put 67 = .ok (.aload_n 0, 1) := by decide +kernel
theorem dX8_put_68 : decode cX8_put 68 = .ok (.getfield 12, 3) := by decide +kernel
theorem dX8_put_71 : decode cX8_put 71 = .ok (.iload 5, 2) := by decide +kernel
theorem dX8_put_73 : decode cX8_put 73 = .ok (.invokevirtual 44, 3) := by decide +kernel
theorem dX8_put_76 : decode cX8_put 76 = .ok (.aload_n 0, 1) := by decide +kernel
theorem dX8_put_77 : decode cX8_put 77 = .ok (.getfield 12, 3) := by decide +kernel
theorem dX8_put_80 : decode cX8_put 80 = .ok (.getfield 48, 3) := by decide +kernel
theorem dX8_put_83 : decode cX8_put 83 = .ok (.ireturn, 1) := by decide +kernel
theorem dX8_drop_0 : decode cX8_drop 0 = .ok (.aload_n 0, 1) := by decide +kernel
theorem dX8_drop_1 : decode cX8_drop 1 = .ok (.getfield 12, 3) := by decide +kernel
theorem dX8_drop_4 : decode cX8_drop 4 = .ok (.getfield 48, 3) := by decide +kernel
theorem dX8_drop_7 : decode cX8_drop 7 = .ok (.istore_n 1, 1) := by decide +kernel
theorem dX8_drop_8 : decode cX8_drop 8 = .ok (.aload_n 0, 1) := by decide +kernel
theorem dX8_drop_9 : decode cX8_drop 9 = .ok (.getfield 12, 3) := by decide +kernel
theorem dX8_drop_12 : decode cX8_drop 12 = .ok (.invokevirtual 52, 3) := by decide +kernel
theorem dX8_drop_15 : decode cX8_drop 15 = .ok (.iload_n 1, 1) := by decide +kernel
theorem dX8_drop_16 : decode cX8_drop 16 = .ok (.ireturn, 1) := by decide +kernel
theorem dX8_model_0 : decode cX8_model 0 = .ok (.aload_n 0, 1) := by decide +kernel
theorem dX8_model_1 : decode cX8_model 1 = .ok (.getfield 37, 3) := by decide +kernel
theorem dX8_model_4 : decode cX8_model 4 = .ok (.aload_n 0, 1) := by decide +kernel
theorem dX8_model_5 : decode cX8_model 5 = .ok (.getfield 12, 3) := by decide +kernel
theorem dX8_model_8 : decode cX8_model 8 = .ok (.invokevirtual 55, 3) := by decide +kernel
theorem dX8_model_11 : decode cX8_model 11 = .ok (.istore_n 1, 1) := by decide +kernel
theorem dX8_model_12 : decode cX8_model 12 = .ok (.aload_n 0, 1) := by decide +kernel
theorem dX8_model_13 : decode cX8_model 13 = .ok (.getfield 12, 3) := by decide +kernel
theorem dX8_model_16 : decode cX8_model 16 = .ok (.getfield 59, 3) := by decide +kernel
theorem dX8_model_19 : decode cX8_model 19 = .ok (.istore_n 2, 1) := by decide +kernel
theorem dX8_model_20 : decode cX8_model 20 = .ok (.aload_n 0, 1) := by decide +kernel
theorem dX8_model_21 : decode cX8_model 21 = .ok (.getfield 12, 3) := by decide +kernel
theorem dX8_model_24 : decode cX8_model 24 = .ok (.invokevirtual 52, 3) := by decide +kernel
theorem dX8_model_27 : decode cX8_model 27 = .ok (.iload_n 1, 1) := by decide +kernel
theorem dX8_model_28 : decode cX8_model 28 = .ok (.ifCond .ne 8, 3) := by decide +kernel
theorem dX8_model_31 : decode cX8_model 31 = .ok (.bipush (-10), 2) := by decide +kernel
theorem dX8_model_33 : decode cX8_model 33 = .ok (.iload_n 2, 1) := by decide +kernel
theorem dX8_model_34 : decode cX8_model 34 = .ok (.isub, 1) := by decide +kernel
theorem dX8_model_35 : decode cX8_model 35 = .ok (.ireturn, 1) := by decide +kernel
theorem dX8_model_36 : decode cX8_model 36 = .ok (.aload_n 0, 1) := by decide +kernel
theorem dX8_model_37 : decode cX8_model 37 = .ok (.getfield 33, 3) := by decide +kernel
theorem dX8_model_40 : decode cX8_model 40 = .ok (.astore_n 3, 1) := by decide +kernel
theorem dX8_model_41 : decode cX8_model 41 = .ok (.aload_n 0, 1) := by decide +kernel
theorem dX8_model_42 : decode cX8_model 42 = .ok (.aload_n 0, 1) := by decide +kernel
theorem dX8_model_43 : decode cX8_model 43 = .ok (.getfield 37, 3) := by decide +kernel
theorem dX8_model_46 : decode cX8_model 46 = .ok (.putfield 33, 3) := by decide +kernel
theorem dX8_model_49 : decode cX8_model 49 = .ok (.aload_n 0, 1) := by decide +kernel
theorem dX8_model_50 : decode cX8_model 50 = .ok (.aload_n 3, 1) := by decide +kernel
theorem dX8_model_51 : decode cX8_model 51 = .ok (.putfield 37, 3) := by decide +kernel
theorem dX8_model_54 : decode cX8_model 54 = .ok (.aload_n 0, 1) := by decide +kernel
theorem dX8_model_55 : decode cX8_model 55 = .ok (.iconst 1, 1) := by decide +kernel
theorem dX8_model_56 : decode cX8_model 56 = .ok (.putfield 62, 3) := by decide +kernel
theorem dX8_model_59 : decode cX8_model 59 = .ok (.aload_n 0, 1) := by decide +kernel
theorem dX8_model_60 : decode cX8_model 60 = .ok (.getfield 19, 3) := by decide +kernel
theorem dX8_model_63 : decode cX8_model 63 = .ok (.invokevirtual 66, 3) := by decide +kernel
theorem dX8_model_66 : decode cX8_model 66 = .ok (.aload_n 0, 1) := by decide +kernel
theorem dX8_model_67 : decode cX8_model 67 = .ok (.getfield 26, 3) := by decide +kernel
theorem dX8_model_70 : decode cX8_model 70 = .ok (.invokevirtual 67, 3) := by decide +kernel
theorem dX8_model_73 : decode cX8_model 73 = .ok (.iconst 1, 1) := by decide +kernel
theorem dX8_model_74 : decode cX8_model 74 = .ok (.ireturn, 1) := by decide +kernel
theorem dX8_plan_0 : decode cX8_plan 0 = .ok (.aload_n 0, 1) := by decide +kernel
theorem dX8_plan_1 : decode cX8_plan 1 = .ok (.invokevirtual 70, 3) := by decide +kernel
theorem dX8_plan_4 : decode cX8_plan 4 = .ok (.istore_n 1, 1) := by decide +kernel
theorem dX8_plan_5 : decode cX8_plan 5 = .ok (.aload_n 0, 1) := by decide +kernel
theorem dX8_plan_6 : decode cX8_plan 6 = .ok (.getfield 12, 3) := by decide +kernel
theorem dX8_plan_9 : decode cX8_plan 9 = .ok (.invokevirtual 52, 3) := by decide +kernel
theorem dX8_plan_12 : decode cX8_plan 12 = .ok (.iload_n 1, 1) := by decide +kernel
theorem dX8_plan_13 : decode cX8_plan 13 = .ok (.ireturn, 1) := by decide +kernel
theorem dX8_tellPlan_0 : decode cX8_tellPlan 0 = .ok (.aload_n 0, 1) := by decide +kernel
theorem dX8_tellPlan_1 : decode cX8_tellPlan 1 = .ok (.getfield 62, 3) := by decide +kernel
theorem dX8_tellPlan_4 : decode cX8_tellPlan 4 = .ok (.ifCond .ne 6, 3) := by decide +kernel
theorem dX8_tellPlan_7 : decode cX8_tellPlan 7 = .ok (.bipush (-4), 2) := by decide +kernel
theorem dX8_tellPlan_9 : decode cX8_tellPlan 9 = .ok (.ireturn, 1) := by decide +kernel
theorem dX8_tellPlan_10 : decode cX8_tellPlan 10 = .ok (.aload_n 0, 1) := by decide +kernel
theorem dX8_tellPlan_11 : decode cX8_tellPlan 11 = .ok (.getfield 12, 3) := by decide +kernel
theorem dX8_tellPlan_14 : decode cX8_tellPlan 14 = .ok (.aload_n 0, 1) := by decide +kernel
theorem dX8_tellPlan_15 : decode cX8_tellPlan 15 = .ok (.getfield 33, 3) := by decide +kernel
theorem dX8_tellPlan_18 : decode cX8_tellPlan 18 = .ok (.getfield 74, 3) := by decide +kernel
theorem dX8_tellPlan_21 : decode cX8_tellPlan 21 = .ok (.invokevirtual 77, 3) := by decide +kernel
theorem dX8_tellPlan_24 : decode cX8_tellPlan 24 = .ok (.ifCond .ne 6, 3) := by decide +kernel
theorem dX8_tellPlan_27 : decode cX8_tellPlan 27 = .ok (.bipush (-3), 2) := by decide +kernel
theorem dX8_tellPlan_29 : decode cX8_tellPlan 29 = .ok (.ireturn, 1) := by decide +kernel
theorem dX8_tellPlan_30 : decode cX8_tellPlan 30 = .ok (.aload_n 0, 1) := by decide +kernel
theorem dX8_tellPlan_31 : decode cX8_tellPlan 31 = .ok (.getfield 19, 3) := by decide +kernel
theorem dX8_tellPlan_34 : decode cX8_tellPlan 34 = .ok (.aload_n 0, 1) := by decide +kernel
theorem dX8_tellPlan_35 : decode cX8_tellPlan 35 = .ok (.getfield 12, 3) := by decide +kernel
theorem dX8_tellPlan_38 : decode cX8_tellPlan 38 = .ok (.aload_n 0, 1) := by decide +kernel
theorem dX8_tellPlan_39 : decode cX8_tellPlan 39 = .ok (.getfield 33, 3) := by decide +kernel
theorem dX8_tellPlan_42 : decode cX8_tellPlan 42 = .ok (.getfield 74, 3) := by decide +kernel
theorem dX8_tellPlan_45 : decode cX8_tellPlan 45 = .ok (.invokevirtual 80, 3) := by decide +kernel
theorem dX8_tellPlan_48 : decode cX8_tellPlan 48 = .ok (.ireturn, 1) := by decide +kernel
theorem dX8_breaks_0 : decode cX8_breaks 0 = .ok (.aload_n 0, 1) := by decide +kernel
theorem dX8_breaks_1 : decode cX8_breaks 1 = .ok (.getfield 19, 3) := by decide +kernel
theorem dX8_breaks_4 : decode cX8_breaks 4 = .ok (.iload_n 1, 1) := by decide +kernel
theorem dX8_breaks_5 : decode cX8_breaks 5 = .ok (.invokevirtual 84, 3) := by decide +kernel
theorem dX8_breaks_8 : decode cX8_breaks 8 = .ok (.ifCond .ne 6, 3) := by decide +kernel
theorem dX8_breaks_11 : decode cX8_breaks 11 = .ok (.bipush (-2), 2) := by decide +kernel
theorem dX8_breaks_13 : decode cX8_breaks 13 = .ok (.ireturn, 1) := by decide +kernel
theorem dX8_breaks_14 : decode cX8_breaks 14 = .ok (.aload_n 0, 1) := by decide +kernel
theorem dX8_breaks_15 : decode cX8_breaks 15 = .ok (.getfield 33, 3) := by decide +kernel
theorem dX8_breaks_18 : decode cX8_breaks 18 = .ok (.aload_n 0, 1) := by decide +kernel
theorem dX8_breaks_19 : decode cX8_breaks 19 = .ok (.getfield 19, 3) := by decide +kernel
theorem dX8_breaks_22 : decode cX8_breaks 22 = .ok (.iload_n 1, 1) := by decide +kernel
theorem dX8_breaks_23 : decode cX8_breaks 23 = .ok (.invokevirtual 87, 3) := by decide +kernel
theorem dX8_breaks_26 : decode cX8_breaks 26 = .ok (.invokevirtual 91, 3) := by decide +kernel
theorem dX8_breaks_29 : decode cX8_breaks 29 = .ok (.ireturn, 1) := by decide +kernel
theorem dX8_cost_0 : decode cX8_cost 0 = .ok (.aload_n 0, 1) := by decide +kernel
theorem dX8_cost_1 : decode cX8_cost 1 = .ok (.getfield 19, 3) := by decide +kernel
theorem dX8_cost_4 : decode cX8_cost 4 = .ok (.iload_n 1, 1) := by decide +kernel
theorem dX8_cost_5 : decode cX8_cost 5 = .ok (.invokevirtual 84, 3) := by decide +kernel
theorem dX8_cost_8 : decode cX8_cost 8 = .ok (.ifCond .ne 13, 3) := by decide +kernel
theorem dX8_cost_11 : decode cX8_cost 11 = .ok (.new 95, 3) := by decide +kernel
theorem dX8_cost_14 : decode cX8_cost 14 = .ok (.dup, 1) := by decide +kernel
theorem dX8_cost_15 : decode cX8_cost 15 = .ok (.ldc 97, 2) := by decide +kernel
theorem dX8_cost_17 : decode cX8_cost 17 = .ok (.invokespecial 99, 3) := by decide +kernel
theorem dX8_cost_20 : decode cX8_cost 20 = .ok (.athrow, 1) := by decide +kernel
theorem dX8_cost_21 : decode cX8_cost 21 = .ok (.aload_n 0, 1) := by decide +kernel
theorem dX8_cost_22 : decode cX8_cost 22 = .ok (.getfield 33, 3) := by decide +kernel
theorem dX8_cost_25 : decode cX8_cost 25 = .ok (.aload_n 0, 1) := by decide +kernel
theorem dX8_cost_26 : decode cX8_cost 26 = .ok (.getfield 19, 3) := by decide +kernel
theorem dX8_cost_29 : decode cX8_cost 29 = .ok (.iload_n 1, 1) := by decide +kernel
theorem dX8_cost_30 : decode cX8_cost 30 = .ok (.invokevirtual 87, 3) := by decide +kernel
theorem dX8_cost_33 : decode cX8_cost 33 = .ok (.invokevirtual 102, 3) := by decide +kernel
theorem dX8_cost_36 : decode cX8_cost 36 = .ok (.lreturn, 1) := by decide +kernel
theorem dX8_digest_0 : decode cX8_digest 0 = .ok (.aload_n 0, 1) := by decide +kernel
theorem dX8_digest_1 : decode cX8_digest 1 = .ok (.getfield 62, 3) := by decide +kernel
theorem dX8_digest_4 : decode cX8_digest 4 = .ok (.ifCond .eq 13, 3) := by decide +kernel
theorem dX8_digest_7 : decode cX8_digest 7 = .ok (.aload_n 0, 1) := by decide +kernel
theorem dX8_digest_8 : decode cX8_digest 8 = .ok (.getfield 33, 3) := by decide +kernel
theorem dX8_digest_11 : decode cX8_digest 11 = .ok (.getfield 106, 3) := by decide +kernel
theorem dX8_digest_14 : decode cX8_digest 14 = .ok (.goto 4, 3) := by decide +kernel
theorem dX8_digest_17 : decode cX8_digest 17 = .ok (.iconst 0, 1) := by decide +kernel
theorem dX8_digest_18 : decode cX8_digest 18 = .ok (.ireturn, 1) := by decide +kernel
theorem dX8_begin_0 : decode cX8_begin 0 = .ok (.aload_n 0, 1) := by decide +kernel
theorem dX8_begin_1 : decode cX8_begin 1 = .ok (.getfield 62, 3) := by decide +kernel
theorem dX8_begin_4 : decode cX8_begin 4 = .ok (.ifCond .ne 6, 3) := by decide +kernel
theorem dX8_begin_7 : decode cX8_begin 7 = .ok (.bipush (-4), 2) := by decide +kernel
theorem dX8_begin_9 : decode cX8_begin 9 = .ok (.ireturn, 1) := by decide +kernel
theorem dX8_begin_10 : decode cX8_begin 10 = .ok (.aload_n 0, 1) := by decide +kernel
theorem dX8_begin_11 : decode cX8_begin 11 = .ok (.getfield 26, 3) := by decide +kernel
theorem dX8_begin_14 : decode cX8_begin 14 = .ok (.getfield 109, 3) := by decide +kernel
theorem dX8_begin_17 : decode cX8_begin 17 = .ok (.istore_n 1, 1) := by decide +kernel
theorem dX8_begin_18 : decode cX8_begin 18 = .ok (.aload_n 0, 1) := by decide +kernel
theorem dX8_begin_19 : decode cX8_begin 19 = .ok (.getfield 26, 3) := by decide +kernel
theorem dX8_begin_22 : decode cX8_begin 22 = .ok (.invokevirtual 110, 3) := by decide +kernel
theorem dX8_begin_25 : decode cX8_begin 25 = .ok (.iload_n 1, 1) := by decide +kernel
theorem dX8_begin_26 : decode cX8_begin 26 = .ok (.ireturn, 1) := by decide +kernel
theorem dX8_read_0 : decode cX8_read 0 = .ok (.aload_n 0, 1) := by decide +kernel
theorem dX8_read_1 : decode cX8_read 1 = .ok (.getfield 26, 3) := by decide +kernel
theorem dX8_read_4 : decode cX8_read 4 = .ok (.getfield 113, 3) := by decide +kernel
theorem dX8_read_7 : decode cX8_read 7 = .ok (.ifCond .ne 13, 3) := by decide +kernel
theorem dX8_read_10 : decode cX8_read 10 = .ok (.aload_n 0, 1) := by decide +kernel
theorem dX8_read_11 : decode cX8_read 11 = .ok (.getfield 12, 3) := by decide +kernel
theorem dX8_read_14 : decode cX8_read 14 = .ok (.invokevirtual 52, 3) := by decide +kernel
theorem dX8_read_17 : decode cX8_read 17 = .ok (.bipush (-4), 2) := by decide +kernel
theorem dX8_read_19 : decode cX8_read 19 = .ok (.ireturn, 1) := by decide +kernel
theorem dX8_read_20 : decode cX8_read 20 = .ok (.iconst 0, 1) := by decide +kernel
theorem dX8_read_21 : decode cX8_read 21 = .ok (.istore_n 1, 1) := by decide +kernel
theorem dX8_read_22 : decode cX8_read 22 = .ok (.iload_n 1, 1) := by decide +kernel
theorem dX8_read_23 : decode cX8_read 23 = .ok (.aload_n 0, 1) := by decide +kernel
theorem dX8_read_24 : decode cX8_read 24 = .ok (.getfield 12, 3) := by decide +kernel
theorem dX8_read_27 : decode cX8_read 27 = .ok (.getfield 48, 3) := by decide +kernel
theorem dX8_read_30 : decode cX8_read 30 = .ok (.if_icmp .ge 32, 3) := by decide +kernel
theorem dX8_read_33 : decode cX8_read 33 = .ok (.aload_n 0, 1) := by decide +kernel
theorem dX8_read_34 : decode cX8_read 34 = .ok (.getfield 26, 3) := by decide +kernel
theorem dX8_read_37 : decode cX8_read 37 = .ok (.aload_n 0, 1) := by decide +kernel
theorem dX8_read_38 : decode cX8_read 38 = .ok (.getfield 12, 3) := by decide +kernel
theorem dX8_read_41 : decode cX8_read 41 = .ok (.iload_n 1, 1) := by decide +kernel
theorem dX8_read_42 : decode cX8_read 42 = .ok (.invokevirtual 116, 3) := by decide +kernel
theorem dX8_read_45 : decode cX8_read 45 = .ok (.aload_n 0, 1) := by decide +kernel
theorem dX8_read_46 : decode cX8_read 46 = .ok (.getfield 33, 3) := by decide +kernel
theorem dX8_read_49 : decode cX8_read 49 = .ok (.aload_n 0, 1) := by decide +kernel
theorem dX8_read_50 : decode cX8_read 50 = .ok (.getfield 19, 3) := by decide +kernel
theorem dX8_read_53 : decode cX8_read 53 = .ok (.invokevirtual 119, 3) := by decide +kernel
theorem dX8_read_56 : decode cX8_read 56 = .ok (.iinc 1 1, 3) := by decide +kernel
theorem dX8_read_59 : decode cX8_read 59 = .ok (.goto (-37), 3) := by decide +kernel
theorem dX8_read_62 : decode cX8_read 62 = .ok (.aload_n 0, 1) := by decide +kernel
theorem dX8_read_63 : decode cX8_read 63 = .ok (.getfield 12, 3) := by decide +kernel
theorem dX8_read_66 : decode cX8_read 66 = .ok (.invokevirtual 52, 3) := by decide +kernel
theorem dX8_read_69 : decode cX8_read 69 = .ok (.aload_n 0, 1) := by decide +kernel
theorem dX8_read_70 : decode cX8_read 70 = .ok (.getfield 26, 3) := by decide +kernel
theorem dX8_read_73 : decode cX8_read 73 = .ok (.getfield 123, 3) := by decide +kernel
theorem dX8_read_76 : decode cX8_read 76 = .ok (.ifCond .eq 14, 3) := by decide +kernel
theorem dX8_read_79 : decode cX8_read 79 = .ok (.bipush (-10), 2) := by decide +kernel
theorem dX8_read_81 : decode cX8_read 81 = .ok (.aload_n 0, 1) := by decide +kernel
theorem dX8_read_82 : decode cX8_read 82 = .ok (.getfield 26, 3) := by decide +kernel
theorem dX8_read_85 : decode cX8_read 85 = .ok (.getfield 123, 3) := by decide +kernel
theorem dX8_read_88 : decode cX8_read 88 = .ok (.isub, 1) := by decide +kernel
theorem dX8_read_89 : decode cX8_read 89 = .ok (.ireturn, 1) := by decide +kernel
theorem dX8_read_90 : decode cX8_read 90 = .ok (.aload_n 0, 1) := by decide +kernel
theorem dX8_read_91 : decode cX8_read 91 = .ok (.getfield 26, 3) := by decide +kernel
theorem dX8_read_94 : decode cX8_read 94 = .ok (.getfield 126, 3) := by decide +kernel
theorem dX8_read_97 : decode cX8_read 97 = .ok (.getfield 130, 3) := by decide +kernel
theorem dX8_read_100 : decode cX8_read 100 = .ok (.ireturn, 1) := by decide +kernel
theorem dX8_fault_0 : decode cX8_fault 0 = .ok (.iload_n 1, 1) := by decide +kernel
theorem dX8_fault_1 : decode cX8_fault 1 = .ok (.tableswitch 51 0 2 #[27, 35, 43], 27) := by decide +kernel
theorem dX8_fault_28 : decode cX8_fault 28 = .ok (.aload_n 0, 1) := by decide +kernel
theorem dX8_fault_29 : decode cX8_fault 29 = .ok (.getfield 26, 3) := by decide +kernel
theorem dX8_fault_32 : decode cX8_fault 32 = .ok (.getfield 123, 3) := by decide +kernel
theorem dX8_fault_35 : decode cX8_fault 35 = .ok (.ireturn, 1) := by decide +kernel
theorem dX8_fault_36 : decode cX8_fault 36 = .ok (.aload_n 0, 1) := by decide +kernel
theorem dX8_fault_37 : decode cX8_fault 37 = .ok (.getfield 26, 3) := by decide +kernel
theorem dX8_fault_40 : decode cX8_fault 40 = .ok (.getfield 135, 3) := by decide +kernel
theorem dX8_fault_43 : decode cX8_fault 43 = .ok (.ireturn, 1) := by decide +kernel
theorem dX8_fault_44 : decode cX8_fault 44 = .ok (.aload_n 0, 1) := by decide +kernel
theorem dX8_fault_45 : decode cX8_fault 45 = .ok (.getfield 26, 3) := by decide +kernel
theorem dX8_fault_48 : decode cX8_fault 48 = .ok (.getfield 138, 3) := by decide +kernel
theorem dX8_fault_51 : decode cX8_fault 51 = .ok (.ireturn, 1) := by decide +kernel
theorem dX8_fault_52 : decode cX8_fault 52 = .ok (.bipush (-3), 2) := by decide +kernel
theorem dX8_fault_54 : decode cX8_fault 54 = .ok (.ireturn, 1) := by decide +kernel
theorem dX8_row_0 : decode cX8_row 0 = .ok (.aload_n 0, 1) := by decide +kernel
theorem dX8_row_1 : decode cX8_row 1 = .ok (.iload_n 1, 1) := by decide +kernel
theorem dX8_row_2 : decode cX8_row 2 = .ok (.invokevirtual 141, 3) := by decide +kernel
theorem dX8_row_5 : decode cX8_row 5 = .ok (.aload_n 0, 1) := by decide +kernel
theorem dX8_row_6 : decode cX8_row 6 = .ok (.getfield 26, 3) := by decide +kernel
theorem dX8_row_9 : decode cX8_row 9 = .ok (.getfield 126, 3) := by decide +kernel
theorem dX8_row_12 : decode cX8_row 12 = .ok (.iload_n 1, 1) := by decide +kernel
theorem dX8_row_13 : decode cX8_row 13 = .ok (.invokevirtual 144, 3) := by decide +kernel
theorem dX8_row_16 : decode cX8_row 16 = .ok (.astore_n 3, 1) := by decide +kernel
theorem dX8_row_17 : decode cX8_row 17 = .ok (.iload_n 2, 1) := by decide +kernel
theorem dX8_row_18 : decode cX8_row 18 = .ok (.ifCond .lt 20, 3) := by decide +kernel
theorem dX8_row_21 : decode cX8_row 21 = .ok (.iload_n 2, 1) := by decide +kernel
theorem dX8_row_22 : decode cX8_row 22 = .ok (.aload_n 0, 1) := by decide +kernel
theorem dX8_row_23 : decode cX8_row 23 = .ok (.getfield 33, 3) := by decide +kernel
theorem dX8_row_26 : decode cX8_row 26 = .ok (.getfield 74, 3) := by decide +kernel
theorem dX8_row_29 : decode cX8_row 29 = .ok (.if_icmp .ge 9, 3) := by decide +kernel
theorem dX8_row_32 : decode cX8_row 32 = .ok (.aload_n 3, 1) := by decide +kernel
theorem dX8_row_33 : decode cX8_row 33 = .ok (.iload_n 2, 1) := by decide +kernel
theorem dX8_row_34 : decode cX8_row 34 = .ok (.invokevirtual 147, 3) := by decide +kernel
theorem dX8_row_37 : decode cX8_row 37 = .ok (.lreturn, 1) := by decide +kernel
theorem dX8_row_38 : decode cX8_row 38 = .ok (.iload_n 2, 1) := by decide +kernel
theorem dX8_row_39 : decode cX8_row 39 = .ok (.tableswitch 96 8 13 #[37, 42, 51, 64, 80, 86], 37) := by decide +kernel
theorem dX8_row_76 : decode cX8_row 76 = .ok (.aload_n 3, 1) := by decide +kernel
theorem dX8_row_77 : decode cX8_row 77 = .ok (.getfield 153, 3) := by decide +kernel
theorem dX8_row_80 : decode cX8_row 80 = .ok (.lreturn, 1) := by decide +kernel
theorem dX8_row_81 : decode cX8_row 81 = .ok (.aload_n 3, 1) := by decide +kernel
theorem dX8_row_82 : decode cX8_row 82 = .ok (.getfield 157, 3) := by decide +kernel
theorem dX8_row_85 : decode cX8_row 85 = .ok (.invokestatic 160, 3) := by decide +kernel
theorem dX8_row_88 : decode cX8_row 88 = .ok (.i2l, 1) := by decide +kernel
theorem dX8_row_89 : decode cX8_row 89 = .ok (.lreturn, 1) := by decide +kernel
theorem dX8_row_90 : decode cX8_row 90 = .ok (.aload_n 3, 1) := by decide +kernel
theorem dX8_row_91 : decode cX8_row 91 = .ok (.getfield 166, 3) := by decide +kernel
theorem dX8_row_94 : decode cX8_row 94 = .ok (.ifCond .eq 7, 3) := by decide +kernel
theorem dX8_row_97 : decode cX8_row 97 = .ok (.lconst 1, 1) := by decide +kernel
theorem dX8_row_98 : decode cX8_row 98 = .ok (.goto 4, 3) := by decide +kernel
theorem dX8_row_101 : decode cX8_row 101 = .ok (.lconst 0, 1) := by decide +kernel
theorem dX8_row_102 : decode cX8_row 102 = .ok (.lreturn, 1) := by decide +kernel
theorem dX8_row_103 : decode cX8_row 103 = .ok (.aload_n 3, 1) := by decide +kernel
theorem dX8_row_104 : decode cX8_row 104 = .ok (.getfield 166, 3) := by decide +kernel
theorem dX8_row_107 : decode cX8_row 107 = .ok (.ifCond .eq 10, 3) := by decide +kernel
theorem dX8_row_110 : decode cX8_row 110 = .ok (.aload_n 3, 1) := by decide +kernel
theorem dX8_row_111 : decode cX8_row 111 = .ok (.getfield 169, 3) := by decide +kernel
theorem dX8_row_114 : decode cX8_row 114 = .ok (.goto 4, 3) := by decide +kernel
theorem dX8_row_117 : decode cX8_row 117 = .ok (.lconst 0, 1) := by decide +kernel
theorem dX8_row_118 : decode cX8_row 118 = .ok (.lreturn, 1) := by decide +kernel
theorem dX8_row_119 : decode cX8_row 119 = .ok (.aload_n 3, 1) := by decide +kernel
theorem dX8_row_120 : decode cX8_row 120 = .ok (.getfield 172, 3) := by decide +kernel
theorem dX8_row_123 : decode cX8_row 123 = .ok (.i2l, 1) := by decide +kernel
theorem dX8_row_124 : decode cX8_row 124 = .ok (.lreturn, 1) := by decide +kernel
theorem dX8_row_125 : decode cX8_row 125 = .ok (.aload_n 0, 1) := by decide +kernel
theorem dX8_row_126 : decode cX8_row 126 = .ok (.getfield 26, 3) := by decide +kernel
theorem dX8_row_129 : decode cX8_row 129 = .ok (.iload_n 1, 1) := by decide +kernel
theorem dX8_row_130 : decode cX8_row 130 = .ok (.invokevirtual 175, 3) := by decide +kernel
theorem dX8_row_133 : decode cX8_row 133 = .ok (.i2l, 1) := by decide +kernel
theorem dX8_row_134 : decode cX8_row 134 = .ok (.lreturn, 1) := by decide +kernel
theorem dX8_row_135 : decode cX8_row 135 = .ok (.new 95, 3) := by decide +kernel
theorem dX8_row_138 : decode cX8_row 138 = .ok (.dup, 1) := by decide +kernel
theorem dX8_row_139 : decode cX8_row 139 = .ok (.ldc 178, 2) := by decide +kernel
theorem dX8_row_141 : decode cX8_row 141 = .ok (.invokespecial 99, 3) := by decide +kernel
theorem dX8_row_144 : decode cX8_row 144 = .ok (.athrow, 1) := by decide +kernel
theorem dX8_assumes_0 : decode cX8_assumes 0 = .ok (.aload_n 0, 1) := by decide +kernel
theorem dX8_assumes_1 : decode cX8_assumes 1 = .ok (.iload_n 1, 1) := by decide +kernel
theorem dX8_assumes_2 : decode cX8_assumes 2 = .ok (.invokevirtual 141, 3) := by decide +kernel
theorem dX8_assumes_5 : decode cX8_assumes 5 = .ok (.aload_n 0, 1) := by decide +kernel
theorem dX8_assumes_6 : decode cX8_assumes 6 = .ok (.getfield 26, 3) := by decide +kernel
theorem dX8_assumes_9 : decode cX8_assumes 9 = .ok (.getfield 126, 3) := by decide +kernel
theorem dX8_assumes_12 : decode cX8_assumes 12 = .ok (.iload_n 1, 1) := by decide +kernel
theorem dX8_assumes_13 : decode cX8_assumes 13 = .ok (.iload_n 2, 1) := by decide +kernel
theorem dX8_assumes_14 : decode cX8_assumes 14 = .ok (.invokevirtual 180, 3) := by decide +kernel
theorem dX8_assumes_17 : decode cX8_assumes 17 = .ok (.ireturn, 1) := by decide +kernel
theorem dX8_holds_0 : decode cX8_holds 0 = .ok (.aload_n 0, 1) := by decide +kernel
theorem dX8_holds_1 : decode cX8_holds 1 = .ok (.iload_n 1, 1) := by decide +kernel
theorem dX8_holds_2 : decode cX8_holds 2 = .ok (.invokevirtual 141, 3) := by decide +kernel
theorem dX8_holds_5 : decode cX8_holds 5 = .ok (.aload_n 0, 1) := by decide +kernel
theorem dX8_holds_6 : decode cX8_holds 6 = .ok (.getfield 19, 3) := by decide +kernel
theorem dX8_holds_9 : decode cX8_holds 9 = .ok (.iload_n 2, 1) := by decide +kernel
theorem dX8_holds_10 : decode cX8_holds 10 = .ok (.invokevirtual 84, 3) := by decide +kernel
theorem dX8_holds_13 : decode cX8_holds 13 = .ok (.ifCond .ne 13, 3) := by decide +kernel
theorem dX8_holds_16 : decode cX8_holds 16 = .ok (.new 95, 3) := by decide +kernel
theorem dX8_holds_19 : decode cX8_holds 19 = .ok (.dup, 1) := by decide +kernel
theorem dX8_holds_20 : decode cX8_holds 20 = .ok (.ldc 97, 2) := by decide +kernel
theorem dX8_holds_22 : decode cX8_holds 22 = .ok (.invokespecial 99, 3) := by decide +kernel
theorem dX8_holds_25 : decode cX8_holds 25 = .ok (.athrow, 1) := by decide +kernel
theorem dX8_holds_26 : decode cX8_holds 26 = .ok (.aload_n 0, 1) := by decide +kernel
theorem dX8_holds_27 : decode cX8_holds 27 = .ok (.getfield 26, 3) := by decide +kernel
theorem dX8_holds_30 : decode cX8_holds 30 = .ok (.getfield 126, 3) := by decide +kernel
theorem dX8_holds_33 : decode cX8_holds 33 = .ok (.iload_n 1, 1) := by decide +kernel
theorem dX8_holds_34 : decode cX8_holds 34 = .ok (.invokevirtual 144, 3) := by decide +kernel
theorem dX8_holds_37 : decode cX8_holds 37 = .ok (.astore_n 3, 1) := by decide +kernel
theorem dX8_holds_38 : decode cX8_holds 38 = .ok (.aload_n 0, 1) := by decide +kernel
theorem dX8_holds_39 : decode cX8_holds 39 = .ok (.getfield 19, 3) := by decide +kernel
theorem dX8_holds_42 : decode cX8_holds 42 = .ok (.iload_n 2, 1) := by decide +kernel
theorem dX8_holds_43 : decode cX8_holds 43 = .ok (.invokevirtual 87, 3) := by decide +kernel
theorem dX8_holds_46 : decode cX8_holds 46 = .ok (.astore 4, 2) := by decide +kernel
theorem dX8_holds_48 : decode cX8_holds 48 = .ok (.aload_n 0, 1) := by decide +kernel
theorem dX8_holds_49 : decode cX8_holds 49 = .ok (.getfield 26, 3) := by decide +kernel
theorem dX8_holds_52 : decode cX8_holds 52 = .ok (.getfield 126, 3) := by decide +kernel
theorem dX8_holds_55 : decode cX8_holds 55 = .ok (.aload_n 3, 1) := by decide +kernel
theorem dX8_holds_56 : decode cX8_holds 56 = .ok (.aload 4, 2) := by decide +kernel
theorem dX8_holds_58 : decode cX8_holds 58 = .ok (.invokevirtual 184, 3) := by decide +kernel
theorem dX8_holds_61 : decode cX8_holds 61 = .ok (.ifCond .ne 5, 3) := by decide +kernel
theorem dX8_holds_64 : decode cX8_holds 64 = .ok (.iconst 2, 1) := by decide +kernel
theorem dX8_holds_65 : decode cX8_holds 65 = .ok (.ireturn, 1) := by decide +kernel
theorem dX8_holds_66 : decode cX8_holds 66 = .ok (.aload_n 3, 1) := by decide +kernel
theorem dX8_holds_67 : decode cX8_holds 67 = .ok (.getfield 166, 3) := by decide +kernel
theorem dX8_holds_70 : decode cX8_holds 70 = .ok (.ifCond .eq 22, 3) := by decide +kernel
theorem dX8_holds_73 : decode cX8_holds 73 = .ok (.aload_n 0, 1) := by decide +kernel
theorem dX8_holds_74 : decode cX8_holds 74 = .ok (.getfield 33, 3) := by decide +kernel
theorem dX8_holds_77 : decode cX8_holds 77 = .ok (.aload 4, 2) := by decide +kernel
theorem dX8_holds_79 : decode cX8_holds 79 = .ok (.invokevirtual 102, 3) := by decide +kernel
theorem dX8_holds_82 : decode cX8_holds 82 = .ok (.aload_n 3, 1) := by decide +kernel
theorem dX8_holds_83 : decode cX8_holds 83 = .ok (.getfield 169, 3) := by decide +kernel
theorem dX8_holds_86 : decode cX8_holds 86 = .ok (.lcmp, 1) := by decide +kernel
theorem dX8_holds_87 : decode cX8_holds 87 = .ok (.ifCond .lt 5, 3) := by decide +kernel
theorem dX8_holds_90 : decode cX8_holds 90 = .ok (.iconst 2, 1) := by decide +kernel
theorem dX8_holds_91 : decode cX8_holds 91 = .ok (.ireturn, 1) := by decide +kernel
theorem dX8_holds_92 : decode cX8_holds 92 = .ok (.aload_n 3, 1) := by decide +kernel
theorem dX8_holds_93 : decode cX8_holds 93 = .ok (.aload 4, 2) := by decide +kernel
theorem dX8_holds_95 : decode cX8_holds 95 = .ok (.invokevirtual 188, 3) := by decide +kernel
theorem dX8_holds_98 : decode cX8_holds 98 = .ok (.ifCond .eq 7, 3) := by decide +kernel
theorem dX8_holds_101 : decode cX8_holds 101 = .ok (.iconst 1, 1) := by decide +kernel
theorem dX8_holds_102 : decode cX8_holds 102 = .ok (.goto 4, 3) := by decide +kernel
theorem dX8_holds_105 : decode cX8_holds 105 = .ok (.iconst 0, 1) := by decide +kernel
theorem dX8_holds_106 : decode cX8_holds 106 = .ok (.ireturn, 1) := by decide +kernel
theorem dX8_proved_0 : decode cX8_proved 0 = .ok (.aload_n 0, 1) := by decide +kernel
theorem dX8_proved_1 : decode cX8_proved 1 = .ok (.getfield 26, 3) := by decide +kernel
theorem dX8_proved_4 : decode cX8_proved 4 = .ok (.getfield 126, 3) := by decide +kernel
theorem dX8_proved_7 : decode cX8_proved 7 = .ok (.iconst 0, 1) := by decide +kernel
theorem dX8_proved_8 : decode cX8_proved 8 = .ok (.invokevirtual 192, 3) := by decide +kernel
theorem dX8_proved_11 : decode cX8_proved 11 = .ok (.iconst (-1), 1) := by decide +kernel
theorem dX8_proved_12 : decode cX8_proved 12 = .ok (.if_icmp .eq 5, 3) := by decide +kernel
theorem dX8_proved_15 : decode cX8_proved 15 = .ok (.iconst 1, 1) := by decide +kernel
theorem dX8_proved_16 : decode cX8_proved 16 = .ok (.ireturn, 1) := by decide +kernel
theorem dX8_proved_17 : decode cX8_proved 17 = .ok (.aload_n 0, 1) := by decide +kernel
theorem dX8_proved_18 : decode cX8_proved 18 = .ok (.getfield 26, 3) := by decide +kernel
theorem dX8_proved_21 : decode cX8_proved 21 = .ok (.getfield 126, 3) := by decide +kernel
theorem dX8_proved_24 : decode cX8_proved 24 = .ok (.iconst 1, 1) := by decide +kernel
theorem dX8_proved_25 : decode cX8_proved 25 = .ok (.invokevirtual 192, 3) := by decide +kernel
theorem dX8_proved_28 : decode cX8_proved 28 = .ok (.iconst (-1), 1) := by decide +kernel
theorem dX8_proved_29 : decode cX8_proved 29 = .ok (.if_icmp .eq 7, 3) := by decide +kernel
theorem dX8_proved_32 : decode cX8_proved 32 = .ok (.iconst 2, 1) := by decide +kernel
theorem dX8_proved_33 : decode cX8_proved 33 = .ok (.goto 4, 3) := by decide +kernel
theorem dX8_proved_36 : decode cX8_proved 36 = .ok (.iconst 0, 1) := by decide +kernel
theorem dX8_proved_37 : decode cX8_proved 37 = .ok (.ireturn, 1) := by decide +kernel
theorem dX8_best_0 : decode cX8_best 0 = .ok (.aload_n 0, 1) := by decide +kernel
theorem dX8_best_1 : decode cX8_best 1 = .ok (.getfield 26, 3) := by decide +kernel
theorem dX8_best_4 : decode cX8_best 4 = .ok (.getfield 126, 3) := by decide +kernel
theorem dX8_best_7 : decode cX8_best 7 = .ok (.iconst 0, 1) := by decide +kernel
theorem dX8_best_8 : decode cX8_best 8 = .ok (.invokevirtual 192, 3) := by decide +kernel
theorem dX8_best_11 : decode cX8_best 11 = .ok (.iconst (-1), 1) := by decide +kernel
theorem dX8_best_12 : decode cX8_best 12 = .ok (.if_icmp .eq 13, 3) := by decide +kernel
theorem dX8_best_15 : decode cX8_best 15 = .ok (.new 196, 3) := by decide +kernel
theorem dX8_best_18 : decode cX8_best 18 = .ok (.dup, 1) := by decide +kernel
theorem dX8_best_19 : decode cX8_best 19 = .ok (.ldc 198, 2) := by decide +kernel
theorem dX8_best_21 : decode cX8_best 21 = .ok (.invokespecial 200, 3) := by decide +kernel
theorem dX8_best_24 : decode cX8_best 24 = .ok (.athrow, 1) := by decide +kernel
theorem dX8_best_25 : decode cX8_best 25 = .ok (.aload_n 0, 1) := by decide +kernel
theorem dX8_best_26 : decode cX8_best 26 = .ok (.getfield 26, 3) := by decide +kernel
theorem dX8_best_29 : decode cX8_best 29 = .ok (.getfield 126, 3) := by decide +kernel
theorem dX8_best_32 : decode cX8_best 32 = .ok (.iconst 1, 1) := by decide +kernel
theorem dX8_best_33 : decode cX8_best 33 = .ok (.invokevirtual 192, 3) := by decide +kernel
theorem dX8_best_36 : decode cX8_best 36 = .ok (.istore_n 1, 1) := by decide +kernel
theorem dX8_best_37 : decode cX8_best 37 = .ok (.iload_n 1, 1) := by decide +kernel
theorem dX8_best_38 : decode cX8_best 38 = .ok (.iconst (-1), 1) := by decide +kernel
theorem dX8_best_39 : decode cX8_best 39 = .ok (.if_icmp .ne 13, 3) := by decide +kernel
theorem dX8_best_42 : decode cX8_best 42 = .ok (.new 196, 3) := by decide +kernel
theorem dX8_best_45 : decode cX8_best 45 = .ok (.dup, 1) := by decide +kernel
theorem dX8_best_46 : decode cX8_best 46 = .ok (.ldc 201, 2) := by decide +kernel
theorem dX8_best_48 : decode cX8_best 48 = .ok (.invokespecial 200, 3) := by decide +kernel
theorem dX8_best_51 : decode cX8_best 51 = .ok (.athrow, 1) := by decide +kernel
theorem dX8_best_52 : decode cX8_best 52 = .ok (.aload_n 0, 1) := by decide +kernel
theorem dX8_best_53 : decode cX8_best 53 = .ok (.getfield 26, 3) := by decide +kernel
theorem dX8_best_56 : decode cX8_best 56 = .ok (.getfield 126, 3) := by decide +kernel
theorem dX8_best_59 : decode cX8_best 59 = .ok (.iload_n 1, 1) := by decide +kernel
theorem dX8_best_60 : decode cX8_best 60 = .ok (.invokevirtual 144, 3) := by decide +kernel
theorem dX8_best_63 : decode cX8_best 63 = .ok (.getfield 169, 3) := by decide +kernel
theorem dX8_best_66 : decode cX8_best 66 = .ok (.lreturn, 1) := by decide +kernel
theorem dX8_least_0 : decode cX8_least 0 = .ok (.aload_n 0, 1) := by decide +kernel
theorem dX8_least_1 : decode cX8_least 1 = .ok (.getfield 26, 3) := by decide +kernel
theorem dX8_least_4 : decode cX8_least 4 = .ok (.getfield 126, 3) := by decide +kernel
theorem dX8_least_7 : decode cX8_least 7 = .ok (.aload_n 0, 1) := by decide +kernel
theorem dX8_least_8 : decode cX8_least 8 = .ok (.getfield 33, 3) := by decide +kernel
theorem dX8_least_11 : decode cX8_least 11 = .ok (.getfield 203, 3) := by decide +kernel
theorem dX8_least_14 : decode cX8_least 14 = .ok (.invokevirtual 207, 3) := by decide +kernel
theorem dX8_least_17 : decode cX8_least 17 = .ok (.lstore_n 1, 1) := by decide +kernel
theorem dX8_least_18 : decode cX8_least 18 = .ok (.lload_n 1, 1) := by decide +kernel
theorem dX8_least_19 : decode cX8_least 19 = .ok (.ldc2_w 210, 3) := by decide +kernel
theorem dX8_least_22 : decode cX8_least 22 = .ok (.lcmp, 1) := by decide +kernel
theorem dX8_least_23 : decode cX8_least 23 = .ok (.ifCond .ne 13, 3) := by decide +kernel
theorem dX8_least_26 : decode cX8_least 26 = .ok (.new 196, 3) := by decide +kernel
theorem dX8_least_29 : decode cX8_least 29 = .ok (.dup, 1) := by decide +kernel
theorem dX8_least_30 : decode cX8_least 30 = .ok (.ldc 212, 2) := by decide +kernel
theorem dX8_least_32 : decode cX8_least 32 = .ok (.invokespecial 200, 3) := by decide +kernel
theorem dX8_least_35 : decode cX8_least 35 = .ok (.athrow, 1) := by decide +kernel
theorem dX8_least_36 : decode cX8_least 36 = .ok (.lload_n 1, 1) := by decide +kernel
theorem dX8_least_37 : decode cX8_least 37 = .ok (.lreturn, 1) := by decide +kernel
theorem dX8_trim_0 : decode cX8_trim 0 = .ok (.aload_n 0, 1) := by decide +kernel
theorem dX8_trim_1 : decode cX8_trim 1 = .ok (.iload_n 1, 1) := by decide +kernel
theorem dX8_trim_2 : decode cX8_trim 2 = .ok (.invokevirtual 141, 3) := by decide +kernel
theorem dX8_trim_5 : decode cX8_trim 5 = .ok (.aload_n 0, 1) := by decide +kernel
theorem dX8_trim_6 : decode cX8_trim 6 = .ok (.getfield 26, 3) := by decide +kernel
theorem dX8_trim_9 : decode cX8_trim 9 = .ok (.iload_n 1, 1) := by decide +kernel
theorem dX8_trim_10 : decode cX8_trim 10 = .ok (.invokevirtual 214, 3) := by decide +kernel
theorem dX8_trim_13 : decode cX8_trim 13 = .ok (.istore_n 2, 1) := by decide +kernel
theorem dX8_trim_14 : decode cX8_trim 14 = .ok (.aload_n 0, 1) := by decide +kernel
theorem dX8_trim_15 : decode cX8_trim 15 = .ok (.getfield 26, 3) := by decide +kernel
theorem dX8_trim_18 : decode cX8_trim 18 = .ok (.invokevirtual 110, 3) := by decide +kernel
theorem dX8_trim_21 : decode cX8_trim 21 = .ok (.iconst 0, 1) := by decide +kernel
theorem dX8_trim_22 : decode cX8_trim 22 = .ok (.istore_n 3, 1) := by decide +kernel
theorem dX8_trim_23 : decode cX8_trim 23 = .ok (.iload_n 3, 1) := by decide +kernel
theorem dX8_trim_24 : decode cX8_trim 24 = .ok (.iload_n 2, 1) := by decide +kernel
theorem dX8_trim_25 : decode cX8_trim 25 = .ok (.if_icmp .ge 32, 3) := by decide +kernel
theorem dX8_trim_28 : decode cX8_trim 28 = .ok (.aload_n 0, 1) := by decide +kernel
theorem dX8_trim_29 : decode cX8_trim 29 = .ok (.getfield 26, 3) := by decide +kernel
theorem dX8_trim_32 : decode cX8_trim 32 = .ok (.aload_n 0, 1) := by decide +kernel
theorem dX8_trim_33 : decode cX8_trim 33 = .ok (.getfield 26, 3) := by decide +kernel
theorem dX8_trim_36 : decode cX8_trim 36 = .ok (.iload_n 3, 1) := by decide +kernel
theorem dX8_trim_37 : decode cX8_trim 37 = .ok (.invokevirtual 217, 3) := by decide +kernel
theorem dX8_trim_40 : decode cX8_trim 40 = .ok (.aload_n 0, 1) := by decide +kernel
theorem dX8_trim_41 : decode cX8_trim 41 = .ok (.getfield 33, 3) := by decide +kernel
theorem dX8_trim_44 : decode cX8_trim 44 = .ok (.aload_n 0, 1) := by decide +kernel
theorem dX8_trim_45 : decode cX8_trim 45 = .ok (.getfield 19, 3) := by decide +kernel
theorem dX8_trim_48 : decode cX8_trim 48 = .ok (.invokevirtual 119, 3) := by decide +kernel
theorem dX8_trim_51 : decode cX8_trim 51 = .ok (.iinc 3 1, 3) := by decide +kernel
theorem dX8_trim_54 : decode cX8_trim 54 = .ok (.goto (-31), 3) := by decide +kernel
theorem dX8_trim_57 : decode cX8_trim 57 = .ok (.aload_n 0, 1) := by decide +kernel
theorem dX8_trim_58 : decode cX8_trim 58 = .ok (.getfield 26, 3) := by decide +kernel
theorem dX8_trim_61 : decode cX8_trim 61 = .ok (.getfield 126, 3) := by decide +kernel
theorem dX8_trim_64 : decode cX8_trim 64 = .ok (.getfield 130, 3) := by decide +kernel
theorem dX8_trim_67 : decode cX8_trim 67 = .ok (.ireturn, 1) := by decide +kernel
theorem dX8_number_0 : decode cX8_number 0 = .ok (.iload_n 1, 1) := by decide +kernel
theorem dX8_number_1 : decode cX8_number 1 = .ok (.ifCond .lt 14, 3) := by decide +kernel
theorem dX8_number_4 : decode cX8_number 4 = .ok (.iload_n 1, 1) := by decide +kernel
theorem dX8_number_5 : decode cX8_number 5 = .ok (.aload_n 0, 1) := by decide +kernel
theorem dX8_number_6 : decode cX8_number 6 = .ok (.getfield 26, 3) := by decide +kernel
theorem dX8_number_9 : decode cX8_number 9 = .ok (.getfield 109, 3) := by decide +kernel
theorem dX8_number_12 : decode cX8_number 12 = .ok (.if_icmp .lt 13, 3) := by decide +kernel
theorem dX8_number_15 : decode cX8_number 15 = .ok (.new 95, 3) := by decide +kernel
theorem dX8_number_18 : decode cX8_number 18 = .ok (.dup, 1) := by decide +kernel
theorem dX8_number_19 : decode cX8_number 19 = .ok (.ldc 220, 2) := by decide +kernel
theorem dX8_number_21 : decode cX8_number 21 = .ok (.invokespecial 99, 3) := by decide +kernel
theorem dX8_number_24 : decode cX8_number 24 = .ok (.athrow, 1) := by decide +kernel
theorem dX8_number_25 : decode cX8_number 25 = .ok (.aload_n 0, 1) := by decide +kernel
theorem dX8_number_26 : decode cX8_number 26 = .ok (.getfield 26, 3) := by decide +kernel
theorem dX8_number_29 : decode cX8_number 29 = .ok (.iload_n 1, 1) := by decide +kernel
theorem dX8_number_30 : decode cX8_number 30 = .ok (.invokevirtual 217, 3) := by decide +kernel
theorem dX8_number_33 : decode cX8_number 33 = .ok (.ireturn, 1) := by decide +kernel
theorem dX8_told_0 : decode cX8_told 0 = .ok (.iload_n 1, 1) := by decide +kernel
theorem dX8_told_1 : decode cX8_told 1 = .ok (.tableswitch 150 0 7 #[47, 55, 74, 93, 112, 120, 131, 142], 47) := by decide +kernel
theorem dX8_told_48 : decode cX8_told 48 = .ok (.aload_n 0, 1) := by decide +kernel
theorem dX8_told_49 : decode cX8_told 49 = .ok (.getfield 12, 3) := by decide +kernel
theorem dX8_told_52 : decode cX8_told 52 = .ok (.getfield 48, 3) := by decide +kernel
theorem dX8_told_55 : decode cX8_told 55 = .ok (.ireturn, 1) := by decide +kernel
theorem dX8_told_56 : decode cX8_told 56 = .ok (.aload_n 0, 1) := by decide +kernel
theorem dX8_told_57 : decode cX8_told 57 = .ok (.getfield 62, 3) := by decide +kernel
theorem dX8_told_60 : decode cX8_told 60 = .ok (.ifCond .eq 13, 3) := by decide +kernel
theorem dX8_told_63 : decode cX8_told 63 = .ok (.aload_n 0, 1) := by decide +kernel
theorem dX8_told_64 : decode cX8_told 64 = .ok (.getfield 33, 3) := by decide +kernel
theorem dX8_told_67 : decode cX8_told 67 = .ok (.getfield 74, 3) := by decide +kernel
theorem dX8_told_70 : decode cX8_told 70 = .ok (.goto 4, 3) := by decide +kernel
theorem dX8_told_73 : decode cX8_told 73 = .ok (.iconst 0, 1) := by decide +kernel
theorem dX8_told_74 : decode cX8_told 74 = .ok (.ireturn, 1) := by decide +kernel
theorem dX8_told_75 : decode cX8_told 75 = .ok (.aload_n 0, 1) := by decide +kernel
theorem dX8_told_76 : decode cX8_told 76 = .ok (.getfield 62, 3) := by decide +kernel
theorem dX8_told_79 : decode cX8_told 79 = .ok (.ifCond .eq 13, 3) := by decide +kernel
theorem dX8_told_82 : decode cX8_told 82 = .ok (.aload_n 0, 1) := by decide +kernel
theorem dX8_told_83 : decode cX8_told 83 = .ok (.getfield 33, 3) := by decide +kernel
theorem dX8_told_86 : decode cX8_told 86 = .ok (.getfield 222, 3) := by decide +kernel
theorem dX8_told_89 : decode cX8_told 89 = .ok (.goto 4, 3) := by decide +kernel
theorem dX8_told_92 : decode cX8_told 92 = .ok (.iconst 0, 1) := by decide +kernel
theorem dX8_told_93 : decode cX8_told 93 = .ok (.ireturn, 1) := by decide +kernel
theorem dX8_told_94 : decode cX8_told 94 = .ok (.aload_n 0, 1) := by decide +kernel
theorem dX8_told_95 : decode cX8_told 95 = .ok (.getfield 62, 3) := by decide +kernel
theorem dX8_told_98 : decode cX8_told 98 = .ok (.ifCond .eq 13, 3) := by decide +kernel
theorem dX8_told_101 : decode cX8_told 101 = .ok (.aload_n 0, 1) := by decide +kernel
theorem dX8_told_102 : decode cX8_told 102 = .ok (.getfield 33, 3) := by decide +kernel
theorem dX8_told_105 : decode cX8_told 105 = .ok (.getfield 225, 3) := by decide +kernel
theorem dX8_told_108 : decode cX8_told 108 = .ok (.goto 4, 3) := by decide +kernel
theorem dX8_told_111 : decode cX8_told 111 = .ok (.iconst 0, 1) := by decide +kernel
theorem dX8_told_112 : decode cX8_told 112 = .ok (.ireturn, 1) := by decide +kernel
theorem dX8_told_113 : decode cX8_told 113 = .ok (.aload_n 0, 1) := by decide +kernel
theorem dX8_told_114 : decode cX8_told 114 = .ok (.getfield 19, 3) := by decide +kernel
theorem dX8_told_117 : decode cX8_told 117 = .ok (.getfield 228, 3) := by decide +kernel
theorem dX8_told_120 : decode cX8_told 120 = .ok (.ireturn, 1) := by decide +kernel
theorem dX8_told_121 : decode cX8_told 121 = .ok (.aload_n 0, 1) := by decide +kernel
theorem dX8_told_122 : decode cX8_told 122 = .ok (.getfield 26, 3) := by decide +kernel
theorem dX8_told_125 : decode cX8_told 125 = .ok (.getfield 126, 3) := by decide +kernel
theorem dX8_told_128 : decode cX8_told 128 = .ok (.getfield 130, 3) := by decide +kernel
theorem dX8_told_131 : decode cX8_told 131 = .ok (.ireturn, 1) := by decide +kernel
theorem dX8_told_132 : decode cX8_told 132 = .ok (.aload_n 0, 1) := by decide +kernel
theorem dX8_told_133 : decode cX8_told 133 = .ok (.getfield 26, 3) := by decide +kernel
theorem dX8_told_136 : decode cX8_told 136 = .ok (.getfield 126, 3) := by decide +kernel
theorem dX8_told_139 : decode cX8_told 139 = .ok (.getfield 229, 3) := by decide +kernel
theorem dX8_told_142 : decode cX8_told 142 = .ok (.ireturn, 1) := by decide +kernel
theorem dX8_told_143 : decode cX8_told 143 = .ok (.aload_n 0, 1) := by decide +kernel
theorem dX8_told_144 : decode cX8_told 144 = .ok (.getfield 26, 3) := by decide +kernel
theorem dX8_told_147 : decode cX8_told 147 = .ok (.getfield 109, 3) := by decide +kernel
theorem dX8_told_150 : decode cX8_told 150 = .ok (.ireturn, 1) := by decide +kernel
theorem dX8_told_151 : decode cX8_told 151 = .ok (.bipush (-3), 2) := by decide +kernel
theorem dX8_told_153 : decode cX8_told 153 = .ok (.ireturn, 1) := by decide +kernel
theorem dX8_demandRow_0 : decode cX8_demandRow 0 = .ok (.aload_n 0, 1) := by decide +kernel
theorem dX8_demandRow_1 : decode cX8_demandRow 1 = .ok (.getfield 26, 3) := by decide +kernel
theorem dX8_demandRow_4 : decode cX8_demandRow 4 = .ok (.getfield 126, 3) := by decide +kernel
theorem dX8_demandRow_7 : decode cX8_demandRow 7 = .ok (.iload_n 1, 1) := by decide +kernel
theorem dX8_demandRow_8 : decode cX8_demandRow 8 = .ok (.invokevirtual 232, 3) := by decide +kernel
theorem dX8_demandRow_11 : decode cX8_demandRow 11 = .ok (.ifCond .ne 13, 3) := by decide +kernel
theorem dX8_demandRow_14 : decode cX8_demandRow 14 = .ok (.new 95, 3) := by decide +kernel
theorem dX8_demandRow_17 : decode cX8_demandRow 17 = .ok (.dup, 1) := by decide +kernel
theorem dX8_demandRow_18 : decode cX8_demandRow 18 = .ok (.ldc 233, 2) := by decide +kernel
theorem dX8_demandRow_20 : decode cX8_demandRow 20 = .ok (.invokespecial 99, 3) := by decide +kernel
theorem dX8_demandRow_23 : decode cX8_demandRow 23 = .ok (.athrow, 1) := by decide +kernel
theorem dX8_demandRow_24 : decode cX8_demandRow 24 = .ok (.return_, 1) := by decide +kernel
theorem dX9_init_0 : decode cX9_init 0 = .ok (.aload_n 0, 1) := by decide +kernel
theorem dX9_init_1 : decode cX9_init 1 = .ok (.invokespecial 1, 3) := by decide +kernel
theorem dX9_init_4 : decode cX9_init 4 = .ok (.aload_n 0, 1) := by decide +kernel
theorem dX9_init_5 : decode cX9_init 5 = .ok (.sipush 1000, 3) := by decide +kernel
theorem dX9_init_8 : decode cX9_init 8 = .ok (.newarray .int, 2) := by decide +kernel
theorem dX9_init_10 : decode cX9_init 10 = .ok (.putfield 7, 3) := by decide +kernel
theorem dX9_init_13 : decode cX9_init 13 = .ok (.aload_n 0, 1) := by decide +kernel
theorem dX9_init_14 : decode cX9_init 14 = .ok (.bipush 8, 2) := by decide +kernel
theorem dX9_init_16 : decode cX9_init 16 = .ok (.newarray .int, 2) := by decide +kernel
theorem dX9_init_18 : decode cX9_init 18 = .ok (.putfield 13, 3) := by decide +kernel
theorem dX9_init_21 : decode cX9_init 21 = .ok (.aload_n 0, 1) := by decide +kernel
theorem dX9_init_22 : decode cX9_init 22 = .ok (.bipush 8, 2) := by decide +kernel
theorem dX9_init_24 : decode cX9_init 24 = .ok (.newarray .int, 2) := by decide +kernel
theorem dX9_init_26 : decode cX9_init 26 = .ok (.putfield 16, 3) := by decide +kernel
theorem dX9_init_29 : decode cX9_init 29 = .ok (.aload_n 0, 1) := by decide +kernel
theorem dX9_init_30 : decode cX9_init 30 = .ok (.bipush 8, 2) := by decide +kernel
theorem dX9_init_32 : decode cX9_init 32 = .ok (.newarray .int, 2) := by decide +kernel
theorem dX9_init_34 : decode cX9_init 34 = .ok (.putfield 19, 3) := by decide +kernel
theorem dX9_init_37 : decode cX9_init 37 = .ok (.aload_n 0, 1) := by decide +kernel
theorem dX9_init_38 : decode cX9_init 38 = .ok (.sipush 160, 3) := by decide +kernel
theorem dX9_init_41 : decode cX9_init 41 = .ok (.newarray .int, 2) := by decide +kernel
theorem dX9_init_43 : decode cX9_init 43 = .ok (.putfield 22, 3) := by decide +kernel
theorem dX9_init_46 : decode cX9_init 46 = .ok (.aload_n 0, 1) := by decide +kernel
theorem dX9_init_47 : decode cX9_init 47 = .ok (.bipush 20, 2) := by decide +kernel
theorem dX9_init_49 : decode cX9_init 49 = .ok (.newarray .int, 2) := by decide +kernel
theorem dX9_init_51 : decode cX9_init 51 = .ok (.putfield 25, 3) := by decide +kernel
theorem dX9_init_54 : decode cX9_init 54 = .ok (.aload_n 0, 1) := by decide +kernel
theorem dX9_init_55 : decode cX9_init 55 = .ok (.iconst 4, 1) := by decide +kernel
theorem dX9_init_56 : decode cX9_init 56 = .ok (.newarray .int, 2) := by decide +kernel
theorem dX9_init_58 : decode cX9_init 58 = .ok (.putfield 28, 3) := by decide +kernel
theorem dX9_init_61 : decode cX9_init 61 = .ok (.aload_n 0, 1) := by decide +kernel
theorem dX9_init_62 : decode cX9_init 62 = .ok (.iconst 4, 1) := by decide +kernel
theorem dX9_init_63 : decode cX9_init 63 = .ok (.newarray .int, 2) := by decide +kernel
theorem dX9_init_65 : decode cX9_init 65 = .ok (.putfield 31, 3) := by decide +kernel
theorem dX9_init_68 : decode cX9_init 68 = .ok (.aload_n 0, 1) := by decide +kernel
theorem dX9_init_69 : decode cX9_init 69 = .ok (.iconst 4, 1) := by decide +kernel
theorem dX9_init_70 : decode cX9_init 70 = .ok (.newarray .int, 2) := by decide +kernel
theorem dX9_init_72 : decode cX9_init 72 = .ok (.putfield 34, 3) := by decide +kernel
theorem dX9_init_75 : decode cX9_init 75 = .ok (.aload_n 0, 1) := by decide +kernel
theorem dX9_init_76 : decode cX9_init 76 = .ok (.bipush 80, 2) := by decide +kernel
theorem dX9_init_78 : decode cX9_init 78 = .ok (.newarray .int, 2) := by decide +kernel
theorem dX9_init_80 : decode cX9_init 80 = .ok (.putfield 37, 3) := by decide +kernel
theorem dX9_init_83 : decode cX9_init 83 = .ok (.aload_n 0, 1) := by decide +kernel
theorem dX9_init_84 : decode cX9_init 84 = .ok (.bipush 80, 2) := by decide +kernel
theorem dX9_init_86 : decode cX9_init 86 = .ok (.newarray .int, 2) := by decide +kernel
theorem dX9_init_88 : decode cX9_init 88 = .ok (.putfield 40, 3) := by decide +kernel
theorem dX9_init_91 : decode cX9_init 91 = .ok (.aload_n 0, 1) := by decide +kernel
theorem dX9_init_92 : decode cX9_init 92 = .ok (.bipush 64, 2) := by decide +kernel
theorem dX9_init_94 : decode cX9_init 94 = .ok (.newarray .int, 2) := by decide +kernel
theorem dX9_init_96 : decode cX9_init 96 = .ok (.putfield 43, 3) := by decide +kernel
theorem dX9_init_99 : decode cX9_init 99 = .ok (.aload_n 0, 1) := by decide +kernel
theorem dX9_init_100 : decode cX9_init 100 = .ok (.sipush 1500, 3) := by decide +kernel
theorem dX9_init_103 : decode cX9_init 103 = .ok (.newarray .int, 2) := by decide +kernel
theorem dX9_init_105 : decode cX9_init 105 = .ok (.putfield 46, 3) := by decide +kernel
theorem dX9_init_108 : decode cX9_init 108 = .ok (.aload_n 0, 1) := by decide +kernel
theorem dX9_init_109 : decode cX9_init 109 = .ok (.iconst (-1), 1) := by decide +kernel
theorem dX9_init_110 : decode cX9_init 110 = .ok (.putfield 49, 3) := by decide +kernel
theorem dX9_init_113 : decode cX9_init 113 = .ok (.aload_n 0, 1) := by decide +kernel
theorem dX9_init_114 : decode cX9_init 114 = .ok (.iconst (-1), 1) := by decide +kernel
theorem dX9_init_115 : decode cX9_init 115 = .ok (.putfield 53, 3) := by decide +kernel
theorem dX9_init_118 : decode cX9_init 118 = .ok (.aload_n 0, 1) := by decide +kernel
theorem dX9_init_119 : decode cX9_init 119 = .ok (.sipush 201, 3) := by decide +kernel
theorem dX9_init_122 : decode cX9_init 122 = .ok (.newarray .int, 2) := by decide +kernel
theorem dX9_init_124 : decode cX9_init 124 = .ok (.putfield 56, 3) := by decide +kernel
theorem dX9_init_127 : decode cX9_init 127 = .ok (.aload_n 0, 1) := by decide +kernel
theorem dX9_init_128 : decode cX9_init 128 = .ok (.sipush 1600, 3) := by decide +kernel
theorem dX9_init_131 : decode cX9_init 131 = .ok (.newarray .long, 2) := by decide +kernel
theorem dX9_init_133 : decode cX9_init 133 = .ok (.putfield 59, 3) := by decide +kernel
theorem dX9_init_136 : decode cX9_init 136 = .ok (.aload_n 0, 1) := by decide +kernel
theorem dX9_init_137 : decode cX9_init 137 = .ok (.sipush 200, 3) := by decide +kernel
theorem dX9_init_140 : decode cX9_init 140 = .ok (.newarray .long, 2) := by decide +kernel
theorem dX9_init_142 : decode cX9_init 142 = .ok (.putfield 63, 3) := by decide +kernel
theorem dX9_init_145 : decode cX9_init 145 = .ok (.aload_n 0, 1) := by decide +kernel
theorem dX9_init_146 : decode cX9_init 146 = .ok (.sipush 200, 3) := by decide +kernel
theorem dX9_init_149 : decode cX9_init 149 = .ok (.newarray .boolean, 2) := by decide +kernel
theorem dX9_init_151 : decode cX9_init 151 = .ok (.putfield 66, 3) := by decide +kernel
theorem dX9_init_154 : decode cX9_init 154 = .ok (.aload_n 0, 1) := by decide +kernel
theorem dX9_init_155 : decode cX9_init 155 = .ok (.sipush 200, 3) := by decide +kernel
theorem dX9_init_158 : decode cX9_init 158 = .ok (.newarray .long, 2) := by decide +kernel
theorem dX9_init_160 : decode cX9_init 160 = .ok (.putfield 70, 3) := by decide +kernel
theorem dX9_init_163 : decode cX9_init 163 = .ok (.aload_n 0, 1) := by decide +kernel
theorem dX9_init_164 : decode cX9_init 164 = .ok (.ldc 73, 2) := by decide +kernel
theorem dX9_init_166 : decode cX9_init 166 = .ok (.newarray .boolean, 2) := by decide +kernel
theorem dX9_init_168 : decode cX9_init 168 = .ok (.putfield 74, 3) := by decide +kernel
theorem dX9_init_171 : decode cX9_init 171 = .ok (.aload_n 0, 1) := by decide +kernel
theorem dX9_init_172 : decode cX9_init 172 = .ok (.sipush 200, 3) := by decide +kernel
theorem dX9_init_175 : decode cX9_init 175 = .ok (.newarray .boolean, 2) := by decide +kernel
theorem dX9_init_177 : decode cX9_init 177 = .ok (.putfield 77, 3) := by decide +kernel
theorem dX9_init_180 : decode cX9_init 180 = .ok (.aload_n 0, 1) := by decide +kernel
theorem dX9_init_181 : decode cX9_init 181 = .ok (.sipush 200, 3) := by decide +kernel
theorem dX9_init_184 : decode cX9_init 184 = .ok (.newarray .int, 2) := by decide +kernel
theorem dX9_init_186 : decode cX9_init 186 = .ok (.putfield 80, 3) := by decide +kernel
theorem dX9_init_189 : decode cX9_init 189 = .ok (.aload_n 0, 1) := by decide +kernel
theorem dX9_init_190 : decode cX9_init 190 = .ok (.sipush 1500, 3) := by decide +kernel
theorem dX9_init_193 : decode cX9_init 193 = .ok (.newarray .int, 2) := by decide +kernel
theorem dX9_init_195 : decode cX9_init 195 = .ok (.putfield 83, 3) := by decide +kernel
theorem dX9_init_198 : decode cX9_init 198 = .ok (.return_, 1) := by decide +kernel
theorem dX9_thrown_0 : decode cX9_thrown 0 = .ok (.aload_n 0, 1) := by decide +kernel
theorem dX9_thrown_1 : decode cX9_thrown 1 = .ok (.getfield 86, 3) := by decide +kernel
theorem dX9_thrown_4 : decode cX9_thrown 4 = .ok (.ireturn, 1) := by decide +kernel
theorem dX9_in_0 : decode cX9_in 0 = .ok (.iload_n 0, 1) := by decide +kernel
theorem dX9_in_1 : decode cX9_in 1 = .ok (.iload_n 1, 1) := by decide +kernel
theorem dX9_in_2 : decode cX9_in 2 = .ok (.if_icmp .lt 12, 3) := by decide +kernel
theorem dX9_in_5 : decode cX9_in 5 = .ok (.iload_n 0, 1) := by decide +kernel
theorem dX9_in_6 : decode cX9_in 6 = .ok (.iload_n 2, 1) := by decide +kernel
theorem dX9_in_7 : decode cX9_in 7 = .ok (.if_icmp .gt 7, 3) := by decide +kernel
theorem dX9_in_10 : decode cX9_in 10 = .ok (.iconst 1, 1) := by decide +kernel
theorem dX9_in_11 : decode cX9_in 11 = .ok (.goto 4, 3) := by decide +kernel
theorem dX9_in_14 : decode cX9_in 14 = .ok (.iconst 0, 1) := by decide +kernel
theorem dX9_in_15 : decode cX9_in 15 = .ok (.ireturn, 1) := by decide +kernel
theorem dX9_put_0 : decode cX9_put 0 = .ok (.aload_n 0, 1) := by decide +kernel
theorem dX9_put_1 : decode cX9_put 1 = .ok (.iconst 0, 1) := by decide +kernel
theorem dX9_put_2 : decode cX9_put 2 = .ok (.putfield 86, 3) := by decide +kernel
theorem dX9_put_5 : decode cX9_put 5 = .ok (.iload_n 1, 1) := by decide +kernel
theorem dX9_put_6 : decode cX9_put 6 = .ok (.iconst 1, 1) := by decide +kernel
theorem dX9_put_7 : decode cX9_put 7 = .ok (.iconst 4, 1) := by decide +kernel
theorem dX9_put_8 : decode cX9_put 8 = .ok (.invokestatic 89, 3) := by decide +kernel
theorem dX9_put_11 : decode cX9_put 11 = .ok (.ifCond .ne 6, 3) := by decide +kernel
theorem dX9_put_14 : decode cX9_put 14 = .ok (.bipush (-3), 2) := by decide +kernel
theorem dX9_put_16 : decode cX9_put 16 = .ok (.ireturn, 1) := by decide +kernel
theorem dX9_put_17 : decode cX9_put 17 = .ok (.aload_n 0, 1) := by decide +kernel
theorem dX9_put_18 : decode cX9_put 18 = .ok (.getfield 93, 3) := by decide +kernel
theorem dX9_put_21 : decode cX9_put 21 = .ok (.iload_n 1, 1) := by decide +kernel
theorem dX9_put_22 : decode cX9_put 22 = .ok (.iadd, 1) := by decide +kernel
theorem dX9_put_23 : decode cX9_put 23 = .ok (.sipush 1000, 3) := by decide +kernel
theorem dX9_put_26 : decode cX9_put 26 = .ok (.if_icmp .le 6, 3) := by decide +kernel
theorem dX9_put_29 : decode cX9_put 29 = .ok (.bipush (-5), 2) := by decide +kernel
theorem dX9_put_31 : decode cX9_put 31 = .ok (.ireturn, 1) := by decide +kernel
theorem dX9_put_32 : decode cX9_put 32 = .ok (.iconst 0, 1) := by decide +kernel
theorem dX9_put_33 : decode cX9_put 33 = .ok (.istore 6, 2) := by decide +kernel
theorem dX9_put_35 : decode cX9_put 35 = .ok (.iload 6, 2) := by decide +kernel
theorem dX9_put_37 : decode cX9_put 37 = .ok (.iload_n 1, 1) := by decide +kernel
theorem dX9_put_38 : decode cX9_put 38 = .ok (.if_icmp .ge 60, 3) := by decide +kernel
theorem dX9_put_41 : decode cX9_put 41 = .ok (.aload_n 0, 1) := by decide +kernel
theorem dX9_put_42 : decode cX9_put 42 = .ok (.getfield 7, 3) := by decide +kernel
theorem dX9_put_45 : decode cX9_put 45 = .ok (.aload_n 0, 1) := by decide +kernel
theorem dX9_put_46 : decode cX9_put 46 = .ok (.getfield 93, 3) := by decide +kernel
theorem dX9_put_49 : decode cX9_put 49 = .ok (.iload 6, 2) := by decide +kernel
theorem dX9_put_51 : decode cX9_put 51 = .ok (.ifCond .ne 7, 3) := by decide +kernel
theorem dX9_put_54 : decode cX9_put 54 = .ok (.iload_n 2, 1) := by decide +kernel
theorem dX9_put_55 : decode cX9_put 55 = .ok (.goto 26, 3) := by decide +kernel
theorem dX9_put_58 : decode cX9_put 58 = .ok (.iload 6, 2) := by decide +kernel
theorem dX9_put_60 : decode cX9_put 60 = .ok (.iconst 1, 1) := by decide +kernel
theorem dX9_put_61 : decode cX9_put 61 = .ok (.if_icmp .ne 7, 3) := by decide +kernel
theorem dX9_put_64 : decode cX9_put 64 = .ok (.iload_n 3, 1) := by decide +kernel
theorem dX9_put_65 : decode cX9_put 65 = .ok (.goto 16, 3) := by decide +kernel
theorem dX9_put_68 : decode cX9_put 68 = .ok (.iload 6, 2) := by decide +kernel
theorem dX9_put_70 : decode cX9_put 70 = .ok (.iconst 2, 1) := by decide +kernel
theorem dX9_put_71 : decode cX9_put 71 = .ok (.if_icmp .ne 8, 3) := by decide +kernel
theorem dX9_put_74 : decode cX9_put 74 = .ok (.iload 4, 2) := by decide +kernel
theorem dX9_put_76 : decode cX9_put 76 = .ok (.goto 5, 3) := by decide +kernel
theorem dX9_put_79 : decode cX9_put 79 = .ok (.iload 5, 2) := by decide +kernel
theorem dX9_put_81 : decode cX9_put 81 = .ok (.iastore, 1) := by decide +kernel
theorem dX9_put_82 : decode cX9_put 82 = .ok (.aload_n 0, 1) := by decide +kernel
theorem dX9_put_83 : decode cX9_put 83 = .ok (.dup, 1) := by decide +kernel
theorem dX9_put_84 : decode cX9_put 84 = .ok (.getfield 93, 3) := by decide +kernel
theorem dX9_put_87 : decode cX9_put 87 = .ok (.iconst 1, 1) := by decide +kernel
theorem dX9_put_88 : decode cX9_put 88 = .ok (.iadd, 1) := by decide +kernel
theorem dX9_put_89 : decode cX9_put 89 = .ok (.putfield 93, 3) := by decide +kernel
theorem dX9_put_92 : decode cX9_put 92 = .ok (.iinc 6 1, 3) := by decide +kernel
theorem dX9_put_95 : decode cX9_put 95 = .ok (.goto (-60), 3) := by decide +kernel
theorem dX9_put_98 : decode cX9_put 98 = .ok (.aload_n 0, 1) := by decide +kernel
theorem dX9_put_99 : decode cX9_put 99 = .ok (.getfield 93, 3) := by decide +kernel
theorem dX9_put_102 : decode cX9_put 102 = .ok (.ireturn, 1) := by decide +kernel
theorem dX9_drop_0 : decode cX9_drop 0 = .ok (.aload_n 0, 1) := by decide +kernel
theorem dX9_drop_1 : decode cX9_drop 1 = .ok (.iconst 0, 1) := by decide +kernel
theorem dX9_drop_2 : decode cX9_drop 2 = .ok (.putfield 86, 3) := by decide +kernel
theorem dX9_drop_5 : decode cX9_drop 5 = .ok (.aload_n 0, 1) := by decide +kernel
theorem dX9_drop_6 : decode cX9_drop 6 = .ok (.getfield 93, 3) := by decide +kernel
theorem dX9_drop_9 : decode cX9_drop 9 = .ok (.istore_n 1, 1) := by decide +kernel
theorem dX9_drop_10 : decode cX9_drop 10 = .ok (.aload_n 0, 1) := by decide +kernel
theorem dX9_drop_11 : decode cX9_drop 11 = .ok (.iconst 0, 1) := by decide +kernel
theorem dX9_drop_12 : decode cX9_drop 12 = .ok (.putfield 93, 3) := by decide +kernel
theorem dX9_drop_15 : decode cX9_drop 15 = .ok (.iload_n 1, 1) := by decide +kernel
theorem dX9_drop_16 : decode cX9_drop 16 = .ok (.ireturn, 1) := by decide +kernel
theorem dX9_next_0 : decode cX9_next 0 = .ok (.aload_n 0, 1) := by decide +kernel
theorem dX9_next_1 : decode cX9_next 1 = .ok (.getfield 96, 3) := by decide +kernel
theorem dX9_next_4 : decode cX9_next 4 = .ok (.ifCond .eq 5, 3) := by decide +kernel
theorem dX9_next_7 : decode cX9_next 7 = .ok (.iload_n 1, 1) := by decide +kernel
theorem dX9_next_8 : decode cX9_next 8 = .ok (.ireturn, 1) := by decide +kernel
theorem dX9_next_9 : decode cX9_next 9 = .ok (.aload_n 0, 1) := by decide +kernel
theorem dX9_next_10 : decode cX9_next 10 = .ok (.getfield 100, 3) := by decide +kernel
theorem dX9_next_13 : decode cX9_next 13 = .ok (.aload_n 0, 1) := by decide +kernel
theorem dX9_next_14 : decode cX9_next 14 = .ok (.getfield 93, 3) := by decide +kernel
theorem dX9_next_17 : decode cX9_next 17 = .ok (.if_icmp .ge 20, 3) := by decide +kernel
theorem dX9_next_20 : decode cX9_next 20 = .ok (.aload_n 0, 1) := by decide +kernel
theorem dX9_next_21 : decode cX9_next 21 = .ok (.getfield 7, 3) := by decide +kernel
theorem dX9_next_24 : decode cX9_next 24 = .ok (.aload_n 0, 1) := by decide +kernel
theorem dX9_next_25 : decode cX9_next 25 = .ok (.getfield 100, 3) := by decide +kernel
theorem dX9_next_28 : decode cX9_next 28 = .ok (.iaload, 1) := by decide +kernel
theorem dX9_next_29 : decode cX9_next 29 = .ok (.iload_n 1, 1) := by decide +kernel
theorem dX9_next_30 : decode cX9_next 30 = .ok (.iload_n 2, 1) := by decide +kernel
theorem dX9_next_31 : decode cX9_next 31 = .ok (.invokestatic 89, 3) := by decide +kernel
theorem dX9_next_34 : decode cX9_next 34 = .ok (.ifCond .ne 10, 3) := by decide +kernel
theorem dX9_next_37 : decode cX9_next 37 = .ok (.aload_n 0, 1) := by decide +kernel
theorem dX9_next_38 : decode cX9_next 38 = .ok (.iconst 1, 1) := by decide +kernel
theorem dX9_next_39 : decode cX9_next 39 = .ok (.putfield 96, 3) := by decide +kernel
theorem dX9_next_42 : decode cX9_next 42 = .ok (.iload_n 1, 1) := by decide +kernel
theorem dX9_next_43 : decode cX9_next 43 = .ok (.ireturn, 1) := by decide +kernel
theorem dX9_next_44 : decode cX9_next 44 = .ok (.aload_n 0, 1) := by decide +kernel
theorem dX9_next_45 : decode cX9_next 45 = .ok (.dup, 1) := by decide +kernel
theorem dX9_next_46 : decode cX9_next 46 = .ok (.getfield 100, 3) := by decide +kernel
theorem dX9_next_49 : decode cX9_next 49 = .ok (.iconst 1, 1) := by decide +kernel
theorem dX9_next_50 : decode cX9_next 50 = .ok (.iadd, 1) := by decide +kernel
theorem dX9_next_51 : decode cX9_next 51 = .ok (.putfield 100, 3) := by decide +kernel
theorem dX9_next_54 : decode cX9_next 54 = .ok (.aload_n 0, 1) := by decide +kernel
theorem dX9_next_55 : decode cX9_next 55 = .ok (.getfield 7, 3) := by decide +kernel
theorem dX9_next_58 : decode cX9_next 58 = .ok (.aload_n 0, 1) := by decide +kernel
theorem dX9_next_59 : decode cX9_next 59 = .ok (.getfield 100, 3) := by decide +kernel
theorem dX9_next_62 : decode cX9_next 62 = .ok (.iconst 1, 1) := by decide +kernel
theorem dX9_next_63 : decode cX9_next 63 = .ok (.isub, 1) := by decide +kernel
theorem dX9_next_64 : decode cX9_next 64 = .ok (.iaload, 1) := by decide +kernel
theorem dX9_next_65 : decode cX9_next 65 = .ok (.ireturn, 1) := by decide +kernel
theorem dX9_go_0 : decode cX9_go 0 = .ok (.aload_n 0, 1) := by decide +kernel
theorem dX9_go_1 : decode cX9_go 1 = .ok (.iconst 0, 1) := by decide +kernel
theorem dX9_go_2 : decode cX9_go 2 = .ok (.putfield 100, 3) := by decide +kernel
theorem dX9_go_5 : decode cX9_go 5 = .ok (.aload_n 0, 1) := by decide +kernel
theorem dX9_go_6 : decode cX9_go 6 = .ok (.iconst 0, 1) := by decide +kernel
theorem dX9_go_7 : decode cX9_go 7 = .ok (.putfield 96, 3) := by decide +kernel
theorem dX9_go_10 : decode cX9_go 10 = .ok (.aload_n 0, 1) := by decide +kernel
theorem dX9_go_11 : decode cX9_go 11 = .ok (.iconst 1, 1) := by decide +kernel
theorem dX9_go_12 : decode cX9_go 12 = .ok (.bipush 8, 2) := by decide +kernel
theorem dX9_go_14 : decode cX9_go 14 = .ok (.invokevirtual 103, 3) := by decide +kernel
theorem dX9_go_17 : decode cX9_go 17 = .ok (.istore_n 1, 1) := by decide +kernel
theorem dX9_go_18 : decode cX9_go 18 = .ok (.iconst 0, 1) := by decide +kernel
theorem dX9_go_19 : decode cX9_go 19 = .ok (.istore_n 2, 1) := by decide +kernel
theorem dX9_go_20 : decode cX9_go 20 = .ok (.iload_n 2, 1) := by decide +kernel
theorem dX9_go_21 : decode cX9_go 21 = .ok (.iload_n 1, 1) := by decide +kernel
theorem dX9_go_22 : decode cX9_go 22 = .ok (.if_icmp .ge 77, 3) := by decide +kernel
theorem dX9_go_25 : decode cX9_go 25 = .ok (.aload_n 0, 1) := by decide +kernel
theorem dX9_go_26 : decode cX9_go 26 = .ok (.getfield 96, 3) := by decide +kernel
theorem dX9_go_29 : decode cX9_go 29 = .ok (.ifCond .ne 70, 3) := by decide +kernel
theorem dX9_go_32 : decode cX9_go 32 = .ok (.aload_n 0, 1) := by decide +kernel
theorem dX9_go_33 : decode cX9_go 33 = .ok (.sipush (-1000), 3) := by decide +kernel
theorem dX9_go_36 : decode cX9_go 36 = .ok (.sipush 1000, 3) := by decide +kernel
theorem dX9_go_39 : decode cX9_go 39 = .ok (.invokevirtual 103, 3) := by decide +kernel
theorem dX9_go_42 : decode cX9_go 42 = .ok (.istore_n 3, 1) := by decide +kernel
theorem dX9_go_43 : decode cX9_go 43 = .ok (.aload_n 0, 1) := by decide +kernel
theorem dX9_go_44 : decode cX9_go 44 = .ok (.iload_n 3, 1) := by decide +kernel
theorem dX9_go_45 : decode cX9_go 45 = .ok (.sipush 1000, 3) := by decide +kernel
theorem dX9_go_48 : decode cX9_go 48 = .ok (.invokevirtual 103, 3) := by decide +kernel
theorem dX9_go_51 : decode cX9_go 51 = .ok (.istore 4, 2) := by decide +kernel
theorem dX9_go_53 : decode cX9_go 53 = .ok (.aload_n 0, 1) := by decide +kernel
theorem dX9_go_54 : decode cX9_go 54 = .ok (.bipush (-100), 2) := by decide +kernel
theorem dX9_go_56 : decode cX9_go 56 = .ok (.bipush 100, 2) := by decide +kernel
theorem dX9_go_58 : decode cX9_go 58 = .ok (.invokevirtual 103, 3) := by decide +kernel
theorem dX9_go_61 : decode cX9_go 61 = .ok (.istore 5, 2) := by decide +kernel
theorem dX9_go_63 : decode cX9_go 63 = .ok (.aload_n 0, 1) := by decide +kernel
theorem dX9_go_64 : decode cX9_go 64 = .ok (.getfield 107, 3) := by decide +kernel
theorem dX9_go_67 : decode cX9_go 67 = .ok (.ifCond .eq 26, 3) := by decide +kernel
theorem dX9_go_70 : decode cX9_go 70 = .ok (.aload_n 0, 1) := by decide +kernel
theorem dX9_go_71 : decode cX9_go 71 = .ok (.getfield 13, 3) := by decide +kernel
theorem dX9_go_74 : decode cX9_go 74 = .ok (.iload_n 2, 1) := by decide +kernel
theorem dX9_go_75 : decode cX9_go 75 = .ok (.iload_n 3, 1) := by decide +kernel
theorem dX9_go_76 : decode cX9_go 76 = .ok (.iastore, 1) := by decide +kernel
theorem dX9_go_77 : decode cX9_go 77 = .ok (.aload_n 0, 1) := by decide +kernel
theorem dX9_go_78 : decode cX9_go 78 = .ok (.getfield 16, 3) := by decide +kernel
theorem dX9_go_81 : decode cX9_go 81 = .ok (.iload_n 2, 1) := by decide +kernel
theorem dX9_go_82 : decode cX9_go 82 = .ok (.iload 4, 2) := by decide +kernel
theorem dX9_go_84 : decode cX9_go 84 = .ok (.iastore, 1) := by decide +kernel
theorem dX9_go_85 : decode cX9_go 85 = .ok (.aload_n 0, 1) := by decide +kernel
theorem dX9_go_86 : decode cX9_go 86 = .ok (.getfield 19, 3) := by decide +kernel
theorem dX9_go_89 : decode cX9_go 89 = .ok (.iload_n 2, 1) := by decide +kernel
theorem dX9_go_90 : decode cX9_go 90 = .ok (.iload 5, 2) := by decide +kernel
theorem dX9_go_92 : decode cX9_go 92 = .ok (.iastore, 1) := by decide +kernel
theorem dX9_go_93 : decode cX9_go 93 = .ok (.iinc 2 1, 3) := by decide +kernel
theorem dX9_go_96 : decode cX9_go 96 = .ok (.goto (-76), 3) := by decide +kernel
theorem dX9_go_99 : decode cX9_go 99 = .ok (.aload_n 0, 1) := by decide +kernel
theorem dX9_go_100 : decode cX9_go 100 = .ok (.iconst 0, 1) := by decide +kernel
theorem dX9_go_101 : decode cX9_go 101 = .ok (.bipush 20, 2) := by decide +kernel
theorem dX9_go_103 : decode cX9_go 103 = .ok (.invokevirtual 103, 3) := by decide +kernel
theorem dX9_go_106 : decode cX9_go 106 = .ok (.istore_n 2, 1) := by decide +kernel
theorem dX9_go_107 : decode cX9_go 107 = .ok (.iconst 0, 1) := by decide +kernel
theorem dX9_go_108 : decode cX9_go 108 = .ok (.istore_n 3, 1) := by decide +kernel
theorem dX9_go_109 : decode cX9_go 109 = .ok (.iload_n 3, 1) := by decide +kernel
theorem dX9_go_110 : decode cX9_go 110 = .ok (.iload_n 2, 1) := by decide +kernel
theorem dX9_go_111 : decode cX9_go 111 = .ok (.if_icmp .ge 87, 3) := by decide +kernel
theorem dX9_go_114 : decode cX9_go 114 = .ok (.aload_n 0, 1) := by decide +kernel
theorem dX9_go_115 : decode cX9_go 115 = .ok (.getfield 96, 3) := by decide +kernel
theorem dX9_go_118 : decode cX9_go 118 = .ok (.ifCond .ne 80, 3) := by decide +kernel
theorem dX9_go_121 : decode cX9_go 121 = .ok (.iconst 0, 1) := by decide +kernel
theorem dX9_go_122 : decode cX9_go 122 = .ok (.istore 4, 2) := by decide +kernel
theorem dX9_go_124 : decode cX9_go 124 = .ok (.iload 4, 2) := by decide +kernel
theorem dX9_go_126 : decode cX9_go 126 = .ok (.iload_n 1, 1) := by decide +kernel
theorem dX9_go_127 : decode cX9_go 127 = .ok (.if_icmp .ge 40, 3) := by decide +kernel
theorem dX9_go_130 : decode cX9_go 130 = .ok (.aload_n 0, 1) := by decide +kernel
theorem dX9_go_131 : decode cX9_go 131 = .ok (.bipush (-100), 2) := by decide +kernel
theorem dX9_go_133 : decode cX9_go 133 = .ok (.bipush 100, 2) := by decide +kernel
theorem dX9_go_135 : decode cX9_go 135 = .ok (.invokevirtual 103, 3) := by decide +kernel
theorem dX9_go_138 : decode cX9_go 138 = .ok (.istore 5, 2) := by decide +kernel
theorem dX9_go_140 : decode cX9_go 140 = .ok (.aload_n 0, 1) := by decide +kernel
theorem dX9_go_141 : decode cX9_go 141 = .ok (.getfield 107, 3) := by decide +kernel
theorem dX9_go_144 : decode cX9_go 144 = .ok (.ifCond .eq 17, 3) := by decide +kernel
theorem dX9_go_147 : decode cX9_go 147 = .ok (.aload_n 0, 1) := by decide +kernel
theorem dX9_go_148 : decode cX9_go 148 = .ok (.getfield 22, 3) := by decide +kernel
theorem dX9_go_151 : decode cX9_go 151 = .ok (.bipush 8, 2) := by decide +kernel
theorem dX9_go_153 : decode cX9_go 153 = .ok (.iload_n 3, 1) := by decide +kernel
theorem dX9_go_154 : decode cX9_go 154 = .ok (.imul, 1) := by decide +kernel
theorem dX9_go_155 : decode cX9_go 155 = .ok (.iload 4, 2) := by decide +kernel
theorem dX9_go_157 : decode cX9_go 157 = .ok (.iadd, 1) := by decide +kernel
theorem dX9_go_158 : decode cX9_go 158 = .ok (.iload 5, 2) := by decide +kernel
theorem dX9_go_160 : decode cX9_go 160 = .ok (.iastore, 1) := by decide +kernel
theorem dX9_go_161 : decode cX9_go 161 = .ok (.iinc 4 1, 3) := by decide +kernel
theorem dX9_go_164 : decode cX9_go 164 = .ok (.goto (-40), 3) := by decide +kernel
theorem dX9_go_167 : decode cX9_go 167 = .ok (.aload_n 0, 1) := by decide +kernel
theorem dX9_go_168 : decode cX9_go 168 = .ok (.ldc 110, 2) := by decide +kernel
theorem dX9_go_170 : decode cX9_go 170 = .ok (.ldc 111, 2) := by decide +kernel
theorem dX9_go_172 : decode cX9_go 172 = .ok (.invokevirtual 103, 3) := by decide +kernel
theorem dX9_go_175 : decode cX9_go 175 = .ok (.istore 4, 2) := by decide +kernel
theorem dX9_go_177 : decode cX9_go 177 = .ok (.aload_n 0, 1) := by decide +kernel
theorem dX9_go_178 : decode cX9_go 178 = .ok (.getfield 107, 3) := by decide +kernel
theorem dX9_go_181 : decode cX9_go 181 = .ok (.ifCond .eq 11, 3) := by decide +kernel
theorem dX9_go_184 : decode cX9_go 184 = .ok (.aload_n 0, 1) := by decide +kernel
theorem dX9_go_185 : decode cX9_go 185 = .ok (.getfield 25, 3) := by decide +kernel
theorem dX9_go_188 : decode cX9_go 188 = .ok (.iload_n 3, 1) := by decide +kernel
theorem dX9_go_189 : decode cX9_go 189 = .ok (.iload 4, 2) := by decide +kernel
theorem dX9_go_191 : decode cX9_go 191 = .ok (.iastore, 1) := by decide +kernel
theorem dX9_go_192 : decode cX9_go 192 = .ok (.iinc 3 1, 3) := by decide +kernel
theorem dX9_go_195 : decode cX9_go 195 = .ok (.goto (-86), 3) := by decide +kernel
theorem dX9_go_198 : decode cX9_go 198 = .ok (.aload_n 0, 1) := by decide +kernel
theorem dX9_go_199 : decode cX9_go 199 = .ok (.iconst 0, 1) := by decide +kernel
theorem dX9_go_200 : decode cX9_go 200 = .ok (.iconst 4, 1) := by decide +kernel
theorem dX9_go_201 : decode cX9_go 201 = .ok (.invokevirtual 103, 3) := by decide +kernel
theorem dX9_go_204 : decode cX9_go 204 = .ok (.istore_n 3, 1) := by decide +kernel
theorem dX9_go_205 : decode cX9_go 205 = .ok (.iconst 0, 1) := by decide +kernel
theorem dX9_go_206 : decode cX9_go 206 = .ok (.istore 4, 2) := by decide +kernel
theorem dX9_go_208 : decode cX9_go 208 = .ok (.iload 4, 2) := by decide +kernel
theorem dX9_go_210 : decode cX9_go 210 = .ok (.iload_n 3, 1) := by decide +kernel
theorem dX9_go_211 : decode cX9_go 211 = .ok (.if_icmp .ge 192, 3) := by decide +kernel
theorem dX9_go_214 : decode cX9_go 214 = .ok (.aload_n 0, 1) := by decide +kernel
theorem dX9_go_215 : decode cX9_go 215 = .ok (.getfield 96, 3) := by decide +kernel
theorem dX9_go_218 : decode cX9_go 218 = .ok (.ifCond .ne 185, 3) := by decide +kernel
theorem dX9_go_221 : decode cX9_go 221 = .ok (.aload_n 0, 1) := by decide +kernel
theorem dX9_go_222 : decode cX9_go 222 = .ok (.iconst 0, 1) := by decide +kernel
theorem dX9_go_223 : decode cX9_go 223 = .ok (.iload_n 1, 1) := by decide +kernel
theorem dX9_go_224 : decode cX9_go 224 = .ok (.iconst 1, 1) := by decide +kernel
theorem dX9_go_225 : decode cX9_go 225 = .ok (.isub, 1) := by decide +kernel
theorem dX9_go_226 : decode cX9_go 226 = .ok (.invokevirtual 103, 3) := by decide +kernel
theorem dX9_go_229 : decode cX9_go 229 = .ok (.istore 5, 2) := by decide +kernel
theorem dX9_go_231 : decode cX9_go 231 = .ok (.aload_n 0, 1) := by decide +kernel
theorem dX9_go_232 : decode cX9_go 232 = .ok (.iconst 0, 1) := by decide +kernel
theorem dX9_go_233 : decode cX9_go 233 = .ok (.iload_n 1, 1) := by decide +kernel
theorem dX9_go_234 : decode cX9_go 234 = .ok (.iconst 1, 1) := by decide +kernel
theorem dX9_go_235 : decode cX9_go 235 = .ok (.isub, 1) := by decide +kernel
theorem dX9_go_236 : decode cX9_go 236 = .ok (.invokevirtual 103, 3) := by decide +kernel
theorem dX9_go_239 : decode cX9_go 239 = .ok (.istore 6, 2) := by decide +kernel
theorem dX9_go_241 : decode cX9_go 241 = .ok (.aload_n 0, 1) := by decide +kernel
theorem dX9_go_242 : decode cX9_go 242 = .ok (.getfield 96, 3) := by decide +kernel
theorem dX9_go_245 : decode cX9_go 245 = .ok (.ifCond .ne 25, 3) := by decide +kernel
theorem dX9_go_248 : decode cX9_go 248 = .ok (.iload 5, 2) := by decide +kernel
theorem dX9_go_250 : decode cX9_go 250 = .ok (.iload 6, 2) := by decide +kernel
theorem dX9_go_252 : decode cX9_go 252 = .ok (.if_icmp .ne 18, 3) := by decide +kernel
theorem dX9_go_255 : decode cX9_go 255 = .ok (.aload_n 0, 1) := by decide +kernel
theorem dX9_go_256 : decode cX9_go 256 = .ok (.iconst 1, 1) := by decide +kernel
theorem dX9_go_257 : decode cX9_go 257 = .ok (.putfield 96, 3) := by decide +kernel
theorem dX9_go_260 : decode cX9_go 260 = .ok (.aload_n 0, 1) := by decide +kernel
theorem dX9_go_261 : decode cX9_go 261 = .ok (.dup, 1) := by decide +kernel
theorem dX9_go_262 : decode cX9_go 262 = .ok (.getfield 100, 3) := by decide +kernel
theorem dX9_go_265 : decode cX9_go 265 = .ok (.iconst 1, 1) := by decide +kernel
theorem dX9_go_266 : decode cX9_go 266 = .ok (.isub, 1) := by decide +kernel
theorem dX9_go_267 : decode cX9_go 267 = .ok (.putfield 100, 3) := by decide +kernel
theorem dX9_go_270 : decode cX9_go 270 = .ok (.aload_n 0, 1) := by decide +kernel
theorem dX9_go_271 : decode cX9_go 271 = .ok (.iconst 1, 1) := by decide +kernel
theorem dX9_go_272 : decode cX9_go 272 = .ok (.bipush 20, 2) := by decide +kernel
theorem dX9_go_274 : decode cX9_go 274 = .ok (.invokevirtual 103, 3) := by decide +kernel
theorem dX9_go_277 : decode cX9_go 277 = .ok (.istore 7, 2) := by decide +kernel
theorem dX9_go_279 : decode cX9_go 279 = .ok (.aload_n 0, 1) := by decide +kernel
theorem dX9_go_280 : decode cX9_go 280 = .ok (.getfield 107, 3) := by decide +kernel
theorem dX9_go_283 : decode cX9_go 283 = .ok (.ifCond .eq 30, 3) := by decide +kernel
theorem dX9_go_286 : decode cX9_go 286 = .ok (.aload_n 0, 1) := by decide +kernel
theorem dX9_go_287 : decode cX9_go 287 = .ok (.getfield 28, 3) := by decide +kernel
theorem dX9_go_290 : decode cX9_go 290 = .ok (.iload 4, 2) := by decide +kernel
theorem dX9_go_292 : decode cX9_go 292 = .ok (.iload 5, 2) := by decide +kernel
theorem dX9_go_294 : decode cX9_go 294 = .ok (.iastore, 1) := by decide +kernel
theorem dX9_go_295 : decode cX9_go 295 = .ok (.aload_n 0, 1) := by decide +kernel
theorem dX9_go_296 : decode cX9_go 296 = .ok (.getfield 31, 3) := by decide +kernel
theorem dX9_go_299 : decode cX9_go 299 = .ok (.iload 4, 2) := by decide +kernel
theorem dX9_go_301 : decode cX9_go 301 = .ok (.iload 6, 2) := by decide +kernel
theorem dX9_go_303 : decode cX9_go 303 = .ok (.iastore, 1) := by decide +kernel
theorem dX9_go_304 : decode cX9_go 304 = .ok (.aload_n 0, 1) := by decide +kernel
theorem dX9_go_305 : decode cX9_go 305 = .ok (.getfield 34, 3) := by decide +kernel
theorem dX9_go_308 : decode cX9_go 308 = .ok (.iload 4, 2) := by decide +kernel
theorem dX9_go_310 : decode cX9_go 310 = .ok (.iload 7, 2) := by decide +kernel
theorem dX9_go_312 : decode cX9_go 312 = .ok (.iastore, 1) := by decide +kernel
theorem dX9_go_313 : decode cX9_go 313 = .ok (.iconst 0, 1) := by decide +kernel
theorem dX9_go_314 : decode cX9_go 314 = .ok (.istore 8, 2) := by decide +kernel
theorem dX9_go_316 : decode cX9_go 316 = .ok (.iload 8, 2) := by decide +kernel
theorem dX9_go_318 : decode cX9_go 318 = .ok (.iload 7, 2) := by decide +kernel
theorem dX9_go_320 : decode cX9_go 320 = .ok (.if_icmp .ge 77, 3) := by decide +kernel
theorem dX9_go_323 : decode cX9_go 323 = .ok (.aload_n 0, 1) := by decide +kernel
theorem dX9_go_324 : decode cX9_go 324 = .ok (.getfield 96, 3) := by decide +kernel
theorem dX9_go_327 : decode cX9_go 327 = .ok (.ifCond .ne 70, 3) := by decide +kernel
theorem dX9_go_330 : decode cX9_go 330 = .ok (.aload_n 0, 1) := by decide +kernel
theorem dX9_go_331 : decode cX9_go 331 = .ok (.sipush (-1000), 3) := by decide +kernel
theorem dX9_go_334 : decode cX9_go 334 = .ok (.sipush 1000, 3) := by decide +kernel
theorem dX9_go_337 : decode cX9_go 337 = .ok (.invokevirtual 103, 3) := by decide +kernel
theorem dX9_go_340 : decode cX9_go 340 = .ok (.istore 9, 2) := by decide +kernel
theorem dX9_go_342 : decode cX9_go 342 = .ok (.aload_n 0, 1) := by decide +kernel
theorem dX9_go_343 : decode cX9_go 343 = .ok (.sipush (-1000), 3) := by decide +kernel
theorem dX9_go_346 : decode cX9_go 346 = .ok (.sipush 1000, 3) := by decide +kernel
theorem dX9_go_349 : decode cX9_go 349 = .ok (.invokevirtual 103, 3) := by decide +kernel
theorem dX9_go_352 : decode cX9_go 352 = .ok (.istore 10, 2) := by decide +kernel
theorem dX9_go_354 : decode cX9_go 354 = .ok (.aload_n 0, 1) := by decide +kernel
theorem dX9_go_355 : decode cX9_go 355 = .ok (.getfield 107, 3) := by decide +kernel
theorem dX9_go_358 : decode cX9_go 358 = .ok (.ifCond .eq 33, 3) := by decide +kernel
theorem dX9_go_361 : decode cX9_go 361 = .ok (.aload_n 0, 1) := by decide +kernel
theorem dX9_go_362 : decode cX9_go 362 = .ok (.getfield 37, 3) := by decide +kernel
theorem dX9_go_365 : decode cX9_go 365 = .ok (.bipush 20, 2) := by decide +kernel
theorem dX9_go_367 : decode cX9_go 367 = .ok (.iload 4, 2) := by decide +kernel
theorem dX9_go_369 : decode cX9_go 369 = .ok (.imul, 1) := by decide +kernel
theorem dX9_go_370 : decode cX9_go 370 = .ok (.iload 8, 2) := by decide +kernel
theorem dX9_go_372 : decode cX9_go 372 = .ok (.iadd, 1) := by decide +kernel
theorem dX9_go_373 : decode cX9_go 373 = .ok (.iload 9, 2) := by decide +kernel
theorem dX9_go_375 : decode cX9_go 375 = .ok (.iastore, 1) := by decide +kernel
theorem dX9_go_376 : decode cX9_go 376 = .ok (.aload_n 0, 1) := by decide +kernel
theorem dX9_go_377 : decode cX9_go 377 = .ok (.getfield 40, 3) := by decide +kernel
theorem dX9_go_380 : decode cX9_go 380 = .ok (.bipush 20, 2) := by decide +kernel
theorem dX9_go_382 : decode cX9_go 382 = .ok (.iload 4, 2) := by decide +kernel
theorem dX9_go_384 : decode cX9_go 384 = .ok (.imul, 1) := by decide +kernel
theorem dX9_go_385 : decode cX9_go 385 = .ok (.iload 8, 2) := by decide +kernel
theorem dX9_go_387 : decode cX9_go 387 = .ok (.iadd, 1) := by decide +kernel
theorem dX9_go_388 : decode cX9_go 388 = .ok (.iload 10, 2) := by decide +kernel
theorem dX9_go_390 : decode cX9_go 390 = .ok (.iastore, 1) := by decide +kernel
theorem dX9_go_391 : decode cX9_go 391 = .ok (.iinc 8 1, 3) := by decide +kernel
theorem dX9_go_394 : decode cX9_go 394 = .ok (.goto (-78), 3) := by decide +kernel
theorem dX9_go_397 : decode cX9_go 397 = .ok (.iinc 4 1, 3) := by decide +kernel
theorem dX9_go_400 : decode cX9_go 400 = .ok (.goto (-192), 3) := by decide +kernel
theorem dX9_go_403 : decode cX9_go 403 = .ok (.aload_n 0, 1) := by decide +kernel
theorem dX9_go_404 : decode cX9_go 404 = .ok (.getfield 96, 3) := by decide +kernel
theorem dX9_go_407 : decode cX9_go 407 = .ok (.ifCond .ne 19, 3) := by decide +kernel
theorem dX9_go_410 : decode cX9_go 410 = .ok (.aload_n 0, 1) := by decide +kernel
theorem dX9_go_411 : decode cX9_go 411 = .ok (.getfield 100, 3) := by decide +kernel
theorem dX9_go_414 : decode cX9_go 414 = .ok (.aload_n 0, 1) := by decide +kernel
theorem dX9_go_415 : decode cX9_go 415 = .ok (.getfield 93, 3) := by decide +kernel
theorem dX9_go_418 : decode cX9_go 418 = .ok (.if_icmp .ge 8, 3) := by decide +kernel
theorem dX9_go_421 : decode cX9_go 421 = .ok (.aload_n 0, 1) := by decide +kernel
theorem dX9_go_422 : decode cX9_go 422 = .ok (.iconst 1, 1) := by decide +kernel
theorem dX9_go_423 : decode cX9_go 423 = .ok (.putfield 96, 3) := by decide +kernel
theorem dX9_go_426 : decode cX9_go 426 = .ok (.aload_n 0, 1) := by decide +kernel
theorem dX9_go_427 : decode cX9_go 427 = .ok (.getfield 107, 3) := by decide +kernel
theorem dX9_go_430 : decode cX9_go 430 = .ok (.ifCond .eq 18, 3) := by decide +kernel
theorem dX9_go_433 : decode cX9_go 433 = .ok (.aload_n 0, 1) := by decide +kernel
theorem dX9_go_434 : decode cX9_go 434 = .ok (.iload_n 1, 1) := by decide +kernel
theorem dX9_go_435 : decode cX9_go 435 = .ok (.putfield 112, 3) := by decide +kernel
theorem dX9_go_438 : decode cX9_go 438 = .ok (.aload_n 0, 1) := by decide +kernel
theorem dX9_go_439 : decode cX9_go 439 = .ok (.iload_n 2, 1) := by decide +kernel
theorem dX9_go_440 : decode cX9_go 440 = .ok (.putfield 115, 3) := by decide +kernel
theorem dX9_go_443 : decode cX9_go 443 = .ok (.aload_n 0, 1) := by decide +kernel
theorem dX9_go_444 : decode cX9_go 444 = .ok (.iload_n 3, 1) := by decide +kernel
theorem dX9_go_445 : decode cX9_go 445 = .ok (.putfield 118, 3) := by decide +kernel
theorem dX9_go_448 : decode cX9_go 448 = .ok (.return_, 1) := by decide +kernel
theorem dX9_model_0 : decode cX9_model 0 = .ok (.aload_n 0, 1) := by decide +kernel
theorem dX9_model_1 : decode cX9_model 1 = .ok (.iconst 0, 1) := by decide +kernel
theorem dX9_model_2 : decode cX9_model 2 = .ok (.putfield 86, 3) := by decide +kernel
theorem dX9_model_5 : decode cX9_model 5 = .ok (.aload_n 0, 1) := by decide +kernel
theorem dX9_model_6 : decode cX9_model 6 = .ok (.iconst 0, 1) := by decide +kernel
theorem dX9_model_7 : decode cX9_model 7 = .ok (.putfield 107, 3) := by decide +kernel
theorem dX9_model_10 : decode cX9_model 10 = .ok (.aload_n 0, 1) := by decide +kernel
theorem dX9_model_11 : decode cX9_model 11 = .ok (.invokevirtual 121, 3) := by decide +kernel
theorem dX9_model_14 : decode cX9_model 14 = .ok (.aload_n 0, 1) := by decide +kernel
theorem dX9_model_15 : decode cX9_model 15 = .ok (.getfield 96, 3) := by decide +kernel
theorem dX9_model_18 : decode cX9_model 18 = .ok (.ifCond .eq 18, 3) := by decide +kernel
theorem dX9_model_21 : decode cX9_model 21 = .ok (.aload_n 0, 1) := by decide +kernel
theorem dX9_model_22 : decode cX9_model 22 = .ok (.getfield 100, 3) := by decide +kernel
theorem dX9_model_25 : decode cX9_model 25 = .ok (.istore_n 1, 1) := by decide +kernel
theorem dX9_model_26 : decode cX9_model 26 = .ok (.aload_n 0, 1) := by decide +kernel
theorem dX9_model_27 : decode cX9_model 27 = .ok (.iconst 0, 1) := by decide +kernel
theorem dX9_model_28 : decode cX9_model 28 = .ok (.putfield 93, 3) := by decide +kernel
theorem dX9_model_31 : decode cX9_model 31 = .ok (.bipush (-10), 2) := by decide +kernel
theorem dX9_model_33 : decode cX9_model 33 = .ok (.iload_n 1, 1) := by decide +kernel
theorem dX9_model_34 : decode cX9_model 34 = .ok (.isub, 1) := by decide +kernel
theorem dX9_model_35 : decode cX9_model 35 = .ok (.ireturn, 1) := by decide +kernel
theorem dX9_model_36 : decode cX9_model 36 = .ok (.aload_n 0, 1) := by decide +kernel
theorem dX9_model_37 : decode cX9_model 37 = .ok (.iconst 1, 1) := by decide +kernel
theorem dX9_model_38 : decode cX9_model 38 = .ok (.putfield 107, 3) := by decide +kernel
theorem dX9_model_41 : decode cX9_model 41 = .ok (.aload_n 0, 1) := by decide +kernel
theorem dX9_model_42 : decode cX9_model 42 = .ok (.invokevirtual 121, 3) := by decide +kernel
theorem dX9_model_45 : decode cX9_model 45 = .ok (.aload_n 0, 1) := by decide +kernel
theorem dX9_model_46 : decode cX9_model 46 = .ok (.bipush 17, 2) := by decide +kernel
theorem dX9_model_48 : decode cX9_model 48 = .ok (.putfield 124, 3) := by decide +kernel
theorem dX9_model_51 : decode cX9_model 51 = .ok (.iconst 0, 1) := by decide +kernel
theorem dX9_model_52 : decode cX9_model 52 = .ok (.istore_n 1, 1) := by decide +kernel
theorem dX9_model_53 : decode cX9_model 53 = .ok (.iload_n 1, 1) := by decide +kernel
theorem dX9_model_54 : decode cX9_model 54 = .ok (.aload_n 0, 1) := by decide +kernel
theorem dX9_model_55 : decode cX9_model 55 = .ok (.getfield 93, 3) := by decide +kernel
theorem dX9_model_58 : decode cX9_model 58 = .ok (.if_icmp .ge 27, 3) := by decide +kernel
theorem dX9_model_61 : decode cX9_model 61 = .ok (.aload_n 0, 1) := by decide +kernel
theorem dX9_model_62 : decode cX9_model 62 = .ok (.bipush 31, 2) := by decide +kernel
theorem dX9_model_64 : decode cX9_model 64 = .ok (.aload_n 0, 1) := by decide +kernel
theorem dX9_model_65 : decode cX9_model 65 = .ok (.getfield 124, 3) := by decide +kernel
theorem dX9_model_68 : decode cX9_model 68 = .ok (.imul, 1) := by decide +kernel
theorem dX9_model_69 : decode cX9_model 69 = .ok (.aload_n 0, 1) := by decide +kernel
theorem dX9_model_70 : decode cX9_model 70 = .ok (.getfield 7, 3) := by decide +kernel
theorem dX9_model_73 : decode cX9_model 73 = .ok (.iload_n 1, 1) := by decide +kernel
theorem dX9_model_74 : decode cX9_model 74 = .ok (.iaload, 1) := by decide +kernel
theorem dX9_model_75 : decode cX9_model 75 = .ok (.iadd, 1) := by decide +kernel
theorem dX9_model_76 : decode cX9_model 76 = .ok (.putfield 124, 3) := by decide +kernel
theorem dX9_model_79 : decode cX9_model 79 = .ok (.iinc 1 1, 3) := by decide +kernel
theorem dX9_model_82 : decode cX9_model 82 = .ok (.goto (-29), 3) := by decide +kernel
theorem dX9_model_85 : decode cX9_model 85 = .ok (.aload_n 0, 1) := by decide +kernel
theorem dX9_model_86 : decode cX9_model 86 = .ok (.iconst 0, 1) := by decide +kernel
theorem dX9_model_87 : decode cX9_model 87 = .ok (.putfield 93, 3) := by decide +kernel
theorem dX9_model_90 : decode cX9_model 90 = .ok (.aload_n 0, 1) := by decide +kernel
theorem dX9_model_91 : decode cX9_model 91 = .ok (.iconst 0, 1) := by decide +kernel
theorem dX9_model_92 : decode cX9_model 92 = .ok (.putfield 127, 3) := by decide +kernel
theorem dX9_model_95 : decode cX9_model 95 = .ok (.aload_n 0, 1) := by decide +kernel
theorem dX9_model_96 : decode cX9_model 96 = .ok (.invokevirtual 130, 3) := by decide +kernel
theorem dX9_model_99 : decode cX9_model 99 = .ok (.iconst 1, 1) := by decide +kernel
theorem dX9_model_100 : decode cX9_model 100 = .ok (.ireturn, 1) := by decide +kernel
theorem dX9_forget_0 : decode cX9_forget 0 = .ok (.aload_n 0, 1) := by decide +kernel
theorem dX9_forget_1 : decode cX9_forget 1 = .ok (.iconst 0, 1) := by decide +kernel
theorem dX9_forget_2 : decode cX9_forget 2 = .ok (.putfield 133, 3) := by decide +kernel
theorem dX9_forget_5 : decode cX9_forget 5 = .ok (.aload_n 0, 1) := by decide +kernel
theorem dX9_forget_6 : decode cX9_forget 6 = .ok (.iconst 0, 1) := by decide +kernel
theorem dX9_forget_7 : decode cX9_forget 7 = .ok (.putfield 136, 3) := by decide +kernel
theorem dX9_forget_10 : decode cX9_forget 10 = .ok (.aload_n 0, 1) := by decide +kernel
theorem dX9_forget_11 : decode cX9_forget 11 = .ok (.iconst 0, 1) := by decide +kernel
theorem dX9_forget_12 : decode cX9_forget 12 = .ok (.putfield 139, 3) := by decide +kernel
theorem dX9_forget_15 : decode cX9_forget 15 = .ok (.aload_n 0, 1) := by decide +kernel
theorem dX9_forget_16 : decode cX9_forget 16 = .ok (.iconst (-1), 1) := by decide +kernel
theorem dX9_forget_17 : decode cX9_forget 17 = .ok (.putfield 49, 3) := by decide +kernel
theorem dX9_forget_20 : decode cX9_forget 20 = .ok (.aload_n 0, 1) := by decide +kernel
theorem dX9_forget_21 : decode cX9_forget 21 = .ok (.iconst (-1), 1) := by decide +kernel
theorem dX9_forget_22 : decode cX9_forget 22 = .ok (.putfield 53, 3) := by decide +kernel
theorem dX9_forget_25 : decode cX9_forget 25 = .ok (.aload_n 0, 1) := by decide +kernel
theorem dX9_forget_26 : decode cX9_forget 26 = .ok (.iconst 1, 1) := by decide +kernel
theorem dX9_forget_27 : decode cX9_forget 27 = .ok (.putfield 142, 3) := by decide +kernel
theorem dX9_forget_30 : decode cX9_forget 30 = .ok (.aload_n 0, 1) := by decide +kernel
theorem dX9_forget_31 : decode cX9_forget 31 = .ok (.iconst 0, 1) := by decide +kernel
theorem dX9_forget_32 : decode cX9_forget 32 = .ok (.putfield 145, 3) := by decide +kernel
theorem dX9_forget_35 : decode cX9_forget 35 = .ok (.aload_n 0, 1) := by decide +kernel
theorem dX9_forget_36 : decode cX9_forget 36 = .ok (.iconst 0, 1) := by decide +kernel
theorem dX9_forget_37 : decode cX9_forget 37 = .ok (.putfield 148, 3) := by decide +kernel
theorem dX9_forget_40 : decode cX9_forget 40 = .ok (.return_, 1) := by decide +kernel
theorem dX9_plan_0 : decode cX9_plan 0 = .ok (.aload_n 0, 1) := by decide +kernel
theorem dX9_plan_1 : decode cX9_plan 1 = .ok (.iconst 0, 1) := by decide +kernel
theorem dX9_plan_2 : decode cX9_plan 2 = .ok (.putfield 86, 3) := by decide +kernel
theorem dX9_plan_5 : decode cX9_plan 5 = .ok (.aload_n 0, 1) := by decide +kernel
theorem dX9_plan_6 : decode cX9_plan 6 = .ok (.getfield 93, 3) := by decide +kernel
theorem dX9_plan_9 : decode cX9_plan 9 = .ok (.istore_n 1, 1) := by decide +kernel
theorem dX9_plan_10 : decode cX9_plan 10 = .ok (.aload_n 0, 1) := by decide +kernel
theorem dX9_plan_11 : decode cX9_plan 11 = .ok (.iconst 0, 1) := by decide +kernel
theorem dX9_plan_12 : decode cX9_plan 12 = .ok (.putfield 93, 3) := by decide +kernel
theorem dX9_plan_15 : decode cX9_plan 15 = .ok (.aload_n 0, 1) := by decide +kernel
theorem dX9_plan_16 : decode cX9_plan 16 = .ok (.getfield 112, 3) := by decide +kernel
theorem dX9_plan_19 : decode cX9_plan 19 = .ok (.ifCond .ne 6, 3) := by decide +kernel
theorem dX9_plan_22 : decode cX9_plan 22 = .ok (.bipush (-4), 2) := by decide +kernel
theorem dX9_plan_24 : decode cX9_plan 24 = .ok (.ireturn, 1) := by decide +kernel
theorem dX9_plan_25 : decode cX9_plan 25 = .ok (.iload_n 1, 1) := by decide +kernel
theorem dX9_plan_26 : decode cX9_plan 26 = .ok (.aload_n 0, 1) := by decide +kernel
theorem dX9_plan_27 : decode cX9_plan 27 = .ok (.getfield 112, 3) := by decide +kernel
theorem dX9_plan_30 : decode cX9_plan 30 = .ok (.if_icmp .ne 7, 3) := by decide +kernel
theorem dX9_plan_33 : decode cX9_plan 33 = .ok (.iconst 1, 1) := by decide +kernel
theorem dX9_plan_34 : decode cX9_plan 34 = .ok (.goto 4, 3) := by decide +kernel
theorem dX9_plan_37 : decode cX9_plan 37 = .ok (.iconst 0, 1) := by decide +kernel
theorem dX9_plan_38 : decode cX9_plan 38 = .ok (.istore_n 2, 1) := by decide +kernel
theorem dX9_plan_39 : decode cX9_plan 39 = .ok (.iconst 0, 1) := by decide +kernel
theorem dX9_plan_40 : decode cX9_plan 40 = .ok (.istore_n 3, 1) := by decide +kernel
theorem dX9_plan_41 : decode cX9_plan 41 = .ok (.iload_n 3, 1) := by decide +kernel
theorem dX9_plan_42 : decode cX9_plan 42 = .ok (.iload_n 1, 1) := by decide +kernel
theorem dX9_plan_43 : decode cX9_plan 43 = .ok (.if_icmp .ge 27, 3) := by decide +kernel
theorem dX9_plan_46 : decode cX9_plan 46 = .ok (.iload_n 2, 1) := by decide +kernel
theorem dX9_plan_47 : decode cX9_plan 47 = .ok (.ifCond .eq 23, 3) := by decide +kernel
theorem dX9_plan_50 : decode cX9_plan 50 = .ok (.aload_n 0, 1) := by decide +kernel
theorem dX9_plan_51 : decode cX9_plan 51 = .ok (.getfield 7, 3) := by decide +kernel
theorem dX9_plan_54 : decode cX9_plan 54 = .ok (.iload_n 3, 1) := by decide +kernel
theorem dX9_plan_55 : decode cX9_plan 55 = .ok (.iaload, 1) := by decide +kernel
theorem dX9_plan_56 : decode cX9_plan 56 = .ok (.ldc 151, 2) := by decide +kernel
theorem dX9_plan_58 : decode cX9_plan 58 = .ok (.ldc 152, 2) := by decide +kernel
theorem dX9_plan_60 : decode cX9_plan 60 = .ok (.invokestatic 89, 3) := by decide +kernel
theorem dX9_plan_63 : decode cX9_plan 63 = .ok (.istore_n 2, 1) := by decide +kernel
theorem dX9_plan_64 : decode cX9_plan 64 = .ok (.iinc 3 1, 3) := by decide +kernel
theorem dX9_plan_67 : decode cX9_plan 67 = .ok (.goto (-26), 3) := by decide +kernel
theorem dX9_plan_70 : decode cX9_plan 70 = .ok (.iload_n 2, 1) := by decide +kernel
theorem dX9_plan_71 : decode cX9_plan 71 = .ok (.ifCond .ne 6, 3) := by decide +kernel
theorem dX9_plan_74 : decode cX9_plan 74 = .ok (.bipush (-3), 2) := by decide +kernel
theorem dX9_plan_76 : decode cX9_plan 76 = .ok (.ireturn, 1) := by decide +kernel
theorem dX9_plan_77 : decode cX9_plan 77 = .ok (.aload_n 0, 1) := by decide +kernel
theorem dX9_plan_78 : decode cX9_plan 78 = .ok (.getfield 127, 3) := by decide +kernel
theorem dX9_plan_81 : decode cX9_plan 81 = .ok (.bipush 8, 2) := by decide +kernel
theorem dX9_plan_83 : decode cX9_plan 83 = .ok (.if_icmp .ne 6, 3) := by decide +kernel
theorem dX9_plan_86 : decode cX9_plan 86 = .ok (.bipush (-5), 2) := by decide +kernel
theorem dX9_plan_88 : decode cX9_plan 88 = .ok (.ireturn, 1) := by decide +kernel
theorem dX9_plan_89 : decode cX9_plan 89 = .ok (.iconst 0, 1) := by decide +kernel
theorem dX9_plan_90 : decode cX9_plan 90 = .ok (.istore_n 3, 1) := by decide +kernel
theorem dX9_plan_91 : decode cX9_plan 91 = .ok (.iload_n 3, 1) := by decide +kernel
theorem dX9_plan_92 : decode cX9_plan 92 = .ok (.iload_n 1, 1) := by decide +kernel
theorem dX9_plan_93 : decode cX9_plan 93 = .ok (.if_icmp .ge 29, 3) := by decide +kernel
theorem dX9_plan_96 : decode cX9_plan 96 = .ok (.aload_n 0, 1) := by decide +kernel
theorem dX9_plan_97 : decode cX9_plan 97 = .ok (.getfield 43, 3) := by decide +kernel
theorem dX9_plan_100 : decode cX9_plan 100 = .ok (.bipush 8, 2) := by decide +kernel
theorem dX9_plan_102 : decode cX9_plan 102 = .ok (.aload_n 0, 1) := by decide +kernel
theorem dX9_plan_103 : decode cX9_plan 103 = .ok (.getfield 127, 3) := by decide +kernel
theorem dX9_plan_106 : decode cX9_plan 106 = .ok (.imul, 1) := by decide +kernel
theorem dX9_plan_107 : decode cX9_plan 107 = .ok (.iload_n 3, 1) := by decide +kernel
theorem dX9_plan_108 : decode cX9_plan 108 = .ok (.iadd, 1) := by decide +kernel
theorem dX9_plan_109 : decode cX9_plan 109 = .ok (.aload_n 0, 1) := by decide +kernel
theorem dX9_plan_110 : decode cX9_plan 110 = .ok (.getfield 7, 3) := by decide +kernel
theorem dX9_plan_113 : decode cX9_plan 113 = .ok (.iload_n 3, 1) := by decide +kernel
theorem dX9_plan_114 : decode cX9_plan 114 = .ok (.iaload, 1) := by decide +kernel
theorem dX9_plan_115 : decode cX9_plan 115 = .ok (.iastore, 1) := by decide +kernel
theorem dX9_plan_116 : decode cX9_plan 116 = .ok (.iinc 3 1, 3) := by decide +kernel
theorem dX9_plan_119 : decode cX9_plan 119 = .ok (.goto (-28), 3) := by decide +kernel
theorem dX9_plan_122 : decode cX9_plan 122 = .ok (.aload_n 0, 1) := by decide +kernel
theorem dX9_plan_123 : decode cX9_plan 123 = .ok (.dup, 1) := by decide +kernel
theorem dX9_plan_124 : decode cX9_plan 124 = .ok (.getfield 127, 3) := by decide +kernel
theorem dX9_plan_127 : decode cX9_plan 127 = .ok (.iconst 1, 1) := by decide +kernel
theorem dX9_plan_128 : decode cX9_plan 128 = .ok (.iadd, 1) := by decide +kernel
theorem dX9_plan_129 : decode cX9_plan 129 = .ok (.putfield 127, 3) := by decide +kernel
theorem dX9_plan_132 : decode cX9_plan 132 = .ok (.aload_n 0, 1) := by decide +kernel
theorem dX9_plan_133 : decode cX9_plan 133 = .ok (.getfield 127, 3) := by decide +kernel
theorem dX9_plan_136 : decode cX9_plan 136 = .ok (.iconst 1, 1) := by decide +kernel
theorem dX9_plan_137 : decode cX9_plan 137 = .ok (.isub, 1) := by decide +kernel
theorem dX9_plan_138 : decode cX9_plan 138 = .ok (.ireturn, 1) := by decide +kernel
theorem dX9_broken_0 : decode cX9_broken 0 = .ok (.iconst 0, 1) := by decide +kernel
theorem dX9_broken_1 : decode cX9_broken 1 = .ok (.istore_n 2, 1) := by decide +kernel
theorem dX9_broken_2 : decode cX9_broken 2 = .ok (.iload_n 2, 1) := by decide +kernel
theorem dX9_broken_3 : decode cX9_broken 3 = .ok (.aload_n 0, 1) := by decide +kernel
theorem dX9_broken_4 : decode cX9_broken 4 = .ok (.getfield 112, 3) := by decide +kernel
theorem dX9_broken_7 : decode cX9_broken 7 = .ok (.if_icmp .ge 40, 3) := by decide +kernel
theorem dX9_broken_10 : decode cX9_broken 10 = .ok (.aload_n 0, 1) := by decide +kernel
theorem dX9_broken_11 : decode cX9_broken 11 = .ok (.getfield 43, 3) := by decide +kernel
theorem dX9_broken_14 : decode cX9_broken 14 = .ok (.bipush 8, 2) := by decide +kernel
theorem dX9_broken_16 : decode cX9_broken 16 = .ok (.iload_n 1, 1) := by decide +kernel
theorem dX9_broken_17 : decode cX9_broken 17 = .ok (.imul, 1) := by decide +kernel
theorem dX9_broken_18 : decode cX9_broken 18 = .ok (.iload_n 2, 1) := by decide +kernel
theorem dX9_broken_19 : decode cX9_broken 19 = .ok (.iadd, 1) := by decide +kernel
theorem dX9_broken_20 : decode cX9_broken 20 = .ok (.iaload, 1) := by decide +kernel
theorem dX9_broken_21 : decode cX9_broken 21 = .ok (.aload_n 0, 1) := by decide +kernel
theorem dX9_broken_22 : decode cX9_broken 22 = .ok (.getfield 13, 3) := by decide +kernel
theorem dX9_broken_25 : decode cX9_broken 25 = .ok (.iload_n 2, 1) := by decide +kernel
theorem dX9_broken_26 : decode cX9_broken 26 = .ok (.iaload, 1) := by decide +kernel
theorem dX9_broken_27 : decode cX9_broken 27 = .ok (.aload_n 0, 1) := by decide +kernel
theorem dX9_broken_28 : decode cX9_broken 28 = .ok (.getfield 16, 3) := by decide +kernel
theorem dX9_broken_31 : decode cX9_broken 31 = .ok (.iload_n 2, 1) := by decide +kernel
theorem dX9_broken_32 : decode cX9_broken 32 = .ok (.iaload, 1) := by decide +kernel
theorem dX9_broken_33 : decode cX9_broken 33 = .ok (.invokestatic 89, 3) := by decide +kernel
theorem dX9_broken_36 : decode cX9_broken 36 = .ok (.ifCond .ne 5, 3) := by decide +kernel
theorem dX9_broken_39 : decode cX9_broken 39 = .ok (.iload_n 2, 1) := by decide +kernel
theorem dX9_broken_40 : decode cX9_broken 40 = .ok (.ireturn, 1) := by decide +kernel
theorem dX9_broken_41 : decode cX9_broken 41 = .ok (.iinc 2 1, 3) := by decide +kernel
theorem dX9_broken_44 : decode cX9_broken 44 = .ok (.goto (-42), 3) := by decide +kernel
theorem dX9_broken_47 : decode cX9_broken 47 = .ok (.iconst 0, 1) := by decide +kernel
theorem dX9_broken_48 : decode cX9_broken 48 = .ok (.istore_n 2, 1) := by decide +kernel
theorem dX9_broken_49 : decode cX9_broken 49 = .ok (.iload_n 2, 1) := by decide +kernel
theorem dX9_broken_50 : decode cX9_broken 50 = .ok (.aload_n 0, 1) := by decide +kernel
theorem dX9_broken_51 : decode cX9_broken 51 = .ok (.getfield 115, 3) := by decide +kernel
theorem dX9_broken_54 : decode cX9_broken 54 = .ok (.if_icmp .ge 76, 3) := by decide +kernel
theorem dX9_broken_57 : decode cX9_broken 57 = .ok (.lconst 0, 1) := by decide +kernel
theorem dX9_broken_58 : decode cX9_broken 58 = .ok (.lstore_n 3, 1) := by decide +kernel
theorem dX9_broken_59 : decode cX9_broken 59 = .ok (.iconst 0, 1) := by decide +kernel
theorem dX9_broken_60 : decode cX9_broken 60 = .ok (.istore 5, 2) := by decide +kernel
theorem dX9_broken_62 : decode cX9_broken 62 = .ok (.iload 5, 2) := by decide +kernel
theorem dX9_broken_64 : decode cX9_broken 64 = .ok (.aload_n 0, 1) := by decide +kernel
theorem dX9_broken_65 : decode cX9_broken 65 = .ok (.getfield 112, 3) := by decide +kernel
theorem dX9_broken_68 : decode cX9_broken 68 = .ok (.if_icmp .ge 39, 3) := by decide +kernel
theorem dX9_broken_71 : decode cX9_broken 71 = .ok (.lload_n 3, 1) := by decide +kernel
theorem dX9_broken_72 : decode cX9_broken 72 = .ok (.aload_n 0, 1) := by decide +kernel
theorem dX9_broken_73 : decode cX9_broken 73 = .ok (.getfield 22, 3) := by decide +kernel
theorem dX9_broken_76 : decode cX9_broken 76 = .ok (.bipush 8, 2) := by decide +kernel
theorem dX9_broken_78 : decode cX9_broken 78 = .ok (.iload_n 2, 1) := by decide +kernel
theorem dX9_broken_79 : decode cX9_broken 79 = .ok (.imul, 1) := by decide +kernel
theorem dX9_broken_80 : decode cX9_broken 80 = .ok (.iload 5, 2) := by decide +kernel
theorem dX9_broken_82 : decode cX9_broken 82 = .ok (.iadd, 1) := by decide +kernel
theorem dX9_broken_83 : decode cX9_broken 83 = .ok (.iaload, 1) := by decide +kernel
theorem dX9_broken_84 : decode cX9_broken 84 = .ok (.i2l, 1) := by decide +kernel
theorem dX9_broken_85 : decode cX9_broken 85 = .ok (.aload_n 0, 1) := by decide +kernel
theorem dX9_broken_86 : decode cX9_broken 86 = .ok (.getfield 43, 3) := by decide +kernel
theorem dX9_broken_89 : decode cX9_broken 89 = .ok (.bipush 8, 2) := by decide +kernel
theorem dX9_broken_91 : decode cX9_broken 91 = .ok (.iload_n 1, 1) := by decide +kernel
theorem dX9_broken_92 : decode cX9_broken 92 = .ok (.imul, 1) := by decide +kernel
theorem dX9_broken_93 : decode cX9_broken 93 = .ok (.iload 5, 2) := by decide +kernel
theorem dX9_broken_95 : decode cX9_broken 95 = .ok (.iadd, 1) := by decide +kernel
theorem dX9_broken_96 : decode cX9_broken 96 = .ok (.iaload, 1) := by decide +kernel
theorem dX9_broken_97 : decode cX9_broken 97 = .ok (.i2l, 1) := by decide +kernel
theorem dX9_broken_98 : decode cX9_broken 98 = .ok (.lmul, 1) := by decide +kernel
theorem dX9_broken_99 : decode cX9_broken 99 = .ok (.ladd, 1) := by decide +kernel
theorem dX9_broken_100 : decode cX9_broken 100 = .ok (.lstore_n 3, 1) := by decide +kernel
theorem dX9_broken_101 : decode cX9_broken 101 = .ok (.iinc 5 1, 3) := by decide +kernel
theorem dX9_broken_104 : decode cX9_broken 104 = .ok (.goto (-42), 3) := by decide +kernel
theorem dX9_broken_107 : decode cX9_broken 107 = .ok (.lload_n 3, 1) := by decide +kernel
theorem dX9_broken_108 : decode cX9_broken 108 = .ok (.aload_n 0, 1) := by decide +kernel
theorem dX9_broken_109 : decode cX9_broken 109 = .ok (.getfield 25, 3) := by decide +kernel
theorem dX9_broken_112 : decode cX9_broken 112 = .ok (.iload_n 2, 1) := by decide +kernel
theorem dX9_broken_113 : decode cX9_broken 113 = .ok (.iaload, 1) := by decide +kernel
theorem dX9_broken_114 : decode cX9_broken 114 = .ok (.i2l, 1) := by decide +kernel
theorem dX9_broken_115 : decode cX9_broken 115 = .ok (.lcmp, 1) := by decide +kernel
theorem dX9_broken_116 : decode cX9_broken 116 = .ok (.ifCond .le 8, 3) := by decide +kernel
theorem dX9_broken_119 : decode cX9_broken 119 = .ok (.bipush 100, 2) := by decide +kernel
theorem dX9_broken_121 : decode cX9_broken 121 = .ok (.iload_n 2, 1) := by decide +kernel
theorem dX9_broken_122 : decode cX9_broken 122 = .ok (.iadd, 1) := by decide +kernel
theorem dX9_broken_123 : decode cX9_broken 123 = .ok (.ireturn, 1) := by decide +kernel
theorem dX9_broken_124 : decode cX9_broken 124 = .ok (.iinc 2 1, 3) := by decide +kernel
theorem dX9_broken_127 : decode cX9_broken 127 = .ok (.goto (-78), 3) := by decide +kernel
theorem dX9_broken_130 : decode cX9_broken 130 = .ok (.iconst 0, 1) := by decide +kernel
theorem dX9_broken_131 : decode cX9_broken 131 = .ok (.istore_n 2, 1) := by decide +kernel
theorem dX9_broken_132 : decode cX9_broken 132 = .ok (.iload_n 2, 1) := by decide +kernel
theorem dX9_broken_133 : decode cX9_broken 133 = .ok (.aload_n 0, 1) := by decide +kernel
theorem dX9_broken_134 : decode cX9_broken 134 = .ok (.getfield 118, 3) := by decide +kernel
theorem dX9_broken_137 : decode cX9_broken 137 = .ok (.if_icmp .ge 113, 3) := by decide +kernel
theorem dX9_broken_140 : decode cX9_broken 140 = .ok (.iconst 0, 1) := by decide +kernel
theorem dX9_broken_141 : decode cX9_broken 141 = .ok (.istore_n 3, 1) := by decide +kernel
theorem dX9_broken_142 : decode cX9_broken 142 = .ok (.iconst 0, 1) := by decide +kernel
theorem dX9_broken_143 : decode cX9_broken 143 = .ok (.istore 4, 2) := by decide +kernel
theorem dX9_broken_145 : decode cX9_broken 145 = .ok (.iload 4, 2) := by decide +kernel
theorem dX9_broken_147 : decode cX9_broken 147 = .ok (.aload_n 0, 1) := by decide +kernel
theorem dX9_broken_148 : decode cX9_broken 148 = .ok (.getfield 34, 3) := by decide +kernel
theorem dX9_broken_151 : decode cX9_broken 151 = .ok (.iload_n 2, 1) := by decide +kernel
theorem dX9_broken_152 : decode cX9_broken 152 = .ok (.iaload, 1) := by decide +kernel
theorem dX9_broken_153 : decode cX9_broken 153 = .ok (.if_icmp .ge 81, 3) := by decide +kernel
theorem dX9_broken_156 : decode cX9_broken 156 = .ok (.iload_n 3, 1) := by decide +kernel
theorem dX9_broken_157 : decode cX9_broken 157 = .ok (.ifCond .ne 65, 3) := by decide +kernel
theorem dX9_broken_160 : decode cX9_broken 160 = .ok (.aload_n 0, 1) := by decide +kernel
theorem dX9_broken_161 : decode cX9_broken 161 = .ok (.getfield 37, 3) := by decide +kernel
theorem dX9_broken_164 : decode cX9_broken 164 = .ok (.bipush 20, 2) := by decide +kernel
theorem dX9_broken_166 : decode cX9_broken 166 = .ok (.iload_n 2, 1) := by decide +kernel
theorem dX9_broken_167 : decode cX9_broken 167 = .ok (.imul, 1) := by decide +kernel
theorem dX9_broken_168 : decode cX9_broken 168 = .ok (.iload 4, 2) := by decide +kernel
theorem dX9_broken_170 : decode cX9_broken 170 = .ok (.iadd, 1) := by decide +kernel
theorem dX9_broken_171 : decode cX9_broken 171 = .ok (.iaload, 1) := by decide +kernel
theorem dX9_broken_172 : decode cX9_broken 172 = .ok (.aload_n 0, 1) := by decide +kernel
theorem dX9_broken_173 : decode cX9_broken 173 = .ok (.getfield 43, 3) := by decide +kernel
theorem dX9_broken_176 : decode cX9_broken 176 = .ok (.bipush 8, 2) := by decide +kernel
theorem dX9_broken_178 : decode cX9_broken 178 = .ok (.iload_n 1, 1) := by decide +kernel
theorem dX9_broken_179 : decode cX9_broken 179 = .ok (.imul, 1) := by decide +kernel
theorem dX9_broken_180 : decode cX9_broken 180 = .ok (.aload_n 0, 1) := by decide +kernel
theorem dX9_broken_181 : decode cX9_broken 181 = .ok (.getfield 28, 3) := by decide +kernel
theorem dX9_broken_184 : decode cX9_broken 184 = .ok (.iload_n 2, 1) := by decide +kernel
theorem dX9_broken_185 : decode cX9_broken 185 = .ok (.iaload, 1) := by decide +kernel
theorem dX9_broken_186 : decode cX9_broken 186 = .ok (.iadd, 1) := by decide +kernel
theorem dX9_broken_187 : decode cX9_broken 187 = .ok (.iaload, 1) := by decide +kernel
theorem dX9_broken_188 : decode cX9_broken 188 = .ok (.if_icmp .ne 38, 3) := by decide +kernel
theorem dX9_broken_191 : decode cX9_broken 191 = .ok (.aload_n 0, 1) := by decide +kernel
theorem dX9_broken_192 : decode cX9_broken 192 = .ok (.getfield 40, 3) := by decide +kernel
theorem dX9_broken_195 : decode cX9_broken 195 = .ok (.bipush 20, 2) := by decide +kernel
theorem dX9_broken_197 : decode cX9_broken 197 = .ok (.iload_n 2, 1) := by decide +kernel
theorem dX9_broken_198 : decode cX9_broken 198 = .ok (.imul, 1) := by decide +kernel
theorem dX9_broken_199 : decode cX9_broken 199 = .ok (.iload 4, 2) := by decide +kernel
theorem dX9_broken_201 : decode cX9_broken 201 = .ok (.iadd, 1) := by decide +kernel
theorem dX9_broken_202 : decode cX9_broken 202 = .ok (.iaload, 1) := by decide +kernel
theorem dX9_broken_203 : decode cX9_broken 203 = .ok (.aload_n 0, 1) := by decide +kernel
theorem dX9_broken_204 : decode cX9_broken 204 = .ok (.getfield 43, 3) := by decide +kernel
theorem dX9_broken_207 : decode cX9_broken 207 = .ok (.bipush 8, 2) := by decide +kernel
theorem dX9_broken_209 : decode cX9_broken 209 = .ok (.iload_n 1, 1) := by decide +kernel
theorem dX9_broken_210 : decode cX9_broken 210 = .ok (.imul, 1) := by decide +kernel
theorem dX9_broken_211 : decode cX9_broken 211 = .ok (.aload_n 0, 1) := by decide +kernel
theorem dX9_broken_212 : decode cX9_broken 212 = .ok (.getfield 31, 3) := by decide +kernel
theorem dX9_broken_215 : decode cX9_broken 215 = .ok (.iload_n 2, 1) := by decide +kernel
theorem dX9_broken_216 : decode cX9_broken 216 = .ok (.iaload, 1) := by decide +kernel
theorem dX9_broken_217 : decode cX9_broken 217 = .ok (.iadd, 1) := by decide +kernel
theorem dX9_broken_218 : decode cX9_broken 218 = .ok (.iaload, 1) := by decide +kernel
theorem dX9_broken_219 : decode cX9_broken 219 = .ok (.if_icmp .ne 7, 3) := by decide +kernel
theorem dX9_broken_222 : decode cX9_broken 222 = .ok (.iconst 1, 1) := by decide +kernel
theorem dX9_broken_223 : decode cX9_broken 223 = .ok (.goto 4, 3) := by decide +kernel
theorem dX9_broken_226 : decode cX9_broken 226 = .ok (.iconst 0, 1) := by decide +kernel
theorem dX9_broken_227 : decode cX9_broken 227 = .ok (.istore_n 3, 1) := by decide +kernel
theorem dX9_broken_228 : decode cX9_broken 228 = .ok (.iinc 4 1, 3) := by decide +kernel
theorem dX9_broken_231 : decode cX9_broken 231 = .ok (.goto (-86), 3) := by decide +kernel
theorem dX9_broken_234 : decode cX9_broken 234 = .ok (.iload_n 3, 1) := by decide +kernel
theorem dX9_broken_235 : decode cX9_broken 235 = .ok (.ifCond .ne 9, 3) := by decide +kernel
theorem dX9_broken_238 : decode cX9_broken 238 = .ok (.sipush 200, 3) := by decide +kernel
theorem dX9_broken_241 : decode cX9_broken 241 = .ok (.iload_n 2, 1) := by decide +kernel
theorem dX9_broken_242 : decode cX9_broken 242 = .ok (.iadd, 1) := by decide +kernel
theorem dX9_broken_243 : decode cX9_broken 243 = .ok (.ireturn, 1) := by decide +kernel
theorem dX9_broken_244 : decode cX9_broken 244 = .ok (.iinc 2 1, 3) := by decide +kernel
theorem dX9_broken_247 : decode cX9_broken 247 = .ok (.goto (-115), 3) := by decide +kernel
theorem dX9_broken_250 : decode cX9_broken 250 = .ok (.iconst (-1), 1) := by decide +kernel
theorem dX9_broken_251 : decode cX9_broken 251 = .ok (.ireturn, 1) := by decide +kernel
theorem dX9_breaks_0 : decode cX9_breaks 0 = .ok (.aload_n 0, 1) := by decide +kernel
theorem dX9_breaks_1 : decode cX9_breaks 1 = .ok (.iconst 0, 1) := by decide +kernel
theorem dX9_breaks_2 : decode cX9_breaks 2 = .ok (.putfield 86, 3) := by decide +kernel
theorem dX9_breaks_5 : decode cX9_breaks 5 = .ok (.iload_n 1, 1) := by decide +kernel
theorem dX9_breaks_6 : decode cX9_breaks 6 = .ok (.iconst 0, 1) := by decide +kernel
theorem dX9_breaks_7 : decode cX9_breaks 7 = .ok (.aload_n 0, 1) := by decide +kernel
theorem dX9_breaks_8 : decode cX9_breaks 8 = .ok (.getfield 127, 3) := by decide +kernel
theorem dX9_breaks_11 : decode cX9_breaks 11 = .ok (.iconst 1, 1) := by decide +kernel
theorem dX9_breaks_12 : decode cX9_breaks 12 = .ok (.isub, 1) := by decide +kernel
theorem dX9_breaks_13 : decode cX9_breaks 13 = .ok (.invokestatic 89, 3) := by decide +kernel
theorem dX9_breaks_16 : decode cX9_breaks 16 = .ok (.ifCond .eq 11, 3) := by decide +kernel
theorem dX9_breaks_19 : decode cX9_breaks 19 = .ok (.aload_n 0, 1) := by decide +kernel
theorem dX9_breaks_20 : decode cX9_breaks 20 = .ok (.iload_n 1, 1) := by decide +kernel
theorem dX9_breaks_21 : decode cX9_breaks 21 = .ok (.invokevirtual 153, 3) := by decide +kernel
theorem dX9_breaks_24 : decode cX9_breaks 24 = .ok (.goto 5, 3) := by decide +kernel
theorem dX9_breaks_27 : decode cX9_breaks 27 = .ok (.bipush (-2), 2) := by decide +kernel
theorem dX9_breaks_29 : decode cX9_breaks 29 = .ok (.ireturn, 1) := by decide +kernel
theorem dX9_costOf_0 : decode cX9_costOf 0 = .ok (.lconst 0, 1) := by decide +kernel
theorem dX9_costOf_1 : decode cX9_costOf 1 = .ok (.lstore_n 2, 1) := by decide +kernel
theorem dX9_costOf_2 : decode cX9_costOf 2 = .ok (.iconst 0, 1) := by decide +kernel
theorem dX9_costOf_3 : decode cX9_costOf 3 = .ok (.istore 4, 2) := by decide +kernel
theorem dX9_costOf_5 : decode cX9_costOf 5 = .ok (.iload 4, 2) := by decide +kernel
theorem dX9_costOf_7 : decode cX9_costOf 7 = .ok (.aload_n 0, 1) := by decide +kernel
theorem dX9_costOf_8 : decode cX9_costOf 8 = .ok (.getfield 112, 3) := by decide +kernel
theorem dX9_costOf_11 : decode cX9_costOf 11 = .ok (.if_icmp .ge 34, 3) := by decide +kernel
theorem dX9_costOf_14 : decode cX9_costOf 14 = .ok (.lload_n 2, 1) := by decide +kernel
theorem dX9_costOf_15 : decode cX9_costOf 15 = .ok (.aload_n 0, 1) := by decide +kernel
theorem dX9_costOf_16 : decode cX9_costOf 16 = .ok (.getfield 19, 3) := by decide +kernel
theorem dX9_costOf_19 : decode cX9_costOf 19 = .ok (.iload 4, 2) := by decide +kernel
theorem dX9_costOf_21 : decode cX9_costOf 21 = .ok (.iaload, 1) := by decide +kernel
theorem dX9_costOf_22 : decode cX9_costOf 22 = .ok (.i2l, 1) := by decide +kernel
theorem dX9_costOf_23 : decode cX9_costOf 23 = .ok (.aload_n 0, 1) := by decide +kernel
theorem dX9_costOf_24 : decode cX9_costOf 24 = .ok (.getfield 43, 3) := by decide +kernel
theorem dX9_costOf_27 : decode cX9_costOf 27 = .ok (.bipush 8, 2) := by decide +kernel
theorem dX9_costOf_29 : decode cX9_costOf 29 = .ok (.iload_n 1, 1) := by decide +kernel
theorem dX9_costOf_30 : decode cX9_costOf 30 = .ok (.imul, 1) := by decide +kernel
theorem dX9_costOf_31 : decode cX9_costOf 31 = .ok (.iload 4, 2) := by decide +kernel
theorem dX9_costOf_33 : decode cX9_costOf 33 = .ok (.iadd, 1) := by decide +kernel
theorem dX9_costOf_34 : decode cX9_costOf 34 = .ok (.iaload, 1) := by decide +kernel
theorem dX9_costOf_35 : decode cX9_costOf 35 = .ok (.i2l, 1) := by decide +kernel
theorem dX9_costOf_36 : decode cX9_costOf 36 = .ok (.lmul, 1) := by decide +kernel
theorem dX9_costOf_37 : decode cX9_costOf 37 = .ok (.ladd, 1) := by decide +kernel
theorem dX9_costOf_38 : decode cX9_costOf 38 = .ok (.lstore_n 2, 1) := by decide +kernel
theorem dX9_costOf_39 : decode cX9_costOf 39 = .ok (.iinc 4 1, 3) := by decide +kernel
theorem dX9_costOf_42 : decode cX9_costOf 42 = .ok (.goto (-37), 3) := by decide +kernel
theorem dX9_costOf_45 : decode cX9_costOf 45 = .ok (.lload_n 2, 1) := by decide +kernel
theorem dX9_costOf_46 : decode cX9_costOf 46 = .ok (.lreturn, 1) := by decide +kernel
theorem dX9_refuses_0 : decode cX9_refuses 0 = .ok (.aload_n 0, 1) := by decide +kernel
theorem dX9_refuses_1 : decode cX9_refuses 1 = .ok (.iload_n 1, 1) := by decide +kernel
theorem dX9_refuses_2 : decode cX9_refuses 2 = .ok (.ifCond .eq 7, 3) := by decide +kernel
theorem dX9_refuses_5 : decode cX9_refuses 5 = .ok (.iconst 1, 1) := by decide +kernel
theorem dX9_refuses_6 : decode cX9_refuses 6 = .ok (.goto 4, 3) := by decide +kernel
theorem dX9_refuses_9 : decode cX9_refuses 9 = .ok (.iconst 0, 1) := by decide +kernel
theorem dX9_refuses_10 : decode cX9_refuses 10 = .ok (.putfield 86, 3) := by decide +kernel
theorem dX9_refuses_13 : decode cX9_refuses 13 = .ok (.iload_n 1, 1) := by decide +kernel
theorem dX9_refuses_14 : decode cX9_refuses 14 = .ok (.ireturn, 1) := by decide +kernel
theorem dX9_cost_0 : decode cX9_cost 0 = .ok (.aload_n 0, 1) := by decide +kernel
theorem dX9_cost_1 : decode cX9_cost 1 = .ok (.iload_n 1, 1) := by decide +kernel
theorem dX9_cost_2 : decode cX9_cost 2 = .ok (.iconst 0, 1) := by decide +kernel
theorem dX9_cost_3 : decode cX9_cost 3 = .ok (.aload_n 0, 1) := by decide +kernel
theorem dX9_cost_4 : decode cX9_cost 4 = .ok (.getfield 127, 3) := by decide +kernel
theorem dX9_cost_7 : decode cX9_cost 7 = .ok (.iconst 1, 1) := by decide +kernel
theorem dX9_cost_8 : decode cX9_cost 8 = .ok (.isub, 1) := by decide +kernel
theorem dX9_cost_9 : decode cX9_cost 9 = .ok (.invokestatic 89, 3) := by decide +kernel
theorem dX9_cost_12 : decode cX9_cost 12 = .ok (.ifCond .ne 7, 3) := by decide +kernel
theorem dX9_cost_15 : decode cX9_cost 15 = .ok (.iconst 1, 1) := by decide +kernel
theorem dX9_cost_16 : decode cX9_cost 16 = .ok (.goto 4, 3) := by decide +kernel
theorem dX9_cost_19 : decode cX9_cost 19 = .ok (.iconst 0, 1) := by decide +kernel
theorem dX9_cost_20 : decode cX9_cost 20 = .ok (.invokevirtual 157, 3) := by decide +kernel
theorem dX9_cost_23 : decode cX9_cost 23 = .ok (.ifCond .eq 7, 3) := by decide +kernel
theorem dX9_cost_26 : decode cX9_cost 26 = .ok (.lconst 0, 1) := by decide +kernel
theorem dX9_cost_27 : decode cX9_cost 27 = .ok (.goto 8, 3) := by decide +kernel
theorem dX9_cost_30 : decode cX9_cost 30 = .ok (.aload_n 0, 1) := by decide +kernel
theorem dX9_cost_31 : decode cX9_cost 31 = .ok (.iload_n 1, 1) := by decide +kernel
theorem dX9_cost_32 : decode cX9_cost 32 = .ok (.invokevirtual 161, 3) := by decide +kernel
theorem dX9_cost_35 : decode cX9_cost 35 = .ok (.lreturn, 1) := by decide +kernel
theorem dX9_digest_0 : decode cX9_digest 0 = .ok (.aload_n 0, 1) := by decide +kernel
theorem dX9_digest_1 : decode cX9_digest 1 = .ok (.iconst 0, 1) := by decide +kernel
theorem dX9_digest_2 : decode cX9_digest 2 = .ok (.putfield 86, 3) := by decide +kernel
theorem dX9_digest_5 : decode cX9_digest 5 = .ok (.aload_n 0, 1) := by decide +kernel
theorem dX9_digest_6 : decode cX9_digest 6 = .ok (.getfield 112, 3) := by decide +kernel
theorem dX9_digest_9 : decode cX9_digest 9 = .ok (.ifCond .ne 7, 3) := by decide +kernel
theorem dX9_digest_12 : decode cX9_digest 12 = .ok (.iconst 0, 1) := by decide +kernel
theorem dX9_digest_13 : decode cX9_digest 13 = .ok (.goto 7, 3) := by decide +kernel
theorem dX9_digest_16 : decode cX9_digest 16 = .ok (.aload_n 0, 1) := by decide +kernel
theorem dX9_digest_17 : decode cX9_digest 17 = .ok (.getfield 124, 3) := by decide +kernel
theorem dX9_digest_20 : decode cX9_digest 20 = .ok (.ireturn, 1) := by decide +kernel
theorem dX9_begin_0 : decode cX9_begin 0 = .ok (.aload_n 0, 1) := by decide +kernel
theorem dX9_begin_1 : decode cX9_begin 1 = .ok (.iconst 0, 1) := by decide +kernel
theorem dX9_begin_2 : decode cX9_begin 2 = .ok (.putfield 86, 3) := by decide +kernel
theorem dX9_begin_5 : decode cX9_begin 5 = .ok (.aload_n 0, 1) := by decide +kernel
theorem dX9_begin_6 : decode cX9_begin 6 = .ok (.getfield 112, 3) := by decide +kernel
theorem dX9_begin_9 : decode cX9_begin 9 = .ok (.ifCond .ne 6, 3) := by decide +kernel
theorem dX9_begin_12 : decode cX9_begin 12 = .ok (.bipush (-4), 2) := by decide +kernel
theorem dX9_begin_14 : decode cX9_begin 14 = .ok (.ireturn, 1) := by decide +kernel
theorem dX9_begin_15 : decode cX9_begin 15 = .ok (.aload_n 0, 1) := by decide +kernel
theorem dX9_begin_16 : decode cX9_begin 16 = .ok (.getfield 136, 3) := by decide +kernel
theorem dX9_begin_19 : decode cX9_begin 19 = .ok (.istore_n 1, 1) := by decide +kernel
theorem dX9_begin_20 : decode cX9_begin 20 = .ok (.aload_n 0, 1) := by decide +kernel
theorem dX9_begin_21 : decode cX9_begin 21 = .ok (.invokevirtual 130, 3) := by decide +kernel
theorem dX9_begin_24 : decode cX9_begin 24 = .ok (.aload_n 0, 1) := by decide +kernel
theorem dX9_begin_25 : decode cX9_begin 25 = .ok (.iconst 1, 1) := by decide +kernel
theorem dX9_begin_26 : decode cX9_begin 26 = .ok (.putfield 133, 3) := by decide +kernel
theorem dX9_begin_29 : decode cX9_begin 29 = .ok (.iload_n 1, 1) := by decide +kernel
theorem dX9_begin_30 : decode cX9_begin 30 = .ok (.ireturn, 1) := by decide +kernel
theorem dX9_read_0 : decode cX9_read 0 = .ok (.aload_n 0, 1) := by decide +kernel
theorem dX9_read_1 : decode cX9_read 1 = .ok (.iconst 0, 1) := by decide +kernel
theorem dX9_read_2 : decode cX9_read 2 = .ok (.putfield 86, 3) := by decide +kernel
theorem dX9_read_5 : decode cX9_read 5 = .ok (.aload_n 0, 1) := by decide +kernel
theorem dX9_read_6 : decode cX9_read 6 = .ok (.getfield 93, 3) := by decide +kernel
theorem dX9_read_9 : decode cX9_read 9 = .ok (.istore_n 1, 1) := by decide +kernel
theorem dX9_read_10 : decode cX9_read 10 = .ok (.aload_n 0, 1) := by decide +kernel
theorem dX9_read_11 : decode cX9_read 11 = .ok (.iconst 0, 1) := by decide +kernel
theorem dX9_read_12 : decode cX9_read 12 = .ok (.putfield 93, 3) := by decide +kernel
theorem dX9_read_15 : decode cX9_read 15 = .ok (.aload_n 0, 1) := by decide +kernel
theorem dX9_read_16 : decode cX9_read 16 = .ok (.getfield 133, 3) := by decide +kernel
theorem dX9_read_19 : decode cX9_read 19 = .ok (.ifCond .ne 6, 3) := by decide +kernel
theorem dX9_read_22 : decode cX9_read 22 = .ok (.bipush (-4), 2) := by decide +kernel
theorem dX9_read_24 : decode cX9_read 24 = .ok (.ireturn, 1) := by decide +kernel
theorem dX9_read_25 : decode cX9_read 25 = .ok (.iconst 0, 1) := by decide +kernel
theorem dX9_read_26 : decode cX9_read 26 = .ok (.istore_n 2, 1) := by decide +kernel
theorem dX9_read_27 : decode cX9_read 27 = .ok (.iload_n 2, 1) := by decide +kernel
theorem dX9_read_28 : decode cX9_read 28 = .ok (.iload_n 1, 1) := by decide +kernel
theorem dX9_read_29 : decode cX9_read 29 = .ok (.if_icmp .ge 26, 3) := by decide +kernel
theorem dX9_read_32 : decode cX9_read 32 = .ok (.aload_n 0, 1) := by decide +kernel
theorem dX9_read_33 : decode cX9_read 33 = .ok (.getfield 139, 3) := by decide +kernel
theorem dX9_read_36 : decode cX9_read 36 = .ok (.ifCond .ne 19, 3) := by decide +kernel
theorem dX9_read_39 : decode cX9_read 39 = .ok (.aload_n 0, 1) := by decide +kernel
theorem dX9_read_40 : decode cX9_read 40 = .ok (.aload_n 0, 1) := by decide +kernel
theorem dX9_read_41 : decode cX9_read 41 = .ok (.getfield 7, 3) := by decide +kernel
theorem dX9_read_44 : decode cX9_read 44 = .ok (.iload_n 2, 1) := by decide +kernel
theorem dX9_read_45 : decode cX9_read 45 = .ok (.iaload, 1) := by decide +kernel
theorem dX9_read_46 : decode cX9_read 46 = .ok (.invokevirtual 165, 3) := by decide +kernel
theorem dX9_read_49 : decode cX9_read 49 = .ok (.iinc 2 1, 3) := by decide +kernel
theorem dX9_read_52 : decode cX9_read 52 = .ok (.goto (-25), 3) := by decide +kernel
theorem dX9_read_55 : decode cX9_read 55 = .ok (.aload_n 0, 1) := by decide +kernel
theorem dX9_read_56 : decode cX9_read 56 = .ok (.getfield 139, 3) := by decide +kernel
theorem dX9_read_59 : decode cX9_read 59 = .ok (.ifCond .ne 10, 3) := by decide +kernel
theorem dX9_read_62 : decode cX9_read 62 = .ok (.aload_n 0, 1) := by decide +kernel
theorem dX9_read_63 : decode cX9_read 63 = .ok (.getfield 145, 3) := by decide +kernel
theorem dX9_read_66 : decode cX9_read 66 = .ok (.goto 10, 3) := by decide +kernel
theorem dX9_read_69 : decode cX9_read 69 = .ok (.bipush (-10), 2) := by decide +kernel
theorem dX9_read_71 : decode cX9_read 71 = .ok (.aload_n 0, 1) := by decide +kernel
theorem dX9_read_72 : decode cX9_read 72 = .ok (.getfield 139, 3) := by decide +kernel
theorem dX9_read_75 : decode cX9_read 75 = .ok (.isub, 1) := by decide +kernel
theorem dX9_read_76 : decode cX9_read 76 = .ok (.ireturn, 1) := by decide +kernel
theorem dX9_fails_0 : decode cX9_fails 0 = .ok (.aload_n 0, 1) := by decide +kernel
theorem dX9_fails_1 : decode cX9_fails 1 = .ok (.iload_n 1, 1) := by decide +kernel
theorem dX9_fails_2 : decode cX9_fails 2 = .ok (.putfield 139, 3) := by decide +kernel
theorem dX9_fails_5 : decode cX9_fails 5 = .ok (.aload_n 0, 1) := by decide +kernel
theorem dX9_fails_6 : decode cX9_fails 6 = .ok (.iload_n 2, 1) := by decide +kernel
theorem dX9_fails_7 : decode cX9_fails 7 = .ok (.putfield 49, 3) := by decide +kernel
theorem dX9_fails_10 : decode cX9_fails 10 = .ok (.aload_n 0, 1) := by decide +kernel
theorem dX9_fails_11 : decode cX9_fails 11 = .ok (.iload_n 3, 1) := by decide +kernel
theorem dX9_fails_12 : decode cX9_fails 12 = .ok (.putfield 53, 3) := by decide +kernel
theorem dX9_fails_15 : decode cX9_fails 15 = .ok (.return_, 1) := by decide +kernel
theorem dX9_take_0 : decode cX9_take 0 = .ok (.aload_n 0, 1) := by decide +kernel
theorem dX9_take_1 : decode cX9_take 1 = .ok (.getfield 136, 3) := by decide +kernel
theorem dX9_take_4 : decode cX9_take 4 = .ok (.sipush 1500, 3) := by decide +kernel
theorem dX9_take_7 : decode cX9_take 7 = .ok (.if_icmp .ne 17, 3) := by decide +kernel
theorem dX9_take_10 : decode cX9_take 10 = .ok (.aload_n 0, 1) := by decide +kernel
theorem dX9_take_11 : decode cX9_take 11 = .ok (.bipush 9, 2) := by decide +kernel
theorem dX9_take_13 : decode cX9_take 13 = .ok (.aload_n 0, 1) := by decide +kernel
theorem dX9_take_14 : decode cX9_take 14 = .ok (.getfield 145, 3) := by decide +kernel
theorem dX9_take_17 : decode cX9_take 17 = .ok (.sipush 1500, 3) := by decide +kernel
theorem dX9_take_20 : decode cX9_take 20 = .ok (.invokevirtual 169, 3) := by decide +kernel
theorem dX9_take_23 : decode cX9_take 23 = .ok (.return_, 1) := by decide +kernel
theorem dX9_take_24 : decode cX9_take 24 = .ok (.aload_n 0, 1) := by decide +kernel
theorem dX9_take_25 : decode cX9_take 25 = .ok (.getfield 46, 3) := by decide +kernel
theorem dX9_take_28 : decode cX9_take 28 = .ok (.aload_n 0, 1) := by decide +kernel
theorem dX9_take_29 : decode cX9_take 29 = .ok (.getfield 136, 3) := by decide +kernel
theorem dX9_take_32 : decode cX9_take 32 = .ok (.iload_n 1, 1) := by decide +kernel
theorem dX9_take_33 : decode cX9_take 33 = .ok (.iastore, 1) := by decide +kernel
theorem dX9_take_34 : decode cX9_take 34 = .ok (.aload_n 0, 1) := by decide +kernel
theorem dX9_take_35 : decode cX9_take 35 = .ok (.dup, 1) := by decide +kernel
theorem dX9_take_36 : decode cX9_take 36 = .ok (.getfield 136, 3) := by decide +kernel
theorem dX9_take_39 : decode cX9_take 39 = .ok (.iconst 1, 1) := by decide +kernel
theorem dX9_take_40 : decode cX9_take 40 = .ok (.iadd, 1) := by decide +kernel
theorem dX9_take_41 : decode cX9_take 41 = .ok (.putfield 136, 3) := by decide +kernel
theorem dX9_take_44 : decode cX9_take 44 = .ok (.aload_n 0, 1) := by decide +kernel
theorem dX9_take_45 : decode cX9_take 45 = .ok (.getfield 136, 3) := by decide +kernel
theorem dX9_take_48 : decode cX9_take 48 = .ok (.iconst 1, 1) := by decide +kernel
theorem dX9_take_49 : decode cX9_take 49 = .ok (.if_icmp .ne 19, 3) := by decide +kernel
theorem dX9_take_52 : decode cX9_take 52 = .ok (.iload_n 1, 1) := by decide +kernel
theorem dX9_take_53 : decode cX9_take 53 = .ok (.aload_n 0, 1) := by decide +kernel
theorem dX9_take_54 : decode cX9_take 54 = .ok (.getfield 124, 3) := by decide +kernel
theorem dX9_take_57 : decode cX9_take 57 = .ok (.if_icmp .eq 10, 3) := by decide +kernel
theorem dX9_take_60 : decode cX9_take 60 = .ok (.aload_n 0, 1) := by decide +kernel
theorem dX9_take_61 : decode cX9_take 61 = .ok (.iconst 1, 1) := by decide +kernel
theorem dX9_take_62 : decode cX9_take 62 = .ok (.iconst (-1), 1) := by decide +kernel
theorem dX9_take_63 : decode cX9_take 63 = .ok (.iconst 0, 1) := by decide +kernel
theorem dX9_take_64 : decode cX9_take 64 = .ok (.invokevirtual 169, 3) := by decide +kernel
theorem dX9_take_67 : decode cX9_take 67 = .ok (.return_, 1) := by decide +kernel
theorem dX9_take_68 : decode cX9_take 68 = .ok (.aload_n 0, 1) := by decide +kernel
theorem dX9_take_69 : decode cX9_take 69 = .ok (.invokevirtual 173, 3) := by decide +kernel
theorem dX9_take_72 : decode cX9_take 72 = .ok (.istore_n 2, 1) := by decide +kernel
theorem dX9_take_73 : decode cX9_take 73 = .ok (.iload_n 2, 1) := by decide +kernel
theorem dX9_take_74 : decode cX9_take 74 = .ok (.ifCond .eq 21, 3) := by decide +kernel
theorem dX9_take_77 : decode cX9_take 77 = .ok (.aload_n 0, 1) := by decide +kernel
theorem dX9_take_78 : decode cX9_take 78 = .ok (.iload_n 2, 1) := by decide +kernel
theorem dX9_take_79 : decode cX9_take 79 = .ok (.aload_n 0, 1) := by decide +kernel
theorem dX9_take_80 : decode cX9_take 80 = .ok (.getfield 145, 3) := by decide +kernel
theorem dX9_take_83 : decode cX9_take 83 = .ok (.aload_n 0, 1) := by decide +kernel
theorem dX9_take_84 : decode cX9_take 84 = .ok (.getfield 136, 3) := by decide +kernel
theorem dX9_take_87 : decode cX9_take 87 = .ok (.iconst 1, 1) := by decide +kernel
theorem dX9_take_88 : decode cX9_take 88 = .ok (.isub, 1) := by decide +kernel
theorem dX9_take_89 : decode cX9_take 89 = .ok (.invokevirtual 169, 3) := by decide +kernel
theorem dX9_take_92 : decode cX9_take 92 = .ok (.goto 68, 3) := by decide +kernel
theorem dX9_take_95 : decode cX9_take 95 = .ok (.aload_n 0, 1) := by decide +kernel
theorem dX9_take_96 : decode cX9_take 96 = .ok (.invokevirtual 177, 3) := by decide +kernel
theorem dX9_take_99 : decode cX9_take 99 = .ok (.ifCond .eq 61, 3) := by decide +kernel
theorem dX9_take_102 : decode cX9_take 102 = .ok (.aload_n 0, 1) := by decide +kernel
theorem dX9_take_103 : decode cX9_take 103 = .ok (.invokevirtual 181, 3) := by decide +kernel
theorem dX9_take_106 : decode cX9_take 106 = .ok (.istore_n 2, 1) := by decide +kernel
theorem dX9_take_107 : decode cX9_take 107 = .ok (.iload_n 2, 1) := by decide +kernel
theorem dX9_take_108 : decode cX9_take 108 = .ok (.ifCond .eq 21, 3) := by decide +kernel
theorem dX9_take_111 : decode cX9_take 111 = .ok (.aload_n 0, 1) := by decide +kernel
theorem dX9_take_112 : decode cX9_take 112 = .ok (.iload_n 2, 1) := by decide +kernel
theorem dX9_take_113 : decode cX9_take 113 = .ok (.aload_n 0, 1) := by decide +kernel
theorem dX9_take_114 : decode cX9_take 114 = .ok (.getfield 145, 3) := by decide +kernel
theorem dX9_take_117 : decode cX9_take 117 = .ok (.aload_n 0, 1) := by decide +kernel
theorem dX9_take_118 : decode cX9_take 118 = .ok (.getfield 136, 3) := by decide +kernel
theorem dX9_take_121 : decode cX9_take 121 = .ok (.iconst 1, 1) := by decide +kernel
theorem dX9_take_122 : decode cX9_take 122 = .ok (.isub, 1) := by decide +kernel
theorem dX9_take_123 : decode cX9_take 123 = .ok (.invokevirtual 169, 3) := by decide +kernel
theorem dX9_take_126 : decode cX9_take 126 = .ok (.goto 34, 3) := by decide +kernel
theorem dX9_take_129 : decode cX9_take 129 = .ok (.aload_n 0, 1) := by decide +kernel
theorem dX9_take_130 : decode cX9_take 130 = .ok (.getfield 56, 3) := by decide +kernel
theorem dX9_take_133 : decode cX9_take 133 = .ok (.aload_n 0, 1) := by decide +kernel
theorem dX9_take_134 : decode cX9_take 134 = .ok (.getfield 145, 3) := by decide +kernel
theorem dX9_take_137 : decode cX9_take 137 = .ok (.aload_n 0, 1) := by decide +kernel
theorem dX9_take_138 : decode cX9_take 138 = .ok (.getfield 142, 3) := by decide +kernel
theorem dX9_take_141 : decode cX9_take 141 = .ok (.iastore, 1) := by decide +kernel
theorem dX9_take_142 : decode cX9_take 142 = .ok (.aload_n 0, 1) := by decide +kernel
theorem dX9_take_143 : decode cX9_take 143 = .ok (.dup, 1) := by decide +kernel
theorem dX9_take_144 : decode cX9_take 144 = .ok (.getfield 145, 3) := by decide +kernel
theorem dX9_take_147 : decode cX9_take 147 = .ok (.iconst 1, 1) := by decide +kernel
theorem dX9_take_148 : decode cX9_take 148 = .ok (.iadd, 1) := by decide +kernel
theorem dX9_take_149 : decode cX9_take 149 = .ok (.putfield 145, 3) := by decide +kernel
theorem dX9_take_152 : decode cX9_take 152 = .ok (.aload_n 0, 1) := by decide +kernel
theorem dX9_take_153 : decode cX9_take 153 = .ok (.aload_n 0, 1) := by decide +kernel
theorem dX9_take_154 : decode cX9_take 154 = .ok (.getfield 136, 3) := by decide +kernel
theorem dX9_take_157 : decode cX9_take 157 = .ok (.putfield 142, 3) := by decide +kernel
theorem dX9_take_160 : decode cX9_take 160 = .ok (.return_, 1) := by decide +kernel
theorem dX9_of_0 : decode cX9_of 0 = .ok (.aload_n 0, 1) := by decide +kernel
theorem dX9_of_1 : decode cX9_of 1 = .ok (.getfield 46, 3) := by decide +kernel
theorem dX9_of_4 : decode cX9_of 4 = .ok (.aload_n 0, 1) := by decide +kernel
theorem dX9_of_5 : decode cX9_of 5 = .ok (.getfield 142, 3) := by decide +kernel
theorem dX9_of_8 : decode cX9_of 8 = .ok (.iload_n 1, 1) := by decide +kernel
theorem dX9_of_9 : decode cX9_of 9 = .ok (.iadd, 1) := by decide +kernel
theorem dX9_of_10 : decode cX9_of 10 = .ok (.iaload, 1) := by decide +kernel
theorem dX9_of_11 : decode cX9_of 11 = .ok (.ireturn, 1) := by decide +kernel
theorem dX9_length_0 : decode cX9_length 0 = .ok (.aload_n 0, 1) := by decide +kernel
theorem dX9_length_1 : decode cX9_length 1 = .ok (.getfield 46, 3) := by decide +kernel
theorem dX9_length_4 : decode cX9_length 4 = .ok (.iload_n 1, 1) := by decide +kernel
theorem dX9_length_5 : decode cX9_length 5 = .ok (.iaload, 1) := by decide +kernel
theorem dX9_length_6 : decode cX9_length 6 = .ok (.istore_n 2, 1) := by decide +kernel
theorem dX9_length_7 : decode cX9_length 7 = .ok (.iload_n 2, 1) := by decide +kernel
theorem dX9_length_8 : decode cX9_length 8 = .ok (.ifCond .eq 19, 3) := by decide +kernel
theorem dX9_length_11 : decode cX9_length 11 = .ok (.iload_n 2, 1) := by decide +kernel
theorem dX9_length_12 : decode cX9_length 12 = .ok (.iconst 1, 1) := by decide +kernel
theorem dX9_length_13 : decode cX9_length 13 = .ok (.if_icmp .eq 14, 3) := by decide +kernel
theorem dX9_length_16 : decode cX9_length 16 = .ok (.iload_n 2, 1) := by decide +kernel
theorem dX9_length_17 : decode cX9_length 17 = .ok (.iconst 2, 1) := by decide +kernel
theorem dX9_length_18 : decode cX9_length 18 = .ok (.if_icmp .eq 9, 3) := by decide +kernel
theorem dX9_length_21 : decode cX9_length 21 = .ok (.iload_n 2, 1) := by decide +kernel
theorem dX9_length_22 : decode cX9_length 22 = .ok (.bipush 8, 2) := by decide +kernel
theorem dX9_length_24 : decode cX9_length 24 = .ok (.if_icmp .ne 7, 3) := by decide +kernel
theorem dX9_length_27 : decode cX9_length 27 = .ok (.iconst 2, 1) := by decide +kernel
theorem dX9_length_28 : decode cX9_length 28 = .ok (.goto 49, 3) := by decide +kernel
theorem dX9_length_31 : decode cX9_length 31 = .ok (.iload_n 2, 1) := by decide +kernel
theorem dX9_length_32 : decode cX9_length 32 = .ok (.iconst 3, 1) := by decide +kernel
theorem dX9_length_33 : decode cX9_length 33 = .ok (.if_icmp .eq 9, 3) := by decide +kernel
theorem dX9_length_36 : decode cX9_length 36 = .ok (.iload_n 2, 1) := by decide +kernel
theorem dX9_length_37 : decode cX9_length 37 = .ok (.bipush 6, 2) := by decide +kernel
theorem dX9_length_39 : decode cX9_length 39 = .ok (.if_icmp .ne 7, 3) := by decide +kernel
theorem dX9_length_42 : decode cX9_length 42 = .ok (.iconst 4, 1) := by decide +kernel
theorem dX9_length_43 : decode cX9_length 43 = .ok (.goto 34, 3) := by decide +kernel
theorem dX9_length_46 : decode cX9_length 46 = .ok (.iload_n 2, 1) := by decide +kernel
theorem dX9_length_47 : decode cX9_length 47 = .ok (.iconst 4, 1) := by decide +kernel
theorem dX9_length_48 : decode cX9_length 48 = .ok (.if_icmp .ne 18, 3) := by decide +kernel
theorem dX9_length_51 : decode cX9_length 51 = .ok (.iconst 2, 1) := by decide +kernel
theorem dX9_length_52 : decode cX9_length 52 = .ok (.iconst 2, 1) := by decide +kernel
theorem dX9_length_53 : decode cX9_length 53 = .ok (.aload_n 0, 1) := by decide +kernel
theorem dX9_length_54 : decode cX9_length 54 = .ok (.getfield 46, 3) := by decide +kernel
theorem dX9_length_57 : decode cX9_length 57 = .ok (.iload_n 1, 1) := by decide +kernel
theorem dX9_length_58 : decode cX9_length 58 = .ok (.iconst 1, 1) := by decide +kernel
theorem dX9_length_59 : decode cX9_length 59 = .ok (.iadd, 1) := by decide +kernel
theorem dX9_length_60 : decode cX9_length 60 = .ok (.iaload, 1) := by decide +kernel
theorem dX9_length_61 : decode cX9_length 61 = .ok (.imul, 1) := by decide +kernel
theorem dX9_length_62 : decode cX9_length 62 = .ok (.iadd, 1) := by decide +kernel
theorem dX9_length_63 : decode cX9_length 63 = .ok (.goto 14, 3) := by decide +kernel
theorem dX9_length_66 : decode cX9_length 66 = .ok (.iload_n 2, 1) := by decide +kernel
theorem dX9_length_67 : decode cX9_length 67 = .ok (.bipush 7, 2) := by decide +kernel
theorem dX9_length_69 : decode cX9_length 69 = .ok (.if_icmp .ne 7, 3) := by decide +kernel
theorem dX9_length_72 : decode cX9_length 72 = .ok (.iconst 5, 1) := by decide +kernel
theorem dX9_length_73 : decode cX9_length 73 = .ok (.goto 4, 3) := by decide +kernel
theorem dX9_length_76 : decode cX9_length 76 = .ok (.iconst 3, 1) := by decide +kernel
theorem dX9_length_77 : decode cX9_length 77 = .ok (.ireturn, 1) := by decide +kernel
theorem dX9_isWhole_0 : decode cX9_isWhole 0 = .ok (.aload_n 0, 1) := by decide +kernel
theorem dX9_isWhole_1 : decode cX9_isWhole 1 = .ok (.getfield 136, 3) := by decide +kernel
theorem dX9_isWhole_4 : decode cX9_isWhole 4 = .ok (.aload_n 0, 1) := by decide +kernel
theorem dX9_isWhole_5 : decode cX9_isWhole 5 = .ok (.getfield 142, 3) := by decide +kernel
theorem dX9_isWhole_8 : decode cX9_isWhole 8 = .ok (.isub, 1) := by decide +kernel
theorem dX9_isWhole_9 : decode cX9_isWhole 9 = .ok (.istore_n 1, 1) := by decide +kernel
theorem dX9_isWhole_10 : decode cX9_isWhole 10 = .ok (.iload_n 1, 1) := by decide +kernel
theorem dX9_isWhole_11 : decode cX9_isWhole 11 = .ok (.iconst 1, 1) := by decide +kernel
theorem dX9_isWhole_12 : decode cX9_isWhole 12 = .ok (.if_icmp .le 19, 3) := by decide +kernel
theorem dX9_isWhole_15 : decode cX9_isWhole 15 = .ok (.iload_n 1, 1) := by decide +kernel
theorem dX9_isWhole_16 : decode cX9_isWhole 16 = .ok (.aload_n 0, 1) := by decide +kernel
theorem dX9_isWhole_17 : decode cX9_isWhole 17 = .ok (.aload_n 0, 1) := by decide +kernel
theorem dX9_isWhole_18 : decode cX9_isWhole 18 = .ok (.getfield 142, 3) := by decide +kernel
theorem dX9_isWhole_21 : decode cX9_isWhole 21 = .ok (.invokevirtual 184, 3) := by decide +kernel
theorem dX9_isWhole_24 : decode cX9_isWhole 24 = .ok (.if_icmp .ne 7, 3) := by decide +kernel
theorem dX9_isWhole_27 : decode cX9_isWhole 27 = .ok (.iconst 1, 1) := by decide +kernel
theorem dX9_isWhole_28 : decode cX9_isWhole 28 = .ok (.goto 4, 3) := by decide +kernel
theorem dX9_isWhole_31 : decode cX9_isWhole 31 = .ok (.iconst 0, 1) := by decide +kernel
theorem dX9_isWhole_32 : decode cX9_isWhole 32 = .ok (.ireturn, 1) := by decide +kernel
theorem dX9_variable_0 : decode cX9_variable 0 = .ok (.iload_n 1, 1) := by decide +kernel
theorem dX9_variable_1 : decode cX9_variable 1 = .ok (.iconst 0, 1) := by decide +kernel
theorem dX9_variable_2 : decode cX9_variable 2 = .ok (.aload_n 0, 1) := by decide +kernel
theorem dX9_variable_3 : decode cX9_variable 3 = .ok (.getfield 112, 3) := by decide +kernel
theorem dX9_variable_6 : decode cX9_variable 6 = .ok (.iconst 1, 1) := by decide +kernel
theorem dX9_variable_7 : decode cX9_variable 7 = .ok (.isub, 1) := by decide +kernel
theorem dX9_variable_8 : decode cX9_variable 8 = .ok (.invokestatic 89, 3) := by decide +kernel
theorem dX9_variable_11 : decode cX9_variable 11 = .ok (.ifCond .eq 7, 3) := by decide +kernel
theorem dX9_variable_14 : decode cX9_variable 14 = .ok (.iconst 0, 1) := by decide +kernel
theorem dX9_variable_15 : decode cX9_variable 15 = .ok (.goto 4, 3) := by decide +kernel
theorem dX9_variable_18 : decode cX9_variable 18 = .ok (.iconst 3, 1) := by decide +kernel
theorem dX9_variable_19 : decode cX9_variable 19 = .ok (.ireturn, 1) := by decide +kernel
theorem dX9_row_0 : decode cX9_row 0 = .ok (.iload_n 1, 1) := by decide +kernel
theorem dX9_row_1 : decode cX9_row 1 = .ok (.iconst 0, 1) := by decide +kernel
theorem dX9_row_2 : decode cX9_row 2 = .ok (.aload_n 0, 1) := by decide +kernel
theorem dX9_row_3 : decode cX9_row 3 = .ok (.getfield 145, 3) := by decide +kernel
theorem dX9_row_6 : decode cX9_row 6 = .ok (.iconst 1, 1) := by decide +kernel
theorem dX9_row_7 : decode cX9_row 7 = .ok (.isub, 1) := by decide +kernel
theorem dX9_row_8 : decode cX9_row 8 = .ok (.invokestatic 89, 3) := by decide +kernel
theorem dX9_row_11 : decode cX9_row 11 = .ok (.ifCond .eq 7, 3) := by decide +kernel
theorem dX9_row_14 : decode cX9_row 14 = .ok (.iconst 0, 1) := by decide +kernel
theorem dX9_row_15 : decode cX9_row 15 = .ok (.goto 4, 3) := by decide +kernel
theorem dX9_row_18 : decode cX9_row 18 = .ok (.iconst 4, 1) := by decide +kernel
theorem dX9_row_19 : decode cX9_row 19 = .ok (.ireturn, 1) := by decide +kernel
theorem dX9_bounds_0 : decode cX9_bounds 0 = .ok (.iload_n 0, 1) := by decide +kernel
theorem dX9_bounds_1 : decode cX9_bounds 1 = .ok (.iload_n 1, 1) := by decide +kernel
theorem dX9_bounds_2 : decode cX9_bounds 2 = .ok (.iload_n 2, 1) := by decide +kernel
theorem dX9_bounds_3 : decode cX9_bounds 3 = .ok (.invokestatic 89, 3) := by decide +kernel
theorem dX9_bounds_6 : decode cX9_bounds 6 = .ok (.ifCond .eq 7, 3) := by decide +kernel
theorem dX9_bounds_9 : decode cX9_bounds 9 = .ok (.iconst 0, 1) := by decide +kernel
theorem dX9_bounds_10 : decode cX9_bounds 10 = .ok (.goto 4, 3) := by decide +kernel
theorem dX9_bounds_13 : decode cX9_bounds 13 = .ok (.iconst 3, 1) := by decide +kernel
theorem dX9_bounds_14 : decode cX9_bounds 14 = .ok (.ireturn, 1) := by decide +kernel
theorem dX9_judged_0 : decode cX9_judged 0 = .ok (.aload_n 0, 1) := by decide +kernel
theorem dX9_judged_1 : decode cX9_judged 1 = .ok (.getfield 136, 3) := by decide +kernel
theorem dX9_judged_4 : decode cX9_judged 4 = .ok (.iconst 1, 1) := by decide +kernel
theorem dX9_judged_5 : decode cX9_judged 5 = .ok (.isub, 1) := by decide +kernel
theorem dX9_judged_6 : decode cX9_judged 6 = .ok (.aload_n 0, 1) := by decide +kernel
theorem dX9_judged_7 : decode cX9_judged 7 = .ok (.getfield 142, 3) := by decide +kernel
theorem dX9_judged_10 : decode cX9_judged 10 = .ok (.isub, 1) := by decide +kernel
theorem dX9_judged_11 : decode cX9_judged 11 = .ok (.istore_n 1, 1) := by decide +kernel
theorem dX9_judged_12 : decode cX9_judged 12 = .ok (.aload_n 0, 1) := by decide +kernel
theorem dX9_judged_13 : decode cX9_judged 13 = .ok (.iload_n 1, 1) := by decide +kernel
theorem dX9_judged_14 : decode cX9_judged 14 = .ok (.invokevirtual 187, 3) := by decide +kernel
theorem dX9_judged_17 : decode cX9_judged 17 = .ok (.istore_n 2, 1) := by decide +kernel
theorem dX9_judged_18 : decode cX9_judged 18 = .ok (.iload_n 1, 1) := by decide +kernel
theorem dX9_judged_19 : decode cX9_judged 19 = .ok (.ifCond .ne 49, 3) := by decide +kernel
theorem dX9_judged_22 : decode cX9_judged 22 = .ok (.iload_n 2, 1) := by decide +kernel
theorem dX9_judged_23 : decode cX9_judged 23 = .ok (.iconst 0, 1) := by decide +kernel
theorem dX9_judged_24 : decode cX9_judged 24 = .ok (.bipush 9, 2) := by decide +kernel
theorem dX9_judged_26 : decode cX9_judged 26 = .ok (.invokestatic 89, 3) := by decide +kernel
theorem dX9_judged_29 : decode cX9_judged 29 = .ok (.ifCond .ne 7, 3) := by decide +kernel
theorem dX9_judged_32 : decode cX9_judged 32 = .ok (.iconst 2, 1) := by decide +kernel
theorem dX9_judged_33 : decode cX9_judged 33 = .ok (.goto 34, 3) := by decide +kernel
theorem dX9_judged_36 : decode cX9_judged 36 = .ok (.aload_n 0, 1) := by decide +kernel
theorem dX9_judged_37 : decode cX9_judged 37 = .ok (.getfield 145, 3) := by decide +kernel
theorem dX9_judged_40 : decode cX9_judged 40 = .ok (.sipush 200, 3) := by decide +kernel
theorem dX9_judged_43 : decode cX9_judged 43 = .ok (.if_icmp .eq 18, 3) := by decide +kernel
theorem dX9_judged_46 : decode cX9_judged 46 = .ok (.iload_n 2, 1) := by decide +kernel
theorem dX9_judged_47 : decode cX9_judged 47 = .ok (.bipush 6, 2) := by decide +kernel
theorem dX9_judged_49 : decode cX9_judged 49 = .ok (.if_icmp .ne 17, 3) := by decide +kernel
theorem dX9_judged_52 : decode cX9_judged 52 = .ok (.aload_n 0, 1) := by decide +kernel
theorem dX9_judged_53 : decode cX9_judged 53 = .ok (.getfield 148, 3) := by decide +kernel
theorem dX9_judged_56 : decode cX9_judged 56 = .ok (.bipush 60, 2) := by decide +kernel
theorem dX9_judged_58 : decode cX9_judged 58 = .ok (.if_icmp .ne 8, 3) := by decide +kernel
theorem dX9_judged_61 : decode cX9_judged 61 = .ok (.bipush 9, 2) := by decide +kernel
theorem dX9_judged_63 : decode cX9_judged 63 = .ok (.goto 4, 3) := by decide +kernel
theorem dX9_judged_66 : decode cX9_judged 66 = .ok (.iconst 0, 1) := by decide +kernel
theorem dX9_judged_67 : decode cX9_judged 67 = .ok (.ireturn, 1) := by decide +kernel
theorem dX9_judged_68 : decode cX9_judged 68 = .ok (.aload_n 0, 1) := by decide +kernel
theorem dX9_judged_69 : decode cX9_judged 69 = .ok (.iconst 0, 1) := by decide +kernel
theorem dX9_judged_70 : decode cX9_judged 70 = .ok (.invokevirtual 187, 3) := by decide +kernel
theorem dX9_judged_73 : decode cX9_judged 73 = .ok (.tableswitch 237 0 8 #[51, 63, 63, 69, 105, 142, 164, 202, 208], 51) := by decide +kernel
theorem dX9_judged_124 : decode cX9_judged 124 = .ok (.iload_n 2, 1) := by decide +kernel
theorem dX9_judged_125 : decode cX9_judged 125 = .ok (.iconst 0, 1) := by decide +kernel
theorem dX9_judged_126 : decode cX9_judged 126 = .ok (.aload_n 0, 1) := by decide +kernel
theorem dX9_judged_127 : decode cX9_judged 127 = .ok (.getfield 115, 3) := by decide +kernel
theorem dX9_judged_130 : decode cX9_judged 130 = .ok (.iconst 1, 1) := by decide +kernel
theorem dX9_judged_131 : decode cX9_judged 131 = .ok (.isub, 1) := by decide +kernel
theorem dX9_judged_132 : decode cX9_judged 132 = .ok (.invokestatic 190, 3) := by decide +kernel
theorem dX9_judged_135 : decode cX9_judged 135 = .ok (.ireturn, 1) := by decide +kernel
theorem dX9_judged_136 : decode cX9_judged 136 = .ok (.aload_n 0, 1) := by decide +kernel
theorem dX9_judged_137 : decode cX9_judged 137 = .ok (.iload_n 2, 1) := by decide +kernel
theorem dX9_judged_138 : decode cX9_judged 138 = .ok (.invokevirtual 194, 3) := by decide +kernel
theorem dX9_judged_141 : decode cX9_judged 141 = .ok (.ireturn, 1) := by decide +kernel
theorem dX9_judged_142 : decode cX9_judged 142 = .ok (.iload_n 1, 1) := by decide +kernel
theorem dX9_judged_143 : decode cX9_judged 143 = .ok (.iconst 1, 1) := by decide +kernel
theorem dX9_judged_144 : decode cX9_judged 144 = .ok (.if_icmp .ne 25, 3) := by decide +kernel
theorem dX9_judged_147 : decode cX9_judged 147 = .ok (.iload_n 2, 1) := by decide +kernel
theorem dX9_judged_148 : decode cX9_judged 148 = .ok (.iconst 0, 1) := by decide +kernel
theorem dX9_judged_149 : decode cX9_judged 149 = .ok (.aload_n 0, 1) := by decide +kernel
theorem dX9_judged_150 : decode cX9_judged 150 = .ok (.getfield 118, 3) := by decide +kernel
theorem dX9_judged_153 : decode cX9_judged 153 = .ok (.iconst 1, 1) := by decide +kernel
theorem dX9_judged_154 : decode cX9_judged 154 = .ok (.isub, 1) := by decide +kernel
theorem dX9_judged_155 : decode cX9_judged 155 = .ok (.invokestatic 89, 3) := by decide +kernel
theorem dX9_judged_158 : decode cX9_judged 158 = .ok (.ifCond .eq 7, 3) := by decide +kernel
theorem dX9_judged_161 : decode cX9_judged 161 = .ok (.iconst 0, 1) := by decide +kernel
theorem dX9_judged_162 : decode cX9_judged 162 = .ok (.goto 15, 3) := by decide +kernel
theorem dX9_judged_165 : decode cX9_judged 165 = .ok (.iconst 4, 1) := by decide +kernel
theorem dX9_judged_166 : decode cX9_judged 166 = .ok (.goto 11, 3) := by decide +kernel
theorem dX9_judged_169 : decode cX9_judged 169 = .ok (.iload_n 2, 1) := by decide +kernel
theorem dX9_judged_170 : decode cX9_judged 170 = .ok (.bipush (-100), 2) := by decide +kernel
theorem dX9_judged_172 : decode cX9_judged 172 = .ok (.bipush 100, 2) := by decide +kernel
theorem dX9_judged_174 : decode cX9_judged 174 = .ok (.invokestatic 190, 3) := by decide +kernel
theorem dX9_judged_177 : decode cX9_judged 177 = .ok (.ireturn, 1) := by decide +kernel
theorem dX9_judged_178 : decode cX9_judged 178 = .ok (.iload_n 1, 1) := by decide +kernel
theorem dX9_judged_179 : decode cX9_judged 179 = .ok (.iconst 1, 1) := by decide +kernel
theorem dX9_judged_180 : decode cX9_judged 180 = .ok (.if_icmp .ne 12, 3) := by decide +kernel
theorem dX9_judged_183 : decode cX9_judged 183 = .ok (.iload_n 2, 1) := by decide +kernel
theorem dX9_judged_184 : decode cX9_judged 184 = .ok (.iconst 1, 1) := by decide +kernel
theorem dX9_judged_185 : decode cX9_judged 185 = .ok (.iconst 4, 1) := by decide +kernel
theorem dX9_judged_186 : decode cX9_judged 186 = .ok (.invokestatic 190, 3) := by decide +kernel
theorem dX9_judged_189 : decode cX9_judged 189 = .ok (.goto 25, 3) := by decide +kernel
theorem dX9_judged_192 : decode cX9_judged 192 = .ok (.iload_n 1, 1) := by decide +kernel
theorem dX9_judged_193 : decode cX9_judged 193 = .ok (.iconst 2, 1) := by decide +kernel
theorem dX9_judged_194 : decode cX9_judged 194 = .ok (.irem, 1) := by decide +kernel
theorem dX9_judged_195 : decode cX9_judged 195 = .ok (.ifCond .ne 11, 3) := by decide +kernel
theorem dX9_judged_198 : decode cX9_judged 198 = .ok (.aload_n 0, 1) := by decide +kernel
theorem dX9_judged_199 : decode cX9_judged 199 = .ok (.iload_n 2, 1) := by decide +kernel
theorem dX9_judged_200 : decode cX9_judged 200 = .ok (.invokevirtual 197, 3) := by decide +kernel
theorem dX9_judged_203 : decode cX9_judged 203 = .ok (.goto 11, 3) := by decide +kernel
theorem dX9_judged_206 : decode cX9_judged 206 = .ok (.iload_n 2, 1) := by decide +kernel
theorem dX9_judged_207 : decode cX9_judged 207 = .ok (.iconst 1, 1) := by decide +kernel
theorem dX9_judged_208 : decode cX9_judged 208 = .ok (.sipush 1000, 3) := by decide +kernel
theorem dX9_judged_211 : decode cX9_judged 211 = .ok (.invokestatic 190, 3) := by decide +kernel
theorem dX9_judged_214 : decode cX9_judged 214 = .ok (.ireturn, 1) := by decide +kernel
theorem dX9_judged_215 : decode cX9_judged 215 = .ok (.iload_n 1, 1) := by decide +kernel
theorem dX9_judged_216 : decode cX9_judged 216 = .ok (.iconst 1, 1) := by decide +kernel
theorem dX9_judged_217 : decode cX9_judged 217 = .ok (.if_icmp .ne 11, 3) := by decide +kernel
theorem dX9_judged_220 : decode cX9_judged 220 = .ok (.aload_n 0, 1) := by decide +kernel
theorem dX9_judged_221 : decode cX9_judged 221 = .ok (.iload_n 2, 1) := by decide +kernel
theorem dX9_judged_222 : decode cX9_judged 222 = .ok (.invokevirtual 197, 3) := by decide +kernel
theorem dX9_judged_225 : decode cX9_judged 225 = .ok (.goto 11, 3) := by decide +kernel
theorem dX9_judged_228 : decode cX9_judged 228 = .ok (.iload_n 2, 1) := by decide +kernel
theorem dX9_judged_229 : decode cX9_judged 229 = .ok (.iconst 2, 1) := by decide +kernel
theorem dX9_judged_230 : decode cX9_judged 230 = .ok (.sipush 1000, 3) := by decide +kernel
theorem dX9_judged_233 : decode cX9_judged 233 = .ok (.invokestatic 190, 3) := by decide +kernel
theorem dX9_judged_236 : decode cX9_judged 236 = .ok (.ireturn, 1) := by decide +kernel
theorem dX9_judged_237 : decode cX9_judged 237 = .ok (.iload_n 1, 1) := by decide +kernel
theorem dX9_judged_238 : decode cX9_judged 238 = .ok (.iconst 1, 1) := by decide +kernel
theorem dX9_judged_239 : decode cX9_judged 239 = .ok (.if_icmp .ne 11, 3) := by decide +kernel
theorem dX9_judged_242 : decode cX9_judged 242 = .ok (.aload_n 0, 1) := by decide +kernel
theorem dX9_judged_243 : decode cX9_judged 243 = .ok (.iload_n 2, 1) := by decide +kernel
theorem dX9_judged_244 : decode cX9_judged 244 = .ok (.invokevirtual 194, 3) := by decide +kernel
theorem dX9_judged_247 : decode cX9_judged 247 = .ok (.goto 27, 3) := by decide +kernel
theorem dX9_judged_250 : decode cX9_judged 250 = .ok (.iload_n 1, 1) := by decide +kernel
theorem dX9_judged_251 : decode cX9_judged 251 = .ok (.iconst 2, 1) := by decide +kernel
theorem dX9_judged_252 : decode cX9_judged 252 = .ok (.if_icmp .ne 16, 3) := by decide +kernel
theorem dX9_judged_255 : decode cX9_judged 255 = .ok (.iload_n 2, 1) := by decide +kernel
theorem dX9_judged_256 : decode cX9_judged 256 = .ok (.sipush (-1000), 3) := by decide +kernel
theorem dX9_judged_259 : decode cX9_judged 259 = .ok (.sipush 1000, 3) := by decide +kernel
theorem dX9_judged_262 : decode cX9_judged 262 = .ok (.invokestatic 190, 3) := by decide +kernel
theorem dX9_judged_265 : decode cX9_judged 265 = .ok (.goto 9, 3) := by decide +kernel
theorem dX9_judged_268 : decode cX9_judged 268 = .ok (.iload_n 2, 1) := by decide +kernel
theorem dX9_judged_269 : decode cX9_judged 269 = .ok (.iconst 0, 1) := by decide +kernel
theorem dX9_judged_270 : decode cX9_judged 270 = .ok (.iconst 1, 1) := by decide +kernel
theorem dX9_judged_271 : decode cX9_judged 271 = .ok (.invokestatic 190, 3) := by decide +kernel
theorem dX9_judged_274 : decode cX9_judged 274 = .ok (.ireturn, 1) := by decide +kernel
theorem dX9_judged_275 : decode cX9_judged 275 = .ok (.aload_n 0, 1) := by decide +kernel
theorem dX9_judged_276 : decode cX9_judged 276 = .ok (.iload_n 2, 1) := by decide +kernel
theorem dX9_judged_277 : decode cX9_judged 277 = .ok (.invokevirtual 197, 3) := by decide +kernel
theorem dX9_judged_280 : decode cX9_judged 280 = .ok (.ireturn, 1) := by decide +kernel
theorem dX9_judged_281 : decode cX9_judged 281 = .ok (.iload_n 2, 1) := by decide +kernel
theorem dX9_judged_282 : decode cX9_judged 282 = .ok (.iconst 0, 1) := by decide +kernel
theorem dX9_judged_283 : decode cX9_judged 283 = .ok (.aload_n 0, 1) := by decide +kernel
theorem dX9_judged_284 : decode cX9_judged 284 = .ok (.getfield 127, 3) := by decide +kernel
theorem dX9_judged_287 : decode cX9_judged 287 = .ok (.iconst 1, 1) := by decide +kernel
theorem dX9_judged_288 : decode cX9_judged 288 = .ok (.isub, 1) := by decide +kernel
theorem dX9_judged_289 : decode cX9_judged 289 = .ok (.invokestatic 89, 3) := by decide +kernel
theorem dX9_judged_292 : decode cX9_judged 292 = .ok (.ifCond .eq 16, 3) := by decide +kernel
theorem dX9_judged_295 : decode cX9_judged 295 = .ok (.aload_n 0, 1) := by decide +kernel
theorem dX9_judged_296 : decode cX9_judged 296 = .ok (.iload_n 2, 1) := by decide +kernel
theorem dX9_judged_297 : decode cX9_judged 297 = .ok (.invokevirtual 153, 3) := by decide +kernel
theorem dX9_judged_300 : decode cX9_judged 300 = .ok (.iconst (-1), 1) := by decide +kernel
theorem dX9_judged_301 : decode cX9_judged 301 = .ok (.if_icmp .ne 7, 3) := by decide +kernel
theorem dX9_judged_304 : decode cX9_judged 304 = .ok (.iconst 0, 1) := by decide +kernel
theorem dX9_judged_305 : decode cX9_judged 305 = .ok (.goto 4, 3) := by decide +kernel
theorem dX9_judged_308 : decode cX9_judged 308 = .ok (.iconst 4, 1) := by decide +kernel
theorem dX9_judged_309 : decode cX9_judged 309 = .ok (.ireturn, 1) := by decide +kernel
theorem dX9_judged_310 : decode cX9_judged 310 = .ok (.iload_n 1, 1) := by decide +kernel
theorem dX9_judged_311 : decode cX9_judged 311 = .ok (.iconst 1, 1) := by decide +kernel
theorem dX9_judged_312 : decode cX9_judged 312 = .ok (.if_icmp .ne 11, 3) := by decide +kernel
theorem dX9_judged_315 : decode cX9_judged 315 = .ok (.aload_n 0, 1) := by decide +kernel
theorem dX9_judged_316 : decode cX9_judged 316 = .ok (.iload_n 2, 1) := by decide +kernel
theorem dX9_judged_317 : decode cX9_judged 317 = .ok (.invokevirtual 197, 3) := by decide +kernel
theorem dX9_judged_320 : decode cX9_judged 320 = .ok (.goto 8, 3) := by decide +kernel
theorem dX9_judged_323 : decode cX9_judged 323 = .ok (.aload_n 0, 1) := by decide +kernel
theorem dX9_judged_324 : decode cX9_judged 324 = .ok (.iload_n 2, 1) := by decide +kernel
theorem dX9_judged_325 : decode cX9_judged 325 = .ok (.invokevirtual 194, 3) := by decide +kernel
theorem dX9_judged_328 : decode cX9_judged 328 = .ok (.ireturn, 1) := by decide +kernel
theorem dX9_says_0 : decode cX9_says 0 = .ok (.aload_n 0, 1) := by decide +kernel
theorem dX9_says_1 : decode cX9_says 1 = .ok (.getfield 59, 3) := by decide +kernel
theorem dX9_says_4 : decode cX9_says 4 = .ok (.bipush 8, 2) := by decide +kernel
theorem dX9_says_6 : decode cX9_says 6 = .ok (.iload_n 1, 1) := by decide +kernel
theorem dX9_says_7 : decode cX9_says 7 = .ok (.imul, 1) := by decide +kernel
theorem dX9_says_8 : decode cX9_says 8 = .ok (.iload_n 2, 1) := by decide +kernel
theorem dX9_says_9 : decode cX9_says 9 = .ok (.iadd, 1) := by decide +kernel
theorem dX9_says_10 : decode cX9_says 10 = .ok (.lload_n 3, 1) := by decide +kernel
theorem dX9_says_11 : decode cX9_says 11 = .ok (.lastore, 1) := by decide +kernel
theorem dX9_says_12 : decode cX9_says 12 = .ok (.return_, 1) := by decide +kernel
theorem dX9_assumes_0 : decode cX9_assumes 0 = .ok (.iconst 0, 1) := by decide +kernel
theorem dX9_assumes_1 : decode cX9_assumes 1 = .ok (.istore 4, 2) := by decide +kernel
theorem dX9_assumes_3 : decode cX9_assumes 3 = .ok (.iload 4, 2) := by decide +kernel
theorem dX9_assumes_5 : decode cX9_assumes 5 = .ok (.iload_n 1, 1) := by decide +kernel
theorem dX9_assumes_6 : decode cX9_assumes 6 = .ok (.if_icmp .ge 65, 3) := by decide +kernel
theorem dX9_assumes_9 : decode cX9_assumes 9 = .ok (.aload_n 0, 1) := by decide +kernel
theorem dX9_assumes_10 : decode cX9_assumes 10 = .ok (.getfield 74, 3) := by decide +kernel
theorem dX9_assumes_13 : decode cX9_assumes 13 = .ok (.sipush 200, 3) := by decide +kernel
theorem dX9_assumes_16 : decode cX9_assumes 16 = .ok (.iload_n 1, 1) := by decide +kernel
theorem dX9_assumes_17 : decode cX9_assumes 17 = .ok (.imul, 1) := by decide +kernel
theorem dX9_assumes_18 : decode cX9_assumes 18 = .ok (.iload 4, 2) := by decide +kernel
theorem dX9_assumes_20 : decode cX9_assumes 20 = .ok (.iadd, 1) := by decide +kernel
theorem dX9_assumes_21 : decode cX9_assumes 21 = .ok (.aload_n 0, 1) := by decide +kernel
theorem dX9_assumes_22 : decode cX9_assumes 22 = .ok (.getfield 74, 3) := by decide +kernel
theorem dX9_assumes_25 : decode cX9_assumes 25 = .ok (.sipush 200, 3) := by decide +kernel
theorem dX9_assumes_28 : decode cX9_assumes 28 = .ok (.iload_n 1, 1) := by decide +kernel
theorem dX9_assumes_29 : decode cX9_assumes 29 = .ok (.imul, 1) := by decide +kernel
theorem dX9_assumes_30 : decode cX9_assumes 30 = .ok (.iload 4, 2) := by decide +kernel
theorem dX9_assumes_32 : decode cX9_assumes 32 = .ok (.iadd, 1) := by decide +kernel
theorem dX9_assumes_33 : decode cX9_assumes 33 = .ok (.baload, 1) := by decide +kernel
theorem dX9_assumes_34 : decode cX9_assumes 34 = .ok (.ifCond .ne 25, 3) := by decide +kernel
theorem dX9_assumes_37 : decode cX9_assumes 37 = .ok (.aload_n 0, 1) := by decide +kernel
theorem dX9_assumes_38 : decode cX9_assumes 38 = .ok (.getfield 74, 3) := by decide +kernel
theorem dX9_assumes_41 : decode cX9_assumes 41 = .ok (.sipush 200, 3) := by decide +kernel
theorem dX9_assumes_44 : decode cX9_assumes 44 = .ok (.iload_n 2, 1) := by decide +kernel
theorem dX9_assumes_45 : decode cX9_assumes 45 = .ok (.imul, 1) := by decide +kernel
theorem dX9_assumes_46 : decode cX9_assumes 46 = .ok (.iload 4, 2) := by decide +kernel
theorem dX9_assumes_48 : decode cX9_assumes 48 = .ok (.iadd, 1) := by decide +kernel
theorem dX9_assumes_49 : decode cX9_assumes 49 = .ok (.baload, 1) := by decide +kernel
theorem dX9_assumes_50 : decode cX9_assumes 50 = .ok (.ifCond .eq 13, 3) := by decide +kernel
theorem dX9_assumes_53 : decode cX9_assumes 53 = .ok (.iload 4, 2) := by decide +kernel
theorem dX9_assumes_55 : decode cX9_assumes 55 = .ok (.iload_n 3, 1) := by decide +kernel
theorem dX9_assumes_56 : decode cX9_assumes 56 = .ok (.if_icmp .eq 7, 3) := by decide +kernel
theorem dX9_assumes_59 : decode cX9_assumes 59 = .ok (.iconst 1, 1) := by decide +kernel
theorem dX9_assumes_60 : decode cX9_assumes 60 = .ok (.goto 4, 3) := by decide +kernel
theorem dX9_assumes_63 : decode cX9_assumes 63 = .ok (.iconst 0, 1) := by decide +kernel
theorem dX9_assumes_64 : decode cX9_assumes 64 = .ok (.bastore, 1) := by decide +kernel
theorem dX9_assumes_65 : decode cX9_assumes 65 = .ok (.iinc 4 1, 3) := by decide +kernel
theorem dX9_assumes_68 : decode cX9_assumes 68 = .ok (.goto (-65), 3) := by decide +kernel
theorem dX9_assumes_71 : decode cX9_assumes 71 = .ok (.aload_n 0, 1) := by decide +kernel
theorem dX9_assumes_72 : decode cX9_assumes 72 = .ok (.getfield 66, 3) := by decide +kernel
theorem dX9_assumes_75 : decode cX9_assumes 75 = .ok (.iload_n 2, 1) := by decide +kernel
theorem dX9_assumes_76 : decode cX9_assumes 76 = .ok (.baload, 1) := by decide +kernel
theorem dX9_assumes_77 : decode cX9_assumes 77 = .ok (.ifCond .eq 56, 3) := by decide +kernel
theorem dX9_assumes_80 : decode cX9_assumes 80 = .ok (.aload_n 0, 1) := by decide +kernel
theorem dX9_assumes_81 : decode cX9_assumes 81 = .ok (.getfield 70, 3) := by decide +kernel
theorem dX9_assumes_84 : decode cX9_assumes 84 = .ok (.iload_n 1, 1) := by decide +kernel
theorem dX9_assumes_85 : decode cX9_assumes 85 = .ok (.aload_n 0, 1) := by decide +kernel
theorem dX9_assumes_86 : decode cX9_assumes 86 = .ok (.getfield 66, 3) := by decide +kernel
theorem dX9_assumes_89 : decode cX9_assumes 89 = .ok (.iload_n 1, 1) := by decide +kernel
theorem dX9_assumes_90 : decode cX9_assumes 90 = .ok (.baload, 1) := by decide +kernel
theorem dX9_assumes_91 : decode cX9_assumes 91 = .ok (.ifCond .eq 28, 3) := by decide +kernel
theorem dX9_assumes_94 : decode cX9_assumes 94 = .ok (.aload_n 0, 1) := by decide +kernel
theorem dX9_assumes_95 : decode cX9_assumes 95 = .ok (.getfield 70, 3) := by decide +kernel
theorem dX9_assumes_98 : decode cX9_assumes 98 = .ok (.iload_n 1, 1) := by decide +kernel
theorem dX9_assumes_99 : decode cX9_assumes 99 = .ok (.laload, 1) := by decide +kernel
theorem dX9_assumes_100 : decode cX9_assumes 100 = .ok (.aload_n 0, 1) := by decide +kernel
theorem dX9_assumes_101 : decode cX9_assumes 101 = .ok (.getfield 70, 3) := by decide +kernel
theorem dX9_assumes_104 : decode cX9_assumes 104 = .ok (.iload_n 2, 1) := by decide +kernel
theorem dX9_assumes_105 : decode cX9_assumes 105 = .ok (.laload, 1) := by decide +kernel
theorem dX9_assumes_106 : decode cX9_assumes 106 = .ok (.lcmp, 1) := by decide +kernel
theorem dX9_assumes_107 : decode cX9_assumes 107 = .ok (.ifCond .ge 12, 3) := by decide +kernel
theorem dX9_assumes_110 : decode cX9_assumes 110 = .ok (.aload_n 0, 1) := by decide +kernel
theorem dX9_assumes_111 : decode cX9_assumes 111 = .ok (.getfield 70, 3) := by decide +kernel
theorem dX9_assumes_114 : decode cX9_assumes 114 = .ok (.iload_n 1, 1) := by decide +kernel
theorem dX9_assumes_115 : decode cX9_assumes 115 = .ok (.laload, 1) := by decide +kernel
theorem dX9_assumes_116 : decode cX9_assumes 116 = .ok (.goto 9, 3) := by decide +kernel
theorem dX9_assumes_119 : decode cX9_assumes 119 = .ok (.aload_n 0, 1) := by decide +kernel
theorem dX9_assumes_120 : decode cX9_assumes 120 = .ok (.getfield 70, 3) := by decide +kernel
theorem dX9_assumes_123 : decode cX9_assumes 123 = .ok (.iload_n 2, 1) := by decide +kernel
theorem dX9_assumes_124 : decode cX9_assumes 124 = .ok (.laload, 1) := by decide +kernel
theorem dX9_assumes_125 : decode cX9_assumes 125 = .ok (.lastore, 1) := by decide +kernel
theorem dX9_assumes_126 : decode cX9_assumes 126 = .ok (.aload_n 0, 1) := by decide +kernel
theorem dX9_assumes_127 : decode cX9_assumes 127 = .ok (.getfield 66, 3) := by decide +kernel
theorem dX9_assumes_130 : decode cX9_assumes 130 = .ok (.iload_n 1, 1) := by decide +kernel
theorem dX9_assumes_131 : decode cX9_assumes 131 = .ok (.iconst 1, 1) := by decide +kernel
theorem dX9_assumes_132 : decode cX9_assumes 132 = .ok (.bastore, 1) := by decide +kernel
theorem dX9_assumes_133 : decode cX9_assumes 133 = .ok (.return_, 1) := by decide +kernel
theorem dX9_works_0 : decode cX9_works 0 = .ok (.aload_n 0, 1) := by decide +kernel
theorem dX9_works_1 : decode cX9_works 1 = .ok (.getfield 145, 3) := by decide +kernel
theorem dX9_works_4 : decode cX9_works 4 = .ok (.istore_n 1, 1) := by decide +kernel
theorem dX9_works_5 : decode cX9_works 5 = .ok (.iconst 0, 1) := by decide +kernel
theorem dX9_works_6 : decode cX9_works 6 = .ok (.istore_n 2, 1) := by decide +kernel
theorem dX9_works_7 : decode cX9_works 7 = .ok (.iload_n 2, 1) := by decide +kernel
theorem dX9_works_8 : decode cX9_works 8 = .ok (.bipush 8, 2) := by decide +kernel
theorem dX9_works_10 : decode cX9_works 10 = .ok (.if_icmp .ge 21, 3) := by decide +kernel
theorem dX9_works_13 : decode cX9_works 13 = .ok (.aload_n 0, 1) := by decide +kernel
theorem dX9_works_14 : decode cX9_works 14 = .ok (.getfield 59, 3) := by decide +kernel
theorem dX9_works_17 : decode cX9_works 17 = .ok (.bipush 8, 2) := by decide +kernel
theorem dX9_works_19 : decode cX9_works 19 = .ok (.iload_n 1, 1) := by decide +kernel
theorem dX9_works_20 : decode cX9_works 20 = .ok (.imul, 1) := by decide +kernel
theorem dX9_works_21 : decode cX9_works 21 = .ok (.iload_n 2, 1) := by decide +kernel
theorem dX9_works_22 : decode cX9_works 22 = .ok (.iadd, 1) := by decide +kernel
theorem dX9_works_23 : decode cX9_works 23 = .ok (.lconst 0, 1) := by decide +kernel
theorem dX9_works_24 : decode cX9_works 24 = .ok (.lastore, 1) := by decide +kernel
theorem dX9_works_25 : decode cX9_works 25 = .ok (.iinc 2 1, 3) := by decide +kernel
theorem dX9_works_28 : decode cX9_works 28 = .ok (.goto (-21), 3) := by decide +kernel
theorem dX9_works_31 : decode cX9_works 31 = .ok (.iconst 0, 1) := by decide +kernel
theorem dX9_works_32 : decode cX9_works 32 = .ok (.istore_n 2, 1) := by decide +kernel
theorem dX9_works_33 : decode cX9_works 33 = .ok (.iload_n 2, 1) := by decide +kernel
theorem dX9_works_34 : decode cX9_works 34 = .ok (.sipush 200, 3) := by decide +kernel
theorem dX9_works_37 : decode cX9_works 37 = .ok (.if_icmp .ge 22, 3) := by decide +kernel
theorem dX9_works_40 : decode cX9_works 40 = .ok (.aload_n 0, 1) := by decide +kernel
theorem dX9_works_41 : decode cX9_works 41 = .ok (.getfield 74, 3) := by decide +kernel
theorem dX9_works_44 : decode cX9_works 44 = .ok (.sipush 200, 3) := by decide +kernel
theorem dX9_works_47 : decode cX9_works 47 = .ok (.iload_n 1, 1) := by decide +kernel
theorem dX9_works_48 : decode cX9_works 48 = .ok (.imul, 1) := by decide +kernel
theorem dX9_works_49 : decode cX9_works 49 = .ok (.iload_n 2, 1) := by decide +kernel
theorem dX9_works_50 : decode cX9_works 50 = .ok (.iadd, 1) := by decide +kernel
theorem dX9_works_51 : decode cX9_works 51 = .ok (.iconst 0, 1) := by decide +kernel
theorem dX9_works_52 : decode cX9_works 52 = .ok (.bastore, 1) := by decide +kernel
theorem dX9_works_53 : decode cX9_works 53 = .ok (.iinc 2 1, 3) := by decide +kernel
theorem dX9_works_56 : decode cX9_works 56 = .ok (.goto (-23), 3) := by decide +kernel
theorem dX9_works_59 : decode cX9_works 59 = .ok (.aload_n 0, 1) := by decide +kernel
theorem dX9_works_60 : decode cX9_works 60 = .ok (.getfield 63, 3) := by decide +kernel
theorem dX9_works_63 : decode cX9_works 63 = .ok (.iload_n 1, 1) := by decide +kernel
theorem dX9_works_64 : decode cX9_works 64 = .ok (.lconst 0, 1) := by decide +kernel
theorem dX9_works_65 : decode cX9_works 65 = .ok (.lastore, 1) := by decide +kernel
theorem dX9_works_66 : decode cX9_works 66 = .ok (.aload_n 0, 1) := by decide +kernel
theorem dX9_works_67 : decode cX9_works 67 = .ok (.getfield 66, 3) := by decide +kernel
theorem dX9_works_70 : decode cX9_works 70 = .ok (.iload_n 1, 1) := by decide +kernel
theorem dX9_works_71 : decode cX9_works 71 = .ok (.iconst 0, 1) := by decide +kernel
theorem dX9_works_72 : decode cX9_works 72 = .ok (.bastore, 1) := by decide +kernel
theorem dX9_works_73 : decode cX9_works 73 = .ok (.aload_n 0, 1) := by decide +kernel
theorem dX9_works_74 : decode cX9_works 74 = .ok (.getfield 70, 3) := by decide +kernel
theorem dX9_works_77 : decode cX9_works 77 = .ok (.iload_n 1, 1) := by decide +kernel
theorem dX9_works_78 : decode cX9_works 78 = .ok (.lconst 0, 1) := by decide +kernel
theorem dX9_works_79 : decode cX9_works 79 = .ok (.lastore, 1) := by decide +kernel
theorem dX9_works_80 : decode cX9_works 80 = .ok (.iconst 0, 1) := by decide +kernel
theorem dX9_works_81 : decode cX9_works 81 = .ok (.istore_n 2, 1) := by decide +kernel
theorem dX9_works_82 : decode cX9_works 82 = .ok (.aload_n 0, 1) := by decide +kernel
theorem dX9_works_83 : decode cX9_works 83 = .ok (.iconst 0, 1) := by decide +kernel
theorem dX9_works_84 : decode cX9_works 84 = .ok (.invokevirtual 187, 3) := by decide +kernel
theorem dX9_works_87 : decode cX9_works 87 = .ok (.tableswitch 475 0 8 #[49, 107, 138, 172, 180, 303, 312, 395, 404], 49) := by decide +kernel
theorem dX9_works_136 : decode cX9_works 136 = .ok (.iconst 0, 1) := by decide +kernel
theorem dX9_works_137 : decode cX9_works 137 = .ok (.istore_n 3, 1) := by decide +kernel
theorem dX9_works_138 : decode cX9_works 138 = .ok (.iload_n 3, 1) := by decide +kernel
theorem dX9_works_139 : decode cX9_works 139 = .ok (.aload_n 0, 1) := by decide +kernel
theorem dX9_works_140 : decode cX9_works 140 = .ok (.getfield 112, 3) := by decide +kernel
theorem dX9_works_143 : decode cX9_works 143 = .ok (.if_icmp .ge 31, 3) := by decide +kernel
theorem dX9_works_146 : decode cX9_works 146 = .ok (.aload_n 0, 1) := by decide +kernel
theorem dX9_works_147 : decode cX9_works 147 = .ok (.iload_n 1, 1) := by decide +kernel
theorem dX9_works_148 : decode cX9_works 148 = .ok (.iload_n 3, 1) := by decide +kernel
theorem dX9_works_149 : decode cX9_works 149 = .ok (.aload_n 0, 1) := by decide +kernel
theorem dX9_works_150 : decode cX9_works 150 = .ok (.getfield 22, 3) := by decide +kernel
theorem dX9_works_153 : decode cX9_works 153 = .ok (.bipush 8, 2) := by decide +kernel
theorem dX9_works_155 : decode cX9_works 155 = .ok (.aload_n 0, 1) := by decide +kernel
theorem dX9_works_156 : decode cX9_works 156 = .ok (.iconst 1, 1) := by decide +kernel
theorem dX9_works_157 : decode cX9_works 157 = .ok (.invokevirtual 187, 3) := by decide +kernel
theorem dX9_works_160 : decode cX9_works 160 = .ok (.imul, 1) := by decide +kernel
theorem dX9_works_161 : decode cX9_works 161 = .ok (.iload_n 3, 1) := by decide +kernel
theorem dX9_works_162 : decode cX9_works 162 = .ok (.iadd, 1) := by decide +kernel
theorem dX9_works_163 : decode cX9_works 163 = .ok (.iaload, 1) := by decide +kernel
theorem dX9_works_164 : decode cX9_works 164 = .ok (.i2l, 1) := by decide +kernel
theorem dX9_works_165 : decode cX9_works 165 = .ok (.invokevirtual 200, 3) := by decide +kernel
theorem dX9_works_168 : decode cX9_works 168 = .ok (.iinc 3 1, 3) := by decide +kernel
theorem dX9_works_171 : decode cX9_works 171 = .ok (.goto (-33), 3) := by decide +kernel
theorem dX9_works_174 : decode cX9_works 174 = .ok (.aload_n 0, 1) := by decide +kernel
theorem dX9_works_175 : decode cX9_works 175 = .ok (.getfield 63, 3) := by decide +kernel
theorem dX9_works_178 : decode cX9_works 178 = .ok (.iload_n 1, 1) := by decide +kernel
theorem dX9_works_179 : decode cX9_works 179 = .ok (.aload_n 0, 1) := by decide +kernel
theorem dX9_works_180 : decode cX9_works 180 = .ok (.getfield 25, 3) := by decide +kernel
theorem dX9_works_183 : decode cX9_works 183 = .ok (.aload_n 0, 1) := by decide +kernel
theorem dX9_works_184 : decode cX9_works 184 = .ok (.iconst 1, 1) := by decide +kernel
theorem dX9_works_185 : decode cX9_works 185 = .ok (.invokevirtual 187, 3) := by decide +kernel
theorem dX9_works_188 : decode cX9_works 188 = .ok (.iaload, 1) := by decide +kernel
theorem dX9_works_189 : decode cX9_works 189 = .ok (.i2l, 1) := by decide +kernel
theorem dX9_works_190 : decode cX9_works 190 = .ok (.lastore, 1) := by decide +kernel
theorem dX9_works_191 : decode cX9_works 191 = .ok (.goto 377, 3) := by decide +kernel
theorem dX9_works_194 : decode cX9_works 194 = .ok (.aload_n 0, 1) := by decide +kernel
theorem dX9_works_195 : decode cX9_works 195 = .ok (.iload_n 1, 1) := by decide +kernel
