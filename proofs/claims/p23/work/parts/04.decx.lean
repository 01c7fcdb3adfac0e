theorem dX0_init_0 : decode cX0_init 0 = .ok (.aload_n 0, 1) := by decide +kernel
theorem dX0_init_1 : decode cX0_init 1 = .ok (.iload_n 2, 1) := by decide +kernel
theorem dX0_init_2 : decode cX0_init 2 = .ok (.iload 5, 2) := by decide +kernel
theorem dX0_init_4 : decode cX0_init 4 = .ok (.iload 7, 2) := by decide +kernel
theorem dX0_init_6 : decode cX0_init 6 = .ok (.invokespecial 1, 3) := by decide +kernel
theorem dX0_init_9 : decode cX0_init 9 = .ok (.aload_n 0, 1) := by decide +kernel
theorem dX0_init_10 : decode cX0_init 10 = .ok (.new 7, 3) := by decide +kernel
theorem dX0_init_13 : decode cX0_init 13 = .ok (.dup, 1) := by decide +kernel
theorem dX0_init_14 : decode cX0_init 14 = .ok (.invokespecial 9, 3) := by decide +kernel
theorem dX0_init_17 : decode cX0_init 17 = .ok (.putfield 12, 3) := by decide +kernel
theorem dX0_init_20 : decode cX0_init 20 = .ok (.aload_n 0, 1) := by decide +kernel
theorem dX0_init_21 : decode cX0_init 21 = .ok (.new 7, 3) := by decide +kernel
theorem dX0_init_24 : decode cX0_init 24 = .ok (.dup, 1) := by decide +kernel
theorem dX0_init_25 : decode cX0_init 25 = .ok (.invokespecial 9, 3) := by decide +kernel
theorem dX0_init_28 : decode cX0_init 28 = .ok (.putfield 18, 3) := by decide +kernel
theorem dX0_init_31 : decode cX0_init 31 = .ok (.aload_n 0, 1) := by decide +kernel
theorem dX0_init_32 : decode cX0_init 32 = .ok (.iload_n 1, 1) := by decide +kernel
theorem dX0_init_33 : decode cX0_init 33 = .ok (.putfield 21, 3) := by decide +kernel
theorem dX0_init_36 : decode cX0_init 36 = .ok (.aload_n 0, 1) := by decide +kernel
theorem dX0_init_37 : decode cX0_init 37 = .ok (.iload_n 3, 1) := by decide +kernel
theorem dX0_init_38 : decode cX0_init 38 = .ok (.putfield 25, 3) := by decide +kernel
theorem dX0_init_41 : decode cX0_init 41 = .ok (.aload_n 0, 1) := by decide +kernel
theorem dX0_init_42 : decode cX0_init 42 = .ok (.iload 4, 2) := by decide +kernel
theorem dX0_init_44 : decode cX0_init 44 = .ok (.putfield 28, 3) := by decide +kernel
theorem dX0_init_47 : decode cX0_init 47 = .ok (.aload_n 0, 1) := by decide +kernel
theorem dX0_init_48 : decode cX0_init 48 = .ok (.iload 6, 2) := by decide +kernel
theorem dX0_init_50 : decode cX0_init 50 = .ok (.putfield 31, 3) := by decide +kernel
theorem dX0_init_53 : decode cX0_init 53 = .ok (.return_, 1) := by decide +kernel
theorem dX0_hasRoom_0 : decode cX0_hasRoom 0 = .ok (.iload_n 1, 1) := by decide +kernel
theorem dX0_hasRoom_1 : decode cX0_hasRoom 1 = .ok (.iload_n 2, 1) := by decide +kernel
theorem dX0_hasRoom_2 : decode cX0_hasRoom 2 = .ok (.iadd, 1) := by decide +kernel
theorem dX0_hasRoom_3 : decode cX0_hasRoom 3 = .ok (.aload_n 0, 1) := by decide +kernel
theorem dX0_hasRoom_4 : decode cX0_hasRoom 4 = .ok (.getfield 31, 3) := by decide +kernel
theorem dX0_hasRoom_7 : decode cX0_hasRoom 7 = .ok (.if_icmp .gt 21, 3) := by decide +kernel
theorem dX0_hasRoom_10 : decode cX0_hasRoom 10 = .ok (.aload_n 0, 1) := by decide +kernel
theorem dX0_hasRoom_11 : decode cX0_hasRoom 11 = .ok (.getfield 18, 3) := by decide +kernel
theorem dX0_hasRoom_14 : decode cX0_hasRoom 14 = .ok (.iload_n 1, 1) := by decide +kernel
theorem dX0_hasRoom_15 : decode cX0_hasRoom 15 = .ok (.iload_n 1, 1) := by decide +kernel
theorem dX0_hasRoom_16 : decode cX0_hasRoom 16 = .ok (.iload_n 2, 1) := by decide +kernel
theorem dX0_hasRoom_17 : decode cX0_hasRoom 17 = .ok (.iadd, 1) := by decide +kernel
theorem dX0_hasRoom_18 : decode cX0_hasRoom 18 = .ok (.invokestatic 34, 3) := by decide +kernel
theorem dX0_hasRoom_21 : decode cX0_hasRoom 21 = .ok (.ifCond .ne 7, 3) := by decide +kernel
theorem dX0_hasRoom_24 : decode cX0_hasRoom 24 = .ok (.iconst 1, 1) := by decide +kernel
theorem dX0_hasRoom_25 : decode cX0_hasRoom 25 = .ok (.goto 4, 3) := by decide +kernel
theorem dX0_hasRoom_28 : decode cX0_hasRoom 28 = .ok (.iconst 0, 1) := by decide +kernel
theorem dX0_hasRoom_29 : decode cX0_hasRoom 29 = .ok (.ireturn, 1) := by decide +kernel
theorem dX1_init_0 : decode cX1_init 0 = .ok (.aload_n 0, 1) := by decide +kernel
theorem dX1_init_1 : decode cX1_init 1 = .ok (.invokespecial 3, 3) := by decide +kernel
theorem dX1_init_4 : decode cX1_init 4 = .ok (.aload_n 0, 1) := by decide +kernel
theorem dX1_init_5 : decode cX1_init 5 = .ok (.iconst 0, 1) := by decide +kernel
theorem dX1_init_6 : decode cX1_init 6 = .ok (.putfield 9, 3) := by decide +kernel
theorem dX1_init_9 : decode cX1_init 9 = .ok (.aload_n 0, 1) := by decide +kernel
theorem dX1_init_10 : decode cX1_init 10 = .ok (.iconst 0, 1) := by decide +kernel
theorem dX1_init_11 : decode cX1_init 11 = .ok (.putfield 15, 3) := by decide +kernel
theorem dX1_init_14 : decode cX1_init 14 = .ok (.aload_n 0, 1) := by decide +kernel
theorem dX1_init_15 : decode cX1_init 15 = .ok (.iconst 0, 1) := by decide +kernel
theorem dX1_init_16 : decode cX1_init 16 = .ok (.putfield 19, 3) := by decide +kernel
theorem dX1_init_19 : decode cX1_init 19 = .ok (.aload_n 0, 1) := by decide +kernel
theorem dX1_init_20 : decode cX1_init 20 = .ok (.iconst 0, 1) := by decide +kernel
theorem dX1_init_21 : decode cX1_init 21 = .ok (.putfield 22, 3) := by decide +kernel
theorem dX1_init_24 : decode cX1_init 24 = .ok (.aload_n 0, 1) := by decide +kernel
theorem dX1_init_25 : decode cX1_init 25 = .ok (.iload_n 1, 1) := by decide +kernel
theorem dX1_init_26 : decode cX1_init 26 = .ok (.putfield 25, 3) := by decide +kernel
theorem dX1_init_29 : decode cX1_init 29 = .ok (.aload_n 0, 1) := by decide +kernel
theorem dX1_init_30 : decode cX1_init 30 = .ok (.aload_n 2, 1) := by decide +kernel
theorem dX1_init_31 : decode cX1_init 31 = .ok (.putfield 28, 3) := by decide +kernel
theorem dX1_init_34 : decode cX1_init 34 = .ok (.aload_n 0, 1) := by decide +kernel
theorem dX1_init_35 : decode cX1_init 35 = .ok (.aload_n 3, 1) := by decide +kernel
theorem dX1_init_36 : decode cX1_init 36 = .ok (.putfield 32, 3) := by decide +kernel
theorem dX1_init_39 : decode cX1_init 39 = .ok (.aload_n 0, 1) := by decide +kernel
theorem dX1_init_40 : decode cX1_init 40 = .ok (.iload 4, 2) := by decide +kernel
theorem dX1_init_42 : decode cX1_init 42 = .ok (.putfield 35, 3) := by decide +kernel
theorem dX1_init_45 : decode cX1_init 45 = .ok (.aload_n 0, 1) := by decide +kernel
theorem dX1_init_46 : decode cX1_init 46 = .ok (.iload 5, 2) := by decide +kernel
theorem dX1_init_48 : decode cX1_init 48 = .ok (.putfield 38, 3) := by decide +kernel
theorem dX1_init_51 : decode cX1_init 51 = .ok (.return_, 1) := by decide +kernel
theorem dX1_hold_0 : decode cX1_hold 0 = .ok (.aload_n 0, 1) := by decide +kernel
theorem dX1_hold_1 : decode cX1_hold 1 = .ok (.iconst 1, 1) := by decide +kernel
theorem dX1_hold_2 : decode cX1_hold 2 = .ok (.putfield 15, 3) := by decide +kernel
theorem dX1_hold_5 : decode cX1_hold 5 = .ok (.aload_n 0, 1) := by decide +kernel
theorem dX1_hold_6 : decode cX1_hold 6 = .ok (.iconst 0, 1) := by decide +kernel
theorem dX1_hold_7 : decode cX1_hold 7 = .ok (.putfield 19, 3) := by decide +kernel
theorem dX1_hold_10 : decode cX1_hold 10 = .ok (.aload_n 0, 1) := by decide +kernel
theorem dX1_hold_11 : decode cX1_hold 11 = .ok (.aload_n 0, 1) := by decide +kernel
theorem dX1_hold_12 : decode cX1_hold 12 = .ok (.getfield 28, 3) := by decide +kernel
theorem dX1_hold_15 : decode cX1_hold 15 = .ok (.getfield 41, 3) := by decide +kernel
theorem dX1_hold_18 : decode cX1_hold 18 = .ok (.putfield 22, 3) := by decide +kernel
theorem dX1_hold_21 : decode cX1_hold 21 = .ok (.return_, 1) := by decide +kernel
theorem dX1_isHeld_0 : decode cX1_isHeld 0 = .ok (.aload_n 0, 1) := by decide +kernel
theorem dX1_isHeld_1 : decode cX1_isHeld 1 = .ok (.getfield 15, 3) := by decide +kernel
theorem dX1_isHeld_4 : decode cX1_isHeld 4 = .ok (.ifCond .eq 14, 3) := by decide +kernel
theorem dX1_isHeld_7 : decode cX1_isHeld 7 = .ok (.aload_n 0, 1) := by decide +kernel
theorem dX1_isHeld_8 : decode cX1_isHeld 8 = .ok (.getfield 19, 3) := by decide +kernel
theorem dX1_isHeld_11 : decode cX1_isHeld 11 = .ok (.ifCond .ne 7, 3) := by decide +kernel
theorem dX1_isHeld_14 : decode cX1_isHeld 14 = .ok (.iconst 1, 1) := by decide +kernel
theorem dX1_isHeld_15 : decode cX1_isHeld 15 = .ok (.goto 4, 3) := by decide +kernel
theorem dX1_isHeld_18 : decode cX1_isHeld 18 = .ok (.iconst 0, 1) := by decide +kernel
theorem dX1_isHeld_19 : decode cX1_isHeld 19 = .ok (.ireturn, 1) := by decide +kernel
theorem dX1_breaksAt_0 : decode cX1_breaksAt 0 = .ok (.aload_n 0, 1) := by decide +kernel
theorem dX1_breaksAt_1 : decode cX1_breaksAt 1 = .ok (.getfield 25, 3) := by decide +kernel
theorem dX1_breaksAt_4 : decode cX1_breaksAt 4 = .ok (.lookupswitch 86 #[(1, 28), (2, 58)], 28) := by decide +kernel
theorem dX1_breaksAt_32 : decode cX1_breaksAt 32 = .ok (.aload_n 0, 1) := by decide +kernel
theorem dX1_breaksAt_33 : decode cX1_breaksAt 33 = .ok (.getfield 28, 3) := by decide +kernel
theorem dX1_breaksAt_36 : decode cX1_breaksAt 36 = .ok (.aload_n 0, 1) := by decide +kernel
theorem dX1_breaksAt_37 : decode cX1_breaksAt 37 = .ok (.getfield 35, 3) := by decide +kernel
theorem dX1_breaksAt_40 : decode cX1_breaksAt 40 = .ok (.iload_n 1, 1) := by decide +kernel
theorem dX1_breaksAt_41 : decode cX1_breaksAt 41 = .ok (.aload_n 0, 1) := by decide +kernel
theorem dX1_breaksAt_42 : decode cX1_breaksAt 42 = .ok (.getfield 22, 3) := by decide +kernel
theorem dX1_breaksAt_45 : decode cX1_breaksAt 45 = .ok (.isub, 1) := by decide +kernel
theorem dX1_breaksAt_46 : decode cX1_breaksAt 46 = .ok (.invokevirtual 46, 3) := by decide +kernel
theorem dX1_breaksAt_49 : decode cX1_breaksAt 49 = .ok (.invokestatic 50, 3) := by decide +kernel
theorem dX1_breaksAt_52 : decode cX1_breaksAt 52 = .ok (.iconst 5, 1) := by decide +kernel
theorem dX1_breaksAt_53 : decode cX1_breaksAt 53 = .ok (.if_icmp .le 7, 3) := by decide +kernel
theorem dX1_breaksAt_56 : decode cX1_breaksAt 56 = .ok (.iconst 1, 1) := by decide +kernel
theorem dX1_breaksAt_57 : decode cX1_breaksAt 57 = .ok (.goto 4, 3) := by decide +kernel
theorem dX1_breaksAt_60 : decode cX1_breaksAt 60 = .ok (.iconst 0, 1) := by decide +kernel
theorem dX1_breaksAt_61 : decode cX1_breaksAt 61 = .ok (.ireturn, 1) := by decide +kernel
theorem dX1_breaksAt_62 : decode cX1_breaksAt 62 = .ok (.aload_n 0, 1) := by decide +kernel
theorem dX1_breaksAt_63 : decode cX1_breaksAt 63 = .ok (.getfield 28, 3) := by decide +kernel
theorem dX1_breaksAt_66 : decode cX1_breaksAt 66 = .ok (.iload_n 1, 1) := by decide +kernel
theorem dX1_breaksAt_67 : decode cX1_breaksAt 67 = .ok (.invokevirtual 56, 3) := by decide +kernel
theorem dX1_breaksAt_70 : decode cX1_breaksAt 70 = .ok (.aload_n 0, 1) := by decide +kernel
theorem dX1_breaksAt_71 : decode cX1_breaksAt 71 = .ok (.getfield 35, 3) := by decide +kernel
theorem dX1_breaksAt_74 : decode cX1_breaksAt 74 = .ok (.iconst 2, 1) := by decide +kernel
theorem dX1_breaksAt_75 : decode cX1_breaksAt 75 = .ok (.aload_n 0, 1) := by decide +kernel
theorem dX1_breaksAt_76 : decode cX1_breaksAt 76 = .ok (.getfield 38, 3) := by decide +kernel
theorem dX1_breaksAt_79 : decode cX1_breaksAt 79 = .ok (.imul, 1) := by decide +kernel
theorem dX1_breaksAt_80 : decode cX1_breaksAt 80 = .ok (.isub, 1) := by decide +kernel
theorem dX1_breaksAt_81 : decode cX1_breaksAt 81 = .ok (.if_icmp .ge 7, 3) := by decide +kernel
theorem dX1_breaksAt_84 : decode cX1_breaksAt 84 = .ok (.iconst 1, 1) := by decide +kernel
theorem dX1_breaksAt_85 : decode cX1_breaksAt 85 = .ok (.goto 4, 3) := by decide +kernel
theorem dX1_breaksAt_88 : decode cX1_breaksAt 88 = .ok (.iconst 0, 1) := by decide +kernel
theorem dX1_breaksAt_89 : decode cX1_breaksAt 89 = .ok (.ireturn, 1) := by decide +kernel
theorem dX1_breaksAt_90 : decode cX1_breaksAt 90 = .ok (.iconst 0, 1) := by decide +kernel
theorem dX1_breaksAt_91 : decode cX1_breaksAt 91 = .ok (.ireturn, 1) := by decide +kernel
theorem dX1_state_0 : decode cX1_state 0 = .ok (.aload_n 0, 1) := by decide +kernel
theorem dX1_state_1 : decode cX1_state 1 = .ok (.getfield 15, 3) := by decide +kernel
theorem dX1_state_4 : decode cX1_state 4 = .ok (.ifCond .ne 5, 3) := by decide +kernel
theorem dX1_state_7 : decode cX1_state 7 = .ok (.iconst 0, 1) := by decide +kernel
theorem dX1_state_8 : decode cX1_state 8 = .ok (.ireturn, 1) := by decide +kernel
theorem dX1_state_9 : decode cX1_state 9 = .ok (.aload_n 0, 1) := by decide +kernel
theorem dX1_state_10 : decode cX1_state 10 = .ok (.getfield 19, 3) := by decide +kernel
theorem dX1_state_13 : decode cX1_state 13 = .ok (.ifCond .eq 5, 3) := by decide +kernel
theorem dX1_state_16 : decode cX1_state 16 = .ok (.iconst 3, 1) := by decide +kernel
theorem dX1_state_17 : decode cX1_state 17 = .ok (.ireturn, 1) := by decide +kernel
theorem dX1_state_18 : decode cX1_state 18 = .ok (.aload_n 0, 1) := by decide +kernel
theorem dX1_state_19 : decode cX1_state 19 = .ok (.getfield 25, 3) := by decide +kernel
theorem dX1_state_22 : decode cX1_state 22 = .ok (.iconst 2, 1) := by decide +kernel
theorem dX1_state_23 : decode cX1_state 23 = .ok (.if_icmp .ne 21, 3) := by decide +kernel
theorem dX1_state_26 : decode cX1_state 26 = .ok (.aload_n 0, 1) := by decide +kernel
theorem dX1_state_27 : decode cX1_state 27 = .ok (.getfield 28, 3) := by decide +kernel
theorem dX1_state_30 : decode cX1_state 30 = .ok (.invokevirtual 59, 3) := by decide +kernel
theorem dX1_state_33 : decode cX1_state 33 = .ok (.aload_n 0, 1) := by decide +kernel
theorem dX1_state_34 : decode cX1_state 34 = .ok (.getfield 35, 3) := by decide +kernel
theorem dX1_state_37 : decode cX1_state 37 = .ok (.if_icmp .le 7, 3) := by decide +kernel
theorem dX1_state_40 : decode cX1_state 40 = .ok (.iconst 2, 1) := by decide +kernel
theorem dX1_state_41 : decode cX1_state 41 = .ok (.goto 4, 3) := by decide +kernel
theorem dX1_state_44 : decode cX1_state 44 = .ok (.iconst 1, 1) := by decide +kernel
theorem dX1_state_45 : decode cX1_state 45 = .ok (.ireturn, 1) := by decide +kernel
theorem dX2_init_0 : decode cX2_init 0 = .ok (.aload_n 0, 1) := by decide +kernel
theorem dX2_init_1 : decode cX2_init 1 = .ok (.aload_n 2, 1) := by decide +kernel
theorem dX2_init_2 : decode cX2_init 2 = .ok (.getfield 1, 3) := by decide +kernel
theorem dX2_init_5 : decode cX2_init 5 = .ok (.iload 5, 2) := by decide +kernel
theorem dX2_init_7 : decode cX2_init 7 = .ok (.aload_n 2, 1) := by decide +kernel
theorem dX2_init_8 : decode cX2_init 8 = .ok (.getfield 7, 3) := by decide +kernel
theorem dX2_init_11 : decode cX2_init 11 = .ok (.invokespecial 10, 3) := by decide +kernel
theorem dX2_init_14 : decode cX2_init 14 = .ok (.aload_n 0, 1) := by decide +kernel
theorem dX2_init_15 : decode cX2_init 15 = .ok (.iload_n 1, 1) := by decide +kernel
theorem dX2_init_16 : decode cX2_init 16 = .ok (.putfield 16, 3) := by decide +kernel
theorem dX2_init_19 : decode cX2_init 19 = .ok (.aload_n 0, 1) := by decide +kernel
theorem dX2_init_20 : decode cX2_init 20 = .ok (.aload_n 2, 1) := by decide +kernel
theorem dX2_init_21 : decode cX2_init 21 = .ok (.putfield 21, 3) := by decide +kernel
theorem dX2_init_24 : decode cX2_init 24 = .ok (.aload_n 0, 1) := by decide +kernel
theorem dX2_init_25 : decode cX2_init 25 = .ok (.iload_n 3, 1) := by decide +kernel
theorem dX2_init_26 : decode cX2_init 26 = .ok (.putfield 25, 3) := by decide +kernel
theorem dX2_init_29 : decode cX2_init 29 = .ok (.aload_n 0, 1) := by decide +kernel
theorem dX2_init_30 : decode cX2_init 30 = .ok (.iload 4, 2) := by decide +kernel
theorem dX2_init_32 : decode cX2_init 32 = .ok (.putfield 28, 3) := by decide +kernel
theorem dX2_init_35 : decode cX2_init 35 = .ok (.return_, 1) := by decide +kernel
theorem dX3_init_0 : decode cX3_init 0 = .ok (.aload_n 0, 1) := by decide +kernel
theorem dX3_init_1 : decode cX3_init 1 = .ok (.invokespecial 1, 3) := by decide +kernel
theorem dX3_init_4 : decode cX3_init 4 = .ok (.aload_n 0, 1) := by decide +kernel
theorem dX3_init_5 : decode cX3_init 5 = .ok (.iload_n 1, 1) := by decide +kernel
theorem dX3_init_6 : decode cX3_init 6 = .ok (.putfield 7, 3) := by decide +kernel
theorem dX3_init_9 : decode cX3_init 9 = .ok (.aload_n 0, 1) := by decide +kernel
theorem dX3_init_10 : decode cX3_init 10 = .ok (.iload_n 2, 1) := by decide +kernel
theorem dX3_init_11 : decode cX3_init 11 = .ok (.putfield 13, 3) := by decide +kernel
theorem dX3_init_14 : decode cX3_init 14 = .ok (.return_, 1) := by decide +kernel
theorem dX3_touches_0 : decode cX3_touches 0 = .ok (.aload_n 0, 1) := by decide +kernel
theorem dX3_touches_1 : decode cX3_touches 1 = .ok (.getfield 7, 3) := by decide +kernel
theorem dX3_touches_4 : decode cX3_touches 4 = .ok (.iload_n 2, 1) := by decide +kernel
theorem dX3_touches_5 : decode cX3_touches 5 = .ok (.if_icmp .ge 15, 3) := by decide +kernel
theorem dX3_touches_8 : decode cX3_touches 8 = .ok (.iload_n 1, 1) := by decide +kernel
theorem dX3_touches_9 : decode cX3_touches 9 = .ok (.aload_n 0, 1) := by decide +kernel
theorem dX3_touches_10 : decode cX3_touches 10 = .ok (.getfield 13, 3) := by decide +kernel
theorem dX3_touches_13 : decode cX3_touches 13 = .ok (.if_icmp .ge 7, 3) := by decide +kernel
theorem dX3_touches_16 : decode cX3_touches 16 = .ok (.iconst 1, 1) := by decide +kernel
theorem dX3_touches_17 : decode cX3_touches 17 = .ok (.goto 4, 3) := by decide +kernel
theorem dX3_touches_20 : decode cX3_touches 20 = .ok (.iconst 0, 1) := by decide +kernel
theorem dX3_touches_21 : decode cX3_touches 21 = .ok (.ireturn, 1) := by decide +kernel
theorem dX4_init_0 : decode cX4_init 0 = .ok (.aload_n 0, 1) := by decide +kernel
theorem dX4_init_1 : decode cX4_init 1 = .ok (.invokespecial 3, 3) := by decide +kernel
theorem dX4_init_4 : decode cX4_init 4 = .ok (.aload_n 0, 1) := by decide +kernel
theorem dX4_init_5 : decode cX4_init 5 = .ok (.iconst 0, 1) := by decide +kernel
theorem dX4_init_6 : decode cX4_init 6 = .ok (.putfield 9, 3) := by decide +kernel
theorem dX4_init_9 : decode cX4_init 9 = .ok (.aload_n 0, 1) := by decide +kernel
theorem dX4_init_10 : decode cX4_init 10 = .ok (.iload_n 1, 1) := by decide +kernel
theorem dX4_init_11 : decode cX4_init 11 = .ok (.putfield 15, 3) := by decide +kernel
theorem dX4_init_14 : decode cX4_init 14 = .ok (.aload_n 0, 1) := by decide +kernel
theorem dX4_init_15 : decode cX4_init 15 = .ok (.iload_n 2, 1) := by decide +kernel
theorem dX4_init_16 : decode cX4_init 16 = .ok (.putfield 18, 3) := by decide +kernel
theorem dX4_init_19 : decode cX4_init 19 = .ok (.aload_n 0, 1) := by decide +kernel
theorem dX4_init_20 : decode cX4_init 20 = .ok (.iload_n 3, 1) := by decide +kernel
theorem dX4_init_21 : decode cX4_init 21 = .ok (.putfield 21, 3) := by decide +kernel
theorem dX4_init_24 : decode cX4_init 24 = .ok (.aload_n 0, 1) := by decide +kernel
theorem dX4_init_25 : decode cX4_init 25 = .ok (.iload_n 3, 1) := by decide +kernel
theorem dX4_init_26 : decode cX4_init 26 = .ok (.putfield 24, 3) := by decide +kernel
theorem dX4_init_29 : decode cX4_init 29 = .ok (.return_, 1) := by decide +kernel
theorem dX4_movementOf_0 : decode cX4_movementOf 0 = .ok (.iload_n 1, 1) := by decide +kernel
theorem dX4_movementOf_1 : decode cX4_movementOf 1 = .ok (.aload_n 0, 1) := by decide +kernel
theorem dX4_movementOf_2 : decode cX4_movementOf 2 = .ok (.getfield 15, 3) := by decide +kernel
theorem dX4_movementOf_5 : decode cX4_movementOf 5 = .ok (.invokestatic 27, 3) := by decide +kernel
theorem dX4_movementOf_8 : decode cX4_movementOf 8 = .ok (.imul, 1) := by decide +kernel
theorem dX4_movementOf_9 : decode cX4_movementOf 9 = .ok (.iload_n 2, 1) := by decide +kernel
theorem dX4_movementOf_10 : decode cX4_movementOf 10 = .ok (.imul, 1) := by decide +kernel
theorem dX4_movementOf_11 : decode cX4_movementOf 11 = .ok (.sipush 10000, 3) := by decide +kernel
theorem dX4_movementOf_14 : decode cX4_movementOf 14 = .ok (.idiv, 1) := by decide +kernel
theorem dX4_movementOf_15 : decode cX4_movementOf 15 = .ok (.ireturn, 1) := by decide +kernel
theorem dX4_widthAt_0 : decode cX4_widthAt 0 = .ok (.aload_n 0, 1) := by decide +kernel
theorem dX4_widthAt_1 : decode cX4_widthAt 1 = .ok (.getfield 18, 3) := by decide +kernel
theorem dX4_widthAt_4 : decode cX4_widthAt 4 = .ok (.aload_n 0, 1) := by decide +kernel
theorem dX4_widthAt_5 : decode cX4_widthAt 5 = .ok (.aload_n 0, 1) := by decide +kernel
theorem dX4_widthAt_6 : decode cX4_widthAt 6 = .ok (.getfield 18, 3) := by decide +kernel
theorem dX4_widthAt_9 : decode cX4_widthAt 9 = .ok (.iload_n 1, 1) := by decide +kernel
theorem dX4_widthAt_10 : decode cX4_widthAt 10 = .ok (.aload_n 0, 1) := by decide +kernel
theorem dX4_widthAt_11 : decode cX4_widthAt 11 = .ok (.getfield 21, 3) := by decide +kernel
theorem dX4_widthAt_14 : decode cX4_widthAt 14 = .ok (.isub, 1) := by decide +kernel
theorem dX4_widthAt_15 : decode cX4_widthAt 15 = .ok (.invokevirtual 31, 3) := by decide +kernel
theorem dX4_widthAt_18 : decode cX4_widthAt 18 = .ok (.iadd, 1) := by decide +kernel
theorem dX4_widthAt_19 : decode cX4_widthAt 19 = .ok (.ireturn, 1) := by decide +kernel
theorem dX4_widthNow_0 : decode cX4_widthNow 0 = .ok (.aload_n 0, 1) := by decide +kernel
theorem dX4_widthNow_1 : decode cX4_widthNow 1 = .ok (.aload_n 0, 1) := by decide +kernel
theorem dX4_widthNow_2 : decode cX4_widthNow 2 = .ok (.getfield 24, 3) := by decide +kernel
theorem dX4_widthNow_5 : decode cX4_widthNow 5 = .ok (.invokevirtual 35, 3) := by decide +kernel
theorem dX4_widthNow_8 : decode cX4_widthNow 8 = .ok (.ireturn, 1) := by decide +kernel
theorem dX4_moistureAfter_0 : decode cX4_moistureAfter 0 = .ok (.iload_n 2, 1) := by decide +kernel
theorem dX4_moistureAfter_1 : decode cX4_moistureAfter 1 = .ok (.iload_n 1, 1) := by decide +kernel
theorem dX4_moistureAfter_2 : decode cX4_moistureAfter 2 = .ok (.isub, 1) := by decide +kernel
theorem dX4_moistureAfter_3 : decode cX4_moistureAfter 3 = .ok (.istore_n 3, 1) := by decide +kernel
theorem dX4_moistureAfter_4 : decode cX4_moistureAfter 4 = .ok (.iconst 4, 1) := by decide +kernel
theorem dX4_moistureAfter_5 : decode cX4_moistureAfter 5 = .ok (.aload_n 0, 1) := by decide +kernel
theorem dX4_moistureAfter_6 : decode cX4_moistureAfter 6 = .ok (.getfield 9, 3) := by decide +kernel
theorem dX4_moistureAfter_9 : decode cX4_moistureAfter 9 = .ok (.iadd, 1) := by decide +kernel
theorem dX4_moistureAfter_10 : decode cX4_moistureAfter 10 = .ok (.istore 4, 2) := by decide +kernel
theorem dX4_moistureAfter_12 : decode cX4_moistureAfter 12 = .ok (.iload 4, 2) := by decide +kernel
theorem dX4_moistureAfter_14 : decode cX4_moistureAfter 14 = .ok (.ifCond .le 10, 3) := by decide +kernel
theorem dX4_moistureAfter_17 : decode cX4_moistureAfter 17 = .ok (.iload_n 3, 1) := by decide +kernel
theorem dX4_moistureAfter_18 : decode cX4_moistureAfter 18 = .ok (.iload 4, 2) := by decide +kernel
theorem dX4_moistureAfter_20 : decode cX4_moistureAfter 20 = .ok (.idiv, 1) := by decide +kernel
theorem dX4_moistureAfter_21 : decode cX4_moistureAfter 21 = .ok (.goto 4, 3) := by decide +kernel
theorem dX4_moistureAfter_24 : decode cX4_moistureAfter 24 = .ok (.iconst 0, 1) := by decide +kernel
theorem dX4_moistureAfter_25 : decode cX4_moistureAfter 25 = .ok (.istore 5, 2) := by decide +kernel
theorem dX4_moistureAfter_27 : decode cX4_moistureAfter 27 = .ok (.iload_n 1, 1) := by decide +kernel
theorem dX4_moistureAfter_28 : decode cX4_moistureAfter 28 = .ok (.iload 5, 2) := by decide +kernel
theorem dX4_moistureAfter_30 : decode cX4_moistureAfter 30 = .ok (.ifCond .eq 8, 3) := by decide +kernel
theorem dX4_moistureAfter_33 : decode cX4_moistureAfter 33 = .ok (.iload 5, 2) := by decide +kernel
theorem dX4_moistureAfter_35 : decode cX4_moistureAfter 35 = .ok (.goto 7, 3) := by decide +kernel
theorem dX4_moistureAfter_38 : decode cX4_moistureAfter 38 = .ok (.iload_n 3, 1) := by decide +kernel
theorem dX4_moistureAfter_39 : decode cX4_moistureAfter 39 = .ok (.invokestatic 38, 3) := by decide +kernel
theorem dX4_moistureAfter_42 : decode cX4_moistureAfter 42 = .ok (.iadd, 1) := by decide +kernel
theorem dX4_moistureAfter_43 : decode cX4_moistureAfter 43 = .ok (.ireturn, 1) := by decide +kernel
theorem dX4_moisten_0 : decode cX4_moisten 0 = .ok (.aload_n 0, 1) := by decide +kernel
theorem dX4_moisten_1 : decode cX4_moisten 1 = .ok (.aload_n 0, 1) := by decide +kernel
theorem dX4_moisten_2 : decode cX4_moisten 2 = .ok (.aload_n 0, 1) := by decide +kernel
theorem dX4_moisten_3 : decode cX4_moisten 3 = .ok (.getfield 24, 3) := by decide +kernel
theorem dX4_moisten_6 : decode cX4_moisten 6 = .ok (.iload_n 1, 1) := by decide +kernel
theorem dX4_moisten_7 : decode cX4_moisten 7 = .ok (.invokevirtual 43, 3) := by decide +kernel
theorem dX4_moisten_10 : decode cX4_moisten 10 = .ok (.putfield 24, 3) := by decide +kernel
theorem dX4_moisten_13 : decode cX4_moisten 13 = .ok (.return_, 1) := by decide +kernel
theorem dX5_init_0 : decode cX5_init 0 = .ok (.aload_n 0, 1) := by decide +kernel
theorem dX5_init_1 : decode cX5_init 1 = .ok (.invokespecial 1, 3) := by decide +kernel
theorem dX5_init_4 : decode cX5_init 4 = .ok (.aload_n 0, 1) := by decide +kernel
theorem dX5_init_5 : decode cX5_init 5 = .ok (.new 7, 3) := by decide +kernel
theorem dX5_init_8 : decode cX5_init 8 = .ok (.dup, 1) := by decide +kernel
theorem dX5_init_9 : decode cX5_init 9 = .ok (.invokespecial 9, 3) := by decide +kernel
theorem dX5_init_12 : decode cX5_init 12 = .ok (.putfield 10, 3) := by decide +kernel
theorem dX5_init_15 : decode cX5_init 15 = .ok (.aload_n 0, 1) := by decide +kernel
theorem dX5_init_16 : decode cX5_init 16 = .ok (.new 7, 3) := by decide +kernel
theorem dX5_init_19 : decode cX5_init 19 = .ok (.dup, 1) := by decide +kernel
theorem dX5_init_20 : decode cX5_init 20 = .ok (.invokespecial 9, 3) := by decide +kernel
theorem dX5_init_23 : decode cX5_init 23 = .ok (.putfield 16, 3) := by decide +kernel
theorem dX5_init_26 : decode cX5_init 26 = .ok (.aload_n 0, 1) := by decide +kernel
theorem dX5_init_27 : decode cX5_init 27 = .ok (.new 7, 3) := by decide +kernel
theorem dX5_init_30 : decode cX5_init 30 = .ok (.dup, 1) := by decide +kernel
theorem dX5_init_31 : decode cX5_init 31 = .ok (.invokespecial 9, 3) := by decide +kernel
theorem dX5_init_34 : decode cX5_init 34 = .ok (.putfield 19, 3) := by decide +kernel
theorem dX5_init_37 : decode cX5_init 37 = .ok (.aload_n 0, 1) := by decide +kernel
theorem dX5_init_38 : decode cX5_init 38 = .ok (.bipush 12, 2) := by decide +kernel
theorem dX5_init_40 : decode cX5_init 40 = .ok (.newarray .int, 2) := by decide +kernel
theorem dX5_init_42 : decode cX5_init 42 = .ok (.putfield 22, 3) := by decide +kernel
theorem dX5_init_45 : decode cX5_init 45 = .ok (.aload_n 0, 1) := by decide +kernel
theorem dX5_init_46 : decode cX5_init 46 = .ok (.iconst 0, 1) := by decide +kernel
theorem dX5_init_47 : decode cX5_init 47 = .ok (.putfield 26, 3) := by decide +kernel
theorem dX5_init_50 : decode cX5_init 50 = .ok (.aload_n 0, 1) := by decide +kernel
theorem dX5_init_51 : decode cX5_init 51 = .ok (.bipush 100, 2) := by decide +kernel
theorem dX5_init_53 : decode cX5_init 53 = .ok (.putfield 30, 3) := by decide +kernel
theorem dX5_init_56 : decode cX5_init 56 = .ok (.aload_n 0, 1) := by decide +kernel
theorem dX5_init_57 : decode cX5_init 57 = .ok (.bipush 100, 2) := by decide +kernel
theorem dX5_init_59 : decode cX5_init 59 = .ok (.putfield 33, 3) := by decide +kernel
theorem dX5_init_62 : decode cX5_init 62 = .ok (.aload_n 0, 1) := by decide +kernel
theorem dX5_init_63 : decode cX5_init 63 = .ok (.bipush 6, 2) := by decide +kernel
theorem dX5_init_65 : decode cX5_init 65 = .ok (.putfield 36, 3) := by decide +kernel
theorem dX5_init_68 : decode cX5_init 68 = .ok (.aload_n 0, 1) := by decide +kernel
theorem dX5_init_69 : decode cX5_init 69 = .ok (.getfield 22, 3) := by decide +kernel
theorem dX5_init_72 : decode cX5_init 72 = .ok (.bipush 100, 2) := by decide +kernel
theorem dX5_init_74 : decode cX5_init 74 = .ok (.invokestatic 39, 3) := by decide +kernel
theorem dX5_init_77 : decode cX5_init 77 = .ok (.return_, 1) := by decide +kernel
theorem dX5_weather_0 : decode cX5_weather 0 = .ok (.iload_n 1, 1) := by decide +kernel
theorem dX5_weather_1 : decode cX5_weather 1 = .ok (.ifCond .lt 9, 3) := by decide +kernel
theorem dX5_weather_4 : decode cX5_weather 4 = .ok (.iload_n 1, 1) := by decide +kernel
theorem dX5_weather_5 : decode cX5_weather 5 = .ok (.bipush 12, 2) := by decide +kernel
theorem dX5_weather_7 : decode cX5_weather 7 = .ok (.if_icmp .lt 13, 3) := by decide +kernel
theorem dX5_weather_10 : decode cX5_weather 10 = .ok (.new 45, 3) := by decide +kernel
theorem dX5_weather_13 : decode cX5_weather 13 = .ok (.dup, 1) := by decide +kernel
theorem dX5_weather_14 : decode cX5_weather 14 = .ok (.ldc 47, 2) := by decide +kernel
theorem dX5_weather_16 : decode cX5_weather 16 = .ok (.invokespecial 49, 3) := by decide +kernel
theorem dX5_weather_19 : decode cX5_weather 19 = .ok (.athrow, 1) := by decide +kernel
theorem dX5_weather_20 : decode cX5_weather 20 = .ok (.iload_n 2, 1) := by decide +kernel
theorem dX5_weather_21 : decode cX5_weather 21 = .ok (.bipush 40, 2) := by decide +kernel
theorem dX5_weather_23 : decode cX5_weather 23 = .ok (.sipush 300, 3) := by decide +kernel
theorem dX5_weather_26 : decode cX5_weather 26 = .ok (.invokestatic 52, 3) := by decide +kernel
theorem dX5_weather_29 : decode cX5_weather 29 = .ok (.ifCond .ne 13, 3) := by decide +kernel
theorem dX5_weather_32 : decode cX5_weather 32 = .ok (.new 56, 3) := by decide +kernel
theorem dX5_weather_35 : decode cX5_weather 35 = .ok (.dup, 1) := by decide +kernel
theorem dX5_weather_36 : decode cX5_weather 36 = .ok (.ldc 58, 2) := by decide +kernel
theorem dX5_weather_38 : decode cX5_weather 38 = .ok (.invokespecial 60, 3) := by decide +kernel
theorem dX5_weather_41 : decode cX5_weather 41 = .ok (.athrow, 1) := by decide +kernel
theorem dX5_weather_42 : decode cX5_weather 42 = .ok (.aload_n 0, 1) := by decide +kernel
theorem dX5_weather_43 : decode cX5_weather 43 = .ok (.getfield 22, 3) := by decide +kernel
theorem dX5_weather_46 : decode cX5_weather 46 = .ok (.iload_n 1, 1) := by decide +kernel
theorem dX5_weather_47 : decode cX5_weather 47 = .ok (.iaload, 1) := by decide +kernel
theorem dX5_weather_48 : decode cX5_weather 48 = .ok (.istore_n 3, 1) := by decide +kernel
theorem dX5_weather_49 : decode cX5_weather 49 = .ok (.aload_n 0, 1) := by decide +kernel
theorem dX5_weather_50 : decode cX5_weather 50 = .ok (.getfield 22, 3) := by decide +kernel
theorem dX5_weather_53 : decode cX5_weather 53 = .ok (.iload_n 1, 1) := by decide +kernel
theorem dX5_weather_54 : decode cX5_weather 54 = .ok (.iload_n 2, 1) := by decide +kernel
theorem dX5_weather_55 : decode cX5_weather 55 = .ok (.iastore, 1) := by decide +kernel
theorem dX5_weather_56 : decode cX5_weather 56 = .ok (.iload_n 3, 1) := by decide +kernel
theorem dX5_weather_57 : decode cX5_weather 57 = .ok (.ireturn, 1) := by decide +kernel
theorem dX5_pass_0 : decode cX5_pass 0 = .ok (.iload_n 1, 1) := by decide +kernel
theorem dX5_pass_1 : decode cX5_pass 1 = .ok (.iconst 1, 1) := by decide +kernel
theorem dX5_pass_2 : decode cX5_pass 2 = .ok (.bipush 24, 2) := by decide +kernel
theorem dX5_pass_4 : decode cX5_pass 4 = .ok (.invokestatic 52, 3) := by decide +kernel
theorem dX5_pass_7 : decode cX5_pass 7 = .ok (.ifCond .ne 13, 3) := by decide +kernel
theorem dX5_pass_10 : decode cX5_pass 10 = .ok (.new 56, 3) := by decide +kernel
theorem dX5_pass_13 : decode cX5_pass 13 = .ok (.dup, 1) := by decide +kernel
theorem dX5_pass_14 : decode cX5_pass 14 = .ok (.ldc 61, 2) := by decide +kernel
theorem dX5_pass_16 : decode cX5_pass 16 = .ok (.invokespecial 60, 3) := by decide +kernel
theorem dX5_pass_19 : decode cX5_pass 19 = .ok (.athrow, 1) := by decide +kernel
theorem dX5_pass_20 : decode cX5_pass 20 = .ok (.aload_n 0, 1) := by decide +kernel
theorem dX5_pass_21 : decode cX5_pass 21 = .ok (.getfield 26, 3) := by decide +kernel
theorem dX5_pass_24 : decode cX5_pass 24 = .ok (.iload_n 1, 1) := by decide +kernel
theorem dX5_pass_25 : decode cX5_pass 25 = .ok (.iadd, 1) := by decide +kernel
theorem dX5_pass_26 : decode cX5_pass 26 = .ok (.sipush 1200, 3) := by decide +kernel
theorem dX5_pass_29 : decode cX5_pass 29 = .ok (.if_icmp .le 13, 3) := by decide +kernel
theorem dX5_pass_32 : decode cX5_pass 32 = .ok (.new 63, 3) := by decide +kernel
theorem dX5_pass_35 : decode cX5_pass 35 = .ok (.dup, 1) := by decide +kernel
theorem dX5_pass_36 : decode cX5_pass 36 = .ok (.ldc 65, 2) := by decide +kernel
theorem dX5_pass_38 : decode cX5_pass 38 = .ok (.invokespecial 67, 3) := by decide +kernel
theorem dX5_pass_41 : decode cX5_pass 41 = .ok (.athrow, 1) := by decide +kernel
theorem dX5_pass_42 : decode cX5_pass 42 = .ok (.iconst 0, 1) := by decide +kernel
theorem dX5_pass_43 : decode cX5_pass 43 = .ok (.istore_n 2, 1) := by decide +kernel
theorem dX5_pass_44 : decode cX5_pass 44 = .ok (.iconst 0, 1) := by decide +kernel
theorem dX5_pass_45 : decode cX5_pass 45 = .ok (.istore_n 3, 1) := by decide +kernel
theorem dX5_pass_46 : decode cX5_pass 46 = .ok (.iload_n 3, 1) := by decide +kernel
theorem dX5_pass_47 : decode cX5_pass 47 = .ok (.iload_n 1, 1) := by decide +kernel
theorem dX5_pass_48 : decode cX5_pass 48 = .ok (.if_icmp .ge 38, 3) := by decide +kernel
theorem dX5_pass_51 : decode cX5_pass 51 = .ok (.aload_n 0, 1) := by decide +kernel
theorem dX5_pass_52 : decode cX5_pass 52 = .ok (.aload_n 0, 1) := by decide +kernel
theorem dX5_pass_53 : decode cX5_pass 53 = .ok (.aload_n 0, 1) := by decide +kernel
theorem dX5_pass_54 : decode cX5_pass 54 = .ok (.getfield 26, 3) := by decide +kernel
theorem dX5_pass_57 : decode cX5_pass 57 = .ok (.invokevirtual 68, 3) := by decide +kernel
theorem dX5_pass_60 : decode cX5_pass 60 = .ok (.invokevirtual 72, 3) := by decide +kernel
theorem dX5_pass_63 : decode cX5_pass 63 = .ok (.aload_n 0, 1) := by decide +kernel
theorem dX5_pass_64 : decode cX5_pass 64 = .ok (.dup, 1) := by decide +kernel
theorem dX5_pass_65 : decode cX5_pass 65 = .ok (.getfield 26, 3) := by decide +kernel
theorem dX5_pass_68 : decode cX5_pass 68 = .ok (.iconst 1, 1) := by decide +kernel
theorem dX5_pass_69 : decode cX5_pass 69 = .ok (.iadd, 1) := by decide +kernel
theorem dX5_pass_70 : decode cX5_pass 70 = .ok (.putfield 26, 3) := by decide +kernel
theorem dX5_pass_73 : decode cX5_pass 73 = .ok (.iload_n 2, 1) := by decide +kernel
theorem dX5_pass_74 : decode cX5_pass 74 = .ok (.aload_n 0, 1) := by decide +kernel
theorem dX5_pass_75 : decode cX5_pass 75 = .ok (.invokevirtual 76, 3) := by decide +kernel
theorem dX5_pass_78 : decode cX5_pass 78 = .ok (.iadd, 1) := by decide +kernel
theorem dX5_pass_79 : decode cX5_pass 79 = .ok (.istore_n 2, 1) := by decide +kernel
theorem dX5_pass_80 : decode cX5_pass 80 = .ok (.iinc 3 1, 3) := by decide +kernel
theorem dX5_pass_83 : decode cX5_pass 83 = .ok (.goto (-37), 3) := by decide +kernel
theorem dX5_pass_86 : decode cX5_pass 86 = .ok (.iload_n 2, 1) := by decide +kernel
theorem dX5_pass_87 : decode cX5_pass 87 = .ok (.ireturn, 1) := by decide +kernel
theorem dX5_board_0 : decode cX5_board 0 = .ok (.iload_n 1, 1) := by decide +kernel
theorem dX5_board_1 : decode cX5_board 1 = .ok (.iconst 0, 1) := by decide +kernel
theorem dX5_board_2 : decode cX5_board 2 = .ok (.iconst 3, 1) := by decide +kernel
theorem dX5_board_3 : decode cX5_board 3 = .ok (.invokestatic 52, 3) := by decide +kernel
theorem dX5_board_6 : decode cX5_board 6 = .ok (.ifCond .eq 23, 3) := by decide +kernel
theorem dX5_board_9 : decode cX5_board 9 = .ok (.iload_n 2, 1) := by decide +kernel
theorem dX5_board_10 : decode cX5_board 10 = .ok (.iconst 0, 1) := by decide +kernel
theorem dX5_board_11 : decode cX5_board 11 = .ok (.bipush 9, 2) := by decide +kernel
theorem dX5_board_13 : decode cX5_board 13 = .ok (.invokestatic 52, 3) := by decide +kernel
theorem dX5_board_16 : decode cX5_board 16 = .ok (.ifCond .eq 13, 3) := by decide +kernel
theorem dX5_board_19 : decode cX5_board 19 = .ok (.iload_n 3, 1) := by decide +kernel
theorem dX5_board_20 : decode cX5_board 20 = .ok (.iconst 0, 1) := by decide +kernel
theorem dX5_board_21 : decode cX5_board 21 = .ok (.bipush 20, 2) := by decide +kernel
theorem dX5_board_23 : decode cX5_board 23 = .ok (.invokestatic 52, 3) := by decide +kernel
theorem dX5_board_26 : decode cX5_board 26 = .ok (.ifCond .ne 13, 3) := by decide +kernel
theorem dX5_board_29 : decode cX5_board 29 = .ok (.new 56, 3) := by decide +kernel
theorem dX5_board_32 : decode cX5_board 32 = .ok (.dup, 1) := by decide +kernel
theorem dX5_board_33 : decode cX5_board 33 = .ok (.ldc 80, 2) := by decide +kernel
theorem dX5_board_35 : decode cX5_board 35 = .ok (.invokespecial 60, 3) := by decide +kernel
theorem dX5_board_38 : decode cX5_board 38 = .ok (.athrow, 1) := by decide +kernel
theorem dX5_board_39 : decode cX5_board 39 = .ok (.iload 4, 2) := by decide +kernel
theorem dX5_board_41 : decode cX5_board 41 = .ok (.bipush 100, 2) := by decide +kernel
theorem dX5_board_43 : decode cX5_board 43 = .ok (.sipush 6000, 3) := by decide +kernel
theorem dX5_board_46 : decode cX5_board 46 = .ok (.invokestatic 52, 3) := by decide +kernel
theorem dX5_board_49 : decode cX5_board 49 = .ok (.ifCond .eq 29, 3) := by decide +kernel
theorem dX5_board_52 : decode cX5_board 52 = .ok (.iload 5, 2) := by decide +kernel
theorem dX5_board_54 : decode cX5_board 54 = .ok (.bipush 100, 2) := by decide +kernel
theorem dX5_board_56 : decode cX5_board 56 = .ok (.sipush 30000, 3) := by decide +kernel
theorem dX5_board_59 : decode cX5_board 59 = .ok (.invokestatic 52, 3) := by decide +kernel
theorem dX5_board_62 : decode cX5_board 62 = .ok (.ifCond .eq 16, 3) := by decide +kernel
theorem dX5_board_65 : decode cX5_board 65 = .ok (.iload 6, 2) := by decide +kernel
theorem dX5_board_67 : decode cX5_board 67 = .ok (.bipush 40, 2) := by decide +kernel
theorem dX5_board_69 : decode cX5_board 69 = .ok (.sipush 300, 3) := by decide +kernel
theorem dX5_board_72 : decode cX5_board 72 = .ok (.invokestatic 52, 3) := by decide +kernel
theorem dX5_board_75 : decode cX5_board 75 = .ok (.ifCond .ne 13, 3) := by decide +kernel
theorem dX5_board_78 : decode cX5_board 78 = .ok (.new 56, 3) := by decide +kernel
theorem dX5_board_81 : decode cX5_board 81 = .ok (.dup, 1) := by decide +kernel
theorem dX5_board_82 : decode cX5_board 82 = .ok (.ldc 82, 2) := by decide +kernel
theorem dX5_board_84 : decode cX5_board 84 = .ok (.invokespecial 60, 3) := by decide +kernel
theorem dX5_board_87 : decode cX5_board 87 = .ok (.athrow, 1) := by decide +kernel
theorem dX5_board_88 : decode cX5_board 88 = .ok (.aload_n 0, 1) := by decide +kernel
theorem dX5_board_89 : decode cX5_board 89 = .ok (.getfield 10, 3) := by decide +kernel
theorem dX5_board_92 : decode cX5_board 92 = .ok (.invokevirtual 84, 3) := by decide +kernel
theorem dX5_board_95 : decode cX5_board 95 = .ok (.bipush 20, 2) := by decide +kernel
theorem dX5_board_97 : decode cX5_board 97 = .ok (.if_icmp .lt 13, 3) := by decide +kernel
theorem dX5_board_100 : decode cX5_board 100 = .ok (.new 63, 3) := by decide +kernel
theorem dX5_board_103 : decode cX5_board 103 = .ok (.dup, 1) := by decide +kernel
theorem dX5_board_104 : decode cX5_board 104 = .ok (.ldc 87, 2) := by decide +kernel
theorem dX5_board_106 : decode cX5_board 106 = .ok (.invokespecial 67, 3) := by decide +kernel
theorem dX5_board_109 : decode cX5_board 109 = .ok (.athrow, 1) := by decide +kernel
theorem dX5_board_110 : decode cX5_board 110 = .ok (.aload_n 0, 1) := by decide +kernel
theorem dX5_board_111 : decode cX5_board 111 = .ok (.iload_n 1, 1) := by decide +kernel
theorem dX5_board_112 : decode cX5_board 112 = .ok (.iload_n 2, 1) := by decide +kernel
theorem dX5_board_113 : decode cX5_board 113 = .ok (.iload_n 3, 1) := by decide +kernel
theorem dX5_board_114 : decode cX5_board 114 = .ok (.invokevirtual 89, 3) := by decide +kernel
theorem dX5_board_117 : decode cX5_board 117 = .ok (.ifCond .ne 13, 3) := by decide +kernel
theorem dX5_board_120 : decode cX5_board 120 = .ok (.new 63, 3) := by decide +kernel
theorem dX5_board_123 : decode cX5_board 123 = .ok (.dup, 1) := by decide +kernel
theorem dX5_board_124 : decode cX5_board 124 = .ok (.ldc 92, 2) := by decide +kernel
theorem dX5_board_126 : decode cX5_board 126 = .ok (.invokespecial 67, 3) := by decide +kernel
theorem dX5_board_129 : decode cX5_board 129 = .ok (.athrow, 1) := by decide +kernel
theorem dX5_board_130 : decode cX5_board 130 = .ok (.aload_n 0, 1) := by decide +kernel
theorem dX5_board_131 : decode cX5_board 131 = .ok (.getfield 10, 3) := by decide +kernel
theorem dX5_board_134 : decode cX5_board 134 = .ok (.invokevirtual 84, 3) := by decide +kernel
theorem dX5_board_137 : decode cX5_board 137 = .ok (.istore 7, 2) := by decide +kernel
theorem dX5_board_139 : decode cX5_board 139 = .ok (.aload_n 0, 1) := by decide +kernel
theorem dX5_board_140 : decode cX5_board 140 = .ok (.getfield 10, 3) := by decide +kernel
theorem dX5_board_143 : decode cX5_board 143 = .ok (.new 94, 3) := by decide +kernel
theorem dX5_board_146 : decode cX5_board 146 = .ok (.dup, 1) := by decide +kernel
theorem dX5_board_147 : decode cX5_board 147 = .ok (.iload 7, 2) := by decide +kernel
theorem dX5_board_149 : decode cX5_board 149 = .ok (.iload_n 1, 1) := by decide +kernel
theorem dX5_board_150 : decode cX5_board 150 = .ok (.iload_n 2, 1) := by decide +kernel
theorem dX5_board_151 : decode cX5_board 151 = .ok (.iload_n 3, 1) := by decide +kernel
theorem dX5_board_152 : decode cX5_board 152 = .ok (.iload 4, 2) := by decide +kernel
theorem dX5_board_154 : decode cX5_board 154 = .ok (.iload 5, 2) := by decide +kernel
theorem dX5_board_156 : decode cX5_board 156 = .ok (.iload 6, 2) := by decide +kernel
theorem dX5_board_158 : decode cX5_board 158 = .ok (.invokespecial 96, 3) := by decide +kernel
theorem dX5_board_161 : decode cX5_board 161 = .ok (.invokevirtual 99, 3) := by decide +kernel
theorem dX5_board_164 : decode cX5_board 164 = .ok (.pop, 1) := by decide +kernel
theorem dX5_board_165 : decode cX5_board 165 = .ok (.iload 7, 2) := by decide +kernel
theorem dX5_board_167 : decode cX5_board 167 = .ok (.ireturn, 1) := by decide +kernel
theorem dX5_cut_0 : decode cX5_cut 0 = .ok (.aload_n 0, 1) := by decide +kernel
theorem dX5_cut_1 : decode cX5_cut 1 = .ok (.iload_n 1, 1) := by decide +kernel
theorem dX5_cut_2 : decode cX5_cut 2 = .ok (.invokevirtual 103, 3) := by decide +kernel
theorem dX5_cut_5 : decode cX5_cut 5 = .ok (.astore 6, 2) := by decide +kernel
theorem dX5_cut_7 : decode cX5_cut 7 = .ok (.aload 6, 2) := by decide +kernel
theorem dX5_cut_9 : decode cX5_cut 9 = .ok (.ifnonnull 13, 3) := by decide +kernel
theorem dX5_cut_12 : decode cX5_cut 12 = .ok (.new 45, 3) := by decide +kernel
theorem dX5_cut_15 : decode cX5_cut 15 = .ok (.dup, 1) := by decide +kernel
theorem dX5_cut_16 : decode cX5_cut 16 = .ok (.ldc 107, 2) := by decide +kernel
theorem dX5_cut_18 : decode cX5_cut 18 = .ok (.invokespecial 49, 3) := by decide +kernel
theorem dX5_cut_21 : decode cX5_cut 21 = .ok (.athrow, 1) := by decide +kernel
theorem dX5_cut_22 : decode cX5_cut 22 = .ok (.iload_n 2, 1) := by decide +kernel
theorem dX5_cut_23 : decode cX5_cut 23 = .ok (.iconst 0, 1) := by decide +kernel
theorem dX5_cut_24 : decode cX5_cut 24 = .ok (.sipush 30000, 3) := by decide +kernel
theorem dX5_cut_27 : decode cX5_cut 27 = .ok (.invokestatic 52, 3) := by decide +kernel
theorem dX5_cut_30 : decode cX5_cut 30 = .ok (.ifCond .eq 28, 3) := by decide +kernel
theorem dX5_cut_33 : decode cX5_cut 33 = .ok (.iload_n 3, 1) := by decide +kernel
theorem dX5_cut_34 : decode cX5_cut 34 = .ok (.bipush 10, 2) := by decide +kernel
theorem dX5_cut_36 : decode cX5_cut 36 = .ok (.sipush 30000, 3) := by decide +kernel
theorem dX5_cut_39 : decode cX5_cut 39 = .ok (.invokestatic 52, 3) := by decide +kernel
theorem dX5_cut_42 : decode cX5_cut 42 = .ok (.ifCond .eq 16, 3) := by decide +kernel
theorem dX5_cut_45 : decode cX5_cut 45 = .ok (.iload 4, 2) := by decide +kernel
theorem dX5_cut_47 : decode cX5_cut 47 = .ok (.bipush 10, 2) := by decide +kernel
theorem dX5_cut_49 : decode cX5_cut 49 = .ok (.sipush 6000, 3) := by decide +kernel
theorem dX5_cut_52 : decode cX5_cut 52 = .ok (.invokestatic 52, 3) := by decide +kernel
theorem dX5_cut_55 : decode cX5_cut 55 = .ok (.ifCond .ne 13, 3) := by decide +kernel
theorem dX5_cut_58 : decode cX5_cut 58 = .ok (.new 56, 3) := by decide +kernel
theorem dX5_cut_61 : decode cX5_cut 61 = .ok (.dup, 1) := by decide +kernel
theorem dX5_cut_62 : decode cX5_cut 62 = .ok (.ldc 133, 2) := by decide +kernel
theorem dX5_cut_64 : decode cX5_cut 64 = .ok (.invokespecial 60, 3) := by decide +kernel
theorem dX5_cut_67 : decode cX5_cut 67 = .ok (.athrow, 1) := by decide +kernel
theorem dX5_cut_68 : decode cX5_cut 68 = .ok (.aload_n 0, 1) := by decide +kernel
theorem dX5_cut_69 : decode cX5_cut 69 = .ok (.getfield 16, 3) := by decide +kernel
theorem dX5_cut_72 : decode cX5_cut 72 = .ok (.invokevirtual 84, 3) := by decide +kernel
theorem dX5_cut_75 : decode cX5_cut 75 = .ok (.bipush 40, 2) := by decide +kernel
theorem dX5_cut_77 : decode cX5_cut 77 = .ok (.if_icmp .lt 13, 3) := by decide +kernel
theorem dX5_cut_80 : decode cX5_cut 80 = .ok (.new 63, 3) := by decide +kernel
theorem dX5_cut_83 : decode cX5_cut 83 = .ok (.dup, 1) := by decide +kernel
theorem dX5_cut_84 : decode cX5_cut 84 = .ok (.ldc 135, 2) := by decide +kernel
theorem dX5_cut_86 : decode cX5_cut 86 = .ok (.invokespecial 67, 3) := by decide +kernel
theorem dX5_cut_89 : decode cX5_cut 89 = .ok (.athrow, 1) := by decide +kernel
theorem dX5_cut_90 : decode cX5_cut 90 = .ok (.aload 6, 2) := by decide +kernel
theorem dX5_cut_92 : decode cX5_cut 92 = .ok (.iload_n 2, 1) := by decide +kernel
theorem dX5_cut_93 : decode cX5_cut 93 = .ok (.iload_n 3, 1) := by decide +kernel
theorem dX5_cut_94 : decode cX5_cut 94 = .ok (.invokevirtual 137, 3) := by decide +kernel
theorem dX5_cut_97 : decode cX5_cut 97 = .ok (.ifCond .eq 13, 3) := by decide +kernel
theorem dX5_cut_100 : decode cX5_cut 100 = .ok (.iload 4, 2) := by decide +kernel
theorem dX5_cut_102 : decode cX5_cut 102 = .ok (.aload 6, 2) := by decide +kernel
theorem dX5_cut_104 : decode cX5_cut 104 = .ok (.invokevirtual 141, 3) := by decide +kernel
theorem dX5_cut_107 : decode cX5_cut 107 = .ok (.if_icmp .le 13, 3) := by decide +kernel
theorem dX5_cut_110 : decode cX5_cut 110 = .ok (.new 63, 3) := by decide +kernel
theorem dX5_cut_113 : decode cX5_cut 113 = .ok (.dup, 1) := by decide +kernel
theorem dX5_cut_114 : decode cX5_cut 114 = .ok (.ldc 144, 2) := by decide +kernel
theorem dX5_cut_116 : decode cX5_cut 116 = .ok (.invokespecial 67, 3) := by decide +kernel
theorem dX5_cut_119 : decode cX5_cut 119 = .ok (.athrow, 1) := by decide +kernel
theorem dX5_cut_120 : decode cX5_cut 120 = .ok (.iload 5, 2) := by decide +kernel
theorem dX5_cut_122 : decode cX5_cut 122 = .ok (.ifCond .ne 28, 3) := by decide +kernel
theorem dX5_cut_125 : decode cX5_cut 125 = .ok (.aload 6, 2) := by decide +kernel
theorem dX5_cut_127 : decode cX5_cut 127 = .ok (.getfield 114, 3) := by decide +kernel
theorem dX5_cut_130 : decode cX5_cut 130 = .ok (.iload_n 2, 1) := by decide +kernel
theorem dX5_cut_131 : decode cX5_cut 131 = .ok (.iload_n 2, 1) := by decide +kernel
theorem dX5_cut_132 : decode cX5_cut 132 = .ok (.iload_n 3, 1) := by decide +kernel
theorem dX5_cut_133 : decode cX5_cut 133 = .ok (.iadd, 1) := by decide +kernel
theorem dX5_cut_134 : decode cX5_cut 134 = .ok (.invokestatic 122, 3) := by decide +kernel
theorem dX5_cut_137 : decode cX5_cut 137 = .ok (.ifCond .eq 13, 3) := by decide +kernel
theorem dX5_cut_140 : decode cX5_cut 140 = .ok (.new 63, 3) := by decide +kernel
theorem dX5_cut_143 : decode cX5_cut 143 = .ok (.dup, 1) := by decide +kernel
theorem dX5_cut_144 : decode cX5_cut 144 = .ok (.ldc 146, 2) := by decide +kernel
theorem dX5_cut_146 : decode cX5_cut 146 = .ok (.invokespecial 67, 3) := by decide +kernel
theorem dX5_cut_149 : decode cX5_cut 149 = .ok (.athrow, 1) := by decide +kernel
theorem dX5_cut_150 : decode cX5_cut 150 = .ok (.aload 6, 2) := by decide +kernel
theorem dX5_cut_152 : decode cX5_cut 152 = .ok (.getfield 148, 3) := by decide +kernel
theorem dX5_cut_155 : decode cX5_cut 155 = .ok (.invokestatic 151, 3) := by decide +kernel
theorem dX5_cut_158 : decode cX5_cut 158 = .ok (.istore 7, 2) := by decide +kernel
theorem dX5_cut_160 : decode cX5_cut 160 = .ok (.aload_n 0, 1) := by decide +kernel
theorem dX5_cut_161 : decode cX5_cut 161 = .ok (.getfield 30, 3) := by decide +kernel
theorem dX5_cut_164 : decode cX5_cut 164 = .ok (.iload 7, 2) := by decide +kernel
theorem dX5_cut_166 : decode cX5_cut 166 = .ok (.if_icmp .ge 13, 3) := by decide +kernel
theorem dX5_cut_169 : decode cX5_cut 169 = .ok (.new 63, 3) := by decide +kernel
theorem dX5_cut_172 : decode cX5_cut 172 = .ok (.dup, 1) := by decide +kernel
theorem dX5_cut_173 : decode cX5_cut 173 = .ok (.ldc 154, 2) := by decide +kernel
theorem dX5_cut_175 : decode cX5_cut 175 = .ok (.invokespecial 67, 3) := by decide +kernel
theorem dX5_cut_178 : decode cX5_cut 178 = .ok (.athrow, 1) := by decide +kernel
theorem dX5_cut_179 : decode cX5_cut 179 = .ok (.aload_n 0, 1) := by decide +kernel
theorem dX5_cut_180 : decode cX5_cut 180 = .ok (.dup, 1) := by decide +kernel
theorem dX5_cut_181 : decode cX5_cut 181 = .ok (.getfield 30, 3) := by decide +kernel
theorem dX5_cut_184 : decode cX5_cut 184 = .ok (.iload 7, 2) := by decide +kernel
theorem dX5_cut_186 : decode cX5_cut 186 = .ok (.isub, 1) := by decide +kernel
theorem dX5_cut_187 : decode cX5_cut 187 = .ok (.putfield 30, 3) := by decide +kernel
theorem dX5_cut_190 : decode cX5_cut 190 = .ok (.aload_n 0, 1) := by decide +kernel
theorem dX5_cut_191 : decode cX5_cut 191 = .ok (.getfield 16, 3) := by decide +kernel
theorem dX5_cut_194 : decode cX5_cut 194 = .ok (.invokevirtual 84, 3) := by decide +kernel
theorem dX5_cut_197 : decode cX5_cut 197 = .ok (.istore 8, 2) := by decide +kernel
theorem dX5_cut_199 : decode cX5_cut 199 = .ok (.aload_n 0, 1) := by decide +kernel
theorem dX5_cut_200 : decode cX5_cut 200 = .ok (.getfield 16, 3) := by decide +kernel
theorem dX5_cut_203 : decode cX5_cut 203 = .ok (.new 156, 3) := by decide +kernel
theorem dX5_cut_206 : decode cX5_cut 206 = .ok (.dup, 1) := by decide +kernel
theorem dX5_cut_207 : decode cX5_cut 207 = .ok (.iload 8, 2) := by decide +kernel
theorem dX5_cut_209 : decode cX5_cut 209 = .ok (.aload 6, 2) := by decide +kernel
theorem dX5_cut_211 : decode cX5_cut 211 = .ok (.iload_n 2, 1) := by decide +kernel
theorem dX5_cut_212 : decode cX5_cut 212 = .ok (.iload_n 3, 1) := by decide +kernel
theorem dX5_cut_213 : decode cX5_cut 213 = .ok (.iload 4, 2) := by decide +kernel
theorem dX5_cut_215 : decode cX5_cut 215 = .ok (.invokespecial 158, 3) := by decide +kernel
theorem dX5_cut_218 : decode cX5_cut 218 = .ok (.invokevirtual 99, 3) := by decide +kernel
theorem dX5_cut_221 : decode cX5_cut 221 = .ok (.pop, 1) := by decide +kernel
theorem dX5_cut_222 : decode cX5_cut 222 = .ok (.aload 6, 2) := by decide +kernel
theorem dX5_cut_224 : decode cX5_cut 224 = .ok (.getfield 119, 3) := by decide +kernel
theorem dX5_cut_227 : decode cX5_cut 227 = .ok (.new 128, 3) := by decide +kernel
theorem dX5_cut_230 : decode cX5_cut 230 = .ok (.dup, 1) := by decide +kernel
theorem dX5_cut_231 : decode cX5_cut 231 = .ok (.iload_n 2, 1) := by decide +kernel
theorem dX5_cut_232 : decode cX5_cut 232 = .ok (.bipush 30, 2) := by decide +kernel
theorem dX5_cut_234 : decode cX5_cut 234 = .ok (.isub, 1) := by decide +kernel
theorem dX5_cut_235 : decode cX5_cut 235 = .ok (.iload_n 2, 1) := by decide +kernel
theorem dX5_cut_236 : decode cX5_cut 236 = .ok (.iload_n 3, 1) := by decide +kernel
theorem dX5_cut_237 : decode cX5_cut 237 = .ok (.iadd, 1) := by decide +kernel
theorem dX5_cut_238 : decode cX5_cut 238 = .ok (.bipush 30, 2) := by decide +kernel
theorem dX5_cut_240 : decode cX5_cut 240 = .ok (.iadd, 1) := by decide +kernel
theorem dX5_cut_241 : decode cX5_cut 241 = .ok (.invokespecial 130, 3) := by decide +kernel
theorem dX5_cut_244 : decode cX5_cut 244 = .ok (.invokevirtual 99, 3) := by decide +kernel
theorem dX5_cut_247 : decode cX5_cut 247 = .ok (.pop, 1) := by decide +kernel
theorem dX5_cut_248 : decode cX5_cut 248 = .ok (.iload 8, 2) := by decide +kernel
theorem dX5_cut_250 : decode cX5_cut 250 = .ok (.ireturn, 1) := by decide +kernel
theorem dX5_sharpen_0 : decode cX5_sharpen 0 = .ok (.iload_n 1, 1) := by decide +kernel
theorem dX5_sharpen_1 : decode cX5_sharpen 1 = .ok (.iconst 0, 1) := by decide +kernel
theorem dX5_sharpen_2 : decode cX5_sharpen 2 = .ok (.iconst 1, 1) := by decide +kernel
theorem dX5_sharpen_3 : decode cX5_sharpen 3 = .ok (.invokestatic 52, 3) := by decide +kernel
theorem dX5_sharpen_6 : decode cX5_sharpen 6 = .ok (.ifCond .ne 13, 3) := by decide +kernel
theorem dX5_sharpen_9 : decode cX5_sharpen 9 = .ok (.new 45, 3) := by decide +kernel
theorem dX5_sharpen_12 : decode cX5_sharpen 12 = .ok (.dup, 1) := by decide +kernel
theorem dX5_sharpen_13 : decode cX5_sharpen 13 = .ok (.ldc 161, 2) := by decide +kernel
theorem dX5_sharpen_15 : decode cX5_sharpen 15 = .ok (.invokespecial 49, 3) := by decide +kernel
theorem dX5_sharpen_18 : decode cX5_sharpen 18 = .ok (.athrow, 1) := by decide +kernel
theorem dX5_sharpen_19 : decode cX5_sharpen 19 = .ok (.iload_n 1, 1) := by decide +kernel
theorem dX5_sharpen_20 : decode cX5_sharpen 20 = .ok (.ifCond .ne 10, 3) := by decide +kernel
theorem dX5_sharpen_23 : decode cX5_sharpen 23 = .ok (.aload_n 0, 1) := by decide +kernel
theorem dX5_sharpen_24 : decode cX5_sharpen 24 = .ok (.getfield 30, 3) := by decide +kernel
theorem dX5_sharpen_27 : decode cX5_sharpen 27 = .ok (.goto 7, 3) := by decide +kernel
theorem dX5_sharpen_30 : decode cX5_sharpen 30 = .ok (.aload_n 0, 1) := by decide +kernel
theorem dX5_sharpen_31 : decode cX5_sharpen 31 = .ok (.getfield 33, 3) := by decide +kernel
theorem dX5_sharpen_34 : decode cX5_sharpen 34 = .ok (.istore_n 2, 1) := by decide +kernel
theorem dX5_sharpen_35 : decode cX5_sharpen 35 = .ok (.iload_n 1, 1) := by decide +kernel
theorem dX5_sharpen_36 : decode cX5_sharpen 36 = .ok (.ifCond .ne 12, 3) := by decide +kernel
theorem dX5_sharpen_39 : decode cX5_sharpen 39 = .ok (.aload_n 0, 1) := by decide +kernel
theorem dX5_sharpen_40 : decode cX5_sharpen 40 = .ok (.bipush 100, 2) := by decide +kernel
theorem dX5_sharpen_42 : decode cX5_sharpen 42 = .ok (.putfield 30, 3) := by decide +kernel
theorem dX5_sharpen_45 : decode cX5_sharpen 45 = .ok (.goto 9, 3) := by decide +kernel
theorem dX5_sharpen_48 : decode cX5_sharpen 48 = .ok (.aload_n 0, 1) := by decide +kernel
theorem dX5_sharpen_49 : decode cX5_sharpen 49 = .ok (.bipush 100, 2) := by decide +kernel
theorem dX5_sharpen_51 : decode cX5_sharpen 51 = .ok (.putfield 33, 3) := by decide +kernel
theorem dX5_sharpen_54 : decode cX5_sharpen 54 = .ok (.iload_n 2, 1) := by decide +kernel
theorem dX5_sharpen_55 : decode cX5_sharpen 55 = .ok (.ireturn, 1) := by decide +kernel
theorem dX5_coat_0 : decode cX5_coat 0 = .ok (.aload_n 0, 1) := by decide +kernel
theorem dX5_coat_1 : decode cX5_coat 1 = .ok (.iload_n 1, 1) := by decide +kernel
theorem dX5_coat_2 : decode cX5_coat 2 = .ok (.invokevirtual 172, 3) := by decide +kernel
theorem dX5_coat_5 : decode cX5_coat 5 = .ok (.astore_n 2, 1) := by decide +kernel
theorem dX5_coat_6 : decode cX5_coat 6 = .ok (.aload_n 2, 1) := by decide +kernel
theorem dX5_coat_7 : decode cX5_coat 7 = .ok (.ifnonnull 13, 3) := by decide +kernel
theorem dX5_coat_10 : decode cX5_coat 10 = .ok (.new 45, 3) := by decide +kernel
theorem dX5_coat_13 : decode cX5_coat 13 = .ok (.dup, 1) := by decide +kernel
theorem dX5_coat_14 : decode cX5_coat 14 = .ok (.ldc 176, 2) := by decide +kernel
theorem dX5_coat_16 : decode cX5_coat 16 = .ok (.invokespecial 49, 3) := by decide +kernel
theorem dX5_coat_19 : decode cX5_coat 19 = .ok (.athrow, 1) := by decide +kernel
theorem dX5_coat_20 : decode cX5_coat 20 = .ok (.aload_n 2, 1) := by decide +kernel
theorem dX5_coat_21 : decode cX5_coat 21 = .ok (.getfield 178, 3) := by decide +kernel
theorem dX5_coat_24 : decode cX5_coat 24 = .ok (.bipush 6, 2) := by decide +kernel
theorem dX5_coat_26 : decode cX5_coat 26 = .ok (.if_icmp .lt 13, 3) := by decide +kernel
theorem dX5_coat_29 : decode cX5_coat 29 = .ok (.new 63, 3) := by decide +kernel
theorem dX5_coat_32 : decode cX5_coat 32 = .ok (.dup, 1) := by decide +kernel
theorem dX5_coat_33 : decode cX5_coat 33 = .ok (.ldc 181, 2) := by decide +kernel
theorem dX5_coat_35 : decode cX5_coat 35 = .ok (.invokespecial 67, 3) := by decide +kernel
theorem dX5_coat_38 : decode cX5_coat 38 = .ok (.athrow, 1) := by decide +kernel
theorem dX5_coat_39 : decode cX5_coat 39 = .ok (.aload_n 2, 1) := by decide +kernel
theorem dX5_coat_40 : decode cX5_coat 40 = .ok (.dup, 1) := by decide +kernel
theorem dX5_coat_41 : decode cX5_coat 41 = .ok (.getfield 178, 3) := by decide +kernel
theorem dX5_coat_44 : decode cX5_coat 44 = .ok (.iconst 1, 1) := by decide +kernel
theorem dX5_coat_45 : decode cX5_coat 45 = .ok (.iadd, 1) := by decide +kernel
theorem dX5_coat_46 : decode cX5_coat 46 = .ok (.putfield 178, 3) := by decide +kernel
theorem dX5_coat_49 : decode cX5_coat 49 = .ok (.aload_n 2, 1) := by decide +kernel
theorem dX5_coat_50 : decode cX5_coat 50 = .ok (.getfield 178, 3) := by decide +kernel
theorem dX5_coat_53 : decode cX5_coat 53 = .ok (.ireturn, 1) := by decide +kernel
theorem dX5_joint_0 : decode cX5_joint 0 = .ok (.aload_n 0, 1) := by decide +kernel
theorem dX5_joint_1 : decode cX5_joint 1 = .ok (.iload_n 2, 1) := by decide +kernel
theorem dX5_joint_2 : decode cX5_joint 2 = .ok (.invokevirtual 172, 3) := by decide +kernel
theorem dX5_joint_5 : decode cX5_joint 5 = .ok (.astore 6, 2) := by decide +kernel
theorem dX5_joint_7 : decode cX5_joint 7 = .ok (.aload_n 0, 1) := by decide +kernel
theorem dX5_joint_8 : decode cX5_joint 8 = .ok (.iload_n 3, 1) := by decide +kernel
theorem dX5_joint_9 : decode cX5_joint 9 = .ok (.invokevirtual 172, 3) := by decide +kernel
theorem dX5_joint_12 : decode cX5_joint 12 = .ok (.astore 7, 2) := by decide +kernel
theorem dX5_joint_14 : decode cX5_joint 14 = .ok (.aload 6, 2) := by decide +kernel
theorem dX5_joint_16 : decode cX5_joint 16 = .ok (.ifnull 8, 3) := by decide +kernel
theorem dX5_joint_19 : decode cX5_joint 19 = .ok (.aload 7, 2) := by decide +kernel
theorem dX5_joint_21 : decode cX5_joint 21 = .ok (.ifnonnull 13, 3) := by decide +kernel
theorem dX5_joint_24 : decode cX5_joint 24 = .ok (.new 45, 3) := by decide +kernel
theorem dX5_joint_27 : decode cX5_joint 27 = .ok (.dup, 1) := by decide +kernel
theorem dX5_joint_28 : decode cX5_joint 28 = .ok (.ldc 176, 2) := by decide +kernel
theorem dX5_joint_30 : decode cX5_joint 30 = .ok (.invokespecial 49, 3) := by decide +kernel
theorem dX5_joint_33 : decode cX5_joint 33 = .ok (.athrow, 1) := by decide +kernel
theorem dX5_joint_34 : decode cX5_joint 34 = .ok (.iload_n 1, 1) := by decide +kernel
theorem dX5_joint_35 : decode cX5_joint 35 = .ok (.iconst 0, 1) := by decide +kernel
theorem dX5_joint_36 : decode cX5_joint 36 = .ok (.iconst 2, 1) := by decide +kernel
theorem dX5_joint_37 : decode cX5_joint 37 = .ok (.invokestatic 52, 3) := by decide +kernel
theorem dX5_joint_40 : decode cX5_joint 40 = .ok (.ifCond .eq 25, 3) := by decide +kernel
theorem dX5_joint_43 : decode cX5_joint 43 = .ok (.iload 4, 2) := by decide +kernel
theorem dX5_joint_45 : decode cX5_joint 45 = .ok (.bipush 10, 2) := by decide +kernel
theorem dX5_joint_47 : decode cX5_joint 47 = .ok (.sipush 30000, 3) := by decide +kernel
theorem dX5_joint_50 : decode cX5_joint 50 = .ok (.invokestatic 52, 3) := by decide +kernel
theorem dX5_joint_53 : decode cX5_joint 53 = .ok (.ifCond .eq 12, 3) := by decide +kernel
theorem dX5_joint_56 : decode cX5_joint 56 = .ok (.iload_n 1, 1) := by decide +kernel
theorem dX5_joint_57 : decode cX5_joint 57 = .ok (.iload 5, 2) := by decide +kernel
theorem dX5_joint_59 : decode cX5_joint 59 = .ok (.invokestatic 200, 3) := by decide +kernel
theorem dX5_joint_62 : decode cX5_joint 62 = .ok (.ifCond .ne 13, 3) := by decide +kernel
theorem dX5_joint_65 : decode cX5_joint 65 = .ok (.new 56, 3) := by decide +kernel
theorem dX5_joint_68 : decode cX5_joint 68 = .ok (.dup, 1) := by decide +kernel
theorem dX5_joint_69 : decode cX5_joint 69 = .ok (.ldc 203, 2) := by decide +kernel
theorem dX5_joint_71 : decode cX5_joint 71 = .ok (.invokespecial 60, 3) := by decide +kernel
theorem dX5_joint_74 : decode cX5_joint 74 = .ok (.athrow, 1) := by decide +kernel
theorem dX5_joint_75 : decode cX5_joint 75 = .ok (.iload_n 2, 1) := by decide +kernel
theorem dX5_joint_76 : decode cX5_joint 76 = .ok (.iload_n 3, 1) := by decide +kernel
theorem dX5_joint_77 : decode cX5_joint 77 = .ok (.if_icmp .ne 13, 3) := by decide +kernel
theorem dX5_joint_80 : decode cX5_joint 80 = .ok (.new 56, 3) := by decide +kernel
theorem dX5_joint_83 : decode cX5_joint 83 = .ok (.dup, 1) := by decide +kernel
theorem dX5_joint_84 : decode cX5_joint 84 = .ok (.ldc 183, 2) := by decide +kernel
theorem dX5_joint_86 : decode cX5_joint 86 = .ok (.invokespecial 60, 3) := by decide +kernel
theorem dX5_joint_89 : decode cX5_joint 89 = .ok (.athrow, 1) := by decide +kernel
theorem dX5_joint_90 : decode cX5_joint 90 = .ok (.aload_n 0, 1) := by decide +kernel
theorem dX5_joint_91 : decode cX5_joint 91 = .ok (.getfield 19, 3) := by decide +kernel
theorem dX5_joint_94 : decode cX5_joint 94 = .ok (.invokevirtual 84, 3) := by decide +kernel
theorem dX5_joint_97 : decode cX5_joint 97 = .ok (.bipush 30, 2) := by decide +kernel
theorem dX5_joint_99 : decode cX5_joint 99 = .ok (.if_icmp .lt 13, 3) := by decide +kernel
theorem dX5_joint_102 : decode cX5_joint 102 = .ok (.new 63, 3) := by decide +kernel
theorem dX5_joint_105 : decode cX5_joint 105 = .ok (.dup, 1) := by decide +kernel
theorem dX5_joint_106 : decode cX5_joint 106 = .ok (.ldc 205, 2) := by decide +kernel
theorem dX5_joint_108 : decode cX5_joint 108 = .ok (.invokespecial 67, 3) := by decide +kernel
theorem dX5_joint_111 : decode cX5_joint 111 = .ok (.athrow, 1) := by decide +kernel
theorem dX5_joint_112 : decode cX5_joint 112 = .ok (.iload_n 1, 1) := by decide +kernel
theorem dX5_joint_113 : decode cX5_joint 113 = .ok (.aload 6, 2) := by decide +kernel
theorem dX5_joint_115 : decode cX5_joint 115 = .ok (.iload 4, 2) := by decide +kernel
theorem dX5_joint_117 : decode cX5_joint 117 = .ok (.iload 5, 2) := by decide +kernel
theorem dX5_joint_119 : decode cX5_joint 119 = .ok (.invokestatic 207, 3) := by decide +kernel
theorem dX5_joint_122 : decode cX5_joint 122 = .ok (.ifCond .ne 13, 3) := by decide +kernel
theorem dX5_joint_125 : decode cX5_joint 125 = .ok (.new 63, 3) := by decide +kernel
theorem dX5_joint_128 : decode cX5_joint 128 = .ok (.dup, 1) := by decide +kernel
theorem dX5_joint_129 : decode cX5_joint 129 = .ok (.ldc 211, 2) := by decide +kernel
theorem dX5_joint_131 : decode cX5_joint 131 = .ok (.invokespecial 67, 3) := by decide +kernel
theorem dX5_joint_134 : decode cX5_joint 134 = .ok (.athrow, 1) := by decide +kernel
theorem dX5_joint_135 : decode cX5_joint 135 = .ok (.aload 6, 2) := by decide +kernel
theorem dX5_joint_137 : decode cX5_joint 137 = .ok (.getfield 213, 3) := by decide +kernel
theorem dX5_joint_140 : decode cX5_joint 140 = .ok (.invokestatic 151, 3) := by decide +kernel
theorem dX5_joint_143 : decode cX5_joint 143 = .ok (.istore 8, 2) := by decide +kernel
theorem dX5_joint_145 : decode cX5_joint 145 = .ok (.aload_n 0, 1) := by decide +kernel
theorem dX5_joint_146 : decode cX5_joint 146 = .ok (.getfield 33, 3) := by decide +kernel
theorem dX5_joint_149 : decode cX5_joint 149 = .ok (.iload 8, 2) := by decide +kernel
theorem dX5_joint_151 : decode cX5_joint 151 = .ok (.if_icmp .ge 13, 3) := by decide +kernel
theorem dX5_joint_154 : decode cX5_joint 154 = .ok (.new 63, 3) := by decide +kernel
theorem dX5_joint_157 : decode cX5_joint 157 = .ok (.dup, 1) := by decide +kernel
theorem dX5_joint_158 : decode cX5_joint 158 = .ok (.ldc 214, 2) := by decide +kernel
theorem dX5_joint_160 : decode cX5_joint 160 = .ok (.invokespecial 67, 3) := by decide +kernel
theorem dX5_joint_163 : decode cX5_joint 163 = .ok (.athrow, 1) := by decide +kernel
theorem dX5_joint_164 : decode cX5_joint 164 = .ok (.aload_n 0, 1) := by decide +kernel
theorem dX5_joint_165 : decode cX5_joint 165 = .ok (.dup, 1) := by decide +kernel
theorem dX5_joint_166 : decode cX5_joint 166 = .ok (.getfield 33, 3) := by decide +kernel
theorem dX5_joint_169 : decode cX5_joint 169 = .ok (.iload 8, 2) := by decide +kernel
theorem dX5_joint_171 : decode cX5_joint 171 = .ok (.isub, 1) := by decide +kernel
theorem dX5_joint_172 : decode cX5_joint 172 = .ok (.putfield 33, 3) := by decide +kernel
theorem dX5_joint_175 : decode cX5_joint 175 = .ok (.aload_n 0, 1) := by decide +kernel
theorem dX5_joint_176 : decode cX5_joint 176 = .ok (.getfield 19, 3) := by decide +kernel
theorem dX5_joint_179 : decode cX5_joint 179 = .ok (.invokevirtual 84, 3) := by decide +kernel
theorem dX5_joint_182 : decode cX5_joint 182 = .ok (.istore 9, 2) := by decide +kernel
theorem dX5_joint_184 : decode cX5_joint 184 = .ok (.aload_n 0, 1) := by decide +kernel
theorem dX5_joint_185 : decode cX5_joint 185 = .ok (.getfield 19, 3) := by decide +kernel
theorem dX5_joint_188 : decode cX5_joint 188 = .ok (.new 216, 3) := by decide +kernel
theorem dX5_joint_191 : decode cX5_joint 191 = .ok (.dup, 1) := by decide +kernel
theorem dX5_joint_192 : decode cX5_joint 192 = .ok (.iload_n 1, 1) := by decide +kernel
theorem dX5_joint_193 : decode cX5_joint 193 = .ok (.aload 6, 2) := by decide +kernel
theorem dX5_joint_195 : decode cX5_joint 195 = .ok (.aload 7, 2) := by decide +kernel
theorem dX5_joint_197 : decode cX5_joint 197 = .ok (.iload 4, 2) := by decide +kernel
theorem dX5_joint_199 : decode cX5_joint 199 = .ok (.iload 5, 2) := by decide +kernel
theorem dX5_joint_201 : decode cX5_joint 201 = .ok (.invokespecial 218, 3) := by decide +kernel
theorem dX5_joint_204 : decode cX5_joint 204 = .ok (.invokevirtual 99, 3) := by decide +kernel
theorem dX5_joint_207 : decode cX5_joint 207 = .ok (.pop, 1) := by decide +kernel
theorem dX5_joint_208 : decode cX5_joint 208 = .ok (.iload 9, 2) := by decide +kernel
theorem dX5_joint_210 : decode cX5_joint 210 = .ok (.ireturn, 1) := by decide +kernel
theorem dX5_glue_0 : decode cX5_glue 0 = .ok (.iload_n 1, 1) := by decide +kernel
theorem dX5_glue_1 : decode cX5_glue 1 = .ok (.ifCond .le 16, 3) := by decide +kernel
theorem dX5_glue_4 : decode cX5_glue 4 = .ok (.iload_n 1, 1) := by decide +kernel
theorem dX5_glue_5 : decode cX5_glue 5 = .ok (.iconst 1, 1) := by decide +kernel
theorem dX5_glue_6 : decode cX5_glue 6 = .ok (.aload_n 0, 1) := by decide +kernel
theorem dX5_glue_7 : decode cX5_glue 7 = .ok (.getfield 19, 3) := by decide +kernel
theorem dX5_glue_10 : decode cX5_glue 10 = .ok (.invokevirtual 84, 3) := by decide +kernel
theorem dX5_glue_13 : decode cX5_glue 13 = .ok (.ishl, 1) := by decide +kernel
theorem dX5_glue_14 : decode cX5_glue 14 = .ok (.if_icmp .lt 13, 3) := by decide +kernel
theorem dX5_glue_17 : decode cX5_glue 17 = .ok (.new 56, 3) := by decide +kernel
theorem dX5_glue_20 : decode cX5_glue 20 = .ok (.dup, 1) := by decide +kernel
theorem dX5_glue_21 : decode cX5_glue 21 = .ok (.ldc 240, 2) := by decide +kernel
theorem dX5_glue_23 : decode cX5_glue 23 = .ok (.invokespecial 60, 3) := by decide +kernel
theorem dX5_glue_26 : decode cX5_glue 26 = .ok (.athrow, 1) := by decide +kernel
theorem dX5_glue_27 : decode cX5_glue 27 = .ok (.aload_n 0, 1) := by decide +kernel
theorem dX5_glue_28 : decode cX5_glue 28 = .ok (.iload_n 1, 1) := by decide +kernel
theorem dX5_glue_29 : decode cX5_glue 29 = .ok (.invokevirtual 242, 3) := by decide +kernel
theorem dX5_glue_32 : decode cX5_glue 32 = .ok (.ifCond .ne 13, 3) := by decide +kernel
theorem dX5_glue_35 : decode cX5_glue 35 = .ok (.new 63, 3) := by decide +kernel
theorem dX5_glue_38 : decode cX5_glue 38 = .ok (.dup, 1) := by decide +kernel
theorem dX5_glue_39 : decode cX5_glue 39 = .ok (.ldc 246, 2) := by decide +kernel
theorem dX5_glue_41 : decode cX5_glue 41 = .ok (.invokespecial 67, 3) := by decide +kernel
theorem dX5_glue_44 : decode cX5_glue 44 = .ok (.athrow, 1) := by decide +kernel
theorem dX5_glue_45 : decode cX5_glue 45 = .ok (.aload_n 0, 1) := by decide +kernel
theorem dX5_glue_46 : decode cX5_glue 46 = .ok (.iload_n 1, 1) := by decide +kernel
theorem dX5_glue_47 : decode cX5_glue 47 = .ok (.invokevirtual 248, 3) := by decide +kernel
theorem dX5_glue_50 : decode cX5_glue 50 = .ok (.istore_n 2, 1) := by decide +kernel
theorem dX5_glue_51 : decode cX5_glue 51 = .ok (.iload_n 2, 1) := by decide +kernel
theorem dX5_glue_52 : decode cX5_glue 52 = .ok (.bipush 30, 2) := by decide +kernel
theorem dX5_glue_54 : decode cX5_glue 54 = .ok (.if_icmp .gt 15, 3) := by decide +kernel
theorem dX5_glue_57 : decode cX5_glue 57 = .ok (.aload_n 0, 1) := by decide +kernel
theorem dX5_glue_58 : decode cX5_glue 58 = .ok (.iload_n 1, 1) := by decide +kernel
theorem dX5_glue_59 : decode cX5_glue 59 = .ok (.invokevirtual 251, 3) := by decide +kernel
theorem dX5_glue_62 : decode cX5_glue 62 = .ok (.aload_n 0, 1) := by decide +kernel
theorem dX5_glue_63 : decode cX5_glue 63 = .ok (.getfield 36, 3) := by decide +kernel
theorem dX5_glue_66 : decode cX5_glue 66 = .ok (.if_icmp .le 13, 3) := by decide +kernel
theorem dX5_glue_69 : decode cX5_glue 69 = .ok (.new 63, 3) := by decide +kernel
theorem dX5_glue_72 : decode cX5_glue 72 = .ok (.dup, 1) := by decide +kernel
theorem dX5_glue_73 : decode cX5_glue 73 = .ok (.ldc 254, 2) := by decide +kernel
theorem dX5_glue_75 : decode cX5_glue 75 = .ok (.invokespecial 67, 3) := by decide +kernel
theorem dX5_glue_78 : decode cX5_glue 78 = .ok (.athrow, 1) := by decide +kernel
theorem dX5_glue_79 : decode cX5_glue 79 = .ok (.iconst 0, 1) := by decide +kernel
theorem dX5_glue_80 : decode cX5_glue 80 = .ok (.istore_n 3, 1) := by decide +kernel
theorem dX5_glue_81 : decode cX5_glue 81 = .ok (.iload_n 3, 1) := by decide +kernel
theorem dX5_glue_82 : decode cX5_glue 82 = .ok (.aload_n 0, 1) := by decide +kernel
theorem dX5_glue_83 : decode cX5_glue 83 = .ok (.getfield 19, 3) := by decide +kernel
theorem dX5_glue_86 : decode cX5_glue 86 = .ok (.invokevirtual 84, 3) := by decide +kernel
theorem dX5_glue_89 : decode cX5_glue 89 = .ok (.if_icmp .ge 31, 3) := by decide +kernel
theorem dX5_glue_92 : decode cX5_glue 92 = .ok (.iload_n 1, 1) := by decide +kernel
theorem dX5_glue_93 : decode cX5_glue 93 = .ok (.iload_n 3, 1) := by decide +kernel
theorem dX5_glue_94 : decode cX5_glue 94 = .ok (.invokestatic 256, 3) := by decide +kernel
theorem dX5_glue_97 : decode cX5_glue 97 = .ok (.ifCond .eq 17, 3) := by decide +kernel
theorem dX5_glue_100 : decode cX5_glue 100 = .ok (.aload_n 0, 1) := by decide +kernel
theorem dX5_glue_101 : decode cX5_glue 101 = .ok (.getfield 19, 3) := by decide +kernel
theorem dX5_glue_104 : decode cX5_glue 104 = .ok (.iload_n 3, 1) := by decide +kernel
theorem dX5_glue_105 : decode cX5_glue 105 = .ok (.invokevirtual 259, 3) := by decide +kernel
theorem dX5_glue_108 : decode cX5_glue 108 = .ok (.checkcast 216, 3) := by decide +kernel
theorem dX5_glue_111 : decode cX5_glue 111 = .ok (.invokevirtual 263, 3) := by decide +kernel
theorem dX5_glue_114 : decode cX5_glue 114 = .ok (.iinc 3 1, 3) := by decide +kernel
theorem dX5_glue_117 : decode cX5_glue 117 = .ok (.goto (-36), 3) := by decide +kernel
theorem dX5_glue_120 : decode cX5_glue 120 = .ok (.iload_n 2, 1) := by decide +kernel
theorem dX5_glue_121 : decode cX5_glue 121 = .ok (.ireturn, 1) := by decide +kernel
theorem dX5_repair_0 : decode cX5_repair 0 = .ok (.aload_n 0, 1) := by decide +kernel
theorem dX5_repair_1 : decode cX5_repair 1 = .ok (.iload_n 1, 1) := by decide +kernel
theorem dX5_repair_2 : decode cX5_repair 2 = .ok (.invokevirtual 221, 3) := by decide +kernel
theorem dX5_repair_5 : decode cX5_repair 5 = .ok (.astore_n 2, 1) := by decide +kernel
theorem dX5_repair_6 : decode cX5_repair 6 = .ok (.aload_n 2, 1) := by decide +kernel
theorem dX5_repair_7 : decode cX5_repair 7 = .ok (.ifnonnull 13, 3) := by decide +kernel
theorem dX5_repair_10 : decode cX5_repair 10 = .ok (.new 45, 3) := by decide +kernel
theorem dX5_repair_13 : decode cX5_repair 13 = .ok (.dup, 1) := by decide +kernel
theorem dX5_repair_14 : decode cX5_repair 14 = .ok (.ldc 225, 2) := by decide +kernel
theorem dX5_repair_16 : decode cX5_repair 16 = .ok (.invokespecial 49, 3) := by decide +kernel
theorem dX5_repair_19 : decode cX5_repair 19 = .ok (.athrow, 1) := by decide +kernel
theorem dX5_repair_20 : decode cX5_repair 20 = .ok (.aload_n 2, 1) := by decide +kernel
theorem dX5_repair_21 : decode cX5_repair 21 = .ok (.getfield 266, 3) := by decide +kernel
theorem dX5_repair_24 : decode cX5_repair 24 = .ok (.ifCond .ne 14, 3) := by decide +kernel
theorem dX5_repair_27 : decode cX5_repair 27 = .ok (.new 63, 3) := by decide +kernel
theorem dX5_repair_30 : decode cX5_repair 30 = .ok (.dup, 1) := by decide +kernel
theorem dX5_repair_31 : decode cX5_repair 31 = .ok (.ldc_w 269, 3) := by decide +kernel
theorem dX5_repair_34 : decode cX5_repair 34 = .ok (.invokespecial 67, 3) := by decide +kernel
theorem dX5_repair_37 : decode cX5_repair 37 = .ok (.athrow, 1) := by decide +kernel
theorem dX5_repair_38 : decode cX5_repair 38 = .ok (.aload_n 2, 1) := by decide +kernel
theorem dX5_repair_39 : decode cX5_repair 39 = .ok (.getfield 271, 3) := by decide +kernel
theorem dX5_repair_42 : decode cX5_repair 42 = .ok (.iconst 2, 1) := by decide +kernel
theorem dX5_repair_43 : decode cX5_repair 43 = .ok (.if_icmp .ne 19, 3) := by decide +kernel
theorem dX5_repair_46 : decode cX5_repair 46 = .ok (.aload_n 2, 1) := by decide +kernel
theorem dX5_repair_47 : decode cX5_repair 47 = .ok (.aload_n 2, 1) := by decide +kernel
theorem dX5_repair_48 : decode cX5_repair 48 = .ok (.getfield 274, 3) := by decide +kernel
theorem dX5_repair_51 : decode cX5_repair 51 = .ok (.invokevirtual 278, 3) := by decide +kernel
theorem dX5_repair_54 : decode cX5_repair 54 = .ok (.aload_n 2, 1) := by decide +kernel
theorem dX5_repair_55 : decode cX5_repair 55 = .ok (.getfield 279, 3) := by decide +kernel
theorem dX5_repair_58 : decode cX5_repair 58 = .ok (.iadd, 1) := by decide +kernel
theorem dX5_repair_59 : decode cX5_repair 59 = .ok (.putfield 282, 3) := by decide +kernel
theorem dX5_repair_62 : decode cX5_repair 62 = .ok (.aload_n 2, 1) := by decide +kernel
theorem dX5_repair_63 : decode cX5_repair 63 = .ok (.invokevirtual 263, 3) := by decide +kernel
theorem dX5_repair_66 : decode cX5_repair 66 = .ok (.aload_n 2, 1) := by decide +kernel
theorem dX5_repair_67 : decode cX5_repair 67 = .ok (.getfield 282, 3) := by decide +kernel
theorem dX5_repair_70 : decode cX5_repair 70 = .ok (.ireturn, 1) := by decide +kernel
theorem dX5_through_0 : decode cX5_through 0 = .ok (.iload_n 1, 1) := by decide +kernel
theorem dX5_through_1 : decode cX5_through 1 = .ok (.iconst 1, 1) := by decide +kernel
theorem dX5_through_2 : decode cX5_through 2 = .ok (.bipush 24, 2) := by decide +kernel
theorem dX5_through_4 : decode cX5_through 4 = .ok (.invokestatic 52, 3) := by decide +kernel
theorem dX5_through_7 : decode cX5_through 7 = .ok (.ifCond .ne 13, 3) := by decide +kernel
theorem dX5_through_10 : decode cX5_through 10 = .ok (.new 56, 3) := by decide +kernel
theorem dX5_through_13 : decode cX5_through 13 = .ok (.dup, 1) := by decide +kernel
theorem dX5_through_14 : decode cX5_through 14 = .ok (.ldc 61, 2) := by decide +kernel
theorem dX5_through_16 : decode cX5_through 16 = .ok (.invokespecial 60, 3) := by decide +kernel
theorem dX5_through_19 : decode cX5_through 19 = .ok (.athrow, 1) := by decide +kernel
theorem dX5_through_20 : decode cX5_through 20 = .ok (.iconst 0, 1) := by decide +kernel
theorem dX5_through_21 : decode cX5_through 21 = .ok (.istore_n 2, 1) := by decide +kernel
theorem dX5_through_22 : decode cX5_through 22 = .ok (.iconst 0, 1) := by decide +kernel
theorem dX5_through_23 : decode cX5_through 23 = .ok (.istore_n 3, 1) := by decide +kernel
theorem dX5_through_24 : decode cX5_through 24 = .ok (.iload_n 3, 1) := by decide +kernel
theorem dX5_through_25 : decode cX5_through 25 = .ok (.aload_n 0, 1) := by decide +kernel
theorem dX5_through_26 : decode cX5_through 26 = .ok (.getfield 19, 3) := by decide +kernel
theorem dX5_through_29 : decode cX5_through 29 = .ok (.invokevirtual 84, 3) := by decide +kernel
theorem dX5_through_32 : decode cX5_through 32 = .ok (.if_icmp .ge 47, 3) := by decide +kernel
theorem dX5_through_35 : decode cX5_through 35 = .ok (.aload_n 0, 1) := by decide +kernel
theorem dX5_through_36 : decode cX5_through 36 = .ok (.getfield 19, 3) := by decide +kernel
theorem dX5_through_39 : decode cX5_through 39 = .ok (.iload_n 3, 1) := by decide +kernel
theorem dX5_through_40 : decode cX5_through 40 = .ok (.invokevirtual 259, 3) := by decide +kernel
theorem dX5_through_43 : decode cX5_through 43 = .ok (.checkcast 216, 3) := by decide +kernel
theorem dX5_through_46 : decode cX5_through 46 = .ok (.astore 4, 2) := by decide +kernel
theorem dX5_through_48 : decode cX5_through 48 = .ok (.aload 4, 2) := by decide +kernel
theorem dX5_through_50 : decode cX5_through 50 = .ok (.invokevirtual 284, 3) := by decide +kernel
theorem dX5_through_53 : decode cX5_through 53 = .ok (.ifCond .eq 20, 3) := by decide +kernel
theorem dX5_through_56 : decode cX5_through 56 = .ok (.aload_n 0, 1) := by decide +kernel
theorem dX5_through_57 : decode cX5_through 57 = .ok (.aload 4, 2) := by decide +kernel
theorem dX5_through_59 : decode cX5_through 59 = .ok (.iload_n 1, 1) := by decide +kernel
theorem dX5_through_60 : decode cX5_through 60 = .ok (.invokevirtual 288, 3) := by decide +kernel
theorem dX5_through_63 : decode cX5_through 63 = .ok (.iconst (-1), 1) := by decide +kernel
theorem dX5_through_64 : decode cX5_through 64 = .ok (.if_icmp .eq 9, 3) := by decide +kernel
theorem dX5_through_67 : decode cX5_through 67 = .ok (.iload_n 2, 1) := by decide +kernel
theorem dX5_through_68 : decode cX5_through 68 = .ok (.iconst 1, 1) := by decide +kernel
theorem dX5_through_69 : decode cX5_through 69 = .ok (.iload_n 3, 1) := by decide +kernel
theorem dX5_through_70 : decode cX5_through 70 = .ok (.ishl, 1) := by decide +kernel
theorem dX5_through_71 : decode cX5_through 71 = .ok (.ior, 1) := by decide +kernel
theorem dX5_through_72 : decode cX5_through 72 = .ok (.istore_n 2, 1) := by decide +kernel
theorem dX5_through_73 : decode cX5_through 73 = .ok (.iinc 3 1, 3) := by decide +kernel
theorem dX5_through_76 : decode cX5_through 76 = .ok (.goto (-52), 3) := by decide +kernel
theorem dX5_through_79 : decode cX5_through 79 = .ok (.iload_n 2, 1) := by decide +kernel
theorem dX5_through_80 : decode cX5_through 80 = .ok (.ireturn, 1) := by decide +kernel
theorem dX5_breaksIn_0 : decode cX5_breaksIn 0 = .ok (.aload_n 0, 1) := by decide +kernel
theorem dX5_breaksIn_1 : decode cX5_breaksIn 1 = .ok (.iload_n 1, 1) := by decide +kernel
theorem dX5_breaksIn_2 : decode cX5_breaksIn 2 = .ok (.invokevirtual 221, 3) := by decide +kernel
theorem dX5_breaksIn_5 : decode cX5_breaksIn 5 = .ok (.astore_n 3, 1) := by decide +kernel
theorem dX5_breaksIn_6 : decode cX5_breaksIn 6 = .ok (.aload_n 3, 1) := by decide +kernel
theorem dX5_breaksIn_7 : decode cX5_breaksIn 7 = .ok (.ifnonnull 13, 3) := by decide +kernel
theorem dX5_breaksIn_10 : decode cX5_breaksIn 10 = .ok (.new 45, 3) := by decide +kernel
theorem dX5_breaksIn_13 : decode cX5_breaksIn 13 = .ok (.dup, 1) := by decide +kernel
theorem dX5_breaksIn_14 : decode cX5_breaksIn 14 = .ok (.ldc 225, 2) := by decide +kernel
theorem dX5_breaksIn_16 : decode cX5_breaksIn 16 = .ok (.invokespecial 49, 3) := by decide +kernel
theorem dX5_breaksIn_19 : decode cX5_breaksIn 19 = .ok (.athrow, 1) := by decide +kernel
theorem dX5_breaksIn_20 : decode cX5_breaksIn 20 = .ok (.iload_n 2, 1) := by decide +kernel
theorem dX5_breaksIn_21 : decode cX5_breaksIn 21 = .ok (.iconst 1, 1) := by decide +kernel
theorem dX5_breaksIn_22 : decode cX5_breaksIn 22 = .ok (.bipush 24, 2) := by decide +kernel
theorem dX5_breaksIn_24 : decode cX5_breaksIn 24 = .ok (.invokestatic 52, 3) := by decide +kernel
theorem dX5_breaksIn_27 : decode cX5_breaksIn 27 = .ok (.ifCond .ne 13, 3) := by decide +kernel
theorem dX5_breaksIn_30 : decode cX5_breaksIn 30 = .ok (.new 56, 3) := by decide +kernel
theorem dX5_breaksIn_33 : decode cX5_breaksIn 33 = .ok (.dup, 1) := by decide +kernel
theorem dX5_breaksIn_34 : decode cX5_breaksIn 34 = .ok (.ldc 61, 2) := by decide +kernel
theorem dX5_breaksIn_36 : decode cX5_breaksIn 36 = .ok (.invokespecial 60, 3) := by decide +kernel
theorem dX5_breaksIn_39 : decode cX5_breaksIn 39 = .ok (.athrow, 1) := by decide +kernel
theorem dX5_breaksIn_40 : decode cX5_breaksIn 40 = .ok (.aload_n 3, 1) := by decide +kernel
theorem dX5_breaksIn_41 : decode cX5_breaksIn 41 = .ok (.invokevirtual 284, 3) := by decide +kernel
theorem dX5_breaksIn_44 : decode cX5_breaksIn 44 = .ok (.ifCond .ne 14, 3) := by decide +kernel
theorem dX5_breaksIn_47 : decode cX5_breaksIn 47 = .ok (.new 63, 3) := by decide +kernel
theorem dX5_breaksIn_50 : decode cX5_breaksIn 50 = .ok (.dup, 1) := by decide +kernel
theorem dX5_breaksIn_51 : decode cX5_breaksIn 51 = .ok (.ldc_w 292, 3) := by decide +kernel
theorem dX5_breaksIn_54 : decode cX5_breaksIn 54 = .ok (.invokespecial 67, 3) := by decide +kernel
theorem dX5_breaksIn_57 : decode cX5_breaksIn 57 = .ok (.athrow, 1) := by decide +kernel
theorem dX5_breaksIn_58 : decode cX5_breaksIn 58 = .ok (.aload_n 0, 1) := by decide +kernel
theorem dX5_breaksIn_59 : decode cX5_breaksIn 59 = .ok (.aload_n 3, 1) := by decide +kernel
theorem dX5_breaksIn_60 : decode cX5_breaksIn 60 = .ok (.iload_n 2, 1) := by decide +kernel
theorem dX5_breaksIn_61 : decode cX5_breaksIn 61 = .ok (.invokevirtual 288, 3) := by decide +kernel
theorem dX5_breaksIn_64 : decode cX5_breaksIn 64 = .ok (.ireturn, 1) := by decide +kernel
theorem dX5_month_0 : decode cX5_month 0 = .ok (.aload_n 0, 1) := by decide +kernel
theorem dX5_month_1 : decode cX5_month 1 = .ok (.getfield 26, 3) := by decide +kernel
theorem dX5_month_4 : decode cX5_month 4 = .ok (.ireturn, 1) := by decide +kernel
theorem dX5_ofBoard_0 : decode cX5_ofBoard 0 = .ok (.aload_n 0, 1) := by decide +kernel
theorem dX5_ofBoard_1 : decode cX5_ofBoard 1 = .ok (.iload_n 1, 1) := by decide +kernel
theorem dX5_ofBoard_2 : decode cX5_ofBoard 2 = .ok (.invokevirtual 103, 3) := by decide +kernel
theorem dX5_ofBoard_5 : decode cX5_ofBoard 5 = .ok (.astore_n 3, 1) := by decide +kernel
theorem dX5_ofBoard_6 : decode cX5_ofBoard 6 = .ok (.aload_n 3, 1) := by decide +kernel
theorem dX5_ofBoard_7 : decode cX5_ofBoard 7 = .ok (.ifnonnull 13, 3) := by decide +kernel
theorem dX5_ofBoard_10 : decode cX5_ofBoard 10 = .ok (.new 45, 3) := by decide +kernel
theorem dX5_ofBoard_13 : decode cX5_ofBoard 13 = .ok (.dup, 1) := by decide +kernel
theorem dX5_ofBoard_14 : decode cX5_ofBoard 14 = .ok (.ldc 107, 2) := by decide +kernel
theorem dX5_ofBoard_16 : decode cX5_ofBoard 16 = .ok (.invokespecial 49, 3) := by decide +kernel
theorem dX5_ofBoard_19 : decode cX5_ofBoard 19 = .ok (.athrow, 1) := by decide +kernel
theorem dX5_ofBoard_20 : decode cX5_ofBoard 20 = .ok (.iload_n 2, 1) := by decide +kernel
theorem dX5_ofBoard_21 : decode cX5_ofBoard 21 = .ok (.tableswitch 45 0 2 #[27, 32, 37], 27) := by decide +kernel
theorem dX5_ofBoard_48 : decode cX5_ofBoard 48 = .ok (.aload_n 3, 1) := by decide +kernel
theorem dX5_ofBoard_49 : decode cX5_ofBoard 49 = .ok (.getfield 294, 3) := by decide +kernel
theorem dX5_ofBoard_52 : decode cX5_ofBoard 52 = .ok (.ireturn, 1) := by decide +kernel
theorem dX5_ofBoard_53 : decode cX5_ofBoard 53 = .ok (.aload_n 3, 1) := by decide +kernel
theorem dX5_ofBoard_54 : decode cX5_ofBoard 54 = .ok (.invokevirtual 141, 3) := by decide +kernel
theorem dX5_ofBoard_57 : decode cX5_ofBoard 57 = .ok (.ireturn, 1) := by decide +kernel
theorem dX5_ofBoard_58 : decode cX5_ofBoard 58 = .ok (.aload_n 3, 1) := by decide +kernel
theorem dX5_ofBoard_59 : decode cX5_ofBoard 59 = .ok (.getfield 114, 3) := by decide +kernel
theorem dX5_ofBoard_62 : decode cX5_ofBoard 62 = .ok (.invokevirtual 84, 3) := by decide +kernel
theorem dX5_ofBoard_65 : decode cX5_ofBoard 65 = .ok (.ireturn, 1) := by decide +kernel
theorem dX5_ofBoard_66 : decode cX5_ofBoard 66 = .ok (.new 56, 3) := by decide +kernel
theorem dX5_ofBoard_69 : decode cX5_ofBoard 69 = .ok (.dup, 1) := by decide +kernel
theorem dX5_ofBoard_70 : decode cX5_ofBoard 70 = .ok (.ldc_w 297, 3) := by decide +kernel
theorem dX5_ofBoard_73 : decode cX5_ofBoard 73 = .ok (.invokespecial 60, 3) := by decide +kernel
theorem dX5_ofBoard_76 : decode cX5_ofBoard 76 = .ok (.athrow, 1) := by decide +kernel
theorem dX5_ofPart_0 : decode cX5_ofPart 0 = .ok (.aload_n 0, 1) := by decide +kernel
theorem dX5_ofPart_1 : decode cX5_ofPart 1 = .ok (.iload_n 1, 1) := by decide +kernel
theorem dX5_ofPart_2 : decode cX5_ofPart 2 = .ok (.invokevirtual 172, 3) := by decide +kernel
theorem dX5_ofPart_5 : decode cX5_ofPart 5 = .ok (.astore_n 3, 1) := by decide +kernel
theorem dX5_ofPart_6 : decode cX5_ofPart 6 = .ok (.aload_n 3, 1) := by decide +kernel
theorem dX5_ofPart_7 : decode cX5_ofPart 7 = .ok (.ifnonnull 13, 3) := by decide +kernel
theorem dX5_ofPart_10 : decode cX5_ofPart 10 = .ok (.new 45, 3) := by decide +kernel
theorem dX5_ofPart_13 : decode cX5_ofPart 13 = .ok (.dup, 1) := by decide +kernel
theorem dX5_ofPart_14 : decode cX5_ofPart 14 = .ok (.ldc 176, 2) := by decide +kernel
theorem dX5_ofPart_16 : decode cX5_ofPart 16 = .ok (.invokespecial 49, 3) := by decide +kernel
theorem dX5_ofPart_19 : decode cX5_ofPart 19 = .ok (.athrow, 1) := by decide +kernel
theorem dX5_ofPart_20 : decode cX5_ofPart 20 = .ok (.iload_n 2, 1) := by decide +kernel
theorem dX5_ofPart_21 : decode cX5_ofPart 21 = .ok (.tableswitch 63 0 4 #[35, 43, 48, 53, 58], 35) := by decide +kernel
theorem dX5_ofPart_56 : decode cX5_ofPart 56 = .ok (.aload_n 3, 1) := by decide +kernel
theorem dX5_ofPart_57 : decode cX5_ofPart 57 = .ok (.getfield 185, 3) := by decide +kernel
theorem dX5_ofPart_60 : decode cX5_ofPart 60 = .ok (.getfield 299, 3) := by decide +kernel
theorem dX5_ofPart_63 : decode cX5_ofPart 63 = .ok (.ireturn, 1) := by decide +kernel
theorem dX5_ofPart_64 : decode cX5_ofPart 64 = .ok (.aload_n 3, 1) := by decide +kernel
theorem dX5_ofPart_65 : decode cX5_ofPart 65 = .ok (.invokevirtual 278, 3) := by decide +kernel
theorem dX5_ofPart_68 : decode cX5_ofPart 68 = .ok (.ireturn, 1) := by decide +kernel
theorem dX5_ofPart_69 : decode cX5_ofPart 69 = .ok (.aload_n 3, 1) := by decide +kernel
theorem dX5_ofPart_70 : decode cX5_ofPart 70 = .ok (.getfield 302, 3) := by decide +kernel
theorem dX5_ofPart_73 : decode cX5_ofPart 73 = .ok (.ireturn, 1) := by decide +kernel
theorem dX5_ofPart_74 : decode cX5_ofPart 74 = .ok (.aload_n 3, 1) := by decide +kernel
theorem dX5_ofPart_75 : decode cX5_ofPart 75 = .ok (.getfield 178, 3) := by decide +kernel
theorem dX5_ofPart_78 : decode cX5_ofPart 78 = .ok (.ireturn, 1) := by decide +kernel
theorem dX5_ofPart_79 : decode cX5_ofPart 79 = .ok (.aload_n 3, 1) := by decide +kernel
theorem dX5_ofPart_80 : decode cX5_ofPart 80 = .ok (.getfield 303, 3) := by decide +kernel
theorem dX5_ofPart_83 : decode cX5_ofPart 83 = .ok (.ireturn, 1) := by decide +kernel
theorem dX5_ofPart_84 : decode cX5_ofPart 84 = .ok (.new 56, 3) := by decide +kernel
theorem dX5_ofPart_87 : decode cX5_ofPart 87 = .ok (.dup, 1) := by decide +kernel
theorem dX5_ofPart_88 : decode cX5_ofPart 88 = .ok (.ldc_w 297, 3) := by decide +kernel
theorem dX5_ofPart_91 : decode cX5_ofPart 91 = .ok (.invokespecial 60, 3) := by decide +kernel
theorem dX5_ofPart_94 : decode cX5_ofPart 94 = .ok (.athrow, 1) := by decide +kernel
theorem dX5_ofJoint_0 : decode cX5_ofJoint 0 = .ok (.aload_n 0, 1) := by decide +kernel
theorem dX5_ofJoint_1 : decode cX5_ofJoint 1 = .ok (.iload_n 1, 1) := by decide +kernel
theorem dX5_ofJoint_2 : decode cX5_ofJoint 2 = .ok (.invokevirtual 221, 3) := by decide +kernel
theorem dX5_ofJoint_5 : decode cX5_ofJoint 5 = .ok (.astore_n 3, 1) := by decide +kernel
theorem dX5_ofJoint_6 : decode cX5_ofJoint 6 = .ok (.aload_n 3, 1) := by decide +kernel
theorem dX5_ofJoint_7 : decode cX5_ofJoint 7 = .ok (.ifnonnull 13, 3) := by decide +kernel
theorem dX5_ofJoint_10 : decode cX5_ofJoint 10 = .ok (.new 45, 3) := by decide +kernel
theorem dX5_ofJoint_13 : decode cX5_ofJoint 13 = .ok (.dup, 1) := by decide +kernel
theorem dX5_ofJoint_14 : decode cX5_ofJoint 14 = .ok (.ldc 225, 2) := by decide +kernel
theorem dX5_ofJoint_16 : decode cX5_ofJoint 16 = .ok (.invokespecial 49, 3) := by decide +kernel
theorem dX5_ofJoint_19 : decode cX5_ofJoint 19 = .ok (.athrow, 1) := by decide +kernel
theorem dX5_ofJoint_20 : decode cX5_ofJoint 20 = .ok (.iload_n 2, 1) := by decide +kernel
theorem dX5_ofJoint_21 : decode cX5_ofJoint 21 = .ok (.tableswitch 66 0 4 #[35, 40, 45, 50, 58], 35) := by decide +kernel
theorem dX5_ofJoint_56 : decode cX5_ofJoint 56 = .ok (.aload_n 3, 1) := by decide +kernel
theorem dX5_ofJoint_57 : decode cX5_ofJoint 57 = .ok (.invokevirtual 306, 3) := by decide +kernel
theorem dX5_ofJoint_60 : decode cX5_ofJoint 60 = .ok (.ireturn, 1) := by decide +kernel
theorem dX5_ofJoint_61 : decode cX5_ofJoint 61 = .ok (.aload_n 3, 1) := by decide +kernel
theorem dX5_ofJoint_62 : decode cX5_ofJoint 62 = .ok (.getfield 282, 3) := by decide +kernel
theorem dX5_ofJoint_65 : decode cX5_ofJoint 65 = .ok (.ireturn, 1) := by decide +kernel
theorem dX5_ofJoint_66 : decode cX5_ofJoint 66 = .ok (.aload_n 3, 1) := by decide +kernel
theorem dX5_ofJoint_67 : decode cX5_ofJoint 67 = .ok (.getfield 235, 3) := by decide +kernel
theorem dX5_ofJoint_70 : decode cX5_ofJoint 70 = .ok (.ireturn, 1) := by decide +kernel
theorem dX5_ofJoint_71 : decode cX5_ofJoint 71 = .ok (.aload_n 3, 1) := by decide +kernel
theorem dX5_ofJoint_72 : decode cX5_ofJoint 72 = .ok (.getfield 274, 3) := by decide +kernel
theorem dX5_ofJoint_75 : decode cX5_ofJoint 75 = .ok (.getfield 309, 3) := by decide +kernel
theorem dX5_ofJoint_78 : decode cX5_ofJoint 78 = .ok (.ireturn, 1) := by decide +kernel
theorem dX5_ofJoint_79 : decode cX5_ofJoint 79 = .ok (.aload_n 3, 1) := by decide +kernel
theorem dX5_ofJoint_80 : decode cX5_ofJoint 80 = .ok (.getfield 310, 3) := by decide +kernel
theorem dX5_ofJoint_83 : decode cX5_ofJoint 83 = .ok (.getfield 309, 3) := by decide +kernel
theorem dX5_ofJoint_86 : decode cX5_ofJoint 86 = .ok (.ireturn, 1) := by decide +kernel
theorem dX5_ofJoint_87 : decode cX5_ofJoint 87 = .ok (.new 56, 3) := by decide +kernel
theorem dX5_ofJoint_90 : decode cX5_ofJoint 90 = .ok (.dup, 1) := by decide +kernel
theorem dX5_ofJoint_91 : decode cX5_ofJoint 91 = .ok (.ldc_w 297, 3) := by decide +kernel
theorem dX5_ofJoint_94 : decode cX5_ofJoint 94 = .ok (.invokespecial 60, 3) := by decide +kernel
theorem dX5_ofJoint_97 : decode cX5_ofJoint 97 = .ok (.athrow, 1) := by decide +kernel
theorem dX5_isWithin_0 : decode cX5_isWithin 0 = .ok (.iload_n 0, 1) := by decide +kernel
theorem dX5_isWithin_1 : decode cX5_isWithin 1 = .ok (.iload_n 1, 1) := by decide +kernel
theorem dX5_isWithin_2 : decode cX5_isWithin 2 = .ok (.if_icmp .lt 12, 3) := by decide +kernel
theorem dX5_isWithin_5 : decode cX5_isWithin 5 = .ok (.iload_n 0, 1) := by decide +kernel
theorem dX5_isWithin_6 : decode cX5_isWithin 6 = .ok (.iload_n 2, 1) := by decide +kernel
theorem dX5_isWithin_7 : decode cX5_isWithin 7 = .ok (.if_icmp .gt 7, 3) := by decide +kernel
theorem dX5_isWithin_10 : decode cX5_isWithin 10 = .ok (.iconst 1, 1) := by decide +kernel
theorem dX5_isWithin_11 : decode cX5_isWithin 11 = .ok (.goto 4, 3) := by decide +kernel
theorem dX5_isWithin_14 : decode cX5_isWithin 14 = .ok (.iconst 0, 1) := by decide +kernel
theorem dX5_isWithin_15 : decode cX5_isWithin 15 = .ok (.ireturn, 1) := by decide +kernel
theorem dX5_has_0 : decode cX5_has 0 = .ok (.iload_n 0, 1) := by decide +kernel
theorem dX5_has_1 : decode cX5_has 1 = .ok (.iconst 1, 1) := by decide +kernel
theorem dX5_has_2 : decode cX5_has 2 = .ok (.iload_n 1, 1) := by decide +kernel
theorem dX5_has_3 : decode cX5_has 3 = .ok (.ishl, 1) := by decide +kernel
theorem dX5_has_4 : decode cX5_has 4 = .ok (.iand, 1) := by decide +kernel
theorem dX5_has_5 : decode cX5_has 5 = .ok (.ifCond .eq 7, 3) := by decide +kernel
theorem dX5_has_8 : decode cX5_has 8 = .ok (.iconst 1, 1) := by decide +kernel
theorem dX5_has_9 : decode cX5_has 9 = .ok (.goto 4, 3) := by decide +kernel
theorem dX5_has_12 : decode cX5_has 12 = .ok (.iconst 0, 1) := by decide +kernel
theorem dX5_has_13 : decode cX5_has 13 = .ok (.ireturn, 1) := by decide +kernel
theorem dX5_findBoard_0 : decode cX5_findBoard 0 = .ok (.iload_n 1, 1) := by decide +kernel
theorem dX5_findBoard_1 : decode cX5_findBoard 1 = .ok (.ifCond .lt 28, 3) := by decide +kernel
theorem dX5_findBoard_4 : decode cX5_findBoard 4 = .ok (.iload_n 1, 1) := by decide +kernel
theorem dX5_findBoard_5 : decode cX5_findBoard 5 = .ok (.aload_n 0, 1) := by decide +kernel
theorem dX5_findBoard_6 : decode cX5_findBoard 6 = .ok (.getfield 10, 3) := by decide +kernel
theorem dX5_findBoard_9 : decode cX5_findBoard 9 = .ok (.invokevirtual 84, 3) := by decide +kernel
theorem dX5_findBoard_12 : decode cX5_findBoard 12 = .ok (.if_icmp .ge 17, 3) := by decide +kernel
theorem dX5_findBoard_15 : decode cX5_findBoard 15 = .ok (.aload_n 0, 1) := by decide +kernel
theorem dX5_findBoard_16 : decode cX5_findBoard 16 = .ok (.getfield 10, 3) := by decide +kernel
theorem dX5_findBoard_19 : decode cX5_findBoard 19 = .ok (.iload_n 1, 1) := by decide +kernel
theorem dX5_findBoard_20 : decode cX5_findBoard 20 = .ok (.invokevirtual 259, 3) := by decide +kernel
theorem dX5_findBoard_23 : decode cX5_findBoard 23 = .ok (.checkcast 94, 3) := by decide +kernel
theorem dX5_findBoard_26 : decode cX5_findBoard 26 = .ok (.goto 4, 3) := by decide +kernel
theorem dX5_findBoard_29 : decode cX5_findBoard 29 = .ok (.aconst_null, 1) := by decide +kernel
theorem dX5_findBoard_30 : decode cX5_findBoard 30 = .ok (.areturn, 1) := by decide +kernel
theorem dX5_findPart_0 : decode cX5_findPart 0 = .ok (.iload_n 1, 1) := by decide +kernel
theorem dX5_findPart_1 : decode cX5_findPart 1 = .ok (.ifCond .lt 28, 3) := by decide +kernel
theorem dX5_findPart_4 : decode cX5_findPart 4 = .ok (.iload_n 1, 1) := by decide +kernel
theorem dX5_findPart_5 : decode cX5_findPart 5 = .ok (.aload_n 0, 1) := by decide +kernel
theorem dX5_findPart_6 : decode cX5_findPart 6 = .ok (.getfield 16, 3) := by decide +kernel
theorem dX5_findPart_9 : decode cX5_findPart 9 = .ok (.invokevirtual 84, 3) := by decide +kernel
theorem dX5_findPart_12 : decode cX5_findPart 12 = .ok (.if_icmp .ge 17, 3) := by decide +kernel
theorem dX5_findPart_15 : decode cX5_findPart 15 = .ok (.aload_n 0, 1) := by decide +kernel
theorem dX5_findPart_16 : decode cX5_findPart 16 = .ok (.getfield 16, 3) := by decide +kernel
theorem dX5_findPart_19 : decode cX5_findPart 19 = .ok (.iload_n 1, 1) := by decide +kernel
theorem dX5_findPart_20 : decode cX5_findPart 20 = .ok (.invokevirtual 259, 3) := by decide +kernel
theorem dX5_findPart_23 : decode cX5_findPart 23 = .ok (.checkcast 156, 3) := by decide +kernel
theorem dX5_findPart_26 : decode cX5_findPart 26 = .ok (.goto 4, 3) := by decide +kernel
theorem dX5_findPart_29 : decode cX5_findPart 29 = .ok (.aconst_null, 1) := by decide +kernel
theorem dX5_findPart_30 : decode cX5_findPart 30 = .ok (.areturn, 1) := by decide +kernel
theorem dX5_findJoint_0 : decode cX5_findJoint 0 = .ok (.iload_n 1, 1) := by decide +kernel
theorem dX5_findJoint_1 : decode cX5_findJoint 1 = .ok (.ifCond .lt 28, 3) := by decide +kernel
theorem dX5_findJoint_4 : decode cX5_findJoint 4 = .ok (.iload_n 1, 1) := by decide +kernel
theorem dX5_findJoint_5 : decode cX5_findJoint 5 = .ok (.aload_n 0, 1) := by decide +kernel
theorem dX5_findJoint_6 : decode cX5_findJoint 6 = .ok (.getfield 19, 3) := by decide +kernel
theorem dX5_findJoint_9 : decode cX5_findJoint 9 = .ok (.invokevirtual 84, 3) := by decide +kernel
theorem dX5_findJoint_12 : decode cX5_findJoint 12 = .ok (.if_icmp .ge 17, 3) := by decide +kernel
theorem dX5_findJoint_15 : decode cX5_findJoint 15 = .ok (.aload_n 0, 1) := by decide +kernel
theorem dX5_findJoint_16 : decode cX5_findJoint 16 = .ok (.getfield 19, 3) := by decide +kernel
theorem dX5_findJoint_19 : decode cX5_findJoint 19 = .ok (.iload_n 1, 1) := by decide +kernel
theorem dX5_findJoint_20 : decode cX5_findJoint 20 = .ok (.invokevirtual 259, 3) := by decide +kernel
theorem dX5_findJoint_23 : decode cX5_findJoint 23 = .ok (.checkcast 216, 3) := by decide +kernel
theorem dX5_findJoint_26 : decode cX5_findJoint 26 = .ok (.goto 4, 3) := by decide +kernel
theorem dX5_findJoint_29 : decode cX5_findJoint 29 = .ok (.aconst_null, 1) := by decide +kernel
theorem dX5_findJoint_30 : decode cX5_findJoint 30 = .ok (.areturn, 1) := by decide +kernel
theorem dX5_airIn_0 : decode cX5_airIn 0 = .ok (.aload_n 0, 1) := by decide +kernel
theorem dX5_airIn_1 : decode cX5_airIn 1 = .ok (.getfield 22, 3) := by decide +kernel
theorem dX5_airIn_4 : decode cX5_airIn 4 = .ok (.iload_n 1, 1) := by decide +kernel
theorem dX5_airIn_5 : decode cX5_airIn 5 = .ok (.bipush 12, 2) := by decide +kernel
theorem dX5_airIn_7 : decode cX5_airIn 7 = .ok (.invokestatic 313, 3) := by decide +kernel
theorem dX5_airIn_10 : decode cX5_airIn 10 = .ok (.iaload, 1) := by decide +kernel
theorem dX5_airIn_11 : decode cX5_airIn 11 = .ok (.ireturn, 1) := by decide +kernel
theorem dX5_moistenAll_0 : decode cX5_moistenAll 0 = .ok (.iconst 0, 1) := by decide +kernel
theorem dX5_moistenAll_1 : decode cX5_moistenAll 1 = .ok (.istore_n 2, 1) := by decide +kernel
theorem dX5_moistenAll_2 : decode cX5_moistenAll 2 = .ok (.iload_n 2, 1) := by decide +kernel
theorem dX5_moistenAll_3 : decode cX5_moistenAll 3 = .ok (.aload_n 0, 1) := by decide +kernel
theorem dX5_moistenAll_4 : decode cX5_moistenAll 4 = .ok (.getfield 10, 3) := by decide +kernel
theorem dX5_moistenAll_7 : decode cX5_moistenAll 7 = .ok (.invokevirtual 84, 3) := by decide +kernel
theorem dX5_moistenAll_10 : decode cX5_moistenAll 10 = .ok (.if_icmp .ge 24, 3) := by decide +kernel
theorem dX5_moistenAll_13 : decode cX5_moistenAll 13 = .ok (.aload_n 0, 1) := by decide +kernel
theorem dX5_moistenAll_14 : decode cX5_moistenAll 14 = .ok (.getfield 10, 3) := by decide +kernel
theorem dX5_moistenAll_17 : decode cX5_moistenAll 17 = .ok (.iload_n 2, 1) := by decide +kernel
theorem dX5_moistenAll_18 : decode cX5_moistenAll 18 = .ok (.invokevirtual 259, 3) := by decide +kernel
theorem dX5_moistenAll_21 : decode cX5_moistenAll 21 = .ok (.checkcast 94, 3) := by decide +kernel
theorem dX5_moistenAll_24 : decode cX5_moistenAll 24 = .ok (.iload_n 1, 1) := by decide +kernel
theorem dX5_moistenAll_25 : decode cX5_moistenAll 25 = .ok (.invokevirtual 317, 3) := by decide +kernel
theorem dX5_moistenAll_28 : decode cX5_moistenAll 28 = .ok (.iinc 2 1, 3) := by decide +kernel
theorem dX5_moistenAll_31 : decode cX5_moistenAll 31 = .ok (.goto (-29), 3) := by decide +kernel
theorem dX5_moistenAll_34 : decode cX5_moistenAll 34 = .ok (.iconst 0, 1) := by decide +kernel
theorem dX5_moistenAll_35 : decode cX5_moistenAll 35 = .ok (.istore_n 2, 1) := by decide +kernel
theorem dX5_moistenAll_36 : decode cX5_moistenAll 36 = .ok (.iload_n 2, 1) := by decide +kernel
theorem dX5_moistenAll_37 : decode cX5_moistenAll 37 = .ok (.aload_n 0, 1) := by decide +kernel
theorem dX5_moistenAll_38 : decode cX5_moistenAll 38 = .ok (.getfield 16, 3) := by decide +kernel
theorem dX5_moistenAll_41 : decode cX5_moistenAll 41 = .ok (.invokevirtual 84, 3) := by decide +kernel
theorem dX5_moistenAll_44 : decode cX5_moistenAll 44 = .ok (.if_icmp .ge 24, 3) := by decide +kernel
theorem dX5_moistenAll_47 : decode cX5_moistenAll 47 = .ok (.aload_n 0, 1) := by decide +kernel
theorem dX5_moistenAll_48 : decode cX5_moistenAll 48 = .ok (.getfield 16, 3) := by decide +kernel
theorem dX5_moistenAll_51 : decode cX5_moistenAll 51 = .ok (.iload_n 2, 1) := by decide +kernel
theorem dX5_moistenAll_52 : decode cX5_moistenAll 52 = .ok (.invokevirtual 259, 3) := by decide +kernel
theorem dX5_moistenAll_55 : decode cX5_moistenAll 55 = .ok (.checkcast 156, 3) := by decide +kernel
theorem dX5_moistenAll_58 : decode cX5_moistenAll 58 = .ok (.iload_n 1, 1) := by decide +kernel
theorem dX5_moistenAll_59 : decode cX5_moistenAll 59 = .ok (.invokevirtual 320, 3) := by decide +kernel
theorem dX5_moistenAll_62 : decode cX5_moistenAll 62 = .ok (.iinc 2 1, 3) := by decide +kernel
theorem dX5_moistenAll_65 : decode cX5_moistenAll 65 = .ok (.goto (-29), 3) := by decide +kernel
theorem dX5_moistenAll_68 : decode cX5_moistenAll 68 = .ok (.return_, 1) := by decide +kernel
theorem dX5_breakJoints_0 : decode cX5_breakJoints 0 = .ok (.iconst 0, 1) := by decide +kernel
theorem dX5_breakJoints_1 : decode cX5_breakJoints 1 = .ok (.istore_n 1, 1) := by decide +kernel
theorem dX5_breakJoints_2 : decode cX5_breakJoints 2 = .ok (.iconst 0, 1) := by decide +kernel
theorem dX5_breakJoints_3 : decode cX5_breakJoints 3 = .ok (.istore_n 2, 1) := by decide +kernel
theorem dX5_breakJoints_4 : decode cX5_breakJoints 4 = .ok (.iload_n 2, 1) := by decide +kernel
theorem dX5_breakJoints_5 : decode cX5_breakJoints 5 = .ok (.aload_n 0, 1) := by decide +kernel
theorem dX5_breakJoints_6 : decode cX5_breakJoints 6 = .ok (.getfield 19, 3) := by decide +kernel
theorem dX5_breakJoints_9 : decode cX5_breakJoints 9 = .ok (.invokevirtual 84, 3) := by decide +kernel
theorem dX5_breakJoints_12 : decode cX5_breakJoints 12 = .ok (.if_icmp .ge 50, 3) := by decide +kernel
theorem dX5_breakJoints_15 : decode cX5_breakJoints 15 = .ok (.aload_n 0, 1) := by decide +kernel
theorem dX5_breakJoints_16 : decode cX5_breakJoints 16 = .ok (.getfield 19, 3) := by decide +kernel
theorem dX5_breakJoints_19 : decode cX5_breakJoints 19 = .ok (.iload_n 2, 1) := by decide +kernel
theorem dX5_breakJoints_20 : decode cX5_breakJoints 20 = .ok (.invokevirtual 259, 3) := by decide +kernel
theorem dX5_breakJoints_23 : decode cX5_breakJoints 23 = .ok (.checkcast 216, 3) := by decide +kernel
theorem dX5_breakJoints_26 : decode cX5_breakJoints 26 = .ok (.astore_n 3, 1) := by decide +kernel
theorem dX5_breakJoints_27 : decode cX5_breakJoints 27 = .ok (.aload_n 3, 1) := by decide +kernel
theorem dX5_breakJoints_28 : decode cX5_breakJoints 28 = .ok (.invokevirtual 284, 3) := by decide +kernel
theorem dX5_breakJoints_31 : decode cX5_breakJoints 31 = .ok (.ifCond .eq 25, 3) := by decide +kernel
theorem dX5_breakJoints_34 : decode cX5_breakJoints 34 = .ok (.aload_n 3, 1) := by decide +kernel
theorem dX5_breakJoints_35 : decode cX5_breakJoints 35 = .ok (.aload_n 3, 1) := by decide +kernel
theorem dX5_breakJoints_36 : decode cX5_breakJoints 36 = .ok (.getfield 274, 3) := by decide +kernel
theorem dX5_breakJoints_39 : decode cX5_breakJoints 39 = .ok (.getfield 302, 3) := by decide +kernel
theorem dX5_breakJoints_42 : decode cX5_breakJoints 42 = .ok (.invokevirtual 321, 3) := by decide +kernel
theorem dX5_breakJoints_45 : decode cX5_breakJoints 45 = .ok (.ifCond .eq 11, 3) := by decide +kernel
theorem dX5_breakJoints_48 : decode cX5_breakJoints 48 = .ok (.aload_n 3, 1) := by decide +kernel
theorem dX5_breakJoints_49 : decode cX5_breakJoints 49 = .ok (.iconst 1, 1) := by decide +kernel
theorem dX5_breakJoints_50 : decode cX5_breakJoints 50 = .ok (.putfield 266, 3) := by decide +kernel
theorem dX5_breakJoints_53 : decode cX5_breakJoints 53 = .ok (.iinc 1 1, 3) := by decide +kernel
theorem dX5_breakJoints_56 : decode cX5_breakJoints 56 = .ok (.iinc 2 1, 3) := by decide +kernel
theorem dX5_breakJoints_59 : decode cX5_breakJoints 59 = .ok (.goto (-55), 3) := by decide +kernel
theorem dX5_breakJoints_62 : decode cX5_breakJoints 62 = .ok (.iload_n 1, 1) := by decide +kernel
theorem dX5_breakJoints_63 : decode cX5_breakJoints 63 = .ok (.ireturn, 1) := by decide +kernel
theorem dX5_monthOfBreak_0 : decode cX5_monthOfBreak 0 = .ok (.aload_n 1, 1) := by decide +kernel
theorem dX5_monthOfBreak_1 : decode cX5_monthOfBreak 1 = .ok (.getfield 274, 3) := by decide +kernel
theorem dX5_monthOfBreak_4 : decode cX5_monthOfBreak 4 = .ok (.getfield 302, 3) := by decide +kernel
theorem dX5_monthOfBreak_7 : decode cX5_monthOfBreak 7 = .ok (.istore_n 3, 1) := by decide +kernel
theorem dX5_monthOfBreak_8 : decode cX5_monthOfBreak 8 = .ok (.iconst 0, 1) := by decide +kernel
theorem dX5_monthOfBreak_9 : decode cX5_monthOfBreak 9 = .ok (.istore 4, 2) := by decide +kernel
theorem dX5_monthOfBreak_11 : decode cX5_monthOfBreak 11 = .ok (.iload 4, 2) := by decide +kernel
theorem dX5_monthOfBreak_13 : decode cX5_monthOfBreak 13 = .ok (.iload_n 2, 1) := by decide +kernel
theorem dX5_monthOfBreak_14 : decode cX5_monthOfBreak 14 = .ok (.if_icmp .ge 42, 3) := by decide +kernel
theorem dX5_monthOfBreak_17 : decode cX5_monthOfBreak 17 = .ok (.aload_n 1, 1) := by decide +kernel
theorem dX5_monthOfBreak_18 : decode cX5_monthOfBreak 18 = .ok (.getfield 274, 3) := by decide +kernel
theorem dX5_monthOfBreak_21 : decode cX5_monthOfBreak 21 = .ok (.iload_n 3, 1) := by decide +kernel
theorem dX5_monthOfBreak_22 : decode cX5_monthOfBreak 22 = .ok (.aload_n 0, 1) := by decide +kernel
theorem dX5_monthOfBreak_23 : decode cX5_monthOfBreak 23 = .ok (.aload_n 0, 1) := by decide +kernel
theorem dX5_monthOfBreak_24 : decode cX5_monthOfBreak 24 = .ok (.getfield 26, 3) := by decide +kernel
theorem dX5_monthOfBreak_27 : decode cX5_monthOfBreak 27 = .ok (.iload 4, 2) := by decide +kernel
theorem dX5_monthOfBreak_29 : decode cX5_monthOfBreak 29 = .ok (.iadd, 1) := by decide +kernel
theorem dX5_monthOfBreak_30 : decode cX5_monthOfBreak 30 = .ok (.invokevirtual 68, 3) := by decide +kernel
theorem dX5_monthOfBreak_33 : decode cX5_monthOfBreak 33 = .ok (.invokevirtual 324, 3) := by decide +kernel
theorem dX5_monthOfBreak_36 : decode cX5_monthOfBreak 36 = .ok (.istore_n 3, 1) := by decide +kernel
theorem dX5_monthOfBreak_37 : decode cX5_monthOfBreak 37 = .ok (.aload_n 1, 1) := by decide +kernel
theorem dX5_monthOfBreak_38 : decode cX5_monthOfBreak 38 = .ok (.iload_n 3, 1) := by decide +kernel
theorem dX5_monthOfBreak_39 : decode cX5_monthOfBreak 39 = .ok (.invokevirtual 321, 3) := by decide +kernel
theorem dX5_monthOfBreak_42 : decode cX5_monthOfBreak 42 = .ok (.ifCond .eq 8, 3) := by decide +kernel
theorem dX5_monthOfBreak_45 : decode cX5_monthOfBreak 45 = .ok (.iload 4, 2) := by decide +kernel
theorem dX5_monthOfBreak_47 : decode cX5_monthOfBreak 47 = .ok (.iconst 1, 1) := by decide +kernel
theorem dX5_monthOfBreak_48 : decode cX5_monthOfBreak 48 = .ok (.iadd, 1) := by decide +kernel
theorem dX5_monthOfBreak_49 : decode cX5_monthOfBreak 49 = .ok (.ireturn, 1) := by decide +kernel
theorem dX5_monthOfBreak_50 : decode cX5_monthOfBreak 50 = .ok (.iinc 4 1, 3) := by decide +kernel
theorem dX5_monthOfBreak_53 : decode cX5_monthOfBreak 53 = .ok (.goto (-42), 3) := by decide +kernel
theorem dX5_monthOfBreak_56 : decode cX5_monthOfBreak 56 = .ok (.iconst (-1), 1) := by decide +kernel
theorem dX5_monthOfBreak_57 : decode cX5_monthOfBreak 57 = .ok (.ireturn, 1) := by decide +kernel
theorem dX5_movingOf_0 : decode cX5_movingOf 0 = .ok (.iload_n 0, 1) := by decide +kernel
theorem dX5_movingOf_1 : decode cX5_movingOf 1 = .ok (.tableswitch 33 0 2 #[27, 29, 31], 27) := by decide +kernel
theorem dX5_movingOf_28 : decode cX5_movingOf 28 = .ok (.iconst 2, 1) := by decide +kernel
theorem dX5_movingOf_29 : decode cX5_movingOf 29 = .ok (.ireturn, 1) := by decide +kernel
theorem dX5_movingOf_30 : decode cX5_movingOf 30 = .ok (.iconst 3, 1) := by decide +kernel
theorem dX5_movingOf_31 : decode cX5_movingOf 31 = .ok (.ireturn, 1) := by decide +kernel
theorem dX5_movingOf_32 : decode cX5_movingOf 32 = .ok (.iconst 4, 1) := by decide +kernel
theorem dX5_movingOf_33 : decode cX5_movingOf 33 = .ok (.ireturn, 1) := by decide +kernel
theorem dX5_movingOf_34 : decode cX5_movingOf 34 = .ok (.iconst 5, 1) := by decide +kernel
theorem dX5_movingOf_35 : decode cX5_movingOf 35 = .ok (.ireturn, 1) := by decide +kernel
theorem dX5_hardnessOf_0 : decode cX5_hardnessOf 0 = .ok (.iload_n 0, 1) := by decide +kernel
theorem dX5_hardnessOf_1 : decode cX5_hardnessOf 1 = .ok (.tableswitch 34 0 2 #[27, 29, 31], 27) := by decide +kernel
theorem dX5_hardnessOf_28 : decode cX5_hardnessOf 28 = .ok (.iconst 2, 1) := by decide +kernel
theorem dX5_hardnessOf_29 : decode cX5_hardnessOf 29 = .ok (.ireturn, 1) := by decide +kernel
theorem dX5_hardnessOf_30 : decode cX5_hardnessOf 30 = .ok (.iconst 4, 1) := by decide +kernel
theorem dX5_hardnessOf_31 : decode cX5_hardnessOf 31 = .ok (.ireturn, 1) := by decide +kernel
theorem dX5_hardnessOf_32 : decode cX5_hardnessOf 32 = .ok (.bipush 7, 2) := by decide +kernel
theorem dX5_hardnessOf_34 : decode cX5_hardnessOf 34 = .ok (.ireturn, 1) := by decide +kernel
theorem dX5_hardnessOf_35 : decode cX5_hardnessOf 35 = .ok (.bipush 9, 2) := by decide +kernel
theorem dX5_hardnessOf_37 : decode cX5_hardnessOf 37 = .ok (.ireturn, 1) := by decide +kernel
theorem dX5_suitsFlitch_0 : decode cX5_suitsFlitch 0 = .ok (.iconst 0, 1) := by decide +kernel
theorem dX5_suitsFlitch_1 : decode cX5_suitsFlitch 1 = .ok (.istore 4, 2) := by decide +kernel
theorem dX5_suitsFlitch_3 : decode cX5_suitsFlitch 3 = .ok (.iload 4, 2) := by decide +kernel
theorem dX5_suitsFlitch_5 : decode cX5_suitsFlitch 5 = .ok (.aload_n 0, 1) := by decide +kernel
theorem dX5_suitsFlitch_6 : decode cX5_suitsFlitch 6 = .ok (.getfield 10, 3) := by decide +kernel
theorem dX5_suitsFlitch_9 : decode cX5_suitsFlitch 9 = .ok (.invokevirtual 84, 3) := by decide +kernel
theorem dX5_suitsFlitch_12 : decode cX5_suitsFlitch 12 = .ok (.if_icmp .ge 52, 3) := by decide +kernel
theorem dX5_suitsFlitch_15 : decode cX5_suitsFlitch 15 = .ok (.aload_n 0, 1) := by decide +kernel
theorem dX5_suitsFlitch_16 : decode cX5_suitsFlitch 16 = .ok (.getfield 10, 3) := by decide +kernel
theorem dX5_suitsFlitch_19 : decode cX5_suitsFlitch 19 = .ok (.iload 4, 2) := by decide +kernel
theorem dX5_suitsFlitch_21 : decode cX5_suitsFlitch 21 = .ok (.invokevirtual 259, 3) := by decide +kernel
theorem dX5_suitsFlitch_24 : decode cX5_suitsFlitch 24 = .ok (.checkcast 94, 3) := by decide +kernel
theorem dX5_suitsFlitch_27 : decode cX5_suitsFlitch 27 = .ok (.astore 5, 2) := by decide +kernel
theorem dX5_suitsFlitch_29 : decode cX5_suitsFlitch 29 = .ok (.aload 5, 2) := by decide +kernel
theorem dX5_suitsFlitch_31 : decode cX5_suitsFlitch 31 = .ok (.getfield 189, 3) := by decide +kernel
theorem dX5_suitsFlitch_34 : decode cX5_suitsFlitch 34 = .ok (.iload_n 2, 1) := by decide +kernel
theorem dX5_suitsFlitch_35 : decode cX5_suitsFlitch 35 = .ok (.if_icmp .ne 23, 3) := by decide +kernel
theorem dX5_suitsFlitch_38 : decode cX5_suitsFlitch 38 = .ok (.aload 5, 2) := by decide +kernel
theorem dX5_suitsFlitch_40 : decode cX5_suitsFlitch 40 = .ok (.getfield 192, 3) := by decide +kernel
theorem dX5_suitsFlitch_43 : decode cX5_suitsFlitch 43 = .ok (.iload_n 3, 1) := by decide +kernel
theorem dX5_suitsFlitch_44 : decode cX5_suitsFlitch 44 = .ok (.if_icmp .eq 12, 3) := by decide +kernel
theorem dX5_suitsFlitch_47 : decode cX5_suitsFlitch 47 = .ok (.aload 5, 2) := by decide +kernel
theorem dX5_suitsFlitch_49 : decode cX5_suitsFlitch 49 = .ok (.getfield 148, 3) := by decide +kernel
theorem dX5_suitsFlitch_52 : decode cX5_suitsFlitch 52 = .ok (.iload_n 1, 1) := by decide +kernel
theorem dX5_suitsFlitch_53 : decode cX5_suitsFlitch 53 = .ok (.if_icmp .eq 5, 3) := by decide +kernel
theorem dX5_suitsFlitch_56 : decode cX5_suitsFlitch 56 = .ok (.iconst 0, 1) := by decide +kernel
theorem dX5_suitsFlitch_57 : decode cX5_suitsFlitch 57 = .ok (.ireturn, 1) := by decide +kernel
theorem dX5_suitsFlitch_58 : decode cX5_suitsFlitch 58 = .ok (.iinc 4 1, 3) := by decide +kernel
theorem dX5_suitsFlitch_61 : decode cX5_suitsFlitch 61 = .ok (.goto (-58), 3) := by decide +kernel
theorem dX5_suitsFlitch_64 : decode cX5_suitsFlitch 64 = .ok (.iconst 1, 1) := by decide +kernel
theorem dX5_suitsFlitch_65 : decode cX5_suitsFlitch 65 = .ok (.ireturn, 1) := by decide +kernel
theorem dX5_touchesAny_0 : decode cX5_touchesAny 0 = .ok (.iconst 0, 1) := by decide +kernel
theorem dX5_touchesAny_1 : decode cX5_touchesAny 1 = .ok (.istore_n 3, 1) := by decide +kernel
theorem dX5_touchesAny_2 : decode cX5_touchesAny 2 = .ok (.iload_n 3, 1) := by decide +kernel
theorem dX5_touchesAny_3 : decode cX5_touchesAny 3 = .ok (.aload_n 0, 1) := by decide +kernel
theorem dX5_touchesAny_4 : decode cX5_touchesAny 4 = .ok (.invokevirtual 84, 3) := by decide +kernel
theorem dX5_touchesAny_7 : decode cX5_touchesAny 7 = .ok (.if_icmp .ge 27, 3) := by decide +kernel
theorem dX5_touchesAny_10 : decode cX5_touchesAny 10 = .ok (.aload_n 0, 1) := by decide +kernel
theorem dX5_touchesAny_11 : decode cX5_touchesAny 11 = .ok (.iload_n 3, 1) := by decide +kernel
theorem dX5_touchesAny_12 : decode cX5_touchesAny 12 = .ok (.invokevirtual 259, 3) := by decide +kernel
theorem dX5_touchesAny_15 : decode cX5_touchesAny 15 = .ok (.checkcast 128, 3) := by decide +kernel
theorem dX5_touchesAny_18 : decode cX5_touchesAny 18 = .ok (.iload_n 1, 1) := by decide +kernel
theorem dX5_touchesAny_19 : decode cX5_touchesAny 19 = .ok (.iload_n 2, 1) := by decide +kernel
theorem dX5_touchesAny_20 : decode cX5_touchesAny 20 = .ok (.invokevirtual 327, 3) := by decide +kernel
theorem dX5_touchesAny_23 : decode cX5_touchesAny 23 = .ok (.ifCond .eq 5, 3) := by decide +kernel
theorem dX5_touchesAny_26 : decode cX5_touchesAny 26 = .ok (.iconst 1, 1) := by decide +kernel
theorem dX5_touchesAny_27 : decode cX5_touchesAny 27 = .ok (.ireturn, 1) := by decide +kernel
theorem dX5_touchesAny_28 : decode cX5_touchesAny 28 = .ok (.iinc 3 1, 3) := by decide +kernel
theorem dX5_touchesAny_31 : decode cX5_touchesAny 31 = .ok (.goto (-29), 3) := by decide +kernel
theorem dX5_touchesAny_34 : decode cX5_touchesAny 34 = .ok (.iconst 0, 1) := by decide +kernel
theorem dX5_touchesAny_35 : decode cX5_touchesAny 35 = .ok (.ireturn, 1) := by decide +kernel
theorem dX5_isTongue_0 : decode cX5_isTongue 0 = .ok (.iload_n 0, 1) := by decide +kernel
theorem dX5_isTongue_1 : decode cX5_isTongue 1 = .ok (.iconst 2, 1) := by decide +kernel
theorem dX5_isTongue_2 : decode cX5_isTongue 2 = .ok (.if_icmp .ne 14, 3) := by decide +kernel
theorem dX5_isTongue_5 : decode cX5_isTongue 5 = .ok (.iload_n 1, 1) := by decide +kernel
theorem dX5_isTongue_6 : decode cX5_isTongue 6 = .ok (.iconst 1, 1) := by decide +kernel
theorem dX5_isTongue_7 : decode cX5_isTongue 7 = .ok (.sipush 200, 3) := by decide +kernel
theorem dX5_isTongue_10 : decode cX5_isTongue 10 = .ok (.invokestatic 52, 3) := by decide +kernel
theorem dX5_isTongue_13 : decode cX5_isTongue 13 = .ok (.goto 12, 3) := by decide +kernel
theorem dX5_isTongue_16 : decode cX5_isTongue 16 = .ok (.iload_n 1, 1) := by decide +kernel
theorem dX5_isTongue_17 : decode cX5_isTongue 17 = .ok (.ifCond .ne 7, 3) := by decide +kernel
theorem dX5_isTongue_20 : decode cX5_isTongue 20 = .ok (.iconst 1, 1) := by decide +kernel
theorem dX5_isTongue_21 : decode cX5_isTongue 21 = .ok (.goto 4, 3) := by decide +kernel
theorem dX5_isTongue_24 : decode cX5_isTongue 24 = .ok (.iconst 0, 1) := by decide +kernel
theorem dX5_isTongue_25 : decode cX5_isTongue 25 = .ok (.ireturn, 1) := by decide +kernel
theorem dX5_fits_0 : decode cX5_fits 0 = .ok (.iload_n 0, 1) := by decide +kernel
theorem dX5_fits_1 : decode cX5_fits 1 = .ok (.lookupswitch 55 #[(0, 27), (1, 41)], 27) := by decide +kernel
theorem dX5_fits_28 : decode cX5_fits 28 = .ok (.iload_n 2, 1) := by decide +kernel
theorem dX5_fits_29 : decode cX5_fits 29 = .ok (.aload_n 1, 1) := by decide +kernel
theorem dX5_fits_30 : decode cX5_fits 30 = .ok (.getfield 333, 3) := by decide +kernel
theorem dX5_fits_33 : decode cX5_fits 33 = .ok (.if_icmp .gt 7, 3) := by decide +kernel
theorem dX5_fits_36 : decode cX5_fits 36 = .ok (.iconst 1, 1) := by decide +kernel
theorem dX5_fits_37 : decode cX5_fits 37 = .ok (.goto 4, 3) := by decide +kernel
theorem dX5_fits_40 : decode cX5_fits 40 = .ok (.iconst 0, 1) := by decide +kernel
theorem dX5_fits_41 : decode cX5_fits 41 = .ok (.ireturn, 1) := by decide +kernel
theorem dX5_fits_42 : decode cX5_fits 42 = .ok (.iload_n 2, 1) := by decide +kernel
theorem dX5_fits_43 : decode cX5_fits 43 = .ok (.aload_n 1, 1) := by decide +kernel
theorem dX5_fits_44 : decode cX5_fits 44 = .ok (.invokevirtual 278, 3) := by decide +kernel
theorem dX5_fits_47 : decode cX5_fits 47 = .ok (.if_icmp .gt 7, 3) := by decide +kernel
theorem dX5_fits_50 : decode cX5_fits 50 = .ok (.iconst 1, 1) := by decide +kernel
theorem dX5_fits_51 : decode cX5_fits 51 = .ok (.goto 4, 3) := by decide +kernel
theorem dX5_fits_54 : decode cX5_fits 54 = .ok (.iconst 0, 1) := by decide +kernel
theorem dX5_fits_55 : decode cX5_fits 55 = .ok (.ireturn, 1) := by decide +kernel
theorem dX5_fits_56 : decode cX5_fits 56 = .ok (.aload_n 1, 1) := by decide +kernel
theorem dX5_fits_57 : decode cX5_fits 57 = .ok (.invokevirtual 278, 3) := by decide +kernel
theorem dX5_fits_60 : decode cX5_fits 60 = .ok (.iload_n 2, 1) := by decide +kernel
theorem dX5_fits_61 : decode cX5_fits 61 = .ok (.iconst 2, 1) := by decide +kernel
theorem dX5_fits_62 : decode cX5_fits 62 = .ok (.iload_n 3, 1) := by decide +kernel
theorem dX5_fits_63 : decode cX5_fits 63 = .ok (.imul, 1) := by decide +kernel
theorem dX5_fits_64 : decode cX5_fits 64 = .ok (.isub, 1) := by decide +kernel
theorem dX5_fits_65 : decode cX5_fits 65 = .ok (.iload_n 2, 1) := by decide +kernel
theorem dX5_fits_66 : decode cX5_fits 66 = .ok (.invokestatic 52, 3) := by decide +kernel
theorem dX5_fits_69 : decode cX5_fits 69 = .ok (.ireturn, 1) := by decide +kernel
theorem dX5_canBeGlued_0 : decode cX5_canBeGlued 0 = .ok (.iload_n 1, 1) := by decide +kernel
theorem dX5_canBeGlued_1 : decode cX5_canBeGlued 1 = .ok (.istore_n 2, 1) := by decide +kernel
theorem dX5_canBeGlued_2 : decode cX5_canBeGlued 2 = .ok (.iconst 0, 1) := by decide +kernel
theorem dX5_canBeGlued_3 : decode cX5_canBeGlued 3 = .ok (.istore_n 3, 1) := by decide +kernel
theorem dX5_canBeGlued_4 : decode cX5_canBeGlued 4 = .ok (.iload_n 3, 1) := by decide +kernel
theorem dX5_canBeGlued_5 : decode cX5_canBeGlued 5 = .ok (.aload_n 0, 1) := by decide +kernel
theorem dX5_canBeGlued_6 : decode cX5_canBeGlued 6 = .ok (.getfield 19, 3) := by decide +kernel
theorem dX5_canBeGlued_9 : decode cX5_canBeGlued 9 = .ok (.invokevirtual 84, 3) := by decide +kernel
theorem dX5_canBeGlued_12 : decode cX5_canBeGlued 12 = .ok (.if_icmp .ge 32, 3) := by decide +kernel
theorem dX5_canBeGlued_15 : decode cX5_canBeGlued 15 = .ok (.aload_n 0, 1) := by decide +kernel
theorem dX5_canBeGlued_16 : decode cX5_canBeGlued 16 = .ok (.getfield 19, 3) := by decide +kernel
theorem dX5_canBeGlued_19 : decode cX5_canBeGlued 19 = .ok (.iload_n 3, 1) := by decide +kernel
theorem dX5_canBeGlued_20 : decode cX5_canBeGlued 20 = .ok (.invokevirtual 259, 3) := by decide +kernel
theorem dX5_canBeGlued_23 : decode cX5_canBeGlued 23 = .ok (.checkcast 216, 3) := by decide +kernel
theorem dX5_canBeGlued_26 : decode cX5_canBeGlued 26 = .ok (.getfield 229, 3) := by decide +kernel
theorem dX5_canBeGlued_29 : decode cX5_canBeGlued 29 = .ok (.ifCond .eq 9, 3) := by decide +kernel
theorem dX5_canBeGlued_32 : decode cX5_canBeGlued 32 = .ok (.iload_n 2, 1) := by decide +kernel
theorem dX5_canBeGlued_33 : decode cX5_canBeGlued 33 = .ok (.iconst 1, 1) := by decide +kernel
theorem dX5_canBeGlued_34 : decode cX5_canBeGlued 34 = .ok (.iload_n 3, 1) := by decide +kernel
theorem dX5_canBeGlued_35 : decode cX5_canBeGlued 35 = .ok (.ishl, 1) := by decide +kernel
theorem dX5_canBeGlued_36 : decode cX5_canBeGlued 36 = .ok (.ior, 1) := by decide +kernel
theorem dX5_canBeGlued_37 : decode cX5_canBeGlued 37 = .ok (.istore_n 2, 1) := by decide +kernel
theorem dX5_canBeGlued_38 : decode cX5_canBeGlued 38 = .ok (.iinc 3 1, 3) := by decide +kernel
theorem dX5_canBeGlued_41 : decode cX5_canBeGlued 41 = .ok (.goto (-37), 3) := by decide +kernel
theorem dX5_canBeGlued_44 : decode cX5_canBeGlued 44 = .ok (.iconst 0, 1) := by decide +kernel
theorem dX5_canBeGlued_45 : decode cX5_canBeGlued 45 = .ok (.istore_n 3, 1) := by decide +kernel
theorem dX5_canBeGlued_46 : decode cX5_canBeGlued 46 = .ok (.iload_n 3, 1) := by decide +kernel
theorem dX5_canBeGlued_47 : decode cX5_canBeGlued 47 = .ok (.aload_n 0, 1) := by decide +kernel
theorem dX5_canBeGlued_48 : decode cX5_canBeGlued 48 = .ok (.getfield 19, 3) := by decide +kernel
theorem dX5_canBeGlued_51 : decode cX5_canBeGlued 51 = .ok (.invokevirtual 84, 3) := by decide +kernel
theorem dX5_canBeGlued_54 : decode cX5_canBeGlued 54 = .ok (.if_icmp .ge 52, 3) := by decide +kernel
theorem dX5_canBeGlued_57 : decode cX5_canBeGlued 57 = .ok (.aload_n 0, 1) := by decide +kernel
theorem dX5_canBeGlued_58 : decode cX5_canBeGlued 58 = .ok (.getfield 19, 3) := by decide +kernel
theorem dX5_canBeGlued_61 : decode cX5_canBeGlued 61 = .ok (.iload_n 3, 1) := by decide +kernel
theorem dX5_canBeGlued_62 : decode cX5_canBeGlued 62 = .ok (.invokevirtual 259, 3) := by decide +kernel
theorem dX5_canBeGlued_65 : decode cX5_canBeGlued 65 = .ok (.checkcast 216, 3) := by decide +kernel
theorem dX5_canBeGlued_68 : decode cX5_canBeGlued 68 = .ok (.astore 4, 2) := by decide +kernel
theorem dX5_canBeGlued_70 : decode cX5_canBeGlued 70 = .ok (.iload_n 1, 1) := by decide +kernel
theorem dX5_canBeGlued_71 : decode cX5_canBeGlued 71 = .ok (.iload_n 3, 1) := by decide +kernel
theorem dX5_canBeGlued_72 : decode cX5_canBeGlued 72 = .ok (.invokestatic 256, 3) := by decide +kernel
theorem dX5_canBeGlued_75 : decode cX5_canBeGlued 75 = .ok (.ifCond .eq 25, 3) := by decide +kernel
theorem dX5_canBeGlued_78 : decode cX5_canBeGlued 78 = .ok (.aload 4, 2) := by decide +kernel
theorem dX5_canBeGlued_80 : decode cX5_canBeGlued 80 = .ok (.getfield 229, 3) := by decide +kernel
theorem dX5_canBeGlued_83 : decode cX5_canBeGlued 83 = .ok (.ifCond .ne 15, 3) := by decide +kernel
theorem dX5_canBeGlued_86 : decode cX5_canBeGlued 86 = .ok (.aload 4, 2) := by decide +kernel
theorem dX5_canBeGlued_88 : decode cX5_canBeGlued 88 = .ok (.getfield 235, 3) := by decide +kernel
theorem dX5_canBeGlued_91 : decode cX5_canBeGlued 91 = .ok (.iload_n 2, 1) := by decide +kernel
theorem dX5_canBeGlued_92 : decode cX5_canBeGlued 92 = .ok (.iconst (-1), 1) := by decide +kernel
theorem dX5_canBeGlued_93 : decode cX5_canBeGlued 93 = .ok (.ixor, 1) := by decide +kernel
theorem dX5_canBeGlued_94 : decode cX5_canBeGlued 94 = .ok (.iand, 1) := by decide +kernel
theorem dX5_canBeGlued_95 : decode cX5_canBeGlued 95 = .ok (.ifCond .eq 5, 3) := by decide +kernel
theorem dX5_canBeGlued_98 : decode cX5_canBeGlued 98 = .ok (.iconst 0, 1) := by decide +kernel
theorem dX5_canBeGlued_99 : decode cX5_canBeGlued 99 = .ok (.ireturn, 1) := by decide +kernel
theorem dX5_canBeGlued_100 : decode cX5_canBeGlued 100 = .ok (.iinc 3 1, 3) := by decide +kernel
theorem dX5_canBeGlued_103 : decode cX5_canBeGlued 103 = .ok (.goto (-57), 3) := by decide +kernel
theorem dX5_canBeGlued_106 : decode cX5_canBeGlued 106 = .ok (.iconst 1, 1) := by decide +kernel
theorem dX5_canBeGlued_107 : decode cX5_canBeGlued 107 = .ok (.ireturn, 1) := by decide +kernel
theorem dX5_minutesOf_0 : decode cX5_minutesOf 0 = .ok (.iconst 0, 1) := by decide +kernel
theorem dX5_minutesOf_1 : decode cX5_minutesOf 1 = .ok (.istore_n 2, 1) := by decide +kernel
theorem dX5_minutesOf_2 : decode cX5_minutesOf 2 = .ok (.iconst 0, 1) := by decide +kernel
theorem dX5_minutesOf_3 : decode cX5_minutesOf 3 = .ok (.istore_n 3, 1) := by decide +kernel
theorem dX5_minutesOf_4 : decode cX5_minutesOf 4 = .ok (.iload_n 3, 1) := by decide +kernel
theorem dX5_minutesOf_5 : decode cX5_minutesOf 5 = .ok (.aload_n 0, 1) := by decide +kernel
theorem dX5_minutesOf_6 : decode cX5_minutesOf 6 = .ok (.getfield 19, 3) := by decide +kernel
theorem dX5_minutesOf_9 : decode cX5_minutesOf 9 = .ok (.invokevirtual 84, 3) := by decide +kernel
theorem dX5_minutesOf_12 : decode cX5_minutesOf 12 = .ok (.if_icmp .ge 40, 3) := by decide +kernel
theorem dX5_minutesOf_15 : decode cX5_minutesOf 15 = .ok (.iload_n 1, 1) := by decide +kernel
theorem dX5_minutesOf_16 : decode cX5_minutesOf 16 = .ok (.iload_n 3, 1) := by decide +kernel
theorem dX5_minutesOf_17 : decode cX5_minutesOf 17 = .ok (.invokestatic 256, 3) := by decide +kernel
theorem dX5_minutesOf_20 : decode cX5_minutesOf 20 = .ok (.ifCond .eq 26, 3) := by decide +kernel
theorem dX5_minutesOf_23 : decode cX5_minutesOf 23 = .ok (.iload_n 2, 1) := by decide +kernel
theorem dX5_minutesOf_24 : decode cX5_minutesOf 24 = .ok (.iconst 3, 1) := by decide +kernel
theorem dX5_minutesOf_25 : decode cX5_minutesOf 25 = .ok (.aload_n 0, 1) := by decide +kernel
theorem dX5_minutesOf_26 : decode cX5_minutesOf 26 = .ok (.getfield 19, 3) := by decide +kernel
theorem dX5_minutesOf_29 : decode cX5_minutesOf 29 = .ok (.iload_n 3, 1) := by decide +kernel
theorem dX5_minutesOf_30 : decode cX5_minutesOf 30 = .ok (.invokevirtual 259, 3) := by decide +kernel
theorem dX5_minutesOf_33 : decode cX5_minutesOf 33 = .ok (.checkcast 216, 3) := by decide +kernel
theorem dX5_minutesOf_36 : decode cX5_minutesOf 36 = .ok (.getfield 282, 3) := by decide +kernel
theorem dX5_minutesOf_39 : decode cX5_minutesOf 39 = .ok (.sipush 1000, 3) := by decide +kernel
theorem dX5_minutesOf_42 : decode cX5_minutesOf 42 = .ok (.idiv, 1) := by decide +kernel
theorem dX5_minutesOf_43 : decode cX5_minutesOf 43 = .ok (.iadd, 1) := by decide +kernel
theorem dX5_minutesOf_44 : decode cX5_minutesOf 44 = .ok (.iadd, 1) := by decide +kernel
theorem dX5_minutesOf_45 : decode cX5_minutesOf 45 = .ok (.istore_n 2, 1) := by decide +kernel
theorem dX5_minutesOf_46 : decode cX5_minutesOf 46 = .ok (.iinc 3 1, 3) := by decide +kernel
theorem dX5_minutesOf_49 : decode cX5_minutesOf 49 = .ok (.goto (-45), 3) := by decide +kernel
theorem dX5_minutesOf_52 : decode cX5_minutesOf 52 = .ok (.iload_n 2, 1) := by decide +kernel
theorem dX5_minutesOf_53 : decode cX5_minutesOf 53 = .ok (.ireturn, 1) := by decide +kernel
theorem dX5_clampsOf_0 : decode cX5_clampsOf 0 = .ok (.iconst 0, 1) := by decide +kernel
theorem dX5_clampsOf_1 : decode cX5_clampsOf 1 = .ok (.istore_n 2, 1) := by decide +kernel
theorem dX5_clampsOf_2 : decode cX5_clampsOf 2 = .ok (.iconst 0, 1) := by decide +kernel
theorem dX5_clampsOf_3 : decode cX5_clampsOf 3 = .ok (.istore_n 3, 1) := by decide +kernel
theorem dX5_clampsOf_4 : decode cX5_clampsOf 4 = .ok (.iload_n 3, 1) := by decide +kernel
theorem dX5_clampsOf_5 : decode cX5_clampsOf 5 = .ok (.aload_n 0, 1) := by decide +kernel
theorem dX5_clampsOf_6 : decode cX5_clampsOf 6 = .ok (.getfield 19, 3) := by decide +kernel
theorem dX5_clampsOf_9 : decode cX5_clampsOf 9 = .ok (.invokevirtual 84, 3) := by decide +kernel
theorem dX5_clampsOf_12 : decode cX5_clampsOf 12 = .ok (.if_icmp .ge 40, 3) := by decide +kernel
theorem dX5_clampsOf_15 : decode cX5_clampsOf 15 = .ok (.iload_n 1, 1) := by decide +kernel
theorem dX5_clampsOf_16 : decode cX5_clampsOf 16 = .ok (.iload_n 3, 1) := by decide +kernel
theorem dX5_clampsOf_17 : decode cX5_clampsOf 17 = .ok (.invokestatic 256, 3) := by decide +kernel
theorem dX5_clampsOf_20 : decode cX5_clampsOf 20 = .ok (.ifCond .eq 26, 3) := by decide +kernel
theorem dX5_clampsOf_23 : decode cX5_clampsOf 23 = .ok (.iload_n 2, 1) := by decide +kernel
theorem dX5_clampsOf_24 : decode cX5_clampsOf 24 = .ok (.iconst 1, 1) := by decide +kernel
theorem dX5_clampsOf_25 : decode cX5_clampsOf 25 = .ok (.aload_n 0, 1) := by decide +kernel
theorem dX5_clampsOf_26 : decode cX5_clampsOf 26 = .ok (.getfield 19, 3) := by decide +kernel
theorem dX5_clampsOf_29 : decode cX5_clampsOf 29 = .ok (.iload_n 3, 1) := by decide +kernel
theorem dX5_clampsOf_30 : decode cX5_clampsOf 30 = .ok (.invokevirtual 259, 3) := by decide +kernel
theorem dX5_clampsOf_33 : decode cX5_clampsOf 33 = .ok (.checkcast 216, 3) := by decide +kernel
theorem dX5_clampsOf_36 : decode cX5_clampsOf 36 = .ok (.getfield 282, 3) := by decide +kernel
theorem dX5_clampsOf_39 : decode cX5_clampsOf 39 = .ok (.sipush 500, 3) := by decide +kernel
theorem dX5_clampsOf_42 : decode cX5_clampsOf 42 = .ok (.idiv, 1) := by decide +kernel
theorem dX5_clampsOf_43 : decode cX5_clampsOf 43 = .ok (.iadd, 1) := by decide +kernel
theorem dX5_clampsOf_44 : decode cX5_clampsOf 44 = .ok (.iadd, 1) := by decide +kernel
theorem dX5_clampsOf_45 : decode cX5_clampsOf 45 = .ok (.istore_n 2, 1) := by decide +kernel
theorem dX5_clampsOf_46 : decode cX5_clampsOf 46 = .ok (.iinc 3 1, 3) := by decide +kernel
theorem dX5_clampsOf_49 : decode cX5_clampsOf 49 = .ok (.goto (-45), 3) := by decide +kernel
theorem dX5_clampsOf_52 : decode cX5_clampsOf 52 = .ok (.iload_n 2, 1) := by decide +kernel
theorem dX5_clampsOf_53 : decode cX5_clampsOf 53 = .ok (.ireturn, 1) := by decide +kernel
theorem dJ6_signum_0f7a4_0 : decode cJ6_signum_0f7a4 0 = .ok (.iload_n 0, 1) := by decide +kernel
theorem dJ6_signum_0f7a4_1 : decode cJ6_signum_0f7a4 1 = .ok (.bipush 31, 2) := by decide +kernel
theorem dJ6_signum_0f7a4_3 : decode cJ6_signum_0f7a4 3 = .ok (.ishr, 1) := by decide +kernel
theorem dJ6_signum_0f7a4_4 : decode cJ6_signum_0f7a4 4 = .ok (.iload_n 0, 1) := by decide +kernel
theorem dJ6_signum_0f7a4_5 : decode cJ6_signum_0f7a4 5 = .ok (.ineg, 1) := by decide +kernel
theorem dJ6_signum_0f7a4_6 : decode cJ6_signum_0f7a4 6 = .ok (.bipush 31, 2) := by decide +kernel
theorem dJ6_signum_0f7a4_8 : decode cJ6_signum_0f7a4 8 = .ok (.iushr, 1) := by decide +kernel
theorem dJ6_signum_0f7a4_9 : decode cJ6_signum_0f7a4 9 = .ok (.ior, 1) := by decide +kernel
theorem dJ6_signum_0f7a4_10 : decode cJ6_signum_0f7a4 10 = .ok (.ireturn, 1) := by decide +kernel
theorem dJ9_floorMod_7cf53_0 : decode cJ9_floorMod_7cf53 0 = .ok (.iload_n 0, 1) := by decide +kernel
theorem dJ9_floorMod_7cf53_1 : decode cJ9_floorMod_7cf53 1 = .ok (.iload_n 1, 1) := by decide +kernel
theorem dJ9_floorMod_7cf53_2 : decode cJ9_floorMod_7cf53 2 = .ok (.irem, 1) := by decide +kernel
theorem dJ9_floorMod_7cf53_3 : decode cJ9_floorMod_7cf53 3 = .ok (.istore_n 2, 1) := by decide +kernel
theorem dJ9_floorMod_7cf53_4 : decode cJ9_floorMod_7cf53 4 = .ok (.iload_n 0, 1) := by decide +kernel
theorem dJ9_floorMod_7cf53_5 : decode cJ9_floorMod_7cf53 5 = .ok (.iload_n 1, 1) := by decide +kernel
theorem dJ9_floorMod_7cf53_6 : decode cJ9_floorMod_7cf53 6 = .ok (.ixor, 1) := by decide +kernel
theorem dJ9_floorMod_7cf53_7 : decode cJ9_floorMod_7cf53 7 = .ok (.ifCond .ge 11, 3) := by decide +kernel
theorem dJ9_floorMod_7cf53_10 : decode cJ9_floorMod_7cf53 10 = .ok (.iload_n 2, 1) := by decide +kernel
theorem dJ9_floorMod_7cf53_11 : decode cJ9_floorMod_7cf53 11 = .ok (.ifCond .eq 7, 3) := by decide +kernel
theorem dJ9_floorMod_7cf53_14 : decode cJ9_floorMod_7cf53 14 = .ok (.iload_n 2, 1) := by decide +kernel
theorem dJ9_floorMod_7cf53_15 : decode cJ9_floorMod_7cf53 15 = .ok (.iload_n 1, 1) := by decide +kernel
theorem dJ9_floorMod_7cf53_16 : decode cJ9_floorMod_7cf53 16 = .ok (.iadd, 1) := by decide +kernel
theorem dJ9_floorMod_7cf53_17 : decode cJ9_floorMod_7cf53 17 = .ok (.ireturn, 1) := by decide +kernel
theorem dJ9_floorMod_7cf53_18 : decode cJ9_floorMod_7cf53 18 = .ok (.iload_n 2, 1) := by decide +kernel
theorem dJ9_floorMod_7cf53_19 : decode cJ9_floorMod_7cf53 19 = .ok (.ireturn, 1) := by decide +kernel
theorem dJ9_abs_0f7a4_0 : decode cJ9_abs_0f7a4 0 = .ok (.iload_n 0, 1) := by decide +kernel
theorem dJ9_abs_0f7a4_1 : decode cJ9_abs_0f7a4 1 = .ok (.ifCond .ge 8, 3) := by decide +kernel
theorem dJ9_abs_0f7a4_4 : decode cJ9_abs_0f7a4 4 = .ok (.iload_n 0, 1) := by decide +kernel
theorem dJ9_abs_0f7a4_5 : decode cJ9_abs_0f7a4 5 = .ok (.ineg, 1) := by decide +kernel
theorem dJ9_abs_0f7a4_6 : decode cJ9_abs_0f7a4 6 = .ok (.goto 4, 3) := by decide +kernel
theorem dJ9_abs_0f7a4_9 : decode cJ9_abs_0f7a4 9 = .ok (.iload_n 0, 1) := by decide +kernel
theorem dJ9_abs_0f7a4_10 : decode cJ9_abs_0f7a4 10 = .ok (.ireturn, 1) := by decide +kernel
theorem dJ9_max_7cf53_0 : decode cJ9_max_7cf53 0 = .ok (.iload_n 0, 1) := by decide +kernel
theorem dJ9_max_7cf53_1 : decode cJ9_max_7cf53 1 = .ok (.iload_n 1, 1) := by decide +kernel
theorem dJ9_max_7cf53_2 : decode cJ9_max_7cf53 2 = .ok (.if_icmp .lt 7, 3) := by decide +kernel
theorem dJ9_max_7cf53_5 : decode cJ9_max_7cf53 5 = .ok (.iload_n 0, 1) := by decide +kernel
theorem dJ9_max_7cf53_6 : decode cJ9_max_7cf53 6 = .ok (.goto 4, 3) := by decide +kernel
theorem dJ9_max_7cf53_9 : decode cJ9_max_7cf53 9 = .ok (.iload_n 1, 1) := by decide +kernel
theorem dJ9_max_7cf53_10 : decode cJ9_max_7cf53 10 = .ok (.ireturn, 1) := by decide +kernel
theorem dJ9_min_7cf53_0 : decode cJ9_min_7cf53 0 = .ok (.iload_n 0, 1) := by decide +kernel
theorem dJ9_min_7cf53_1 : decode cJ9_min_7cf53 1 = .ok (.iload_n 1, 1) := by decide +kernel
theorem dJ9_min_7cf53_2 : decode cJ9_min_7cf53 2 = .ok (.if_icmp .gt 7, 3) := by decide +kernel
theorem dJ9_min_7cf53_5 : decode cJ9_min_7cf53 5 = .ok (.iload_n 0, 1) := by decide +kernel
theorem dJ9_min_7cf53_6 : decode cJ9_min_7cf53 6 = .ok (.goto 4, 3) := by decide +kernel
theorem dJ9_min_7cf53_9 : decode cJ9_min_7cf53 9 = .ok (.iload_n 1, 1) := by decide +kernel
theorem dJ9_min_7cf53_10 : decode cJ9_min_7cf53 10 = .ok (.ireturn, 1) := by decide +kernel
theorem dJxa1e45_init_da8c8_0 : decode cJxa1e45_init_da8c8 0 = .ok (.aload_n 0, 1) := by decide +kernel
theorem dJxa1e45_init_da8c8_1 : decode cJxa1e45_init_da8c8 1 = .ok (.invokespecial 1, 3) := by decide +kernel
theorem dJxa1e45_init_da8c8_4 : decode cJxa1e45_init_da8c8 4 = .ok (.return_, 1) := by decide +kernel
theorem dJxc12de_init_da8c8_0 : decode cJxc12de_init_da8c8 0 = .ok (.aload_n 0, 1) := by decide +kernel
theorem dJxc12de_init_da8c8_1 : decode cJxc12de_init_da8c8 1 = .ok (.invokespecial 1, 3) := by decide +kernel
theorem dJxc12de_init_da8c8_4 : decode cJxc12de_init_da8c8 4 = .ok (.aload_n 0, 1) := by decide +kernel
theorem dJxc12de_init_da8c8_5 : decode cJxc12de_init_da8c8 5 = .ok (.iconst 0, 1) := by decide +kernel
theorem dJxc12de_init_da8c8_6 : decode cJxc12de_init_da8c8 6 = .ok (.putfield 7, 3) := by decide +kernel
theorem dJxc12de_init_da8c8_9 : decode cJxc12de_init_da8c8 9 = .ok (.return_, 1) := by decide +kernel
theorem dJx4a65c_init_da8c8_0 : decode cJx4a65c_init_da8c8 0 = .ok (.aload_n 0, 1) := by decide +kernel
theorem dJx4a65c_init_da8c8_1 : decode cJx4a65c_init_da8c8 1 = .ok (.invokespecial 1, 3) := by decide +kernel
theorem dJx4a65c_init_da8c8_4 : decode cJx4a65c_init_da8c8 4 = .ok (.aload_n 0, 1) := by decide +kernel
theorem dJx4a65c_init_da8c8_5 : decode cJx4a65c_init_da8c8 5 = .ok (.getstatic 39, 3) := by decide +kernel
theorem dJx4a65c_init_da8c8_8 : decode cJx4a65c_init_da8c8 8 = .ok (.putfield 9, 3) := by decide +kernel
theorem dJx4a65c_init_da8c8_11 : decode cJx4a65c_init_da8c8 11 = .ok (.return_, 1) := by decide +kernel
theorem dJx4a65c_grow_92f84_0 : decode cJx4a65c_grow_92f84 0 = .ok (.aload_n 0, 1) := by decide +kernel
theorem dJx4a65c_grow_92f84_1 : decode cJx4a65c_grow_92f84 1 = .ok (.getfield 9, 3) := by decide +kernel
theorem dJx4a65c_grow_92f84_4 : decode cJx4a65c_grow_92f84 4 = .ok (.arraylength, 1) := by decide +kernel
theorem dJx4a65c_grow_92f84_5 : decode cJx4a65c_grow_92f84 5 = .ok (.istore_n 2, 1) := by decide +kernel
theorem dJx4a65c_grow_92f84_6 : decode cJx4a65c_grow_92f84 6 = .ok (.iload_n 2, 1) := by decide +kernel
theorem dJx4a65c_grow_92f84_7 : decode cJx4a65c_grow_92f84 7 = .ok (.ifCond .gt 13, 3) := by decide +kernel
theorem dJx4a65c_grow_92f84_10 : decode cJx4a65c_grow_92f84 10 = .ok (.aload_n 0, 1) := by decide +kernel
theorem dJx4a65c_grow_92f84_11 : decode cJx4a65c_grow_92f84 11 = .ok (.getfield 9, 3) := by decide +kernel
theorem dJx4a65c_grow_92f84_14 : decode cJx4a65c_grow_92f84 14 = .ok (.getstatic 39, 3) := by decide +kernel
theorem dJx4a65c_grow_92f84_17 : decode cJx4a65c_grow_92f84 17 = .ok (.if_acmp .eq 28, 3) := by decide +kernel
theorem dJx4a65c_grow_92f84_20 : decode cJx4a65c_grow_92f84 20 = .ok (.iload_n 2, 1) := by decide +kernel
theorem dJx4a65c_grow_92f84_21 : decode cJx4a65c_grow_92f84 21 = .ok (.iload_n 1, 1) := by decide +kernel
theorem dJx4a65c_grow_92f84_22 : decode cJx4a65c_grow_92f84 22 = .ok (.iload_n 2, 1) := by decide +kernel
theorem dJx4a65c_grow_92f84_23 : decode cJx4a65c_grow_92f84 23 = .ok (.isub, 1) := by decide +kernel
theorem dJx4a65c_grow_92f84_24 : decode cJx4a65c_grow_92f84 24 = .ok (.iload_n 2, 1) := by decide +kernel
theorem dJx4a65c_grow_92f84_25 : decode cJx4a65c_grow_92f84 25 = .ok (.iconst 1, 1) := by decide +kernel
theorem dJx4a65c_grow_92f84_26 : decode cJx4a65c_grow_92f84 26 = .ok (.ishr, 1) := by decide +kernel
theorem dJx4a65c_grow_92f84_27 : decode cJx4a65c_grow_92f84 27 = .ok (.invokestatic 73, 3) := by decide +kernel
theorem dJx4a65c_grow_92f84_30 : decode cJx4a65c_grow_92f84 30 = .ok (.istore_n 3, 1) := by decide +kernel
theorem dJx4a65c_grow_92f84_31 : decode cJx4a65c_grow_92f84 31 = .ok (.aload_n 0, 1) := by decide +kernel
theorem dJx4a65c_grow_92f84_32 : decode cJx4a65c_grow_92f84 32 = .ok (.aload_n 0, 1) := by decide +kernel
theorem dJx4a65c_grow_92f84_33 : decode cJx4a65c_grow_92f84 33 = .ok (.getfield 9, 3) := by decide +kernel
theorem dJx4a65c_grow_92f84_36 : decode cJx4a65c_grow_92f84 36 = .ok (.iload_n 3, 1) := by decide +kernel
theorem dJx4a65c_grow_92f84_37 : decode cJx4a65c_grow_92f84 37 = .ok (.invokestatic 66, 3) := by decide +kernel
theorem dJx4a65c_grow_92f84_40 : decode cJx4a65c_grow_92f84 40 = .ok (.dup_x1, 1) := by decide +kernel
theorem dJx4a65c_grow_92f84_41 : decode cJx4a65c_grow_92f84 41 = .ok (.putfield 9, 3) := by decide +kernel
theorem dJx4a65c_grow_92f84_44 : decode cJx4a65c_grow_92f84 44 = .ok (.areturn, 1) := by decide +kernel
theorem dJx4a65c_grow_92f84_45 : decode cJx4a65c_grow_92f84 45 = .ok (.aload_n 0, 1) := by decide +kernel
theorem dJx4a65c_grow_92f84_46 : decode cJx4a65c_grow_92f84 46 = .ok (.bipush 10, 2) := by decide +kernel
theorem dJx4a65c_grow_92f84_48 : decode cJx4a65c_grow_92f84 48 = .ok (.iload_n 1, 1) := by decide +kernel
theorem dJx4a65c_grow_92f84_49 : decode cJx4a65c_grow_92f84 49 = .ok (.invokestatic 79, 3) := by decide +kernel
theorem dJx4a65c_grow_92f84_52 : decode cJx4a65c_grow_92f84 52 = .ok (.anewarray 7, 3) := by decide +kernel
theorem dJx4a65c_grow_92f84_55 : decode cJx4a65c_grow_92f84 55 = .ok (.dup_x1, 1) := by decide +kernel
theorem dJx4a65c_grow_92f84_56 : decode cJx4a65c_grow_92f84 56 = .ok (.putfield 9, 3) := by decide +kernel
theorem dJx4a65c_grow_92f84_59 : decode cJx4a65c_grow_92f84 59 = .ok (.areturn, 1) := by decide +kernel
theorem dJx4a65c_grow_d5877_0 : decode cJx4a65c_grow_d5877 0 = .ok (.aload_n 0, 1) := by decide +kernel
theorem dJx4a65c_grow_d5877_1 : decode cJx4a65c_grow_d5877 1 = .ok (.aload_n 0, 1) := by decide +kernel
theorem dJx4a65c_grow_d5877_2 : decode cJx4a65c_grow_d5877 2 = .ok (.getfield 48, 3) := by decide +kernel
theorem dJx4a65c_grow_d5877_5 : decode cJx4a65c_grow_d5877 5 = .ok (.iconst 1, 1) := by decide +kernel
theorem dJx4a65c_grow_d5877_6 : decode cJx4a65c_grow_d5877 6 = .ok (.iadd, 1) := by decide +kernel
theorem dJx4a65c_grow_d5877_7 : decode cJx4a65c_grow_d5877 7 = .ok (.invokevirtual 69, 3) := by decide +kernel
theorem dJx4a65c_grow_d5877_10 : decode cJx4a65c_grow_d5877 10 = .ok (.areturn, 1) := by decide +kernel
theorem dJx4a65c_size_8abf5_0 : decode cJx4a65c_size_8abf5 0 = .ok (.aload_n 0, 1) := by decide +kernel
theorem dJx4a65c_size_8abf5_1 : decode cJx4a65c_size_8abf5 1 = .ok (.getfield 48, 3) := by decide +kernel
theorem dJx4a65c_size_8abf5_4 : decode cJx4a65c_size_8abf5 4 = .ok (.ireturn, 1) := by decide +kernel
theorem dJx4a65c_elementData_915e3_0 : decode cJx4a65c_elementData_915e3 0 = .ok (.aload_n 0, 1) := by decide +kernel
theorem dJx4a65c_elementData_915e3_1 : decode cJx4a65c_elementData_915e3 1 = .ok (.getfield 9, 3) := by decide +kernel
theorem dJx4a65c_elementData_915e3_4 : decode cJx4a65c_elementData_915e3 4 = .ok (.iload_n 1, 1) := by decide +kernel
theorem dJx4a65c_elementData_915e3_5 : decode cJx4a65c_elementData_915e3 5 = .ok (.aaload, 1) := by decide +kernel
theorem dJx4a65c_elementData_915e3_6 : decode cJx4a65c_elementData_915e3 6 = .ok (.areturn, 1) := by decide +kernel
theorem dJx4a65c_get_915e3_0 : decode cJx4a65c_get_915e3 0 = .ok (.iload_n 1, 1) := by decide +kernel
theorem dJx4a65c_get_915e3_1 : decode cJx4a65c_get_915e3 1 = .ok (.aload_n 0, 1) := by decide +kernel
theorem dJx4a65c_get_915e3_2 : decode cJx4a65c_get_915e3 2 = .ok (.getfield 48, 3) := by decide +kernel
theorem dJx4a65c_get_915e3_5 : decode cJx4a65c_get_915e3 5 = .ok (.invokestatic 118, 3) := by decide +kernel
theorem dJx4a65c_get_915e3_8 : decode cJx4a65c_get_915e3 8 = .ok (.pop, 1) := by decide +kernel
theorem dJx4a65c_get_915e3_9 : decode cJx4a65c_get_915e3 9 = .ok (.aload_n 0, 1) := by decide +kernel
theorem dJx4a65c_get_915e3_10 : decode cJx4a65c_get_915e3 10 = .ok (.iload_n 1, 1) := by decide +kernel
theorem dJx4a65c_get_915e3_11 : decode cJx4a65c_get_915e3 11 = .ok (.invokevirtual 123, 3) := by decide +kernel
theorem dJx4a65c_get_915e3_14 : decode cJx4a65c_get_915e3 14 = .ok (.areturn, 1) := by decide +kernel
theorem dJx4a65c_add_72be8_0 : decode cJx4a65c_add_72be8 0 = .ok (.iload_n 3, 1) := by decide +kernel
theorem dJx4a65c_add_72be8_1 : decode cJx4a65c_add_72be8 1 = .ok (.aload_n 2, 1) := by decide +kernel
theorem dJx4a65c_add_72be8_2 : decode cJx4a65c_add_72be8 2 = .ok (.arraylength, 1) := by decide +kernel
theorem dJx4a65c_add_72be8_3 : decode cJx4a65c_add_72be8 3 = .ok (.if_icmp .ne 8, 3) := by decide +kernel
theorem dJx4a65c_add_72be8_6 : decode cJx4a65c_add_72be8 6 = .ok (.aload_n 0, 1) := by decide +kernel
theorem dJx4a65c_add_72be8_7 : decode cJx4a65c_add_72be8 7 = .ok (.invokevirtual 129, 3) := by decide +kernel
theorem dJx4a65c_add_72be8_10 : decode cJx4a65c_add_72be8 10 = .ok (.astore_n 2, 1) := by decide +kernel
theorem dJx4a65c_add_72be8_11 : decode cJx4a65c_add_72be8 11 = .ok (.aload_n 2, 1) := by decide +kernel
theorem dJx4a65c_add_72be8_12 : decode cJx4a65c_add_72be8 12 = .ok (.iload_n 3, 1) := by decide +kernel
theorem dJx4a65c_add_72be8_13 : decode cJx4a65c_add_72be8 13 = .ok (.aload_n 1, 1) := by decide +kernel
theorem dJx4a65c_add_72be8_14 : decode cJx4a65c_add_72be8 14 = .ok (.aastore, 1) := by decide +kernel
theorem dJx4a65c_add_72be8_15 : decode cJx4a65c_add_72be8 15 = .ok (.aload_n 0, 1) := by decide +kernel
theorem dJx4a65c_add_72be8_16 : decode cJx4a65c_add_72be8 16 = .ok (.iload_n 3, 1) := by decide +kernel
theorem dJx4a65c_add_72be8_17 : decode cJx4a65c_add_72be8 17 = .ok (.iconst 1, 1) := by decide +kernel
theorem dJx4a65c_add_72be8_18 : decode cJx4a65c_add_72be8 18 = .ok (.iadd, 1) := by decide +kernel
theorem dJx4a65c_add_72be8_19 : decode cJx4a65c_add_72be8 19 = .ok (.putfield 48, 3) := by decide +kernel
theorem dJx4a65c_add_72be8_22 : decode cJx4a65c_add_72be8 22 = .ok (.return_, 1) := by decide +kernel
theorem dJx4a65c_add_9ea2d_0 : decode cJx4a65c_add_9ea2d 0 = .ok (.aload_n 0, 1) := by decide +kernel
theorem dJx4a65c_add_9ea2d_1 : decode cJx4a65c_add_9ea2d 1 = .ok (.dup, 1) := by decide +kernel
theorem dJx4a65c_add_9ea2d_2 : decode cJx4a65c_add_9ea2d 2 = .ok (.getfield 63, 3) := by decide +kernel
theorem dJx4a65c_add_9ea2d_5 : decode cJx4a65c_add_9ea2d 5 = .ok (.iconst 1, 1) := by decide +kernel
theorem dJx4a65c_add_9ea2d_6 : decode cJx4a65c_add_9ea2d 6 = .ok (.iadd, 1) := by decide +kernel
theorem dJx4a65c_add_9ea2d_7 : decode cJx4a65c_add_9ea2d 7 = .ok (.putfield 63, 3) := by decide +kernel
theorem dJx4a65c_add_9ea2d_10 : decode cJx4a65c_add_9ea2d 10 = .ok (.aload_n 0, 1) := by decide +kernel
theorem dJx4a65c_add_9ea2d_11 : decode cJx4a65c_add_9ea2d 11 = .ok (.aload_n 1, 1) := by decide +kernel
theorem dJx4a65c_add_9ea2d_12 : decode cJx4a65c_add_9ea2d 12 = .ok (.aload_n 0, 1) := by decide +kernel
theorem dJx4a65c_add_9ea2d_13 : decode cJx4a65c_add_9ea2d 13 = .ok (.getfield 9, 3) := by decide +kernel
theorem dJx4a65c_add_9ea2d_16 : decode cJx4a65c_add_9ea2d 16 = .ok (.aload_n 0, 1) := by decide +kernel
theorem dJx4a65c_add_9ea2d_17 : decode cJx4a65c_add_9ea2d 17 = .ok (.getfield 48, 3) := by decide +kernel
theorem dJx4a65c_add_9ea2d_20 : decode cJx4a65c_add_9ea2d 20 = .ok (.invokevirtual 131, 3) := by decide +kernel
theorem dJx4a65c_add_9ea2d_23 : decode cJx4a65c_add_9ea2d 23 = .ok (.iconst 1, 1) := by decide +kernel
theorem dJx4a65c_add_9ea2d_24 : decode cJx4a65c_add_9ea2d 24 = .ok (.ireturn, 1) := by decide +kernel
theorem dJ7_fill_53178_0 : decode cJ7_fill_53178 0 = .ok (.iconst 0, 1) := by decide +kernel
theorem dJ7_fill_53178_1 : decode cJ7_fill_53178 1 = .ok (.istore_n 2, 1) := by decide +kernel
theorem dJ7_fill_53178_2 : decode cJ7_fill_53178 2 = .ok (.aload_n 0, 1) := by decide +kernel
theorem dJ7_fill_53178_3 : decode cJ7_fill_53178 3 = .ok (.arraylength, 1) := by decide +kernel
theorem dJ7_fill_53178_4 : decode cJ7_fill_53178 4 = .ok (.istore_n 3, 1) := by decide +kernel
theorem dJ7_fill_53178_5 : decode cJ7_fill_53178 5 = .ok (.iload_n 2, 1) := by decide +kernel
theorem dJ7_fill_53178_6 : decode cJ7_fill_53178 6 = .ok (.iload_n 3, 1) := by decide +kernel
theorem dJ7_fill_53178_7 : decode cJ7_fill_53178 7 = .ok (.if_icmp .ge 13, 3) := by decide +kernel
theorem dJ7_fill_53178_10 : decode cJ7_fill_53178 10 = .ok (.aload_n 0, 1) := by decide +kernel
theorem dJ7_fill_53178_11 : decode cJ7_fill_53178 11 = .ok (.iload_n 2, 1) := by decide +kernel
theorem dJ7_fill_53178_12 : decode cJ7_fill_53178 12 = .ok (.iload_n 1, 1) := by decide +kernel
theorem dJ7_fill_53178_13 : decode cJ7_fill_53178 13 = .ok (.iastore, 1) := by decide +kernel
theorem dJ7_fill_53178_14 : decode cJ7_fill_53178 14 = .ok (.iinc 2 1, 3) := by decide +kernel
theorem dJ7_fill_53178_17 : decode cJ7_fill_53178 17 = .ok (.goto (-12), 3) := by decide +kernel
theorem dJ7_fill_53178_20 : decode cJ7_fill_53178 20 = .ok (.return_, 1) := by decide +kernel
theorem dJ7_copyOf_1904c_0 : decode cJ7_copyOf_1904c 0 = .ok (.aload_n 0, 1) := by decide +kernel
theorem dJ7_copyOf_1904c_1 : decode cJ7_copyOf_1904c 1 = .ok (.iload_n 1, 1) := by decide +kernel
theorem dJ7_copyOf_1904c_2 : decode cJ7_copyOf_1904c 2 = .ok (.aload_n 0, 1) := by decide +kernel
theorem dJ7_copyOf_1904c_3 : decode cJ7_copyOf_1904c 3 = .ok (.invokevirtual 86, 3) := by decide +kernel
theorem dJ7_copyOf_1904c_6 : decode cJ7_copyOf_1904c 6 = .ok (.invokestatic 300, 3) := by decide +kernel
theorem dJ7_copyOf_1904c_9 : decode cJ7_copyOf_1904c 9 = .ok (.areturn, 1) := by decide +kernel
theorem dJ7_copyOf_6403c_0 : decode cJ7_copyOf_6403c 0 = .ok (.aload_n 2, 1) := by decide +kernel
theorem dJ7_copyOf_6403c_1 : decode cJ7_copyOf_6403c 1 = .ok (.ldc 110, 2) := by decide +kernel
theorem dJ7_copyOf_6403c_3 : decode cJ7_copyOf_6403c 3 = .ok (.if_acmp .ne 10, 3) := by decide +kernel
theorem dJ7_copyOf_6403c_6 : decode cJ7_copyOf_6403c 6 = .ok (.iload_n 1, 1) := by decide +kernel
theorem dJ7_copyOf_6403c_7 : decode cJ7_copyOf_6403c 7 = .ok (.anewarray 2, 3) := by decide +kernel
theorem dJ7_copyOf_6403c_10 : decode cJ7_copyOf_6403c 10 = .ok (.goto 14, 3) := by decide +kernel
theorem dJ7_copyOf_6403c_13 : decode cJ7_copyOf_6403c 13 = .ok (.aload_n 2, 1) := by decide +kernel
theorem dJ7_copyOf_6403c_14 : decode cJ7_copyOf_6403c 14 = .ok (.invokevirtual 90, 3) := by decide +kernel
theorem dJ7_copyOf_6403c_17 : decode cJ7_copyOf_6403c 17 = .ok (.iload_n 1, 1) := by decide +kernel
theorem dJ7_copyOf_6403c_18 : decode cJ7_copyOf_6403c 18 = .ok (.invokestatic 95, 3) := by decide +kernel
theorem dJ7_copyOf_6403c_21 : decode cJ7_copyOf_6403c 21 = .ok (.checkcast 110, 3) := by decide +kernel
theorem dJ7_copyOf_6403c_24 : decode cJ7_copyOf_6403c 24 = .ok (.astore_n 3, 1) := by decide +kernel
theorem dJ7_copyOf_6403c_25 : decode cJ7_copyOf_6403c 25 = .ok (.aload_n 0, 1) := by decide +kernel
theorem dJ7_copyOf_6403c_26 : decode cJ7_copyOf_6403c 26 = .ok (.iconst 0, 1) := by decide +kernel
theorem dJ7_copyOf_6403c_27 : decode cJ7_copyOf_6403c 27 = .ok (.aload_n 3, 1) := by decide +kernel
theorem dJ7_copyOf_6403c_28 : decode cJ7_copyOf_6403c 28 = .ok (.iconst 0, 1) := by decide +kernel
theorem dJ7_copyOf_6403c_29 : decode cJ7_copyOf_6403c 29 = .ok (.aload_n 0, 1) := by decide +kernel
theorem dJ7_copyOf_6403c_30 : decode cJ7_copyOf_6403c 30 = .ok (.arraylength, 1) := by decide +kernel
theorem dJ7_copyOf_6403c_31 : decode cJ7_copyOf_6403c 31 = .ok (.iload_n 1, 1) := by decide +kernel
theorem dJ7_copyOf_6403c_32 : decode cJ7_copyOf_6403c 32 = .ok (.invokestatic 304, 3) := by decide +kernel
theorem dJ7_copyOf_6403c_35 : decode cJ7_copyOf_6403c 35 = .ok (.invokestatic 150, 3) := by decide +kernel
theorem dJ7_copyOf_6403c_38 : decode cJ7_copyOf_6403c 38 = .ok (.aload_n 3, 1) := by decide +kernel
theorem dJ7_copyOf_6403c_39 : decode cJ7_copyOf_6403c 39 = .ok (.areturn, 1) := by decide +kernel
theorem dJ15_checkIndex_7cf53_0 : decode cJ15_checkIndex_7cf53 0 = .ok (.iload_n 0, 1) := by decide +kernel
theorem dJ15_checkIndex_7cf53_1 : decode cJ15_checkIndex_7cf53 1 = .ok (.iload_n 1, 1) := by decide +kernel
theorem dJ15_checkIndex_7cf53_2 : decode cJ15_checkIndex_7cf53 2 = .ok (.aconst_null, 1) := by decide +kernel
theorem dJ15_checkIndex_7cf53_3 : decode cJ15_checkIndex_7cf53 3 = .ok (.invokestatic 105, 3) := by decide +kernel
theorem dJ15_checkIndex_7cf53_6 : decode cJ15_checkIndex_7cf53 6 = .ok (.ireturn, 1) := by decide +kernel
theorem dJ8_newLength_cabcc_0 : decode cJ8_newLength_cabcc 0 = .ok (.iload_n 0, 1) := by decide +kernel
theorem dJ8_newLength_cabcc_1 : decode cJ8_newLength_cabcc 1 = .ok (.iload_n 1, 1) := by decide +kernel
theorem dJ8_newLength_cabcc_2 : decode cJ8_newLength_cabcc 2 = .ok (.iload_n 2, 1) := by decide +kernel
theorem dJ8_newLength_cabcc_3 : decode cJ8_newLength_cabcc 3 = .ok (.invokestatic 194, 3) := by decide +kernel
theorem dJ8_newLength_cabcc_6 : decode cJ8_newLength_cabcc 6 = .ok (.iadd, 1) := by decide +kernel
theorem dJ8_newLength_cabcc_7 : decode cJ8_newLength_cabcc 7 = .ok (.istore_n 3, 1) := by decide +kernel
theorem dJ8_newLength_cabcc_8 : decode cJ8_newLength_cabcc 8 = .ok (.iconst 0, 1) := by decide +kernel
theorem dJ8_newLength_cabcc_9 : decode cJ8_newLength_cabcc 9 = .ok (.iload_n 3, 1) := by decide +kernel
theorem dJ8_newLength_cabcc_10 : decode cJ8_newLength_cabcc 10 = .ok (.if_icmp .ge 11, 3) := by decide +kernel
theorem dJ8_newLength_cabcc_13 : decode cJ8_newLength_cabcc 13 = .ok (.iload_n 3, 1) := by decide +kernel
theorem dJ8_newLength_cabcc_14 : decode cJ8_newLength_cabcc 14 = .ok (.ldc 200, 2) := by decide +kernel
theorem dJ8_newLength_cabcc_16 : decode cJ8_newLength_cabcc 16 = .ok (.if_icmp .gt 5, 3) := by decide +kernel
theorem dJ8_newLength_cabcc_19 : decode cJ8_newLength_cabcc 19 = .ok (.iload_n 3, 1) := by decide +kernel
theorem dJ8_newLength_cabcc_20 : decode cJ8_newLength_cabcc 20 = .ok (.ireturn, 1) := by decide +kernel
theorem dJ8_newLength_cabcc_21 : decode cJ8_newLength_cabcc 21 = .ok (.iload_n 0, 1) := by decide +kernel
theorem dJ8_newLength_cabcc_22 : decode cJ8_newLength_cabcc 22 = .ok (.iload_n 1, 1) := by decide +kernel
theorem dJ8_newLength_cabcc_23 : decode cJ8_newLength_cabcc 23 = .ok (.invokestatic 201, 3) := by decide +kernel
theorem dJ8_newLength_cabcc_26 : decode cJ8_newLength_cabcc 26 = .ok (.ireturn, 1) := by decide +kernel
theorem dJ8_hugeLength_7cf53_0 : decode cJ8_hugeLength_7cf53 0 = .ok (.iload_n 0, 1) := by decide +kernel
theorem dJ8_hugeLength_7cf53_1 : decode cJ8_hugeLength_7cf53 1 = .ok (.iload_n 1, 1) := by decide +kernel
theorem dJ8_hugeLength_7cf53_2 : decode cJ8_hugeLength_7cf53 2 = .ok (.iadd, 1) := by decide +kernel
theorem dJ8_hugeLength_7cf53_3 : decode cJ8_hugeLength_7cf53 3 = .ok (.istore_n 2, 1) := by decide +kernel
theorem dJ8_hugeLength_7cf53_4 : decode cJ8_hugeLength_7cf53 4 = .ok (.iload_n 2, 1) := by decide +kernel
theorem dJ8_hugeLength_7cf53_5 : decode cJ8_hugeLength_7cf53 5 = .ok (.ifCond .ge 44, 3) := by decide +kernel
theorem dJ8_hugeLength_7cf53_8 : decode cJ8_hugeLength_7cf53 8 = .ok (.new 204, 3) := by decide +kernel
theorem dJ8_hugeLength_7cf53_11 : decode cJ8_hugeLength_7cf53 11 = .ok (.dup, 1) := by decide +kernel
theorem dJ8_hugeLength_7cf53_12 : decode cJ8_hugeLength_7cf53 12 = .ok (.new 89, 3) := by decide +kernel
theorem dJ8_hugeLength_7cf53_15 : decode cJ8_hugeLength_7cf53 15 = .ok (.dup, 1) := by decide +kernel
theorem dJ8_hugeLength_7cf53_16 : decode cJ8_hugeLength_7cf53 16 = .ok (.invokespecial 91, 3) := by decide +kernel
theorem dJ8_hugeLength_7cf53_19 : decode cJ8_hugeLength_7cf53 19 = .ok (.ldc 206, 2) := by decide +kernel
theorem dJ8_hugeLength_7cf53_21 : decode cJ8_hugeLength_7cf53 21 = .ok (.invokevirtual 94, 3) := by decide +kernel
theorem dJ8_hugeLength_7cf53_24 : decode cJ8_hugeLength_7cf53 24 = .ok (.iload_n 0, 1) := by decide +kernel
theorem dJ8_hugeLength_7cf53_25 : decode cJ8_hugeLength_7cf53 25 = .ok (.invokevirtual 98, 3) := by decide +kernel
theorem dJ8_hugeLength_7cf53_28 : decode cJ8_hugeLength_7cf53 28 = .ok (.ldc 208, 2) := by decide +kernel
theorem dJ8_hugeLength_7cf53_30 : decode cJ8_hugeLength_7cf53 30 = .ok (.invokevirtual 94, 3) := by decide +kernel
theorem dJ8_hugeLength_7cf53_33 : decode cJ8_hugeLength_7cf53 33 = .ok (.iload_n 1, 1) := by decide +kernel
theorem dJ8_hugeLength_7cf53_34 : decode cJ8_hugeLength_7cf53 34 = .ok (.invokevirtual 98, 3) := by decide +kernel
theorem dJ8_hugeLength_7cf53_37 : decode cJ8_hugeLength_7cf53 37 = .ok (.ldc 210, 2) := by decide +kernel
theorem dJ8_hugeLength_7cf53_39 : decode cJ8_hugeLength_7cf53 39 = .ok (.invokevirtual 94, 3) := by decide +kernel
theorem dJ8_hugeLength_7cf53_42 : decode cJ8_hugeLength_7cf53 42 = .ok (.invokevirtual 101, 3) := by decide +kernel
theorem dJ8_hugeLength_7cf53_45 : decode cJ8_hugeLength_7cf53 45 = .ok (.invokespecial 212, 3) := by decide +kernel
theorem dJ8_hugeLength_7cf53_48 : decode cJ8_hugeLength_7cf53 48 = .ok (.athrow, 1) := by decide +kernel
theorem dJ8_hugeLength_7cf53_49 : decode cJ8_hugeLength_7cf53 49 = .ok (.iload_n 2, 1) := by decide +kernel
theorem dJ8_hugeLength_7cf53_50 : decode cJ8_hugeLength_7cf53 50 = .ok (.ldc 200, 2) := by decide +kernel
theorem dJ8_hugeLength_7cf53_52 : decode cJ8_hugeLength_7cf53 52 = .ok (.if_icmp .gt 6, 3) := by decide +kernel
theorem dJ8_hugeLength_7cf53_55 : decode cJ8_hugeLength_7cf53 55 = .ok (.ldc 200, 2) := by decide +kernel
theorem dJ8_hugeLength_7cf53_57 : decode cJ8_hugeLength_7cf53 57 = .ok (.ireturn, 1) := by decide +kernel
theorem dJ8_hugeLength_7cf53_58 : decode cJ8_hugeLength_7cf53 58 = .ok (.iload_n 2, 1) := by decide +kernel
theorem dJ8_hugeLength_7cf53_59 : decode cJ8_hugeLength_7cf53 59 = .ok (.ireturn, 1) := by decide +kernel
theorem dJ3_checkIndex_8e157_0 : decode cJ3_checkIndex_8e157 0 = .ok (.iload_n 0, 1) := by decide +kernel
theorem dJ3_checkIndex_8e157_1 : decode cJ3_checkIndex_8e157 1 = .ok (.ifCond .lt 8, 3) := by decide +kernel
theorem dJ3_checkIndex_8e157_4 : decode cJ3_checkIndex_8e157 4 = .ok (.iload_n 0, 1) := by decide +kernel
theorem dJ3_checkIndex_8e157_5 : decode cJ3_checkIndex_8e157 5 = .ok (.iload_n 1, 1) := by decide +kernel
theorem dJ3_checkIndex_8e157_6 : decode cJ3_checkIndex_8e157 6 = .ok (.if_icmp .lt 10, 3) := by decide +kernel
theorem dJ3_checkIndex_8e157_9 : decode cJ3_checkIndex_8e157 9 = .ok (.aload_n 2, 1) := by decide +kernel
theorem dJ3_checkIndex_8e157_10 : decode cJ3_checkIndex_8e157 10 = .ok (.iload_n 0, 1) := by decide +kernel
theorem dJ3_checkIndex_8e157_11 : decode cJ3_checkIndex_8e157 11 = .ok (.iload_n 1, 1) := by decide +kernel
theorem dJ3_checkIndex_8e157_12 : decode cJ3_checkIndex_8e157 12 = .ok (.invokestatic 95, 3) := by decide +kernel
theorem dJ3_checkIndex_8e157_15 : decode cJ3_checkIndex_8e157 15 = .ok (.athrow, 1) := by decide +kernel
theorem dJ3_checkIndex_8e157_16 : decode cJ3_checkIndex_8e157 16 = .ok (.iload_n 0, 1) := by decide +kernel
theorem dJ3_checkIndex_8e157_17 : decode cJ3_checkIndex_8e157 17 = .ok (.ireturn, 1) := by decide +kernel
