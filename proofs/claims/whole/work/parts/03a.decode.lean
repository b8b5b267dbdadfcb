theorem dX0_init_0 : decode cX0_init 0 = .ok (.aload_n 0, 1) := by decide +kernel
theorem dX0_init_1 : decode cX0_init 1 = .ok (.invokespecial 3, 3) := by decide +kernel
theorem dX0_init_4 : decode cX0_init 4 = .ok (.return_, 1) := by decide +kernel
theorem dX0_isA_0 : decode cX0_isA 0 = .ok (.iload_n 0, 1) := by decide +kernel
theorem dX0_isA_1 : decode cX0_isA 1 = .ok (.iload_n 1, 1) := by decide +kernel
theorem dX0_isA_2 : decode cX0_isA 2 = .ok (.if_icmp .eq 27, 3) := by decide +kernel
theorem dX0_isA_5 : decode cX0_isA 5 = .ok (.iload_n 1, 1) := by decide +kernel
theorem dX0_isA_6 : decode cX0_isA 6 = .ok (.ifCond .eq 23, 3) := by decide +kernel
theorem dX0_isA_9 : decode cX0_isA 9 = .ok (.iload_n 0, 1) := by decide +kernel
theorem dX0_isA_10 : decode cX0_isA 10 = .ok (.iconst 4, 1) := by decide +kernel
theorem dX0_isA_11 : decode cX0_isA 11 = .ok (.if_icmp .ne 8, 3) := by decide +kernel
theorem dX0_isA_14 : decode cX0_isA 14 = .ok (.iload_n 1, 1) := by decide +kernel
theorem dX0_isA_15 : decode cX0_isA 15 = .ok (.iconst 1, 1) := by decide +kernel
theorem dX0_isA_16 : decode cX0_isA 16 = .ok (.if_icmp .eq 13, 3) := by decide +kernel
theorem dX0_isA_19 : decode cX0_isA 19 = .ok (.iload_n 0, 1) := by decide +kernel
theorem dX0_isA_20 : decode cX0_isA 20 = .ok (.iconst 5, 1) := by decide +kernel
theorem dX0_isA_21 : decode cX0_isA 21 = .ok (.if_icmp .ne 12, 3) := by decide +kernel
theorem dX0_isA_24 : decode cX0_isA 24 = .ok (.iload_n 1, 1) := by decide +kernel
theorem dX0_isA_25 : decode cX0_isA 25 = .ok (.iconst 3, 1) := by decide +kernel
theorem dX0_isA_26 : decode cX0_isA 26 = .ok (.if_icmp .ne 7, 3) := by decide +kernel
theorem dX0_isA_29 : decode cX0_isA 29 = .ok (.iconst 1, 1) := by decide +kernel
theorem dX0_isA_30 : decode cX0_isA 30 = .ok (.goto 4, 3) := by decide +kernel
theorem dX0_isA_33 : decode cX0_isA 33 = .ok (.iconst 0, 1) := by decide +kernel
theorem dX0_isA_34 : decode cX0_isA 34 = .ok (.ireturn, 1) := by decide +kernel
theorem dX0_lastStep_0 : decode cX0_lastStep 0 = .ok (.iload_n 0, 1) := by decide +kernel
theorem dX0_lastStep_1 : decode cX0_lastStep 1 = .ok (.iconst 1, 1) := by decide +kernel
theorem dX0_lastStep_2 : decode cX0_lastStep 2 = .ok (.invokestatic 9, 3) := by decide +kernel
theorem dX0_lastStep_5 : decode cX0_lastStep 5 = .ok (.ifCond .eq 7, 3) := by decide +kernel
theorem dX0_lastStep_8 : decode cX0_lastStep 8 = .ok (.iconst 2, 1) := by decide +kernel
theorem dX0_lastStep_9 : decode cX0_lastStep 9 = .ok (.goto 4, 3) := by decide +kernel
theorem dX0_lastStep_12 : decode cX0_lastStep 12 = .ok (.iconst 1, 1) := by decide +kernel
theorem dX0_lastStep_13 : decode cX0_lastStep 13 = .ok (.ireturn, 1) := by decide +kernel
theorem dX0_takeFrom_0 : decode cX0_takeFrom 0 = .ok (.aload_n 0, 1) := by decide +kernel
theorem dX0_takeFrom_1 : decode cX0_takeFrom 1 = .ok (.aload_n 1, 1) := by decide +kernel
theorem dX0_takeFrom_2 : decode cX0_takeFrom 2 = .ok (.getfield 15, 3) := by decide +kernel
theorem dX0_takeFrom_5 : decode cX0_takeFrom 5 = .ok (.putfield 15, 3) := by decide +kernel
theorem dX0_takeFrom_8 : decode cX0_takeFrom 8 = .ok (.aload_n 0, 1) := by decide +kernel
theorem dX0_takeFrom_9 : decode cX0_takeFrom 9 = .ok (.aload_n 1, 1) := by decide +kernel
theorem dX0_takeFrom_10 : decode cX0_takeFrom 10 = .ok (.getfield 19, 3) := by decide +kernel
theorem dX0_takeFrom_13 : decode cX0_takeFrom 13 = .ok (.putfield 19, 3) := by decide +kernel
theorem dX0_takeFrom_16 : decode cX0_takeFrom 16 = .ok (.aload_n 0, 1) := by decide +kernel
theorem dX0_takeFrom_17 : decode cX0_takeFrom 17 = .ok (.aload_n 1, 1) := by decide +kernel
theorem dX0_takeFrom_18 : decode cX0_takeFrom 18 = .ok (.getfield 22, 3) := by decide +kernel
theorem dX0_takeFrom_21 : decode cX0_takeFrom 21 = .ok (.putfield 22, 3) := by decide +kernel
theorem dX0_takeFrom_24 : decode cX0_takeFrom 24 = .ok (.aload_n 0, 1) := by decide +kernel
theorem dX0_takeFrom_25 : decode cX0_takeFrom 25 = .ok (.aload_n 1, 1) := by decide +kernel
theorem dX0_takeFrom_26 : decode cX0_takeFrom 26 = .ok (.getfield 25, 3) := by decide +kernel
theorem dX0_takeFrom_29 : decode cX0_takeFrom 29 = .ok (.putfield 25, 3) := by decide +kernel
theorem dX0_takeFrom_32 : decode cX0_takeFrom 32 = .ok (.aload_n 0, 1) := by decide +kernel
theorem dX0_takeFrom_33 : decode cX0_takeFrom 33 = .ok (.aload_n 1, 1) := by decide +kernel
theorem dX0_takeFrom_34 : decode cX0_takeFrom 34 = .ok (.getfield 28, 3) := by decide +kernel
theorem dX0_takeFrom_37 : decode cX0_takeFrom 37 = .ok (.putfield 28, 3) := by decide +kernel
theorem dX0_takeFrom_40 : decode cX0_takeFrom 40 = .ok (.return_, 1) := by decide +kernel
theorem dX0_become_0 : decode cX0_become 0 = .ok (.aload_n 0, 1) := by decide +kernel
theorem dX0_become_1 : decode cX0_become 1 = .ok (.aload_n 0, 1) := by decide +kernel
theorem dX0_become_2 : decode cX0_become 2 = .ok (.getfield 15, 3) := by decide +kernel
theorem dX0_become_5 : decode cX0_become 5 = .ok (.iload_n 1, 1) := by decide +kernel
theorem dX0_become_6 : decode cX0_become 6 = .ok (.iload_n 2, 1) := by decide +kernel
theorem dX0_become_7 : decode cX0_become 7 = .ok (.iconst 1, 1) := by decide +kernel
theorem dX0_become_8 : decode cX0_become 8 = .ok (.invokestatic 9, 3) := by decide +kernel
theorem dX0_become_11 : decode cX0_become 11 = .ok (.invokestatic 31, 3) := by decide +kernel
theorem dX0_become_14 : decode cX0_become 14 = .ok (.putfield 15, 3) := by decide +kernel
theorem dX0_become_17 : decode cX0_become 17 = .ok (.aload_n 0, 1) := by decide +kernel
theorem dX0_become_18 : decode cX0_become 18 = .ok (.aload_n 0, 1) := by decide +kernel
theorem dX0_become_19 : decode cX0_become 19 = .ok (.getfield 19, 3) := by decide +kernel
theorem dX0_become_22 : decode cX0_become 22 = .ok (.iload_n 1, 1) := by decide +kernel
theorem dX0_become_23 : decode cX0_become 23 = .ok (.iload_n 2, 1) := by decide +kernel
theorem dX0_become_24 : decode cX0_become 24 = .ok (.iconst 2, 1) := by decide +kernel
theorem dX0_become_25 : decode cX0_become 25 = .ok (.invokestatic 9, 3) := by decide +kernel
theorem dX0_become_28 : decode cX0_become 28 = .ok (.invokestatic 31, 3) := by decide +kernel
theorem dX0_become_31 : decode cX0_become 31 = .ok (.putfield 19, 3) := by decide +kernel
theorem dX0_become_34 : decode cX0_become 34 = .ok (.aload_n 0, 1) := by decide +kernel
theorem dX0_become_35 : decode cX0_become 35 = .ok (.aload_n 0, 1) := by decide +kernel
theorem dX0_become_36 : decode cX0_become 36 = .ok (.getfield 22, 3) := by decide +kernel
theorem dX0_become_39 : decode cX0_become 39 = .ok (.iload_n 1, 1) := by decide +kernel
theorem dX0_become_40 : decode cX0_become 40 = .ok (.iload_n 2, 1) := by decide +kernel
theorem dX0_become_41 : decode cX0_become 41 = .ok (.iconst 3, 1) := by decide +kernel
theorem dX0_become_42 : decode cX0_become 42 = .ok (.invokestatic 9, 3) := by decide +kernel
theorem dX0_become_45 : decode cX0_become 45 = .ok (.invokestatic 31, 3) := by decide +kernel
theorem dX0_become_48 : decode cX0_become 48 = .ok (.putfield 22, 3) := by decide +kernel
theorem dX0_become_51 : decode cX0_become 51 = .ok (.aload_n 0, 1) := by decide +kernel
theorem dX0_become_52 : decode cX0_become 52 = .ok (.aload_n 0, 1) := by decide +kernel
theorem dX0_become_53 : decode cX0_become 53 = .ok (.getfield 25, 3) := by decide +kernel
theorem dX0_become_56 : decode cX0_become 56 = .ok (.iload_n 1, 1) := by decide +kernel
theorem dX0_become_57 : decode cX0_become 57 = .ok (.iload_n 2, 1) := by decide +kernel
theorem dX0_become_58 : decode cX0_become 58 = .ok (.iconst 4, 1) := by decide +kernel
theorem dX0_become_59 : decode cX0_become 59 = .ok (.invokestatic 9, 3) := by decide +kernel
theorem dX0_become_62 : decode cX0_become 62 = .ok (.invokestatic 31, 3) := by decide +kernel
theorem dX0_become_65 : decode cX0_become 65 = .ok (.putfield 25, 3) := by decide +kernel
theorem dX0_become_68 : decode cX0_become 68 = .ok (.aload_n 0, 1) := by decide +kernel
theorem dX0_become_69 : decode cX0_become 69 = .ok (.aload_n 0, 1) := by decide +kernel
theorem dX0_become_70 : decode cX0_become 70 = .ok (.getfield 28, 3) := by decide +kernel
theorem dX0_become_73 : decode cX0_become 73 = .ok (.iload_n 1, 1) := by decide +kernel
theorem dX0_become_74 : decode cX0_become 74 = .ok (.iload_n 2, 1) := by decide +kernel
theorem dX0_become_75 : decode cX0_become 75 = .ok (.iconst 5, 1) := by decide +kernel
theorem dX0_become_76 : decode cX0_become 76 = .ok (.invokestatic 9, 3) := by decide +kernel
theorem dX0_become_79 : decode cX0_become 79 = .ok (.invokestatic 31, 3) := by decide +kernel
theorem dX0_become_82 : decode cX0_become 82 = .ok (.putfield 28, 3) := by decide +kernel
theorem dX0_become_85 : decode cX0_become 85 = .ok (.return_, 1) := by decide +kernel
theorem dX0_changed_0 : decode cX0_changed 0 = .ok (.iload_n 2, 1) := by decide +kernel
theorem dX0_changed_1 : decode cX0_changed 1 = .ok (.ifCond .eq 11, 3) := by decide +kernel
theorem dX0_changed_4 : decode cX0_changed 4 = .ok (.iload_n 0, 1) := by decide +kernel
theorem dX0_changed_5 : decode cX0_changed 5 = .ok (.iconst 1, 1) := by decide +kernel
theorem dX0_changed_6 : decode cX0_changed 6 = .ok (.iload_n 1, 1) := by decide +kernel
theorem dX0_changed_7 : decode cX0_changed 7 = .ok (.ishl, 1) := by decide +kernel
theorem dX0_changed_8 : decode cX0_changed 8 = .ok (.ior, 1) := by decide +kernel
theorem dX0_changed_9 : decode cX0_changed 9 = .ok (.goto 10, 3) := by decide +kernel
theorem dX0_changed_12 : decode cX0_changed 12 = .ok (.iload_n 0, 1) := by decide +kernel
theorem dX0_changed_13 : decode cX0_changed 13 = .ok (.iconst 1, 1) := by decide +kernel
theorem dX0_changed_14 : decode cX0_changed 14 = .ok (.iload_n 1, 1) := by decide +kernel
theorem dX0_changed_15 : decode cX0_changed 15 = .ok (.ishl, 1) := by decide +kernel
theorem dX0_changed_16 : decode cX0_changed 16 = .ok (.iconst (-1), 1) := by decide +kernel
theorem dX0_changed_17 : decode cX0_changed 17 = .ok (.ixor, 1) := by decide +kernel
theorem dX0_changed_18 : decode cX0_changed 18 = .ok (.iand, 1) := by decide +kernel
theorem dX0_changed_19 : decode cX0_changed 19 = .ok (.ireturn, 1) := by decide +kernel
theorem dX0_kindOf_0 : decode cX0_kindOf 0 = .ok (.iconst 1, 1) := by decide +kernel
theorem dX0_kindOf_1 : decode cX0_kindOf 1 = .ok (.iload_n 1, 1) := by decide +kernel
theorem dX0_kindOf_2 : decode cX0_kindOf 2 = .ok (.ishl, 1) := by decide +kernel
theorem dX0_kindOf_3 : decode cX0_kindOf 3 = .ok (.istore_n 2, 1) := by decide +kernel
theorem dX0_kindOf_4 : decode cX0_kindOf 4 = .ok (.aload_n 0, 1) := by decide +kernel
theorem dX0_kindOf_5 : decode cX0_kindOf 5 = .ok (.getfield 15, 3) := by decide +kernel
theorem dX0_kindOf_8 : decode cX0_kindOf 8 = .ok (.iload_n 2, 1) := by decide +kernel
theorem dX0_kindOf_9 : decode cX0_kindOf 9 = .ok (.iand, 1) := by decide +kernel
theorem dX0_kindOf_10 : decode cX0_kindOf 10 = .ok (.ifCond .eq 18, 3) := by decide +kernel
theorem dX0_kindOf_13 : decode cX0_kindOf 13 = .ok (.aload_n 0, 1) := by decide +kernel
theorem dX0_kindOf_14 : decode cX0_kindOf 14 = .ok (.getfield 25, 3) := by decide +kernel
theorem dX0_kindOf_17 : decode cX0_kindOf 17 = .ok (.iload_n 2, 1) := by decide +kernel
theorem dX0_kindOf_18 : decode cX0_kindOf 18 = .ok (.iand, 1) := by decide +kernel
theorem dX0_kindOf_19 : decode cX0_kindOf 19 = .ok (.ifCond .eq 7, 3) := by decide +kernel
theorem dX0_kindOf_22 : decode cX0_kindOf 22 = .ok (.iconst 4, 1) := by decide +kernel
theorem dX0_kindOf_23 : decode cX0_kindOf 23 = .ok (.goto 4, 3) := by decide +kernel
theorem dX0_kindOf_26 : decode cX0_kindOf 26 = .ok (.iconst 1, 1) := by decide +kernel
theorem dX0_kindOf_27 : decode cX0_kindOf 27 = .ok (.ireturn, 1) := by decide +kernel
theorem dX0_kindOf_28 : decode cX0_kindOf 28 = .ok (.aload_n 0, 1) := by decide +kernel
theorem dX0_kindOf_29 : decode cX0_kindOf 29 = .ok (.getfield 22, 3) := by decide +kernel
theorem dX0_kindOf_32 : decode cX0_kindOf 32 = .ok (.iload_n 2, 1) := by decide +kernel
theorem dX0_kindOf_33 : decode cX0_kindOf 33 = .ok (.iand, 1) := by decide +kernel
theorem dX0_kindOf_34 : decode cX0_kindOf 34 = .ok (.ifCond .eq 18, 3) := by decide +kernel
theorem dX0_kindOf_37 : decode cX0_kindOf 37 = .ok (.aload_n 0, 1) := by decide +kernel
theorem dX0_kindOf_38 : decode cX0_kindOf 38 = .ok (.getfield 28, 3) := by decide +kernel
theorem dX0_kindOf_41 : decode cX0_kindOf 41 = .ok (.iload_n 2, 1) := by decide +kernel
theorem dX0_kindOf_42 : decode cX0_kindOf 42 = .ok (.iand, 1) := by decide +kernel
theorem dX0_kindOf_43 : decode cX0_kindOf 43 = .ok (.ifCond .eq 7, 3) := by decide +kernel
theorem dX0_kindOf_46 : decode cX0_kindOf 46 = .ok (.iconst 5, 1) := by decide +kernel
theorem dX0_kindOf_47 : decode cX0_kindOf 47 = .ok (.goto 4, 3) := by decide +kernel
theorem dX0_kindOf_50 : decode cX0_kindOf 50 = .ok (.iconst 3, 1) := by decide +kernel
theorem dX0_kindOf_51 : decode cX0_kindOf 51 = .ok (.ireturn, 1) := by decide +kernel
theorem dX0_kindOf_52 : decode cX0_kindOf 52 = .ok (.aload_n 0, 1) := by decide +kernel
theorem dX0_kindOf_53 : decode cX0_kindOf 53 = .ok (.getfield 19, 3) := by decide +kernel
theorem dX0_kindOf_56 : decode cX0_kindOf 56 = .ok (.iload_n 2, 1) := by decide +kernel
theorem dX0_kindOf_57 : decode cX0_kindOf 57 = .ok (.iand, 1) := by decide +kernel
theorem dX0_kindOf_58 : decode cX0_kindOf 58 = .ok (.ifCond .eq 7, 3) := by decide +kernel
theorem dX0_kindOf_61 : decode cX0_kindOf 61 = .ok (.iconst 2, 1) := by decide +kernel
theorem dX0_kindOf_62 : decode cX0_kindOf 62 = .ok (.goto 4, 3) := by decide +kernel
theorem dX0_kindOf_65 : decode cX0_kindOf 65 = .ok (.iconst 0, 1) := by decide +kernel
theorem dX0_kindOf_66 : decode cX0_kindOf 66 = .ok (.ireturn, 1) := by decide +kernel
theorem dX0_showing_0 : decode cX0_showing 0 = .ok (.iload_n 1, 1) := by decide +kernel
theorem dX0_showing_1 : decode cX0_showing 1 = .ok (.invokestatic 35, 3) := by decide +kernel
theorem dX0_showing_4 : decode cX0_showing 4 = .ok (.aload_n 0, 1) := by decide +kernel
theorem dX0_showing_5 : decode cX0_showing 5 = .ok (.getfield 28, 3) := by decide +kernel
theorem dX0_showing_8 : decode cX0_showing 8 = .ok (.ixor, 1) := by decide +kernel
theorem dX0_showing_9 : decode cX0_showing 9 = .ok (.iload_n 1, 1) := by decide +kernel
theorem dX0_showing_10 : decode cX0_showing 10 = .ok (.invokestatic 41, 3) := by decide +kernel
theorem dX0_showing_13 : decode cX0_showing 13 = .ok (.iconst (-1), 1) := by decide +kernel
theorem dX0_showing_14 : decode cX0_showing 14 = .ok (.ixor, 1) := by decide +kernel
theorem dX0_showing_15 : decode cX0_showing 15 = .ok (.iand, 1) := by decide +kernel
theorem dX0_showing_16 : decode cX0_showing 16 = .ok (.ireturn, 1) := by decide +kernel
theorem dX0_behindPress_0 : decode cX0_behindPress 0 = .ok (.aload_n 0, 1) := by decide +kernel
theorem dX0_behindPress_1 : decode cX0_behindPress 1 = .ok (.iload_n 1, 1) := by decide +kernel
theorem dX0_behindPress_2 : decode cX0_behindPress 2 = .ok (.iload_n 2, 1) := by decide +kernel
theorem dX0_behindPress_3 : decode cX0_behindPress 3 = .ok (.invokestatic 44, 3) := by decide +kernel
theorem dX0_behindPress_6 : decode cX0_behindPress 6 = .ok (.iload_n 1, 1) := by decide +kernel
theorem dX0_behindPress_7 : decode cX0_behindPress 7 = .ok (.invokestatic 41, 3) := by decide +kernel
theorem dX0_behindPress_10 : decode cX0_behindPress 10 = .ok (.iconst (-1), 1) := by decide +kernel
theorem dX0_behindPress_11 : decode cX0_behindPress 11 = .ok (.ixor, 1) := by decide +kernel
theorem dX0_behindPress_12 : decode cX0_behindPress 12 = .ok (.iand, 1) := by decide +kernel
theorem dX0_behindPress_13 : decode cX0_behindPress 13 = .ok (.iconst 1, 1) := by decide +kernel
theorem dX0_behindPress_14 : decode cX0_behindPress 14 = .ok (.iload_n 2, 1) := by decide +kernel
theorem dX0_behindPress_15 : decode cX0_behindPress 15 = .ok (.ishl, 1) := by decide +kernel
theorem dX0_behindPress_16 : decode cX0_behindPress 16 = .ok (.iload_n 3, 1) := by decide +kernel
theorem dX0_behindPress_17 : decode cX0_behindPress 17 = .ok (.invokevirtual 47, 3) := by decide +kernel
theorem dX0_behindPress_20 : decode cX0_behindPress 20 = .ok (.ireturn, 1) := by decide +kernel
theorem dX0_behindTouch_0 : decode cX0_behindTouch 0 = .ok (.iload_n 2, 1) := by decide +kernel
theorem dX0_behindTouch_1 : decode cX0_behindTouch 1 = .ok (.aload_n 0, 1) := by decide +kernel
theorem dX0_behindTouch_2 : decode cX0_behindTouch 2 = .ok (.getfield 22, 3) := by decide +kernel
theorem dX0_behindTouch_5 : decode cX0_behindTouch 5 = .ok (.iload_n 3, 1) := by decide +kernel
theorem dX0_behindTouch_6 : decode cX0_behindTouch 6 = .ok (.iand, 1) := by decide +kernel
theorem dX0_behindTouch_7 : decode cX0_behindTouch 7 = .ok (.iconst (-1), 1) := by decide +kernel
theorem dX0_behindTouch_8 : decode cX0_behindTouch 8 = .ok (.ixor, 1) := by decide +kernel
theorem dX0_behindTouch_9 : decode cX0_behindTouch 9 = .ok (.iand, 1) := by decide +kernel
theorem dX0_behindTouch_10 : decode cX0_behindTouch 10 = .ok (.istore 5, 2) := by decide +kernel
theorem dX0_behindTouch_12 : decode cX0_behindTouch 12 = .ok (.iload 4, 2) := by decide +kernel
theorem dX0_behindTouch_14 : decode cX0_behindTouch 14 = .ok (.iconst 2, 1) := by decide +kernel
theorem dX0_behindTouch_15 : decode cX0_behindTouch 15 = .ok (.irem, 1) := by decide +kernel
theorem dX0_behindTouch_16 : decode cX0_behindTouch 16 = .ok (.ifCond .eq 14, 3) := by decide +kernel
theorem dX0_behindTouch_19 : decode cX0_behindTouch 19 = .ok (.iload 5, 2) := by decide +kernel
theorem dX0_behindTouch_21 : decode cX0_behindTouch 21 = .ok (.aload_n 0, 1) := by decide +kernel
theorem dX0_behindTouch_22 : decode cX0_behindTouch 22 = .ok (.getfield 25, 3) := by decide +kernel
theorem dX0_behindTouch_25 : decode cX0_behindTouch 25 = .ok (.iconst (-1), 1) := by decide +kernel
theorem dX0_behindTouch_26 : decode cX0_behindTouch 26 = .ok (.ixor, 1) := by decide +kernel
theorem dX0_behindTouch_27 : decode cX0_behindTouch 27 = .ok (.iand, 1) := by decide +kernel
theorem dX0_behindTouch_28 : decode cX0_behindTouch 28 = .ok (.istore 5, 2) := by decide +kernel
theorem dX0_behindTouch_30 : decode cX0_behindTouch 30 = .ok (.iload_n 1, 1) := by decide +kernel
theorem dX0_behindTouch_31 : decode cX0_behindTouch 31 = .ok (.invokestatic 51, 3) := by decide +kernel
theorem dX0_behindTouch_34 : decode cX0_behindTouch 34 = .ok (.istore 6, 2) := by decide +kernel
theorem dX0_behindTouch_36 : decode cX0_behindTouch 36 = .ok (.iload_n 1, 1) := by decide +kernel
theorem dX0_behindTouch_37 : decode cX0_behindTouch 37 = .ok (.invokestatic 54, 3) := by decide +kernel
theorem dX0_behindTouch_40 : decode cX0_behindTouch 40 = .ok (.istore 7, 2) := by decide +kernel
theorem dX0_behindTouch_42 : decode cX0_behindTouch 42 = .ok (.iload 5, 2) := by decide +kernel
theorem dX0_behindTouch_44 : decode cX0_behindTouch 44 = .ok (.aload_n 0, 1) := by decide +kernel
theorem dX0_behindTouch_45 : decode cX0_behindTouch 45 = .ok (.getfield 15, 3) := by decide +kernel
theorem dX0_behindTouch_48 : decode cX0_behindTouch 48 = .ok (.iand, 1) := by decide +kernel
theorem dX0_behindTouch_49 : decode cX0_behindTouch 49 = .ok (.istore 8, 2) := by decide +kernel
theorem dX0_behindTouch_51 : decode cX0_behindTouch 51 = .ok (.iload 5, 2) := by decide +kernel
theorem dX0_behindTouch_53 : decode cX0_behindTouch 53 = .ok (.aload_n 0, 1) := by decide +kernel
theorem dX0_behindTouch_54 : decode cX0_behindTouch 54 = .ok (.getfield 19, 3) := by decide +kernel
theorem dX0_behindTouch_57 : decode cX0_behindTouch 57 = .ok (.iand, 1) := by decide +kernel
theorem dX0_behindTouch_58 : decode cX0_behindTouch 58 = .ok (.istore 9, 2) := by decide +kernel
theorem dX0_behindTouch_60 : decode cX0_behindTouch 60 = .ok (.iload 5, 2) := by decide +kernel
theorem dX0_behindTouch_62 : decode cX0_behindTouch 62 = .ok (.aload_n 0, 1) := by decide +kernel
theorem dX0_behindTouch_63 : decode cX0_behindTouch 63 = .ok (.getfield 15, 3) := by decide +kernel
theorem dX0_behindTouch_66 : decode cX0_behindTouch 66 = .ok (.iconst (-1), 1) := by decide +kernel
theorem dX0_behindTouch_67 : decode cX0_behindTouch 67 = .ok (.ixor, 1) := by decide +kernel
theorem dX0_behindTouch_68 : decode cX0_behindTouch 68 = .ok (.iand, 1) := by decide +kernel
theorem dX0_behindTouch_69 : decode cX0_behindTouch 69 = .ok (.aload_n 0, 1) := by decide +kernel
theorem dX0_behindTouch_70 : decode cX0_behindTouch 70 = .ok (.getfield 19, 3) := by decide +kernel
theorem dX0_behindTouch_73 : decode cX0_behindTouch 73 = .ok (.iconst (-1), 1) := by decide +kernel
theorem dX0_behindTouch_74 : decode cX0_behindTouch 74 = .ok (.ixor, 1) := by decide +kernel
theorem dX0_behindTouch_75 : decode cX0_behindTouch 75 = .ok (.iand, 1) := by decide +kernel
theorem dX0_behindTouch_76 : decode cX0_behindTouch 76 = .ok (.istore 10, 2) := by decide +kernel
theorem dX0_behindTouch_78 : decode cX0_behindTouch 78 = .ok (.iload 6, 2) := by decide +kernel
theorem dX0_behindTouch_80 : decode cX0_behindTouch 80 = .ok (.iload 8, 2) := by decide +kernel
theorem dX0_behindTouch_82 : decode cX0_behindTouch 82 = .ok (.iconst (-1), 1) := by decide +kernel
theorem dX0_behindTouch_83 : decode cX0_behindTouch 83 = .ok (.ixor, 1) := by decide +kernel
theorem dX0_behindTouch_84 : decode cX0_behindTouch 84 = .ok (.iand, 1) := by decide +kernel
theorem dX0_behindTouch_85 : decode cX0_behindTouch 85 = .ok (.iload 8, 2) := by decide +kernel
theorem dX0_behindTouch_87 : decode cX0_behindTouch 87 = .ok (.iload 6, 2) := by decide +kernel
theorem dX0_behindTouch_89 : decode cX0_behindTouch 89 = .ok (.iconst (-1), 1) := by decide +kernel
theorem dX0_behindTouch_90 : decode cX0_behindTouch 90 = .ok (.ixor, 1) := by decide +kernel
theorem dX0_behindTouch_91 : decode cX0_behindTouch 91 = .ok (.iand, 1) := by decide +kernel
theorem dX0_behindTouch_92 : decode cX0_behindTouch 92 = .ok (.iload 7, 2) := by decide +kernel
theorem dX0_behindTouch_94 : decode cX0_behindTouch 94 = .ok (.iconst (-1), 1) := by decide +kernel
theorem dX0_behindTouch_95 : decode cX0_behindTouch 95 = .ok (.ixor, 1) := by decide +kernel
theorem dX0_behindTouch_96 : decode cX0_behindTouch 96 = .ok (.iand, 1) := by decide +kernel
theorem dX0_behindTouch_97 : decode cX0_behindTouch 97 = .ok (.ior, 1) := by decide +kernel
theorem dX0_behindTouch_98 : decode cX0_behindTouch 98 = .ok (.iload 9, 2) := by decide +kernel
theorem dX0_behindTouch_100 : decode cX0_behindTouch 100 = .ok (.ior, 1) := by decide +kernel
theorem dX0_behindTouch_101 : decode cX0_behindTouch 101 = .ok (.iload 10, 2) := by decide +kernel
theorem dX0_behindTouch_103 : decode cX0_behindTouch 103 = .ok (.ixor, 1) := by decide +kernel
theorem dX0_behindTouch_104 : decode cX0_behindTouch 104 = .ok (.istore 11, 2) := by decide +kernel
theorem dX0_behindTouch_106 : decode cX0_behindTouch 106 = .ok (.iload 7, 2) := by decide +kernel
theorem dX0_behindTouch_108 : decode cX0_behindTouch 108 = .ok (.iload 8, 2) := by decide +kernel
theorem dX0_behindTouch_110 : decode cX0_behindTouch 110 = .ok (.iconst (-1), 1) := by decide +kernel
theorem dX0_behindTouch_111 : decode cX0_behindTouch 111 = .ok (.ixor, 1) := by decide +kernel
theorem dX0_behindTouch_112 : decode cX0_behindTouch 112 = .ok (.iand, 1) := by decide +kernel
theorem dX0_behindTouch_113 : decode cX0_behindTouch 113 = .ok (.iload 8, 2) := by decide +kernel
theorem dX0_behindTouch_115 : decode cX0_behindTouch 115 = .ok (.iload 6, 2) := by decide +kernel
theorem dX0_behindTouch_117 : decode cX0_behindTouch 117 = .ok (.iand, 1) := by decide +kernel
theorem dX0_behindTouch_118 : decode cX0_behindTouch 118 = .ok (.ior, 1) := by decide +kernel
theorem dX0_behindTouch_119 : decode cX0_behindTouch 119 = .ok (.istore 12, 2) := by decide +kernel
theorem dX0_behindTouch_121 : decode cX0_behindTouch 121 = .ok (.iload 11, 2) := by decide +kernel
theorem dX0_behindTouch_123 : decode cX0_behindTouch 123 = .ok (.iload 12, 2) := by decide +kernel
theorem dX0_behindTouch_125 : decode cX0_behindTouch 125 = .ok (.iload_n 1, 1) := by decide +kernel
theorem dX0_behindTouch_126 : decode cX0_behindTouch 126 = .ok (.invokestatic 41, 3) := by decide +kernel
theorem dX0_behindTouch_129 : decode cX0_behindTouch 129 = .ok (.invokestatic 57, 3) := by decide +kernel
theorem dX0_behindTouch_132 : decode cX0_behindTouch 132 = .ok (.ireturn, 1) := by decide +kernel
theorem dX1_init_0 : decode cX1_init 0 = .ok (.aload_n 0, 1) := by decide +kernel
theorem dX1_init_1 : decode cX1_init 1 = .ok (.invokespecial 3, 3) := by decide +kernel
theorem dX1_init_4 : decode cX1_init 4 = .ok (.aload_n 0, 1) := by decide +kernel
theorem dX1_init_5 : decode cX1_init 5 = .ok (.bipush 41, 2) := by decide +kernel
theorem dX1_init_7 : decode cX1_init 7 = .ok (.newarray .int, 2) := by decide +kernel
theorem dX1_init_9 : decode cX1_init 9 = .ok (.putfield 9, 3) := by decide +kernel
theorem dX1_init_12 : decode cX1_init 12 = .ok (.aload_n 0, 1) := by decide +kernel
theorem dX1_init_13 : decode cX1_init 13 = .ok (.bipush 41, 2) := by decide +kernel
theorem dX1_init_15 : decode cX1_init 15 = .ok (.newarray .int, 2) := by decide +kernel
theorem dX1_init_17 : decode cX1_init 17 = .ok (.putfield 15, 3) := by decide +kernel
theorem dX1_init_20 : decode cX1_init 20 = .ok (.aload_n 0, 1) := by decide +kernel
theorem dX1_init_21 : decode cX1_init 21 = .ok (.iconst (-1), 1) := by decide +kernel
theorem dX1_init_22 : decode cX1_init 22 = .ok (.putfield 18, 3) := by decide +kernel
theorem dX1_init_25 : decode cX1_init 25 = .ok (.return_, 1) := by decide +kernel
theorem dX1_isThere_0 : decode cX1_isThere 0 = .ok (.aload_n 0, 1) := by decide +kernel
theorem dX1_isThere_1 : decode cX1_isThere 1 = .ok (.getfield 18, 3) := by decide +kernel
theorem dX1_isThere_4 : decode cX1_isThere 4 = .ok (.ifCond .lt 7, 3) := by decide +kernel
theorem dX1_isThere_7 : decode cX1_isThere 7 = .ok (.iconst 1, 1) := by decide +kernel
theorem dX1_isThere_8 : decode cX1_isThere 8 = .ok (.goto 4, 3) := by decide +kernel
theorem dX1_isThere_11 : decode cX1_isThere 11 = .ok (.iconst 0, 1) := by decide +kernel
theorem dX1_isThere_12 : decode cX1_isThere 12 = .ok (.ireturn, 1) := by decide +kernel
theorem dX1_deeds_0 : decode cX1_deeds 0 = .ok (.aload_n 0, 1) := by decide +kernel
theorem dX1_deeds_1 : decode cX1_deeds 1 = .ok (.getfield 18, 3) := by decide +kernel
theorem dX1_deeds_4 : decode cX1_deeds 4 = .ok (.iconst 0, 1) := by decide +kernel
theorem dX1_deeds_5 : decode cX1_deeds 5 = .ok (.invokestatic 22, 3) := by decide +kernel
theorem dX1_deeds_8 : decode cX1_deeds 8 = .ok (.ireturn, 1) := by decide +kernel
theorem dX1_room_0 : decode cX1_room 0 = .ok (.aload_n 0, 1) := by decide +kernel
theorem dX1_room_1 : decode cX1_room 1 = .ok (.invokevirtual 28, 3) := by decide +kernel
theorem dX1_room_4 : decode cX1_room 4 = .ok (.ifCond .eq 13, 3) := by decide +kernel
theorem dX1_room_7 : decode cX1_room 7 = .ok (.bipush 40, 2) := by decide +kernel
theorem dX1_room_9 : decode cX1_room 9 = .ok (.aload_n 0, 1) := by decide +kernel
theorem dX1_room_10 : decode cX1_room 10 = .ok (.getfield 18, 3) := by decide +kernel
theorem dX1_room_13 : decode cX1_room 13 = .ok (.isub, 1) := by decide +kernel
theorem dX1_room_14 : decode cX1_room 14 = .ok (.goto 4, 3) := by decide +kernel
theorem dX1_room_17 : decode cX1_room 17 = .ok (.iconst 0, 1) := by decide +kernel
theorem dX1_room_18 : decode cX1_room 18 = .ok (.ireturn, 1) := by decide +kernel
theorem dX1_state_0 : decode cX1_state 0 = .ok (.aload_n 0, 1) := by decide +kernel
theorem dX1_state_1 : decode cX1_state 1 = .ok (.getfield 18, 3) := by decide +kernel
theorem dX1_state_4 : decode cX1_state 4 = .ok (.ifCond .lt 27, 3) := by decide +kernel
theorem dX1_state_7 : decode cX1_state 7 = .ok (.aload_n 0, 1) := by decide +kernel
theorem dX1_state_8 : decode cX1_state 8 = .ok (.getfield 18, 3) := by decide +kernel
theorem dX1_state_11 : decode cX1_state 11 = .ok (.aload_n 0, 1) := by decide +kernel
theorem dX1_state_12 : decode cX1_state 12 = .ok (.getfield 9, 3) := by decide +kernel
theorem dX1_state_15 : decode cX1_state 15 = .ok (.arraylength, 1) := by decide +kernel
theorem dX1_state_16 : decode cX1_state 16 = .ok (.if_icmp .ge 15, 3) := by decide +kernel
theorem dX1_state_19 : decode cX1_state 19 = .ok (.aload_n 0, 1) := by decide +kernel
theorem dX1_state_20 : decode cX1_state 20 = .ok (.getfield 9, 3) := by decide +kernel
theorem dX1_state_23 : decode cX1_state 23 = .ok (.aload_n 0, 1) := by decide +kernel
theorem dX1_state_24 : decode cX1_state 24 = .ok (.getfield 18, 3) := by decide +kernel
theorem dX1_state_27 : decode cX1_state 27 = .ok (.iaload, 1) := by decide +kernel
theorem dX1_state_28 : decode cX1_state 28 = .ok (.goto 4, 3) := by decide +kernel
theorem dX1_state_31 : decode cX1_state 31 = .ok (.iconst 0, 1) := by decide +kernel
theorem dX1_state_32 : decode cX1_state 32 = .ok (.ireturn, 1) := by decide +kernel
theorem dX1_number_0 : decode cX1_number 0 = .ok (.aload_n 0, 1) := by decide +kernel
theorem dX1_number_1 : decode cX1_number 1 = .ok (.getfield 18, 3) := by decide +kernel
theorem dX1_number_4 : decode cX1_number 4 = .ok (.ifCond .lt 27, 3) := by decide +kernel
theorem dX1_number_7 : decode cX1_number 7 = .ok (.aload_n 0, 1) := by decide +kernel
theorem dX1_number_8 : decode cX1_number 8 = .ok (.getfield 18, 3) := by decide +kernel
theorem dX1_number_11 : decode cX1_number 11 = .ok (.aload_n 0, 1) := by decide +kernel
theorem dX1_number_12 : decode cX1_number 12 = .ok (.getfield 15, 3) := by decide +kernel
theorem dX1_number_15 : decode cX1_number 15 = .ok (.arraylength, 1) := by decide +kernel
theorem dX1_number_16 : decode cX1_number 16 = .ok (.if_icmp .ge 15, 3) := by decide +kernel
theorem dX1_number_19 : decode cX1_number 19 = .ok (.aload_n 0, 1) := by decide +kernel
theorem dX1_number_20 : decode cX1_number 20 = .ok (.getfield 15, 3) := by decide +kernel
theorem dX1_number_23 : decode cX1_number 23 = .ok (.aload_n 0, 1) := by decide +kernel
theorem dX1_number_24 : decode cX1_number 24 = .ok (.getfield 18, 3) := by decide +kernel
theorem dX1_number_27 : decode cX1_number 27 = .ok (.iaload, 1) := by decide +kernel
theorem dX1_number_28 : decode cX1_number 28 = .ok (.goto 4, 3) := by decide +kernel
theorem dX1_number_31 : decode cX1_number 31 = .ok (.iconst 0, 1) := by decide +kernel
theorem dX1_number_32 : decode cX1_number 32 = .ok (.ireturn, 1) := by decide +kernel
theorem dX1_forget_0 : decode cX1_forget 0 = .ok (.aload_n 0, 1) := by decide +kernel
theorem dX1_forget_1 : decode cX1_forget 1 = .ok (.iconst (-1), 1) := by decide +kernel
theorem dX1_forget_2 : decode cX1_forget 2 = .ok (.putfield 18, 3) := by decide +kernel
theorem dX1_forget_5 : decode cX1_forget 5 = .ok (.return_, 1) := by decide +kernel
theorem dX1_begin_0 : decode cX1_begin 0 = .ok (.aload_n 0, 1) := by decide +kernel
theorem dX1_begin_1 : decode cX1_begin 1 = .ok (.iconst 0, 1) := by decide +kernel
theorem dX1_begin_2 : decode cX1_begin 2 = .ok (.putfield 18, 3) := by decide +kernel
theorem dX1_begin_5 : decode cX1_begin 5 = .ok (.aload_n 0, 1) := by decide +kernel
theorem dX1_begin_6 : decode cX1_begin 6 = .ok (.getfield 9, 3) := by decide +kernel
theorem dX1_begin_9 : decode cX1_begin 9 = .ok (.iconst 0, 1) := by decide +kernel
theorem dX1_begin_10 : decode cX1_begin 10 = .ok (.iload_n 1, 1) := by decide +kernel
theorem dX1_begin_11 : decode cX1_begin 11 = .ok (.iastore, 1) := by decide +kernel
theorem dX1_begin_12 : decode cX1_begin 12 = .ok (.aload_n 0, 1) := by decide +kernel
theorem dX1_begin_13 : decode cX1_begin 13 = .ok (.getfield 15, 3) := by decide +kernel
theorem dX1_begin_16 : decode cX1_begin 16 = .ok (.iconst 0, 1) := by decide +kernel
theorem dX1_begin_17 : decode cX1_begin 17 = .ok (.iconst 0, 1) := by decide +kernel
theorem dX1_begin_18 : decode cX1_begin 18 = .ok (.iastore, 1) := by decide +kernel
theorem dX1_begin_19 : decode cX1_begin 19 = .ok (.return_, 1) := by decide +kernel
theorem dX1_go_0 : decode cX1_go 0 = .ok (.aload_n 0, 1) := by decide +kernel
theorem dX1_go_1 : decode cX1_go 1 = .ok (.invokevirtual 32, 3) := by decide +kernel
theorem dX1_go_4 : decode cX1_go 4 = .ok (.ifCond .le 40, 3) := by decide +kernel
theorem dX1_go_7 : decode cX1_go 7 = .ok (.aload_n 0, 1) := by decide +kernel
theorem dX1_go_8 : decode cX1_go 8 = .ok (.invokevirtual 36, 3) := by decide +kernel
theorem dX1_go_11 : decode cX1_go 11 = .ok (.iload_n 2, 1) := by decide +kernel
theorem dX1_go_12 : decode cX1_go 12 = .ok (.iadd, 1) := by decide +kernel
theorem dX1_go_13 : decode cX1_go 13 = .ok (.istore_n 3, 1) := by decide +kernel
theorem dX1_go_14 : decode cX1_go 14 = .ok (.aload_n 0, 1) := by decide +kernel
theorem dX1_go_15 : decode cX1_go 15 = .ok (.dup, 1) := by decide +kernel
theorem dX1_go_16 : decode cX1_go 16 = .ok (.getfield 18, 3) := by decide +kernel
theorem dX1_go_19 : decode cX1_go 19 = .ok (.iconst 1, 1) := by decide +kernel
theorem dX1_go_20 : decode cX1_go 20 = .ok (.iadd, 1) := by decide +kernel
theorem dX1_go_21 : decode cX1_go 21 = .ok (.putfield 18, 3) := by decide +kernel
theorem dX1_go_24 : decode cX1_go 24 = .ok (.aload_n 0, 1) := by decide +kernel
theorem dX1_go_25 : decode cX1_go 25 = .ok (.getfield 9, 3) := by decide +kernel
theorem dX1_go_28 : decode cX1_go 28 = .ok (.aload_n 0, 1) := by decide +kernel
theorem dX1_go_29 : decode cX1_go 29 = .ok (.getfield 18, 3) := by decide +kernel
theorem dX1_go_32 : decode cX1_go 32 = .ok (.iload_n 1, 1) := by decide +kernel
theorem dX1_go_33 : decode cX1_go 33 = .ok (.iastore, 1) := by decide +kernel
theorem dX1_go_34 : decode cX1_go 34 = .ok (.aload_n 0, 1) := by decide +kernel
theorem dX1_go_35 : decode cX1_go 35 = .ok (.getfield 15, 3) := by decide +kernel
theorem dX1_go_38 : decode cX1_go 38 = .ok (.aload_n 0, 1) := by decide +kernel
theorem dX1_go_39 : decode cX1_go 39 = .ok (.getfield 18, 3) := by decide +kernel
theorem dX1_go_42 : decode cX1_go 42 = .ok (.iload_n 3, 1) := by decide +kernel
theorem dX1_go_43 : decode cX1_go 43 = .ok (.iastore, 1) := by decide +kernel
theorem dX1_go_44 : decode cX1_go 44 = .ok (.return_, 1) := by decide +kernel
theorem dX1_goBack_0 : decode cX1_goBack 0 = .ok (.iload_n 1, 1) := by decide +kernel
theorem dX1_goBack_1 : decode cX1_goBack 1 = .ok (.ifCond .lt 16, 3) := by decide +kernel
theorem dX1_goBack_4 : decode cX1_goBack 4 = .ok (.iload_n 1, 1) := by decide +kernel
theorem dX1_goBack_5 : decode cX1_goBack 5 = .ok (.aload_n 0, 1) := by decide +kernel
theorem dX1_goBack_6 : decode cX1_goBack 6 = .ok (.getfield 18, 3) := by decide +kernel
theorem dX1_goBack_9 : decode cX1_goBack 9 = .ok (.if_icmp .gt 8, 3) := by decide +kernel
theorem dX1_goBack_12 : decode cX1_goBack 12 = .ok (.aload_n 0, 1) := by decide +kernel
theorem dX1_goBack_13 : decode cX1_goBack 13 = .ok (.iload_n 1, 1) := by decide +kernel
theorem dX1_goBack_14 : decode cX1_goBack 14 = .ok (.putfield 18, 3) := by decide +kernel
theorem dX1_goBack_17 : decode cX1_goBack 17 = .ok (.return_, 1) := by decide +kernel
theorem dX1_takeFrom_0 : decode cX1_takeFrom 0 = .ok (.aload_n 0, 1) := by decide +kernel
theorem dX1_takeFrom_1 : decode cX1_takeFrom 1 = .ok (.aload_n 1, 1) := by decide +kernel
theorem dX1_takeFrom_2 : decode cX1_takeFrom 2 = .ok (.getfield 18, 3) := by decide +kernel
theorem dX1_takeFrom_5 : decode cX1_takeFrom 5 = .ok (.putfield 18, 3) := by decide +kernel
theorem dX1_takeFrom_8 : decode cX1_takeFrom 8 = .ok (.iconst 0, 1) := by decide +kernel
theorem dX1_takeFrom_9 : decode cX1_takeFrom 9 = .ok (.istore_n 2, 1) := by decide +kernel
theorem dX1_takeFrom_10 : decode cX1_takeFrom 10 = .ok (.iload_n 2, 1) := by decide +kernel
theorem dX1_takeFrom_11 : decode cX1_takeFrom 11 = .ok (.aload_n 0, 1) := by decide +kernel
theorem dX1_takeFrom_12 : decode cX1_takeFrom 12 = .ok (.getfield 18, 3) := by decide +kernel
theorem dX1_takeFrom_15 : decode cX1_takeFrom 15 = .ok (.if_icmp .gt 39, 3) := by decide +kernel
theorem dX1_takeFrom_18 : decode cX1_takeFrom 18 = .ok (.iload_n 2, 1) := by decide +kernel
theorem dX1_takeFrom_19 : decode cX1_takeFrom 19 = .ok (.bipush 40, 2) := by decide +kernel
theorem dX1_takeFrom_21 : decode cX1_takeFrom 21 = .ok (.if_icmp .gt 33, 3) := by decide +kernel
theorem dX1_takeFrom_24 : decode cX1_takeFrom 24 = .ok (.aload_n 0, 1) := by decide +kernel
theorem dX1_takeFrom_25 : decode cX1_takeFrom 25 = .ok (.getfield 9, 3) := by decide +kernel
theorem dX1_takeFrom_28 : decode cX1_takeFrom 28 = .ok (.iload_n 2, 1) := by decide +kernel
theorem dX1_takeFrom_29 : decode cX1_takeFrom 29 = .ok (.aload_n 1, 1) := by decide +kernel
theorem dX1_takeFrom_30 : decode cX1_takeFrom 30 = .ok (.getfield 9, 3) := by decide +kernel
theorem dX1_takeFrom_33 : decode cX1_takeFrom 33 = .ok (.iload_n 2, 1) := by decide +kernel
theorem dX1_takeFrom_34 : decode cX1_takeFrom 34 = .ok (.iaload, 1) := by decide +kernel
theorem dX1_takeFrom_35 : decode cX1_takeFrom 35 = .ok (.iastore, 1) := by decide +kernel
theorem dX1_takeFrom_36 : decode cX1_takeFrom 36 = .ok (.aload_n 0, 1) := by decide +kernel
theorem dX1_takeFrom_37 : decode cX1_takeFrom 37 = .ok (.getfield 15, 3) := by decide +kernel
theorem dX1_takeFrom_40 : decode cX1_takeFrom 40 = .ok (.iload_n 2, 1) := by decide +kernel
theorem dX1_takeFrom_41 : decode cX1_takeFrom 41 = .ok (.aload_n 1, 1) := by decide +kernel
theorem dX1_takeFrom_42 : decode cX1_takeFrom 42 = .ok (.getfield 15, 3) := by decide +kernel
theorem dX1_takeFrom_45 : decode cX1_takeFrom 45 = .ok (.iload_n 2, 1) := by decide +kernel
theorem dX1_takeFrom_46 : decode cX1_takeFrom 46 = .ok (.iaload, 1) := by decide +kernel
theorem dX1_takeFrom_47 : decode cX1_takeFrom 47 = .ok (.iastore, 1) := by decide +kernel
theorem dX1_takeFrom_48 : decode cX1_takeFrom 48 = .ok (.iinc 2 1, 3) := by decide +kernel
theorem dX1_takeFrom_51 : decode cX1_takeFrom 51 = .ok (.goto (-41), 3) := by decide +kernel
theorem dX1_takeFrom_54 : decode cX1_takeFrom 54 = .ok (.return_, 1) := by decide +kernel
theorem dX2_init_0 : decode cX2_init 0 = .ok (.aload_n 0, 1) := by decide +kernel
theorem dX2_init_1 : decode cX2_init 1 = .ok (.invokespecial 3, 3) := by decide +kernel
theorem dX2_init_4 : decode cX2_init 4 = .ok (.aload_n 0, 1) := by decide +kernel
theorem dX2_init_5 : decode cX2_init 5 = .ok (.new 9, 3) := by decide +kernel
theorem dX2_init_8 : decode cX2_init 8 = .ok (.dup, 1) := by decide +kernel
theorem dX2_init_9 : decode cX2_init 9 = .ok (.invokespecial 11, 3) := by decide +kernel
theorem dX2_init_12 : decode cX2_init 12 = .ok (.putfield 12, 3) := by decide +kernel
theorem dX2_init_15 : decode cX2_init 15 = .ok (.aload_n 0, 1) := by decide +kernel
theorem dX2_init_16 : decode cX2_init 16 = .ok (.iconst 0, 1) := by decide +kernel
theorem dX2_init_17 : decode cX2_init 17 = .ok (.putfield 18, 3) := by decide +kernel
theorem dX2_init_20 : decode cX2_init 20 = .ok (.return_, 1) := by decide +kernel
theorem dX2_faultOf_0 : decode cX2_faultOf 0 = .ok (.aload_n 1, 1) := by decide +kernel
theorem dX2_faultOf_1 : decode cX2_faultOf 1 = .ok (.invokevirtual 22, 3) := by decide +kernel
theorem dX2_faultOf_4 : decode cX2_faultOf 4 = .ok (.istore_n 2, 1) := by decide +kernel
theorem dX2_faultOf_5 : decode cX2_faultOf 5 = .ok (.iconst 0, 1) := by decide +kernel
theorem dX2_faultOf_6 : decode cX2_faultOf 6 = .ok (.istore_n 3, 1) := by decide +kernel
theorem dX2_faultOf_7 : decode cX2_faultOf 7 = .ok (.iconst 0, 1) := by decide +kernel
theorem dX2_faultOf_8 : decode cX2_faultOf 8 = .ok (.istore 4, 2) := by decide +kernel
theorem dX2_faultOf_10 : decode cX2_faultOf 10 = .ok (.aload_n 0, 1) := by decide +kernel
theorem dX2_faultOf_11 : decode cX2_faultOf 11 = .ok (.iconst 0, 1) := by decide +kernel
theorem dX2_faultOf_12 : decode cX2_faultOf 12 = .ok (.putfield 18, 3) := by decide +kernel
theorem dX2_faultOf_15 : decode cX2_faultOf 15 = .ok (.iload 4, 2) := by decide +kernel
theorem dX2_faultOf_17 : decode cX2_faultOf 17 = .ok (.iload_n 2, 1) := by decide +kernel
theorem dX2_faultOf_18 : decode cX2_faultOf 18 = .ok (.if_icmp .ge 123, 3) := by decide +kernel
theorem dX2_faultOf_21 : decode cX2_faultOf 21 = .ok (.aload_n 1, 1) := by decide +kernel
theorem dX2_faultOf_22 : decode cX2_faultOf 22 = .ok (.iload 4, 2) := by decide +kernel
theorem dX2_faultOf_24 : decode cX2_faultOf 24 = .ok (.invokevirtual 28, 3) := by decide +kernel
theorem dX2_faultOf_27 : decode cX2_faultOf 27 = .ok (.istore 5, 2) := by decide +kernel
theorem dX2_faultOf_29 : decode cX2_faultOf 29 = .ok (.iload 5, 2) := by decide +kernel
theorem dX2_faultOf_31 : decode cX2_faultOf 31 = .ok (.bipush 32, 2) := by decide +kernel
theorem dX2_faultOf_33 : decode cX2_faultOf 33 = .ok (.if_icmp .ne 9, 3) := by decide +kernel
theorem dX2_faultOf_36 : decode cX2_faultOf 36 = .ok (.iinc 4 1, 3) := by decide +kernel
theorem dX2_faultOf_39 : decode cX2_faultOf 39 = .ok (.goto (-24), 3) := by decide +kernel
theorem dX2_faultOf_42 : decode cX2_faultOf 42 = .ok (.iload 5, 2) := by decide +kernel
theorem dX2_faultOf_44 : decode cX2_faultOf 44 = .ok (.invokestatic 32, 3) := by decide +kernel
theorem dX2_faultOf_47 : decode cX2_faultOf 47 = .ok (.istore 6, 2) := by decide +kernel
theorem dX2_faultOf_49 : decode cX2_faultOf 49 = .ok (.iload 6, 2) := by decide +kernel
theorem dX2_faultOf_51 : decode cX2_faultOf 51 = .ok (.bipush (-9), 2) := by decide +kernel
theorem dX2_faultOf_53 : decode cX2_faultOf 53 = .ok (.if_icmp .eq 9, 3) := by decide +kernel
theorem dX2_faultOf_56 : decode cX2_faultOf 56 = .ok (.iload_n 3, 1) := by decide +kernel
theorem dX2_faultOf_57 : decode cX2_faultOf 57 = .ok (.bipush 9, 2) := by decide +kernel
theorem dX2_faultOf_59 : decode cX2_faultOf 59 = .ok (.if_icmp .lt 6, 3) := by decide +kernel
theorem dX2_faultOf_62 : decode cX2_faultOf 62 = .ok (.iload 4, 2) := by decide +kernel
theorem dX2_faultOf_64 : decode cX2_faultOf 64 = .ok (.ireturn, 1) := by decide +kernel
theorem dX2_faultOf_65 : decode cX2_faultOf 65 = .ok (.iload 4, 2) := by decide +kernel
theorem dX2_faultOf_67 : decode cX2_faultOf 67 = .ok (.iconst 1, 1) := by decide +kernel
theorem dX2_faultOf_68 : decode cX2_faultOf 68 = .ok (.iadd, 1) := by decide +kernel
theorem dX2_faultOf_69 : decode cX2_faultOf 69 = .ok (.iload_n 2, 1) := by decide +kernel
theorem dX2_faultOf_70 : decode cX2_faultOf 70 = .ok (.if_icmp .lt 5, 3) := by decide +kernel
theorem dX2_faultOf_73 : decode cX2_faultOf 73 = .ok (.iload_n 2, 1) := by decide +kernel
theorem dX2_faultOf_74 : decode cX2_faultOf 74 = .ok (.ireturn, 1) := by decide +kernel
theorem dX2_faultOf_75 : decode cX2_faultOf 75 = .ok (.aload_n 1, 1) := by decide +kernel
theorem dX2_faultOf_76 : decode cX2_faultOf 76 = .ok (.iload 4, 2) := by decide +kernel
theorem dX2_faultOf_78 : decode cX2_faultOf 78 = .ok (.iconst 1, 1) := by decide +kernel
theorem dX2_faultOf_79 : decode cX2_faultOf 79 = .ok (.iadd, 1) := by decide +kernel
theorem dX2_faultOf_80 : decode cX2_faultOf 80 = .ok (.invokevirtual 28, 3) := by decide +kernel
theorem dX2_faultOf_83 : decode cX2_faultOf 83 = .ok (.bipush 48, 2) := by decide +kernel
theorem dX2_faultOf_85 : decode cX2_faultOf 85 = .ok (.isub, 1) := by decide +kernel
theorem dX2_faultOf_86 : decode cX2_faultOf 86 = .ok (.istore 7, 2) := by decide +kernel
theorem dX2_faultOf_88 : decode cX2_faultOf 88 = .ok (.iload 7, 2) := by decide +kernel
theorem dX2_faultOf_90 : decode cX2_faultOf 90 = .ok (.ifCond .lt 13, 3) := by decide +kernel
theorem dX2_faultOf_93 : decode cX2_faultOf 93 = .ok (.iload 7, 2) := by decide +kernel
theorem dX2_faultOf_95 : decode cX2_faultOf 95 = .ok (.iload 6, 2) := by decide +kernel
theorem dX2_faultOf_97 : decode cX2_faultOf 97 = .ok (.invokestatic 35, 3) := by decide +kernel
theorem dX2_faultOf_100 : decode cX2_faultOf 100 = .ok (.if_icmp .le 8, 3) := by decide +kernel
theorem dX2_faultOf_103 : decode cX2_faultOf 103 = .ok (.iload 4, 2) := by decide +kernel
theorem dX2_faultOf_105 : decode cX2_faultOf 105 = .ok (.iconst 1, 1) := by decide +kernel
theorem dX2_faultOf_106 : decode cX2_faultOf 106 = .ok (.iadd, 1) := by decide +kernel
theorem dX2_faultOf_107 : decode cX2_faultOf 107 = .ok (.ireturn, 1) := by decide +kernel
theorem dX2_faultOf_108 : decode cX2_faultOf 108 = .ok (.aload_n 0, 1) := by decide +kernel
theorem dX2_faultOf_109 : decode cX2_faultOf 109 = .ok (.getfield 12, 3) := by decide +kernel
theorem dX2_faultOf_112 : decode cX2_faultOf 112 = .ok (.iload_n 3, 1) := by decide +kernel
theorem dX2_faultOf_113 : decode cX2_faultOf 113 = .ok (.iload 6, 2) := by decide +kernel
theorem dX2_faultOf_115 : decode cX2_faultOf 115 = .ok (.invokevirtual 38, 3) := by decide +kernel
theorem dX2_faultOf_118 : decode cX2_faultOf 118 = .ok (.aload_n 0, 1) := by decide +kernel
theorem dX2_faultOf_119 : decode cX2_faultOf 119 = .ok (.aload_n 0, 1) := by decide +kernel
theorem dX2_faultOf_120 : decode cX2_faultOf 120 = .ok (.getfield 18, 3) := by decide +kernel
theorem dX2_faultOf_123 : decode cX2_faultOf 123 = .ok (.iload_n 3, 1) := by decide +kernel
theorem dX2_faultOf_124 : decode cX2_faultOf 124 = .ok (.iload 7, 2) := by decide +kernel
theorem dX2_faultOf_126 : decode cX2_faultOf 126 = .ok (.invokestatic 42, 3) := by decide +kernel
theorem dX2_faultOf_129 : decode cX2_faultOf 129 = .ok (.putfield 18, 3) := by decide +kernel
theorem dX2_faultOf_132 : decode cX2_faultOf 132 = .ok (.iinc 3 1, 3) := by decide +kernel
theorem dX2_faultOf_135 : decode cX2_faultOf 135 = .ok (.iinc 4 2, 3) := by decide +kernel
theorem dX2_faultOf_138 : decode cX2_faultOf 138 = .ok (.goto (-123), 3) := by decide +kernel
theorem dX2_faultOf_141 : decode cX2_faultOf 141 = .ok (.iload_n 3, 1) := by decide +kernel
theorem dX2_faultOf_142 : decode cX2_faultOf 142 = .ok (.bipush 9, 2) := by decide +kernel
theorem dX2_faultOf_144 : decode cX2_faultOf 144 = .ok (.if_icmp .ge 7, 3) := by decide +kernel
theorem dX2_faultOf_147 : decode cX2_faultOf 147 = .ok (.iload_n 2, 1) := by decide +kernel
theorem dX2_faultOf_148 : decode cX2_faultOf 148 = .ok (.goto 5, 3) := by decide +kernel
theorem dX2_faultOf_151 : decode cX2_faultOf 151 = .ok (.bipush (-9), 2) := by decide +kernel
theorem dX2_faultOf_153 : decode cX2_faultOf 153 = .ok (.ireturn, 1) := by decide +kernel
theorem dX2_kindBy_0 : decode cX2_kindBy 0 = .ok (.iload_n 0, 1) := by decide +kernel
theorem dX2_kindBy_1 : decode cX2_kindBy 1 = .ok (.tableswitch 99 102 119 #[97, 99, 93, 99, 99, 91, 87, 99, 99, 99, 99, 99, 99, 99, 89, 99, 99, 95], 87) := by decide +kernel
theorem dX2_kindBy_88 : decode cX2_kindBy 88 = .ok (.iconst 0, 1) := by decide +kernel
theorem dX2_kindBy_89 : decode cX2_kindBy 89 = .ok (.ireturn, 1) := by decide +kernel
theorem dX2_kindBy_90 : decode cX2_kindBy 90 = .ok (.iconst 1, 1) := by decide +kernel
theorem dX2_kindBy_91 : decode cX2_kindBy 91 = .ok (.ireturn, 1) := by decide +kernel
theorem dX2_kindBy_92 : decode cX2_kindBy 92 = .ok (.iconst 2, 1) := by decide +kernel
theorem dX2_kindBy_93 : decode cX2_kindBy 93 = .ok (.ireturn, 1) := by decide +kernel
theorem dX2_kindBy_94 : decode cX2_kindBy 94 = .ok (.iconst 3, 1) := by decide +kernel
theorem dX2_kindBy_95 : decode cX2_kindBy 95 = .ok (.ireturn, 1) := by decide +kernel
theorem dX2_kindBy_96 : decode cX2_kindBy 96 = .ok (.iconst 4, 1) := by decide +kernel
theorem dX2_kindBy_97 : decode cX2_kindBy 97 = .ok (.ireturn, 1) := by decide +kernel
theorem dX2_kindBy_98 : decode cX2_kindBy 98 = .ok (.iconst 5, 1) := by decide +kernel
theorem dX2_kindBy_99 : decode cX2_kindBy 99 = .ok (.ireturn, 1) := by decide +kernel
theorem dX2_kindBy_100 : decode cX2_kindBy 100 = .ok (.bipush (-9), 2) := by decide +kernel
theorem dX2_kindBy_102 : decode cX2_kindBy 102 = .ok (.ireturn, 1) := by decide +kernel
theorem dX3_init_0 : decode cX3_init 0 = .ok (.aload_n 0, 1) := by decide +kernel
theorem dX3_init_1 : decode cX3_init 1 = .ok (.invokespecial 3, 3) := by decide +kernel
theorem dX3_init_4 : decode cX3_init 4 = .ok (.aload_n 0, 1) := by decide +kernel
theorem dX3_init_5 : decode cX3_init 5 = .ok (.iconst (-1), 1) := by decide +kernel
theorem dX3_init_6 : decode cX3_init 6 = .ok (.putfield 9, 3) := by decide +kernel
theorem dX3_init_9 : decode cX3_init 9 = .ok (.aload_n 0, 1) := by decide +kernel
theorem dX3_init_10 : decode cX3_init 10 = .ok (.iload_n 1, 1) := by decide +kernel
theorem dX3_init_11 : decode cX3_init 11 = .ok (.iconst 0, 1) := by decide +kernel
theorem dX3_init_12 : decode cX3_init 12 = .ok (.invokestatic 15, 3) := by decide +kernel
theorem dX3_init_15 : decode cX3_init 15 = .ok (.newarray .int, 2) := by decide +kernel
theorem dX3_init_17 : decode cX3_init 17 = .ok (.putfield 21, 3) := by decide +kernel
theorem dX3_init_20 : decode cX3_init 20 = .ok (.return_, 1) := by decide +kernel
theorem dX3_isThere_0 : decode cX3_isThere 0 = .ok (.aload_n 0, 1) := by decide +kernel
theorem dX3_isThere_1 : decode cX3_isThere 1 = .ok (.getfield 9, 3) := by decide +kernel
theorem dX3_isThere_4 : decode cX3_isThere 4 = .ok (.ifCond .lt 7, 3) := by decide +kernel
theorem dX3_isThere_7 : decode cX3_isThere 7 = .ok (.iconst 1, 1) := by decide +kernel
theorem dX3_isThere_8 : decode cX3_isThere 8 = .ok (.goto 4, 3) := by decide +kernel
theorem dX3_isThere_11 : decode cX3_isThere 11 = .ok (.iconst 0, 1) := by decide +kernel
theorem dX3_isThere_12 : decode cX3_isThere 12 = .ok (.ireturn, 1) := by decide +kernel
theorem dX3_size_0 : decode cX3_size 0 = .ok (.aload_n 0, 1) := by decide +kernel
theorem dX3_size_1 : decode cX3_size 1 = .ok (.getfield 9, 3) := by decide +kernel
theorem dX3_size_4 : decode cX3_size 4 = .ok (.iconst 0, 1) := by decide +kernel
theorem dX3_size_5 : decode cX3_size 5 = .ok (.invokestatic 15, 3) := by decide +kernel
theorem dX3_size_8 : decode cX3_size 8 = .ok (.ireturn, 1) := by decide +kernel
theorem dX3_has_0 : decode cX3_has 0 = .ok (.iload_n 1, 1) := by decide +kernel
theorem dX3_has_1 : decode cX3_has 1 = .ok (.ifCond .lt 24, 3) := by decide +kernel
theorem dX3_has_4 : decode cX3_has 4 = .ok (.iload_n 1, 1) := by decide +kernel
theorem dX3_has_5 : decode cX3_has 5 = .ok (.aload_n 0, 1) := by decide +kernel
theorem dX3_has_6 : decode cX3_has 6 = .ok (.getfield 9, 3) := by decide +kernel
theorem dX3_has_9 : decode cX3_has 9 = .ok (.if_icmp .ge 16, 3) := by decide +kernel
theorem dX3_has_12 : decode cX3_has 12 = .ok (.iload_n 1, 1) := by decide +kernel
theorem dX3_has_13 : decode cX3_has 13 = .ok (.aload_n 0, 1) := by decide +kernel
theorem dX3_has_14 : decode cX3_has 14 = .ok (.getfield 21, 3) := by decide +kernel
theorem dX3_has_17 : decode cX3_has 17 = .ok (.arraylength, 1) := by decide +kernel
theorem dX3_has_18 : decode cX3_has 18 = .ok (.if_icmp .ge 7, 3) := by decide +kernel
theorem dX3_has_21 : decode cX3_has 21 = .ok (.iconst 1, 1) := by decide +kernel
theorem dX3_has_22 : decode cX3_has 22 = .ok (.goto 4, 3) := by decide +kernel
theorem dX3_has_25 : decode cX3_has 25 = .ok (.iconst 0, 1) := by decide +kernel
theorem dX3_has_26 : decode cX3_has 26 = .ok (.ireturn, 1) := by decide +kernel
theorem dX3_hasRun_0 : decode cX3_hasRun 0 = .ok (.iload_n 1, 1) := by decide +kernel
theorem dX3_hasRun_1 : decode cX3_hasRun 1 = .ok (.ifCond .lt 25, 3) := by decide +kernel
theorem dX3_hasRun_4 : decode cX3_hasRun 4 = .ok (.iload_n 2, 1) := by decide +kernel
theorem dX3_hasRun_5 : decode cX3_hasRun 5 = .ok (.ifCond .lt 21, 3) := by decide +kernel
theorem dX3_hasRun_8 : decode cX3_hasRun 8 = .ok (.iload_n 1, 1) := by decide +kernel
theorem dX3_hasRun_9 : decode cX3_hasRun 9 = .ok (.i2l, 1) := by decide +kernel
theorem dX3_hasRun_10 : decode cX3_hasRun 10 = .ok (.iload_n 2, 1) := by decide +kernel
theorem dX3_hasRun_11 : decode cX3_hasRun 11 = .ok (.i2l, 1) := by decide +kernel
theorem dX3_hasRun_12 : decode cX3_hasRun 12 = .ok (.ladd, 1) := by decide +kernel
theorem dX3_hasRun_13 : decode cX3_hasRun 13 = .ok (.aload_n 0, 1) := by decide +kernel
theorem dX3_hasRun_14 : decode cX3_hasRun 14 = .ok (.getfield 9, 3) := by decide +kernel
theorem dX3_hasRun_17 : decode cX3_hasRun 17 = .ok (.i2l, 1) := by decide +kernel
theorem dX3_hasRun_18 : decode cX3_hasRun 18 = .ok (.lcmp, 1) := by decide +kernel
theorem dX3_hasRun_19 : decode cX3_hasRun 19 = .ok (.ifCond .gt 7, 3) := by decide +kernel
theorem dX3_hasRun_22 : decode cX3_hasRun 22 = .ok (.iconst 1, 1) := by decide +kernel
theorem dX3_hasRun_23 : decode cX3_hasRun 23 = .ok (.goto 4, 3) := by decide +kernel
theorem dX3_hasRun_26 : decode cX3_hasRun 26 = .ok (.iconst 0, 1) := by decide +kernel
theorem dX3_hasRun_27 : decode cX3_hasRun 27 = .ok (.ireturn, 1) := by decide +kernel
theorem dX3_valueAt_0 : decode cX3_valueAt 0 = .ok (.aload_n 0, 1) := by decide +kernel
theorem dX3_valueAt_1 : decode cX3_valueAt 1 = .ok (.iload_n 1, 1) := by decide +kernel
theorem dX3_valueAt_2 : decode cX3_valueAt 2 = .ok (.invokevirtual 25, 3) := by decide +kernel
theorem dX3_valueAt_5 : decode cX3_valueAt 5 = .ok (.ifCond .eq 12, 3) := by decide +kernel
theorem dX3_valueAt_8 : decode cX3_valueAt 8 = .ok (.aload_n 0, 1) := by decide +kernel
theorem dX3_valueAt_9 : decode cX3_valueAt 9 = .ok (.getfield 21, 3) := by decide +kernel
theorem dX3_valueAt_12 : decode cX3_valueAt 12 = .ok (.iload_n 1, 1) := by decide +kernel
theorem dX3_valueAt_13 : decode cX3_valueAt 13 = .ok (.iaload, 1) := by decide +kernel
theorem dX3_valueAt_14 : decode cX3_valueAt 14 = .ok (.goto 4, 3) := by decide +kernel
theorem dX3_valueAt_17 : decode cX3_valueAt 17 = .ok (.iconst 0, 1) := by decide +kernel
theorem dX3_valueAt_18 : decode cX3_valueAt 18 = .ok (.ireturn, 1) := by decide +kernel
theorem dX3_change_0 : decode cX3_change 0 = .ok (.aload_n 0, 1) := by decide +kernel
theorem dX3_change_1 : decode cX3_change 1 = .ok (.iload_n 1, 1) := by decide +kernel
theorem dX3_change_2 : decode cX3_change 2 = .ok (.invokevirtual 25, 3) := by decide +kernel
theorem dX3_change_5 : decode cX3_change 5 = .ok (.ifCond .eq 10, 3) := by decide +kernel
theorem dX3_change_8 : decode cX3_change 8 = .ok (.aload_n 0, 1) := by decide +kernel
theorem dX3_change_9 : decode cX3_change 9 = .ok (.getfield 21, 3) := by decide +kernel
theorem dX3_change_12 : decode cX3_change 12 = .ok (.iload_n 1, 1) := by decide +kernel
theorem dX3_change_13 : decode cX3_change 13 = .ok (.iload_n 2, 1) := by decide +kernel
theorem dX3_change_14 : decode cX3_change 14 = .ok (.iastore, 1) := by decide +kernel
theorem dX3_change_15 : decode cX3_change 15 = .ok (.return_, 1) := by decide +kernel
theorem dX3_make_0 : decode cX3_make 0 = .ok (.iload_n 1, 1) := by decide +kernel
theorem dX3_make_1 : decode cX3_make 1 = .ok (.ifCond .lt 37, 3) := by decide +kernel
theorem dX3_make_4 : decode cX3_make 4 = .ok (.iload_n 1, 1) := by decide +kernel
theorem dX3_make_5 : decode cX3_make 5 = .ok (.aload_n 0, 1) := by decide +kernel
theorem dX3_make_6 : decode cX3_make 6 = .ok (.getfield 21, 3) := by decide +kernel
theorem dX3_make_9 : decode cX3_make 9 = .ok (.arraylength, 1) := by decide +kernel
theorem dX3_make_10 : decode cX3_make 10 = .ok (.if_icmp .gt 28, 3) := by decide +kernel
theorem dX3_make_13 : decode cX3_make 13 = .ok (.aload_n 0, 1) := by decide +kernel
theorem dX3_make_14 : decode cX3_make 14 = .ok (.iload_n 1, 1) := by decide +kernel
theorem dX3_make_15 : decode cX3_make 15 = .ok (.putfield 9, 3) := by decide +kernel
theorem dX3_make_18 : decode cX3_make 18 = .ok (.iconst 0, 1) := by decide +kernel
theorem dX3_make_19 : decode cX3_make 19 = .ok (.istore_n 3, 1) := by decide +kernel
theorem dX3_make_20 : decode cX3_make 20 = .ok (.iload_n 3, 1) := by decide +kernel
theorem dX3_make_21 : decode cX3_make 21 = .ok (.iload_n 1, 1) := by decide +kernel
theorem dX3_make_22 : decode cX3_make 22 = .ok (.if_icmp .ge 16, 3) := by decide +kernel
theorem dX3_make_25 : decode cX3_make 25 = .ok (.aload_n 0, 1) := by decide +kernel
theorem dX3_make_26 : decode cX3_make 26 = .ok (.getfield 21, 3) := by decide +kernel
theorem dX3_make_29 : decode cX3_make 29 = .ok (.iload_n 3, 1) := by decide +kernel
theorem dX3_make_30 : decode cX3_make 30 = .ok (.iload_n 2, 1) := by decide +kernel
theorem dX3_make_31 : decode cX3_make 31 = .ok (.iastore, 1) := by decide +kernel
theorem dX3_make_32 : decode cX3_make 32 = .ok (.iinc 3 1, 3) := by decide +kernel
theorem dX3_make_35 : decode cX3_make 35 = .ok (.goto (-15), 3) := by decide +kernel
theorem dX3_make_38 : decode cX3_make 38 = .ok (.return_, 1) := by decide +kernel
theorem dX3_remove_0 : decode cX3_remove 0 = .ok (.aload_n 0, 1) := by decide +kernel
theorem dX3_remove_1 : decode cX3_remove 1 = .ok (.iconst (-1), 1) := by decide +kernel
theorem dX3_remove_2 : decode cX3_remove 2 = .ok (.putfield 9, 3) := by decide +kernel
theorem dX3_remove_5 : decode cX3_remove 5 = .ok (.return_, 1) := by decide +kernel
theorem dX3_takeRun_0 : decode cX3_takeRun 0 = .ok (.aload_n 1, 1) := by decide +kernel
theorem dX3_takeRun_1 : decode cX3_takeRun 1 = .ok (.iload_n 2, 1) := by decide +kernel
theorem dX3_takeRun_2 : decode cX3_takeRun 2 = .ok (.iload 4, 2) := by decide +kernel
theorem dX3_takeRun_4 : decode cX3_takeRun 4 = .ok (.invokevirtual 29, 3) := by decide +kernel
theorem dX3_takeRun_7 : decode cX3_takeRun 7 = .ok (.ifCond .eq 28, 3) := by decide +kernel
theorem dX3_takeRun_10 : decode cX3_takeRun 10 = .ok (.aload_n 0, 1) := by decide +kernel
theorem dX3_takeRun_11 : decode cX3_takeRun 11 = .ok (.iload_n 3, 1) := by decide +kernel
theorem dX3_takeRun_12 : decode cX3_takeRun 12 = .ok (.iload 4, 2) := by decide +kernel
theorem dX3_takeRun_14 : decode cX3_takeRun 14 = .ok (.invokevirtual 29, 3) := by decide +kernel
theorem dX3_takeRun_17 : decode cX3_takeRun 17 = .ok (.ifCond .eq 18, 3) := by decide +kernel
theorem dX3_takeRun_20 : decode cX3_takeRun 20 = .ok (.aload_n 1, 1) := by decide +kernel
theorem dX3_takeRun_21 : decode cX3_takeRun 21 = .ok (.getfield 21, 3) := by decide +kernel
theorem dX3_takeRun_24 : decode cX3_takeRun 24 = .ok (.iload_n 2, 1) := by decide +kernel
theorem dX3_takeRun_25 : decode cX3_takeRun 25 = .ok (.aload_n 0, 1) := by decide +kernel
theorem dX3_takeRun_26 : decode cX3_takeRun 26 = .ok (.getfield 21, 3) := by decide +kernel
theorem dX3_takeRun_29 : decode cX3_takeRun 29 = .ok (.iload_n 3, 1) := by decide +kernel
theorem dX3_takeRun_30 : decode cX3_takeRun 30 = .ok (.iload 4, 2) := by decide +kernel
theorem dX3_takeRun_32 : decode cX3_takeRun 32 = .ok (.invokestatic 33, 3) := by decide +kernel
theorem dX3_takeRun_35 : decode cX3_takeRun 35 = .ok (.return_, 1) := by decide +kernel
theorem dX3_total_0 : decode cX3_total 0 = .ok (.lconst 0, 1) := by decide +kernel
theorem dX3_total_1 : decode cX3_total 1 = .ok (.lstore_n 1, 1) := by decide +kernel
theorem dX3_total_2 : decode cX3_total 2 = .ok (.iconst 0, 1) := by decide +kernel
theorem dX3_total_3 : decode cX3_total 3 = .ok (.istore_n 3, 1) := by decide +kernel
theorem dX3_total_4 : decode cX3_total 4 = .ok (.iload_n 3, 1) := by decide +kernel
theorem dX3_total_5 : decode cX3_total 5 = .ok (.aload_n 0, 1) := by decide +kernel
theorem dX3_total_6 : decode cX3_total 6 = .ok (.getfield 9, 3) := by decide +kernel
theorem dX3_total_9 : decode cX3_total 9 = .ok (.if_icmp .ge 18, 3) := by decide +kernel
theorem dX3_total_12 : decode cX3_total 12 = .ok (.lload_n 1, 1) := by decide +kernel
theorem dX3_total_13 : decode cX3_total 13 = .ok (.aload_n 0, 1) := by decide +kernel
theorem dX3_total_14 : decode cX3_total 14 = .ok (.iload_n 3, 1) := by decide +kernel
theorem dX3_total_15 : decode cX3_total 15 = .ok (.invokevirtual 39, 3) := by decide +kernel
theorem dX3_total_18 : decode cX3_total 18 = .ok (.i2l, 1) := by decide +kernel
theorem dX3_total_19 : decode cX3_total 19 = .ok (.ladd, 1) := by decide +kernel
theorem dX3_total_20 : decode cX3_total 20 = .ok (.lstore_n 1, 1) := by decide +kernel
theorem dX3_total_21 : decode cX3_total 21 = .ok (.iinc 3 1, 3) := by decide +kernel
theorem dX3_total_24 : decode cX3_total 24 = .ok (.goto (-20), 3) := by decide +kernel
theorem dX3_total_27 : decode cX3_total 27 = .ok (.lload_n 1, 1) := by decide +kernel
theorem dX3_total_28 : decode cX3_total 28 = .ok (.lreturn, 1) := by decide +kernel
theorem dX3_mixedInto_0 : decode cX3_mixedInto 0 = .ok (.ldc2_w 43, 3) := by decide +kernel
theorem dX3_mixedInto_3 : decode cX3_mixedInto 3 = .ok (.lload_n 1, 1) := by decide +kernel
theorem dX3_mixedInto_4 : decode cX3_mixedInto 4 = .ok (.lmul, 1) := by decide +kernel
theorem dX3_mixedInto_5 : decode cX3_mixedInto 5 = .ok (.aload_n 0, 1) := by decide +kernel
theorem dX3_mixedInto_6 : decode cX3_mixedInto 6 = .ok (.getfield 9, 3) := by decide +kernel
theorem dX3_mixedInto_9 : decode cX3_mixedInto 9 = .ok (.i2l, 1) := by decide +kernel
theorem dX3_mixedInto_10 : decode cX3_mixedInto 10 = .ok (.ladd, 1) := by decide +kernel
theorem dX3_mixedInto_11 : decode cX3_mixedInto 11 = .ok (.lstore_n 3, 1) := by decide +kernel
theorem dX3_mixedInto_12 : decode cX3_mixedInto 12 = .ok (.iconst 0, 1) := by decide +kernel
theorem dX3_mixedInto_13 : decode cX3_mixedInto 13 = .ok (.istore 5, 2) := by decide +kernel
theorem dX3_mixedInto_15 : decode cX3_mixedInto 15 = .ok (.iload 5, 2) := by decide +kernel
theorem dX3_mixedInto_17 : decode cX3_mixedInto 17 = .ok (.aload_n 0, 1) := by decide +kernel
theorem dX3_mixedInto_18 : decode cX3_mixedInto 18 = .ok (.getfield 9, 3) := by decide +kernel
theorem dX3_mixedInto_21 : decode cX3_mixedInto 21 = .ok (.if_icmp .ge 23, 3) := by decide +kernel
theorem dX3_mixedInto_24 : decode cX3_mixedInto 24 = .ok (.ldc2_w 43, 3) := by decide +kernel
theorem dX3_mixedInto_27 : decode cX3_mixedInto 27 = .ok (.lload_n 3, 1) := by decide +kernel
theorem dX3_mixedInto_28 : decode cX3_mixedInto 28 = .ok (.lmul, 1) := by decide +kernel
theorem dX3_mixedInto_29 : decode cX3_mixedInto 29 = .ok (.aload_n 0, 1) := by decide +kernel
theorem dX3_mixedInto_30 : decode cX3_mixedInto 30 = .ok (.iload 5, 2) := by decide +kernel
theorem dX3_mixedInto_32 : decode cX3_mixedInto 32 = .ok (.invokevirtual 39, 3) := by decide +kernel
theorem dX3_mixedInto_35 : decode cX3_mixedInto 35 = .ok (.i2l, 1) := by decide +kernel
theorem dX3_mixedInto_36 : decode cX3_mixedInto 36 = .ok (.ladd, 1) := by decide +kernel
theorem dX3_mixedInto_37 : decode cX3_mixedInto 37 = .ok (.lstore_n 3, 1) := by decide +kernel
theorem dX3_mixedInto_38 : decode cX3_mixedInto 38 = .ok (.iinc 5 1, 3) := by decide +kernel
theorem dX3_mixedInto_41 : decode cX3_mixedInto 41 = .ok (.goto (-26), 3) := by decide +kernel
theorem dX3_mixedInto_44 : decode cX3_mixedInto 44 = .ok (.lload_n 3, 1) := by decide +kernel
theorem dX3_mixedInto_45 : decode cX3_mixedInto 45 = .ok (.lreturn, 1) := by decide +kernel
theorem dX4_join_0 : decode cX4_join 0 = .ok (.iload_n 0, 1) := by decide +kernel
theorem dX4_join_1 : decode cX4_join 1 = .ok (.iload_n 1, 1) := by decide +kernel
theorem dX4_join_2 : decode cX4_join 2 = .ok (.bipush 9, 2) := by decide +kernel
theorem dX4_join_4 : decode cX4_join 4 = .ok (.ishl, 1) := by decide +kernel
theorem dX4_join_5 : decode cX4_join 5 = .ok (.ior, 1) := by decide +kernel
theorem dX4_join_6 : decode cX4_join 6 = .ok (.iload_n 2, 1) := by decide +kernel
theorem dX4_join_7 : decode cX4_join 7 = .ok (.bipush 18, 2) := by decide +kernel
theorem dX4_join_9 : decode cX4_join 9 = .ok (.ishl, 1) := by decide +kernel
theorem dX4_join_10 : decode cX4_join 10 = .ok (.ior, 1) := by decide +kernel
theorem dX4_join_11 : decode cX4_join 11 = .ok (.ireturn, 1) := by decide +kernel
theorem dX4_ones_0 : decode cX4_ones 0 = .ok (.iload_n 0, 1) := by decide +kernel
theorem dX4_ones_1 : decode cX4_ones 1 = .ok (.sipush 511, 3) := by decide +kernel
theorem dX4_ones_4 : decode cX4_ones 4 = .ok (.iand, 1) := by decide +kernel
theorem dX4_ones_5 : decode cX4_ones 5 = .ok (.ireturn, 1) := by decide +kernel
theorem dX4_twos_0 : decode cX4_twos 0 = .ok (.iload_n 0, 1) := by decide +kernel
theorem dX4_twos_1 : decode cX4_twos 1 = .ok (.bipush 9, 2) := by decide +kernel
theorem dX4_twos_3 : decode cX4_twos 3 = .ok (.ishr, 1) := by decide +kernel
theorem dX4_twos_4 : decode cX4_twos 4 = .ok (.sipush 511, 3) := by decide +kernel
theorem dX4_twos_7 : decode cX4_twos 7 = .ok (.iand, 1) := by decide +kernel
theorem dX4_twos_8 : decode cX4_twos 8 = .ok (.ireturn, 1) := by decide +kernel
theorem dX4_broken_0 : decode cX4_broken 0 = .ok (.iload_n 0, 1) := by decide +kernel
theorem dX4_broken_1 : decode cX4_broken 1 = .ok (.bipush 18, 2) := by decide +kernel
theorem dX4_broken_3 : decode cX4_broken 3 = .ok (.ishr, 1) := by decide +kernel
theorem dX4_broken_4 : decode cX4_broken 4 = .ok (.sipush 511, 3) := by decide +kernel
theorem dX4_broken_7 : decode cX4_broken 7 = .ok (.iand, 1) := by decide +kernel
theorem dX4_broken_8 : decode cX4_broken 8 = .ok (.ireturn, 1) := by decide +kernel
theorem dX4_above_0 : decode cX4_above 0 = .ok (.iload_n 0, 1) := by decide +kernel
theorem dX4_above_1 : decode cX4_above 1 = .ok (.invokestatic 11, 3) := by decide +kernel
theorem dX4_above_4 : decode cX4_above 4 = .ok (.iload_n 0, 1) := by decide +kernel
theorem dX4_above_5 : decode cX4_above 5 = .ok (.invokestatic 15, 3) := by decide +kernel
theorem dX4_above_8 : decode cX4_above 8 = .ok (.ior, 1) := by decide +kernel
theorem dX4_above_9 : decode cX4_above 9 = .ok (.ireturn, 1) := by decide +kernel
theorem dX4_of_0 : decode cX4_of 0 = .ok (.iload_n 0, 1) := by decide +kernel
theorem dX4_of_1 : decode cX4_of 1 = .ok (.invokestatic 11, 3) := by decide +kernel
theorem dX4_of_4 : decode cX4_of 4 = .ok (.iload_n 1, 1) := by decide +kernel
theorem dX4_of_5 : decode cX4_of 5 = .ok (.ishr, 1) := by decide +kernel
theorem dX4_of_6 : decode cX4_of 6 = .ok (.iconst 1, 1) := by decide +kernel
theorem dX4_of_7 : decode cX4_of 7 = .ok (.iand, 1) := by decide +kernel
theorem dX4_of_8 : decode cX4_of 8 = .ok (.iconst 2, 1) := by decide +kernel
theorem dX4_of_9 : decode cX4_of 9 = .ok (.iload_n 0, 1) := by decide +kernel
theorem dX4_of_10 : decode cX4_of 10 = .ok (.invokestatic 15, 3) := by decide +kernel
theorem dX4_of_13 : decode cX4_of 13 = .ok (.iload_n 1, 1) := by decide +kernel
theorem dX4_of_14 : decode cX4_of 14 = .ok (.ishr, 1) := by decide +kernel
theorem dX4_of_15 : decode cX4_of 15 = .ok (.iconst 1, 1) := by decide +kernel
theorem dX4_of_16 : decode cX4_of 16 = .ok (.iand, 1) := by decide +kernel
theorem dX4_of_17 : decode cX4_of 17 = .ok (.imul, 1) := by decide +kernel
theorem dX4_of_18 : decode cX4_of 18 = .ok (.iadd, 1) := by decide +kernel
theorem dX4_of_19 : decode cX4_of 19 = .ok (.ireturn, 1) := by decide +kernel
theorem dX4_with_0 : decode cX4_with 0 = .ok (.iconst 1, 1) := by decide +kernel
theorem dX4_with_1 : decode cX4_with 1 = .ok (.iload_n 1, 1) := by decide +kernel
theorem dX4_with_2 : decode cX4_with 2 = .ok (.ishl, 1) := by decide +kernel
theorem dX4_with_3 : decode cX4_with 3 = .ok (.iconst (-1), 1) := by decide +kernel
theorem dX4_with_4 : decode cX4_with 4 = .ok (.ixor, 1) := by decide +kernel
theorem dX4_with_5 : decode cX4_with 5 = .ok (.istore_n 3, 1) := by decide +kernel
theorem dX4_with_6 : decode cX4_with 6 = .ok (.iload_n 0, 1) := by decide +kernel
theorem dX4_with_7 : decode cX4_with 7 = .ok (.invokestatic 11, 3) := by decide +kernel
theorem dX4_with_10 : decode cX4_with 10 = .ok (.iload_n 3, 1) := by decide +kernel
theorem dX4_with_11 : decode cX4_with 11 = .ok (.iand, 1) := by decide +kernel
theorem dX4_with_12 : decode cX4_with 12 = .ok (.iload_n 2, 1) := by decide +kernel
theorem dX4_with_13 : decode cX4_with 13 = .ok (.iconst 1, 1) := by decide +kernel
theorem dX4_with_14 : decode cX4_with 14 = .ok (.iand, 1) := by decide +kernel
theorem dX4_with_15 : decode cX4_with 15 = .ok (.iload_n 1, 1) := by decide +kernel
theorem dX4_with_16 : decode cX4_with 16 = .ok (.ishl, 1) := by decide +kernel
theorem dX4_with_17 : decode cX4_with 17 = .ok (.ior, 1) := by decide +kernel
theorem dX4_with_18 : decode cX4_with 18 = .ok (.istore 4, 2) := by decide +kernel
theorem dX4_with_20 : decode cX4_with 20 = .ok (.iload_n 0, 1) := by decide +kernel
theorem dX4_with_21 : decode cX4_with 21 = .ok (.invokestatic 15, 3) := by decide +kernel
theorem dX4_with_24 : decode cX4_with 24 = .ok (.iload_n 3, 1) := by decide +kernel
theorem dX4_with_25 : decode cX4_with 25 = .ok (.iand, 1) := by decide +kernel
theorem dX4_with_26 : decode cX4_with 26 = .ok (.iload_n 2, 1) := by decide +kernel
theorem dX4_with_27 : decode cX4_with 27 = .ok (.iconst 1, 1) := by decide +kernel
theorem dX4_with_28 : decode cX4_with 28 = .ok (.ishr, 1) := by decide +kernel
theorem dX4_with_29 : decode cX4_with 29 = .ok (.iconst 1, 1) := by decide +kernel
theorem dX4_with_30 : decode cX4_with 30 = .ok (.iand, 1) := by decide +kernel
theorem dX4_with_31 : decode cX4_with 31 = .ok (.iload_n 1, 1) := by decide +kernel
theorem dX4_with_32 : decode cX4_with 32 = .ok (.ishl, 1) := by decide +kernel
theorem dX4_with_33 : decode cX4_with 33 = .ok (.ior, 1) := by decide +kernel
theorem dX4_with_34 : decode cX4_with 34 = .ok (.istore 5, 2) := by decide +kernel
theorem dX4_with_36 : decode cX4_with 36 = .ok (.iload 4, 2) := by decide +kernel
theorem dX4_with_38 : decode cX4_with 38 = .ok (.iload 5, 2) := by decide +kernel
theorem dX4_with_40 : decode cX4_with 40 = .ok (.iload_n 0, 1) := by decide +kernel
theorem dX4_with_41 : decode cX4_with 41 = .ok (.invokestatic 18, 3) := by decide +kernel
theorem dX4_with_44 : decode cX4_with 44 = .ok (.invokestatic 21, 3) := by decide +kernel
theorem dX4_with_47 : decode cX4_with 47 = .ok (.ireturn, 1) := by decide +kernel
theorem dX4_withBroken_0 : decode cX4_withBroken 0 = .ok (.iload_n 0, 1) := by decide +kernel
theorem dX4_withBroken_1 : decode cX4_withBroken 1 = .ok (.invokestatic 11, 3) := by decide +kernel
theorem dX4_withBroken_4 : decode cX4_withBroken 4 = .ok (.iload_n 0, 1) := by decide +kernel
theorem dX4_withBroken_5 : decode cX4_withBroken 5 = .ok (.invokestatic 15, 3) := by decide +kernel
theorem dX4_withBroken_8 : decode cX4_withBroken 8 = .ok (.iload_n 1, 1) := by decide +kernel
theorem dX4_withBroken_9 : decode cX4_withBroken 9 = .ok (.invokestatic 21, 3) := by decide +kernel
theorem dX4_withBroken_12 : decode cX4_withBroken 12 = .ok (.ireturn, 1) := by decide +kernel
theorem dX4_total_0 : decode cX4_total 0 = .ok (.iload_n 0, 1) := by decide +kernel
theorem dX4_total_1 : decode cX4_total 1 = .ok (.invokestatic 11, 3) := by decide +kernel
theorem dX4_total_4 : decode cX4_total 4 = .ok (.iload_n 1, 1) := by decide +kernel
theorem dX4_total_5 : decode cX4_total 5 = .ok (.iand, 1) := by decide +kernel
theorem dX4_total_6 : decode cX4_total 6 = .ok (.invokestatic 25, 3) := by decide +kernel
theorem dX4_total_9 : decode cX4_total 9 = .ok (.iconst 2, 1) := by decide +kernel
theorem dX4_total_10 : decode cX4_total 10 = .ok (.iload_n 0, 1) := by decide +kernel
theorem dX4_total_11 : decode cX4_total 11 = .ok (.invokestatic 15, 3) := by decide +kernel
theorem dX4_total_14 : decode cX4_total 14 = .ok (.iload_n 1, 1) := by decide +kernel
theorem dX4_total_15 : decode cX4_total 15 = .ok (.iand, 1) := by decide +kernel
theorem dX4_total_16 : decode cX4_total 16 = .ok (.invokestatic 25, 3) := by decide +kernel
theorem dX4_total_19 : decode cX4_total 19 = .ok (.imul, 1) := by decide +kernel
theorem dX4_total_20 : decode cX4_total 20 = .ok (.iadd, 1) := by decide +kernel
theorem dX4_total_21 : decode cX4_total 21 = .ok (.ireturn, 1) := by decide +kernel
theorem dJ6_bitCount_0f7a4_0 : decode cJ6_bitCount_0f7a4 0 = .ok (.iload_n 0, 1) := by decide +kernel
theorem dJ6_bitCount_0f7a4_1 : decode cJ6_bitCount_0f7a4 1 = .ok (.iload_n 0, 1) := by decide +kernel
theorem dJ6_bitCount_0f7a4_2 : decode cJ6_bitCount_0f7a4 2 = .ok (.iconst 1, 1) := by decide +kernel
theorem dJ6_bitCount_0f7a4_3 : decode cJ6_bitCount_0f7a4 3 = .ok (.iushr, 1) := by decide +kernel
theorem dJ6_bitCount_0f7a4_4 : decode cJ6_bitCount_0f7a4 4 = .ok (.ldc_w 265, 3) := by decide +kernel
theorem dJ6_bitCount_0f7a4_7 : decode cJ6_bitCount_0f7a4 7 = .ok (.iand, 1) := by decide +kernel
theorem dJ6_bitCount_0f7a4_8 : decode cJ6_bitCount_0f7a4 8 = .ok (.isub, 1) := by decide +kernel
theorem dJ6_bitCount_0f7a4_9 : decode cJ6_bitCount_0f7a4 9 = .ok (.istore_n 0, 1) := by decide +kernel
theorem dJ6_bitCount_0f7a4_10 : decode cJ6_bitCount_0f7a4 10 = .ok (.iload_n 0, 1) := by decide +kernel
theorem dJ6_bitCount_0f7a4_11 : decode cJ6_bitCount_0f7a4 11 = .ok (.ldc_w 266, 3) := by decide +kernel
theorem dJ6_bitCount_0f7a4_14 : decode cJ6_bitCount_0f7a4 14 = .ok (.iand, 1) := by decide +kernel
theorem dJ6_bitCount_0f7a4_15 : decode cJ6_bitCount_0f7a4 15 = .ok (.iload_n 0, 1) := by decide +kernel
theorem dJ6_bitCount_0f7a4_16 : decode cJ6_bitCount_0f7a4 16 = .ok (.iconst 2, 1) := by decide +kernel
theorem dJ6_bitCount_0f7a4_17 : decode cJ6_bitCount_0f7a4 17 = .ok (.iushr, 1) := by decide +kernel
theorem dJ6_bitCount_0f7a4_18 : decode cJ6_bitCount_0f7a4 18 = .ok (.ldc_w 266, 3) := by decide +kernel
theorem dJ6_bitCount_0f7a4_21 : decode cJ6_bitCount_0f7a4 21 = .ok (.iand, 1) := by decide +kernel
theorem dJ6_bitCount_0f7a4_22 : decode cJ6_bitCount_0f7a4 22 = .ok (.iadd, 1) := by decide +kernel
theorem dJ6_bitCount_0f7a4_23 : decode cJ6_bitCount_0f7a4 23 = .ok (.istore_n 0, 1) := by decide +kernel
theorem dJ6_bitCount_0f7a4_24 : decode cJ6_bitCount_0f7a4 24 = .ok (.iload_n 0, 1) := by decide +kernel
theorem dJ6_bitCount_0f7a4_25 : decode cJ6_bitCount_0f7a4 25 = .ok (.iload_n 0, 1) := by decide +kernel
theorem dJ6_bitCount_0f7a4_26 : decode cJ6_bitCount_0f7a4 26 = .ok (.iconst 4, 1) := by decide +kernel
theorem dJ6_bitCount_0f7a4_27 : decode cJ6_bitCount_0f7a4 27 = .ok (.iushr, 1) := by decide +kernel
theorem dJ6_bitCount_0f7a4_28 : decode cJ6_bitCount_0f7a4 28 = .ok (.iadd, 1) := by decide +kernel
theorem dJ6_bitCount_0f7a4_29 : decode cJ6_bitCount_0f7a4 29 = .ok (.ldc_w 267, 3) := by decide +kernel
theorem dJ6_bitCount_0f7a4_32 : decode cJ6_bitCount_0f7a4 32 = .ok (.iand, 1) := by decide +kernel
theorem dJ6_bitCount_0f7a4_33 : decode cJ6_bitCount_0f7a4 33 = .ok (.istore_n 0, 1) := by decide +kernel
theorem dJ6_bitCount_0f7a4_34 : decode cJ6_bitCount_0f7a4 34 = .ok (.iload_n 0, 1) := by decide +kernel
theorem dJ6_bitCount_0f7a4_35 : decode cJ6_bitCount_0f7a4 35 = .ok (.iload_n 0, 1) := by decide +kernel
theorem dJ6_bitCount_0f7a4_36 : decode cJ6_bitCount_0f7a4 36 = .ok (.bipush 8, 2) := by decide +kernel
theorem dJ6_bitCount_0f7a4_38 : decode cJ6_bitCount_0f7a4 38 = .ok (.iushr, 1) := by decide +kernel
theorem dJ6_bitCount_0f7a4_39 : decode cJ6_bitCount_0f7a4 39 = .ok (.iadd, 1) := by decide +kernel
theorem dJ6_bitCount_0f7a4_40 : decode cJ6_bitCount_0f7a4 40 = .ok (.istore_n 0, 1) := by decide +kernel
theorem dJ6_bitCount_0f7a4_41 : decode cJ6_bitCount_0f7a4 41 = .ok (.iload_n 0, 1) := by decide +kernel
theorem dJ6_bitCount_0f7a4_42 : decode cJ6_bitCount_0f7a4 42 = .ok (.iload_n 0, 1) := by decide +kernel
theorem dJ6_bitCount_0f7a4_43 : decode cJ6_bitCount_0f7a4 43 = .ok (.bipush 16, 2) := by decide +kernel
theorem dJ6_bitCount_0f7a4_45 : decode cJ6_bitCount_0f7a4 45 = .ok (.iushr, 1) := by decide +kernel
theorem dJ6_bitCount_0f7a4_46 : decode cJ6_bitCount_0f7a4 46 = .ok (.iadd, 1) := by decide +kernel
theorem dJ6_bitCount_0f7a4_47 : decode cJ6_bitCount_0f7a4 47 = .ok (.istore_n 0, 1) := by decide +kernel
theorem dJ6_bitCount_0f7a4_48 : decode cJ6_bitCount_0f7a4 48 = .ok (.iload_n 0, 1) := by decide +kernel
theorem dJ6_bitCount_0f7a4_49 : decode cJ6_bitCount_0f7a4 49 = .ok (.bipush 63, 2) := by decide +kernel
theorem dJ6_bitCount_0f7a4_51 : decode cJ6_bitCount_0f7a4 51 = .ok (.iand, 1) := by decide +kernel
theorem dJ6_bitCount_0f7a4_52 : decode cJ6_bitCount_0f7a4 52 = .ok (.ireturn, 1) := by decide +kernel
theorem dJ9_max_7cf53_0 : decode cJ9_max_7cf53 0 = .ok (.iload_n 0, 1) := by decide +kernel
theorem dJ9_max_7cf53_1 : decode cJ9_max_7cf53 1 = .ok (.iload_n 1, 1) := by decide +kernel
theorem dJ9_max_7cf53_2 : decode cJ9_max_7cf53 2 = .ok (.if_icmp .lt 7, 3) := by decide +kernel
theorem dJ9_max_7cf53_5 : decode cJ9_max_7cf53 5 = .ok (.iload_n 0, 1) := by decide +kernel
theorem dJ9_max_7cf53_6 : decode cJ9_max_7cf53 6 = .ok (.goto 4, 3) := by decide +kernel
theorem dJ9_max_7cf53_9 : decode cJ9_max_7cf53 9 = .ok (.iload_n 1, 1) := by decide +kernel
theorem dJ9_max_7cf53_10 : decode cJ9_max_7cf53 10 = .ok (.ireturn, 1) := by decide +kernel
theorem dJ9_min_7cf53_0 : decode cJ9_min_7cf53 0 = .ok (.iload_n 0, 1) := by decide +kernel
theorem dJ9_min_7cf53_1 : decode cJ9_min_7cf53 1 = .ok (.iload_n 1, 1) := by decide +kernel
theorem dJ9_min_7cf53_2 : decode cJ9_min_7cf53 2 = .ok (.if_icmp .gt 7, 3) := by decide +kernel
theorem dJ9_min_7cf53_5 : decode cJ9_min_7cf53 5 = .ok (.iload_n 0, 1) := by decide +kernel
theorem dJ9_min_7cf53_6 : decode cJ9_min_7cf53 6 = .ok (.goto 4, 3) := by decide +kernel
theorem dJ9_min_7cf53_9 : decode cJ9_min_7cf53 9 = .ok (.iload_n 1, 1) := by decide +kernel
theorem dJ9_min_7cf53_10 : decode cJ9_min_7cf53 10 = .ok (.ireturn, 1) := by decide +kernel
