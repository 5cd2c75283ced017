theorem dX0_init_0 : decode cX0_init 0 = .ok (.aload_n 0, 1) := by decide +kernel
theorem dX0_init_1 : decode cX0_init 1 = .ok (.invokespecial 3, 3) := by decide +kernel
theorem dX0_init_4 : decode cX0_init 4 = .ok (.aload_n 0, 1) := by decide +kernel
theorem dX0_init_5 : decode cX0_init 5 = .ok (.bipush 12, 2) := by decide +kernel
theorem dX0_init_7 : decode cX0_init 7 = .ok (.newarray .int, 2) := by decide +kernel
theorem dX0_init_9 : decode cX0_init 9 = .ok (.putfield 9, 3) := by decide +kernel
theorem dX0_init_12 : decode cX0_init 12 = .ok (.aload_n 0, 1) := by decide +kernel
theorem dX0_init_13 : decode cX0_init 13 = .ok (.bipush 12, 2) := by decide +kernel
theorem dX0_init_15 : decode cX0_init 15 = .ok (.newarray .int, 2) := by decide +kernel
theorem dX0_init_17 : decode cX0_init 17 = .ok (.putfield 15, 3) := by decide +kernel
theorem dX0_init_20 : decode cX0_init 20 = .ok (.aload_n 0, 1) := by decide +kernel
theorem dX0_init_21 : decode cX0_init 21 = .ok (.bipush 12, 2) := by decide +kernel
theorem dX0_init_23 : decode cX0_init 23 = .ok (.newarray .int, 2) := by decide +kernel
theorem dX0_init_25 : decode cX0_init 25 = .ok (.putfield 18, 3) := by decide +kernel
theorem dX0_init_28 : decode cX0_init 28 = .ok (.aload_n 0, 1) := by decide +kernel
theorem dX0_init_29 : decode cX0_init 29 = .ok (.bipush 12, 2) := by decide +kernel
theorem dX0_init_31 : decode cX0_init 31 = .ok (.newarray .int, 2) := by decide +kernel
theorem dX0_init_33 : decode cX0_init 33 = .ok (.putfield 21, 3) := by decide +kernel
theorem dX0_init_36 : decode cX0_init 36 = .ok (.return_, 1) := by decide +kernel
theorem dX0_run_0 : decode cX0_run 0 = .ok (.aload_n 0, 1) := by decide +kernel
theorem dX0_run_1 : decode cX0_run 1 = .ok (.invokevirtual 24, 3) := by decide +kernel
theorem dX0_run_4 : decode cX0_run 4 = .ok (.aload_n 0, 1) := by decide +kernel
theorem dX0_run_5 : decode cX0_run 5 = .ok (.aload_n 1, 1) := by decide +kernel
theorem dX0_run_6 : decode cX0_run 6 = .ok (.invokevirtual 27, 3) := by decide +kernel
theorem dX0_run_9 : decode cX0_run 9 = .ok (.iload_n 3, 1) := by decide +kernel
theorem dX0_run_10 : decode cX0_run 10 = .ok (.i2l, 1) := by decide +kernel
theorem dX0_run_11 : decode cX0_run 11 = .ok (.lstore 4, 2) := by decide +kernel
theorem dX0_run_13 : decode cX0_run 13 = .ok (.iconst 0, 1) := by decide +kernel
theorem dX0_run_14 : decode cX0_run 14 = .ok (.istore 6, 2) := by decide +kernel
theorem dX0_run_16 : decode cX0_run 16 = .ok (.iload 6, 2) := by decide +kernel
theorem dX0_run_18 : decode cX0_run 18 = .ok (.bipush 12, 2) := by decide +kernel
theorem dX0_run_20 : decode cX0_run 20 = .ok (.if_icmp .ge 74, 3) := by decide +kernel
theorem dX0_run_23 : decode cX0_run 23 = .ok (.aload_n 0, 1) := by decide +kernel
theorem dX0_run_24 : decode cX0_run 24 = .ok (.aload_n 1, 1) := by decide +kernel
theorem dX0_run_25 : decode cX0_run 25 = .ok (.iload_n 2, 1) := by decide +kernel
theorem dX0_run_26 : decode cX0_run 26 = .ok (.invokevirtual 31, 3) := by decide +kernel
theorem dX0_run_29 : decode cX0_run 29 = .ok (.ifCond .eq 65, 3) := by decide +kernel
theorem dX0_run_32 : decode cX0_run 32 = .ok (.lload 4, 2) := by decide +kernel
theorem dX0_run_34 : decode cX0_run 34 = .ok (.invokestatic 35, 3) := by decide +kernel
theorem dX0_run_37 : decode cX0_run 37 = .ok (.lstore 4, 2) := by decide +kernel
theorem dX0_run_39 : decode cX0_run 39 = .ok (.aload_n 0, 1) := by decide +kernel
theorem dX0_run_40 : decode cX0_run 40 = .ok (.invokevirtual 39, 3) := by decide +kernel
theorem dX0_run_43 : decode cX0_run 43 = .ok (.istore 7, 2) := by decide +kernel
theorem dX0_run_45 : decode cX0_run 45 = .ok (.iload 7, 2) := by decide +kernel
theorem dX0_run_47 : decode cX0_run 47 = .ok (.ifCond .le 26, 3) := by decide +kernel
theorem dX0_run_50 : decode cX0_run 50 = .ok (.lload 4, 2) := by decide +kernel
theorem dX0_run_52 : decode cX0_run 52 = .ok (.ldc2_w 43, 3) := by decide +kernel
theorem dX0_run_55 : decode cX0_run 55 = .ok (.ldiv, 1) := by decide +kernel
theorem dX0_run_56 : decode cX0_run 56 = .ok (.iload 7, 2) := by decide +kernel
theorem dX0_run_58 : decode cX0_run 58 = .ok (.i2l, 1) := by decide +kernel
theorem dX0_run_59 : decode cX0_run 59 = .ok (.lrem, 1) := by decide +kernel
theorem dX0_run_60 : decode cX0_run 60 = .ok (.aload_n 0, 1) := by decide +kernel
theorem dX0_run_61 : decode cX0_run 61 = .ok (.invokevirtual 45, 3) := by decide +kernel
theorem dX0_run_64 : decode cX0_run 64 = .ok (.i2l, 1) := by decide +kernel
theorem dX0_run_65 : decode cX0_run 65 = .ok (.lcmp, 1) := by decide +kernel
theorem dX0_run_66 : decode cX0_run 66 = .ok (.ifCond .ge 7, 3) := by decide +kernel
theorem dX0_run_69 : decode cX0_run 69 = .ok (.iconst 1, 1) := by decide +kernel
theorem dX0_run_70 : decode cX0_run 70 = .ok (.goto 4, 3) := by decide +kernel
theorem dX0_run_73 : decode cX0_run 73 = .ok (.iconst 0, 1) := by decide +kernel
theorem dX0_run_74 : decode cX0_run 74 = .ok (.istore 8, 2) := by decide +kernel
theorem dX0_run_76 : decode cX0_run 76 = .ok (.aload_n 0, 1) := by decide +kernel
theorem dX0_run_77 : decode cX0_run 77 = .ok (.iload 8, 2) := by decide +kernel
theorem dX0_run_79 : decode cX0_run 79 = .ok (.invokevirtual 48, 3) := by decide +kernel
theorem dX0_run_82 : decode cX0_run 82 = .ok (.aload_n 0, 1) := by decide +kernel
theorem dX0_run_83 : decode cX0_run 83 = .ok (.iload 8, 2) := by decide +kernel
theorem dX0_run_85 : decode cX0_run 85 = .ok (.invokevirtual 52, 3) := by decide +kernel
theorem dX0_run_88 : decode cX0_run 88 = .ok (.iinc 6 1, 3) := by decide +kernel
theorem dX0_run_91 : decode cX0_run 91 = .ok (.goto (-75), 3) := by decide +kernel
theorem dX0_run_94 : decode cX0_run 94 = .ok (.aload_n 0, 1) := by decide +kernel
theorem dX0_run_95 : decode cX0_run 95 = .ok (.aload_n 0, 1) := by decide +kernel
theorem dX0_run_96 : decode cX0_run 96 = .ok (.invokevirtual 55, 3) := by decide +kernel
theorem dX0_run_99 : decode cX0_run 99 = .ok (.putfield 58, 3) := by decide +kernel
theorem dX0_run_102 : decode cX0_run 102 = .ok (.return_, 1) := by decide +kernel
theorem dX0_forget_0 : decode cX0_forget 0 = .ok (.aload_n 0, 1) := by decide +kernel
theorem dX0_forget_1 : decode cX0_forget 1 = .ok (.iconst 0, 1) := by decide +kernel
theorem dX0_forget_2 : decode cX0_forget 2 = .ok (.putfield 58, 3) := by decide +kernel
theorem dX0_forget_5 : decode cX0_forget 5 = .ok (.aload_n 0, 1) := by decide +kernel
theorem dX0_forget_6 : decode cX0_forget 6 = .ok (.iconst 0, 1) := by decide +kernel
theorem dX0_forget_7 : decode cX0_forget 7 = .ok (.putfield 62, 3) := by decide +kernel
theorem dX0_forget_10 : decode cX0_forget 10 = .ok (.aload_n 0, 1) := by decide +kernel
theorem dX0_forget_11 : decode cX0_forget 11 = .ok (.iconst 0, 1) := by decide +kernel
theorem dX0_forget_12 : decode cX0_forget 12 = .ok (.putfield 65, 3) := by decide +kernel
theorem dX0_forget_15 : decode cX0_forget 15 = .ok (.aload_n 0, 1) := by decide +kernel
theorem dX0_forget_16 : decode cX0_forget 16 = .ok (.iconst 0, 1) := by decide +kernel
theorem dX0_forget_17 : decode cX0_forget 17 = .ok (.putfield 68, 3) := by decide +kernel
theorem dX0_forget_20 : decode cX0_forget 20 = .ok (.return_, 1) := by decide +kernel
theorem dX0_begin_0 : decode cX0_begin 0 = .ok (.iconst 0, 1) := by decide +kernel
theorem dX0_begin_1 : decode cX0_begin 1 = .ok (.istore_n 2, 1) := by decide +kernel
theorem dX0_begin_2 : decode cX0_begin 2 = .ok (.iload_n 2, 1) := by decide +kernel
theorem dX0_begin_3 : decode cX0_begin 3 = .ok (.bipush 12, 2) := by decide +kernel
theorem dX0_begin_5 : decode cX0_begin 5 = .ok (.if_icmp .ge 21, 3) := by decide +kernel
theorem dX0_begin_8 : decode cX0_begin 8 = .ok (.aload_n 0, 1) := by decide +kernel
theorem dX0_begin_9 : decode cX0_begin 9 = .ok (.getfield 9, 3) := by decide +kernel
theorem dX0_begin_12 : decode cX0_begin 12 = .ok (.iload_n 2, 1) := by decide +kernel
theorem dX0_begin_13 : decode cX0_begin 13 = .ok (.aload_n 1, 1) := by decide +kernel
theorem dX0_begin_14 : decode cX0_begin 14 = .ok (.iload_n 2, 1) := by decide +kernel
theorem dX0_begin_15 : decode cX0_begin 15 = .ok (.iconst 0, 1) := by decide +kernel
theorem dX0_begin_16 : decode cX0_begin 16 = .ok (.invokevirtual 71, 3) := by decide +kernel
theorem dX0_begin_19 : decode cX0_begin 19 = .ok (.iastore, 1) := by decide +kernel
theorem dX0_begin_20 : decode cX0_begin 20 = .ok (.iinc 2 1, 3) := by decide +kernel
theorem dX0_begin_23 : decode cX0_begin 23 = .ok (.goto (-21), 3) := by decide +kernel
theorem dX0_begin_26 : decode cX0_begin 26 = .ok (.return_, 1) := by decide +kernel
theorem dX0_holds_0 : decode cX0_holds 0 = .ok (.iload_n 1, 1) := by decide +kernel
theorem dX0_holds_1 : decode cX0_holds 1 = .ok (.ifCond .lt 25, 3) := by decide +kernel
theorem dX0_holds_4 : decode cX0_holds 4 = .ok (.iload_n 1, 1) := by decide +kernel
theorem dX0_holds_5 : decode cX0_holds 5 = .ok (.bipush 12, 2) := by decide +kernel
theorem dX0_holds_7 : decode cX0_holds 7 = .ok (.if_icmp .ge 19, 3) := by decide +kernel
theorem dX0_holds_10 : decode cX0_holds 10 = .ok (.aload_n 0, 1) := by decide +kernel
theorem dX0_holds_11 : decode cX0_holds 11 = .ok (.getfield 58, 3) := by decide +kernel
theorem dX0_holds_14 : decode cX0_holds 14 = .ok (.iload_n 1, 1) := by decide +kernel
theorem dX0_holds_15 : decode cX0_holds 15 = .ok (.ishr, 1) := by decide +kernel
theorem dX0_holds_16 : decode cX0_holds 16 = .ok (.iconst 1, 1) := by decide +kernel
theorem dX0_holds_17 : decode cX0_holds 17 = .ok (.iand, 1) := by decide +kernel
theorem dX0_holds_18 : decode cX0_holds 18 = .ok (.iconst 1, 1) := by decide +kernel
theorem dX0_holds_19 : decode cX0_holds 19 = .ok (.if_icmp .ne 7, 3) := by decide +kernel
theorem dX0_holds_22 : decode cX0_holds 22 = .ok (.iconst 1, 1) := by decide +kernel
theorem dX0_holds_23 : decode cX0_holds 23 = .ok (.goto 4, 3) := by decide +kernel
theorem dX0_holds_26 : decode cX0_holds 26 = .ok (.iconst 0, 1) := by decide +kernel
theorem dX0_holds_27 : decode cX0_holds 27 = .ok (.ireturn, 1) := by decide +kernel
theorem dX0_tally_0 : decode cX0_tally 0 = .ok (.iload_n 1, 1) := by decide +kernel
theorem dX0_tally_1 : decode cX0_tally 1 = .ok (.tableswitch 42 0 2 #[27, 32, 37], 27) := by decide +kernel
theorem dX0_tally_28 : decode cX0_tally 28 = .ok (.aload_n 0, 1) := by decide +kernel
theorem dX0_tally_29 : decode cX0_tally 29 = .ok (.getfield 58, 3) := by decide +kernel
theorem dX0_tally_32 : decode cX0_tally 32 = .ok (.ireturn, 1) := by decide +kernel
theorem dX0_tally_33 : decode cX0_tally 33 = .ok (.aload_n 0, 1) := by decide +kernel
theorem dX0_tally_34 : decode cX0_tally 34 = .ok (.getfield 62, 3) := by decide +kernel
theorem dX0_tally_37 : decode cX0_tally 37 = .ok (.ireturn, 1) := by decide +kernel
theorem dX0_tally_38 : decode cX0_tally 38 = .ok (.aload_n 0, 1) := by decide +kernel
theorem dX0_tally_39 : decode cX0_tally 39 = .ok (.getfield 65, 3) := by decide +kernel
theorem dX0_tally_42 : decode cX0_tally 42 = .ok (.ireturn, 1) := by decide +kernel
theorem dX0_tally_43 : decode cX0_tally 43 = .ok (.aload_n 0, 1) := by decide +kernel
theorem dX0_tally_44 : decode cX0_tally 44 = .ok (.getfield 68, 3) := by decide +kernel
theorem dX0_tally_47 : decode cX0_tally 47 = .ok (.ireturn, 1) := by decide +kernel
theorem dX0_recorded_0 : decode cX0_recorded 0 = .ok (.iload_n 1, 1) := by decide +kernel
theorem dX0_recorded_1 : decode cX0_recorded 1 = .ok (.ifCond .lt 17, 3) := by decide +kernel
theorem dX0_recorded_4 : decode cX0_recorded 4 = .ok (.iload_n 1, 1) := by decide +kernel
theorem dX0_recorded_5 : decode cX0_recorded 5 = .ok (.aload_n 0, 1) := by decide +kernel
theorem dX0_recorded_6 : decode cX0_recorded 6 = .ok (.getfield 62, 3) := by decide +kernel
theorem dX0_recorded_9 : decode cX0_recorded 9 = .ok (.if_icmp .ge 9, 3) := by decide +kernel
theorem dX0_recorded_12 : decode cX0_recorded 12 = .ok (.iload_n 1, 1) := by decide +kernel
theorem dX0_recorded_13 : decode cX0_recorded 13 = .ok (.bipush 12, 2) := by decide +kernel
theorem dX0_recorded_15 : decode cX0_recorded 15 = .ok (.if_icmp .lt 5, 3) := by decide +kernel
theorem dX0_recorded_18 : decode cX0_recorded 18 = .ok (.iconst (-1), 1) := by decide +kernel
theorem dX0_recorded_19 : decode cX0_recorded 19 = .ok (.ireturn, 1) := by decide +kernel
theorem dX0_recorded_20 : decode cX0_recorded 20 = .ok (.iload_n 2, 1) := by decide +kernel
theorem dX0_recorded_21 : decode cX0_recorded 21 = .ok (.ifCond .ne 10, 3) := by decide +kernel
theorem dX0_recorded_24 : decode cX0_recorded 24 = .ok (.aload_n 0, 1) := by decide +kernel
theorem dX0_recorded_25 : decode cX0_recorded 25 = .ok (.getfield 15, 3) := by decide +kernel
theorem dX0_recorded_28 : decode cX0_recorded 28 = .ok (.iload_n 1, 1) := by decide +kernel
theorem dX0_recorded_29 : decode cX0_recorded 29 = .ok (.iaload, 1) := by decide +kernel
theorem dX0_recorded_30 : decode cX0_recorded 30 = .ok (.ireturn, 1) := by decide +kernel
theorem dX0_recorded_31 : decode cX0_recorded 31 = .ok (.iload_n 2, 1) := by decide +kernel
theorem dX0_recorded_32 : decode cX0_recorded 32 = .ok (.iconst 1, 1) := by decide +kernel
theorem dX0_recorded_33 : decode cX0_recorded 33 = .ok (.if_icmp .ne 12, 3) := by decide +kernel
theorem dX0_recorded_36 : decode cX0_recorded 36 = .ok (.aload_n 0, 1) := by decide +kernel
theorem dX0_recorded_37 : decode cX0_recorded 37 = .ok (.getfield 18, 3) := by decide +kernel
theorem dX0_recorded_40 : decode cX0_recorded 40 = .ok (.iload_n 1, 1) := by decide +kernel
theorem dX0_recorded_41 : decode cX0_recorded 41 = .ok (.iaload, 1) := by decide +kernel
theorem dX0_recorded_42 : decode cX0_recorded 42 = .ok (.goto 9, 3) := by decide +kernel
theorem dX0_recorded_45 : decode cX0_recorded 45 = .ok (.aload_n 0, 1) := by decide +kernel
theorem dX0_recorded_46 : decode cX0_recorded 46 = .ok (.getfield 21, 3) := by decide +kernel
theorem dX0_recorded_49 : decode cX0_recorded 49 = .ok (.iload_n 1, 1) := by decide +kernel
theorem dX0_recorded_50 : decode cX0_recorded 50 = .ok (.iaload, 1) := by decide +kernel
theorem dX0_recorded_51 : decode cX0_recorded 51 = .ok (.ireturn, 1) := by decide +kernel
theorem dX0_leftOf_0 : decode cX0_leftOf 0 = .ok (.iload_n 1, 1) := by decide +kernel
theorem dX0_leftOf_1 : decode cX0_leftOf 1 = .ok (.ifCond .lt 18, 3) := by decide +kernel
theorem dX0_leftOf_4 : decode cX0_leftOf 4 = .ok (.iload_n 1, 1) := by decide +kernel
theorem dX0_leftOf_5 : decode cX0_leftOf 5 = .ok (.bipush 12, 2) := by decide +kernel
theorem dX0_leftOf_7 : decode cX0_leftOf 7 = .ok (.if_icmp .ge 12, 3) := by decide +kernel
theorem dX0_leftOf_10 : decode cX0_leftOf 10 = .ok (.aload_n 0, 1) := by decide +kernel
theorem dX0_leftOf_11 : decode cX0_leftOf 11 = .ok (.getfield 9, 3) := by decide +kernel
theorem dX0_leftOf_14 : decode cX0_leftOf 14 = .ok (.iload_n 1, 1) := by decide +kernel
theorem dX0_leftOf_15 : decode cX0_leftOf 15 = .ok (.iaload, 1) := by decide +kernel
theorem dX0_leftOf_16 : decode cX0_leftOf 16 = .ok (.goto 4, 3) := by decide +kernel
theorem dX0_leftOf_19 : decode cX0_leftOf 19 = .ok (.iconst 0, 1) := by decide +kernel
theorem dX0_leftOf_20 : decode cX0_leftOf 20 = .ok (.ireturn, 1) := by decide +kernel
theorem dX0_leave_0 : decode cX0_leave 0 = .ok (.iload_n 1, 1) := by decide +kernel
theorem dX0_leave_1 : decode cX0_leave 1 = .ok (.ifCond .lt 16, 3) := by decide +kernel
theorem dX0_leave_4 : decode cX0_leave 4 = .ok (.iload_n 1, 1) := by decide +kernel
theorem dX0_leave_5 : decode cX0_leave 5 = .ok (.bipush 12, 2) := by decide +kernel
theorem dX0_leave_7 : decode cX0_leave 7 = .ok (.if_icmp .ge 10, 3) := by decide +kernel
theorem dX0_leave_10 : decode cX0_leave 10 = .ok (.aload_n 0, 1) := by decide +kernel
theorem dX0_leave_11 : decode cX0_leave 11 = .ok (.getfield 9, 3) := by decide +kernel
theorem dX0_leave_14 : decode cX0_leave 14 = .ok (.iload_n 1, 1) := by decide +kernel
theorem dX0_leave_15 : decode cX0_leave 15 = .ok (.iload_n 2, 1) := by decide +kernel
theorem dX0_leave_16 : decode cX0_leave 16 = .ok (.iastore, 1) := by decide +kernel
theorem dX0_leave_17 : decode cX0_leave 17 = .ok (.return_, 1) := by decide +kernel
theorem dX0_isOpen_0 : decode cX0_isOpen 0 = .ok (.iload_n 1, 1) := by decide +kernel
theorem dX0_isOpen_1 : decode cX0_isOpen 1 = .ok (.ifCond .lt 33, 3) := by decide +kernel
theorem dX0_isOpen_4 : decode cX0_isOpen 4 = .ok (.iload_n 1, 1) := by decide +kernel
theorem dX0_isOpen_5 : decode cX0_isOpen 5 = .ok (.bipush 12, 2) := by decide +kernel
theorem dX0_isOpen_7 : decode cX0_isOpen 7 = .ok (.if_icmp .ge 27, 3) := by decide +kernel
theorem dX0_isOpen_10 : decode cX0_isOpen 10 = .ok (.aload_n 0, 1) := by decide +kernel
theorem dX0_isOpen_11 : decode cX0_isOpen 11 = .ok (.getfield 9, 3) := by decide +kernel
theorem dX0_isOpen_14 : decode cX0_isOpen 14 = .ok (.iload_n 1, 1) := by decide +kernel
theorem dX0_isOpen_15 : decode cX0_isOpen 15 = .ok (.iaload, 1) := by decide +kernel
theorem dX0_isOpen_16 : decode cX0_isOpen 16 = .ok (.ifCond .le 18, 3) := by decide +kernel
theorem dX0_isOpen_19 : decode cX0_isOpen 19 = .ok (.aload_n 0, 1) := by decide +kernel
theorem dX0_isOpen_20 : decode cX0_isOpen 20 = .ok (.getfield 9, 3) := by decide +kernel
theorem dX0_isOpen_23 : decode cX0_isOpen 23 = .ok (.iload_n 1, 1) := by decide +kernel
theorem dX0_isOpen_24 : decode cX0_isOpen 24 = .ok (.iaload, 1) := by decide +kernel
theorem dX0_isOpen_25 : decode cX0_isOpen 25 = .ok (.bipush 12, 2) := by decide +kernel
theorem dX0_isOpen_27 : decode cX0_isOpen 27 = .ok (.if_icmp .ge 7, 3) := by decide +kernel
theorem dX0_isOpen_30 : decode cX0_isOpen 30 = .ok (.iconst 1, 1) := by decide +kernel
theorem dX0_isOpen_31 : decode cX0_isOpen 31 = .ok (.goto 4, 3) := by decide +kernel
theorem dX0_isOpen_34 : decode cX0_isOpen 34 = .ok (.iconst 0, 1) := by decide +kernel
theorem dX0_isOpen_35 : decode cX0_isOpen 35 = .ok (.ireturn, 1) := by decide +kernel
theorem dX0_openFrom_0 : decode cX0_openFrom 0 = .ok (.iload_n 1, 1) := by decide +kernel
theorem dX0_openFrom_1 : decode cX0_openFrom 1 = .ok (.istore_n 2, 1) := by decide +kernel
theorem dX0_openFrom_2 : decode cX0_openFrom 2 = .ok (.iload_n 2, 1) := by decide +kernel
theorem dX0_openFrom_3 : decode cX0_openFrom 3 = .ok (.bipush 12, 2) := by decide +kernel
theorem dX0_openFrom_5 : decode cX0_openFrom 5 = .ok (.if_icmp .ge 19, 3) := by decide +kernel
theorem dX0_openFrom_8 : decode cX0_openFrom 8 = .ok (.aload_n 0, 1) := by decide +kernel
theorem dX0_openFrom_9 : decode cX0_openFrom 9 = .ok (.iload_n 2, 1) := by decide +kernel
theorem dX0_openFrom_10 : decode cX0_openFrom 10 = .ok (.invokevirtual 77, 3) := by decide +kernel
theorem dX0_openFrom_13 : decode cX0_openFrom 13 = .ok (.ifCond .eq 5, 3) := by decide +kernel
theorem dX0_openFrom_16 : decode cX0_openFrom 16 = .ok (.iload_n 2, 1) := by decide +kernel
theorem dX0_openFrom_17 : decode cX0_openFrom 17 = .ok (.ireturn, 1) := by decide +kernel
theorem dX0_openFrom_18 : decode cX0_openFrom 18 = .ok (.iinc 2 1, 3) := by decide +kernel
theorem dX0_openFrom_21 : decode cX0_openFrom 21 = .ok (.goto (-19), 3) := by decide +kernel
theorem dX0_openFrom_24 : decode cX0_openFrom 24 = .ok (.iconst (-1), 1) := by decide +kernel
theorem dX0_openFrom_25 : decode cX0_openFrom 25 = .ok (.ireturn, 1) := by decide +kernel
theorem dX0_pick_0 : decode cX0_pick 0 = .ok (.aload_n 0, 1) := by decide +kernel
theorem dX0_pick_1 : decode cX0_pick 1 = .ok (.aload_n 0, 1) := by decide +kernel
theorem dX0_pick_2 : decode cX0_pick 2 = .ok (.iconst 0, 1) := by decide +kernel
theorem dX0_pick_3 : decode cX0_pick 3 = .ok (.invokevirtual 81, 3) := by decide +kernel
theorem dX0_pick_6 : decode cX0_pick 6 = .ok (.putfield 85, 3) := by decide +kernel
theorem dX0_pick_9 : decode cX0_pick 9 = .ok (.aload_n 0, 1) := by decide +kernel
theorem dX0_pick_10 : decode cX0_pick 10 = .ok (.getfield 85, 3) := by decide +kernel
theorem dX0_pick_13 : decode cX0_pick 13 = .ok (.iconst (-1), 1) := by decide +kernel
theorem dX0_pick_14 : decode cX0_pick 14 = .ok (.if_icmp .ne 10, 3) := by decide +kernel
theorem dX0_pick_17 : decode cX0_pick 17 = .ok (.aload_n 0, 1) := by decide +kernel
theorem dX0_pick_18 : decode cX0_pick 18 = .ok (.iconst (-1), 1) := by decide +kernel
theorem dX0_pick_19 : decode cX0_pick 19 = .ok (.putfield 88, 3) := by decide +kernel
theorem dX0_pick_22 : decode cX0_pick 22 = .ok (.iconst 0, 1) := by decide +kernel
theorem dX0_pick_23 : decode cX0_pick 23 = .ok (.ireturn, 1) := by decide +kernel
theorem dX0_pick_24 : decode cX0_pick 24 = .ok (.aload_n 0, 1) := by decide +kernel
theorem dX0_pick_25 : decode cX0_pick 25 = .ok (.aload_n 0, 1) := by decide +kernel
theorem dX0_pick_26 : decode cX0_pick 26 = .ok (.aload_n 0, 1) := by decide +kernel
theorem dX0_pick_27 : decode cX0_pick 27 = .ok (.getfield 85, 3) := by decide +kernel
theorem dX0_pick_30 : decode cX0_pick 30 = .ok (.iconst 1, 1) := by decide +kernel
theorem dX0_pick_31 : decode cX0_pick 31 = .ok (.iadd, 1) := by decide +kernel
theorem dX0_pick_32 : decode cX0_pick 32 = .ok (.invokevirtual 81, 3) := by decide +kernel
theorem dX0_pick_35 : decode cX0_pick 35 = .ok (.putfield 88, 3) := by decide +kernel
theorem dX0_pick_38 : decode cX0_pick 38 = .ok (.aload_n 0, 1) := by decide +kernel
theorem dX0_pick_39 : decode cX0_pick 39 = .ok (.getfield 88, 3) := by decide +kernel
theorem dX0_pick_42 : decode cX0_pick 42 = .ok (.iconst (-1), 1) := by decide +kernel
theorem dX0_pick_43 : decode cX0_pick 43 = .ok (.if_icmp .ne 5, 3) := by decide +kernel
theorem dX0_pick_46 : decode cX0_pick 46 = .ok (.iconst 1, 1) := by decide +kernel
theorem dX0_pick_47 : decode cX0_pick 47 = .ok (.ireturn, 1) := by decide +kernel
theorem dX0_pick_48 : decode cX0_pick 48 = .ok (.iload_n 2, 1) := by decide +kernel
theorem dX0_pick_49 : decode cX0_pick 49 = .ok (.tableswitch 72 1 4 #[31, 44, 52, 65], 31) := by decide +kernel
theorem dX0_pick_80 : decode cX0_pick 80 = .ok (.aload_n 0, 1) := by decide +kernel
theorem dX0_pick_81 : decode cX0_pick 81 = .ok (.aload_n 0, 1) := by decide +kernel
theorem dX0_pick_82 : decode cX0_pick 82 = .ok (.aload_n 1, 1) := by decide +kernel
theorem dX0_pick_83 : decode cX0_pick 83 = .ok (.iconst 1, 1) := by decide +kernel
theorem dX0_pick_84 : decode cX0_pick 84 = .ok (.invokevirtual 91, 3) := by decide +kernel
theorem dX0_pick_87 : decode cX0_pick 87 = .ok (.putfield 88, 3) := by decide +kernel
theorem dX0_pick_90 : decode cX0_pick 90 = .ok (.goto 31, 3) := by decide +kernel
theorem dX0_pick_93 : decode cX0_pick 93 = .ok (.aload_n 0, 1) := by decide +kernel
theorem dX0_pick_94 : decode cX0_pick 94 = .ok (.aload_n 1, 1) := by decide +kernel
theorem dX0_pick_95 : decode cX0_pick 95 = .ok (.invokevirtual 95, 3) := by decide +kernel
theorem dX0_pick_98 : decode cX0_pick 98 = .ok (.goto 23, 3) := by decide +kernel
theorem dX0_pick_101 : decode cX0_pick 101 = .ok (.aload_n 0, 1) := by decide +kernel
theorem dX0_pick_102 : decode cX0_pick 102 = .ok (.aload_n 0, 1) := by decide +kernel
theorem dX0_pick_103 : decode cX0_pick 103 = .ok (.aload_n 1, 1) := by decide +kernel
theorem dX0_pick_104 : decode cX0_pick 104 = .ok (.iconst (-1), 1) := by decide +kernel
theorem dX0_pick_105 : decode cX0_pick 105 = .ok (.invokevirtual 91, 3) := by decide +kernel
theorem dX0_pick_108 : decode cX0_pick 108 = .ok (.putfield 88, 3) := by decide +kernel
theorem dX0_pick_111 : decode cX0_pick 111 = .ok (.goto 10, 3) := by decide +kernel
theorem dX0_pick_114 : decode cX0_pick 114 = .ok (.aload_n 0, 1) := by decide +kernel
theorem dX0_pick_115 : decode cX0_pick 115 = .ok (.invokevirtual 98, 3) := by decide +kernel
theorem dX0_pick_118 : decode cX0_pick 118 = .ok (.goto 3, 3) := by decide +kernel
theorem dX0_pick_121 : decode cX0_pick 121 = .ok (.iconst 1, 1) := by decide +kernel
theorem dX0_pick_122 : decode cX0_pick 122 = .ok (.ireturn, 1) := by decide +kernel
theorem dX0_byDistance_0 : decode cX0_byDistance 0 = .ok (.aload_n 0, 1) := by decide +kernel
theorem dX0_byDistance_1 : decode cX0_byDistance 1 = .ok (.getfield 88, 3) := by decide +kernel
theorem dX0_byDistance_4 : decode cX0_byDistance 4 = .ok (.istore_n 3, 1) := by decide +kernel
theorem dX0_byDistance_5 : decode cX0_byDistance 5 = .ok (.iload_n 2, 1) := by decide +kernel
theorem dX0_byDistance_6 : decode cX0_byDistance 6 = .ok (.aload_n 1, 1) := by decide +kernel
theorem dX0_byDistance_7 : decode cX0_byDistance 7 = .ok (.aload_n 0, 1) := by decide +kernel
theorem dX0_byDistance_8 : decode cX0_byDistance 8 = .ok (.getfield 85, 3) := by decide +kernel
theorem dX0_byDistance_11 : decode cX0_byDistance 11 = .ok (.aload_n 0, 1) := by decide +kernel
theorem dX0_byDistance_12 : decode cX0_byDistance 12 = .ok (.getfield 88, 3) := by decide +kernel
theorem dX0_byDistance_15 : decode cX0_byDistance 15 = .ok (.invokevirtual 101, 3) := by decide +kernel
theorem dX0_byDistance_18 : decode cX0_byDistance 18 = .ok (.imul, 1) := by decide +kernel
theorem dX0_byDistance_19 : decode cX0_byDistance 19 = .ok (.istore 4, 2) := by decide +kernel
theorem dX0_byDistance_21 : decode cX0_byDistance 21 = .ok (.aload_n 0, 1) := by decide +kernel
theorem dX0_byDistance_22 : decode cX0_byDistance 22 = .ok (.getfield 88, 3) := by decide +kernel
theorem dX0_byDistance_25 : decode cX0_byDistance 25 = .ok (.iconst 1, 1) := by decide +kernel
theorem dX0_byDistance_26 : decode cX0_byDistance 26 = .ok (.iadd, 1) := by decide +kernel
theorem dX0_byDistance_27 : decode cX0_byDistance 27 = .ok (.istore 5, 2) := by decide +kernel
theorem dX0_byDistance_29 : decode cX0_byDistance 29 = .ok (.iload 5, 2) := by decide +kernel
theorem dX0_byDistance_31 : decode cX0_byDistance 31 = .ok (.bipush 12, 2) := by decide +kernel
theorem dX0_byDistance_33 : decode cX0_byDistance 33 = .ok (.if_icmp .ge 51, 3) := by decide +kernel
theorem dX0_byDistance_36 : decode cX0_byDistance 36 = .ok (.aload_n 0, 1) := by decide +kernel
theorem dX0_byDistance_37 : decode cX0_byDistance 37 = .ok (.iload 5, 2) := by decide +kernel
theorem dX0_byDistance_39 : decode cX0_byDistance 39 = .ok (.invokevirtual 77, 3) := by decide +kernel
theorem dX0_byDistance_42 : decode cX0_byDistance 42 = .ok (.ifCond .eq 18, 3) := by decide +kernel
theorem dX0_byDistance_45 : decode cX0_byDistance 45 = .ok (.iload_n 2, 1) := by decide +kernel
theorem dX0_byDistance_46 : decode cX0_byDistance 46 = .ok (.aload_n 1, 1) := by decide +kernel
theorem dX0_byDistance_47 : decode cX0_byDistance 47 = .ok (.aload_n 0, 1) := by decide +kernel
theorem dX0_byDistance_48 : decode cX0_byDistance 48 = .ok (.getfield 85, 3) := by decide +kernel
theorem dX0_byDistance_51 : decode cX0_byDistance 51 = .ok (.iload 5, 2) := by decide +kernel
theorem dX0_byDistance_53 : decode cX0_byDistance 53 = .ok (.invokevirtual 101, 3) := by decide +kernel
theorem dX0_byDistance_56 : decode cX0_byDistance 56 = .ok (.imul, 1) := by decide +kernel
theorem dX0_byDistance_57 : decode cX0_byDistance 57 = .ok (.goto 5, 3) := by decide +kernel
theorem dX0_byDistance_60 : decode cX0_byDistance 60 = .ok (.iload 4, 2) := by decide +kernel
theorem dX0_byDistance_62 : decode cX0_byDistance 62 = .ok (.istore 6, 2) := by decide +kernel
theorem dX0_byDistance_64 : decode cX0_byDistance 64 = .ok (.iload 6, 2) := by decide +kernel
theorem dX0_byDistance_66 : decode cX0_byDistance 66 = .ok (.iload 4, 2) := by decide +kernel
theorem dX0_byDistance_68 : decode cX0_byDistance 68 = .ok (.if_icmp .ge 10, 3) := by decide +kernel
theorem dX0_byDistance_71 : decode cX0_byDistance 71 = .ok (.iload 5, 2) := by decide +kernel
theorem dX0_byDistance_73 : decode cX0_byDistance 73 = .ok (.istore_n 3, 1) := by decide +kernel
theorem dX0_byDistance_74 : decode cX0_byDistance 74 = .ok (.iload 6, 2) := by decide +kernel
theorem dX0_byDistance_76 : decode cX0_byDistance 76 = .ok (.istore 4, 2) := by decide +kernel
theorem dX0_byDistance_78 : decode cX0_byDistance 78 = .ok (.iinc 5 1, 3) := by decide +kernel
theorem dX0_byDistance_81 : decode cX0_byDistance 81 = .ok (.goto (-52), 3) := by decide +kernel
theorem dX0_byDistance_84 : decode cX0_byDistance 84 = .ok (.iload_n 3, 1) := by decide +kernel
theorem dX0_byDistance_85 : decode cX0_byDistance 85 = .ok (.ireturn, 1) := by decide +kernel
theorem dX0_pickOfStratum_0 : decode cX0_pickOfStratum 0 = .ok (.iconst 0, 1) := by decide +kernel
theorem dX0_pickOfStratum_1 : decode cX0_pickOfStratum 1 = .ok (.istore_n 2, 1) := by decide +kernel
theorem dX0_pickOfStratum_2 : decode cX0_pickOfStratum 2 = .ok (.iload_n 2, 1) := by decide +kernel
theorem dX0_pickOfStratum_3 : decode cX0_pickOfStratum 3 = .ok (.iconst 4, 1) := by decide +kernel
theorem dX0_pickOfStratum_4 : decode cX0_pickOfStratum 4 = .ok (.if_icmp .ge 55, 3) := by decide +kernel
theorem dX0_pickOfStratum_7 : decode cX0_pickOfStratum 7 = .ok (.aload_n 0, 1) := by decide +kernel
theorem dX0_pickOfStratum_8 : decode cX0_pickOfStratum 8 = .ok (.aload_n 1, 1) := by decide +kernel
theorem dX0_pickOfStratum_9 : decode cX0_pickOfStratum 9 = .ok (.iload_n 2, 1) := by decide +kernel
theorem dX0_pickOfStratum_10 : decode cX0_pickOfStratum 10 = .ok (.iconst 0, 1) := by decide +kernel
theorem dX0_pickOfStratum_11 : decode cX0_pickOfStratum 11 = .ok (.invokevirtual 104, 3) := by decide +kernel
theorem dX0_pickOfStratum_14 : decode cX0_pickOfStratum 14 = .ok (.istore_n 3, 1) := by decide +kernel
theorem dX0_pickOfStratum_15 : decode cX0_pickOfStratum 15 = .ok (.iload_n 3, 1) := by decide +kernel
theorem dX0_pickOfStratum_16 : decode cX0_pickOfStratum 16 = .ok (.iconst (-1), 1) := by decide +kernel
theorem dX0_pickOfStratum_17 : decode cX0_pickOfStratum 17 = .ok (.if_icmp .ne 7, 3) := by decide +kernel
theorem dX0_pickOfStratum_20 : decode cX0_pickOfStratum 20 = .ok (.iconst (-1), 1) := by decide +kernel
theorem dX0_pickOfStratum_21 : decode cX0_pickOfStratum 21 = .ok (.goto 12, 3) := by decide +kernel
theorem dX0_pickOfStratum_24 : decode cX0_pickOfStratum 24 = .ok (.aload_n 0, 1) := by decide +kernel
theorem dX0_pickOfStratum_25 : decode cX0_pickOfStratum 25 = .ok (.aload_n 1, 1) := by decide +kernel
theorem dX0_pickOfStratum_26 : decode cX0_pickOfStratum 26 = .ok (.iload_n 2, 1) := by decide +kernel
theorem dX0_pickOfStratum_27 : decode cX0_pickOfStratum 27 = .ok (.iload_n 3, 1) := by decide +kernel
theorem dX0_pickOfStratum_28 : decode cX0_pickOfStratum 28 = .ok (.iconst 1, 1) := by decide +kernel
theorem dX0_pickOfStratum_29 : decode cX0_pickOfStratum 29 = .ok (.iadd, 1) := by decide +kernel
theorem dX0_pickOfStratum_30 : decode cX0_pickOfStratum 30 = .ok (.invokevirtual 104, 3) := by decide +kernel
theorem dX0_pickOfStratum_33 : decode cX0_pickOfStratum 33 = .ok (.istore 4, 2) := by decide +kernel
theorem dX0_pickOfStratum_35 : decode cX0_pickOfStratum 35 = .ok (.iload 4, 2) := by decide +kernel
theorem dX0_pickOfStratum_37 : decode cX0_pickOfStratum 37 = .ok (.iconst (-1), 1) := by decide +kernel
theorem dX0_pickOfStratum_38 : decode cX0_pickOfStratum 38 = .ok (.if_icmp .eq 15, 3) := by decide +kernel
theorem dX0_pickOfStratum_41 : decode cX0_pickOfStratum 41 = .ok (.aload_n 0, 1) := by decide +kernel
theorem dX0_pickOfStratum_42 : decode cX0_pickOfStratum 42 = .ok (.iload_n 3, 1) := by decide +kernel
theorem dX0_pickOfStratum_43 : decode cX0_pickOfStratum 43 = .ok (.putfield 85, 3) := by decide +kernel
theorem dX0_pickOfStratum_46 : decode cX0_pickOfStratum 46 = .ok (.aload_n 0, 1) := by decide +kernel
theorem dX0_pickOfStratum_47 : decode cX0_pickOfStratum 47 = .ok (.iload 4, 2) := by decide +kernel
theorem dX0_pickOfStratum_49 : decode cX0_pickOfStratum 49 = .ok (.putfield 88, 3) := by decide +kernel
theorem dX0_pickOfStratum_52 : decode cX0_pickOfStratum 52 = .ok (.return_, 1) := by decide +kernel
theorem dX0_pickOfStratum_53 : decode cX0_pickOfStratum 53 = .ok (.iinc 2 1, 3) := by decide +kernel
theorem dX0_pickOfStratum_56 : decode cX0_pickOfStratum 56 = .ok (.goto (-54), 3) := by decide +kernel
theorem dX0_pickOfStratum_59 : decode cX0_pickOfStratum 59 = .ok (.return_, 1) := by decide +kernel
theorem dX0_openOfStratum_0 : decode cX0_openOfStratum 0 = .ok (.iload_n 3, 1) := by decide +kernel
theorem dX0_openOfStratum_1 : decode cX0_openOfStratum 1 = .ok (.istore 4, 2) := by decide +kernel
theorem dX0_openOfStratum_3 : decode cX0_openOfStratum 3 = .ok (.iload 4, 2) := by decide +kernel
theorem dX0_openOfStratum_5 : decode cX0_openOfStratum 5 = .ok (.bipush 12, 2) := by decide +kernel
theorem dX0_openOfStratum_7 : decode cX0_openOfStratum 7 = .ok (.if_icmp .ge 32, 3) := by decide +kernel
theorem dX0_openOfStratum_10 : decode cX0_openOfStratum 10 = .ok (.aload_n 0, 1) := by decide +kernel
theorem dX0_openOfStratum_11 : decode cX0_openOfStratum 11 = .ok (.iload 4, 2) := by decide +kernel
theorem dX0_openOfStratum_13 : decode cX0_openOfStratum 13 = .ok (.invokevirtual 77, 3) := by decide +kernel
theorem dX0_openOfStratum_16 : decode cX0_openOfStratum 16 = .ok (.ifCond .eq 17, 3) := by decide +kernel
theorem dX0_openOfStratum_19 : decode cX0_openOfStratum 19 = .ok (.aload_n 1, 1) := by decide +kernel
theorem dX0_openOfStratum_20 : decode cX0_openOfStratum 20 = .ok (.iload 4, 2) := by decide +kernel
theorem dX0_openOfStratum_22 : decode cX0_openOfStratum 22 = .ok (.iconst 2, 1) := by decide +kernel
theorem dX0_openOfStratum_23 : decode cX0_openOfStratum 23 = .ok (.invokevirtual 71, 3) := by decide +kernel
theorem dX0_openOfStratum_26 : decode cX0_openOfStratum 26 = .ok (.iload_n 2, 1) := by decide +kernel
theorem dX0_openOfStratum_27 : decode cX0_openOfStratum 27 = .ok (.if_icmp .ne 6, 3) := by decide +kernel
theorem dX0_openOfStratum_30 : decode cX0_openOfStratum 30 = .ok (.iload 4, 2) := by decide +kernel
theorem dX0_openOfStratum_32 : decode cX0_openOfStratum 32 = .ok (.ireturn, 1) := by decide +kernel
theorem dX0_openOfStratum_33 : decode cX0_openOfStratum 33 = .ok (.iinc 4 1, 3) := by decide +kernel
theorem dX0_openOfStratum_36 : decode cX0_openOfStratum 36 = .ok (.goto (-33), 3) := by decide +kernel
theorem dX0_openOfStratum_39 : decode cX0_openOfStratum 39 = .ok (.iconst (-1), 1) := by decide +kernel
theorem dX0_openOfStratum_40 : decode cX0_openOfStratum 40 = .ok (.ireturn, 1) := by decide +kernel
theorem dX0_pickByChance_0 : decode cX0_pickByChance 0 = .ok (.aload_n 0, 1) := by decide +kernel
theorem dX0_pickByChance_1 : decode cX0_pickByChance 1 = .ok (.aload_n 0, 1) := by decide +kernel
theorem dX0_pickByChance_2 : decode cX0_pickByChance 2 = .ok (.iconst (-1), 1) := by decide +kernel
theorem dX0_pickByChance_3 : decode cX0_pickByChance 3 = .ok (.invokevirtual 108, 3) := by decide +kernel
theorem dX0_pickByChance_6 : decode cX0_pickByChance 6 = .ok (.putfield 85, 3) := by decide +kernel
theorem dX0_pickByChance_9 : decode cX0_pickByChance 9 = .ok (.aload_n 0, 1) := by decide +kernel
theorem dX0_pickByChance_10 : decode cX0_pickByChance 10 = .ok (.aload_n 0, 1) := by decide +kernel
theorem dX0_pickByChance_11 : decode cX0_pickByChance 11 = .ok (.aload_n 0, 1) := by decide +kernel
theorem dX0_pickByChance_12 : decode cX0_pickByChance 12 = .ok (.getfield 85, 3) := by decide +kernel
theorem dX0_pickByChance_15 : decode cX0_pickByChance 15 = .ok (.invokevirtual 108, 3) := by decide +kernel
theorem dX0_pickByChance_18 : decode cX0_pickByChance 18 = .ok (.putfield 88, 3) := by decide +kernel
theorem dX0_pickByChance_21 : decode cX0_pickByChance 21 = .ok (.return_, 1) := by decide +kernel
theorem dX0_mostLeftBut_0 : decode cX0_mostLeftBut 0 = .ok (.iconst (-1), 1) := by decide +kernel
theorem dX0_mostLeftBut_1 : decode cX0_mostLeftBut 1 = .ok (.istore_n 2, 1) := by decide +kernel
theorem dX0_mostLeftBut_2 : decode cX0_mostLeftBut 2 = .ok (.iconst 0, 1) := by decide +kernel
theorem dX0_mostLeftBut_3 : decode cX0_mostLeftBut 3 = .ok (.istore_n 3, 1) := by decide +kernel
theorem dX0_mostLeftBut_4 : decode cX0_mostLeftBut 4 = .ok (.iconst 0, 1) := by decide +kernel
theorem dX0_mostLeftBut_5 : decode cX0_mostLeftBut 5 = .ok (.istore 4, 2) := by decide +kernel
theorem dX0_mostLeftBut_7 : decode cX0_mostLeftBut 7 = .ok (.iload 4, 2) := by decide +kernel
theorem dX0_mostLeftBut_9 : decode cX0_mostLeftBut 9 = .ok (.bipush 12, 2) := by decide +kernel
theorem dX0_mostLeftBut_11 : decode cX0_mostLeftBut 11 = .ok (.if_icmp .ge 49, 3) := by decide +kernel
theorem dX0_mostLeftBut_14 : decode cX0_mostLeftBut 14 = .ok (.iload 4, 2) := by decide +kernel
theorem dX0_mostLeftBut_16 : decode cX0_mostLeftBut 16 = .ok (.iload_n 1, 1) := by decide +kernel
theorem dX0_mostLeftBut_17 : decode cX0_mostLeftBut 17 = .ok (.if_icmp .eq 37, 3) := by decide +kernel
theorem dX0_mostLeftBut_20 : decode cX0_mostLeftBut 20 = .ok (.aload_n 0, 1) := by decide +kernel
theorem dX0_mostLeftBut_21 : decode cX0_mostLeftBut 21 = .ok (.getfield 9, 3) := by decide +kernel
theorem dX0_mostLeftBut_24 : decode cX0_mostLeftBut 24 = .ok (.iload 4, 2) := by decide +kernel
theorem dX0_mostLeftBut_26 : decode cX0_mostLeftBut 26 = .ok (.iaload, 1) := by decide +kernel
theorem dX0_mostLeftBut_27 : decode cX0_mostLeftBut 27 = .ok (.bipush 12, 2) := by decide +kernel
theorem dX0_mostLeftBut_29 : decode cX0_mostLeftBut 29 = .ok (.if_icmp .ge 25, 3) := by decide +kernel
theorem dX0_mostLeftBut_32 : decode cX0_mostLeftBut 32 = .ok (.aload_n 0, 1) := by decide +kernel
theorem dX0_mostLeftBut_33 : decode cX0_mostLeftBut 33 = .ok (.getfield 9, 3) := by decide +kernel
theorem dX0_mostLeftBut_36 : decode cX0_mostLeftBut 36 = .ok (.iload 4, 2) := by decide +kernel
theorem dX0_mostLeftBut_38 : decode cX0_mostLeftBut 38 = .ok (.iaload, 1) := by decide +kernel
theorem dX0_mostLeftBut_39 : decode cX0_mostLeftBut 39 = .ok (.iload_n 3, 1) := by decide +kernel
theorem dX0_mostLeftBut_40 : decode cX0_mostLeftBut 40 = .ok (.if_icmp .le 14, 3) := by decide +kernel
theorem dX0_mostLeftBut_43 : decode cX0_mostLeftBut 43 = .ok (.iload 4, 2) := by decide +kernel
theorem dX0_mostLeftBut_45 : decode cX0_mostLeftBut 45 = .ok (.istore_n 2, 1) := by decide +kernel
theorem dX0_mostLeftBut_46 : decode cX0_mostLeftBut 46 = .ok (.aload_n 0, 1) := by decide +kernel
theorem dX0_mostLeftBut_47 : decode cX0_mostLeftBut 47 = .ok (.getfield 9, 3) := by decide +kernel
theorem dX0_mostLeftBut_50 : decode cX0_mostLeftBut 50 = .ok (.iload 4, 2) := by decide +kernel
theorem dX0_mostLeftBut_52 : decode cX0_mostLeftBut 52 = .ok (.iaload, 1) := by decide +kernel
theorem dX0_mostLeftBut_53 : decode cX0_mostLeftBut 53 = .ok (.istore_n 3, 1) := by decide +kernel
theorem dX0_mostLeftBut_54 : decode cX0_mostLeftBut 54 = .ok (.iinc 4 1, 3) := by decide +kernel
theorem dX0_mostLeftBut_57 : decode cX0_mostLeftBut 57 = .ok (.goto (-50), 3) := by decide +kernel
theorem dX0_mostLeftBut_60 : decode cX0_mostLeftBut 60 = .ok (.iload_n 2, 1) := by decide +kernel
theorem dX0_mostLeftBut_61 : decode cX0_mostLeftBut 61 = .ok (.ireturn, 1) := by decide +kernel
theorem dX0_leftOfBoth_0 : decode cX0_leftOfBoth 0 = .ok (.aload_n 0, 1) := by decide +kernel
theorem dX0_leftOfBoth_1 : decode cX0_leftOfBoth 1 = .ok (.aload_n 0, 1) := by decide +kernel
theorem dX0_leftOfBoth_2 : decode cX0_leftOfBoth 2 = .ok (.getfield 85, 3) := by decide +kernel
theorem dX0_leftOfBoth_5 : decode cX0_leftOfBoth 5 = .ok (.invokevirtual 111, 3) := by decide +kernel
theorem dX0_leftOfBoth_8 : decode cX0_leftOfBoth 8 = .ok (.aload_n 0, 1) := by decide +kernel
theorem dX0_leftOfBoth_9 : decode cX0_leftOfBoth 9 = .ok (.aload_n 0, 1) := by decide +kernel
theorem dX0_leftOfBoth_10 : decode cX0_leftOfBoth 10 = .ok (.getfield 88, 3) := by decide +kernel
theorem dX0_leftOfBoth_13 : decode cX0_leftOfBoth 13 = .ok (.invokevirtual 111, 3) := by decide +kernel
theorem dX0_leftOfBoth_16 : decode cX0_leftOfBoth 16 = .ok (.iadd, 1) := by decide +kernel
theorem dX0_leftOfBoth_17 : decode cX0_leftOfBoth 17 = .ok (.ireturn, 1) := by decide +kernel
theorem dX0_chancesOfBoth_0 : decode cX0_chancesOfBoth 0 = .ok (.aload_n 0, 1) := by decide +kernel
theorem dX0_chancesOfBoth_1 : decode cX0_chancesOfBoth 1 = .ok (.getfield 88, 3) := by decide +kernel
theorem dX0_chancesOfBoth_4 : decode cX0_chancesOfBoth 4 = .ok (.iconst (-1), 1) := by decide +kernel
theorem dX0_chancesOfBoth_5 : decode cX0_chancesOfBoth 5 = .ok (.if_icmp .ne 6, 3) := by decide +kernel
theorem dX0_chancesOfBoth_8 : decode cX0_chancesOfBoth 8 = .ok (.bipush 12, 2) := by decide +kernel
theorem dX0_chancesOfBoth_10 : decode cX0_chancesOfBoth 10 = .ok (.ireturn, 1) := by decide +kernel
theorem dX0_chancesOfBoth_11 : decode cX0_chancesOfBoth 11 = .ok (.aload_n 0, 1) := by decide +kernel
theorem dX0_chancesOfBoth_12 : decode cX0_chancesOfBoth 12 = .ok (.invokevirtual 114, 3) := by decide +kernel
theorem dX0_chancesOfBoth_15 : decode cX0_chancesOfBoth 15 = .ok (.istore_n 1, 1) := by decide +kernel
theorem dX0_chancesOfBoth_16 : decode cX0_chancesOfBoth 16 = .ok (.iload_n 1, 1) := by decide +kernel
theorem dX0_chancesOfBoth_17 : decode cX0_chancesOfBoth 17 = .ok (.bipush 12, 2) := by decide +kernel
theorem dX0_chancesOfBoth_19 : decode cX0_chancesOfBoth 19 = .ok (.if_icmp .gt 7, 3) := by decide +kernel
theorem dX0_chancesOfBoth_22 : decode cX0_chancesOfBoth 22 = .ok (.iload_n 1, 1) := by decide +kernel
theorem dX0_chancesOfBoth_23 : decode cX0_chancesOfBoth 23 = .ok (.goto 7, 3) := by decide +kernel
theorem dX0_chancesOfBoth_26 : decode cX0_chancesOfBoth 26 = .ok (.bipush 24, 2) := by decide +kernel
theorem dX0_chancesOfBoth_28 : decode cX0_chancesOfBoth 28 = .ok (.iload_n 1, 1) := by decide +kernel
theorem dX0_chancesOfBoth_29 : decode cX0_chancesOfBoth 29 = .ok (.isub, 1) := by decide +kernel
theorem dX0_chancesOfBoth_30 : decode cX0_chancesOfBoth 30 = .ok (.ireturn, 1) := by decide +kernel
theorem dX0_chancesOfFirst_0 : decode cX0_chancesOfFirst 0 = .ok (.aload_n 0, 1) := by decide +kernel
theorem dX0_chancesOfFirst_1 : decode cX0_chancesOfFirst 1 = .ok (.invokevirtual 114, 3) := by decide +kernel
theorem dX0_chancesOfFirst_4 : decode cX0_chancesOfFirst 4 = .ok (.bipush 12, 2) := by decide +kernel
theorem dX0_chancesOfFirst_6 : decode cX0_chancesOfFirst 6 = .ok (.if_icmp .gt 14, 3) := by decide +kernel
theorem dX0_chancesOfFirst_9 : decode cX0_chancesOfFirst 9 = .ok (.aload_n 0, 1) := by decide +kernel
theorem dX0_chancesOfFirst_10 : decode cX0_chancesOfFirst 10 = .ok (.aload_n 0, 1) := by decide +kernel
theorem dX0_chancesOfFirst_11 : decode cX0_chancesOfFirst 11 = .ok (.getfield 85, 3) := by decide +kernel
theorem dX0_chancesOfFirst_14 : decode cX0_chancesOfFirst 14 = .ok (.invokevirtual 111, 3) := by decide +kernel
theorem dX0_chancesOfFirst_17 : decode cX0_chancesOfFirst 17 = .ok (.goto 14, 3) := by decide +kernel
theorem dX0_chancesOfFirst_20 : decode cX0_chancesOfFirst 20 = .ok (.bipush 12, 2) := by decide +kernel
theorem dX0_chancesOfFirst_22 : decode cX0_chancesOfFirst 22 = .ok (.aload_n 0, 1) := by decide +kernel
theorem dX0_chancesOfFirst_23 : decode cX0_chancesOfFirst 23 = .ok (.aload_n 0, 1) := by decide +kernel
theorem dX0_chancesOfFirst_24 : decode cX0_chancesOfFirst 24 = .ok (.getfield 88, 3) := by decide +kernel
theorem dX0_chancesOfFirst_27 : decode cX0_chancesOfFirst 27 = .ok (.invokevirtual 111, 3) := by decide +kernel
theorem dX0_chancesOfFirst_30 : decode cX0_chancesOfFirst 30 = .ok (.isub, 1) := by decide +kernel
theorem dX0_chancesOfFirst_31 : decode cX0_chancesOfFirst 31 = .ok (.ireturn, 1) := by decide +kernel
theorem dX0_write_0 : decode cX0_write 0 = .ok (.aload_n 0, 1) := by decide +kernel
theorem dX0_write_1 : decode cX0_write 1 = .ok (.getfield 62, 3) := by decide +kernel
theorem dX0_write_4 : decode cX0_write 4 = .ok (.bipush 12, 2) := by decide +kernel
theorem dX0_write_6 : decode cX0_write 6 = .ok (.if_icmp .lt 4, 3) := by decide +kernel
theorem dX0_write_9 : decode cX0_write 9 = .ok (.return_, 1) := by decide +kernel
theorem dX0_write_10 : decode cX0_write 10 = .ok (.aload_n 0, 1) := by decide +kernel
theorem dX0_write_11 : decode cX0_write 11 = .ok (.getfield 15, 3) := by decide +kernel
theorem dX0_write_14 : decode cX0_write 14 = .ok (.aload_n 0, 1) := by decide +kernel
theorem dX0_write_15 : decode cX0_write 15 = .ok (.getfield 62, 3) := by decide +kernel
theorem dX0_write_18 : decode cX0_write 18 = .ok (.aload_n 0, 1) := by decide +kernel
theorem dX0_write_19 : decode cX0_write 19 = .ok (.getfield 85, 3) := by decide +kernel
theorem dX0_write_22 : decode cX0_write 22 = .ok (.iastore, 1) := by decide +kernel
theorem dX0_write_23 : decode cX0_write 23 = .ok (.aload_n 0, 1) := by decide +kernel
theorem dX0_write_24 : decode cX0_write 24 = .ok (.getfield 18, 3) := by decide +kernel
theorem dX0_write_27 : decode cX0_write 27 = .ok (.aload_n 0, 1) := by decide +kernel
theorem dX0_write_28 : decode cX0_write 28 = .ok (.getfield 62, 3) := by decide +kernel
theorem dX0_write_31 : decode cX0_write 31 = .ok (.aload_n 0, 1) := by decide +kernel
theorem dX0_write_32 : decode cX0_write 32 = .ok (.getfield 88, 3) := by decide +kernel
theorem dX0_write_35 : decode cX0_write 35 = .ok (.iastore, 1) := by decide +kernel
theorem dX0_write_36 : decode cX0_write 36 = .ok (.aload_n 0, 1) := by decide +kernel
theorem dX0_write_37 : decode cX0_write 37 = .ok (.getfield 21, 3) := by decide +kernel
theorem dX0_write_40 : decode cX0_write 40 = .ok (.aload_n 0, 1) := by decide +kernel
theorem dX0_write_41 : decode cX0_write 41 = .ok (.getfield 62, 3) := by decide +kernel
theorem dX0_write_44 : decode cX0_write 44 = .ok (.iload_n 1, 1) := by decide +kernel
theorem dX0_write_45 : decode cX0_write 45 = .ok (.ifCond .eq 10, 3) := by decide +kernel
theorem dX0_write_48 : decode cX0_write 48 = .ok (.aload_n 0, 1) := by decide +kernel
theorem dX0_write_49 : decode cX0_write 49 = .ok (.getfield 85, 3) := by decide +kernel
theorem dX0_write_52 : decode cX0_write 52 = .ok (.goto 7, 3) := by decide +kernel
theorem dX0_write_55 : decode cX0_write 55 = .ok (.aload_n 0, 1) := by decide +kernel
theorem dX0_write_56 : decode cX0_write 56 = .ok (.getfield 88, 3) := by decide +kernel
theorem dX0_write_59 : decode cX0_write 59 = .ok (.iastore, 1) := by decide +kernel
theorem dX0_write_60 : decode cX0_write 60 = .ok (.aload_n 0, 1) := by decide +kernel
theorem dX0_write_61 : decode cX0_write 61 = .ok (.dup, 1) := by decide +kernel
theorem dX0_write_62 : decode cX0_write 62 = .ok (.getfield 62, 3) := by decide +kernel
theorem dX0_write_65 : decode cX0_write 65 = .ok (.iconst 1, 1) := by decide +kernel
theorem dX0_write_66 : decode cX0_write 66 = .ok (.iadd, 1) := by decide +kernel
theorem dX0_write_67 : decode cX0_write 67 = .ok (.putfield 62, 3) := by decide +kernel
theorem dX0_write_70 : decode cX0_write 70 = .ok (.aload_n 0, 1) := by decide +kernel
theorem dX0_write_71 : decode cX0_write 71 = .ok (.getfield 88, 3) := by decide +kernel
theorem dX0_write_74 : decode cX0_write 74 = .ok (.iconst (-1), 1) := by decide +kernel
theorem dX0_write_75 : decode cX0_write 75 = .ok (.if_icmp .eq 25, 3) := by decide +kernel
theorem dX0_write_78 : decode cX0_write 78 = .ok (.aload_n 0, 1) := by decide +kernel
theorem dX0_write_79 : decode cX0_write 79 = .ok (.invokevirtual 114, 3) := by decide +kernel
theorem dX0_write_82 : decode cX0_write 82 = .ok (.bipush 12, 2) := by decide +kernel
theorem dX0_write_84 : decode cX0_write 84 = .ok (.if_icmp .gt 16, 3) := by decide +kernel
theorem dX0_write_87 : decode cX0_write 87 = .ok (.aload_n 0, 1) := by decide +kernel
theorem dX0_write_88 : decode cX0_write 88 = .ok (.dup, 1) := by decide +kernel
theorem dX0_write_89 : decode cX0_write 89 = .ok (.getfield 65, 3) := by decide +kernel
theorem dX0_write_92 : decode cX0_write 92 = .ok (.iconst 1, 1) := by decide +kernel
theorem dX0_write_93 : decode cX0_write 93 = .ok (.iadd, 1) := by decide +kernel
theorem dX0_write_94 : decode cX0_write 94 = .ok (.putfield 65, 3) := by decide +kernel
theorem dX0_write_97 : decode cX0_write 97 = .ok (.goto 21, 3) := by decide +kernel
theorem dX0_write_100 : decode cX0_write 100 = .ok (.aload_n 0, 1) := by decide +kernel
theorem dX0_write_101 : decode cX0_write 101 = .ok (.getfield 88, 3) := by decide +kernel
theorem dX0_write_104 : decode cX0_write 104 = .ok (.iconst (-1), 1) := by decide +kernel
theorem dX0_write_105 : decode cX0_write 105 = .ok (.if_icmp .eq 13, 3) := by decide +kernel
theorem dX0_write_108 : decode cX0_write 108 = .ok (.aload_n 0, 1) := by decide +kernel
theorem dX0_write_109 : decode cX0_write 109 = .ok (.dup, 1) := by decide +kernel
theorem dX0_write_110 : decode cX0_write 110 = .ok (.getfield 68, 3) := by decide +kernel
theorem dX0_write_113 : decode cX0_write 113 = .ok (.iconst 1, 1) := by decide +kernel
theorem dX0_write_114 : decode cX0_write 114 = .ok (.iadd, 1) := by decide +kernel
theorem dX0_write_115 : decode cX0_write 115 = .ok (.putfield 68, 3) := by decide +kernel
theorem dX0_write_118 : decode cX0_write 118 = .ok (.return_, 1) := by decide +kernel
theorem dX0_settle_0 : decode cX0_settle 0 = .ok (.aload_n 0, 1) := by decide +kernel
theorem dX0_settle_1 : decode cX0_settle 1 = .ok (.getfield 88, 3) := by decide +kernel
theorem dX0_settle_4 : decode cX0_settle 4 = .ok (.iconst (-1), 1) := by decide +kernel
theorem dX0_settle_5 : decode cX0_settle 5 = .ok (.if_icmp .ne 22, 3) := by decide +kernel
theorem dX0_settle_8 : decode cX0_settle 8 = .ok (.aload_n 0, 1) := by decide +kernel
theorem dX0_settle_9 : decode cX0_settle 9 = .ok (.aload_n 0, 1) := by decide +kernel
theorem dX0_settle_10 : decode cX0_settle 10 = .ok (.getfield 85, 3) := by decide +kernel
theorem dX0_settle_13 : decode cX0_settle 13 = .ok (.iload_n 1, 1) := by decide +kernel
theorem dX0_settle_14 : decode cX0_settle 14 = .ok (.ifCond .eq 8, 3) := by decide +kernel
theorem dX0_settle_17 : decode cX0_settle 17 = .ok (.bipush 12, 2) := by decide +kernel
theorem dX0_settle_19 : decode cX0_settle 19 = .ok (.goto 4, 3) := by decide +kernel
theorem dX0_settle_22 : decode cX0_settle 22 = .ok (.iconst 0, 1) := by decide +kernel
theorem dX0_settle_23 : decode cX0_settle 23 = .ok (.invokevirtual 117, 3) := by decide +kernel
theorem dX0_settle_26 : decode cX0_settle 26 = .ok (.return_, 1) := by decide +kernel
theorem dX0_settle_27 : decode cX0_settle 27 = .ok (.aload_n 0, 1) := by decide +kernel
theorem dX0_settle_28 : decode cX0_settle 28 = .ok (.invokevirtual 114, 3) := by decide +kernel
theorem dX0_settle_31 : decode cX0_settle 31 = .ok (.istore_n 2, 1) := by decide +kernel
theorem dX0_settle_32 : decode cX0_settle 32 = .ok (.iload_n 2, 1) := by decide +kernel
theorem dX0_settle_33 : decode cX0_settle 33 = .ok (.bipush 12, 2) := by decide +kernel
theorem dX0_settle_35 : decode cX0_settle 35 = .ok (.invokestatic 121, 3) := by decide +kernel
theorem dX0_settle_38 : decode cX0_settle 38 = .ok (.istore_n 3, 1) := by decide +kernel
theorem dX0_settle_39 : decode cX0_settle 39 = .ok (.aload_n 0, 1) := by decide +kernel
theorem dX0_settle_40 : decode cX0_settle 40 = .ok (.aload_n 0, 1) := by decide +kernel
theorem dX0_settle_41 : decode cX0_settle 41 = .ok (.getfield 85, 3) := by decide +kernel
theorem dX0_settle_44 : decode cX0_settle 44 = .ok (.iload_n 1, 1) := by decide +kernel
theorem dX0_settle_45 : decode cX0_settle 45 = .ok (.ifCond .eq 7, 3) := by decide +kernel
theorem dX0_settle_48 : decode cX0_settle 48 = .ok (.iload_n 3, 1) := by decide +kernel
theorem dX0_settle_49 : decode cX0_settle 49 = .ok (.goto 6, 3) := by decide +kernel
theorem dX0_settle_52 : decode cX0_settle 52 = .ok (.iload_n 2, 1) := by decide +kernel
theorem dX0_settle_53 : decode cX0_settle 53 = .ok (.iload_n 3, 1) := by decide +kernel
theorem dX0_settle_54 : decode cX0_settle 54 = .ok (.isub, 1) := by decide +kernel
theorem dX0_settle_55 : decode cX0_settle 55 = .ok (.invokevirtual 117, 3) := by decide +kernel
theorem dX0_settle_58 : decode cX0_settle 58 = .ok (.aload_n 0, 1) := by decide +kernel
theorem dX0_settle_59 : decode cX0_settle 59 = .ok (.aload_n 0, 1) := by decide +kernel
theorem dX0_settle_60 : decode cX0_settle 60 = .ok (.getfield 88, 3) := by decide +kernel
theorem dX0_settle_63 : decode cX0_settle 63 = .ok (.iload_n 1, 1) := by decide +kernel
theorem dX0_settle_64 : decode cX0_settle 64 = .ok (.ifCond .eq 9, 3) := by decide +kernel
theorem dX0_settle_67 : decode cX0_settle 67 = .ok (.iload_n 2, 1) := by decide +kernel
theorem dX0_settle_68 : decode cX0_settle 68 = .ok (.iload_n 3, 1) := by decide +kernel
theorem dX0_settle_69 : decode cX0_settle 69 = .ok (.isub, 1) := by decide +kernel
theorem dX0_settle_70 : decode cX0_settle 70 = .ok (.goto 4, 3) := by decide +kernel
theorem dX0_settle_73 : decode cX0_settle 73 = .ok (.iload_n 3, 1) := by decide +kernel
theorem dX0_settle_74 : decode cX0_settle 74 = .ok (.invokevirtual 117, 3) := by decide +kernel
theorem dX0_settle_77 : decode cX0_settle 77 = .ok (.return_, 1) := by decide +kernel
theorem dX0_restore_0 : decode cX0_restore 0 = .ok (.aload_n 0, 1) := by decide +kernel
theorem dX0_restore_1 : decode cX0_restore 1 = .ok (.iload_n 1, 1) := by decide +kernel
theorem dX0_restore_2 : decode cX0_restore 2 = .ok (.putfield 85, 3) := by decide +kernel
theorem dX0_restore_5 : decode cX0_restore 5 = .ok (.aload_n 0, 1) := by decide +kernel
theorem dX0_restore_6 : decode cX0_restore 6 = .ok (.iload_n 2, 1) := by decide +kernel
theorem dX0_restore_7 : decode cX0_restore 7 = .ok (.putfield 88, 3) := by decide +kernel
theorem dX0_restore_10 : decode cX0_restore 10 = .ok (.aload_n 0, 1) := by decide +kernel
theorem dX0_restore_11 : decode cX0_restore 11 = .ok (.iload_n 1, 1) := by decide +kernel
theorem dX0_restore_12 : decode cX0_restore 12 = .ok (.iload_n 3, 1) := by decide +kernel
theorem dX0_restore_13 : decode cX0_restore 13 = .ok (.invokevirtual 117, 3) := by decide +kernel
theorem dX0_restore_16 : decode cX0_restore 16 = .ok (.aload_n 0, 1) := by decide +kernel
theorem dX0_restore_17 : decode cX0_restore 17 = .ok (.iload_n 2, 1) := by decide +kernel
theorem dX0_restore_18 : decode cX0_restore 18 = .ok (.iload 4, 2) := by decide +kernel
theorem dX0_restore_20 : decode cX0_restore 20 = .ok (.invokevirtual 117, 3) := by decide +kernel
theorem dX0_restore_23 : decode cX0_restore 23 = .ok (.return_, 1) := by decide +kernel
theorem dX0_wholeOnes_0 : decode cX0_wholeOnes 0 = .ok (.iconst 0, 1) := by decide +kernel
theorem dX0_wholeOnes_1 : decode cX0_wholeOnes 1 = .ok (.istore_n 1, 1) := by decide +kernel
theorem dX0_wholeOnes_2 : decode cX0_wholeOnes 2 = .ok (.iconst 0, 1) := by decide +kernel
theorem dX0_wholeOnes_3 : decode cX0_wholeOnes 3 = .ok (.istore_n 2, 1) := by decide +kernel
theorem dX0_wholeOnes_4 : decode cX0_wholeOnes 4 = .ok (.iload_n 2, 1) := by decide +kernel
theorem dX0_wholeOnes_5 : decode cX0_wholeOnes 5 = .ok (.bipush 12, 2) := by decide +kernel
theorem dX0_wholeOnes_7 : decode cX0_wholeOnes 7 = .ok (.if_icmp .ge 26, 3) := by decide +kernel
theorem dX0_wholeOnes_10 : decode cX0_wholeOnes 10 = .ok (.aload_n 0, 1) := by decide +kernel
theorem dX0_wholeOnes_11 : decode cX0_wholeOnes 11 = .ok (.getfield 9, 3) := by decide +kernel
theorem dX0_wholeOnes_14 : decode cX0_wholeOnes 14 = .ok (.iload_n 2, 1) := by decide +kernel
theorem dX0_wholeOnes_15 : decode cX0_wholeOnes 15 = .ok (.iaload, 1) := by decide +kernel
theorem dX0_wholeOnes_16 : decode cX0_wholeOnes 16 = .ok (.bipush 12, 2) := by decide +kernel
theorem dX0_wholeOnes_18 : decode cX0_wholeOnes 18 = .ok (.if_icmp .ne 9, 3) := by decide +kernel
theorem dX0_wholeOnes_21 : decode cX0_wholeOnes 21 = .ok (.iload_n 1, 1) := by decide +kernel
theorem dX0_wholeOnes_22 : decode cX0_wholeOnes 22 = .ok (.iconst 1, 1) := by decide +kernel
theorem dX0_wholeOnes_23 : decode cX0_wholeOnes 23 = .ok (.iload_n 2, 1) := by decide +kernel
theorem dX0_wholeOnes_24 : decode cX0_wholeOnes 24 = .ok (.ishl, 1) := by decide +kernel
theorem dX0_wholeOnes_25 : decode cX0_wholeOnes 25 = .ok (.ior, 1) := by decide +kernel
theorem dX0_wholeOnes_26 : decode cX0_wholeOnes 26 = .ok (.istore_n 1, 1) := by decide +kernel
theorem dX0_wholeOnes_27 : decode cX0_wholeOnes 27 = .ok (.iinc 2 1, 3) := by decide +kernel
theorem dX0_wholeOnes_30 : decode cX0_wholeOnes 30 = .ok (.goto (-26), 3) := by decide +kernel
theorem dX0_wholeOnes_33 : decode cX0_wholeOnes 33 = .ok (.iload_n 1, 1) := by decide +kernel
theorem dX0_wholeOnes_34 : decode cX0_wholeOnes 34 = .ok (.ireturn, 1) := by decide +kernel
theorem dX1_init_0 : decode cX1_init 0 = .ok (.aload_n 0, 1) := by decide +kernel
theorem dX1_init_1 : decode cX1_init 1 = .ok (.invokespecial 3, 3) := by decide +kernel
theorem dX1_init_4 : decode cX1_init 4 = .ok (.aload_n 0, 1) := by decide +kernel
theorem dX1_init_5 : decode cX1_init 5 = .ok (.bipush 64, 2) := by decide +kernel
theorem dX1_init_7 : decode cX1_init 7 = .ok (.newarray .long, 2) := by decide +kernel
theorem dX1_init_9 : decode cX1_init 9 = .ok (.putfield 11, 3) := by decide +kernel
theorem dX1_init_12 : decode cX1_init 12 = .ok (.aload_n 0, 1) := by decide +kernel
theorem dX1_init_13 : decode cX1_init 13 = .ok (.iconst (-1), 1) := by decide +kernel
theorem dX1_init_14 : decode cX1_init 14 = .ok (.putfield 15, 3) := by decide +kernel
theorem dX1_init_17 : decode cX1_init 17 = .ok (.aload_n 0, 1) := by decide +kernel
theorem dX1_init_18 : decode cX1_init 18 = .ok (.iconst (-1), 1) := by decide +kernel
theorem dX1_init_19 : decode cX1_init 19 = .ok (.putfield 19, 3) := by decide +kernel
theorem dX1_init_22 : decode cX1_init 22 = .ok (.return_, 1) := by decide +kernel
theorem dX1_explore_0 : decode cX1_explore 0 = .ok (.aload_n 0, 1) := by decide +kernel
theorem dX1_explore_1 : decode cX1_explore 1 = .ok (.getfield 15, 3) := by decide +kernel
theorem dX1_explore_4 : decode cX1_explore 4 = .ok (.aload_n 1, 1) := by decide +kernel
theorem dX1_explore_5 : decode cX1_explore 5 = .ok (.getfield 22, 3) := by decide +kernel
theorem dX1_explore_8 : decode cX1_explore 8 = .ok (.if_icmp .ne 12, 3) := by decide +kernel
theorem dX1_explore_11 : decode cX1_explore 11 = .ok (.aload_n 0, 1) := by decide +kernel
theorem dX1_explore_12 : decode cX1_explore 12 = .ok (.getfield 19, 3) := by decide +kernel
theorem dX1_explore_15 : decode cX1_explore 15 = .ok (.iload_n 2, 1) := by decide +kernel
theorem dX1_explore_16 : decode cX1_explore 16 = .ok (.if_icmp .ne 4, 3) := by decide +kernel
theorem dX1_explore_19 : decode cX1_explore 19 = .ok (.return_, 1) := by decide +kernel
theorem dX1_explore_20 : decode cX1_explore 20 = .ok (.aload_n 0, 1) := by decide +kernel
theorem dX1_explore_21 : decode cX1_explore 21 = .ok (.aload_n 1, 1) := by decide +kernel
theorem dX1_explore_22 : decode cX1_explore 22 = .ok (.getfield 22, 3) := by decide +kernel
theorem dX1_explore_25 : decode cX1_explore 25 = .ok (.putfield 15, 3) := by decide +kernel
theorem dX1_explore_28 : decode cX1_explore 28 = .ok (.aload_n 0, 1) := by decide +kernel
theorem dX1_explore_29 : decode cX1_explore 29 = .ok (.iload_n 2, 1) := by decide +kernel
theorem dX1_explore_30 : decode cX1_explore 30 = .ok (.putfield 19, 3) := by decide +kernel
theorem dX1_explore_33 : decode cX1_explore 33 = .ok (.aload_n 0, 1) := by decide +kernel
theorem dX1_explore_34 : decode cX1_explore 34 = .ok (.getfield 11, 3) := by decide +kernel
theorem dX1_explore_37 : decode cX1_explore 37 = .ok (.lconst 0, 1) := by decide +kernel
theorem dX1_explore_38 : decode cX1_explore 38 = .ok (.invokestatic 27, 3) := by decide +kernel
theorem dX1_explore_41 : decode cX1_explore 41 = .ok (.aload_n 3, 1) := by decide +kernel
theorem dX1_explore_42 : decode cX1_explore 42 = .ok (.aload_n 1, 1) := by decide +kernel
theorem dX1_explore_43 : decode cX1_explore 43 = .ok (.invokevirtual 33, 3) := by decide +kernel
theorem dX1_explore_46 : decode cX1_explore 46 = .ok (.aload_n 0, 1) := by decide +kernel
theorem dX1_explore_47 : decode cX1_explore 47 = .ok (.aload_n 3, 1) := by decide +kernel
theorem dX1_explore_48 : decode cX1_explore 48 = .ok (.aload_n 1, 1) := by decide +kernel
theorem dX1_explore_49 : decode cX1_explore 49 = .ok (.iload_n 2, 1) := by decide +kernel
theorem dX1_explore_50 : decode cX1_explore 50 = .ok (.iconst 0, 1) := by decide +kernel
theorem dX1_explore_51 : decode cX1_explore 51 = .ok (.invokestatic 39, 3) := by decide +kernel
theorem dX1_explore_54 : decode cX1_explore 54 = .ok (.return_, 1) := by decide +kernel
theorem dX1_follow_0 : decode cX1_follow 0 = .ok (.iload 4, 2) := by decide +kernel
theorem dX1_follow_2 : decode cX1_follow 2 = .ok (.bipush 12, 2) := by decide +kernel
theorem dX1_follow_4 : decode cX1_follow 4 = .ok (.if_icmp .gt 12, 3) := by decide +kernel
theorem dX1_follow_7 : decode cX1_follow 7 = .ok (.aload_n 1, 1) := by decide +kernel
theorem dX1_follow_8 : decode cX1_follow 8 = .ok (.aload_n 2, 1) := by decide +kernel
theorem dX1_follow_9 : decode cX1_follow 9 = .ok (.iload_n 3, 1) := by decide +kernel
theorem dX1_follow_10 : decode cX1_follow 10 = .ok (.invokevirtual 43, 3) := by decide +kernel
theorem dX1_follow_13 : decode cX1_follow 13 = .ok (.ifCond .ne 12, 3) := by decide +kernel
theorem dX1_follow_16 : decode cX1_follow 16 = .ok (.aload_n 0, 1) := by decide +kernel
theorem dX1_follow_17 : decode cX1_follow 17 = .ok (.aload_n 1, 1) := by decide +kernel
theorem dX1_follow_18 : decode cX1_follow 18 = .ok (.invokevirtual 47, 3) := by decide +kernel
theorem dX1_follow_21 : decode cX1_follow 21 = .ok (.invokevirtual 51, 3) := by decide +kernel
theorem dX1_follow_24 : decode cX1_follow 24 = .ok (.return_, 1) := by decide +kernel
theorem dX1_follow_25 : decode cX1_follow 25 = .ok (.aload_n 1, 1) := by decide +kernel
theorem dX1_follow_26 : decode cX1_follow 26 = .ok (.getfield 55, 3) := by decide +kernel
theorem dX1_follow_29 : decode cX1_follow 29 = .ok (.istore 5, 2) := by decide +kernel
theorem dX1_follow_31 : decode cX1_follow 31 = .ok (.aload_n 1, 1) := by decide +kernel
theorem dX1_follow_32 : decode cX1_follow 32 = .ok (.getfield 58, 3) := by decide +kernel
theorem dX1_follow_35 : decode cX1_follow 35 = .ok (.istore 6, 2) := by decide +kernel
theorem dX1_follow_37 : decode cX1_follow 37 = .ok (.aload_n 1, 1) := by decide +kernel
theorem dX1_follow_38 : decode cX1_follow 38 = .ok (.iload 5, 2) := by decide +kernel
theorem dX1_follow_40 : decode cX1_follow 40 = .ok (.invokevirtual 61, 3) := by decide +kernel
theorem dX1_follow_43 : decode cX1_follow 43 = .ok (.istore 7, 2) := by decide +kernel
theorem dX1_follow_45 : decode cX1_follow 45 = .ok (.aload_n 1, 1) := by decide +kernel
theorem dX1_follow_46 : decode cX1_follow 46 = .ok (.iload 6, 2) := by decide +kernel
theorem dX1_follow_48 : decode cX1_follow 48 = .ok (.invokevirtual 61, 3) := by decide +kernel
theorem dX1_follow_51 : decode cX1_follow 51 = .ok (.istore 8, 2) := by decide +kernel
theorem dX1_follow_53 : decode cX1_follow 53 = .ok (.aload_n 1, 1) := by decide +kernel
theorem dX1_follow_54 : decode cX1_follow 54 = .ok (.iconst 1, 1) := by decide +kernel
theorem dX1_follow_55 : decode cX1_follow 55 = .ok (.invokevirtual 65, 3) := by decide +kernel
theorem dX1_follow_58 : decode cX1_follow 58 = .ok (.aload_n 0, 1) := by decide +kernel
theorem dX1_follow_59 : decode cX1_follow 59 = .ok (.aload_n 1, 1) := by decide +kernel
theorem dX1_follow_60 : decode cX1_follow 60 = .ok (.aload_n 2, 1) := by decide +kernel
theorem dX1_follow_61 : decode cX1_follow 61 = .ok (.iload_n 3, 1) := by decide +kernel
theorem dX1_follow_62 : decode cX1_follow 62 = .ok (.iload 4, 2) := by decide +kernel
theorem dX1_follow_64 : decode cX1_follow 64 = .ok (.iconst 1, 1) := by decide +kernel
theorem dX1_follow_65 : decode cX1_follow 65 = .ok (.iadd, 1) := by decide +kernel
theorem dX1_follow_66 : decode cX1_follow 66 = .ok (.invokestatic 39, 3) := by decide +kernel
theorem dX1_follow_69 : decode cX1_follow 69 = .ok (.aload_n 1, 1) := by decide +kernel
theorem dX1_follow_70 : decode cX1_follow 70 = .ok (.iload 5, 2) := by decide +kernel
theorem dX1_follow_72 : decode cX1_follow 72 = .ok (.iload 6, 2) := by decide +kernel
theorem dX1_follow_74 : decode cX1_follow 74 = .ok (.iload 7, 2) := by decide +kernel
theorem dX1_follow_76 : decode cX1_follow 76 = .ok (.iload 8, 2) := by decide +kernel
theorem dX1_follow_78 : decode cX1_follow 78 = .ok (.invokevirtual 69, 3) := by decide +kernel
theorem dX1_follow_81 : decode cX1_follow 81 = .ok (.aload_n 1, 1) := by decide +kernel
theorem dX1_follow_82 : decode cX1_follow 82 = .ok (.iconst 0, 1) := by decide +kernel
theorem dX1_follow_83 : decode cX1_follow 83 = .ok (.invokevirtual 65, 3) := by decide +kernel
theorem dX1_follow_86 : decode cX1_follow 86 = .ok (.aload_n 0, 1) := by decide +kernel
theorem dX1_follow_87 : decode cX1_follow 87 = .ok (.aload_n 1, 1) := by decide +kernel
theorem dX1_follow_88 : decode cX1_follow 88 = .ok (.aload_n 2, 1) := by decide +kernel
theorem dX1_follow_89 : decode cX1_follow 89 = .ok (.iload_n 3, 1) := by decide +kernel
theorem dX1_follow_90 : decode cX1_follow 90 = .ok (.iload 4, 2) := by decide +kernel
theorem dX1_follow_92 : decode cX1_follow 92 = .ok (.iconst 1, 1) := by decide +kernel
theorem dX1_follow_93 : decode cX1_follow 93 = .ok (.iadd, 1) := by decide +kernel
theorem dX1_follow_94 : decode cX1_follow 94 = .ok (.invokestatic 39, 3) := by decide +kernel
theorem dX1_follow_97 : decode cX1_follow 97 = .ok (.aload_n 1, 1) := by decide +kernel
theorem dX1_follow_98 : decode cX1_follow 98 = .ok (.iload 5, 2) := by decide +kernel
theorem dX1_follow_100 : decode cX1_follow 100 = .ok (.iload 6, 2) := by decide +kernel
theorem dX1_follow_102 : decode cX1_follow 102 = .ok (.iload 7, 2) := by decide +kernel
theorem dX1_follow_104 : decode cX1_follow 104 = .ok (.iload 8, 2) := by decide +kernel
theorem dX1_follow_106 : decode cX1_follow 106 = .ok (.invokevirtual 69, 3) := by decide +kernel
theorem dX1_follow_109 : decode cX1_follow 109 = .ok (.return_, 1) := by decide +kernel
theorem dX1_mark_0 : decode cX1_mark 0 = .ok (.iload_n 1, 1) := by decide +kernel
theorem dX1_mark_1 : decode cX1_mark 1 = .ok (.ifCond .lt 28, 3) := by decide +kernel
theorem dX1_mark_4 : decode cX1_mark 4 = .ok (.iload_n 1, 1) := by decide +kernel
theorem dX1_mark_5 : decode cX1_mark 5 = .ok (.sipush 4096, 3) := by decide +kernel
theorem dX1_mark_8 : decode cX1_mark 8 = .ok (.if_icmp .ge 21, 3) := by decide +kernel
theorem dX1_mark_11 : decode cX1_mark 11 = .ok (.aload_n 0, 1) := by decide +kernel
theorem dX1_mark_12 : decode cX1_mark 12 = .ok (.getfield 11, 3) := by decide +kernel
theorem dX1_mark_15 : decode cX1_mark 15 = .ok (.iload_n 1, 1) := by decide +kernel
theorem dX1_mark_16 : decode cX1_mark 16 = .ok (.bipush 64, 2) := by decide +kernel
theorem dX1_mark_18 : decode cX1_mark 18 = .ok (.idiv, 1) := by decide +kernel
theorem dX1_mark_19 : decode cX1_mark 19 = .ok (.dup2, 1) := by decide +kernel
theorem dX1_mark_20 : decode cX1_mark 20 = .ok (.laload, 1) := by decide +kernel
theorem dX1_mark_21 : decode cX1_mark 21 = .ok (.lconst 1, 1) := by decide +kernel
theorem dX1_mark_22 : decode cX1_mark 22 = .ok (.iload_n 1, 1) := by decide +kernel
theorem dX1_mark_23 : decode cX1_mark 23 = .ok (.bipush 64, 2) := by decide +kernel
theorem dX1_mark_25 : decode cX1_mark 25 = .ok (.irem, 1) := by decide +kernel
theorem dX1_mark_26 : decode cX1_mark 26 = .ok (.lshl, 1) := by decide +kernel
theorem dX1_mark_27 : decode cX1_mark 27 = .ok (.lor, 1) := by decide +kernel
theorem dX1_mark_28 : decode cX1_mark 28 = .ok (.lastore, 1) := by decide +kernel
theorem dX1_mark_29 : decode cX1_mark 29 = .ok (.return_, 1) := by decide +kernel
theorem dX1_isSeen_0 : decode cX1_isSeen 0 = .ok (.iload_n 1, 1) := by decide +kernel
theorem dX1_isSeen_1 : decode cX1_isSeen 1 = .ok (.ifCond .lt 35, 3) := by decide +kernel
theorem dX1_isSeen_4 : decode cX1_isSeen 4 = .ok (.iload_n 1, 1) := by decide +kernel
theorem dX1_isSeen_5 : decode cX1_isSeen 5 = .ok (.sipush 4096, 3) := by decide +kernel
theorem dX1_isSeen_8 : decode cX1_isSeen 8 = .ok (.if_icmp .ge 28, 3) := by decide +kernel
theorem dX1_isSeen_11 : decode cX1_isSeen 11 = .ok (.aload_n 0, 1) := by decide +kernel
theorem dX1_isSeen_12 : decode cX1_isSeen 12 = .ok (.getfield 11, 3) := by decide +kernel
theorem dX1_isSeen_15 : decode cX1_isSeen 15 = .ok (.iload_n 1, 1) := by decide +kernel
theorem dX1_isSeen_16 : decode cX1_isSeen 16 = .ok (.bipush 64, 2) := by decide +kernel
theorem dX1_isSeen_18 : decode cX1_isSeen 18 = .ok (.idiv, 1) := by decide +kernel
theorem dX1_isSeen_19 : decode cX1_isSeen 19 = .ok (.laload, 1) := by decide +kernel
theorem dX1_isSeen_20 : decode cX1_isSeen 20 = .ok (.iload_n 1, 1) := by decide +kernel
theorem dX1_isSeen_21 : decode cX1_isSeen 21 = .ok (.bipush 64, 2) := by decide +kernel
theorem dX1_isSeen_23 : decode cX1_isSeen 23 = .ok (.irem, 1) := by decide +kernel
theorem dX1_isSeen_24 : decode cX1_isSeen 24 = .ok (.lshr, 1) := by decide +kernel
theorem dX1_isSeen_25 : decode cX1_isSeen 25 = .ok (.lconst 1, 1) := by decide +kernel
theorem dX1_isSeen_26 : decode cX1_isSeen 26 = .ok (.land, 1) := by decide +kernel
theorem dX1_isSeen_27 : decode cX1_isSeen 27 = .ok (.lconst 1, 1) := by decide +kernel
theorem dX1_isSeen_28 : decode cX1_isSeen 28 = .ok (.lcmp, 1) := by decide +kernel
theorem dX1_isSeen_29 : decode cX1_isSeen 29 = .ok (.ifCond .ne 7, 3) := by decide +kernel
theorem dX1_isSeen_32 : decode cX1_isSeen 32 = .ok (.iconst 1, 1) := by decide +kernel
theorem dX1_isSeen_33 : decode cX1_isSeen 33 = .ok (.goto 4, 3) := by decide +kernel
theorem dX1_isSeen_36 : decode cX1_isSeen 36 = .ok (.iconst 0, 1) := by decide +kernel
theorem dX1_isSeen_37 : decode cX1_isSeen 37 = .ok (.ireturn, 1) := by decide +kernel
theorem dX1_howMany_0 : decode cX1_howMany 0 = .ok (.iconst 0, 1) := by decide +kernel
theorem dX1_howMany_1 : decode cX1_howMany 1 = .ok (.istore_n 1, 1) := by decide +kernel
theorem dX1_howMany_2 : decode cX1_howMany 2 = .ok (.iconst 0, 1) := by decide +kernel
theorem dX1_howMany_3 : decode cX1_howMany 3 = .ok (.istore_n 2, 1) := by decide +kernel
theorem dX1_howMany_4 : decode cX1_howMany 4 = .ok (.iload_n 2, 1) := by decide +kernel
theorem dX1_howMany_5 : decode cX1_howMany 5 = .ok (.aload_n 0, 1) := by decide +kernel
theorem dX1_howMany_6 : decode cX1_howMany 6 = .ok (.getfield 11, 3) := by decide +kernel
theorem dX1_howMany_9 : decode cX1_howMany 9 = .ok (.arraylength, 1) := by decide +kernel
theorem dX1_howMany_10 : decode cX1_howMany 10 = .ok (.if_icmp .ge 21, 3) := by decide +kernel
theorem dX1_howMany_13 : decode cX1_howMany 13 = .ok (.iload_n 1, 1) := by decide +kernel
theorem dX1_howMany_14 : decode cX1_howMany 14 = .ok (.aload_n 0, 1) := by decide +kernel
theorem dX1_howMany_15 : decode cX1_howMany 15 = .ok (.getfield 11, 3) := by decide +kernel
theorem dX1_howMany_18 : decode cX1_howMany 18 = .ok (.iload_n 2, 1) := by decide +kernel
theorem dX1_howMany_19 : decode cX1_howMany 19 = .ok (.laload, 1) := by decide +kernel
theorem dX1_howMany_20 : decode cX1_howMany 20 = .ok (.invokestatic 73, 3) := by decide +kernel
theorem dX1_howMany_23 : decode cX1_howMany 23 = .ok (.iadd, 1) := by decide +kernel
theorem dX1_howMany_24 : decode cX1_howMany 24 = .ok (.istore_n 1, 1) := by decide +kernel
theorem dX1_howMany_25 : decode cX1_howMany 25 = .ok (.iinc 2 1, 3) := by decide +kernel
theorem dX1_howMany_28 : decode cX1_howMany 28 = .ok (.goto (-24), 3) := by decide +kernel
theorem dX1_howMany_31 : decode cX1_howMany 31 = .ok (.iload_n 1, 1) := by decide +kernel
theorem dX1_howMany_32 : decode cX1_howMany 32 = .ok (.ireturn, 1) := by decide +kernel
theorem dX1_fewestUnits_0 : decode cX1_fewestUnits 0 = .ok (.bipush 12, 2) := by decide +kernel
theorem dX1_fewestUnits_2 : decode cX1_fewestUnits 2 = .ok (.istore_n 1, 1) := by decide +kernel
theorem dX1_fewestUnits_3 : decode cX1_fewestUnits 3 = .ok (.iconst 0, 1) := by decide +kernel
theorem dX1_fewestUnits_4 : decode cX1_fewestUnits 4 = .ok (.istore_n 2, 1) := by decide +kernel
theorem dX1_fewestUnits_5 : decode cX1_fewestUnits 5 = .ok (.iload_n 2, 1) := by decide +kernel
theorem dX1_fewestUnits_6 : decode cX1_fewestUnits 6 = .ok (.sipush 4096, 3) := by decide +kernel
theorem dX1_fewestUnits_9 : decode cX1_fewestUnits 9 = .ok (.if_icmp .ge 26, 3) := by decide +kernel
theorem dX1_fewestUnits_12 : decode cX1_fewestUnits 12 = .ok (.aload_n 0, 1) := by decide +kernel
theorem dX1_fewestUnits_13 : decode cX1_fewestUnits 13 = .ok (.iload_n 2, 1) := by decide +kernel
theorem dX1_fewestUnits_14 : decode cX1_fewestUnits 14 = .ok (.invokevirtual 79, 3) := by decide +kernel
theorem dX1_fewestUnits_17 : decode cX1_fewestUnits 17 = .ok (.ifCond .eq 12, 3) := by decide +kernel
theorem dX1_fewestUnits_20 : decode cX1_fewestUnits 20 = .ok (.iload_n 1, 1) := by decide +kernel
theorem dX1_fewestUnits_21 : decode cX1_fewestUnits 21 = .ok (.iload_n 2, 1) := by decide +kernel
theorem dX1_fewestUnits_22 : decode cX1_fewestUnits 22 = .ok (.invokestatic 83, 3) := by decide +kernel
theorem dX1_fewestUnits_25 : decode cX1_fewestUnits 25 = .ok (.invokestatic 87, 3) := by decide +kernel
theorem dX1_fewestUnits_28 : decode cX1_fewestUnits 28 = .ok (.istore_n 1, 1) := by decide +kernel
theorem dX1_fewestUnits_29 : decode cX1_fewestUnits 29 = .ok (.iinc 2 1, 3) := by decide +kernel
theorem dX1_fewestUnits_32 : decode cX1_fewestUnits 32 = .ok (.goto (-27), 3) := by decide +kernel
theorem dX1_fewestUnits_35 : decode cX1_fewestUnits 35 = .ok (.iload_n 1, 1) := by decide +kernel
theorem dX1_fewestUnits_36 : decode cX1_fewestUnits 36 = .ok (.ireturn, 1) := by decide +kernel
theorem dX1_mostUnits_0 : decode cX1_mostUnits 0 = .ok (.iconst 0, 1) := by decide +kernel
theorem dX1_mostUnits_1 : decode cX1_mostUnits 1 = .ok (.istore_n 1, 1) := by decide +kernel
theorem dX1_mostUnits_2 : decode cX1_mostUnits 2 = .ok (.iconst 0, 1) := by decide +kernel
theorem dX1_mostUnits_3 : decode cX1_mostUnits 3 = .ok (.istore_n 2, 1) := by decide +kernel
theorem dX1_mostUnits_4 : decode cX1_mostUnits 4 = .ok (.iload_n 2, 1) := by decide +kernel
theorem dX1_mostUnits_5 : decode cX1_mostUnits 5 = .ok (.sipush 4096, 3) := by decide +kernel
theorem dX1_mostUnits_8 : decode cX1_mostUnits 8 = .ok (.if_icmp .ge 26, 3) := by decide +kernel
theorem dX1_mostUnits_11 : decode cX1_mostUnits 11 = .ok (.aload_n 0, 1) := by decide +kernel
theorem dX1_mostUnits_12 : decode cX1_mostUnits 12 = .ok (.iload_n 2, 1) := by decide +kernel
theorem dX1_mostUnits_13 : decode cX1_mostUnits 13 = .ok (.invokevirtual 79, 3) := by decide +kernel
theorem dX1_mostUnits_16 : decode cX1_mostUnits 16 = .ok (.ifCond .eq 12, 3) := by decide +kernel
theorem dX1_mostUnits_19 : decode cX1_mostUnits 19 = .ok (.iload_n 1, 1) := by decide +kernel
theorem dX1_mostUnits_20 : decode cX1_mostUnits 20 = .ok (.iload_n 2, 1) := by decide +kernel
theorem dX1_mostUnits_21 : decode cX1_mostUnits 21 = .ok (.invokestatic 83, 3) := by decide +kernel
theorem dX1_mostUnits_24 : decode cX1_mostUnits 24 = .ok (.invokestatic 93, 3) := by decide +kernel
theorem dX1_mostUnits_27 : decode cX1_mostUnits 27 = .ok (.istore_n 1, 1) := by decide +kernel
theorem dX1_mostUnits_28 : decode cX1_mostUnits 28 = .ok (.iinc 2 1, 3) := by decide +kernel
theorem dX1_mostUnits_31 : decode cX1_mostUnits 31 = .ok (.goto (-27), 3) := by decide +kernel
theorem dX1_mostUnits_34 : decode cX1_mostUnits 34 = .ok (.iload_n 1, 1) := by decide +kernel
theorem dX1_mostUnits_35 : decode cX1_mostUnits 35 = .ok (.ireturn, 1) := by decide +kernel
theorem dX1_hasWith_0 : decode cX1_hasWith 0 = .ok (.iconst 0, 1) := by decide +kernel
theorem dX1_hasWith_1 : decode cX1_hasWith 1 = .ok (.istore_n 2, 1) := by decide +kernel
theorem dX1_hasWith_2 : decode cX1_hasWith 2 = .ok (.iload_n 2, 1) := by decide +kernel
theorem dX1_hasWith_3 : decode cX1_hasWith 3 = .ok (.sipush 4096, 3) := by decide +kernel
theorem dX1_hasWith_6 : decode cX1_hasWith 6 = .ok (.if_icmp .ge 26, 3) := by decide +kernel
theorem dX1_hasWith_9 : decode cX1_hasWith 9 = .ok (.iload_n 2, 1) := by decide +kernel
theorem dX1_hasWith_10 : decode cX1_hasWith 10 = .ok (.iload_n 1, 1) := by decide +kernel
theorem dX1_hasWith_11 : decode cX1_hasWith 11 = .ok (.iand, 1) := by decide +kernel
theorem dX1_hasWith_12 : decode cX1_hasWith 12 = .ok (.iload_n 1, 1) := by decide +kernel
theorem dX1_hasWith_13 : decode cX1_hasWith 13 = .ok (.if_icmp .ne 13, 3) := by decide +kernel
theorem dX1_hasWith_16 : decode cX1_hasWith 16 = .ok (.aload_n 0, 1) := by decide +kernel
theorem dX1_hasWith_17 : decode cX1_hasWith 17 = .ok (.iload_n 2, 1) := by decide +kernel
theorem dX1_hasWith_18 : decode cX1_hasWith 18 = .ok (.invokevirtual 79, 3) := by decide +kernel
theorem dX1_hasWith_21 : decode cX1_hasWith 21 = .ok (.ifCond .eq 5, 3) := by decide +kernel
theorem dX1_hasWith_24 : decode cX1_hasWith 24 = .ok (.iconst 1, 1) := by decide +kernel
theorem dX1_hasWith_25 : decode cX1_hasWith 25 = .ok (.ireturn, 1) := by decide +kernel
theorem dX1_hasWith_26 : decode cX1_hasWith 26 = .ok (.iinc 2 1, 3) := by decide +kernel
theorem dX1_hasWith_29 : decode cX1_hasWith 29 = .ok (.goto (-27), 3) := by decide +kernel
theorem dX1_hasWith_32 : decode cX1_hasWith 32 = .ok (.iconst 0, 1) := by decide +kernel
theorem dX1_hasWith_33 : decode cX1_hasWith 33 = .ok (.ireturn, 1) := by decide +kernel
theorem dX1_leastMiss_0 : decode cX1_leastMiss 0 = .ok (.ldc2_w 96, 3) := by decide +kernel
theorem dX1_leastMiss_3 : decode cX1_leastMiss 3 = .ok (.lstore_n 2, 1) := by decide +kernel
theorem dX1_leastMiss_4 : decode cX1_leastMiss 4 = .ok (.iconst 0, 1) := by decide +kernel
theorem dX1_leastMiss_5 : decode cX1_leastMiss 5 = .ok (.istore 4, 2) := by decide +kernel
theorem dX1_leastMiss_7 : decode cX1_leastMiss 7 = .ok (.iload 4, 2) := by decide +kernel
theorem dX1_leastMiss_9 : decode cX1_leastMiss 9 = .ok (.sipush 4096, 3) := by decide +kernel
theorem dX1_leastMiss_12 : decode cX1_leastMiss 12 = .ok (.if_icmp .ge 46, 3) := by decide +kernel
theorem dX1_leastMiss_15 : decode cX1_leastMiss 15 = .ok (.aload_n 0, 1) := by decide +kernel
theorem dX1_leastMiss_16 : decode cX1_leastMiss 16 = .ok (.iload 4, 2) := by decide +kernel
theorem dX1_leastMiss_18 : decode cX1_leastMiss 18 = .ok (.invokevirtual 79, 3) := by decide +kernel
theorem dX1_leastMiss_21 : decode cX1_leastMiss 21 = .ok (.ifCond .eq 31, 3) := by decide +kernel
theorem dX1_leastMiss_24 : decode cX1_leastMiss 24 = .ok (.aload_n 1, 1) := by decide +kernel
theorem dX1_leastMiss_25 : decode cX1_leastMiss 25 = .ok (.iload 4, 2) := by decide +kernel
theorem dX1_leastMiss_27 : decode cX1_leastMiss 27 = .ok (.invokevirtual 98, 3) := by decide +kernel
theorem dX1_leastMiss_30 : decode cX1_leastMiss 30 = .ok (.lstore 5, 2) := by decide +kernel
theorem dX1_leastMiss_32 : decode cX1_leastMiss 32 = .ok (.lload_n 2, 1) := by decide +kernel
theorem dX1_leastMiss_33 : decode cX1_leastMiss 33 = .ok (.ldc2_w 96, 3) := by decide +kernel
theorem dX1_leastMiss_36 : decode cX1_leastMiss 36 = .ok (.lcmp, 1) := by decide +kernel
theorem dX1_leastMiss_37 : decode cX1_leastMiss 37 = .ok (.ifCond .ne 8, 3) := by decide +kernel
theorem dX1_leastMiss_40 : decode cX1_leastMiss 40 = .ok (.lload 5, 2) := by decide +kernel
theorem dX1_leastMiss_42 : decode cX1_leastMiss 42 = .ok (.goto 9, 3) := by decide +kernel
theorem dX1_leastMiss_45 : decode cX1_leastMiss 45 = .ok (.lload_n 2, 1) := by decide +kernel
theorem dX1_leastMiss_46 : decode cX1_leastMiss 46 = .ok (.lload 5, 2) := by decide +kernel
theorem dX1_leastMiss_48 : decode cX1_leastMiss 48 = .ok (.invokestatic 102, 3) := by decide +kernel
theorem dX1_leastMiss_51 : decode cX1_leastMiss 51 = .ok (.lstore_n 2, 1) := by decide +kernel
theorem dX1_leastMiss_52 : decode cX1_leastMiss 52 = .ok (.iinc 4 1, 3) := by decide +kernel
theorem dX1_leastMiss_55 : decode cX1_leastMiss 55 = .ok (.goto (-48), 3) := by decide +kernel
theorem dX1_leastMiss_58 : decode cX1_leastMiss 58 = .ok (.lload_n 2, 1) := by decide +kernel
theorem dX1_leastMiss_59 : decode cX1_leastMiss 59 = .ok (.lreturn, 1) := by decide +kernel
theorem dX2_init_0 : decode cX2_init 0 = .ok (.aload_n 0, 1) := by decide +kernel
theorem dX2_init_1 : decode cX2_init 1 = .ok (.invokespecial 3, 3) := by decide +kernel
theorem dX2_init_4 : decode cX2_init 4 = .ok (.aload_n 0, 1) := by decide +kernel
theorem dX2_init_5 : decode cX2_init 5 = .ok (.sipush 300, 3) := by decide +kernel
theorem dX2_init_8 : decode cX2_init 8 = .ok (.newarray .byte, 2) := by decide +kernel
theorem dX2_init_10 : decode cX2_init 10 = .ok (.putfield 11, 3) := by decide +kernel
theorem dX2_init_13 : decode cX2_init 13 = .ok (.return_, 1) := by decide +kernel
theorem dX2_sign_0 : decode cX2_sign 0 = .ok (.iload_n 1, 1) := by decide +kernel
theorem dX2_sign_1 : decode cX2_sign 1 = .ok (.ifCond .lt 27, 3) := by decide +kernel
theorem dX2_sign_4 : decode cX2_sign 4 = .ok (.iload_n 1, 1) := by decide +kernel
theorem dX2_sign_5 : decode cX2_sign 5 = .ok (.aload_n 0, 1) := by decide +kernel
theorem dX2_sign_6 : decode cX2_sign 6 = .ok (.getfield 15, 3) := by decide +kernel
theorem dX2_sign_9 : decode cX2_sign 9 = .ok (.if_icmp .ge 19, 3) := by decide +kernel
theorem dX2_sign_12 : decode cX2_sign 12 = .ok (.iload_n 1, 1) := by decide +kernel
theorem dX2_sign_13 : decode cX2_sign 13 = .ok (.sipush 300, 3) := by decide +kernel
theorem dX2_sign_16 : decode cX2_sign 16 = .ok (.if_icmp .ge 12, 3) := by decide +kernel
theorem dX2_sign_19 : decode cX2_sign 19 = .ok (.aload_n 0, 1) := by decide +kernel
theorem dX2_sign_20 : decode cX2_sign 20 = .ok (.getfield 11, 3) := by decide +kernel
theorem dX2_sign_23 : decode cX2_sign 23 = .ok (.iload_n 1, 1) := by decide +kernel
theorem dX2_sign_24 : decode cX2_sign 24 = .ok (.baload, 1) := by decide +kernel
theorem dX2_sign_25 : decode cX2_sign 25 = .ok (.goto 5, 3) := by decide +kernel
theorem dX2_sign_28 : decode cX2_sign 28 = .ok (.bipush (-5), 2) := by decide +kernel
theorem dX2_sign_30 : decode cX2_sign 30 = .ok (.ireturn, 1) := by decide +kernel
theorem dX2_put_0 : decode cX2_put 0 = .ok (.aload_n 0, 1) := by decide +kernel
theorem dX2_put_1 : decode cX2_put 1 = .ok (.getfield 15, 3) := by decide +kernel
theorem dX2_put_4 : decode cX2_put 4 = .ok (.sipush 300, 3) := by decide +kernel
theorem dX2_put_7 : decode cX2_put 7 = .ok (.if_icmp .ge 24, 3) := by decide +kernel
theorem dX2_put_10 : decode cX2_put 10 = .ok (.aload_n 0, 1) := by decide +kernel
theorem dX2_put_11 : decode cX2_put 11 = .ok (.getfield 11, 3) := by decide +kernel
theorem dX2_put_14 : decode cX2_put 14 = .ok (.aload_n 0, 1) := by decide +kernel
theorem dX2_put_15 : decode cX2_put 15 = .ok (.getfield 15, 3) := by decide +kernel
theorem dX2_put_18 : decode cX2_put 18 = .ok (.iload_n 1, 1) := by decide +kernel
theorem dX2_put_19 : decode cX2_put 19 = .ok (.i2b, 1) := by decide +kernel
theorem dX2_put_20 : decode cX2_put 20 = .ok (.bastore, 1) := by decide +kernel
theorem dX2_put_21 : decode cX2_put 21 = .ok (.aload_n 0, 1) := by decide +kernel
theorem dX2_put_22 : decode cX2_put 22 = .ok (.dup, 1) := by decide +kernel
theorem dX2_put_23 : decode cX2_put 23 = .ok (.getfield 15, 3) := by decide +kernel
theorem dX2_put_26 : decode cX2_put 26 = .ok (.iconst 1, 1) := by decide +kernel
theorem dX2_put_27 : decode cX2_put 27 = .ok (.iadd, 1) := by decide +kernel
theorem dX2_put_28 : decode cX2_put 28 = .ok (.putfield 15, 3) := by decide +kernel
theorem dX2_put_31 : decode cX2_put 31 = .ok (.return_, 1) := by decide +kernel
theorem dX2_putWord_0 : decode cX2_putWord 0 = .ok (.iconst 0, 1) := by decide +kernel
theorem dX2_putWord_1 : decode cX2_putWord 1 = .ok (.istore_n 2, 1) := by decide +kernel
theorem dX2_putWord_2 : decode cX2_putWord 2 = .ok (.iload_n 2, 1) := by decide +kernel
theorem dX2_putWord_3 : decode cX2_putWord 3 = .ok (.aload_n 1, 1) := by decide +kernel
theorem dX2_putWord_4 : decode cX2_putWord 4 = .ok (.invokevirtual 19, 3) := by decide +kernel
theorem dX2_putWord_7 : decode cX2_putWord 7 = .ok (.if_icmp .ge 18, 3) := by decide +kernel
theorem dX2_putWord_10 : decode cX2_putWord 10 = .ok (.aload_n 0, 1) := by decide +kernel
theorem dX2_putWord_11 : decode cX2_putWord 11 = .ok (.aload_n 1, 1) := by decide +kernel
theorem dX2_putWord_12 : decode cX2_putWord 12 = .ok (.iload_n 2, 1) := by decide +kernel
theorem dX2_putWord_13 : decode cX2_putWord 13 = .ok (.invokevirtual 24, 3) := by decide +kernel
theorem dX2_putWord_16 : decode cX2_putWord 16 = .ok (.invokevirtual 28, 3) := by decide +kernel
theorem dX2_putWord_19 : decode cX2_putWord 19 = .ok (.iinc 2 1, 3) := by decide +kernel
theorem dX2_putWord_22 : decode cX2_putWord 22 = .ok (.goto (-20), 3) := by decide +kernel
theorem dX2_putWord_25 : decode cX2_putWord 25 = .ok (.return_, 1) := by decide +kernel
theorem dX2_putNumber_0 : decode cX2_putNumber 0 = .ok (.iload_n 1, 1) := by decide +kernel
theorem dX2_putNumber_1 : decode cX2_putNumber 1 = .ok (.bipush 10, 2) := by decide +kernel
theorem dX2_putNumber_3 : decode cX2_putNumber 3 = .ok (.if_icmp .lt 17, 3) := by decide +kernel
theorem dX2_putNumber_6 : decode cX2_putNumber 6 = .ok (.aload_n 0, 1) := by decide +kernel
theorem dX2_putNumber_7 : decode cX2_putNumber 7 = .ok (.bipush 48, 2) := by decide +kernel
theorem dX2_putNumber_9 : decode cX2_putNumber 9 = .ok (.iload_n 1, 1) := by decide +kernel
theorem dX2_putNumber_10 : decode cX2_putNumber 10 = .ok (.bipush 10, 2) := by decide +kernel
theorem dX2_putNumber_12 : decode cX2_putNumber 12 = .ok (.idiv, 1) := by decide +kernel
theorem dX2_putNumber_13 : decode cX2_putNumber 13 = .ok (.bipush 10, 2) := by decide +kernel
theorem dX2_putNumber_15 : decode cX2_putNumber 15 = .ok (.irem, 1) := by decide +kernel
theorem dX2_putNumber_16 : decode cX2_putNumber 16 = .ok (.iadd, 1) := by decide +kernel
theorem dX2_putNumber_17 : decode cX2_putNumber 17 = .ok (.invokevirtual 28, 3) := by decide +kernel
theorem dX2_putNumber_20 : decode cX2_putNumber 20 = .ok (.aload_n 0, 1) := by decide +kernel
theorem dX2_putNumber_21 : decode cX2_putNumber 21 = .ok (.bipush 48, 2) := by decide +kernel
theorem dX2_putNumber_23 : decode cX2_putNumber 23 = .ok (.iload_n 1, 1) := by decide +kernel
theorem dX2_putNumber_24 : decode cX2_putNumber 24 = .ok (.bipush 10, 2) := by decide +kernel
theorem dX2_putNumber_26 : decode cX2_putNumber 26 = .ok (.irem, 1) := by decide +kernel
theorem dX2_putNumber_27 : decode cX2_putNumber 27 = .ok (.iadd, 1) := by decide +kernel
theorem dX2_putNumber_28 : decode cX2_putNumber 28 = .ok (.invokevirtual 28, 3) := by decide +kernel
theorem dX2_putNumber_31 : decode cX2_putNumber 31 = .ok (.return_, 1) := by decide +kernel
theorem dX2_putUnits_0 : decode cX2_putUnits 0 = .ok (.iload_n 1, 1) := by decide +kernel
theorem dX2_putUnits_1 : decode cX2_putUnits 1 = .ok (.ifCond .ne 10, 3) := by decide +kernel
theorem dX2_putUnits_4 : decode cX2_putUnits 4 = .ok (.aload_n 0, 1) := by decide +kernel
theorem dX2_putUnits_5 : decode cX2_putUnits 5 = .ok (.bipush 45, 2) := by decide +kernel
theorem dX2_putUnits_7 : decode cX2_putUnits 7 = .ok (.invokevirtual 28, 3) := by decide +kernel
theorem dX2_putUnits_10 : decode cX2_putUnits 10 = .ok (.return_, 1) := by decide +kernel
theorem dX2_putUnits_11 : decode cX2_putUnits 11 = .ok (.iconst 0, 1) := by decide +kernel
theorem dX2_putUnits_12 : decode cX2_putUnits 12 = .ok (.istore_n 2, 1) := by decide +kernel
theorem dX2_putUnits_13 : decode cX2_putUnits 13 = .ok (.iconst 0, 1) := by decide +kernel
theorem dX2_putUnits_14 : decode cX2_putUnits 14 = .ok (.istore_n 3, 1) := by decide +kernel
theorem dX2_putUnits_15 : decode cX2_putUnits 15 = .ok (.iload_n 3, 1) := by decide +kernel
theorem dX2_putUnits_16 : decode cX2_putUnits 16 = .ok (.bipush 12, 2) := by decide +kernel
theorem dX2_putUnits_18 : decode cX2_putUnits 18 = .ok (.if_icmp .ge 35, 3) := by decide +kernel
theorem dX2_putUnits_21 : decode cX2_putUnits 21 = .ok (.iload_n 1, 1) := by decide +kernel
theorem dX2_putUnits_22 : decode cX2_putUnits 22 = .ok (.iload_n 3, 1) := by decide +kernel
theorem dX2_putUnits_23 : decode cX2_putUnits 23 = .ok (.ishr, 1) := by decide +kernel
theorem dX2_putUnits_24 : decode cX2_putUnits 24 = .ok (.iconst 1, 1) := by decide +kernel
theorem dX2_putUnits_25 : decode cX2_putUnits 25 = .ok (.iand, 1) := by decide +kernel
theorem dX2_putUnits_26 : decode cX2_putUnits 26 = .ok (.iconst 1, 1) := by decide +kernel
theorem dX2_putUnits_27 : decode cX2_putUnits 27 = .ok (.if_icmp .ne 20, 3) := by decide +kernel
theorem dX2_putUnits_30 : decode cX2_putUnits 30 = .ok (.iload_n 2, 1) := by decide +kernel
theorem dX2_putUnits_31 : decode cX2_putUnits 31 = .ok (.ifCond .eq 9, 3) := by decide +kernel
theorem dX2_putUnits_34 : decode cX2_putUnits 34 = .ok (.aload_n 0, 1) := by decide +kernel
theorem dX2_putUnits_35 : decode cX2_putUnits 35 = .ok (.bipush 43, 2) := by decide +kernel
theorem dX2_putUnits_37 : decode cX2_putUnits 37 = .ok (.invokevirtual 28, 3) := by decide +kernel
theorem dX2_putUnits_40 : decode cX2_putUnits 40 = .ok (.aload_n 0, 1) := by decide +kernel
theorem dX2_putUnits_41 : decode cX2_putUnits 41 = .ok (.iload_n 3, 1) := by decide +kernel
theorem dX2_putUnits_42 : decode cX2_putUnits 42 = .ok (.invokevirtual 32, 3) := by decide +kernel
theorem dX2_putUnits_45 : decode cX2_putUnits 45 = .ok (.iconst 1, 1) := by decide +kernel
theorem dX2_putUnits_46 : decode cX2_putUnits 46 = .ok (.istore_n 2, 1) := by decide +kernel
theorem dX2_putUnits_47 : decode cX2_putUnits 47 = .ok (.iinc 3 1, 3) := by decide +kernel
theorem dX2_putUnits_50 : decode cX2_putUnits 50 = .ok (.goto (-35), 3) := by decide +kernel
theorem dX2_putUnits_53 : decode cX2_putUnits 53 = .ok (.return_, 1) := by decide +kernel
theorem dX3_init_0 : decode cX3_init 0 = .ok (.aload_n 0, 1) := by decide +kernel
theorem dX3_init_1 : decode cX3_init 1 = .ok (.invokespecial 3, 3) := by decide +kernel
theorem dX3_init_4 : decode cX3_init 4 = .ok (.aload_n 0, 1) := by decide +kernel
theorem dX3_init_5 : decode cX3_init 5 = .ok (.iconst 5, 1) := by decide +kernel
theorem dX3_init_6 : decode cX3_init 6 = .ok (.bipush 12, 2) := by decide +kernel
theorem dX3_init_8 : decode cX3_init 8 = .ok (.multianewarray 9 2, 4) := by decide +kernel
theorem dX3_init_12 : decode cX3_init 12 = .ok (.putfield 11, 3) := by decide +kernel
theorem dX3_init_15 : decode cX3_init 15 = .ok (.return_, 1) := by decide +kernel
theorem dX3_fits_0 : decode cX3_fits 0 = .ok (.iload_n 0, 1) := by decide +kernel
theorem dX3_fits_1 : decode cX3_fits 1 = .ok (.ifCond .lt 28, 3) := by decide +kernel
theorem dX3_fits_4 : decode cX3_fits 4 = .ok (.iload_n 0, 1) := by decide +kernel
theorem dX3_fits_5 : decode cX3_fits 5 = .ok (.getstatic 16, 3) := by decide +kernel
theorem dX3_fits_8 : decode cX3_fits 8 = .ok (.arraylength, 1) := by decide +kernel
theorem dX3_fits_9 : decode cX3_fits 9 = .ok (.if_icmp .ge 20, 3) := by decide +kernel
theorem dX3_fits_12 : decode cX3_fits 12 = .ok (.iload_n 1, 1) := by decide +kernel
theorem dX3_fits_13 : decode cX3_fits 13 = .ok (.ifCond .lt 16, 3) := by decide +kernel
theorem dX3_fits_16 : decode cX3_fits 16 = .ok (.iload_n 1, 1) := by decide +kernel
theorem dX3_fits_17 : decode cX3_fits 17 = .ok (.getstatic 16, 3) := by decide +kernel
theorem dX3_fits_20 : decode cX3_fits 20 = .ok (.iload_n 0, 1) := by decide +kernel
theorem dX3_fits_21 : decode cX3_fits 21 = .ok (.iaload, 1) := by decide +kernel
theorem dX3_fits_22 : decode cX3_fits 22 = .ok (.if_icmp .gt 7, 3) := by decide +kernel
theorem dX3_fits_25 : decode cX3_fits 25 = .ok (.iconst 1, 1) := by decide +kernel
theorem dX3_fits_26 : decode cX3_fits 26 = .ok (.goto 4, 3) := by decide +kernel
theorem dX3_fits_29 : decode cX3_fits 29 = .ok (.iconst 0, 1) := by decide +kernel
theorem dX3_fits_30 : decode cX3_fits 30 = .ok (.ireturn, 1) := by decide +kernel
theorem dX3_has_0 : decode cX3_has 0 = .ok (.iload_n 1, 1) := by decide +kernel
theorem dX3_has_1 : decode cX3_has 1 = .ok (.ifCond .lt 15, 3) := by decide +kernel
theorem dX3_has_4 : decode cX3_has 4 = .ok (.iload_n 1, 1) := by decide +kernel
theorem dX3_has_5 : decode cX3_has 5 = .ok (.aload_n 0, 1) := by decide +kernel
theorem dX3_has_6 : decode cX3_has 6 = .ok (.getfield 20, 3) := by decide +kernel
theorem dX3_has_9 : decode cX3_has 9 = .ok (.if_icmp .ge 7, 3) := by decide +kernel
theorem dX3_has_12 : decode cX3_has 12 = .ok (.iconst 1, 1) := by decide +kernel
theorem dX3_has_13 : decode cX3_has 13 = .ok (.goto 4, 3) := by decide +kernel
theorem dX3_has_16 : decode cX3_has 16 = .ok (.iconst 0, 1) := by decide +kernel
theorem dX3_has_17 : decode cX3_has 17 = .ok (.ireturn, 1) := by decide +kernel
theorem dX3_fact_0 : decode cX3_fact 0 = .ok (.iload_n 1, 1) := by decide +kernel
theorem dX3_fact_1 : decode cX3_fact 1 = .ok (.ifCond .lt 31, 3) := by decide +kernel
theorem dX3_fact_4 : decode cX3_fact 4 = .ok (.iload_n 1, 1) := by decide +kernel
theorem dX3_fact_5 : decode cX3_fact 5 = .ok (.aload_n 0, 1) := by decide +kernel
theorem dX3_fact_6 : decode cX3_fact 6 = .ok (.getfield 20, 3) := by decide +kernel
theorem dX3_fact_9 : decode cX3_fact 9 = .ok (.if_icmp .ge 23, 3) := by decide +kernel
theorem dX3_fact_12 : decode cX3_fact 12 = .ok (.iload_n 2, 1) := by decide +kernel
theorem dX3_fact_13 : decode cX3_fact 13 = .ok (.ifCond .lt 19, 3) := by decide +kernel
theorem dX3_fact_16 : decode cX3_fact 16 = .ok (.iload_n 2, 1) := by decide +kernel
theorem dX3_fact_17 : decode cX3_fact 17 = .ok (.iconst 5, 1) := by decide +kernel
theorem dX3_fact_18 : decode cX3_fact 18 = .ok (.if_icmp .ge 14, 3) := by decide +kernel
theorem dX3_fact_21 : decode cX3_fact 21 = .ok (.aload_n 0, 1) := by decide +kernel
theorem dX3_fact_22 : decode cX3_fact 22 = .ok (.getfield 11, 3) := by decide +kernel
theorem dX3_fact_25 : decode cX3_fact 25 = .ok (.iload_n 2, 1) := by decide +kernel
theorem dX3_fact_26 : decode cX3_fact 26 = .ok (.aaload, 1) := by decide +kernel
theorem dX3_fact_27 : decode cX3_fact 27 = .ok (.iload_n 1, 1) := by decide +kernel
theorem dX3_fact_28 : decode cX3_fact 28 = .ok (.iaload, 1) := by decide +kernel
theorem dX3_fact_29 : decode cX3_fact 29 = .ok (.goto 4, 3) := by decide +kernel
theorem dX3_fact_32 : decode cX3_fact 32 = .ok (.iconst 0, 1) := by decide +kernel
theorem dX3_fact_33 : decode cX3_fact 33 = .ok (.ireturn, 1) := by decide +kernel
theorem dX3_change_0 : decode cX3_change 0 = .ok (.aload_n 0, 1) := by decide +kernel
theorem dX3_change_1 : decode cX3_change 1 = .ok (.iload_n 1, 1) := by decide +kernel
theorem dX3_change_2 : decode cX3_change 2 = .ok (.invokevirtual 24, 3) := by decide +kernel
theorem dX3_change_5 : decode cX3_change 5 = .ok (.ifCond .eq 12, 3) := by decide +kernel
theorem dX3_change_8 : decode cX3_change 8 = .ok (.iload_n 2, 1) := by decide +kernel
theorem dX3_change_9 : decode cX3_change 9 = .ok (.ifCond .lt 8, 3) := by decide +kernel
theorem dX3_change_12 : decode cX3_change 12 = .ok (.iload_n 2, 1) := by decide +kernel
theorem dX3_change_13 : decode cX3_change 13 = .ok (.iconst 5, 1) := by decide +kernel
theorem dX3_change_14 : decode cX3_change 14 = .ok (.if_icmp .lt 6, 3) := by decide +kernel
theorem dX3_change_17 : decode cX3_change 17 = .ok (.bipush (-2), 2) := by decide +kernel
theorem dX3_change_19 : decode cX3_change 19 = .ok (.ireturn, 1) := by decide +kernel
theorem dX3_change_20 : decode cX3_change 20 = .ok (.aload_n 0, 1) := by decide +kernel
theorem dX3_change_21 : decode cX3_change 21 = .ok (.getfield 11, 3) := by decide +kernel
theorem dX3_change_24 : decode cX3_change 24 = .ok (.iload_n 2, 1) := by decide +kernel
theorem dX3_change_25 : decode cX3_change 25 = .ok (.aaload, 1) := by decide +kernel
theorem dX3_change_26 : decode cX3_change 26 = .ok (.iload_n 1, 1) := by decide +kernel
theorem dX3_change_27 : decode cX3_change 27 = .ok (.iaload, 1) := by decide +kernel
theorem dX3_change_28 : decode cX3_change 28 = .ok (.istore 4, 2) := by decide +kernel
theorem dX3_change_30 : decode cX3_change 30 = .ok (.aload_n 0, 1) := by decide +kernel
theorem dX3_change_31 : decode cX3_change 31 = .ok (.getfield 11, 3) := by decide +kernel
theorem dX3_change_34 : decode cX3_change 34 = .ok (.iload_n 2, 1) := by decide +kernel
theorem dX3_change_35 : decode cX3_change 35 = .ok (.aaload, 1) := by decide +kernel
theorem dX3_change_36 : decode cX3_change 36 = .ok (.iload_n 1, 1) := by decide +kernel
theorem dX3_change_37 : decode cX3_change 37 = .ok (.iload_n 3, 1) := by decide +kernel
theorem dX3_change_38 : decode cX3_change 38 = .ok (.iastore, 1) := by decide +kernel
theorem dX3_change_39 : decode cX3_change 39 = .ok (.aload_n 0, 1) := by decide +kernel
theorem dX3_change_40 : decode cX3_change 40 = .ok (.dup, 1) := by decide +kernel
theorem dX3_change_41 : decode cX3_change 41 = .ok (.getfield 28, 3) := by decide +kernel
theorem dX3_change_44 : decode cX3_change 44 = .ok (.iconst 1, 1) := by decide +kernel
theorem dX3_change_45 : decode cX3_change 45 = .ok (.iadd, 1) := by decide +kernel
theorem dX3_change_46 : decode cX3_change 46 = .ok (.putfield 28, 3) := by decide +kernel
theorem dX3_change_49 : decode cX3_change 49 = .ok (.iload 4, 2) := by decide +kernel
theorem dX3_change_51 : decode cX3_change 51 = .ok (.ireturn, 1) := by decide +kernel
theorem dX3_append_0 : decode cX3_append 0 = .ok (.aload_n 0, 1) := by decide +kernel
theorem dX3_append_1 : decode cX3_append 1 = .ok (.getfield 20, 3) := by decide +kernel
theorem dX3_append_4 : decode cX3_append 4 = .ok (.bipush 12, 2) := by decide +kernel
theorem dX3_append_6 : decode cX3_append 6 = .ok (.if_icmp .lt 6, 3) := by decide +kernel
theorem dX3_append_9 : decode cX3_append 9 = .ok (.bipush (-4), 2) := by decide +kernel
theorem dX3_append_11 : decode cX3_append 11 = .ok (.ireturn, 1) := by decide +kernel
theorem dX3_append_12 : decode cX3_append 12 = .ok (.aload_n 0, 1) := by decide +kernel
theorem dX3_append_13 : decode cX3_append 13 = .ok (.getfield 11, 3) := by decide +kernel
theorem dX3_append_16 : decode cX3_append 16 = .ok (.iconst 0, 1) := by decide +kernel
theorem dX3_append_17 : decode cX3_append 17 = .ok (.aaload, 1) := by decide +kernel
theorem dX3_append_18 : decode cX3_append 18 = .ok (.aload_n 0, 1) := by decide +kernel
theorem dX3_append_19 : decode cX3_append 19 = .ok (.getfield 20, 3) := by decide +kernel
theorem dX3_append_22 : decode cX3_append 22 = .ok (.iload_n 1, 1) := by decide +kernel
theorem dX3_append_23 : decode cX3_append 23 = .ok (.iastore, 1) := by decide +kernel
theorem dX3_append_24 : decode cX3_append 24 = .ok (.aload_n 0, 1) := by decide +kernel
theorem dX3_append_25 : decode cX3_append 25 = .ok (.getfield 11, 3) := by decide +kernel
theorem dX3_append_28 : decode cX3_append 28 = .ok (.iconst 1, 1) := by decide +kernel
theorem dX3_append_29 : decode cX3_append 29 = .ok (.aaload, 1) := by decide +kernel
theorem dX3_append_30 : decode cX3_append 30 = .ok (.aload_n 0, 1) := by decide +kernel
theorem dX3_append_31 : decode cX3_append 31 = .ok (.getfield 20, 3) := by decide +kernel
theorem dX3_append_34 : decode cX3_append 34 = .ok (.iload_n 2, 1) := by decide +kernel
theorem dX3_append_35 : decode cX3_append 35 = .ok (.iastore, 1) := by decide +kernel
theorem dX3_append_36 : decode cX3_append 36 = .ok (.aload_n 0, 1) := by decide +kernel
theorem dX3_append_37 : decode cX3_append 37 = .ok (.getfield 11, 3) := by decide +kernel
theorem dX3_append_40 : decode cX3_append 40 = .ok (.iconst 2, 1) := by decide +kernel
theorem dX3_append_41 : decode cX3_append 41 = .ok (.aaload, 1) := by decide +kernel
theorem dX3_append_42 : decode cX3_append 42 = .ok (.aload_n 0, 1) := by decide +kernel
theorem dX3_append_43 : decode cX3_append 43 = .ok (.getfield 20, 3) := by decide +kernel
theorem dX3_append_46 : decode cX3_append 46 = .ok (.iload_n 3, 1) := by decide +kernel
theorem dX3_append_47 : decode cX3_append 47 = .ok (.iastore, 1) := by decide +kernel
theorem dX3_append_48 : decode cX3_append 48 = .ok (.aload_n 0, 1) := by decide +kernel
theorem dX3_append_49 : decode cX3_append 49 = .ok (.getfield 11, 3) := by decide +kernel
theorem dX3_append_52 : decode cX3_append 52 = .ok (.iconst 3, 1) := by decide +kernel
theorem dX3_append_53 : decode cX3_append 53 = .ok (.aaload, 1) := by decide +kernel
theorem dX3_append_54 : decode cX3_append 54 = .ok (.aload_n 0, 1) := by decide +kernel
theorem dX3_append_55 : decode cX3_append 55 = .ok (.getfield 20, 3) := by decide +kernel
theorem dX3_append_58 : decode cX3_append 58 = .ok (.iload 4, 2) := by decide +kernel
theorem dX3_append_60 : decode cX3_append 60 = .ok (.iastore, 1) := by decide +kernel
theorem dX3_append_61 : decode cX3_append 61 = .ok (.aload_n 0, 1) := by decide +kernel
theorem dX3_append_62 : decode cX3_append 62 = .ok (.getfield 11, 3) := by decide +kernel
theorem dX3_append_65 : decode cX3_append 65 = .ok (.iconst 4, 1) := by decide +kernel
theorem dX3_append_66 : decode cX3_append 66 = .ok (.aaload, 1) := by decide +kernel
theorem dX3_append_67 : decode cX3_append 67 = .ok (.aload_n 0, 1) := by decide +kernel
theorem dX3_append_68 : decode cX3_append 68 = .ok (.getfield 20, 3) := by decide +kernel
theorem dX3_append_71 : decode cX3_append 71 = .ok (.iload 5, 2) := by decide +kernel
theorem dX3_append_73 : decode cX3_append 73 = .ok (.iastore, 1) := by decide +kernel
theorem dX3_append_74 : decode cX3_append 74 = .ok (.aload_n 0, 1) := by decide +kernel
theorem dX3_append_75 : decode cX3_append 75 = .ok (.dup, 1) := by decide +kernel
theorem dX3_append_76 : decode cX3_append 76 = .ok (.getfield 28, 3) := by decide +kernel
theorem dX3_append_79 : decode cX3_append 79 = .ok (.iconst 1, 1) := by decide +kernel
theorem dX3_append_80 : decode cX3_append 80 = .ok (.iadd, 1) := by decide +kernel
theorem dX3_append_81 : decode cX3_append 81 = .ok (.putfield 28, 3) := by decide +kernel
theorem dX3_append_84 : decode cX3_append 84 = .ok (.aload_n 0, 1) := by decide +kernel
theorem dX3_append_85 : decode cX3_append 85 = .ok (.dup, 1) := by decide +kernel
theorem dX3_append_86 : decode cX3_append 86 = .ok (.getfield 20, 3) := by decide +kernel
theorem dX3_append_89 : decode cX3_append 89 = .ok (.iconst 1, 1) := by decide +kernel
theorem dX3_append_90 : decode cX3_append 90 = .ok (.iadd, 1) := by decide +kernel
theorem dX3_append_91 : decode cX3_append 91 = .ok (.putfield 20, 3) := by decide +kernel
theorem dX3_append_94 : decode cX3_append 94 = .ok (.aload_n 0, 1) := by decide +kernel
theorem dX3_append_95 : decode cX3_append 95 = .ok (.getfield 20, 3) := by decide +kernel
theorem dX3_append_98 : decode cX3_append 98 = .ok (.iconst 1, 1) := by decide +kernel
theorem dX3_append_99 : decode cX3_append 99 = .ok (.isub, 1) := by decide +kernel
theorem dX3_append_100 : decode cX3_append 100 = .ok (.ireturn, 1) := by decide +kernel
theorem dX3_removeAll_0 : decode cX3_removeAll 0 = .ok (.aload_n 0, 1) := by decide +kernel
theorem dX3_removeAll_1 : decode cX3_removeAll 1 = .ok (.iconst 0, 1) := by decide +kernel
theorem dX3_removeAll_2 : decode cX3_removeAll 2 = .ok (.putfield 20, 3) := by decide +kernel
theorem dX3_removeAll_5 : decode cX3_removeAll 5 = .ok (.aload_n 0, 1) := by decide +kernel
theorem dX3_removeAll_6 : decode cX3_removeAll 6 = .ok (.dup, 1) := by decide +kernel
theorem dX3_removeAll_7 : decode cX3_removeAll 7 = .ok (.getfield 28, 3) := by decide +kernel
theorem dX3_removeAll_10 : decode cX3_removeAll 10 = .ok (.iconst 1, 1) := by decide +kernel
theorem dX3_removeAll_11 : decode cX3_removeAll 11 = .ok (.iadd, 1) := by decide +kernel
theorem dX3_removeAll_12 : decode cX3_removeAll 12 = .ok (.putfield 28, 3) := by decide +kernel
theorem dX3_removeAll_15 : decode cX3_removeAll 15 = .ok (.return_, 1) := by decide +kernel
theorem dX3_distance_0 : decode cX3_distance 0 = .ok (.aload_n 0, 1) := by decide +kernel
theorem dX3_distance_1 : decode cX3_distance 1 = .ok (.iload_n 1, 1) := by decide +kernel
theorem dX3_distance_2 : decode cX3_distance 2 = .ok (.iconst 1, 1) := by decide +kernel
theorem dX3_distance_3 : decode cX3_distance 3 = .ok (.invokevirtual 31, 3) := by decide +kernel
theorem dX3_distance_6 : decode cX3_distance 6 = .ok (.aload_n 0, 1) := by decide +kernel
theorem dX3_distance_7 : decode cX3_distance 7 = .ok (.iload_n 2, 1) := by decide +kernel
theorem dX3_distance_8 : decode cX3_distance 8 = .ok (.iconst 1, 1) := by decide +kernel
theorem dX3_distance_9 : decode cX3_distance 9 = .ok (.invokevirtual 31, 3) := by decide +kernel
theorem dX3_distance_12 : decode cX3_distance 12 = .ok (.isub, 1) := by decide +kernel
theorem dX3_distance_13 : decode cX3_distance 13 = .ok (.invokestatic 35, 3) := by decide +kernel
theorem dX3_distance_16 : decode cX3_distance 16 = .ok (.ireturn, 1) := by decide +kernel
theorem dX3_sum_0 : decode cX3_sum 0 = .ok (.iconst 0, 1) := by decide +kernel
theorem dX3_sum_1 : decode cX3_sum 1 = .ok (.istore_n 2, 1) := by decide +kernel
theorem dX3_sum_2 : decode cX3_sum 2 = .ok (.iconst 0, 1) := by decide +kernel
theorem dX3_sum_3 : decode cX3_sum 3 = .ok (.istore_n 3, 1) := by decide +kernel
theorem dX3_sum_4 : decode cX3_sum 4 = .ok (.iload_n 3, 1) := by decide +kernel
theorem dX3_sum_5 : decode cX3_sum 5 = .ok (.aload_n 0, 1) := by decide +kernel
theorem dX3_sum_6 : decode cX3_sum 6 = .ok (.getfield 20, 3) := by decide +kernel
theorem dX3_sum_9 : decode cX3_sum 9 = .ok (.if_icmp .ge 27, 3) := by decide +kernel
theorem dX3_sum_12 : decode cX3_sum 12 = .ok (.aload_n 0, 1) := by decide +kernel
theorem dX3_sum_13 : decode cX3_sum 13 = .ok (.iload_n 3, 1) := by decide +kernel
theorem dX3_sum_14 : decode cX3_sum 14 = .ok (.iconst 0, 1) := by decide +kernel
theorem dX3_sum_15 : decode cX3_sum 15 = .ok (.invokevirtual 31, 3) := by decide +kernel
theorem dX3_sum_18 : decode cX3_sum 18 = .ok (.ifCond .le 12, 3) := by decide +kernel
theorem dX3_sum_21 : decode cX3_sum 21 = .ok (.iload_n 2, 1) := by decide +kernel
theorem dX3_sum_22 : decode cX3_sum 22 = .ok (.aload_n 0, 1) := by decide +kernel
theorem dX3_sum_23 : decode cX3_sum 23 = .ok (.iload_n 3, 1) := by decide +kernel
theorem dX3_sum_24 : decode cX3_sum 24 = .ok (.iload_n 1, 1) := by decide +kernel
theorem dX3_sum_25 : decode cX3_sum 25 = .ok (.invokevirtual 31, 3) := by decide +kernel
theorem dX3_sum_28 : decode cX3_sum 28 = .ok (.iadd, 1) := by decide +kernel
theorem dX3_sum_29 : decode cX3_sum 29 = .ok (.istore_n 2, 1) := by decide +kernel
theorem dX3_sum_30 : decode cX3_sum 30 = .ok (.iinc 3 1, 3) := by decide +kernel
theorem dX3_sum_33 : decode cX3_sum 33 = .ok (.goto (-29), 3) := by decide +kernel
theorem dX3_sum_36 : decode cX3_sum 36 = .ok (.iload_n 2, 1) := by decide +kernel
theorem dX3_sum_37 : decode cX3_sum 37 = .ok (.ireturn, 1) := by decide +kernel
theorem dX3_openAtFirst_0 : decode cX3_openAtFirst 0 = .ok (.iconst 0, 1) := by decide +kernel
theorem dX3_openAtFirst_1 : decode cX3_openAtFirst 1 = .ok (.istore_n 1, 1) := by decide +kernel
theorem dX3_openAtFirst_2 : decode cX3_openAtFirst 2 = .ok (.iconst 0, 1) := by decide +kernel
theorem dX3_openAtFirst_3 : decode cX3_openAtFirst 3 = .ok (.istore_n 2, 1) := by decide +kernel
theorem dX3_openAtFirst_4 : decode cX3_openAtFirst 4 = .ok (.iload_n 2, 1) := by decide +kernel
theorem dX3_openAtFirst_5 : decode cX3_openAtFirst 5 = .ok (.aload_n 0, 1) := by decide +kernel
theorem dX3_openAtFirst_6 : decode cX3_openAtFirst 6 = .ok (.getfield 20, 3) := by decide +kernel
theorem dX3_openAtFirst_9 : decode cX3_openAtFirst 9 = .ok (.if_icmp .ge 32, 3) := by decide +kernel
theorem dX3_openAtFirst_12 : decode cX3_openAtFirst 12 = .ok (.aload_n 0, 1) := by decide +kernel
theorem dX3_openAtFirst_13 : decode cX3_openAtFirst 13 = .ok (.iload_n 2, 1) := by decide +kernel
theorem dX3_openAtFirst_14 : decode cX3_openAtFirst 14 = .ok (.iconst 0, 1) := by decide +kernel
theorem dX3_openAtFirst_15 : decode cX3_openAtFirst 15 = .ok (.invokevirtual 31, 3) := by decide +kernel
theorem dX3_openAtFirst_18 : decode cX3_openAtFirst 18 = .ok (.ifCond .le 17, 3) := by decide +kernel
theorem dX3_openAtFirst_21 : decode cX3_openAtFirst 21 = .ok (.aload_n 0, 1) := by decide +kernel
theorem dX3_openAtFirst_22 : decode cX3_openAtFirst 22 = .ok (.iload_n 2, 1) := by decide +kernel
theorem dX3_openAtFirst_23 : decode cX3_openAtFirst 23 = .ok (.iconst 0, 1) := by decide +kernel
theorem dX3_openAtFirst_24 : decode cX3_openAtFirst 24 = .ok (.invokevirtual 31, 3) := by decide +kernel
theorem dX3_openAtFirst_27 : decode cX3_openAtFirst 27 = .ok (.bipush 12, 2) := by decide +kernel
theorem dX3_openAtFirst_29 : decode cX3_openAtFirst 29 = .ok (.if_icmp .ge 6, 3) := by decide +kernel
theorem dX3_openAtFirst_32 : decode cX3_openAtFirst 32 = .ok (.iinc 1 1, 3) := by decide +kernel
theorem dX3_openAtFirst_35 : decode cX3_openAtFirst 35 = .ok (.iinc 2 1, 3) := by decide +kernel
theorem dX3_openAtFirst_38 : decode cX3_openAtFirst 38 = .ok (.goto (-34), 3) := by decide +kernel
theorem dX3_openAtFirst_41 : decode cX3_openAtFirst 41 = .ok (.iload_n 1, 1) := by decide +kernel
theorem dX3_openAtFirst_42 : decode cX3_openAtFirst 42 = .ok (.ireturn, 1) := by decide +kernel
theorem dX3_countUp_0 : decode cX3_countUp 0 = .ok (.lconst 0, 1) := by decide +kernel
theorem dX3_countUp_1 : decode cX3_countUp 1 = .ok (.lstore_n 3, 1) := by decide +kernel
theorem dX3_countUp_2 : decode cX3_countUp 2 = .ok (.iconst 0, 1) := by decide +kernel
theorem dX3_countUp_3 : decode cX3_countUp 3 = .ok (.istore 5, 2) := by decide +kernel
theorem dX3_countUp_5 : decode cX3_countUp 5 = .ok (.iload 5, 2) := by decide +kernel
theorem dX3_countUp_7 : decode cX3_countUp 7 = .ok (.aload_n 0, 1) := by decide +kernel
theorem dX3_countUp_8 : decode cX3_countUp 8 = .ok (.getfield 20, 3) := by decide +kernel
theorem dX3_countUp_11 : decode cX3_countUp 11 = .ok (.if_icmp .ge 51, 3) := by decide +kernel
theorem dX3_countUp_14 : decode cX3_countUp 14 = .ok (.aload_n 0, 1) := by decide +kernel
theorem dX3_countUp_15 : decode cX3_countUp 15 = .ok (.iload 5, 2) := by decide +kernel
theorem dX3_countUp_17 : decode cX3_countUp 17 = .ok (.iconst 0, 1) := by decide +kernel
theorem dX3_countUp_18 : decode cX3_countUp 18 = .ok (.invokevirtual 31, 3) := by decide +kernel
theorem dX3_countUp_21 : decode cX3_countUp 21 = .ok (.istore 6, 2) := by decide +kernel
theorem dX3_countUp_23 : decode cX3_countUp 23 = .ok (.iload_n 1, 1) := by decide +kernel
theorem dX3_countUp_24 : decode cX3_countUp 24 = .ok (.iload 5, 2) := by decide +kernel
theorem dX3_countUp_26 : decode cX3_countUp 26 = .ok (.ishr, 1) := by decide +kernel
theorem dX3_countUp_27 : decode cX3_countUp 27 = .ok (.iconst 1, 1) := by decide +kernel
theorem dX3_countUp_28 : decode cX3_countUp 28 = .ok (.iand, 1) := by decide +kernel
theorem dX3_countUp_29 : decode cX3_countUp 29 = .ok (.iconst 1, 1) := by decide +kernel
theorem dX3_countUp_30 : decode cX3_countUp 30 = .ok (.if_icmp .ne 26, 3) := by decide +kernel
theorem dX3_countUp_33 : decode cX3_countUp 33 = .ok (.iload 6, 2) := by decide +kernel
theorem dX3_countUp_35 : decode cX3_countUp 35 = .ok (.ifCond .le 21, 3) := by decide +kernel
theorem dX3_countUp_38 : decode cX3_countUp 38 = .ok (.lload_n 3, 1) := by decide +kernel
theorem dX3_countUp_39 : decode cX3_countUp 39 = .ok (.aload_n 0, 1) := by decide +kernel
theorem dX3_countUp_40 : decode cX3_countUp 40 = .ok (.iload 5, 2) := by decide +kernel
theorem dX3_countUp_42 : decode cX3_countUp 42 = .ok (.iload_n 2, 1) := by decide +kernel
theorem dX3_countUp_43 : decode cX3_countUp 43 = .ok (.invokevirtual 31, 3) := by decide +kernel
theorem dX3_countUp_46 : decode cX3_countUp 46 = .ok (.i2l, 1) := by decide +kernel
theorem dX3_countUp_47 : decode cX3_countUp 47 = .ok (.ldc 41, 2) := by decide +kernel
theorem dX3_countUp_49 : decode cX3_countUp 49 = .ok (.iload 6, 2) := by decide +kernel
theorem dX3_countUp_51 : decode cX3_countUp 51 = .ok (.idiv, 1) := by decide +kernel
theorem dX3_countUp_52 : decode cX3_countUp 52 = .ok (.i2l, 1) := by decide +kernel
theorem dX3_countUp_53 : decode cX3_countUp 53 = .ok (.lmul, 1) := by decide +kernel
theorem dX3_countUp_54 : decode cX3_countUp 54 = .ok (.ladd, 1) := by decide +kernel
theorem dX3_countUp_55 : decode cX3_countUp 55 = .ok (.lstore_n 3, 1) := by decide +kernel
theorem dX3_countUp_56 : decode cX3_countUp 56 = .ok (.iinc 5 1, 3) := by decide +kernel
theorem dX3_countUp_59 : decode cX3_countUp 59 = .ok (.goto (-54), 3) := by decide +kernel
theorem dX3_countUp_62 : decode cX3_countUp 62 = .ok (.lload_n 3, 1) := by decide +kernel
theorem dX3_countUp_63 : decode cX3_countUp 63 = .ok (.lreturn, 1) := by decide +kernel
theorem dX3_miss_0 : decode cX3_miss 0 = .ok (.aload_n 0, 1) := by decide +kernel
theorem dX3_miss_1 : decode cX3_miss 1 = .ok (.iload_n 1, 1) := by decide +kernel
theorem dX3_miss_2 : decode cX3_miss 2 = .ok (.iconst 3, 1) := by decide +kernel
theorem dX3_miss_3 : decode cX3_miss 3 = .ok (.invokevirtual 42, 3) := by decide +kernel
theorem dX3_miss_6 : decode cX3_miss 6 = .ok (.aload_n 0, 1) := by decide +kernel
theorem dX3_miss_7 : decode cX3_miss 7 = .ok (.iconst 3, 1) := by decide +kernel
theorem dX3_miss_8 : decode cX3_miss 8 = .ok (.invokevirtual 46, 3) := by decide +kernel
theorem dX3_miss_11 : decode cX3_miss 11 = .ok (.i2l, 1) := by decide +kernel
theorem dX3_miss_12 : decode cX3_miss 12 = .ok (.ldc2_w 49, 3) := by decide +kernel
theorem dX3_miss_15 : decode cX3_miss 15 = .ok (.lmul, 1) := by decide +kernel
theorem dX3_miss_16 : decode cX3_miss 16 = .ok (.lsub, 1) := by decide +kernel
theorem dX3_miss_17 : decode cX3_miss 17 = .ok (.invokestatic 51, 3) := by decide +kernel
theorem dX3_miss_20 : decode cX3_miss 20 = .ok (.lreturn, 1) := by decide +kernel
theorem dX4_init_0 : decode cX4_init 0 = .ok (.aload_n 0, 1) := by decide +kernel
theorem dX4_init_1 : decode cX4_init 1 = .ok (.invokespecial 5, 3) := by decide +kernel
theorem dX4_init_4 : decode cX4_init 4 = .ok (.aload_n 0, 1) := by decide +kernel
theorem dX4_init_5 : decode cX4_init 5 = .ok (.bipush 120, 2) := by decide +kernel
theorem dX4_init_7 : decode cX4_init 7 = .ok (.newarray .byte, 2) := by decide +kernel
theorem dX4_init_9 : decode cX4_init 9 = .ok (.putfield 11, 3) := by decide +kernel
theorem dX4_init_12 : decode cX4_init 12 = .ok (.aload_n 0, 1) := by decide +kernel
theorem dX4_init_13 : decode cX4_init 13 = .ok (.bipush 30, 2) := by decide +kernel
theorem dX4_init_15 : decode cX4_init 15 = .ok (.newarray .int, 2) := by decide +kernel
theorem dX4_init_17 : decode cX4_init 17 = .ok (.putfield 15, 3) := by decide +kernel
theorem dX4_init_20 : decode cX4_init 20 = .ok (.aload_n 0, 1) := by decide +kernel
theorem dX4_init_21 : decode cX4_init 21 = .ok (.sipush 150, 3) := by decide +kernel
theorem dX4_init_24 : decode cX4_init 24 = .ok (.newarray .int, 2) := by decide +kernel
theorem dX4_init_26 : decode cX4_init 26 = .ok (.putfield 19, 3) := by decide +kernel
theorem dX4_init_29 : decode cX4_init 29 = .ok (.return_, 1) := by decide +kernel
theorem dX4_word_0 : decode cX4_word 0 = .ok (.iload_n 0, 1) := by decide +kernel
theorem dX4_word_1 : decode cX4_word 1 = .ok (.tableswitch 106 0 12 #[67, 70, 73, 76, 79, 82, 85, 88, 91, 94, 97, 100, 103], 67) := by decide +kernel
theorem dX4_word_68 : decode cX4_word 68 = .ok (.ldc 22, 2) := by decide +kernel
theorem dX4_word_70 : decode cX4_word 70 = .ok (.areturn, 1) := by decide +kernel
theorem dX4_word_71 : decode cX4_word 71 = .ok (.ldc 24, 2) := by decide +kernel
theorem dX4_word_73 : decode cX4_word 73 = .ok (.areturn, 1) := by decide +kernel
theorem dX4_word_74 : decode cX4_word 74 = .ok (.ldc 26, 2) := by decide +kernel
theorem dX4_word_76 : decode cX4_word 76 = .ok (.areturn, 1) := by decide +kernel
theorem dX4_word_77 : decode cX4_word 77 = .ok (.ldc 28, 2) := by decide +kernel
theorem dX4_word_79 : decode cX4_word 79 = .ok (.areturn, 1) := by decide +kernel
theorem dX4_word_80 : decode cX4_word 80 = .ok (.ldc 30, 2) := by decide +kernel
theorem dX4_word_82 : decode cX4_word 82 = .ok (.areturn, 1) := by decide +kernel
theorem dX4_word_83 : decode cX4_word 83 = .ok (.ldc 32, 2) := by decide +kernel
theorem dX4_word_85 : decode cX4_word 85 = .ok (.areturn, 1) := by decide +kernel
theorem dX4_word_86 : decode cX4_word 86 = .ok (.ldc 34, 2) := by decide +kernel
theorem dX4_word_88 : decode cX4_word 88 = .ok (.areturn, 1) := by decide +kernel
theorem dX4_word_89 : decode cX4_word 89 = .ok (.ldc 36, 2) := by decide +kernel
theorem dX4_word_91 : decode cX4_word 91 = .ok (.areturn, 1) := by decide +kernel
theorem dX4_word_92 : decode cX4_word 92 = .ok (.ldc 38, 2) := by decide +kernel
theorem dX4_word_94 : decode cX4_word 94 = .ok (.areturn, 1) := by decide +kernel
theorem dX4_word_95 : decode cX4_word 95 = .ok (.ldc 40, 2) := by decide +kernel
theorem dX4_word_97 : decode cX4_word 97 = .ok (.areturn, 1) := by decide +kernel
theorem dX4_word_98 : decode cX4_word 98 = .ok (.ldc 42, 2) := by decide +kernel
theorem dX4_word_100 : decode cX4_word 100 = .ok (.areturn, 1) := by decide +kernel
theorem dX4_word_101 : decode cX4_word 101 = .ok (.ldc 44, 2) := by decide +kernel
theorem dX4_word_103 : decode cX4_word 103 = .ok (.areturn, 1) := by decide +kernel
theorem dX4_word_104 : decode cX4_word 104 = .ok (.ldc 46, 2) := by decide +kernel
theorem dX4_word_106 : decode cX4_word 106 = .ok (.areturn, 1) := by decide +kernel
theorem dX4_word_107 : decode cX4_word 107 = .ok (.ldc 48, 2) := by decide +kernel
theorem dX4_word_109 : decode cX4_word 109 = .ok (.areturn, 1) := by decide +kernel
theorem dX4_numbersBehind_0 : decode cX4_numbersBehind 0 = .ok (.iload_n 0, 1) := by decide +kernel
theorem dX4_numbersBehind_1 : decode cX4_numbersBehind 1 = .ok (.iconst 5, 1) := by decide +kernel
theorem dX4_numbersBehind_2 : decode cX4_numbersBehind 2 = .ok (.if_icmp .lt 9, 3) := by decide +kernel
theorem dX4_numbersBehind_5 : decode cX4_numbersBehind 5 = .ok (.iload_n 0, 1) := by decide +kernel
theorem dX4_numbersBehind_6 : decode cX4_numbersBehind 6 = .ok (.bipush 12, 2) := by decide +kernel
theorem dX4_numbersBehind_8 : decode cX4_numbersBehind 8 = .ok (.if_icmp .ne 5, 3) := by decide +kernel
theorem dX4_numbersBehind_11 : decode cX4_numbersBehind 11 = .ok (.iconst 0, 1) := by decide +kernel
theorem dX4_numbersBehind_12 : decode cX4_numbersBehind 12 = .ok (.ireturn, 1) := by decide +kernel
theorem dX4_numbersBehind_13 : decode cX4_numbersBehind 13 = .ok (.iload_n 0, 1) := by decide +kernel
theorem dX4_numbersBehind_14 : decode cX4_numbersBehind 14 = .ok (.iconst 5, 1) := by decide +kernel
theorem dX4_numbersBehind_15 : decode cX4_numbersBehind 15 = .ok (.if_icmp .ne 5, 3) := by decide +kernel
theorem dX4_numbersBehind_18 : decode cX4_numbersBehind 18 = .ok (.iconst 5, 1) := by decide +kernel
theorem dX4_numbersBehind_19 : decode cX4_numbersBehind 19 = .ok (.ireturn, 1) := by decide +kernel
theorem dX4_numbersBehind_20 : decode cX4_numbersBehind 20 = .ok (.iload_n 0, 1) := by decide +kernel
theorem dX4_numbersBehind_21 : decode cX4_numbersBehind 21 = .ok (.bipush 11, 2) := by decide +kernel
theorem dX4_numbersBehind_23 : decode cX4_numbersBehind 23 = .ok (.if_icmp .ne 7, 3) := by decide +kernel
theorem dX4_numbersBehind_26 : decode cX4_numbersBehind 26 = .ok (.iconst 1, 1) := by decide +kernel
theorem dX4_numbersBehind_27 : decode cX4_numbersBehind 27 = .ok (.goto 4, 3) := by decide +kernel
theorem dX4_numbersBehind_30 : decode cX4_numbersBehind 30 = .ok (.iconst 2, 1) := by decide +kernel
theorem dX4_numbersBehind_31 : decode cX4_numbersBehind 31 = .ok (.ireturn, 1) := by decide +kernel
theorem dX4_append_0 : decode cX4_append 0 = .ok (.aload_n 0, 1) := by decide +kernel
theorem dX4_append_1 : decode cX4_append 1 = .ok (.getfield 50, 3) := by decide +kernel
theorem dX4_append_4 : decode cX4_append 4 = .ok (.bipush 120, 2) := by decide +kernel
theorem dX4_append_6 : decode cX4_append 6 = .ok (.if_icmp .ge 24, 3) := by decide +kernel
theorem dX4_append_9 : decode cX4_append 9 = .ok (.aload_n 0, 1) := by decide +kernel
theorem dX4_append_10 : decode cX4_append 10 = .ok (.getfield 11, 3) := by decide +kernel
theorem dX4_append_13 : decode cX4_append 13 = .ok (.aload_n 0, 1) := by decide +kernel
theorem dX4_append_14 : decode cX4_append 14 = .ok (.getfield 50, 3) := by decide +kernel
theorem dX4_append_17 : decode cX4_append 17 = .ok (.iload_n 1, 1) := by decide +kernel
theorem dX4_append_18 : decode cX4_append 18 = .ok (.i2b, 1) := by decide +kernel
theorem dX4_append_19 : decode cX4_append 19 = .ok (.bastore, 1) := by decide +kernel
theorem dX4_append_20 : decode cX4_append 20 = .ok (.aload_n 0, 1) := by decide +kernel
theorem dX4_append_21 : decode cX4_append 21 = .ok (.dup, 1) := by decide +kernel
theorem dX4_append_22 : decode cX4_append 22 = .ok (.getfield 50, 3) := by decide +kernel
theorem dX4_append_25 : decode cX4_append 25 = .ok (.iconst 1, 1) := by decide +kernel
theorem dX4_append_26 : decode cX4_append 26 = .ok (.iadd, 1) := by decide +kernel
theorem dX4_append_27 : decode cX4_append 27 = .ok (.putfield 50, 3) := by decide +kernel
theorem dX4_append_30 : decode cX4_append 30 = .ok (.aload_n 0, 1) := by decide +kernel
theorem dX4_append_31 : decode cX4_append 31 = .ok (.getfield 50, 3) := by decide +kernel
theorem dX4_append_34 : decode cX4_append 34 = .ok (.ireturn, 1) := by decide +kernel
theorem dX4_verb_0 : decode cX4_verb 0 = .ok (.iload_n 1, 1) := by decide +kernel
theorem dX4_verb_1 : decode cX4_verb 1 = .ok (.ifCond .lt 26, 3) := by decide +kernel
theorem dX4_verb_4 : decode cX4_verb 4 = .ok (.iload_n 1, 1) := by decide +kernel
theorem dX4_verb_5 : decode cX4_verb 5 = .ok (.aload_n 0, 1) := by decide +kernel
theorem dX4_verb_6 : decode cX4_verb 6 = .ok (.getfield 54, 3) := by decide +kernel
theorem dX4_verb_9 : decode cX4_verb 9 = .ok (.if_icmp .ge 18, 3) := by decide +kernel
theorem dX4_verb_12 : decode cX4_verb 12 = .ok (.iload_n 1, 1) := by decide +kernel
theorem dX4_verb_13 : decode cX4_verb 13 = .ok (.bipush 30, 2) := by decide +kernel
theorem dX4_verb_15 : decode cX4_verb 15 = .ok (.if_icmp .ge 12, 3) := by decide +kernel
theorem dX4_verb_18 : decode cX4_verb 18 = .ok (.aload_n 0, 1) := by decide +kernel
theorem dX4_verb_19 : decode cX4_verb 19 = .ok (.getfield 15, 3) := by decide +kernel
theorem dX4_verb_22 : decode cX4_verb 22 = .ok (.iload_n 1, 1) := by decide +kernel
theorem dX4_verb_23 : decode cX4_verb 23 = .ok (.iaload, 1) := by decide +kernel
theorem dX4_verb_24 : decode cX4_verb 24 = .ok (.goto 5, 3) := by decide +kernel
theorem dX4_verb_27 : decode cX4_verb 27 = .ok (.bipush 12, 2) := by decide +kernel
theorem dX4_verb_29 : decode cX4_verb 29 = .ok (.ireturn, 1) := by decide +kernel
theorem dX4_number_0 : decode cX4_number 0 = .ok (.iload_n 1, 1) := by decide +kernel
theorem dX4_number_1 : decode cX4_number 1 = .ok (.iconst 5, 1) := by decide +kernel
theorem dX4_number_2 : decode cX4_number 2 = .ok (.imul, 1) := by decide +kernel
theorem dX4_number_3 : decode cX4_number 3 = .ok (.iload_n 2, 1) := by decide +kernel
theorem dX4_number_4 : decode cX4_number 4 = .ok (.iadd, 1) := by decide +kernel
theorem dX4_number_5 : decode cX4_number 5 = .ok (.istore_n 3, 1) := by decide +kernel
theorem dX4_number_6 : decode cX4_number 6 = .ok (.iload_n 3, 1) := by decide +kernel
theorem dX4_number_7 : decode cX4_number 7 = .ok (.ifCond .lt 21, 3) := by decide +kernel
theorem dX4_number_10 : decode cX4_number 10 = .ok (.iload_n 3, 1) := by decide +kernel
theorem dX4_number_11 : decode cX4_number 11 = .ok (.aload_n 0, 1) := by decide +kernel
theorem dX4_number_12 : decode cX4_number 12 = .ok (.getfield 19, 3) := by decide +kernel
theorem dX4_number_15 : decode cX4_number 15 = .ok (.arraylength, 1) := by decide +kernel
theorem dX4_number_16 : decode cX4_number 16 = .ok (.if_icmp .ge 12, 3) := by decide +kernel
theorem dX4_number_19 : decode cX4_number 19 = .ok (.aload_n 0, 1) := by decide +kernel
theorem dX4_number_20 : decode cX4_number 20 = .ok (.getfield 19, 3) := by decide +kernel
theorem dX4_number_23 : decode cX4_number 23 = .ok (.iload_n 3, 1) := by decide +kernel
theorem dX4_number_24 : decode cX4_number 24 = .ok (.iaload, 1) := by decide +kernel
theorem dX4_number_25 : decode cX4_number 25 = .ok (.goto 4, 3) := by decide +kernel
theorem dX4_number_28 : decode cX4_number 28 = .ok (.iconst 0, 1) := by decide +kernel
theorem dX4_number_29 : decode cX4_number 29 = .ok (.ireturn, 1) := by decide +kernel
theorem dX4_read_0 : decode cX4_read 0 = .ok (.aload_n 0, 1) := by decide +kernel
theorem dX4_read_1 : decode cX4_read 1 = .ok (.iconst 0, 1) := by decide +kernel
theorem dX4_read_2 : decode cX4_read 2 = .ok (.putfield 54, 3) := by decide +kernel
theorem dX4_read_5 : decode cX4_read 5 = .ok (.aload_n 0, 1) := by decide +kernel
theorem dX4_read_6 : decode cX4_read 6 = .ok (.iload_n 1, 1) := by decide +kernel
theorem dX4_read_7 : decode cX4_read 7 = .ok (.putfield 57, 3) := by decide +kernel
theorem dX4_read_10 : decode cX4_read 10 = .ok (.aload_n 0, 1) := by decide +kernel
theorem dX4_read_11 : decode cX4_read 11 = .ok (.iconst 0, 1) := by decide +kernel
theorem dX4_read_12 : decode cX4_read 12 = .ok (.putfield 60, 3) := by decide +kernel
theorem dX4_read_15 : decode cX4_read 15 = .ok (.iconst 0, 1) := by decide +kernel
theorem dX4_read_16 : decode cX4_read 16 = .ok (.istore_n 2, 1) := by decide +kernel
theorem dX4_read_17 : decode cX4_read 17 = .ok (.iload_n 2, 1) := by decide +kernel
theorem dX4_read_18 : decode cX4_read 18 = .ok (.bipush 30, 2) := by decide +kernel
theorem dX4_read_20 : decode cX4_read 20 = .ok (.if_icmp .gt 52, 3) := by decide +kernel
theorem dX4_read_23 : decode cX4_read 23 = .ok (.aload_n 0, 1) := by decide +kernel
theorem dX4_read_24 : decode cX4_read 24 = .ok (.invokevirtual 63, 3) := by decide +kernel
theorem dX4_read_27 : decode cX4_read 27 = .ok (.aload_n 0, 1) := by decide +kernel
theorem dX4_read_28 : decode cX4_read 28 = .ok (.getfield 60, 3) := by decide +kernel
theorem dX4_read_31 : decode cX4_read 31 = .ok (.aload_n 0, 1) := by decide +kernel
theorem dX4_read_32 : decode cX4_read 32 = .ok (.getfield 50, 3) := by decide +kernel
theorem dX4_read_35 : decode cX4_read 35 = .ok (.if_icmp .lt 19, 3) := by decide +kernel
theorem dX4_read_38 : decode cX4_read 38 = .ok (.aload_n 0, 1) := by decide +kernel
theorem dX4_read_39 : decode cX4_read 39 = .ok (.getfield 54, 3) := by decide +kernel
theorem dX4_read_42 : decode cX4_read 42 = .ok (.ifCond .ne 10, 3) := by decide +kernel
theorem dX4_read_45 : decode cX4_read 45 = .ok (.aload_n 0, 1) := by decide +kernel
theorem dX4_read_46 : decode cX4_read 46 = .ok (.getfield 50, 3) := by decide +kernel
theorem dX4_read_49 : decode cX4_read 49 = .ok (.goto 4, 3) := by decide +kernel
theorem dX4_read_52 : decode cX4_read 52 = .ok (.iconst (-1), 1) := by decide +kernel
theorem dX4_read_53 : decode cX4_read 53 = .ok (.ireturn, 1) := by decide +kernel
theorem dX4_read_54 : decode cX4_read 54 = .ok (.aload_n 0, 1) := by decide +kernel
theorem dX4_read_55 : decode cX4_read 55 = .ok (.invokevirtual 66, 3) := by decide +kernel
theorem dX4_read_58 : decode cX4_read 58 = .ok (.istore_n 3, 1) := by decide +kernel
theorem dX4_read_59 : decode cX4_read 59 = .ok (.iload_n 3, 1) := by decide +kernel
theorem dX4_read_60 : decode cX4_read 60 = .ok (.iconst (-1), 1) := by decide +kernel
theorem dX4_read_61 : decode cX4_read 61 = .ok (.if_icmp .eq 5, 3) := by decide +kernel
theorem dX4_read_64 : decode cX4_read 64 = .ok (.iload_n 3, 1) := by decide +kernel
theorem dX4_read_65 : decode cX4_read 65 = .ok (.ireturn, 1) := by decide +kernel
theorem dX4_read_66 : decode cX4_read 66 = .ok (.iinc 2 1, 3) := by decide +kernel
theorem dX4_read_69 : decode cX4_read 69 = .ok (.goto (-52), 3) := by decide +kernel
theorem dX4_read_72 : decode cX4_read 72 = .ok (.aload_n 0, 1) := by decide +kernel
theorem dX4_read_73 : decode cX4_read 73 = .ok (.getfield 60, 3) := by decide +kernel
theorem dX4_read_76 : decode cX4_read 76 = .ok (.ireturn, 1) := by decide +kernel
theorem dX4_readSentence_0 : decode cX4_readSentence 0 = .ok (.aload_n 0, 1) := by decide +kernel
theorem dX4_readSentence_1 : decode cX4_readSentence 1 = .ok (.getfield 60, 3) := by decide +kernel
theorem dX4_readSentence_4 : decode cX4_readSentence 4 = .ok (.istore_n 1, 1) := by decide +kernel
theorem dX4_readSentence_5 : decode cX4_readSentence 5 = .ok (.aload_n 0, 1) := by decide +kernel
theorem dX4_readSentence_6 : decode cX4_readSentence 6 = .ok (.invokevirtual 70, 3) := by decide +kernel
theorem dX4_readSentence_9 : decode cX4_readSentence 9 = .ok (.istore_n 2, 1) := by decide +kernel
theorem dX4_readSentence_10 : decode cX4_readSentence 10 = .ok (.iload_n 2, 1) := by decide +kernel
theorem dX4_readSentence_11 : decode cX4_readSentence 11 = .ok (.iconst (-1), 1) := by decide +kernel
theorem dX4_readSentence_12 : decode cX4_readSentence 12 = .ok (.if_icmp .eq 26, 3) := by decide +kernel
theorem dX4_readSentence_15 : decode cX4_readSentence 15 = .ok (.aload_n 0, 1) := by decide +kernel
theorem dX4_readSentence_16 : decode cX4_readSentence 16 = .ok (.getfield 54, 3) := by decide +kernel
theorem dX4_readSentence_19 : decode cX4_readSentence 19 = .ok (.bipush 30, 2) := by decide +kernel
theorem dX4_readSentence_21 : decode cX4_readSentence 21 = .ok (.if_icmp .ge 17, 3) := by decide +kernel
theorem dX4_readSentence_24 : decode cX4_readSentence 24 = .ok (.iload_n 2, 1) := by decide +kernel
theorem dX4_readSentence_25 : decode cX4_readSentence 25 = .ok (.iconst 5, 1) := by decide +kernel
theorem dX4_readSentence_26 : decode cX4_readSentence 26 = .ok (.if_icmp .ne 14, 3) := by decide +kernel
theorem dX4_readSentence_29 : decode cX4_readSentence 29 = .ok (.aload_n 0, 1) := by decide +kernel
theorem dX4_readSentence_30 : decode cX4_readSentence 30 = .ok (.getfield 57, 3) := by decide +kernel
theorem dX4_readSentence_33 : decode cX4_readSentence 33 = .ok (.bipush 12, 2) := by decide +kernel
theorem dX4_readSentence_35 : decode cX4_readSentence 35 = .ok (.if_icmp .lt 5, 3) := by decide +kernel
theorem dX4_readSentence_38 : decode cX4_readSentence 38 = .ok (.iload_n 1, 1) := by decide +kernel
theorem dX4_readSentence_39 : decode cX4_readSentence 39 = .ok (.ireturn, 1) := by decide +kernel
theorem dX4_readSentence_40 : decode cX4_readSentence 40 = .ok (.iconst 0, 1) := by decide +kernel
theorem dX4_readSentence_41 : decode cX4_readSentence 41 = .ok (.istore_n 3, 1) := by decide +kernel
theorem dX4_readSentence_42 : decode cX4_readSentence 42 = .ok (.iload_n 3, 1) := by decide +kernel
theorem dX4_readSentence_43 : decode cX4_readSentence 43 = .ok (.iload_n 2, 1) := by decide +kernel
theorem dX4_readSentence_44 : decode cX4_readSentence 44 = .ok (.invokestatic 73, 3) := by decide +kernel
theorem dX4_readSentence_47 : decode cX4_readSentence 47 = .ok (.if_icmp .ge 72, 3) := by decide +kernel
theorem dX4_readSentence_50 : decode cX4_readSentence 50 = .ok (.aload_n 0, 1) := by decide +kernel
theorem dX4_readSentence_51 : decode cX4_readSentence 51 = .ok (.invokevirtual 63, 3) := by decide +kernel
theorem dX4_readSentence_54 : decode cX4_readSentence 54 = .ok (.aload_n 0, 1) := by decide +kernel
theorem dX4_readSentence_55 : decode cX4_readSentence 55 = .ok (.getfield 60, 3) := by decide +kernel
theorem dX4_readSentence_58 : decode cX4_readSentence 58 = .ok (.istore 4, 2) := by decide +kernel
theorem dX4_readSentence_60 : decode cX4_readSentence 60 = .ok (.aload_n 0, 1) := by decide +kernel
theorem dX4_readSentence_61 : decode cX4_readSentence 61 = .ok (.iload_n 2, 1) := by decide +kernel
theorem dX4_readSentence_62 : decode cX4_readSentence 62 = .ok (.bipush 11, 2) := by decide +kernel
theorem dX4_readSentence_64 : decode cX4_readSentence 64 = .ok (.if_icmp .ne 8, 3) := by decide +kernel
theorem dX4_readSentence_67 : decode cX4_readSentence 67 = .ok (.bipush 6, 2) := by decide +kernel
theorem dX4_readSentence_69 : decode cX4_readSentence 69 = .ok (.goto 4, 3) := by decide +kernel
theorem dX4_readSentence_72 : decode cX4_readSentence 72 = .ok (.iconst 2, 1) := by decide +kernel
theorem dX4_readSentence_73 : decode cX4_readSentence 73 = .ok (.invokevirtual 77, 3) := by decide +kernel
theorem dX4_readSentence_76 : decode cX4_readSentence 76 = .ok (.istore 5, 2) := by decide +kernel
theorem dX4_readSentence_78 : decode cX4_readSentence 78 = .ok (.iload 5, 2) := by decide +kernel
theorem dX4_readSentence_80 : decode cX4_readSentence 80 = .ok (.iconst (-1), 1) := by decide +kernel
theorem dX4_readSentence_81 : decode cX4_readSentence 81 = .ok (.if_icmp .eq 14, 3) := by decide +kernel
theorem dX4_readSentence_84 : decode cX4_readSentence 84 = .ok (.aload_n 0, 1) := by decide +kernel
theorem dX4_readSentence_85 : decode cX4_readSentence 85 = .ok (.iload_n 2, 1) := by decide +kernel
theorem dX4_readSentence_86 : decode cX4_readSentence 86 = .ok (.iload_n 3, 1) := by decide +kernel
theorem dX4_readSentence_87 : decode cX4_readSentence 87 = .ok (.iload 5, 2) := by decide +kernel
theorem dX4_readSentence_89 : decode cX4_readSentence 89 = .ok (.invokevirtual 80, 3) := by decide +kernel
theorem dX4_readSentence_92 : decode cX4_readSentence 92 = .ok (.ifCond .ne 6, 3) := by decide +kernel
theorem dX4_readSentence_95 : decode cX4_readSentence 95 = .ok (.iload 4, 2) := by decide +kernel
theorem dX4_readSentence_97 : decode cX4_readSentence 97 = .ok (.ireturn, 1) := by decide +kernel
theorem dX4_readSentence_98 : decode cX4_readSentence 98 = .ok (.aload_n 0, 1) := by decide +kernel
theorem dX4_readSentence_99 : decode cX4_readSentence 99 = .ok (.getfield 19, 3) := by decide +kernel
theorem dX4_readSentence_102 : decode cX4_readSentence 102 = .ok (.aload_n 0, 1) := by decide +kernel
theorem dX4_readSentence_103 : decode cX4_readSentence 103 = .ok (.getfield 54, 3) := by decide +kernel
theorem dX4_readSentence_106 : decode cX4_readSentence 106 = .ok (.iconst 5, 1) := by decide +kernel
theorem dX4_readSentence_107 : decode cX4_readSentence 107 = .ok (.imul, 1) := by decide +kernel
theorem dX4_readSentence_108 : decode cX4_readSentence 108 = .ok (.iload_n 3, 1) := by decide +kernel
theorem dX4_readSentence_109 : decode cX4_readSentence 109 = .ok (.iadd, 1) := by decide +kernel
theorem dX4_readSentence_110 : decode cX4_readSentence 110 = .ok (.iload 5, 2) := by decide +kernel
theorem dX4_readSentence_112 : decode cX4_readSentence 112 = .ok (.iastore, 1) := by decide +kernel
theorem dX4_readSentence_113 : decode cX4_readSentence 113 = .ok (.iinc 3 1, 3) := by decide +kernel
theorem dX4_readSentence_116 : decode cX4_readSentence 116 = .ok (.goto (-74), 3) := by decide +kernel
theorem dX4_readSentence_119 : decode cX4_readSentence 119 = .ok (.aload_n 0, 1) := by decide +kernel
theorem dX4_readSentence_120 : decode cX4_readSentence 120 = .ok (.invokevirtual 63, 3) := by decide +kernel
theorem dX4_readSentence_123 : decode cX4_readSentence 123 = .ok (.aload_n 0, 1) := by decide +kernel
theorem dX4_readSentence_124 : decode cX4_readSentence 124 = .ok (.aload_n 0, 1) := by decide +kernel
theorem dX4_readSentence_125 : decode cX4_readSentence 125 = .ok (.getfield 60, 3) := by decide +kernel
theorem dX4_readSentence_128 : decode cX4_readSentence 128 = .ok (.invokevirtual 84, 3) := by decide +kernel
theorem dX4_readSentence_131 : decode cX4_readSentence 131 = .ok (.bipush 59, 2) := by decide +kernel
theorem dX4_readSentence_133 : decode cX4_readSentence 133 = .ok (.if_icmp .eq 8, 3) := by decide +kernel
theorem dX4_readSentence_136 : decode cX4_readSentence 136 = .ok (.aload_n 0, 1) := by decide +kernel
theorem dX4_readSentence_137 : decode cX4_readSentence 137 = .ok (.getfield 60, 3) := by decide +kernel
theorem dX4_readSentence_140 : decode cX4_readSentence 140 = .ok (.ireturn, 1) := by decide +kernel
theorem dX4_readSentence_141 : decode cX4_readSentence 141 = .ok (.aload_n 0, 1) := by decide +kernel
theorem dX4_readSentence_142 : decode cX4_readSentence 142 = .ok (.dup, 1) := by decide +kernel
theorem dX4_readSentence_143 : decode cX4_readSentence 143 = .ok (.getfield 60, 3) := by decide +kernel
theorem dX4_readSentence_146 : decode cX4_readSentence 146 = .ok (.iconst 1, 1) := by decide +kernel
theorem dX4_readSentence_147 : decode cX4_readSentence 147 = .ok (.iadd, 1) := by decide +kernel
theorem dX4_readSentence_148 : decode cX4_readSentence 148 = .ok (.putfield 60, 3) := by decide +kernel
theorem dX4_readSentence_151 : decode cX4_readSentence 151 = .ok (.aload_n 0, 1) := by decide +kernel
theorem dX4_readSentence_152 : decode cX4_readSentence 152 = .ok (.dup, 1) := by decide +kernel
theorem dX4_readSentence_153 : decode cX4_readSentence 153 = .ok (.getfield 57, 3) := by decide +kernel
theorem dX4_readSentence_156 : decode cX4_readSentence 156 = .ok (.iload_n 2, 1) := by decide +kernel
theorem dX4_readSentence_157 : decode cX4_readSentence 157 = .ok (.iconst 5, 1) := by decide +kernel
theorem dX4_readSentence_158 : decode cX4_readSentence 158 = .ok (.if_icmp .ne 7, 3) := by decide +kernel
theorem dX4_readSentence_161 : decode cX4_readSentence 161 = .ok (.iconst 1, 1) := by decide +kernel
theorem dX4_readSentence_162 : decode cX4_readSentence 162 = .ok (.goto 4, 3) := by decide +kernel
theorem dX4_readSentence_165 : decode cX4_readSentence 165 = .ok (.iconst 0, 1) := by decide +kernel
theorem dX4_readSentence_166 : decode cX4_readSentence 166 = .ok (.iadd, 1) := by decide +kernel
theorem dX4_readSentence_167 : decode cX4_readSentence 167 = .ok (.putfield 57, 3) := by decide +kernel
theorem dX4_readSentence_170 : decode cX4_readSentence 170 = .ok (.aload_n 0, 1) := by decide +kernel
theorem dX4_readSentence_171 : decode cX4_readSentence 171 = .ok (.getfield 15, 3) := by decide +kernel
theorem dX4_readSentence_174 : decode cX4_readSentence 174 = .ok (.aload_n 0, 1) := by decide +kernel
theorem dX4_readSentence_175 : decode cX4_readSentence 175 = .ok (.getfield 54, 3) := by decide +kernel
theorem dX4_readSentence_178 : decode cX4_readSentence 178 = .ok (.iload_n 2, 1) := by decide +kernel
theorem dX4_readSentence_179 : decode cX4_readSentence 179 = .ok (.iastore, 1) := by decide +kernel
theorem dX4_readSentence_180 : decode cX4_readSentence 180 = .ok (.aload_n 0, 1) := by decide +kernel
theorem dX4_readSentence_181 : decode cX4_readSentence 181 = .ok (.dup, 1) := by decide +kernel
theorem dX4_readSentence_182 : decode cX4_readSentence 182 = .ok (.getfield 54, 3) := by decide +kernel
theorem dX4_readSentence_185 : decode cX4_readSentence 185 = .ok (.iconst 1, 1) := by decide +kernel
theorem dX4_readSentence_186 : decode cX4_readSentence 186 = .ok (.iadd, 1) := by decide +kernel
theorem dX4_readSentence_187 : decode cX4_readSentence 187 = .ok (.putfield 54, 3) := by decide +kernel
theorem dX4_readSentence_190 : decode cX4_readSentence 190 = .ok (.iconst (-1), 1) := by decide +kernel
theorem dX4_readSentence_191 : decode cX4_readSentence 191 = .ok (.ireturn, 1) := by decide +kernel
theorem dX4_mayStand_0 : decode cX4_mayStand 0 = .ok (.iload_n 1, 1) := by decide +kernel
theorem dX4_mayStand_1 : decode cX4_mayStand 1 = .ok (.bipush 11, 2) := by decide +kernel
theorem dX4_mayStand_3 : decode cX4_mayStand 3 = .ok (.if_icmp .ne 8, 3) := by decide +kernel
theorem dX4_mayStand_6 : decode cX4_mayStand 6 = .ok (.iload_n 3, 1) := by decide +kernel
theorem dX4_mayStand_7 : decode cX4_mayStand 7 = .ok (.invokestatic 87, 3) := by decide +kernel
theorem dX4_mayStand_10 : decode cX4_mayStand 10 = .ok (.ireturn, 1) := by decide +kernel
theorem dX4_mayStand_11 : decode cX4_mayStand 11 = .ok (.iload_n 1, 1) := by decide +kernel
theorem dX4_mayStand_12 : decode cX4_mayStand 12 = .ok (.iconst 5, 1) := by decide +kernel
theorem dX4_mayStand_13 : decode cX4_mayStand 13 = .ok (.if_icmp .ne 9, 3) := by decide +kernel
theorem dX4_mayStand_16 : decode cX4_mayStand 16 = .ok (.iload_n 2, 1) := by decide +kernel
theorem dX4_mayStand_17 : decode cX4_mayStand 17 = .ok (.iload_n 3, 1) := by decide +kernel
theorem dX4_mayStand_18 : decode cX4_mayStand 18 = .ok (.invokestatic 91, 3) := by decide +kernel
theorem dX4_mayStand_21 : decode cX4_mayStand 21 = .ok (.ireturn, 1) := by decide +kernel
theorem dX4_mayStand_22 : decode cX4_mayStand 22 = .ok (.iload_n 2, 1) := by decide +kernel
theorem dX4_mayStand_23 : decode cX4_mayStand 23 = .ok (.ifCond .ne 19, 3) := by decide +kernel
theorem dX4_mayStand_26 : decode cX4_mayStand 26 = .ok (.iload_n 3, 1) := by decide +kernel
theorem dX4_mayStand_27 : decode cX4_mayStand 27 = .ok (.aload_n 0, 1) := by decide +kernel
theorem dX4_mayStand_28 : decode cX4_mayStand 28 = .ok (.getfield 57, 3) := by decide +kernel
theorem dX4_mayStand_31 : decode cX4_mayStand 31 = .ok (.if_icmp .ge 7, 3) := by decide +kernel
theorem dX4_mayStand_34 : decode cX4_mayStand 34 = .ok (.iconst 1, 1) := by decide +kernel
theorem dX4_mayStand_35 : decode cX4_mayStand 35 = .ok (.goto 15, 3) := by decide +kernel
theorem dX4_mayStand_38 : decode cX4_mayStand 38 = .ok (.iconst 0, 1) := by decide +kernel
theorem dX4_mayStand_39 : decode cX4_mayStand 39 = .ok (.goto 11, 3) := by decide +kernel
theorem dX4_mayStand_42 : decode cX4_mayStand 42 = .ok (.iload_n 1, 1) := by decide +kernel
theorem dX4_mayStand_43 : decode cX4_mayStand 43 = .ok (.bipush 6, 2) := by decide +kernel
theorem dX4_mayStand_45 : decode cX4_mayStand 45 = .ok (.isub, 1) := by decide +kernel
theorem dX4_mayStand_46 : decode cX4_mayStand 46 = .ok (.iload_n 3, 1) := by decide +kernel
theorem dX4_mayStand_47 : decode cX4_mayStand 47 = .ok (.invokestatic 91, 3) := by decide +kernel
theorem dX4_mayStand_50 : decode cX4_mayStand 50 = .ok (.ireturn, 1) := by decide +kernel
theorem dX4_byteAt_0 : decode cX4_byteAt 0 = .ok (.iload_n 1, 1) := by decide +kernel
theorem dX4_byteAt_1 : decode cX4_byteAt 1 = .ok (.ifCond .lt 26, 3) := by decide +kernel
theorem dX4_byteAt_4 : decode cX4_byteAt 4 = .ok (.iload_n 1, 1) := by decide +kernel
theorem dX4_byteAt_5 : decode cX4_byteAt 5 = .ok (.aload_n 0, 1) := by decide +kernel
theorem dX4_byteAt_6 : decode cX4_byteAt 6 = .ok (.getfield 50, 3) := by decide +kernel
theorem dX4_byteAt_9 : decode cX4_byteAt 9 = .ok (.if_icmp .ge 18, 3) := by decide +kernel
theorem dX4_byteAt_12 : decode cX4_byteAt 12 = .ok (.iload_n 1, 1) := by decide +kernel
theorem dX4_byteAt_13 : decode cX4_byteAt 13 = .ok (.bipush 120, 2) := by decide +kernel
theorem dX4_byteAt_15 : decode cX4_byteAt 15 = .ok (.if_icmp .ge 12, 3) := by decide +kernel
theorem dX4_byteAt_18 : decode cX4_byteAt 18 = .ok (.aload_n 0, 1) := by decide +kernel
theorem dX4_byteAt_19 : decode cX4_byteAt 19 = .ok (.getfield 11, 3) := by decide +kernel
theorem dX4_byteAt_22 : decode cX4_byteAt 22 = .ok (.iload_n 1, 1) := by decide +kernel
theorem dX4_byteAt_23 : decode cX4_byteAt 23 = .ok (.baload, 1) := by decide +kernel
theorem dX4_byteAt_24 : decode cX4_byteAt 24 = .ok (.goto 4, 3) := by decide +kernel
theorem dX4_byteAt_27 : decode cX4_byteAt 27 = .ok (.iconst (-1), 1) := by decide +kernel
theorem dX4_byteAt_28 : decode cX4_byteAt 28 = .ok (.ireturn, 1) := by decide +kernel
theorem dX4_skipBlanks_0 : decode cX4_skipBlanks 0 = .ok (.iconst 0, 1) := by decide +kernel
theorem dX4_skipBlanks_1 : decode cX4_skipBlanks 1 = .ok (.istore_n 1, 1) := by decide +kernel
theorem dX4_skipBlanks_2 : decode cX4_skipBlanks 2 = .ok (.iload_n 1, 1) := by decide +kernel
theorem dX4_skipBlanks_3 : decode cX4_skipBlanks 3 = .ok (.bipush 120, 2) := by decide +kernel
theorem dX4_skipBlanks_5 : decode cX4_skipBlanks 5 = .ok (.if_icmp .ge 32, 3) := by decide +kernel
theorem dX4_skipBlanks_8 : decode cX4_skipBlanks 8 = .ok (.aload_n 0, 1) := by decide +kernel
theorem dX4_skipBlanks_9 : decode cX4_skipBlanks 9 = .ok (.aload_n 0, 1) := by decide +kernel
theorem dX4_skipBlanks_10 : decode cX4_skipBlanks 10 = .ok (.getfield 60, 3) := by decide +kernel
theorem dX4_skipBlanks_13 : decode cX4_skipBlanks 13 = .ok (.invokevirtual 84, 3) := by decide +kernel
theorem dX4_skipBlanks_16 : decode cX4_skipBlanks 16 = .ok (.bipush 32, 2) := by decide +kernel
theorem dX4_skipBlanks_18 : decode cX4_skipBlanks 18 = .ok (.if_icmp .ne 19, 3) := by decide +kernel
theorem dX4_skipBlanks_21 : decode cX4_skipBlanks 21 = .ok (.aload_n 0, 1) := by decide +kernel
theorem dX4_skipBlanks_22 : decode cX4_skipBlanks 22 = .ok (.dup, 1) := by decide +kernel
theorem dX4_skipBlanks_23 : decode cX4_skipBlanks 23 = .ok (.getfield 60, 3) := by decide +kernel
theorem dX4_skipBlanks_26 : decode cX4_skipBlanks 26 = .ok (.iconst 1, 1) := by decide +kernel
theorem dX4_skipBlanks_27 : decode cX4_skipBlanks 27 = .ok (.iadd, 1) := by decide +kernel
theorem dX4_skipBlanks_28 : decode cX4_skipBlanks 28 = .ok (.putfield 60, 3) := by decide +kernel
theorem dX4_skipBlanks_31 : decode cX4_skipBlanks 31 = .ok (.iinc 1 1, 3) := by decide +kernel
theorem dX4_skipBlanks_34 : decode cX4_skipBlanks 34 = .ok (.goto (-32), 3) := by decide +kernel
theorem dX4_skipBlanks_37 : decode cX4_skipBlanks 37 = .ok (.return_, 1) := by decide +kernel
theorem dX4_readWord_0 : decode cX4_readWord 0 = .ok (.aload_n 0, 1) := by decide +kernel
theorem dX4_readWord_1 : decode cX4_readWord 1 = .ok (.getfield 60, 3) := by decide +kernel
theorem dX4_readWord_4 : decode cX4_readWord 4 = .ok (.istore_n 1, 1) := by decide +kernel
theorem dX4_readWord_5 : decode cX4_readWord 5 = .ok (.iconst 0, 1) := by decide +kernel
theorem dX4_readWord_6 : decode cX4_readWord 6 = .ok (.istore_n 2, 1) := by decide +kernel
theorem dX4_readWord_7 : decode cX4_readWord 7 = .ok (.iload_n 2, 1) := by decide +kernel
theorem dX4_readWord_8 : decode cX4_readWord 8 = .ok (.bipush 120, 2) := by decide +kernel
theorem dX4_readWord_10 : decode cX4_readWord 10 = .ok (.if_icmp .ge 45, 3) := by decide +kernel
theorem dX4_readWord_13 : decode cX4_readWord 13 = .ok (.aload_n 0, 1) := by decide +kernel
theorem dX4_readWord_14 : decode cX4_readWord 14 = .ok (.aload_n 0, 1) := by decide +kernel
theorem dX4_readWord_15 : decode cX4_readWord 15 = .ok (.getfield 60, 3) := by decide +kernel
theorem dX4_readWord_18 : decode cX4_readWord 18 = .ok (.invokevirtual 84, 3) := by decide +kernel
theorem dX4_readWord_21 : decode cX4_readWord 21 = .ok (.bipush 97, 2) := by decide +kernel
theorem dX4_readWord_23 : decode cX4_readWord 23 = .ok (.if_icmp .lt 32, 3) := by decide +kernel
theorem dX4_readWord_26 : decode cX4_readWord 26 = .ok (.aload_n 0, 1) := by decide +kernel
theorem dX4_readWord_27 : decode cX4_readWord 27 = .ok (.aload_n 0, 1) := by decide +kernel
theorem dX4_readWord_28 : decode cX4_readWord 28 = .ok (.getfield 60, 3) := by decide +kernel
theorem dX4_readWord_31 : decode cX4_readWord 31 = .ok (.invokevirtual 84, 3) := by decide +kernel
theorem dX4_readWord_34 : decode cX4_readWord 34 = .ok (.bipush 122, 2) := by decide +kernel
theorem dX4_readWord_36 : decode cX4_readWord 36 = .ok (.if_icmp .gt 19, 3) := by decide +kernel
theorem dX4_readWord_39 : decode cX4_readWord 39 = .ok (.aload_n 0, 1) := by decide +kernel
theorem dX4_readWord_40 : decode cX4_readWord 40 = .ok (.dup, 1) := by decide +kernel
theorem dX4_readWord_41 : decode cX4_readWord 41 = .ok (.getfield 60, 3) := by decide +kernel
theorem dX4_readWord_44 : decode cX4_readWord 44 = .ok (.iconst 1, 1) := by decide +kernel
theorem dX4_readWord_45 : decode cX4_readWord 45 = .ok (.iadd, 1) := by decide +kernel
theorem dX4_readWord_46 : decode cX4_readWord 46 = .ok (.putfield 60, 3) := by decide +kernel
theorem dX4_readWord_49 : decode cX4_readWord 49 = .ok (.iinc 2 1, 3) := by decide +kernel
theorem dX4_readWord_52 : decode cX4_readWord 52 = .ok (.goto (-45), 3) := by decide +kernel
theorem dX4_readWord_55 : decode cX4_readWord 55 = .ok (.iconst 0, 1) := by decide +kernel
theorem dX4_readWord_56 : decode cX4_readWord 56 = .ok (.istore_n 2, 1) := by decide +kernel
theorem dX4_readWord_57 : decode cX4_readWord 57 = .ok (.iload_n 2, 1) := by decide +kernel
theorem dX4_readWord_58 : decode cX4_readWord 58 = .ok (.bipush 13, 2) := by decide +kernel
theorem dX4_readWord_60 : decode cX4_readWord 60 = .ok (.if_icmp .ge 27, 3) := by decide +kernel
theorem dX4_readWord_63 : decode cX4_readWord 63 = .ok (.aload_n 0, 1) := by decide +kernel
theorem dX4_readWord_64 : decode cX4_readWord 64 = .ok (.iload_n 2, 1) := by decide +kernel
theorem dX4_readWord_65 : decode cX4_readWord 65 = .ok (.invokestatic 97, 3) := by decide +kernel
theorem dX4_readWord_68 : decode cX4_readWord 68 = .ok (.iload_n 1, 1) := by decide +kernel
theorem dX4_readWord_69 : decode cX4_readWord 69 = .ok (.aload_n 0, 1) := by decide +kernel
theorem dX4_readWord_70 : decode cX4_readWord 70 = .ok (.getfield 60, 3) := by decide +kernel
theorem dX4_readWord_73 : decode cX4_readWord 73 = .ok (.invokevirtual 101, 3) := by decide +kernel
theorem dX4_readWord_76 : decode cX4_readWord 76 = .ok (.ifCond .eq 5, 3) := by decide +kernel
theorem dX4_readWord_79 : decode cX4_readWord 79 = .ok (.iload_n 2, 1) := by decide +kernel
theorem dX4_readWord_80 : decode cX4_readWord 80 = .ok (.ireturn, 1) := by decide +kernel
theorem dX4_readWord_81 : decode cX4_readWord 81 = .ok (.iinc 2 1, 3) := by decide +kernel
theorem dX4_readWord_84 : decode cX4_readWord 84 = .ok (.goto (-27), 3) := by decide +kernel
theorem dX4_readWord_87 : decode cX4_readWord 87 = .ok (.iconst (-1), 1) := by decide +kernel
theorem dX4_readWord_88 : decode cX4_readWord 88 = .ok (.ireturn, 1) := by decide +kernel
theorem dX4_stands_0 : decode cX4_stands 0 = .ok (.aload_n 1, 1) := by decide +kernel
theorem dX4_stands_1 : decode cX4_stands 1 = .ok (.invokevirtual 105, 3) := by decide +kernel
theorem dX4_stands_4 : decode cX4_stands 4 = .ok (.iload_n 3, 1) := by decide +kernel
theorem dX4_stands_5 : decode cX4_stands 5 = .ok (.iload_n 2, 1) := by decide +kernel
theorem dX4_stands_6 : decode cX4_stands 6 = .ok (.isub, 1) := by decide +kernel
theorem dX4_stands_7 : decode cX4_stands 7 = .ok (.if_icmp .eq 5, 3) := by decide +kernel
theorem dX4_stands_10 : decode cX4_stands 10 = .ok (.iconst 0, 1) := by decide +kernel
theorem dX4_stands_11 : decode cX4_stands 11 = .ok (.ireturn, 1) := by decide +kernel
theorem dX4_stands_12 : decode cX4_stands 12 = .ok (.iconst 0, 1) := by decide +kernel
theorem dX4_stands_13 : decode cX4_stands 13 = .ok (.istore 4, 2) := by decide +kernel
theorem dX4_stands_15 : decode cX4_stands 15 = .ok (.iload 4, 2) := by decide +kernel
theorem dX4_stands_17 : decode cX4_stands 17 = .ok (.aload_n 1, 1) := by decide +kernel
theorem dX4_stands_18 : decode cX4_stands 18 = .ok (.invokevirtual 105, 3) := by decide +kernel
theorem dX4_stands_21 : decode cX4_stands 21 = .ok (.if_icmp .ge 28, 3) := by decide +kernel
theorem dX4_stands_24 : decode cX4_stands 24 = .ok (.aload_n 0, 1) := by decide +kernel
theorem dX4_stands_25 : decode cX4_stands 25 = .ok (.iload_n 2, 1) := by decide +kernel
theorem dX4_stands_26 : decode cX4_stands 26 = .ok (.iload 4, 2) := by decide +kernel
theorem dX4_stands_28 : decode cX4_stands 28 = .ok (.iadd, 1) := by decide +kernel
theorem dX4_stands_29 : decode cX4_stands 29 = .ok (.invokevirtual 84, 3) := by decide +kernel
theorem dX4_stands_32 : decode cX4_stands 32 = .ok (.aload_n 1, 1) := by decide +kernel
theorem dX4_stands_33 : decode cX4_stands 33 = .ok (.iload 4, 2) := by decide +kernel
theorem dX4_stands_35 : decode cX4_stands 35 = .ok (.invokevirtual 109, 3) := by decide +kernel
theorem dX4_stands_38 : decode cX4_stands 38 = .ok (.if_icmp .eq 5, 3) := by decide +kernel
theorem dX4_stands_41 : decode cX4_stands 41 = .ok (.iconst 0, 1) := by decide +kernel
theorem dX4_stands_42 : decode cX4_stands 42 = .ok (.ireturn, 1) := by decide +kernel
theorem dX4_stands_43 : decode cX4_stands 43 = .ok (.iinc 4 1, 3) := by decide +kernel
theorem dX4_stands_46 : decode cX4_stands 46 = .ok (.goto (-31), 3) := by decide +kernel
theorem dX4_stands_49 : decode cX4_stands 49 = .ok (.iconst 1, 1) := by decide +kernel
theorem dX4_stands_50 : decode cX4_stands 50 = .ok (.ireturn, 1) := by decide +kernel
theorem dX4_readNumber_0 : decode cX4_readNumber 0 = .ok (.iconst 0, 1) := by decide +kernel
theorem dX4_readNumber_1 : decode cX4_readNumber 1 = .ok (.istore_n 2, 1) := by decide +kernel
theorem dX4_readNumber_2 : decode cX4_readNumber 2 = .ok (.iconst 0, 1) := by decide +kernel
theorem dX4_readNumber_3 : decode cX4_readNumber 3 = .ok (.istore_n 3, 1) := by decide +kernel
theorem dX4_readNumber_4 : decode cX4_readNumber 4 = .ok (.iconst 0, 1) := by decide +kernel
theorem dX4_readNumber_5 : decode cX4_readNumber 5 = .ok (.istore 4, 2) := by decide +kernel
theorem dX4_readNumber_7 : decode cX4_readNumber 7 = .ok (.iload 4, 2) := by decide +kernel
theorem dX4_readNumber_9 : decode cX4_readNumber 9 = .ok (.iload_n 1, 1) := by decide +kernel
theorem dX4_readNumber_10 : decode cX4_readNumber 10 = .ok (.if_icmp .gt 65, 3) := by decide +kernel
theorem dX4_readNumber_13 : decode cX4_readNumber 13 = .ok (.aload_n 0, 1) := by decide +kernel
theorem dX4_readNumber_14 : decode cX4_readNumber 14 = .ok (.aload_n 0, 1) := by decide +kernel
theorem dX4_readNumber_15 : decode cX4_readNumber 15 = .ok (.getfield 60, 3) := by decide +kernel
theorem dX4_readNumber_18 : decode cX4_readNumber 18 = .ok (.invokevirtual 84, 3) := by decide +kernel
theorem dX4_readNumber_21 : decode cX4_readNumber 21 = .ok (.bipush 48, 2) := by decide +kernel
theorem dX4_readNumber_23 : decode cX4_readNumber 23 = .ok (.if_icmp .lt 52, 3) := by decide +kernel
theorem dX4_readNumber_26 : decode cX4_readNumber 26 = .ok (.aload_n 0, 1) := by decide +kernel
theorem dX4_readNumber_27 : decode cX4_readNumber 27 = .ok (.aload_n 0, 1) := by decide +kernel
theorem dX4_readNumber_28 : decode cX4_readNumber 28 = .ok (.getfield 60, 3) := by decide +kernel
theorem dX4_readNumber_31 : decode cX4_readNumber 31 = .ok (.invokevirtual 84, 3) := by decide +kernel
theorem dX4_readNumber_34 : decode cX4_readNumber 34 = .ok (.bipush 57, 2) := by decide +kernel
theorem dX4_readNumber_36 : decode cX4_readNumber 36 = .ok (.if_icmp .gt 39, 3) := by decide +kernel
theorem dX4_readNumber_39 : decode cX4_readNumber 39 = .ok (.bipush 10, 2) := by decide +kernel
theorem dX4_readNumber_41 : decode cX4_readNumber 41 = .ok (.iload_n 2, 1) := by decide +kernel
theorem dX4_readNumber_42 : decode cX4_readNumber 42 = .ok (.imul, 1) := by decide +kernel
theorem dX4_readNumber_43 : decode cX4_readNumber 43 = .ok (.aload_n 0, 1) := by decide +kernel
theorem dX4_readNumber_44 : decode cX4_readNumber 44 = .ok (.aload_n 0, 1) := by decide +kernel
theorem dX4_readNumber_45 : decode cX4_readNumber 45 = .ok (.getfield 60, 3) := by decide +kernel
theorem dX4_readNumber_48 : decode cX4_readNumber 48 = .ok (.invokevirtual 84, 3) := by decide +kernel
theorem dX4_readNumber_51 : decode cX4_readNumber 51 = .ok (.iadd, 1) := by decide +kernel
theorem dX4_readNumber_52 : decode cX4_readNumber 52 = .ok (.bipush 48, 2) := by decide +kernel
theorem dX4_readNumber_54 : decode cX4_readNumber 54 = .ok (.isub, 1) := by decide +kernel
theorem dX4_readNumber_55 : decode cX4_readNumber 55 = .ok (.istore_n 2, 1) := by decide +kernel
theorem dX4_readNumber_56 : decode cX4_readNumber 56 = .ok (.iinc 3 1, 3) := by decide +kernel
theorem dX4_readNumber_59 : decode cX4_readNumber 59 = .ok (.aload_n 0, 1) := by decide +kernel
theorem dX4_readNumber_60 : decode cX4_readNumber 60 = .ok (.dup, 1) := by decide +kernel
theorem dX4_readNumber_61 : decode cX4_readNumber 61 = .ok (.getfield 60, 3) := by decide +kernel
theorem dX4_readNumber_64 : decode cX4_readNumber 64 = .ok (.iconst 1, 1) := by decide +kernel
theorem dX4_readNumber_65 : decode cX4_readNumber 65 = .ok (.iadd, 1) := by decide +kernel
theorem dX4_readNumber_66 : decode cX4_readNumber 66 = .ok (.putfield 60, 3) := by decide +kernel
theorem dX4_readNumber_69 : decode cX4_readNumber 69 = .ok (.iinc 4 1, 3) := by decide +kernel
theorem dX4_readNumber_72 : decode cX4_readNumber 72 = .ok (.goto (-65), 3) := by decide +kernel
theorem dX4_readNumber_75 : decode cX4_readNumber 75 = .ok (.iload_n 3, 1) := by decide +kernel
theorem dX4_readNumber_76 : decode cX4_readNumber 76 = .ok (.ifCond .eq 8, 3) := by decide +kernel
theorem dX4_readNumber_79 : decode cX4_readNumber 79 = .ok (.iload_n 3, 1) := by decide +kernel
theorem dX4_readNumber_80 : decode cX4_readNumber 80 = .ok (.iload_n 1, 1) := by decide +kernel
theorem dX4_readNumber_81 : decode cX4_readNumber 81 = .ok (.if_icmp .le 7, 3) := by decide +kernel
theorem dX4_readNumber_84 : decode cX4_readNumber 84 = .ok (.iconst (-1), 1) := by decide +kernel
theorem dX4_readNumber_85 : decode cX4_readNumber 85 = .ok (.goto 4, 3) := by decide +kernel
theorem dX4_readNumber_88 : decode cX4_readNumber 88 = .ok (.iload_n 2, 1) := by decide +kernel
theorem dX4_readNumber_89 : decode cX4_readNumber 89 = .ok (.ireturn, 1) := by decide +kernel
theorem dX5_init_0 : decode cX5_init 0 = .ok (.aload_n 0, 1) := by decide +kernel
theorem dX5_init_1 : decode cX5_init 1 = .ok (.invokespecial 1, 3) := by decide +kernel
theorem dX5_init_4 : decode cX5_init 4 = .ok (.aload_n 0, 1) := by decide +kernel
theorem dX5_init_5 : decode cX5_init 5 = .ok (.new 7, 3) := by decide +kernel
theorem dX5_init_8 : decode cX5_init 8 = .ok (.dup, 1) := by decide +kernel
theorem dX5_init_9 : decode cX5_init 9 = .ok (.invokespecial 9, 3) := by decide +kernel
theorem dX5_init_12 : decode cX5_init 12 = .ok (.putfield 10, 3) := by decide +kernel
theorem dX5_init_15 : decode cX5_init 15 = .ok (.aload_n 0, 1) := by decide +kernel
theorem dX5_init_16 : decode cX5_init 16 = .ok (.new 16, 3) := by decide +kernel
theorem dX5_init_19 : decode cX5_init 19 = .ok (.dup, 1) := by decide +kernel
theorem dX5_init_20 : decode cX5_init 20 = .ok (.invokespecial 18, 3) := by decide +kernel
theorem dX5_init_23 : decode cX5_init 23 = .ok (.putfield 19, 3) := by decide +kernel
theorem dX5_init_26 : decode cX5_init 26 = .ok (.aload_n 0, 1) := by decide +kernel
theorem dX5_init_27 : decode cX5_init 27 = .ok (.new 16, 3) := by decide +kernel
theorem dX5_init_30 : decode cX5_init 30 = .ok (.dup, 1) := by decide +kernel
theorem dX5_init_31 : decode cX5_init 31 = .ok (.invokespecial 18, 3) := by decide +kernel
theorem dX5_init_34 : decode cX5_init 34 = .ok (.putfield 23, 3) := by decide +kernel
theorem dX5_init_37 : decode cX5_init 37 = .ok (.aload_n 0, 1) := by decide +kernel
theorem dX5_init_38 : decode cX5_init 38 = .ok (.new 26, 3) := by decide +kernel
theorem dX5_init_41 : decode cX5_init 41 = .ok (.dup, 1) := by decide +kernel
theorem dX5_init_42 : decode cX5_init 42 = .ok (.invokespecial 28, 3) := by decide +kernel
theorem dX5_init_45 : decode cX5_init 45 = .ok (.putfield 29, 3) := by decide +kernel
theorem dX5_init_48 : decode cX5_init 48 = .ok (.aload_n 0, 1) := by decide +kernel
theorem dX5_init_49 : decode cX5_init 49 = .ok (.new 33, 3) := by decide +kernel
theorem dX5_init_52 : decode cX5_init 52 = .ok (.dup, 1) := by decide +kernel
theorem dX5_init_53 : decode cX5_init 53 = .ok (.invokespecial 35, 3) := by decide +kernel
theorem dX5_init_56 : decode cX5_init 56 = .ok (.putfield 36, 3) := by decide +kernel
theorem dX5_init_59 : decode cX5_init 59 = .ok (.aload_n 0, 1) := by decide +kernel
theorem dX5_init_60 : decode cX5_init 60 = .ok (.new 40, 3) := by decide +kernel
theorem dX5_init_63 : decode cX5_init 63 = .ok (.dup, 1) := by decide +kernel
theorem dX5_init_64 : decode cX5_init 64 = .ok (.invokespecial 42, 3) := by decide +kernel
theorem dX5_init_67 : decode cX5_init 67 = .ok (.putfield 43, 3) := by decide +kernel
theorem dX5_init_70 : decode cX5_init 70 = .ok (.return_, 1) := by decide +kernel
theorem dX5_unit_0 : decode cX5_unit 0 = .ok (.iconst 0, 1) := by decide +kernel
theorem dX5_unit_1 : decode cX5_unit 1 = .ok (.iload_n 1, 1) := by decide +kernel
theorem dX5_unit_2 : decode cX5_unit 2 = .ok (.invokestatic 47, 3) := by decide +kernel
theorem dX5_unit_5 : decode cX5_unit 5 = .ok (.ifCond .eq 41, 3) := by decide +kernel
theorem dX5_unit_8 : decode cX5_unit 8 = .ok (.iconst 1, 1) := by decide +kernel
theorem dX5_unit_9 : decode cX5_unit 9 = .ok (.iload_n 2, 1) := by decide +kernel
theorem dX5_unit_10 : decode cX5_unit 10 = .ok (.invokestatic 47, 3) := by decide +kernel
theorem dX5_unit_13 : decode cX5_unit 13 = .ok (.ifCond .eq 33, 3) := by decide +kernel
theorem dX5_unit_16 : decode cX5_unit 16 = .ok (.iconst 2, 1) := by decide +kernel
theorem dX5_unit_17 : decode cX5_unit 17 = .ok (.iload_n 3, 1) := by decide +kernel
theorem dX5_unit_18 : decode cX5_unit 18 = .ok (.invokestatic 47, 3) := by decide +kernel
theorem dX5_unit_21 : decode cX5_unit 21 = .ok (.ifCond .eq 25, 3) := by decide +kernel
theorem dX5_unit_24 : decode cX5_unit 24 = .ok (.iconst 3, 1) := by decide +kernel
theorem dX5_unit_25 : decode cX5_unit 25 = .ok (.iload 4, 2) := by decide +kernel
theorem dX5_unit_27 : decode cX5_unit 27 = .ok (.invokestatic 47, 3) := by decide +kernel
theorem dX5_unit_30 : decode cX5_unit 30 = .ok (.ifCond .eq 16, 3) := by decide +kernel
theorem dX5_unit_33 : decode cX5_unit 33 = .ok (.iconst 4, 1) := by decide +kernel
theorem dX5_unit_34 : decode cX5_unit 34 = .ok (.iload 5, 2) := by decide +kernel
theorem dX5_unit_36 : decode cX5_unit 36 = .ok (.invokestatic 47, 3) := by decide +kernel
theorem dX5_unit_39 : decode cX5_unit 39 = .ok (.ifCond .eq 7, 3) := by decide +kernel
theorem dX5_unit_42 : decode cX5_unit 42 = .ok (.iconst 1, 1) := by decide +kernel
theorem dX5_unit_43 : decode cX5_unit 43 = .ok (.goto 4, 3) := by decide +kernel
theorem dX5_unit_46 : decode cX5_unit 46 = .ok (.iconst 0, 1) := by decide +kernel
theorem dX5_unit_47 : decode cX5_unit 47 = .ok (.istore 6, 2) := by decide +kernel
theorem dX5_unit_49 : decode cX5_unit 49 = .ok (.iload 6, 2) := by decide +kernel
theorem dX5_unit_51 : decode cX5_unit 51 = .ok (.ifCond .ne 10, 3) := by decide +kernel
theorem dX5_unit_54 : decode cX5_unit 54 = .ok (.aload_n 0, 1) := by decide +kernel
theorem dX5_unit_55 : decode cX5_unit 55 = .ok (.bipush (-2), 2) := by decide +kernel
theorem dX5_unit_57 : decode cX5_unit 57 = .ok (.invokevirtual 51, 3) := by decide +kernel
theorem dX5_unit_60 : decode cX5_unit 60 = .ok (.ireturn, 1) := by decide +kernel
theorem dX5_unit_61 : decode cX5_unit 61 = .ok (.aload_n 0, 1) := by decide +kernel
theorem dX5_unit_62 : decode cX5_unit 62 = .ok (.getfield 10, 3) := by decide +kernel
theorem dX5_unit_65 : decode cX5_unit 65 = .ok (.getfield 55, 3) := by decide +kernel
theorem dX5_unit_68 : decode cX5_unit 68 = .ok (.bipush 12, 2) := by decide +kernel
theorem dX5_unit_70 : decode cX5_unit 70 = .ok (.if_icmp .lt 10, 3) := by decide +kernel
theorem dX5_unit_73 : decode cX5_unit 73 = .ok (.aload_n 0, 1) := by decide +kernel
theorem dX5_unit_74 : decode cX5_unit 74 = .ok (.bipush (-4), 2) := by decide +kernel
theorem dX5_unit_76 : decode cX5_unit 76 = .ok (.invokevirtual 51, 3) := by decide +kernel
theorem dX5_unit_79 : decode cX5_unit 79 = .ok (.ireturn, 1) := by decide +kernel
theorem dX5_unit_80 : decode cX5_unit 80 = .ok (.aload_n 0, 1) := by decide +kernel
theorem dX5_unit_81 : decode cX5_unit 81 = .ok (.getfield 10, 3) := by decide +kernel
theorem dX5_unit_84 : decode cX5_unit 84 = .ok (.iload_n 1, 1) := by decide +kernel
theorem dX5_unit_85 : decode cX5_unit 85 = .ok (.iload_n 2, 1) := by decide +kernel
theorem dX5_unit_86 : decode cX5_unit 86 = .ok (.iload_n 3, 1) := by decide +kernel
theorem dX5_unit_87 : decode cX5_unit 87 = .ok (.iload 4, 2) := by decide +kernel
theorem dX5_unit_89 : decode cX5_unit 89 = .ok (.iload 5, 2) := by decide +kernel
theorem dX5_unit_91 : decode cX5_unit 91 = .ok (.invokevirtual 59, 3) := by decide +kernel
theorem dX5_unit_94 : decode cX5_unit 94 = .ok (.ireturn, 1) := by decide +kernel
theorem dX5_sets_0 : decode cX5_sets 0 = .ok (.aload_n 0, 1) := by decide +kernel
theorem dX5_sets_1 : decode cX5_sets 1 = .ok (.getfield 10, 3) := by decide +kernel
theorem dX5_sets_4 : decode cX5_sets 4 = .ok (.iload_n 1, 1) := by decide +kernel
theorem dX5_sets_5 : decode cX5_sets 5 = .ok (.invokevirtual 63, 3) := by decide +kernel
theorem dX5_sets_8 : decode cX5_sets 8 = .ok (.ifCond .eq 11, 3) := by decide +kernel
theorem dX5_sets_11 : decode cX5_sets 11 = .ok (.iload_n 2, 1) := by decide +kernel
theorem dX5_sets_12 : decode cX5_sets 12 = .ok (.iload_n 3, 1) := by decide +kernel
theorem dX5_sets_13 : decode cX5_sets 13 = .ok (.invokestatic 47, 3) := by decide +kernel
theorem dX5_sets_16 : decode cX5_sets 16 = .ok (.ifCond .ne 10, 3) := by decide +kernel
theorem dX5_sets_19 : decode cX5_sets 19 = .ok (.aload_n 0, 1) := by decide +kernel
theorem dX5_sets_20 : decode cX5_sets 20 = .ok (.bipush (-2), 2) := by decide +kernel
theorem dX5_sets_22 : decode cX5_sets 22 = .ok (.invokevirtual 51, 3) := by decide +kernel
theorem dX5_sets_25 : decode cX5_sets 25 = .ok (.ireturn, 1) := by decide +kernel
theorem dX5_sets_26 : decode cX5_sets 26 = .ok (.aload_n 0, 1) := by decide +kernel
theorem dX5_sets_27 : decode cX5_sets 27 = .ok (.getfield 10, 3) := by decide +kernel
theorem dX5_sets_30 : decode cX5_sets 30 = .ok (.iload_n 1, 1) := by decide +kernel
theorem dX5_sets_31 : decode cX5_sets 31 = .ok (.iload_n 2, 1) := by decide +kernel
theorem dX5_sets_32 : decode cX5_sets 32 = .ok (.iload_n 3, 1) := by decide +kernel
theorem dX5_sets_33 : decode cX5_sets 33 = .ok (.invokevirtual 67, 3) := by decide +kernel
theorem dX5_sets_36 : decode cX5_sets 36 = .ok (.ireturn, 1) := by decide +kernel
theorem dX5_empties_0 : decode cX5_empties 0 = .ok (.aload_n 0, 1) := by decide +kernel
theorem dX5_empties_1 : decode cX5_empties 1 = .ok (.getfield 10, 3) := by decide +kernel
theorem dX5_empties_4 : decode cX5_empties 4 = .ok (.getfield 55, 3) := by decide +kernel
theorem dX5_empties_7 : decode cX5_empties 7 = .ok (.istore_n 1, 1) := by decide +kernel
theorem dX5_empties_8 : decode cX5_empties 8 = .ok (.aload_n 0, 1) := by decide +kernel
theorem dX5_empties_9 : decode cX5_empties 9 = .ok (.getfield 10, 3) := by decide +kernel
theorem dX5_empties_12 : decode cX5_empties 12 = .ok (.invokevirtual 71, 3) := by decide +kernel
theorem dX5_empties_15 : decode cX5_empties 15 = .ok (.aload_n 0, 1) := by decide +kernel
theorem dX5_empties_16 : decode cX5_empties 16 = .ok (.getfield 19, 3) := by decide +kernel
theorem dX5_empties_19 : decode cX5_empties 19 = .ok (.invokevirtual 74, 3) := by decide +kernel
theorem dX5_empties_22 : decode cX5_empties 22 = .ok (.iload_n 1, 1) := by decide +kernel
theorem dX5_empties_23 : decode cX5_empties 23 = .ok (.ireturn, 1) := by decide +kernel
theorem dX5_draw_0 : decode cX5_draw 0 = .ok (.iload_n 1, 1) := by decide +kernel
theorem dX5_draw_1 : decode cX5_draw 1 = .ok (.invokestatic 77, 3) := by decide +kernel
theorem dX5_draw_4 : decode cX5_draw 4 = .ok (.ifCond .eq 13, 3) := by decide +kernel
theorem dX5_draw_7 : decode cX5_draw 7 = .ok (.iload_n 2, 1) := by decide +kernel
theorem dX5_draw_8 : decode cX5_draw 8 = .ok (.ifCond .lt 9, 3) := by decide +kernel
theorem dX5_draw_11 : decode cX5_draw 11 = .ok (.iload_n 2, 1) := by decide +kernel
theorem dX5_draw_12 : decode cX5_draw 12 = .ok (.bipush 12, 2) := by decide +kernel
theorem dX5_draw_14 : decode cX5_draw 14 = .ok (.if_icmp .le 10, 3) := by decide +kernel
theorem dX5_draw_17 : decode cX5_draw 17 = .ok (.aload_n 0, 1) := by decide +kernel
theorem dX5_draw_18 : decode cX5_draw 18 = .ok (.bipush (-2), 2) := by decide +kernel
theorem dX5_draw_20 : decode cX5_draw 20 = .ok (.invokevirtual 51, 3) := by decide +kernel
theorem dX5_draw_23 : decode cX5_draw 23 = .ok (.ireturn, 1) := by decide +kernel
theorem dX5_draw_24 : decode cX5_draw 24 = .ok (.aload_n 0, 1) := by decide +kernel
theorem dX5_draw_25 : decode cX5_draw 25 = .ok (.getfield 10, 3) := by decide +kernel
theorem dX5_draw_28 : decode cX5_draw 28 = .ok (.invokevirtual 71, 3) := by decide +kernel
theorem dX5_draw_31 : decode cX5_draw 31 = .ok (.aload_n 0, 1) := by decide +kernel
theorem dX5_draw_32 : decode cX5_draw 32 = .ok (.getfield 19, 3) := by decide +kernel
theorem dX5_draw_35 : decode cX5_draw 35 = .ok (.invokevirtual 74, 3) := by decide +kernel
theorem dX5_draw_38 : decode cX5_draw 38 = .ok (.iload_n 1, 1) := by decide +kernel
theorem dX5_draw_39 : decode cX5_draw 39 = .ok (.i2l, 1) := by decide +kernel
theorem dX5_draw_40 : decode cX5_draw 40 = .ok (.lstore_n 3, 1) := by decide +kernel
theorem dX5_draw_41 : decode cX5_draw 41 = .ok (.iconst 0, 1) := by decide +kernel
theorem dX5_draw_42 : decode cX5_draw 42 = .ok (.istore 5, 2) := by decide +kernel
theorem dX5_draw_44 : decode cX5_draw 44 = .ok (.iload 5, 2) := by decide +kernel
theorem dX5_draw_46 : decode cX5_draw 46 = .ok (.iload_n 2, 1) := by decide +kernel
theorem dX5_draw_47 : decode cX5_draw 47 = .ok (.if_icmp .ge 72, 3) := by decide +kernel
theorem dX5_draw_50 : decode cX5_draw 50 = .ok (.lload_n 3, 1) := by decide +kernel
theorem dX5_draw_51 : decode cX5_draw 51 = .ok (.invokestatic 80, 3) := by decide +kernel
theorem dX5_draw_54 : decode cX5_draw 54 = .ok (.lstore_n 3, 1) := by decide +kernel
theorem dX5_draw_55 : decode cX5_draw 55 = .ok (.aload_n 0, 1) := by decide +kernel
theorem dX5_draw_56 : decode cX5_draw 56 = .ok (.getfield 10, 3) := by decide +kernel
theorem dX5_draw_59 : decode cX5_draw 59 = .ok (.lload_n 3, 1) := by decide +kernel
theorem dX5_draw_60 : decode cX5_draw 60 = .ok (.ldc2_w 84, 3) := by decide +kernel
theorem dX5_draw_63 : decode cX5_draw 63 = .ok (.ldiv, 1) := by decide +kernel
theorem dX5_draw_64 : decode cX5_draw 64 = .ok (.ldc2_w 86, 3) := by decide +kernel
theorem dX5_draw_67 : decode cX5_draw 67 = .ok (.lrem, 1) := by decide +kernel
theorem dX5_draw_68 : decode cX5_draw 68 = .ok (.l2i, 1) := by decide +kernel
theorem dX5_draw_69 : decode cX5_draw 69 = .ok (.lload_n 3, 1) := by decide +kernel
theorem dX5_draw_70 : decode cX5_draw 70 = .ok (.ldc2_w 88, 3) := by decide +kernel
theorem dX5_draw_73 : decode cX5_draw 73 = .ok (.ldiv, 1) := by decide +kernel
theorem dX5_draw_74 : decode cX5_draw 74 = .ok (.ldc2_w 90, 3) := by decide +kernel
theorem dX5_draw_77 : decode cX5_draw 77 = .ok (.lrem, 1) := by decide +kernel
theorem dX5_draw_78 : decode cX5_draw 78 = .ok (.l2i, 1) := by decide +kernel
theorem dX5_draw_79 : decode cX5_draw 79 = .ok (.lload_n 3, 1) := by decide +kernel
theorem dX5_draw_80 : decode cX5_draw 80 = .ok (.ldc2_w 92, 3) := by decide +kernel
theorem dX5_draw_83 : decode cX5_draw 83 = .ok (.ldiv, 1) := by decide +kernel
theorem dX5_draw_84 : decode cX5_draw 84 = .ok (.ldc2_w 94, 3) := by decide +kernel
theorem dX5_draw_87 : decode cX5_draw 87 = .ok (.lrem, 1) := by decide +kernel
theorem dX5_draw_88 : decode cX5_draw 88 = .ok (.l2i, 1) := by decide +kernel
theorem dX5_draw_89 : decode cX5_draw 89 = .ok (.lload_n 3, 1) := by decide +kernel
theorem dX5_draw_90 : decode cX5_draw 90 = .ok (.ldc2_w 96, 3) := by decide +kernel
theorem dX5_draw_93 : decode cX5_draw 93 = .ok (.ldiv, 1) := by decide +kernel
theorem dX5_draw_94 : decode cX5_draw 94 = .ok (.ldc2_w 90, 3) := by decide +kernel
theorem dX5_draw_97 : decode cX5_draw 97 = .ok (.lrem, 1) := by decide +kernel
theorem dX5_draw_98 : decode cX5_draw 98 = .ok (.l2i, 1) := by decide +kernel
theorem dX5_draw_99 : decode cX5_draw 99 = .ok (.lload_n 3, 1) := by decide +kernel
theorem dX5_draw_100 : decode cX5_draw 100 = .ok (.ldc2_w 98, 3) := by decide +kernel
theorem dX5_draw_103 : decode cX5_draw 103 = .ok (.ldiv, 1) := by decide +kernel
theorem dX5_draw_104 : decode cX5_draw 104 = .ok (.ldc2_w 90, 3) := by decide +kernel
theorem dX5_draw_107 : decode cX5_draw 107 = .ok (.lrem, 1) := by decide +kernel
theorem dX5_draw_108 : decode cX5_draw 108 = .ok (.l2i, 1) := by decide +kernel
theorem dX5_draw_109 : decode cX5_draw 109 = .ok (.invokevirtual 59, 3) := by decide +kernel
theorem dX5_draw_112 : decode cX5_draw 112 = .ok (.pop, 1) := by decide +kernel
theorem dX5_draw_113 : decode cX5_draw 113 = .ok (.iinc 5 1, 3) := by decide +kernel
theorem dX5_draw_116 : decode cX5_draw 116 = .ok (.goto (-72), 3) := by decide +kernel
theorem dX5_draw_119 : decode cX5_draw 119 = .ok (.aload_n 0, 1) := by decide +kernel
theorem dX5_draw_120 : decode cX5_draw 120 = .ok (.getfield 10, 3) := by decide +kernel
theorem dX5_draw_123 : decode cX5_draw 123 = .ok (.iconst 0, 1) := by decide +kernel
theorem dX5_draw_124 : decode cX5_draw 124 = .ok (.invokevirtual 100, 3) := by decide +kernel
theorem dX5_draw_127 : decode cX5_draw 127 = .ok (.ireturn, 1) := by decide +kernel
theorem dX5_of_0 : decode cX5_of 0 = .ok (.aload_n 0, 1) := by decide +kernel
theorem dX5_of_1 : decode cX5_of 1 = .ok (.getfield 10, 3) := by decide +kernel
theorem dX5_of_4 : decode cX5_of 4 = .ok (.iload_n 1, 1) := by decide +kernel
theorem dX5_of_5 : decode cX5_of 5 = .ok (.invokevirtual 63, 3) := by decide +kernel
theorem dX5_of_8 : decode cX5_of 8 = .ok (.ifCond .eq 12, 3) := by decide +kernel
theorem dX5_of_11 : decode cX5_of 11 = .ok (.iload_n 2, 1) := by decide +kernel
theorem dX5_of_12 : decode cX5_of 12 = .ok (.ifCond .lt 8, 3) := by decide +kernel
theorem dX5_of_15 : decode cX5_of 15 = .ok (.iload_n 2, 1) := by decide +kernel
theorem dX5_of_16 : decode cX5_of 16 = .ok (.iconst 5, 1) := by decide +kernel
theorem dX5_of_17 : decode cX5_of 17 = .ok (.if_icmp .le 10, 3) := by decide +kernel
theorem dX5_of_20 : decode cX5_of 20 = .ok (.aload_n 0, 1) := by decide +kernel
theorem dX5_of_21 : decode cX5_of 21 = .ok (.bipush (-2), 2) := by decide +kernel
theorem dX5_of_23 : decode cX5_of 23 = .ok (.invokevirtual 51, 3) := by decide +kernel
theorem dX5_of_26 : decode cX5_of 26 = .ok (.ireturn, 1) := by decide +kernel
theorem dX5_of_27 : decode cX5_of 27 = .ok (.aload_n 0, 1) := by decide +kernel
theorem dX5_of_28 : decode cX5_of 28 = .ok (.iload_n 1, 1) := by decide +kernel
theorem dX5_of_29 : decode cX5_of 29 = .ok (.iload_n 2, 1) := by decide +kernel
theorem dX5_of_30 : decode cX5_of 30 = .ok (.invokevirtual 103, 3) := by decide +kernel
theorem dX5_of_33 : decode cX5_of 33 = .ok (.ireturn, 1) := by decide +kernel
theorem dX5_all_0 : decode cX5_all 0 = .ok (.iload_n 1, 1) := by decide +kernel
theorem dX5_all_1 : decode cX5_all 1 = .ok (.tableswitch 66 0 3 #[31, 40, 49, 58], 31) := by decide +kernel
theorem dX5_all_32 : decode cX5_all 32 = .ok (.aload_n 0, 1) := by decide +kernel
theorem dX5_all_33 : decode cX5_all 33 = .ok (.getfield 10, 3) := by decide +kernel
theorem dX5_all_36 : decode cX5_all 36 = .ok (.iconst 0, 1) := by decide +kernel
theorem dX5_all_37 : decode cX5_all 37 = .ok (.invokevirtual 100, 3) := by decide +kernel
theorem dX5_all_40 : decode cX5_all 40 = .ok (.ireturn, 1) := by decide +kernel
theorem dX5_all_41 : decode cX5_all 41 = .ok (.aload_n 0, 1) := by decide +kernel
theorem dX5_all_42 : decode cX5_all 42 = .ok (.getfield 10, 3) := by decide +kernel
theorem dX5_all_45 : decode cX5_all 45 = .ok (.iconst 3, 1) := by decide +kernel
theorem dX5_all_46 : decode cX5_all 46 = .ok (.invokevirtual 100, 3) := by decide +kernel
theorem dX5_all_49 : decode cX5_all 49 = .ok (.ireturn, 1) := by decide +kernel
theorem dX5_all_50 : decode cX5_all 50 = .ok (.aload_n 0, 1) := by decide +kernel
theorem dX5_all_51 : decode cX5_all 51 = .ok (.getfield 10, 3) := by decide +kernel
theorem dX5_all_54 : decode cX5_all 54 = .ok (.iconst 4, 1) := by decide +kernel
theorem dX5_all_55 : decode cX5_all 55 = .ok (.invokevirtual 100, 3) := by decide +kernel
theorem dX5_all_58 : decode cX5_all 58 = .ok (.ireturn, 1) := by decide +kernel
theorem dX5_all_59 : decode cX5_all 59 = .ok (.aload_n 0, 1) := by decide +kernel
theorem dX5_all_60 : decode cX5_all 60 = .ok (.getfield 10, 3) := by decide +kernel
theorem dX5_all_63 : decode cX5_all 63 = .ok (.invokevirtual 107, 3) := by decide +kernel
theorem dX5_all_66 : decode cX5_all 66 = .ok (.ireturn, 1) := by decide +kernel
theorem dX5_all_67 : decode cX5_all 67 = .ok (.aload_n 0, 1) := by decide +kernel
theorem dX5_all_68 : decode cX5_all 68 = .ok (.bipush (-2), 2) := by decide +kernel
theorem dX5_all_70 : decode cX5_all 70 = .ok (.invokevirtual 51, 3) := by decide +kernel
theorem dX5_all_73 : decode cX5_all 73 = .ok (.ireturn, 1) := by decide +kernel
theorem dX5_method_0 : decode cX5_method 0 = .ok (.iload_n 1, 1) := by decide +kernel
theorem dX5_method_1 : decode cX5_method 1 = .ok (.ifCond .lt 8, 3) := by decide +kernel
theorem dX5_method_4 : decode cX5_method 4 = .ok (.iload_n 1, 1) := by decide +kernel
theorem dX5_method_5 : decode cX5_method 5 = .ok (.iconst 5, 1) := by decide +kernel
theorem dX5_method_6 : decode cX5_method 6 = .ok (.if_icmp .lt 10, 3) := by decide +kernel
theorem dX5_method_9 : decode cX5_method 9 = .ok (.aload_n 0, 1) := by decide +kernel
theorem dX5_method_10 : decode cX5_method 10 = .ok (.bipush (-2), 2) := by decide +kernel
theorem dX5_method_12 : decode cX5_method 12 = .ok (.invokevirtual 51, 3) := by decide +kernel
theorem dX5_method_15 : decode cX5_method 15 = .ok (.ireturn, 1) := by decide +kernel
theorem dX5_method_16 : decode cX5_method 16 = .ok (.aload_n 0, 1) := by decide +kernel
theorem dX5_method_17 : decode cX5_method 17 = .ok (.iload_n 1, 1) := by decide +kernel
theorem dX5_method_18 : decode cX5_method 18 = .ok (.invokevirtual 111, 3) := by decide +kernel
theorem dX5_method_21 : decode cX5_method 21 = .ok (.ireturn, 1) := by decide +kernel
theorem dX5_walk_0 : decode cX5_walk 0 = .ok (.iload_n 1, 1) := by decide +kernel
theorem dX5_walk_1 : decode cX5_walk 1 = .ok (.invokestatic 77, 3) := by decide +kernel
theorem dX5_walk_4 : decode cX5_walk 4 = .ok (.ifCond .ne 10, 3) := by decide +kernel
theorem dX5_walk_7 : decode cX5_walk 7 = .ok (.aload_n 0, 1) := by decide +kernel
theorem dX5_walk_8 : decode cX5_walk 8 = .ok (.bipush (-2), 2) := by decide +kernel
theorem dX5_walk_10 : decode cX5_walk 10 = .ok (.invokevirtual 51, 3) := by decide +kernel
theorem dX5_walk_13 : decode cX5_walk 13 = .ok (.ireturn, 1) := by decide +kernel
theorem dX5_walk_14 : decode cX5_walk 14 = .ok (.aload_n 0, 1) := by decide +kernel
theorem dX5_walk_15 : decode cX5_walk 15 = .ok (.getfield 19, 3) := by decide +kernel
theorem dX5_walk_18 : decode cX5_walk 18 = .ok (.aload_n 0, 1) := by decide +kernel
theorem dX5_walk_19 : decode cX5_walk 19 = .ok (.getfield 10, 3) := by decide +kernel
theorem dX5_walk_22 : decode cX5_walk 22 = .ok (.aload_n 0, 1) := by decide +kernel
theorem dX5_walk_23 : decode cX5_walk 23 = .ok (.getfield 114, 3) := by decide +kernel
theorem dX5_walk_26 : decode cX5_walk 26 = .ok (.iload_n 1, 1) := by decide +kernel
theorem dX5_walk_27 : decode cX5_walk 27 = .ok (.invokevirtual 117, 3) := by decide +kernel
theorem dX5_walk_30 : decode cX5_walk 30 = .ok (.aload_n 0, 1) := by decide +kernel
theorem dX5_walk_31 : decode cX5_walk 31 = .ok (.getfield 19, 3) := by decide +kernel
theorem dX5_walk_34 : decode cX5_walk 34 = .ok (.getfield 121, 3) := by decide +kernel
theorem dX5_walk_37 : decode cX5_walk 37 = .ok (.invokestatic 124, 3) := by decide +kernel
theorem dX5_walk_40 : decode cX5_walk 40 = .ok (.ireturn, 1) := by decide +kernel
theorem dX5_was_0 : decode cX5_was 0 = .ok (.iload_n 1, 1) := by decide +kernel
theorem dX5_was_1 : decode cX5_was 1 = .ok (.ifCond .lt 8, 3) := by decide +kernel
theorem dX5_was_4 : decode cX5_was 4 = .ok (.iload_n 1, 1) := by decide +kernel
theorem dX5_was_5 : decode cX5_was 5 = .ok (.iconst 3, 1) := by decide +kernel
theorem dX5_was_6 : decode cX5_was 6 = .ok (.if_icmp .le 10, 3) := by decide +kernel
theorem dX5_was_9 : decode cX5_was 9 = .ok (.aload_n 0, 1) := by decide +kernel
theorem dX5_was_10 : decode cX5_was 10 = .ok (.bipush (-2), 2) := by decide +kernel
theorem dX5_was_12 : decode cX5_was 12 = .ok (.invokevirtual 51, 3) := by decide +kernel
theorem dX5_was_15 : decode cX5_was 15 = .ok (.ireturn, 1) := by decide +kernel
theorem dX5_was_16 : decode cX5_was 16 = .ok (.aload_n 0, 1) := by decide +kernel
theorem dX5_was_17 : decode cX5_was 17 = .ok (.getfield 19, 3) := by decide +kernel
theorem dX5_was_20 : decode cX5_was 20 = .ok (.iload_n 1, 1) := by decide +kernel
theorem dX5_was_21 : decode cX5_was 21 = .ok (.invokevirtual 129, 3) := by decide +kernel
theorem dX5_was_24 : decode cX5_was 24 = .ok (.ireturn, 1) := by decide +kernel
theorem dX5_play_0 : decode cX5_play 0 = .ok (.iload_n 1, 1) := by decide +kernel
theorem dX5_play_1 : decode cX5_play 1 = .ok (.ifCond .lt 12, 3) := by decide +kernel
theorem dX5_play_4 : decode cX5_play 4 = .ok (.iload_n 2, 1) := by decide +kernel
theorem dX5_play_5 : decode cX5_play 5 = .ok (.ifCond .lt 8, 3) := by decide +kernel
theorem dX5_play_8 : decode cX5_play 8 = .ok (.iload_n 2, 1) := by decide +kernel
theorem dX5_play_9 : decode cX5_play 9 = .ok (.iconst 2, 1) := by decide +kernel
theorem dX5_play_10 : decode cX5_play 10 = .ok (.if_icmp .le 10, 3) := by decide +kernel
theorem dX5_play_13 : decode cX5_play 13 = .ok (.aload_n 0, 1) := by decide +kernel
theorem dX5_play_14 : decode cX5_play 14 = .ok (.bipush (-2), 2) := by decide +kernel
theorem dX5_play_16 : decode cX5_play 16 = .ok (.invokevirtual 51, 3) := by decide +kernel
theorem dX5_play_19 : decode cX5_play 19 = .ok (.ireturn, 1) := by decide +kernel
theorem dX5_play_20 : decode cX5_play 20 = .ok (.aload_n 0, 1) := by decide +kernel
theorem dX5_play_21 : decode cX5_play 21 = .ok (.getfield 19, 3) := by decide +kernel
theorem dX5_play_24 : decode cX5_play 24 = .ok (.iload_n 1, 1) := by decide +kernel
theorem dX5_play_25 : decode cX5_play 25 = .ok (.iload_n 2, 1) := by decide +kernel
theorem dX5_play_26 : decode cX5_play 26 = .ok (.invokevirtual 132, 3) := by decide +kernel
theorem dX5_play_29 : decode cX5_play 29 = .ok (.ireturn, 1) := by decide +kernel
theorem dX5_counted_0 : decode cX5_counted 0 = .ok (.iload_n 1, 1) := by decide +kernel
theorem dX5_counted_1 : decode cX5_counted 1 = .ok (.tableswitch 74 0 2 #[27, 43, 59], 27) := by decide +kernel
theorem dX5_counted_28 : decode cX5_counted 28 = .ok (.aload_n 0, 1) := by decide +kernel
theorem dX5_counted_29 : decode cX5_counted 29 = .ok (.getfield 10, 3) := by decide +kernel
theorem dX5_counted_32 : decode cX5_counted 32 = .ok (.aload_n 0, 1) := by decide +kernel
theorem dX5_counted_33 : decode cX5_counted 33 = .ok (.getfield 19, 3) := by decide +kernel
theorem dX5_counted_36 : decode cX5_counted 36 = .ok (.getfield 121, 3) := by decide +kernel
theorem dX5_counted_39 : decode cX5_counted 39 = .ok (.iconst 4, 1) := by decide +kernel
theorem dX5_counted_40 : decode cX5_counted 40 = .ok (.invokevirtual 135, 3) := by decide +kernel
theorem dX5_counted_43 : decode cX5_counted 43 = .ok (.lreturn, 1) := by decide +kernel
theorem dX5_counted_44 : decode cX5_counted 44 = .ok (.aload_n 0, 1) := by decide +kernel
theorem dX5_counted_45 : decode cX5_counted 45 = .ok (.getfield 10, 3) := by decide +kernel
theorem dX5_counted_48 : decode cX5_counted 48 = .ok (.aload_n 0, 1) := by decide +kernel
theorem dX5_counted_49 : decode cX5_counted 49 = .ok (.getfield 19, 3) := by decide +kernel
theorem dX5_counted_52 : decode cX5_counted 52 = .ok (.getfield 121, 3) := by decide +kernel
theorem dX5_counted_55 : decode cX5_counted 55 = .ok (.iconst 3, 1) := by decide +kernel
theorem dX5_counted_56 : decode cX5_counted 56 = .ok (.invokevirtual 135, 3) := by decide +kernel
theorem dX5_counted_59 : decode cX5_counted 59 = .ok (.lreturn, 1) := by decide +kernel
theorem dX5_counted_60 : decode cX5_counted 60 = .ok (.aload_n 0, 1) := by decide +kernel
theorem dX5_counted_61 : decode cX5_counted 61 = .ok (.getfield 10, 3) := by decide +kernel
theorem dX5_counted_64 : decode cX5_counted 64 = .ok (.aload_n 0, 1) := by decide +kernel
theorem dX5_counted_65 : decode cX5_counted 65 = .ok (.getfield 19, 3) := by decide +kernel
theorem dX5_counted_68 : decode cX5_counted 68 = .ok (.getfield 121, 3) := by decide +kernel
theorem dX5_counted_71 : decode cX5_counted 71 = .ok (.invokevirtual 139, 3) := by decide +kernel
theorem dX5_counted_74 : decode cX5_counted 74 = .ok (.lreturn, 1) := by decide +kernel
theorem dX5_counted_75 : decode cX5_counted 75 = .ok (.aload_n 0, 1) := by decide +kernel
theorem dX5_counted_76 : decode cX5_counted 76 = .ok (.bipush (-2), 2) := by decide +kernel
theorem dX5_counted_78 : decode cX5_counted 78 = .ok (.invokevirtual 51, 3) := by decide +kernel
theorem dX5_counted_81 : decode cX5_counted 81 = .ok (.i2l, 1) := by decide +kernel
theorem dX5_counted_82 : decode cX5_counted 82 = .ok (.lreturn, 1) := by decide +kernel
theorem dX5_inside_0 : decode cX5_inside 0 = .ok (.iconst 2, 1) := by decide +kernel
theorem dX5_inside_1 : decode cX5_inside 1 = .ok (.iload_n 1, 1) := by decide +kernel
theorem dX5_inside_2 : decode cX5_inside 2 = .ok (.invokestatic 47, 3) := by decide +kernel
theorem dX5_inside_5 : decode cX5_inside 5 = .ok (.ifCond .ne 10, 3) := by decide +kernel
theorem dX5_inside_8 : decode cX5_inside 8 = .ok (.aload_n 0, 1) := by decide +kernel
theorem dX5_inside_9 : decode cX5_inside 9 = .ok (.bipush (-2), 2) := by decide +kernel
theorem dX5_inside_11 : decode cX5_inside 11 = .ok (.invokevirtual 51, 3) := by decide +kernel
theorem dX5_inside_14 : decode cX5_inside 14 = .ok (.ireturn, 1) := by decide +kernel
theorem dX5_inside_15 : decode cX5_inside 15 = .ok (.iconst 0, 1) := by decide +kernel
theorem dX5_inside_16 : decode cX5_inside 16 = .ok (.istore_n 2, 1) := by decide +kernel
theorem dX5_inside_17 : decode cX5_inside 17 = .ok (.iconst 0, 1) := by decide +kernel
theorem dX5_inside_18 : decode cX5_inside 18 = .ok (.istore_n 3, 1) := by decide +kernel
theorem dX5_inside_19 : decode cX5_inside 19 = .ok (.iload_n 3, 1) := by decide +kernel
theorem dX5_inside_20 : decode cX5_inside 20 = .ok (.aload_n 0, 1) := by decide +kernel
theorem dX5_inside_21 : decode cX5_inside 21 = .ok (.getfield 10, 3) := by decide +kernel
theorem dX5_inside_24 : decode cX5_inside 24 = .ok (.getfield 55, 3) := by decide +kernel
theorem dX5_inside_27 : decode cX5_inside 27 = .ok (.if_icmp .ge 36, 3) := by decide +kernel
theorem dX5_inside_30 : decode cX5_inside 30 = .ok (.aload_n 0, 1) := by decide +kernel
theorem dX5_inside_31 : decode cX5_inside 31 = .ok (.getfield 19, 3) := by decide +kernel
theorem dX5_inside_34 : decode cX5_inside 34 = .ok (.iload_n 3, 1) := by decide +kernel
theorem dX5_inside_35 : decode cX5_inside 35 = .ok (.invokevirtual 143, 3) := by decide +kernel
theorem dX5_inside_38 : decode cX5_inside 38 = .ok (.ifCond .eq 19, 3) := by decide +kernel
theorem dX5_inside_41 : decode cX5_inside 41 = .ok (.aload_n 0, 1) := by decide +kernel
theorem dX5_inside_42 : decode cX5_inside 42 = .ok (.getfield 10, 3) := by decide +kernel
theorem dX5_inside_45 : decode cX5_inside 45 = .ok (.iload_n 3, 1) := by decide +kernel
theorem dX5_inside_46 : decode cX5_inside 46 = .ok (.iconst 2, 1) := by decide +kernel
theorem dX5_inside_47 : decode cX5_inside 47 = .ok (.invokevirtual 146, 3) := by decide +kernel
theorem dX5_inside_50 : decode cX5_inside 50 = .ok (.iload_n 1, 1) := by decide +kernel
theorem dX5_inside_51 : decode cX5_inside 51 = .ok (.if_icmp .ne 6, 3) := by decide +kernel
theorem dX5_inside_54 : decode cX5_inside 54 = .ok (.iinc 2 1, 3) := by decide +kernel
theorem dX5_inside_57 : decode cX5_inside 57 = .ok (.iinc 3 1, 3) := by decide +kernel
theorem dX5_inside_60 : decode cX5_inside 60 = .ok (.goto (-41), 3) := by decide +kernel
theorem dX5_inside_63 : decode cX5_inside 63 = .ok (.iload_n 2, 1) := by decide +kernel
theorem dX5_inside_64 : decode cX5_inside 64 = .ok (.ireturn, 1) := by decide +kernel
theorem dX5_spread_0 : decode cX5_spread 0 = .ok (.iconst (-1), 1) := by decide +kernel
theorem dX5_spread_1 : decode cX5_spread 1 = .ok (.istore_n 1, 1) := by decide +kernel
theorem dX5_spread_2 : decode cX5_spread 2 = .ok (.iconst 0, 1) := by decide +kernel
theorem dX5_spread_3 : decode cX5_spread 3 = .ok (.istore_n 2, 1) := by decide +kernel
theorem dX5_spread_4 : decode cX5_spread 4 = .ok (.iload_n 2, 1) := by decide +kernel
theorem dX5_spread_5 : decode cX5_spread 5 = .ok (.aload_n 0, 1) := by decide +kernel
theorem dX5_spread_6 : decode cX5_spread 6 = .ok (.getfield 10, 3) := by decide +kernel
theorem dX5_spread_9 : decode cX5_spread 9 = .ok (.getfield 55, 3) := by decide +kernel
theorem dX5_spread_12 : decode cX5_spread 12 = .ok (.if_icmp .ge 80, 3) := by decide +kernel
theorem dX5_spread_15 : decode cX5_spread 15 = .ok (.iload_n 2, 1) := by decide +kernel
theorem dX5_spread_16 : decode cX5_spread 16 = .ok (.iconst 1, 1) := by decide +kernel
theorem dX5_spread_17 : decode cX5_spread 17 = .ok (.iadd, 1) := by decide +kernel
theorem dX5_spread_18 : decode cX5_spread 18 = .ok (.istore_n 3, 1) := by decide +kernel
theorem dX5_spread_19 : decode cX5_spread 19 = .ok (.iload_n 3, 1) := by decide +kernel
theorem dX5_spread_20 : decode cX5_spread 20 = .ok (.aload_n 0, 1) := by decide +kernel
theorem dX5_spread_21 : decode cX5_spread 21 = .ok (.getfield 10, 3) := by decide +kernel
theorem dX5_spread_24 : decode cX5_spread 24 = .ok (.getfield 55, 3) := by decide +kernel
theorem dX5_spread_27 : decode cX5_spread 27 = .ok (.if_icmp .ge 59, 3) := by decide +kernel
theorem dX5_spread_30 : decode cX5_spread 30 = .ok (.aload_n 0, 1) := by decide +kernel
theorem dX5_spread_31 : decode cX5_spread 31 = .ok (.getfield 19, 3) := by decide +kernel
theorem dX5_spread_34 : decode cX5_spread 34 = .ok (.iload_n 2, 1) := by decide +kernel
theorem dX5_spread_35 : decode cX5_spread 35 = .ok (.invokevirtual 143, 3) := by decide +kernel
theorem dX5_spread_38 : decode cX5_spread 38 = .ok (.ifCond .eq 42, 3) := by decide +kernel
theorem dX5_spread_41 : decode cX5_spread 41 = .ok (.aload_n 0, 1) := by decide +kernel
theorem dX5_spread_42 : decode cX5_spread 42 = .ok (.getfield 19, 3) := by decide +kernel
theorem dX5_spread_45 : decode cX5_spread 45 = .ok (.iload_n 3, 1) := by decide +kernel
theorem dX5_spread_46 : decode cX5_spread 46 = .ok (.invokevirtual 143, 3) := by decide +kernel
theorem dX5_spread_49 : decode cX5_spread 49 = .ok (.ifCond .eq 31, 3) := by decide +kernel
theorem dX5_spread_52 : decode cX5_spread 52 = .ok (.aload_n 0, 1) := by decide +kernel
theorem dX5_spread_53 : decode cX5_spread 53 = .ok (.getfield 10, 3) := by decide +kernel
theorem dX5_spread_56 : decode cX5_spread 56 = .ok (.iload_n 2, 1) := by decide +kernel
theorem dX5_spread_57 : decode cX5_spread 57 = .ok (.iload_n 3, 1) := by decide +kernel
theorem dX5_spread_58 : decode cX5_spread 58 = .ok (.invokevirtual 149, 3) := by decide +kernel
theorem dX5_spread_61 : decode cX5_spread 61 = .ok (.istore 4, 2) := by decide +kernel
theorem dX5_spread_63 : decode cX5_spread 63 = .ok (.iload_n 1, 1) := by decide +kernel
theorem dX5_spread_64 : decode cX5_spread 64 = .ok (.iconst (-1), 1) := by decide +kernel
theorem dX5_spread_65 : decode cX5_spread 65 = .ok (.if_icmp .ne 8, 3) := by decide +kernel
theorem dX5_spread_68 : decode cX5_spread 68 = .ok (.iload 4, 2) := by decide +kernel
theorem dX5_spread_70 : decode cX5_spread 70 = .ok (.goto 9, 3) := by decide +kernel
theorem dX5_spread_73 : decode cX5_spread 73 = .ok (.iload_n 1, 1) := by decide +kernel
theorem dX5_spread_74 : decode cX5_spread 74 = .ok (.iload 4, 2) := by decide +kernel
theorem dX5_spread_76 : decode cX5_spread 76 = .ok (.invokestatic 152, 3) := by decide +kernel
theorem dX5_spread_79 : decode cX5_spread 79 = .ok (.istore_n 1, 1) := by decide +kernel
theorem dX5_spread_80 : decode cX5_spread 80 = .ok (.iinc 3 1, 3) := by decide +kernel
theorem dX5_spread_83 : decode cX5_spread 83 = .ok (.goto (-64), 3) := by decide +kernel
theorem dX5_spread_86 : decode cX5_spread 86 = .ok (.iinc 2 1, 3) := by decide +kernel
theorem dX5_spread_89 : decode cX5_spread 89 = .ok (.goto (-85), 3) := by decide +kernel
theorem dX5_spread_92 : decode cX5_spread 92 = .ok (.iload_n 1, 1) := by decide +kernel
theorem dX5_spread_93 : decode cX5_spread 93 = .ok (.ireturn, 1) := by decide +kernel
theorem dX5_often_0 : decode cX5_often 0 = .ok (.aload_n 0, 1) := by decide +kernel
theorem dX5_often_1 : decode cX5_often 1 = .ok (.getfield 10, 3) := by decide +kernel
theorem dX5_often_4 : decode cX5_often 4 = .ok (.iload_n 1, 1) := by decide +kernel
theorem dX5_often_5 : decode cX5_often 5 = .ok (.invokevirtual 63, 3) := by decide +kernel
theorem dX5_often_8 : decode cX5_often 8 = .ok (.ifCond .eq 11, 3) := by decide +kernel
theorem dX5_often_11 : decode cX5_often 11 = .ok (.iload_n 2, 1) := by decide +kernel
theorem dX5_often_12 : decode cX5_often 12 = .ok (.iload_n 3, 1) := by decide +kernel
theorem dX5_often_13 : decode cX5_often 13 = .ok (.invokestatic 157, 3) := by decide +kernel
theorem dX5_often_16 : decode cX5_often 16 = .ok (.ifCond .ne 10, 3) := by decide +kernel
theorem dX5_often_19 : decode cX5_often 19 = .ok (.aload_n 0, 1) := by decide +kernel
theorem dX5_often_20 : decode cX5_often 20 = .ok (.bipush (-2), 2) := by decide +kernel
theorem dX5_often_22 : decode cX5_often 22 = .ok (.invokevirtual 51, 3) := by decide +kernel
theorem dX5_often_25 : decode cX5_often 25 = .ok (.ireturn, 1) := by decide +kernel
theorem dX5_often_26 : decode cX5_often 26 = .ok (.aload_n 0, 1) := by decide +kernel
theorem dX5_often_27 : decode cX5_often 27 = .ok (.iconst 1, 1) := by decide +kernel
theorem dX5_often_28 : decode cX5_often 28 = .ok (.iload_n 1, 1) := by decide +kernel
theorem dX5_often_29 : decode cX5_often 29 = .ok (.ishl, 1) := by decide +kernel
theorem dX5_often_30 : decode cX5_often 30 = .ok (.iload_n 2, 1) := by decide +kernel
theorem dX5_often_31 : decode cX5_often 31 = .ok (.iload_n 3, 1) := by decide +kernel
theorem dX5_often_32 : decode cX5_often 32 = .ok (.invokevirtual 160, 3) := by decide +kernel
theorem dX5_often_35 : decode cX5_often 35 = .ok (.ireturn, 1) := by decide +kernel
theorem dX5_both_0 : decode cX5_both 0 = .ok (.aload_n 0, 1) := by decide +kernel
theorem dX5_both_1 : decode cX5_both 1 = .ok (.getfield 10, 3) := by decide +kernel
theorem dX5_both_4 : decode cX5_both 4 = .ok (.iload_n 1, 1) := by decide +kernel
theorem dX5_both_5 : decode cX5_both 5 = .ok (.invokevirtual 63, 3) := by decide +kernel
theorem dX5_both_8 : decode cX5_both 8 = .ok (.ifCond .eq 28, 3) := by decide +kernel
theorem dX5_both_11 : decode cX5_both 11 = .ok (.aload_n 0, 1) := by decide +kernel
theorem dX5_both_12 : decode cX5_both 12 = .ok (.getfield 10, 3) := by decide +kernel
theorem dX5_both_15 : decode cX5_both 15 = .ok (.iload_n 2, 1) := by decide +kernel
theorem dX5_both_16 : decode cX5_both 16 = .ok (.invokevirtual 63, 3) := by decide +kernel
theorem dX5_both_19 : decode cX5_both 19 = .ok (.ifCond .eq 17, 3) := by decide +kernel
theorem dX5_both_22 : decode cX5_both 22 = .ok (.iload_n 1, 1) := by decide +kernel
theorem dX5_both_23 : decode cX5_both 23 = .ok (.iload_n 2, 1) := by decide +kernel
theorem dX5_both_24 : decode cX5_both 24 = .ok (.if_icmp .eq 12, 3) := by decide +kernel
theorem dX5_both_27 : decode cX5_both 27 = .ok (.iload_n 3, 1) := by decide +kernel
theorem dX5_both_28 : decode cX5_both 28 = .ok (.iload 4, 2) := by decide +kernel
theorem dX5_both_30 : decode cX5_both 30 = .ok (.invokestatic 157, 3) := by decide +kernel
theorem dX5_both_33 : decode cX5_both 33 = .ok (.ifCond .ne 10, 3) := by decide +kernel
theorem dX5_both_36 : decode cX5_both 36 = .ok (.aload_n 0, 1) := by decide +kernel
theorem dX5_both_37 : decode cX5_both 37 = .ok (.bipush (-2), 2) := by decide +kernel
theorem dX5_both_39 : decode cX5_both 39 = .ok (.invokevirtual 51, 3) := by decide +kernel
theorem dX5_both_42 : decode cX5_both 42 = .ok (.ireturn, 1) := by decide +kernel
theorem dX5_both_43 : decode cX5_both 43 = .ok (.aload_n 0, 1) := by decide +kernel
theorem dX5_both_44 : decode cX5_both 44 = .ok (.iconst 1, 1) := by decide +kernel
theorem dX5_both_45 : decode cX5_both 45 = .ok (.iload_n 1, 1) := by decide +kernel
theorem dX5_both_46 : decode cX5_both 46 = .ok (.ishl, 1) := by decide +kernel
theorem dX5_both_47 : decode cX5_both 47 = .ok (.iconst 1, 1) := by decide +kernel
theorem dX5_both_48 : decode cX5_both 48 = .ok (.iload_n 2, 1) := by decide +kernel
theorem dX5_both_49 : decode cX5_both 49 = .ok (.ishl, 1) := by decide +kernel
theorem dX5_both_50 : decode cX5_both 50 = .ok (.ior, 1) := by decide +kernel
theorem dX5_both_51 : decode cX5_both 51 = .ok (.iload_n 3, 1) := by decide +kernel
theorem dX5_both_52 : decode cX5_both 52 = .ok (.iload 4, 2) := by decide +kernel
theorem dX5_both_54 : decode cX5_both 54 = .ok (.invokevirtual 160, 3) := by decide +kernel
theorem dX5_both_57 : decode cX5_both 57 = .ok (.ireturn, 1) := by decide +kernel
theorem dX5_best_0 : decode cX5_best 0 = .ok (.iload_n 1, 1) := by decide +kernel
theorem dX5_best_1 : decode cX5_best 1 = .ok (.iload_n 2, 1) := by decide +kernel
theorem dX5_best_2 : decode cX5_best 2 = .ok (.invokestatic 157, 3) := by decide +kernel
theorem dX5_best_5 : decode cX5_best 5 = .ok (.ifCond .eq 12, 3) := by decide +kernel
theorem dX5_best_8 : decode cX5_best 8 = .ok (.iload_n 3, 1) := by decide +kernel
theorem dX5_best_9 : decode cX5_best 9 = .ok (.ifCond .lt 8, 3) := by decide +kernel
theorem dX5_best_12 : decode cX5_best 12 = .ok (.iload_n 3, 1) := by decide +kernel
theorem dX5_best_13 : decode cX5_best 13 = .ok (.iconst 1, 1) := by decide +kernel
theorem dX5_best_14 : decode cX5_best 14 = .ok (.if_icmp .le 11, 3) := by decide +kernel
theorem dX5_best_17 : decode cX5_best 17 = .ok (.aload_n 0, 1) := by decide +kernel
theorem dX5_best_18 : decode cX5_best 18 = .ok (.bipush (-2), 2) := by decide +kernel
theorem dX5_best_20 : decode cX5_best 20 = .ok (.invokevirtual 51, 3) := by decide +kernel
theorem dX5_best_23 : decode cX5_best 23 = .ok (.i2l, 1) := by decide +kernel
theorem dX5_best_24 : decode cX5_best 24 = .ok (.lreturn, 1) := by decide +kernel
theorem dX5_best_25 : decode cX5_best 25 = .ok (.iload_n 1, 1) := by decide +kernel
theorem dX5_best_26 : decode cX5_best 26 = .ok (.istore 4, 2) := by decide +kernel
theorem dX5_best_28 : decode cX5_best 28 = .ok (.ldc2_w 163, 3) := by decide +kernel
theorem dX5_best_31 : decode cX5_best 31 = .ok (.lstore 5, 2) := by decide +kernel
theorem dX5_best_33 : decode cX5_best 33 = .ok (.iconst 0, 1) := by decide +kernel
theorem dX5_best_34 : decode cX5_best 34 = .ok (.istore 7, 2) := by decide +kernel
theorem dX5_best_36 : decode cX5_best 36 = .ok (.iload 7, 2) := by decide +kernel
theorem dX5_best_38 : decode cX5_best 38 = .ok (.iload_n 2, 1) := by decide +kernel
theorem dX5_best_39 : decode cX5_best 39 = .ok (.if_icmp .ge 71, 3) := by decide +kernel
theorem dX5_best_42 : decode cX5_best 42 = .ok (.aload_n 0, 1) := by decide +kernel
theorem dX5_best_43 : decode cX5_best 43 = .ok (.getfield 23, 3) := by decide +kernel
theorem dX5_best_46 : decode cX5_best 46 = .ok (.aload_n 0, 1) := by decide +kernel
theorem dX5_best_47 : decode cX5_best 47 = .ok (.getfield 10, 3) := by decide +kernel
theorem dX5_best_50 : decode cX5_best 50 = .ok (.aload_n 0, 1) := by decide +kernel
theorem dX5_best_51 : decode cX5_best 51 = .ok (.getfield 114, 3) := by decide +kernel
theorem dX5_best_54 : decode cX5_best 54 = .ok (.iload_n 1, 1) := by decide +kernel
theorem dX5_best_55 : decode cX5_best 55 = .ok (.iload 7, 2) := by decide +kernel
theorem dX5_best_57 : decode cX5_best 57 = .ok (.iadd, 1) := by decide +kernel
theorem dX5_best_58 : decode cX5_best 58 = .ok (.invokevirtual 117, 3) := by decide +kernel
theorem dX5_best_61 : decode cX5_best 61 = .ok (.aload_n 0, 1) := by decide +kernel
theorem dX5_best_62 : decode cX5_best 62 = .ok (.getfield 10, 3) := by decide +kernel
theorem dX5_best_65 : decode cX5_best 65 = .ok (.aload_n 0, 1) := by decide +kernel
theorem dX5_best_66 : decode cX5_best 66 = .ok (.getfield 23, 3) := by decide +kernel
theorem dX5_best_69 : decode cX5_best 69 = .ok (.getfield 121, 3) := by decide +kernel
theorem dX5_best_72 : decode cX5_best 72 = .ok (.invokevirtual 139, 3) := by decide +kernel
theorem dX5_best_75 : decode cX5_best 75 = .ok (.lstore 8, 2) := by decide +kernel
theorem dX5_best_77 : decode cX5_best 77 = .ok (.lload 5, 2) := by decide +kernel
theorem dX5_best_79 : decode cX5_best 79 = .ok (.ldc2_w 163, 3) := by decide +kernel
theorem dX5_best_82 : decode cX5_best 82 = .ok (.lcmp, 1) := by decide +kernel
theorem dX5_best_83 : decode cX5_best 83 = .ok (.ifCond .eq 11, 3) := by decide +kernel
theorem dX5_best_86 : decode cX5_best 86 = .ok (.lload 8, 2) := by decide +kernel
theorem dX5_best_88 : decode cX5_best 88 = .ok (.lload 5, 2) := by decide +kernel
theorem dX5_best_90 : decode cX5_best 90 = .ok (.lcmp, 1) := by decide +kernel
theorem dX5_best_91 : decode cX5_best 91 = .ok (.ifCond .ge 13, 3) := by decide +kernel
theorem dX5_best_94 : decode cX5_best 94 = .ok (.lload 8, 2) := by decide +kernel
theorem dX5_best_96 : decode cX5_best 96 = .ok (.lstore 5, 2) := by decide +kernel
theorem dX5_best_98 : decode cX5_best 98 = .ok (.iload_n 1, 1) := by decide +kernel
theorem dX5_best_99 : decode cX5_best 99 = .ok (.iload 7, 2) := by decide +kernel
theorem dX5_best_101 : decode cX5_best 101 = .ok (.iadd, 1) := by decide +kernel
theorem dX5_best_102 : decode cX5_best 102 = .ok (.istore 4, 2) := by decide +kernel
theorem dX5_best_104 : decode cX5_best 104 = .ok (.iinc 7 1, 3) := by decide +kernel
theorem dX5_best_107 : decode cX5_best 107 = .ok (.goto (-71), 3) := by decide +kernel
theorem dX5_best_110 : decode cX5_best 110 = .ok (.iload_n 3, 1) := by decide +kernel
theorem dX5_best_111 : decode cX5_best 111 = .ok (.ifCond .ne 9, 3) := by decide +kernel
theorem dX5_best_114 : decode cX5_best 114 = .ok (.iload 4, 2) := by decide +kernel
theorem dX5_best_116 : decode cX5_best 116 = .ok (.i2l, 1) := by decide +kernel
theorem dX5_best_117 : decode cX5_best 117 = .ok (.goto 5, 3) := by decide +kernel
theorem dX5_best_120 : decode cX5_best 120 = .ok (.lload 5, 2) := by decide +kernel
theorem dX5_best_122 : decode cX5_best 122 = .ok (.lreturn, 1) := by decide +kernel
theorem dX5_many_0 : decode cX5_many 0 = .ok (.aload_n 0, 1) := by decide +kernel
theorem dX5_many_1 : decode cX5_many 1 = .ok (.getfield 29, 3) := by decide +kernel
theorem dX5_many_4 : decode cX5_many 4 = .ok (.aload_n 0, 1) := by decide +kernel
theorem dX5_many_5 : decode cX5_many 5 = .ok (.getfield 10, 3) := by decide +kernel
theorem dX5_many_8 : decode cX5_many 8 = .ok (.aload_n 0, 1) := by decide +kernel
theorem dX5_many_9 : decode cX5_many 9 = .ok (.getfield 114, 3) := by decide +kernel
theorem dX5_many_12 : decode cX5_many 12 = .ok (.aload_n 0, 1) := by decide +kernel
theorem dX5_many_13 : decode cX5_many 13 = .ok (.getfield 23, 3) := by decide +kernel
theorem dX5_many_16 : decode cX5_many 16 = .ok (.invokevirtual 165, 3) := by decide +kernel
theorem dX5_many_19 : decode cX5_many 19 = .ok (.aload_n 0, 1) := by decide +kernel
theorem dX5_many_20 : decode cX5_many 20 = .ok (.getfield 29, 3) := by decide +kernel
theorem dX5_many_23 : decode cX5_many 23 = .ok (.invokevirtual 169, 3) := by decide +kernel
theorem dX5_many_26 : decode cX5_many 26 = .ok (.ireturn, 1) := by decide +kernel
theorem dX5_sizes_0 : decode cX5_sizes 0 = .ok (.iload_n 1, 1) := by decide +kernel
theorem dX5_sizes_1 : decode cX5_sizes 1 = .ok (.ifCond .lt 8, 3) := by decide +kernel
theorem dX5_sizes_4 : decode cX5_sizes 4 = .ok (.iload_n 1, 1) := by decide +kernel
theorem dX5_sizes_5 : decode cX5_sizes 5 = .ok (.iconst 1, 1) := by decide +kernel
theorem dX5_sizes_6 : decode cX5_sizes 6 = .ok (.if_icmp .le 10, 3) := by decide +kernel
theorem dX5_sizes_9 : decode cX5_sizes 9 = .ok (.aload_n 0, 1) := by decide +kernel
theorem dX5_sizes_10 : decode cX5_sizes 10 = .ok (.bipush (-2), 2) := by decide +kernel
theorem dX5_sizes_12 : decode cX5_sizes 12 = .ok (.invokevirtual 51, 3) := by decide +kernel
theorem dX5_sizes_15 : decode cX5_sizes 15 = .ok (.ireturn, 1) := by decide +kernel
theorem dX5_sizes_16 : decode cX5_sizes 16 = .ok (.aload_n 0, 1) := by decide +kernel
theorem dX5_sizes_17 : decode cX5_sizes 17 = .ok (.getfield 29, 3) := by decide +kernel
theorem dX5_sizes_20 : decode cX5_sizes 20 = .ok (.aload_n 0, 1) := by decide +kernel
theorem dX5_sizes_21 : decode cX5_sizes 21 = .ok (.getfield 10, 3) := by decide +kernel
theorem dX5_sizes_24 : decode cX5_sizes 24 = .ok (.aload_n 0, 1) := by decide +kernel
theorem dX5_sizes_25 : decode cX5_sizes 25 = .ok (.getfield 114, 3) := by decide +kernel
theorem dX5_sizes_28 : decode cX5_sizes 28 = .ok (.aload_n 0, 1) := by decide +kernel
theorem dX5_sizes_29 : decode cX5_sizes 29 = .ok (.getfield 23, 3) := by decide +kernel
theorem dX5_sizes_32 : decode cX5_sizes 32 = .ok (.invokevirtual 165, 3) := by decide +kernel
theorem dX5_sizes_35 : decode cX5_sizes 35 = .ok (.iload_n 1, 1) := by decide +kernel
theorem dX5_sizes_36 : decode cX5_sizes 36 = .ok (.ifCond .ne 13, 3) := by decide +kernel
theorem dX5_sizes_39 : decode cX5_sizes 39 = .ok (.aload_n 0, 1) := by decide +kernel
theorem dX5_sizes_40 : decode cX5_sizes 40 = .ok (.getfield 29, 3) := by decide +kernel
theorem dX5_sizes_43 : decode cX5_sizes 43 = .ok (.invokevirtual 172, 3) := by decide +kernel
theorem dX5_sizes_46 : decode cX5_sizes 46 = .ok (.goto 10, 3) := by decide +kernel
theorem dX5_sizes_49 : decode cX5_sizes 49 = .ok (.aload_n 0, 1) := by decide +kernel
theorem dX5_sizes_50 : decode cX5_sizes 50 = .ok (.getfield 29, 3) := by decide +kernel
theorem dX5_sizes_53 : decode cX5_sizes 53 = .ok (.invokevirtual 175, 3) := by decide +kernel
theorem dX5_sizes_56 : decode cX5_sizes 56 = .ok (.ireturn, 1) := by decide +kernel
theorem dX5_can_0 : decode cX5_can 0 = .ok (.aload_n 0, 1) := by decide +kernel
theorem dX5_can_1 : decode cX5_can 1 = .ok (.getfield 10, 3) := by decide +kernel
theorem dX5_can_4 : decode cX5_can 4 = .ok (.iload_n 1, 1) := by decide +kernel
theorem dX5_can_5 : decode cX5_can 5 = .ok (.invokevirtual 63, 3) := by decide +kernel
theorem dX5_can_8 : decode cX5_can 8 = .ok (.ifCond .eq 14, 3) := by decide +kernel
theorem dX5_can_11 : decode cX5_can 11 = .ok (.aload_n 0, 1) := by decide +kernel
theorem dX5_can_12 : decode cX5_can 12 = .ok (.getfield 10, 3) := by decide +kernel
theorem dX5_can_15 : decode cX5_can 15 = .ok (.iload_n 2, 1) := by decide +kernel
theorem dX5_can_16 : decode cX5_can 16 = .ok (.invokevirtual 63, 3) := by decide +kernel
theorem dX5_can_19 : decode cX5_can 19 = .ok (.ifCond .ne 10, 3) := by decide +kernel
theorem dX5_can_22 : decode cX5_can 22 = .ok (.aload_n 0, 1) := by decide +kernel
theorem dX5_can_23 : decode cX5_can 23 = .ok (.bipush (-2), 2) := by decide +kernel
theorem dX5_can_25 : decode cX5_can 25 = .ok (.invokevirtual 51, 3) := by decide +kernel
theorem dX5_can_28 : decode cX5_can 28 = .ok (.ireturn, 1) := by decide +kernel
theorem dX5_can_29 : decode cX5_can 29 = .ok (.aload_n 0, 1) := by decide +kernel
theorem dX5_can_30 : decode cX5_can 30 = .ok (.getfield 29, 3) := by decide +kernel
theorem dX5_can_33 : decode cX5_can 33 = .ok (.aload_n 0, 1) := by decide +kernel
theorem dX5_can_34 : decode cX5_can 34 = .ok (.getfield 10, 3) := by decide +kernel
theorem dX5_can_37 : decode cX5_can 37 = .ok (.aload_n 0, 1) := by decide +kernel
theorem dX5_can_38 : decode cX5_can 38 = .ok (.getfield 114, 3) := by decide +kernel
theorem dX5_can_41 : decode cX5_can 41 = .ok (.aload_n 0, 1) := by decide +kernel
theorem dX5_can_42 : decode cX5_can 42 = .ok (.getfield 23, 3) := by decide +kernel
theorem dX5_can_45 : decode cX5_can 45 = .ok (.invokevirtual 165, 3) := by decide +kernel
theorem dX5_can_48 : decode cX5_can 48 = .ok (.aload_n 0, 1) := by decide +kernel
theorem dX5_can_49 : decode cX5_can 49 = .ok (.getfield 29, 3) := by decide +kernel
theorem dX5_can_52 : decode cX5_can 52 = .ok (.iconst 1, 1) := by decide +kernel
theorem dX5_can_53 : decode cX5_can 53 = .ok (.iload_n 1, 1) := by decide +kernel
theorem dX5_can_54 : decode cX5_can 54 = .ok (.ishl, 1) := by decide +kernel
theorem dX5_can_55 : decode cX5_can 55 = .ok (.iconst 1, 1) := by decide +kernel
theorem dX5_can_56 : decode cX5_can 56 = .ok (.iload_n 2, 1) := by decide +kernel
theorem dX5_can_57 : decode cX5_can 57 = .ok (.ishl, 1) := by decide +kernel
theorem dX5_can_58 : decode cX5_can 58 = .ok (.ior, 1) := by decide +kernel
theorem dX5_can_59 : decode cX5_can 59 = .ok (.invokevirtual 178, 3) := by decide +kernel
theorem dX5_can_62 : decode cX5_can 62 = .ok (.ifCond .eq 7, 3) := by decide +kernel
theorem dX5_can_65 : decode cX5_can 65 = .ok (.iconst 1, 1) := by decide +kernel
theorem dX5_can_66 : decode cX5_can 66 = .ok (.goto 4, 3) := by decide +kernel
theorem dX5_can_69 : decode cX5_can 69 = .ok (.iconst 0, 1) := by decide +kernel
theorem dX5_can_70 : decode cX5_can 70 = .ok (.ireturn, 1) := by decide +kernel
theorem dX5_least_0 : decode cX5_least 0 = .ok (.aload_n 0, 1) := by decide +kernel
theorem dX5_least_1 : decode cX5_least 1 = .ok (.getfield 29, 3) := by decide +kernel
theorem dX5_least_4 : decode cX5_least 4 = .ok (.aload_n 0, 1) := by decide +kernel
theorem dX5_least_5 : decode cX5_least 5 = .ok (.getfield 10, 3) := by decide +kernel
theorem dX5_least_8 : decode cX5_least 8 = .ok (.aload_n 0, 1) := by decide +kernel
theorem dX5_least_9 : decode cX5_least 9 = .ok (.getfield 114, 3) := by decide +kernel
theorem dX5_least_12 : decode cX5_least 12 = .ok (.aload_n 0, 1) := by decide +kernel
theorem dX5_least_13 : decode cX5_least 13 = .ok (.getfield 23, 3) := by decide +kernel
theorem dX5_least_16 : decode cX5_least 16 = .ok (.invokevirtual 165, 3) := by decide +kernel
theorem dX5_least_19 : decode cX5_least 19 = .ok (.aload_n 0, 1) := by decide +kernel
theorem dX5_least_20 : decode cX5_least 20 = .ok (.getfield 29, 3) := by decide +kernel
theorem dX5_least_23 : decode cX5_least 23 = .ok (.aload_n 0, 1) := by decide +kernel
theorem dX5_least_24 : decode cX5_least 24 = .ok (.getfield 10, 3) := by decide +kernel
theorem dX5_least_27 : decode cX5_least 27 = .ok (.invokevirtual 181, 3) := by decide +kernel
theorem dX5_least_30 : decode cX5_least 30 = .ok (.lreturn, 1) := by decide +kernel
theorem dX5_type_0 : decode cX5_type 0 = .ok (.iload_n 1, 1) := by decide +kernel
theorem dX5_type_1 : decode cX5_type 1 = .ok (.ifCond .lt 9, 3) := by decide +kernel
theorem dX5_type_4 : decode cX5_type 4 = .ok (.iload_n 1, 1) := by decide +kernel
theorem dX5_type_5 : decode cX5_type 5 = .ok (.bipush 127, 2) := by decide +kernel
theorem dX5_type_7 : decode cX5_type 7 = .ok (.if_icmp .le 10, 3) := by decide +kernel
theorem dX5_type_10 : decode cX5_type 10 = .ok (.aload_n 0, 1) := by decide +kernel
theorem dX5_type_11 : decode cX5_type 11 = .ok (.bipush (-2), 2) := by decide +kernel
theorem dX5_type_13 : decode cX5_type 13 = .ok (.invokevirtual 51, 3) := by decide +kernel
theorem dX5_type_16 : decode cX5_type 16 = .ok (.ireturn, 1) := by decide +kernel
theorem dX5_type_17 : decode cX5_type 17 = .ok (.aload_n 0, 1) := by decide +kernel
theorem dX5_type_18 : decode cX5_type 18 = .ok (.getfield 36, 3) := by decide +kernel
theorem dX5_type_21 : decode cX5_type 21 = .ok (.getfield 185, 3) := by decide +kernel
theorem dX5_type_24 : decode cX5_type 24 = .ok (.bipush 120, 2) := by decide +kernel
theorem dX5_type_26 : decode cX5_type 26 = .ok (.if_icmp .lt 10, 3) := by decide +kernel
theorem dX5_type_29 : decode cX5_type 29 = .ok (.aload_n 0, 1) := by decide +kernel
theorem dX5_type_30 : decode cX5_type 30 = .ok (.bipush (-4), 2) := by decide +kernel
theorem dX5_type_32 : decode cX5_type 32 = .ok (.invokevirtual 51, 3) := by decide +kernel
theorem dX5_type_35 : decode cX5_type 35 = .ok (.ireturn, 1) := by decide +kernel
theorem dX5_type_36 : decode cX5_type 36 = .ok (.aload_n 0, 1) := by decide +kernel
theorem dX5_type_37 : decode cX5_type 37 = .ok (.getfield 36, 3) := by decide +kernel
theorem dX5_type_40 : decode cX5_type 40 = .ok (.iload_n 1, 1) := by decide +kernel
theorem dX5_type_41 : decode cX5_type 41 = .ok (.invokevirtual 188, 3) := by decide +kernel
theorem dX5_type_44 : decode cX5_type 44 = .ok (.ireturn, 1) := by decide +kernel
theorem dX5_clear_0 : decode cX5_clear 0 = .ok (.aload_n 0, 1) := by decide +kernel
theorem dX5_clear_1 : decode cX5_clear 1 = .ok (.getfield 36, 3) := by decide +kernel
theorem dX5_clear_4 : decode cX5_clear 4 = .ok (.getfield 185, 3) := by decide +kernel
theorem dX5_clear_7 : decode cX5_clear 7 = .ok (.istore_n 1, 1) := by decide +kernel
theorem dX5_clear_8 : decode cX5_clear 8 = .ok (.aload_n 0, 1) := by decide +kernel
theorem dX5_clear_9 : decode cX5_clear 9 = .ok (.getfield 36, 3) := by decide +kernel
theorem dX5_clear_12 : decode cX5_clear 12 = .ok (.iconst 0, 1) := by decide +kernel
theorem dX5_clear_13 : decode cX5_clear 13 = .ok (.putfield 185, 3) := by decide +kernel
theorem dX5_clear_16 : decode cX5_clear 16 = .ok (.iload_n 1, 1) := by decide +kernel
theorem dX5_clear_17 : decode cX5_clear 17 = .ok (.ireturn, 1) := by decide +kernel
theorem dX5_says_0 : decode cX5_says 0 = .ok (.aload_n 0, 1) := by decide +kernel
theorem dX5_says_1 : decode cX5_says 1 = .ok (.getfield 36, 3) := by decide +kernel
theorem dX5_says_4 : decode cX5_says 4 = .ok (.aload_n 0, 1) := by decide +kernel
theorem dX5_says_5 : decode cX5_says 5 = .ok (.getfield 10, 3) := by decide +kernel
theorem dX5_says_8 : decode cX5_says 8 = .ok (.getfield 55, 3) := by decide +kernel
theorem dX5_says_11 : decode cX5_says 11 = .ok (.invokevirtual 190, 3) := by decide +kernel
theorem dX5_says_14 : decode cX5_says 14 = .ok (.istore_n 1, 1) := by decide +kernel
theorem dX5_says_15 : decode cX5_says 15 = .ok (.iload_n 1, 1) := by decide +kernel
theorem dX5_says_16 : decode cX5_says 16 = .ok (.iconst (-1), 1) := by decide +kernel
theorem dX5_says_17 : decode cX5_says 17 = .ok (.if_icmp .eq 8, 3) := by decide +kernel
theorem dX5_says_20 : decode cX5_says 20 = .ok (.bipush (-10), 2) := by decide +kernel
theorem dX5_says_22 : decode cX5_says 22 = .ok (.iload_n 1, 1) := by decide +kernel
theorem dX5_says_23 : decode cX5_says 23 = .ok (.isub, 1) := by decide +kernel
theorem dX5_says_24 : decode cX5_says 24 = .ok (.ireturn, 1) := by decide +kernel
theorem dX5_says_25 : decode cX5_says 25 = .ok (.aload_n 0, 1) := by decide +kernel
theorem dX5_says_26 : decode cX5_says 26 = .ok (.getfield 43, 3) := by decide +kernel
theorem dX5_says_29 : decode cX5_says 29 = .ok (.iconst 0, 1) := by decide +kernel
theorem dX5_says_30 : decode cX5_says 30 = .ok (.putfield 193, 3) := by decide +kernel
theorem dX5_says_33 : decode cX5_says 33 = .ok (.iconst 0, 1) := by decide +kernel
theorem dX5_says_34 : decode cX5_says 34 = .ok (.istore_n 2, 1) := by decide +kernel
theorem dX5_says_35 : decode cX5_says 35 = .ok (.iload_n 2, 1) := by decide +kernel
theorem dX5_says_36 : decode cX5_says 36 = .ok (.aload_n 0, 1) := by decide +kernel
theorem dX5_says_37 : decode cX5_says 37 = .ok (.getfield 36, 3) := by decide +kernel
theorem dX5_says_40 : decode cX5_says 40 = .ok (.getfield 194, 3) := by decide +kernel
theorem dX5_says_43 : decode cX5_says 43 = .ok (.if_icmp .ge 27, 3) := by decide +kernel
theorem dX5_says_46 : decode cX5_says 46 = .ok (.iload_n 2, 1) := by decide +kernel
theorem dX5_says_47 : decode cX5_says 47 = .ok (.ifCond .le 12, 3) := by decide +kernel
theorem dX5_says_50 : decode cX5_says 50 = .ok (.aload_n 0, 1) := by decide +kernel
theorem dX5_says_51 : decode cX5_says 51 = .ok (.getfield 43, 3) := by decide +kernel
theorem dX5_says_54 : decode cX5_says 54 = .ok (.bipush 32, 2) := by decide +kernel
theorem dX5_says_56 : decode cX5_says 56 = .ok (.invokevirtual 197, 3) := by decide +kernel
theorem dX5_says_59 : decode cX5_says 59 = .ok (.aload_n 0, 1) := by decide +kernel
theorem dX5_says_60 : decode cX5_says 60 = .ok (.iload_n 2, 1) := by decide +kernel
theorem dX5_says_61 : decode cX5_says 61 = .ok (.invokevirtual 201, 3) := by decide +kernel
theorem dX5_says_64 : decode cX5_says 64 = .ok (.iinc 2 1, 3) := by decide +kernel
theorem dX5_says_67 : decode cX5_says 67 = .ok (.goto (-32), 3) := by decide +kernel
theorem dX5_says_70 : decode cX5_says 70 = .ok (.aload_n 0, 1) := by decide +kernel
theorem dX5_says_71 : decode cX5_says 71 = .ok (.getfield 36, 3) := by decide +kernel
theorem dX5_says_74 : decode cX5_says 74 = .ok (.getfield 194, 3) := by decide +kernel
theorem dX5_says_77 : decode cX5_says 77 = .ok (.ireturn, 1) := by decide +kernel
theorem dX5_answer_0 : decode cX5_answer 0 = .ok (.iload_n 1, 1) := by decide +kernel
theorem dX5_answer_1 : decode cX5_answer 1 = .ok (.iconst (-1), 1) := by decide +kernel
theorem dX5_answer_2 : decode cX5_answer 2 = .ok (.if_icmp .ge 13, 3) := by decide +kernel
theorem dX5_answer_5 : decode cX5_answer 5 = .ok (.aload_n 0, 1) := by decide +kernel
theorem dX5_answer_6 : decode cX5_answer 6 = .ok (.bipush (-2), 2) := by decide +kernel
theorem dX5_answer_8 : decode cX5_answer 8 = .ok (.invokevirtual 51, 3) := by decide +kernel
theorem dX5_answer_11 : decode cX5_answer 11 = .ok (.pop, 1) := by decide +kernel
theorem dX5_answer_12 : decode cX5_answer 12 = .ok (.bipush (-10), 2) := by decide +kernel
theorem dX5_answer_14 : decode cX5_answer 14 = .ok (.ireturn, 1) := by decide +kernel
theorem dX5_answer_15 : decode cX5_answer 15 = .ok (.iload_n 1, 1) := by decide +kernel
theorem dX5_answer_16 : decode cX5_answer 16 = .ok (.iconst (-1), 1) := by decide +kernel
theorem dX5_answer_17 : decode cX5_answer 17 = .ok (.if_icmp .ne 11, 3) := by decide +kernel
theorem dX5_answer_20 : decode cX5_answer 20 = .ok (.aload_n 0, 1) := by decide +kernel
theorem dX5_answer_21 : decode cX5_answer 21 = .ok (.getfield 43, 3) := by decide +kernel
theorem dX5_answer_24 : decode cX5_answer 24 = .ok (.getfield 193, 3) := by decide +kernel
theorem dX5_answer_27 : decode cX5_answer 27 = .ok (.ireturn, 1) := by decide +kernel
theorem dX5_answer_28 : decode cX5_answer 28 = .ok (.iload_n 1, 1) := by decide +kernel
theorem dX5_answer_29 : decode cX5_answer 29 = .ok (.aload_n 0, 1) := by decide +kernel
theorem dX5_answer_30 : decode cX5_answer 30 = .ok (.getfield 43, 3) := by decide +kernel
theorem dX5_answer_33 : decode cX5_answer 33 = .ok (.getfield 193, 3) := by decide +kernel
theorem dX5_answer_36 : decode cX5_answer 36 = .ok (.if_icmp .ge 14, 3) := by decide +kernel
theorem dX5_answer_39 : decode cX5_answer 39 = .ok (.aload_n 0, 1) := by decide +kernel
theorem dX5_answer_40 : decode cX5_answer 40 = .ok (.getfield 43, 3) := by decide +kernel
theorem dX5_answer_43 : decode cX5_answer 43 = .ok (.iload_n 1, 1) := by decide +kernel
theorem dX5_answer_44 : decode cX5_answer 44 = .ok (.invokevirtual 204, 3) := by decide +kernel
theorem dX5_answer_47 : decode cX5_answer 47 = .ok (.goto 5, 3) := by decide +kernel
theorem dX5_answer_50 : decode cX5_answer 50 = .ok (.bipush (-5), 2) := by decide +kernel
theorem dX5_answer_52 : decode cX5_answer 52 = .ok (.ireturn, 1) := by decide +kernel
theorem dX5_told_0 : decode cX5_told 0 = .ok (.iload_n 1, 1) := by decide +kernel
theorem dX5_told_1 : decode cX5_told 1 = .ok (.ifCond .lt 9, 3) := by decide +kernel
theorem dX5_told_4 : decode cX5_told 4 = .ok (.iload_n 1, 1) := by decide +kernel
theorem dX5_told_5 : decode cX5_told 5 = .ok (.bipush 6, 2) := by decide +kernel
theorem dX5_told_7 : decode cX5_told 7 = .ok (.if_icmp .le 10, 3) := by decide +kernel
theorem dX5_told_10 : decode cX5_told 10 = .ok (.aload_n 0, 1) := by decide +kernel
theorem dX5_told_11 : decode cX5_told 11 = .ok (.bipush (-2), 2) := by decide +kernel
theorem dX5_told_13 : decode cX5_told 13 = .ok (.invokevirtual 51, 3) := by decide +kernel
theorem dX5_told_16 : decode cX5_told 16 = .ok (.ireturn, 1) := by decide +kernel
theorem dX5_told_17 : decode cX5_told 17 = .ok (.aload_n 0, 1) := by decide +kernel
theorem dX5_told_18 : decode cX5_told 18 = .ok (.iload_n 1, 1) := by decide +kernel
theorem dX5_told_19 : decode cX5_told 19 = .ok (.invokevirtual 207, 3) := by decide +kernel
theorem dX5_told_22 : decode cX5_told 22 = .ok (.ireturn, 1) := by decide +kernel
theorem dX5_digest_0 : decode cX5_digest 0 = .ok (.ldc2_w 210, 3) := by decide +kernel
theorem dX5_digest_3 : decode cX5_digest 3 = .ok (.lstore_n 1, 1) := by decide +kernel
theorem dX5_digest_4 : decode cX5_digest 4 = .ok (.iconst 0, 1) := by decide +kernel
theorem dX5_digest_5 : decode cX5_digest 5 = .ok (.istore_n 3, 1) := by decide +kernel
theorem dX5_digest_6 : decode cX5_digest 6 = .ok (.iload_n 3, 1) := by decide +kernel
theorem dX5_digest_7 : decode cX5_digest 7 = .ok (.bipush 6, 2) := by decide +kernel
theorem dX5_digest_9 : decode cX5_digest 9 = .ok (.if_icmp .gt 22, 3) := by decide +kernel
theorem dX5_digest_12 : decode cX5_digest 12 = .ok (.ldc2_w 212, 3) := by decide +kernel
theorem dX5_digest_15 : decode cX5_digest 15 = .ok (.lload_n 1, 1) := by decide +kernel
theorem dX5_digest_16 : decode cX5_digest 16 = .ok (.lmul, 1) := by decide +kernel
theorem dX5_digest_17 : decode cX5_digest 17 = .ok (.aload_n 0, 1) := by decide +kernel
theorem dX5_digest_18 : decode cX5_digest 18 = .ok (.iload_n 3, 1) := by decide +kernel
theorem dX5_digest_19 : decode cX5_digest 19 = .ok (.invokevirtual 207, 3) := by decide +kernel
theorem dX5_digest_22 : decode cX5_digest 22 = .ok (.i2l, 1) := by decide +kernel
theorem dX5_digest_23 : decode cX5_digest 23 = .ok (.ladd, 1) := by decide +kernel
theorem dX5_digest_24 : decode cX5_digest 24 = .ok (.lstore_n 1, 1) := by decide +kernel
theorem dX5_digest_25 : decode cX5_digest 25 = .ok (.iinc 3 1, 3) := by decide +kernel
theorem dX5_digest_28 : decode cX5_digest 28 = .ok (.goto (-22), 3) := by decide +kernel
theorem dX5_digest_31 : decode cX5_digest 31 = .ok (.iconst 0, 1) := by decide +kernel
theorem dX5_digest_32 : decode cX5_digest 32 = .ok (.istore_n 3, 1) := by decide +kernel
theorem dX5_digest_33 : decode cX5_digest 33 = .ok (.iload_n 3, 1) := by decide +kernel
theorem dX5_digest_34 : decode cX5_digest 34 = .ok (.aload_n 0, 1) := by decide +kernel
theorem dX5_digest_35 : decode cX5_digest 35 = .ok (.getfield 10, 3) := by decide +kernel
theorem dX5_digest_38 : decode cX5_digest 38 = .ok (.getfield 55, 3) := by decide +kernel
theorem dX5_digest_41 : decode cX5_digest 41 = .ok (.if_icmp .ge 39, 3) := by decide +kernel
theorem dX5_digest_44 : decode cX5_digest 44 = .ok (.iconst 0, 1) := by decide +kernel
theorem dX5_digest_45 : decode cX5_digest 45 = .ok (.istore 4, 2) := by decide +kernel
theorem dX5_digest_47 : decode cX5_digest 47 = .ok (.iload 4, 2) := by decide +kernel
theorem dX5_digest_49 : decode cX5_digest 49 = .ok (.iconst 5, 1) := by decide +kernel
theorem dX5_digest_50 : decode cX5_digest 50 = .ok (.if_icmp .gt 24, 3) := by decide +kernel
theorem dX5_digest_53 : decode cX5_digest 53 = .ok (.ldc2_w 212, 3) := by decide +kernel
theorem dX5_digest_56 : decode cX5_digest 56 = .ok (.lload_n 1, 1) := by decide +kernel
theorem dX5_digest_57 : decode cX5_digest 57 = .ok (.lmul, 1) := by decide +kernel
theorem dX5_digest_58 : decode cX5_digest 58 = .ok (.aload_n 0, 1) := by decide +kernel
theorem dX5_digest_59 : decode cX5_digest 59 = .ok (.iload_n 3, 1) := by decide +kernel
theorem dX5_digest_60 : decode cX5_digest 60 = .ok (.iload 4, 2) := by decide +kernel
theorem dX5_digest_62 : decode cX5_digest 62 = .ok (.invokevirtual 103, 3) := by decide +kernel
theorem dX5_digest_65 : decode cX5_digest 65 = .ok (.i2l, 1) := by decide +kernel
theorem dX5_digest_66 : decode cX5_digest 66 = .ok (.ladd, 1) := by decide +kernel
theorem dX5_digest_67 : decode cX5_digest 67 = .ok (.lstore_n 1, 1) := by decide +kernel
theorem dX5_digest_68 : decode cX5_digest 68 = .ok (.iinc 4 1, 3) := by decide +kernel
theorem dX5_digest_71 : decode cX5_digest 71 = .ok (.goto (-24), 3) := by decide +kernel
theorem dX5_digest_74 : decode cX5_digest 74 = .ok (.iinc 3 1, 3) := by decide +kernel
theorem dX5_digest_77 : decode cX5_digest 77 = .ok (.goto (-44), 3) := by decide +kernel
theorem dX5_digest_80 : decode cX5_digest 80 = .ok (.iconst 0, 1) := by decide +kernel
theorem dX5_digest_81 : decode cX5_digest 81 = .ok (.istore_n 3, 1) := by decide +kernel
theorem dX5_digest_82 : decode cX5_digest 82 = .ok (.iload_n 3, 1) := by decide +kernel
theorem dX5_digest_83 : decode cX5_digest 83 = .ok (.iconst 3, 1) := by decide +kernel
theorem dX5_digest_84 : decode cX5_digest 84 = .ok (.if_icmp .gt 25, 3) := by decide +kernel
theorem dX5_digest_87 : decode cX5_digest 87 = .ok (.ldc2_w 212, 3) := by decide +kernel
theorem dX5_digest_90 : decode cX5_digest 90 = .ok (.lload_n 1, 1) := by decide +kernel
theorem dX5_digest_91 : decode cX5_digest 91 = .ok (.lmul, 1) := by decide +kernel
theorem dX5_digest_92 : decode cX5_digest 92 = .ok (.aload_n 0, 1) := by decide +kernel
theorem dX5_digest_93 : decode cX5_digest 93 = .ok (.getfield 19, 3) := by decide +kernel
theorem dX5_digest_96 : decode cX5_digest 96 = .ok (.iload_n 3, 1) := by decide +kernel
theorem dX5_digest_97 : decode cX5_digest 97 = .ok (.invokevirtual 129, 3) := by decide +kernel
theorem dX5_digest_100 : decode cX5_digest 100 = .ok (.i2l, 1) := by decide +kernel
theorem dX5_digest_101 : decode cX5_digest 101 = .ok (.ladd, 1) := by decide +kernel
theorem dX5_digest_102 : decode cX5_digest 102 = .ok (.lstore_n 1, 1) := by decide +kernel
theorem dX5_digest_103 : decode cX5_digest 103 = .ok (.iinc 3 1, 3) := by decide +kernel
theorem dX5_digest_106 : decode cX5_digest 106 = .ok (.goto (-24), 3) := by decide +kernel
theorem dX5_digest_109 : decode cX5_digest 109 = .ok (.iconst 0, 1) := by decide +kernel
theorem dX5_digest_110 : decode cX5_digest 110 = .ok (.istore_n 3, 1) := by decide +kernel
theorem dX5_digest_111 : decode cX5_digest 111 = .ok (.iload_n 3, 1) := by decide +kernel
theorem dX5_digest_112 : decode cX5_digest 112 = .ok (.aload_n 0, 1) := by decide +kernel
theorem dX5_digest_113 : decode cX5_digest 113 = .ok (.getfield 43, 3) := by decide +kernel
theorem dX5_digest_116 : decode cX5_digest 116 = .ok (.getfield 193, 3) := by decide +kernel
theorem dX5_digest_119 : decode cX5_digest 119 = .ok (.if_icmp .ge 25, 3) := by decide +kernel
theorem dX5_digest_122 : decode cX5_digest 122 = .ok (.ldc2_w 212, 3) := by decide +kernel
theorem dX5_digest_125 : decode cX5_digest 125 = .ok (.lload_n 1, 1) := by decide +kernel
theorem dX5_digest_126 : decode cX5_digest 126 = .ok (.lmul, 1) := by decide +kernel
theorem dX5_digest_127 : decode cX5_digest 127 = .ok (.aload_n 0, 1) := by decide +kernel
theorem dX5_digest_128 : decode cX5_digest 128 = .ok (.getfield 43, 3) := by decide +kernel
theorem dX5_digest_131 : decode cX5_digest 131 = .ok (.iload_n 3, 1) := by decide +kernel
theorem dX5_digest_132 : decode cX5_digest 132 = .ok (.invokevirtual 204, 3) := by decide +kernel
theorem dX5_digest_135 : decode cX5_digest 135 = .ok (.i2l, 1) := by decide +kernel
theorem dX5_digest_136 : decode cX5_digest 136 = .ok (.ladd, 1) := by decide +kernel
theorem dX5_digest_137 : decode cX5_digest 137 = .ok (.lstore_n 1, 1) := by decide +kernel
theorem dX5_digest_138 : decode cX5_digest 138 = .ok (.iinc 3 1, 3) := by decide +kernel
theorem dX5_digest_141 : decode cX5_digest 141 = .ok (.goto (-30), 3) := by decide +kernel
theorem dX5_digest_144 : decode cX5_digest 144 = .ok (.lload_n 1, 1) := by decide +kernel
theorem dX5_digest_145 : decode cX5_digest 145 = .ok (.lreturn, 1) := by decide +kernel
theorem dX5_refuse_0 : decode cX5_refuse 0 = .ok (.iload_n 1, 1) := by decide +kernel
theorem dX5_refuse_1 : decode cX5_refuse 1 = .ok (.bipush (-2), 2) := by decide +kernel
theorem dX5_refuse_3 : decode cX5_refuse 3 = .ok (.if_icmp .ne 16, 3) := by decide +kernel
theorem dX5_refuse_6 : decode cX5_refuse 6 = .ok (.aload_n 0, 1) := by decide +kernel
theorem dX5_refuse_7 : decode cX5_refuse 7 = .ok (.dup, 1) := by decide +kernel
theorem dX5_refuse_8 : decode cX5_refuse 8 = .ok (.getfield 214, 3) := by decide +kernel
theorem dX5_refuse_11 : decode cX5_refuse 11 = .ok (.iconst 1, 1) := by decide +kernel
theorem dX5_refuse_12 : decode cX5_refuse 12 = .ok (.iadd, 1) := by decide +kernel
theorem dX5_refuse_13 : decode cX5_refuse 13 = .ok (.putfield 214, 3) := by decide +kernel
theorem dX5_refuse_16 : decode cX5_refuse 16 = .ok (.goto 13, 3) := by decide +kernel
theorem dX5_refuse_19 : decode cX5_refuse 19 = .ok (.aload_n 0, 1) := by decide +kernel
theorem dX5_refuse_20 : decode cX5_refuse 20 = .ok (.dup, 1) := by decide +kernel
theorem dX5_refuse_21 : decode cX5_refuse 21 = .ok (.getfield 217, 3) := by decide +kernel
theorem dX5_refuse_24 : decode cX5_refuse 24 = .ok (.iconst 1, 1) := by decide +kernel
theorem dX5_refuse_25 : decode cX5_refuse 25 = .ok (.iadd, 1) := by decide +kernel
theorem dX5_refuse_26 : decode cX5_refuse 26 = .ok (.putfield 217, 3) := by decide +kernel
theorem dX5_refuse_29 : decode cX5_refuse 29 = .ok (.iload_n 1, 1) := by decide +kernel
theorem dX5_refuse_30 : decode cX5_refuse 30 = .ok (.ireturn, 1) := by decide +kernel
theorem dX5_isSeed_0 : decode cX5_isSeed 0 = .ok (.iload_n 0, 1) := by decide +kernel
theorem dX5_isSeed_1 : decode cX5_isSeed 1 = .ok (.ifCond .lt 13, 3) := by decide +kernel
theorem dX5_isSeed_4 : decode cX5_isSeed 4 = .ok (.iload_n 0, 1) := by decide +kernel
theorem dX5_isSeed_5 : decode cX5_isSeed 5 = .ok (.ldc 220, 2) := by decide +kernel
theorem dX5_isSeed_7 : decode cX5_isSeed 7 = .ok (.if_icmp .gt 7, 3) := by decide +kernel
theorem dX5_isSeed_10 : decode cX5_isSeed 10 = .ok (.iconst 1, 1) := by decide +kernel
theorem dX5_isSeed_11 : decode cX5_isSeed 11 = .ok (.goto 4, 3) := by decide +kernel
theorem dX5_isSeed_14 : decode cX5_isSeed 14 = .ok (.iconst 0, 1) := by decide +kernel
theorem dX5_isSeed_15 : decode cX5_isSeed 15 = .ok (.ireturn, 1) := by decide +kernel
theorem dX5_areSeeds_0 : decode cX5_areSeeds 0 = .ok (.iload_n 0, 1) := by decide +kernel
theorem dX5_areSeeds_1 : decode cX5_areSeeds 1 = .ok (.invokestatic 77, 3) := by decide +kernel
theorem dX5_areSeeds_4 : decode cX5_areSeeds 4 = .ok (.ifCond .eq 26, 3) := by decide +kernel
theorem dX5_areSeeds_7 : decode cX5_areSeeds 7 = .ok (.iload_n 1, 1) := by decide +kernel
theorem dX5_areSeeds_8 : decode cX5_areSeeds 8 = .ok (.iconst 1, 1) := by decide +kernel
theorem dX5_areSeeds_9 : decode cX5_areSeeds 9 = .ok (.if_icmp .lt 21, 3) := by decide +kernel
theorem dX5_areSeeds_12 : decode cX5_areSeeds 12 = .ok (.iload_n 1, 1) := by decide +kernel
theorem dX5_areSeeds_13 : decode cX5_areSeeds 13 = .ok (.bipush 60, 2) := by decide +kernel
theorem dX5_areSeeds_15 : decode cX5_areSeeds 15 = .ok (.if_icmp .gt 15, 3) := by decide +kernel
theorem dX5_areSeeds_18 : decode cX5_areSeeds 18 = .ok (.iload_n 0, 1) := by decide +kernel
theorem dX5_areSeeds_19 : decode cX5_areSeeds 19 = .ok (.iload_n 1, 1) := by decide +kernel
theorem dX5_areSeeds_20 : decode cX5_areSeeds 20 = .ok (.iadd, 1) := by decide +kernel
theorem dX5_areSeeds_21 : decode cX5_areSeeds 21 = .ok (.ldc 221, 2) := by decide +kernel
theorem dX5_areSeeds_23 : decode cX5_areSeeds 23 = .ok (.if_icmp .gt 7, 3) := by decide +kernel
theorem dX5_areSeeds_26 : decode cX5_areSeeds 26 = .ok (.iconst 1, 1) := by decide +kernel
theorem dX5_areSeeds_27 : decode cX5_areSeeds 27 = .ok (.goto 4, 3) := by decide +kernel
theorem dX5_areSeeds_30 : decode cX5_areSeeds 30 = .ok (.iconst 0, 1) := by decide +kernel
theorem dX5_areSeeds_31 : decode cX5_areSeeds 31 = .ok (.ireturn, 1) := by decide +kernel
theorem dX5_nextX_0 : decode cX5_nextX 0 = .ok (.lload_n 0, 1) := by decide +kernel
theorem dX5_nextX_1 : decode cX5_nextX 1 = .ok (.ldc2_w 222, 3) := by decide +kernel
theorem dX5_nextX_4 : decode cX5_nextX 4 = .ok (.lmul, 1) := by decide +kernel
theorem dX5_nextX_5 : decode cX5_nextX 5 = .ok (.ldc2_w 224, 3) := by decide +kernel
theorem dX5_nextX_8 : decode cX5_nextX 8 = .ok (.ladd, 1) := by decide +kernel
theorem dX5_nextX_9 : decode cX5_nextX 9 = .ok (.ldc2_w 226, 3) := by decide +kernel
theorem dX5_nextX_12 : decode cX5_nextX 12 = .ok (.lrem, 1) := by decide +kernel
theorem dX5_nextX_13 : decode cX5_nextX 13 = .ok (.lreturn, 1) := by decide +kernel
theorem dX5_knownOf_0 : decode cX5_knownOf 0 = .ok (.iload_n 2, 1) := by decide +kernel
theorem dX5_knownOf_1 : decode cX5_knownOf 1 = .ok (.iconst 5, 1) := by decide +kernel
theorem dX5_knownOf_2 : decode cX5_knownOf 2 = .ok (.if_icmp .ne 20, 3) := by decide +kernel
theorem dX5_knownOf_5 : decode cX5_knownOf 5 = .ok (.aload_n 0, 1) := by decide +kernel
theorem dX5_knownOf_6 : decode cX5_knownOf 6 = .ok (.getfield 19, 3) := by decide +kernel
theorem dX5_knownOf_9 : decode cX5_knownOf 9 = .ok (.iload_n 1, 1) := by decide +kernel
theorem dX5_knownOf_10 : decode cX5_knownOf 10 = .ok (.invokevirtual 143, 3) := by decide +kernel
theorem dX5_knownOf_13 : decode cX5_knownOf 13 = .ok (.ifCond .eq 7, 3) := by decide +kernel
theorem dX5_knownOf_16 : decode cX5_knownOf 16 = .ok (.iconst 1, 1) := by decide +kernel
theorem dX5_knownOf_17 : decode cX5_knownOf 17 = .ok (.goto 4, 3) := by decide +kernel
theorem dX5_knownOf_20 : decode cX5_knownOf 20 = .ok (.iconst 0, 1) := by decide +kernel
theorem dX5_knownOf_21 : decode cX5_knownOf 21 = .ok (.ireturn, 1) := by decide +kernel
theorem dX5_knownOf_22 : decode cX5_knownOf 22 = .ok (.aload_n 0, 1) := by decide +kernel
theorem dX5_knownOf_23 : decode cX5_knownOf 23 = .ok (.getfield 10, 3) := by decide +kernel
theorem dX5_knownOf_26 : decode cX5_knownOf 26 = .ok (.iload_n 1, 1) := by decide +kernel
theorem dX5_knownOf_27 : decode cX5_knownOf 27 = .ok (.iload_n 2, 1) := by decide +kernel
theorem dX5_knownOf_28 : decode cX5_knownOf 28 = .ok (.invokevirtual 146, 3) := by decide +kernel
theorem dX5_knownOf_31 : decode cX5_knownOf 31 = .ok (.ireturn, 1) := by decide +kernel
theorem dX5_changeMethod_0 : decode cX5_changeMethod 0 = .ok (.aload_n 0, 1) := by decide +kernel
theorem dX5_changeMethod_1 : decode cX5_changeMethod 1 = .ok (.getfield 114, 3) := by decide +kernel
theorem dX5_changeMethod_4 : decode cX5_changeMethod 4 = .ok (.istore_n 2, 1) := by decide +kernel
theorem dX5_changeMethod_5 : decode cX5_changeMethod 5 = .ok (.aload_n 0, 1) := by decide +kernel
theorem dX5_changeMethod_6 : decode cX5_changeMethod 6 = .ok (.iload_n 1, 1) := by decide +kernel
theorem dX5_changeMethod_7 : decode cX5_changeMethod 7 = .ok (.putfield 114, 3) := by decide +kernel
theorem dX5_changeMethod_10 : decode cX5_changeMethod 10 = .ok (.iload_n 2, 1) := by decide +kernel
theorem dX5_changeMethod_11 : decode cX5_changeMethod 11 = .ok (.ireturn, 1) := by decide +kernel
theorem dX5_state_0 : decode cX5_state 0 = .ok (.iload_n 1, 1) := by decide +kernel
theorem dX5_state_1 : decode cX5_state 1 = .ok (.tableswitch 72 0 5 #[39, 44, 46, 51, 59, 67], 39) := by decide +kernel
theorem dX5_state_40 : decode cX5_state 40 = .ok (.aload_n 0, 1) := by decide +kernel
theorem dX5_state_41 : decode cX5_state 41 = .ok (.getfield 214, 3) := by decide +kernel
theorem dX5_state_44 : decode cX5_state 44 = .ok (.ireturn, 1) := by decide +kernel
theorem dX5_state_45 : decode cX5_state 45 = .ok (.iconst 0, 1) := by decide +kernel
theorem dX5_state_46 : decode cX5_state 46 = .ok (.ireturn, 1) := by decide +kernel
theorem dX5_state_47 : decode cX5_state 47 = .ok (.aload_n 0, 1) := by decide +kernel
theorem dX5_state_48 : decode cX5_state 48 = .ok (.getfield 217, 3) := by decide +kernel
theorem dX5_state_51 : decode cX5_state 51 = .ok (.ireturn, 1) := by decide +kernel
theorem dX5_state_52 : decode cX5_state 52 = .ok (.aload_n 0, 1) := by decide +kernel
theorem dX5_state_53 : decode cX5_state 53 = .ok (.getfield 36, 3) := by decide +kernel
theorem dX5_state_56 : decode cX5_state 56 = .ok (.getfield 185, 3) := by decide +kernel
theorem dX5_state_59 : decode cX5_state 59 = .ok (.ireturn, 1) := by decide +kernel
theorem dX5_state_60 : decode cX5_state 60 = .ok (.aload_n 0, 1) := by decide +kernel
theorem dX5_state_61 : decode cX5_state 61 = .ok (.getfield 10, 3) := by decide +kernel
theorem dX5_state_64 : decode cX5_state 64 = .ok (.getfield 55, 3) := by decide +kernel
theorem dX5_state_67 : decode cX5_state 67 = .ok (.ireturn, 1) := by decide +kernel
theorem dX5_state_68 : decode cX5_state 68 = .ok (.aload_n 0, 1) := by decide +kernel
theorem dX5_state_69 : decode cX5_state 69 = .ok (.getfield 114, 3) := by decide +kernel
theorem dX5_state_72 : decode cX5_state 72 = .ok (.ireturn, 1) := by decide +kernel
theorem dX5_state_73 : decode cX5_state 73 = .ok (.aload_n 0, 1) := by decide +kernel
theorem dX5_state_74 : decode cX5_state 74 = .ok (.getfield 43, 3) := by decide +kernel
theorem dX5_state_77 : decode cX5_state 77 = .ok (.getfield 193, 3) := by decide +kernel
theorem dX5_state_80 : decode cX5_state 80 = .ok (.ireturn, 1) := by decide +kernel
theorem dX5_walksWith_0 : decode cX5_walksWith 0 = .ok (.iconst 0, 1) := by decide +kernel
theorem dX5_walksWith_1 : decode cX5_walksWith 1 = .ok (.istore 4, 2) := by decide +kernel
theorem dX5_walksWith_3 : decode cX5_walksWith 3 = .ok (.iconst 0, 1) := by decide +kernel
theorem dX5_walksWith_4 : decode cX5_walksWith 4 = .ok (.istore 5, 2) := by decide +kernel
theorem dX5_walksWith_6 : decode cX5_walksWith 6 = .ok (.iload 5, 2) := by decide +kernel
theorem dX5_walksWith_8 : decode cX5_walksWith 8 = .ok (.iload_n 3, 1) := by decide +kernel
theorem dX5_walksWith_9 : decode cX5_walksWith 9 = .ok (.if_icmp .ge 44, 3) := by decide +kernel
theorem dX5_walksWith_12 : decode cX5_walksWith 12 = .ok (.aload_n 0, 1) := by decide +kernel
theorem dX5_walksWith_13 : decode cX5_walksWith 13 = .ok (.getfield 23, 3) := by decide +kernel
theorem dX5_walksWith_16 : decode cX5_walksWith 16 = .ok (.aload_n 0, 1) := by decide +kernel
theorem dX5_walksWith_17 : decode cX5_walksWith 17 = .ok (.getfield 10, 3) := by decide +kernel
theorem dX5_walksWith_20 : decode cX5_walksWith 20 = .ok (.aload_n 0, 1) := by decide +kernel
theorem dX5_walksWith_21 : decode cX5_walksWith 21 = .ok (.getfield 114, 3) := by decide +kernel
theorem dX5_walksWith_24 : decode cX5_walksWith 24 = .ok (.iload_n 2, 1) := by decide +kernel
theorem dX5_walksWith_25 : decode cX5_walksWith 25 = .ok (.iload 5, 2) := by decide +kernel
theorem dX5_walksWith_27 : decode cX5_walksWith 27 = .ok (.iadd, 1) := by decide +kernel
theorem dX5_walksWith_28 : decode cX5_walksWith 28 = .ok (.invokevirtual 117, 3) := by decide +kernel
theorem dX5_walksWith_31 : decode cX5_walksWith 31 = .ok (.aload_n 0, 1) := by decide +kernel
theorem dX5_walksWith_32 : decode cX5_walksWith 32 = .ok (.getfield 23, 3) := by decide +kernel
theorem dX5_walksWith_35 : decode cX5_walksWith 35 = .ok (.getfield 121, 3) := by decide +kernel
theorem dX5_walksWith_38 : decode cX5_walksWith 38 = .ok (.iload_n 1, 1) := by decide +kernel
theorem dX5_walksWith_39 : decode cX5_walksWith 39 = .ok (.iand, 1) := by decide +kernel
theorem dX5_walksWith_40 : decode cX5_walksWith 40 = .ok (.iload_n 1, 1) := by decide +kernel
theorem dX5_walksWith_41 : decode cX5_walksWith 41 = .ok (.if_icmp .ne 6, 3) := by decide +kernel
theorem dX5_walksWith_44 : decode cX5_walksWith 44 = .ok (.iinc 4 1, 3) := by decide +kernel
theorem dX5_walksWith_47 : decode cX5_walksWith 47 = .ok (.iinc 5 1, 3) := by decide +kernel
theorem dX5_walksWith_50 : decode cX5_walksWith 50 = .ok (.goto (-44), 3) := by decide +kernel
theorem dX5_walksWith_53 : decode cX5_walksWith 53 = .ok (.iload 4, 2) := by decide +kernel
theorem dX5_walksWith_55 : decode cX5_walksWith 55 = .ok (.ireturn, 1) := by decide +kernel
theorem dX5_perform_0 : decode cX5_perform 0 = .ok (.aload_n 0, 1) := by decide +kernel
theorem dX5_perform_1 : decode cX5_perform 1 = .ok (.getfield 36, 3) := by decide +kernel
theorem dX5_perform_4 : decode cX5_perform 4 = .ok (.iload_n 1, 1) := by decide +kernel
theorem dX5_perform_5 : decode cX5_perform 5 = .ok (.invokevirtual 228, 3) := by decide +kernel
theorem dX5_perform_8 : decode cX5_perform 8 = .ok (.istore_n 2, 1) := by decide +kernel
theorem dX5_perform_9 : decode cX5_perform 9 = .ok (.iload_n 2, 1) := by decide +kernel
theorem dX5_perform_10 : decode cX5_perform 10 = .ok (.iconst 5, 1) := by decide +kernel
theorem dX5_perform_11 : decode cX5_perform 11 = .ok (.if_icmp .ge 21, 3) := by decide +kernel
theorem dX5_perform_14 : decode cX5_perform 14 = .ok (.aload_n 0, 1) := by decide +kernel
theorem dX5_perform_15 : decode cX5_perform 15 = .ok (.getfield 43, 3) := by decide +kernel
theorem dX5_perform_18 : decode cX5_perform 18 = .ok (.aload_n 0, 1) := by decide +kernel
theorem dX5_perform_19 : decode cX5_perform 19 = .ok (.iload_n 2, 1) := by decide +kernel
theorem dX5_perform_20 : decode cX5_perform 20 = .ok (.invokevirtual 111, 3) := by decide +kernel
theorem dX5_perform_23 : decode cX5_perform 23 = .ok (.invokestatic 231, 3) := by decide +kernel
theorem dX5_perform_26 : decode cX5_perform 26 = .ok (.invokevirtual 235, 3) := by decide +kernel
theorem dX5_perform_29 : decode cX5_perform 29 = .ok (.goto 179, 3) := by decide +kernel
theorem dX5_perform_32 : decode cX5_perform 32 = .ok (.iload_n 2, 1) := by decide +kernel
theorem dX5_perform_33 : decode cX5_perform 33 = .ok (.iconst 5, 1) := by decide +kernel
theorem dX5_perform_34 : decode cX5_perform 34 = .ok (.if_icmp .ne 65, 3) := by decide +kernel
theorem dX5_perform_37 : decode cX5_perform 37 = .ok (.aload_n 0, 1) := by decide +kernel
theorem dX5_perform_38 : decode cX5_perform 38 = .ok (.getfield 43, 3) := by decide +kernel
theorem dX5_perform_41 : decode cX5_perform 41 = .ok (.aload_n 0, 1) := by decide +kernel
theorem dX5_perform_42 : decode cX5_perform 42 = .ok (.getfield 10, 3) := by decide +kernel
theorem dX5_perform_45 : decode cX5_perform 45 = .ok (.aload_n 0, 1) := by decide +kernel
theorem dX5_perform_46 : decode cX5_perform 46 = .ok (.getfield 36, 3) := by decide +kernel
theorem dX5_perform_49 : decode cX5_perform 49 = .ok (.iload_n 1, 1) := by decide +kernel
theorem dX5_perform_50 : decode cX5_perform 50 = .ok (.iconst 0, 1) := by decide +kernel
theorem dX5_perform_51 : decode cX5_perform 51 = .ok (.invokevirtual 239, 3) := by decide +kernel
theorem dX5_perform_54 : decode cX5_perform 54 = .ok (.aload_n 0, 1) := by decide +kernel
theorem dX5_perform_55 : decode cX5_perform 55 = .ok (.getfield 36, 3) := by decide +kernel
theorem dX5_perform_58 : decode cX5_perform 58 = .ok (.iload_n 1, 1) := by decide +kernel
theorem dX5_perform_59 : decode cX5_perform 59 = .ok (.iconst 1, 1) := by decide +kernel
theorem dX5_perform_60 : decode cX5_perform 60 = .ok (.invokevirtual 239, 3) := by decide +kernel
theorem dX5_perform_63 : decode cX5_perform 63 = .ok (.aload_n 0, 1) := by decide +kernel
theorem dX5_perform_64 : decode cX5_perform 64 = .ok (.getfield 36, 3) := by decide +kernel
theorem dX5_perform_67 : decode cX5_perform 67 = .ok (.iload_n 1, 1) := by decide +kernel
theorem dX5_perform_68 : decode cX5_perform 68 = .ok (.iconst 2, 1) := by decide +kernel
theorem dX5_perform_69 : decode cX5_perform 69 = .ok (.invokevirtual 239, 3) := by decide +kernel
theorem dX5_perform_72 : decode cX5_perform 72 = .ok (.aload_n 0, 1) := by decide +kernel
theorem dX5_perform_73 : decode cX5_perform 73 = .ok (.getfield 36, 3) := by decide +kernel
theorem dX5_perform_76 : decode cX5_perform 76 = .ok (.iload_n 1, 1) := by decide +kernel
theorem dX5_perform_77 : decode cX5_perform 77 = .ok (.iconst 3, 1) := by decide +kernel
theorem dX5_perform_78 : decode cX5_perform 78 = .ok (.invokevirtual 239, 3) := by decide +kernel
theorem dX5_perform_81 : decode cX5_perform 81 = .ok (.aload_n 0, 1) := by decide +kernel
theorem dX5_perform_82 : decode cX5_perform 82 = .ok (.getfield 36, 3) := by decide +kernel
theorem dX5_perform_85 : decode cX5_perform 85 = .ok (.iload_n 1, 1) := by decide +kernel
theorem dX5_perform_86 : decode cX5_perform 86 = .ok (.iconst 4, 1) := by decide +kernel
theorem dX5_perform_87 : decode cX5_perform 87 = .ok (.invokevirtual 239, 3) := by decide +kernel
theorem dX5_perform_90 : decode cX5_perform 90 = .ok (.invokevirtual 59, 3) := by decide +kernel
theorem dX5_perform_93 : decode cX5_perform 93 = .ok (.invokevirtual 242, 3) := by decide +kernel
theorem dX5_perform_96 : decode cX5_perform 96 = .ok (.goto 112, 3) := by decide +kernel
theorem dX5_perform_99 : decode cX5_perform 99 = .ok (.iload_n 2, 1) := by decide +kernel
theorem dX5_perform_100 : decode cX5_perform 100 = .ok (.bipush 11, 2) := by decide +kernel
theorem dX5_perform_102 : decode cX5_perform 102 = .ok (.if_icmp .ne 44, 3) := by decide +kernel
theorem dX5_perform_105 : decode cX5_perform 105 = .ok (.aload_n 0, 1) := by decide +kernel
theorem dX5_perform_106 : decode cX5_perform 106 = .ok (.getfield 19, 3) := by decide +kernel
theorem dX5_perform_109 : decode cX5_perform 109 = .ok (.aload_n 0, 1) := by decide +kernel
theorem dX5_perform_110 : decode cX5_perform 110 = .ok (.getfield 10, 3) := by decide +kernel
theorem dX5_perform_113 : decode cX5_perform 113 = .ok (.aload_n 0, 1) := by decide +kernel
theorem dX5_perform_114 : decode cX5_perform 114 = .ok (.getfield 114, 3) := by decide +kernel
theorem dX5_perform_117 : decode cX5_perform 117 = .ok (.aload_n 0, 1) := by decide +kernel
theorem dX5_perform_118 : decode cX5_perform 118 = .ok (.getfield 36, 3) := by decide +kernel
theorem dX5_perform_121 : decode cX5_perform 121 = .ok (.iload_n 1, 1) := by decide +kernel
theorem dX5_perform_122 : decode cX5_perform 122 = .ok (.iconst 0, 1) := by decide +kernel
theorem dX5_perform_123 : decode cX5_perform 123 = .ok (.invokevirtual 239, 3) := by decide +kernel
theorem dX5_perform_126 : decode cX5_perform 126 = .ok (.invokevirtual 117, 3) := by decide +kernel
theorem dX5_perform_129 : decode cX5_perform 129 = .ok (.aload_n 0, 1) := by decide +kernel
theorem dX5_perform_130 : decode cX5_perform 130 = .ok (.getfield 43, 3) := by decide +kernel
theorem dX5_perform_133 : decode cX5_perform 133 = .ok (.aload_n 0, 1) := by decide +kernel
theorem dX5_perform_134 : decode cX5_perform 134 = .ok (.getfield 19, 3) := by decide +kernel
theorem dX5_perform_137 : decode cX5_perform 137 = .ok (.getfield 121, 3) := by decide +kernel
theorem dX5_perform_140 : decode cX5_perform 140 = .ok (.invokevirtual 245, 3) := by decide +kernel
theorem dX5_perform_143 : decode cX5_perform 143 = .ok (.goto 65, 3) := by decide +kernel
theorem dX5_perform_146 : decode cX5_perform 146 = .ok (.iload_n 2, 1) := by decide +kernel
theorem dX5_perform_147 : decode cX5_perform 147 = .ok (.bipush 12, 2) := by decide +kernel
theorem dX5_perform_149 : decode cX5_perform 149 = .ok (.if_icmp .ne 23, 3) := by decide +kernel
theorem dX5_perform_152 : decode cX5_perform 152 = .ok (.aload_n 0, 1) := by decide +kernel
theorem dX5_perform_153 : decode cX5_perform 153 = .ok (.getfield 43, 3) := by decide +kernel
theorem dX5_perform_156 : decode cX5_perform 156 = .ok (.aload_n 0, 1) := by decide +kernel
theorem dX5_perform_157 : decode cX5_perform 157 = .ok (.getfield 19, 3) := by decide +kernel
theorem dX5_perform_160 : decode cX5_perform 160 = .ok (.getfield 121, 3) := by decide +kernel
theorem dX5_perform_163 : decode cX5_perform 163 = .ok (.invokestatic 124, 3) := by decide +kernel
theorem dX5_perform_166 : decode cX5_perform 166 = .ok (.invokevirtual 242, 3) := by decide +kernel
theorem dX5_perform_169 : decode cX5_perform 169 = .ok (.goto 39, 3) := by decide +kernel
theorem dX5_perform_172 : decode cX5_perform 172 = .ok (.aload_n 0, 1) := by decide +kernel
theorem dX5_perform_173 : decode cX5_perform 173 = .ok (.getfield 43, 3) := by decide +kernel
theorem dX5_perform_176 : decode cX5_perform 176 = .ok (.aload_n 0, 1) := by decide +kernel
theorem dX5_perform_177 : decode cX5_perform 177 = .ok (.getfield 10, 3) := by decide +kernel
theorem dX5_perform_180 : decode cX5_perform 180 = .ok (.aload_n 0, 1) := by decide +kernel
theorem dX5_perform_181 : decode cX5_perform 181 = .ok (.getfield 36, 3) := by decide +kernel
theorem dX5_perform_184 : decode cX5_perform 184 = .ok (.iload_n 1, 1) := by decide +kernel
theorem dX5_perform_185 : decode cX5_perform 185 = .ok (.iconst 0, 1) := by decide +kernel
theorem dX5_perform_186 : decode cX5_perform 186 = .ok (.invokevirtual 239, 3) := by decide +kernel
theorem dX5_perform_189 : decode cX5_perform 189 = .ok (.iload_n 2, 1) := by decide +kernel
theorem dX5_perform_190 : decode cX5_perform 190 = .ok (.bipush 6, 2) := by decide +kernel
theorem dX5_perform_192 : decode cX5_perform 192 = .ok (.isub, 1) := by decide +kernel
theorem dX5_perform_193 : decode cX5_perform 193 = .ok (.aload_n 0, 1) := by decide +kernel
theorem dX5_perform_194 : decode cX5_perform 194 = .ok (.getfield 36, 3) := by decide +kernel
theorem dX5_perform_197 : decode cX5_perform 197 = .ok (.iload_n 1, 1) := by decide +kernel
theorem dX5_perform_198 : decode cX5_perform 198 = .ok (.iconst 1, 1) := by decide +kernel
theorem dX5_perform_199 : decode cX5_perform 199 = .ok (.invokevirtual 239, 3) := by decide +kernel
theorem dX5_perform_202 : decode cX5_perform 202 = .ok (.invokevirtual 67, 3) := by decide +kernel
theorem dX5_perform_205 : decode cX5_perform 205 = .ok (.invokevirtual 242, 3) := by decide +kernel
theorem dX5_perform_208 : decode cX5_perform 208 = .ok (.return_, 1) := by decide +kernel
theorem dX6_init_0 : decode cX6_init 0 = .ok (.aload_n 0, 1) := by decide +kernel
theorem dX6_init_1 : decode cX6_init 1 = .ok (.invokespecial 1, 3) := by decide +kernel
theorem dX6_init_4 : decode cX6_init 4 = .ok (.aload_n 0, 1) := by decide +kernel
theorem dX6_init_5 : decode cX6_init 5 = .ok (.bipush 60, 2) := by decide +kernel
theorem dX6_init_7 : decode cX6_init 7 = .ok (.newarray .int, 2) := by decide +kernel
theorem dX6_init_9 : decode cX6_init 9 = .ok (.putfield 7, 3) := by decide +kernel
theorem dX6_init_12 : decode cX6_init 12 = .ok (.aload_n 0, 1) := by decide +kernel
theorem dX6_init_13 : decode cX6_init 13 = .ok (.iconst 3, 1) := by decide +kernel
theorem dX6_init_14 : decode cX6_init 14 = .ok (.newarray .int, 2) := by decide +kernel
theorem dX6_init_16 : decode cX6_init 16 = .ok (.putfield 13, 3) := by decide +kernel
theorem dX6_init_19 : decode cX6_init 19 = .ok (.aload_n 0, 1) := by decide +kernel
theorem dX6_init_20 : decode cX6_init 20 = .ok (.bipush 12, 2) := by decide +kernel
theorem dX6_init_22 : decode cX6_init 22 = .ok (.newarray .int, 2) := by decide +kernel
theorem dX6_init_24 : decode cX6_init 24 = .ok (.putfield 16, 3) := by decide +kernel
theorem dX6_init_27 : decode cX6_init 27 = .ok (.aload_n 0, 1) := by decide +kernel
theorem dX6_init_28 : decode cX6_init 28 = .ok (.bipush 36, 2) := by decide +kernel
theorem dX6_init_30 : decode cX6_init 30 = .ok (.newarray .int, 2) := by decide +kernel
theorem dX6_init_32 : decode cX6_init 32 = .ok (.putfield 19, 3) := by decide +kernel
theorem dX6_init_35 : decode cX6_init 35 = .ok (.aload_n 0, 1) := by decide +kernel
theorem dX6_init_36 : decode cX6_init 36 = .ok (.bipush 36, 2) := by decide +kernel
theorem dX6_init_38 : decode cX6_init 38 = .ok (.newarray .int, 2) := by decide +kernel
theorem dX6_init_40 : decode cX6_init 40 = .ok (.putfield 22, 3) := by decide +kernel
theorem dX6_init_43 : decode cX6_init 43 = .ok (.aload_n 0, 1) := by decide +kernel
theorem dX6_init_44 : decode cX6_init 44 = .ok (.sipush 4096, 3) := by decide +kernel
theorem dX6_init_47 : decode cX6_init 47 = .ok (.newarray .boolean, 2) := by decide +kernel
theorem dX6_init_49 : decode cX6_init 49 = .ok (.putfield 25, 3) := by decide +kernel
theorem dX6_init_52 : decode cX6_init 52 = .ok (.aload_n 0, 1) := by decide +kernel
theorem dX6_init_53 : decode cX6_init 53 = .ok (.bipush 120, 2) := by decide +kernel
theorem dX6_init_55 : decode cX6_init 55 = .ok (.newarray .int, 2) := by decide +kernel
theorem dX6_init_57 : decode cX6_init 57 = .ok (.putfield 29, 3) := by decide +kernel
theorem dX6_init_60 : decode cX6_init 60 = .ok (.aload_n 0, 1) := by decide +kernel
theorem dX6_init_61 : decode cX6_init 61 = .ok (.sipush 300, 3) := by decide +kernel
theorem dX6_init_64 : decode cX6_init 64 = .ok (.newarray .int, 2) := by decide +kernel
theorem dX6_init_66 : decode cX6_init 66 = .ok (.putfield 32, 3) := by decide +kernel
theorem dX6_init_69 : decode cX6_init 69 = .ok (.aload_n 0, 1) := by decide +kernel
theorem dX6_init_70 : decode cX6_init 70 = .ok (.iconst 5, 1) := by decide +kernel
theorem dX6_init_71 : decode cX6_init 71 = .ok (.newarray .int, 2) := by decide +kernel
theorem dX6_init_73 : decode cX6_init 73 = .ok (.putfield 35, 3) := by decide +kernel
theorem dX6_init_76 : decode cX6_init 76 = .ok (.return_, 1) := by decide +kernel
theorem dX6_in_0 : decode cX6_in 0 = .ok (.lload_n 0, 1) := by decide +kernel
theorem dX6_in_1 : decode cX6_in 1 = .ok (.lload_n 2, 1) := by decide +kernel
theorem dX6_in_2 : decode cX6_in 2 = .ok (.lcmp, 1) := by decide +kernel
theorem dX6_in_3 : decode cX6_in 3 = .ok (.ifCond .lt 14, 3) := by decide +kernel
theorem dX6_in_6 : decode cX6_in 6 = .ok (.lload_n 0, 1) := by decide +kernel
theorem dX6_in_7 : decode cX6_in 7 = .ok (.lload 4, 2) := by decide +kernel
theorem dX6_in_9 : decode cX6_in 9 = .ok (.lcmp, 1) := by decide +kernel
theorem dX6_in_10 : decode cX6_in 10 = .ok (.ifCond .gt 7, 3) := by decide +kernel
theorem dX6_in_13 : decode cX6_in 13 = .ok (.iconst 1, 1) := by decide +kernel
theorem dX6_in_14 : decode cX6_in 14 = .ok (.goto 4, 3) := by decide +kernel
theorem dX6_in_17 : decode cX6_in 17 = .ok (.iconst 0, 1) := by decide +kernel
theorem dX6_in_18 : decode cX6_in 18 = .ok (.ireturn, 1) := by decide +kernel
theorem dX6_bad_0 : decode cX6_bad 0 = .ok (.aload_n 0, 1) := by decide +kernel
theorem dX6_bad_1 : decode cX6_bad 1 = .ok (.getfield 13, 3) := by decide +kernel
theorem dX6_bad_4 : decode cX6_bad 4 = .ok (.iconst 0, 1) := by decide +kernel
theorem dX6_bad_5 : decode cX6_bad 5 = .ok (.dup2, 1) := by decide +kernel
theorem dX6_bad_6 : decode cX6_bad 6 = .ok (.iaload, 1) := by decide +kernel
theorem dX6_bad_7 : decode cX6_bad 7 = .ok (.iconst 1, 1) := by decide +kernel
theorem dX6_bad_8 : decode cX6_bad 8 = .ok (.iadd, 1) := by decide +kernel
theorem dX6_bad_9 : decode cX6_bad 9 = .ok (.iastore, 1) := by decide +kernel
theorem dX6_bad_10 : decode cX6_bad 10 = .ok (.iload_n 1, 1) := by decide +kernel
theorem dX6_bad_11 : decode cX6_bad 11 = .ok (.ireturn, 1) := by decide +kernel
theorem dX6_full_0 : decode cX6_full 0 = .ok (.aload_n 0, 1) := by decide +kernel
theorem dX6_full_1 : decode cX6_full 1 = .ok (.getfield 13, 3) := by decide +kernel
theorem dX6_full_4 : decode cX6_full 4 = .ok (.iconst 2, 1) := by decide +kernel
theorem dX6_full_5 : decode cX6_full 5 = .ok (.dup2, 1) := by decide +kernel
theorem dX6_full_6 : decode cX6_full 6 = .ok (.iaload, 1) := by decide +kernel
theorem dX6_full_7 : decode cX6_full 7 = .ok (.iconst 1, 1) := by decide +kernel
theorem dX6_full_8 : decode cX6_full 8 = .ok (.iadd, 1) := by decide +kernel
theorem dX6_full_9 : decode cX6_full 9 = .ok (.iastore, 1) := by decide +kernel
theorem dX6_full_10 : decode cX6_full 10 = .ok (.bipush (-4), 2) := by decide +kernel
theorem dX6_full_12 : decode cX6_full 12 = .ok (.ireturn, 1) := by decide +kernel
theorem dX6_isUnit_0 : decode cX6_isUnit 0 = .ok (.iload_n 1, 1) := by decide +kernel
theorem dX6_isUnit_1 : decode cX6_isUnit 1 = .ok (.i2l, 1) := by decide +kernel
theorem dX6_isUnit_2 : decode cX6_isUnit 2 = .ok (.lconst 0, 1) := by decide +kernel
theorem dX6_isUnit_3 : decode cX6_isUnit 3 = .ok (.aload_n 0, 1) := by decide +kernel
theorem dX6_isUnit_4 : decode cX6_isUnit 4 = .ok (.getfield 38, 3) := by decide +kernel
theorem dX6_isUnit_7 : decode cX6_isUnit 7 = .ok (.iconst 1, 1) := by decide +kernel
theorem dX6_isUnit_8 : decode cX6_isUnit 8 = .ok (.isub, 1) := by decide +kernel
theorem dX6_isUnit_9 : decode cX6_isUnit 9 = .ok (.i2l, 1) := by decide +kernel
theorem dX6_isUnit_10 : decode cX6_isUnit 10 = .ok (.invokestatic 42, 3) := by decide +kernel
theorem dX6_isUnit_13 : decode cX6_isUnit 13 = .ok (.ireturn, 1) := by decide +kernel
theorem dX6_at_0 : decode cX6_at 0 = .ok (.aload_n 0, 1) := by decide +kernel
theorem dX6_at_1 : decode cX6_at 1 = .ok (.getfield 7, 3) := by decide +kernel
theorem dX6_at_4 : decode cX6_at 4 = .ok (.iconst 5, 1) := by decide +kernel
theorem dX6_at_5 : decode cX6_at 5 = .ok (.iload_n 1, 1) := by decide +kernel
theorem dX6_at_6 : decode cX6_at 6 = .ok (.imul, 1) := by decide +kernel
theorem dX6_at_7 : decode cX6_at 7 = .ok (.iload_n 2, 1) := by decide +kernel
theorem dX6_at_8 : decode cX6_at 8 = .ok (.iadd, 1) := by decide +kernel
theorem dX6_at_9 : decode cX6_at 9 = .ok (.iaload, 1) := by decide +kernel
theorem dX6_at_10 : decode cX6_at 10 = .ok (.ireturn, 1) := by decide +kernel
theorem dX6_mostOf_0 : decode cX6_mostOf 0 = .ok (.iload_n 0, 1) := by decide +kernel
theorem dX6_mostOf_1 : decode cX6_mostOf 1 = .ok (.ifCond .ne 8, 3) := by decide +kernel
theorem dX6_mostOf_4 : decode cX6_mostOf 4 = .ok (.bipush 12, 2) := by decide +kernel
theorem dX6_mostOf_6 : decode cX6_mostOf 6 = .ok (.goto 14, 3) := by decide +kernel
theorem dX6_mostOf_9 : decode cX6_mostOf 9 = .ok (.iload_n 0, 1) := by decide +kernel
theorem dX6_mostOf_10 : decode cX6_mostOf 10 = .ok (.iconst 2, 1) := by decide +kernel
theorem dX6_mostOf_11 : decode cX6_mostOf 11 = .ok (.if_icmp .ne 7, 3) := by decide +kernel
theorem dX6_mostOf_14 : decode cX6_mostOf 14 = .ok (.iconst 3, 1) := by decide +kernel
theorem dX6_mostOf_15 : decode cX6_mostOf 15 = .ok (.goto 5, 3) := by decide +kernel
theorem dX6_mostOf_18 : decode cX6_mostOf 18 = .ok (.bipush 99, 2) := by decide +kernel
theorem dX6_mostOf_20 : decode cX6_mostOf 20 = .ok (.ireturn, 1) := by decide +kernel
theorem dX6_has_0 : decode cX6_has 0 = .ok (.iload_n 0, 1) := by decide +kernel
theorem dX6_has_1 : decode cX6_has 1 = .ok (.iload_n 1, 1) := by decide +kernel
theorem dX6_has_2 : decode cX6_has 2 = .ok (.ishr, 1) := by decide +kernel
theorem dX6_has_3 : decode cX6_has 3 = .ok (.iconst 1, 1) := by decide +kernel
theorem dX6_has_4 : decode cX6_has 4 = .ok (.iand, 1) := by decide +kernel
theorem dX6_has_5 : decode cX6_has 5 = .ok (.iconst 1, 1) := by decide +kernel
theorem dX6_has_6 : decode cX6_has 6 = .ok (.if_icmp .ne 7, 3) := by decide +kernel
theorem dX6_has_9 : decode cX6_has 9 = .ok (.iconst 1, 1) := by decide +kernel
theorem dX6_has_10 : decode cX6_has 10 = .ok (.goto 4, 3) := by decide +kernel
theorem dX6_has_13 : decode cX6_has 13 = .ok (.iconst 0, 1) := by decide +kernel
theorem dX6_has_14 : decode cX6_has 14 = .ok (.ireturn, 1) := by decide +kernel
theorem dX6_bits_0 : decode cX6_bits 0 = .ok (.iconst 0, 1) := by decide +kernel
theorem dX6_bits_1 : decode cX6_bits 1 = .ok (.istore_n 1, 1) := by decide +kernel
theorem dX6_bits_2 : decode cX6_bits 2 = .ok (.iload_n 0, 1) := by decide +kernel
theorem dX6_bits_3 : decode cX6_bits 3 = .ok (.istore_n 2, 1) := by decide +kernel
theorem dX6_bits_4 : decode cX6_bits 4 = .ok (.iload_n 2, 1) := by decide +kernel
theorem dX6_bits_5 : decode cX6_bits 5 = .ok (.ifCond .le 16, 3) := by decide +kernel
theorem dX6_bits_8 : decode cX6_bits 8 = .ok (.iload_n 1, 1) := by decide +kernel
theorem dX6_bits_9 : decode cX6_bits 9 = .ok (.iload_n 2, 1) := by decide +kernel
theorem dX6_bits_10 : decode cX6_bits 10 = .ok (.iconst 1, 1) := by decide +kernel
theorem dX6_bits_11 : decode cX6_bits 11 = .ok (.iand, 1) := by decide +kernel
theorem dX6_bits_12 : decode cX6_bits 12 = .ok (.iadd, 1) := by decide +kernel
theorem dX6_bits_13 : decode cX6_bits 13 = .ok (.istore_n 1, 1) := by decide +kernel
theorem dX6_bits_14 : decode cX6_bits 14 = .ok (.iload_n 2, 1) := by decide +kernel
theorem dX6_bits_15 : decode cX6_bits 15 = .ok (.iconst 1, 1) := by decide +kernel
theorem dX6_bits_16 : decode cX6_bits 16 = .ok (.ishr, 1) := by decide +kernel
theorem dX6_bits_17 : decode cX6_bits 17 = .ok (.istore_n 2, 1) := by decide +kernel
theorem dX6_bits_18 : decode cX6_bits 18 = .ok (.goto (-14), 3) := by decide +kernel
theorem dX6_bits_21 : decode cX6_bits 21 = .ok (.iload_n 1, 1) := by decide +kernel
theorem dX6_bits_22 : decode cX6_bits 22 = .ok (.ireturn, 1) := by decide +kernel
theorem dX6_lays_0 : decode cX6_lays 0 = .ok (.iconst 5, 1) := by decide +kernel
theorem dX6_lays_1 : decode cX6_lays 1 = .ok (.aload_n 0, 1) := by decide +kernel
theorem dX6_lays_2 : decode cX6_lays 2 = .ok (.getfield 38, 3) := by decide +kernel
theorem dX6_lays_5 : decode cX6_lays 5 = .ok (.imul, 1) := by decide +kernel
theorem dX6_lays_6 : decode cX6_lays 6 = .ok (.istore 6, 2) := by decide +kernel
theorem dX6_lays_8 : decode cX6_lays 8 = .ok (.aload_n 0, 1) := by decide +kernel
theorem dX6_lays_9 : decode cX6_lays 9 = .ok (.getfield 7, 3) := by decide +kernel
theorem dX6_lays_12 : decode cX6_lays 12 = .ok (.iload 6, 2) := by decide +kernel
theorem dX6_lays_14 : decode cX6_lays 14 = .ok (.iload_n 1, 1) := by decide +kernel
theorem dX6_lays_15 : decode cX6_lays 15 = .ok (.iastore, 1) := by decide +kernel
theorem dX6_lays_16 : decode cX6_lays 16 = .ok (.aload_n 0, 1) := by decide +kernel
theorem dX6_lays_17 : decode cX6_lays 17 = .ok (.getfield 7, 3) := by decide +kernel
theorem dX6_lays_20 : decode cX6_lays 20 = .ok (.iload 6, 2) := by decide +kernel
theorem dX6_lays_22 : decode cX6_lays 22 = .ok (.iconst 1, 1) := by decide +kernel
theorem dX6_lays_23 : decode cX6_lays 23 = .ok (.iadd, 1) := by decide +kernel
theorem dX6_lays_24 : decode cX6_lays 24 = .ok (.iload_n 2, 1) := by decide +kernel
theorem dX6_lays_25 : decode cX6_lays 25 = .ok (.iastore, 1) := by decide +kernel
theorem dX6_lays_26 : decode cX6_lays 26 = .ok (.aload_n 0, 1) := by decide +kernel
theorem dX6_lays_27 : decode cX6_lays 27 = .ok (.getfield 7, 3) := by decide +kernel
theorem dX6_lays_30 : decode cX6_lays 30 = .ok (.iload 6, 2) := by decide +kernel
theorem dX6_lays_32 : decode cX6_lays 32 = .ok (.iconst 2, 1) := by decide +kernel
theorem dX6_lays_33 : decode cX6_lays 33 = .ok (.iadd, 1) := by decide +kernel
theorem dX6_lays_34 : decode cX6_lays 34 = .ok (.iload_n 3, 1) := by decide +kernel
theorem dX6_lays_35 : decode cX6_lays 35 = .ok (.iastore, 1) := by decide +kernel
theorem dX6_lays_36 : decode cX6_lays 36 = .ok (.aload_n 0, 1) := by decide +kernel
theorem dX6_lays_37 : decode cX6_lays 37 = .ok (.getfield 7, 3) := by decide +kernel
theorem dX6_lays_40 : decode cX6_lays 40 = .ok (.iload 6, 2) := by decide +kernel
theorem dX6_lays_42 : decode cX6_lays 42 = .ok (.iconst 3, 1) := by decide +kernel
theorem dX6_lays_43 : decode cX6_lays 43 = .ok (.iadd, 1) := by decide +kernel
theorem dX6_lays_44 : decode cX6_lays 44 = .ok (.iload 4, 2) := by decide +kernel
theorem dX6_lays_46 : decode cX6_lays 46 = .ok (.iastore, 1) := by decide +kernel
theorem dX6_lays_47 : decode cX6_lays 47 = .ok (.aload_n 0, 1) := by decide +kernel
theorem dX6_lays_48 : decode cX6_lays 48 = .ok (.getfield 7, 3) := by decide +kernel
theorem dX6_lays_51 : decode cX6_lays 51 = .ok (.iload 6, 2) := by decide +kernel
theorem dX6_lays_53 : decode cX6_lays 53 = .ok (.iconst 4, 1) := by decide +kernel
theorem dX6_lays_54 : decode cX6_lays 54 = .ok (.iadd, 1) := by decide +kernel
theorem dX6_lays_55 : decode cX6_lays 55 = .ok (.iload 5, 2) := by decide +kernel
theorem dX6_lays_57 : decode cX6_lays 57 = .ok (.iastore, 1) := by decide +kernel
theorem dX6_lays_58 : decode cX6_lays 58 = .ok (.aload_n 0, 1) := by decide +kernel
theorem dX6_lays_59 : decode cX6_lays 59 = .ok (.dup, 1) := by decide +kernel
theorem dX6_lays_60 : decode cX6_lays 60 = .ok (.getfield 38, 3) := by decide +kernel
theorem dX6_lays_63 : decode cX6_lays 63 = .ok (.iconst 1, 1) := by decide +kernel
theorem dX6_lays_64 : decode cX6_lays 64 = .ok (.iadd, 1) := by decide +kernel
theorem dX6_lays_65 : decode cX6_lays 65 = .ok (.putfield 38, 3) := by decide +kernel
theorem dX6_lays_68 : decode cX6_lays 68 = .ok (.return_, 1) := by decide +kernel
theorem dX6_unit_0 : decode cX6_unit 0 = .ok (.iload_n 1, 1) := by decide +kernel
theorem dX6_unit_1 : decode cX6_unit 1 = .ok (.i2l, 1) := by decide +kernel
theorem dX6_unit_2 : decode cX6_unit 2 = .ok (.lconst 0, 1) := by decide +kernel
theorem dX6_unit_3 : decode cX6_unit 3 = .ok (.iconst 0, 1) := by decide +kernel
theorem dX6_unit_4 : decode cX6_unit 4 = .ok (.invokestatic 46, 3) := by decide +kernel
theorem dX6_unit_7 : decode cX6_unit 7 = .ok (.i2l, 1) := by decide +kernel
theorem dX6_unit_8 : decode cX6_unit 8 = .ok (.invokestatic 42, 3) := by decide +kernel
theorem dX6_unit_11 : decode cX6_unit 11 = .ok (.ifCond .eq 61, 3) := by decide +kernel
theorem dX6_unit_14 : decode cX6_unit 14 = .ok (.iload_n 2, 1) := by decide +kernel
theorem dX6_unit_15 : decode cX6_unit 15 = .ok (.i2l, 1) := by decide +kernel
theorem dX6_unit_16 : decode cX6_unit 16 = .ok (.lconst 0, 1) := by decide +kernel
theorem dX6_unit_17 : decode cX6_unit 17 = .ok (.iconst 1, 1) := by decide +kernel
theorem dX6_unit_18 : decode cX6_unit 18 = .ok (.invokestatic 46, 3) := by decide +kernel
theorem dX6_unit_21 : decode cX6_unit 21 = .ok (.i2l, 1) := by decide +kernel
theorem dX6_unit_22 : decode cX6_unit 22 = .ok (.invokestatic 42, 3) := by decide +kernel
theorem dX6_unit_25 : decode cX6_unit 25 = .ok (.ifCond .eq 47, 3) := by decide +kernel
theorem dX6_unit_28 : decode cX6_unit 28 = .ok (.iload_n 3, 1) := by decide +kernel
theorem dX6_unit_29 : decode cX6_unit 29 = .ok (.i2l, 1) := by decide +kernel
theorem dX6_unit_30 : decode cX6_unit 30 = .ok (.lconst 0, 1) := by decide +kernel
theorem dX6_unit_31 : decode cX6_unit 31 = .ok (.iconst 2, 1) := by decide +kernel
theorem dX6_unit_32 : decode cX6_unit 32 = .ok (.invokestatic 46, 3) := by decide +kernel
theorem dX6_unit_35 : decode cX6_unit 35 = .ok (.i2l, 1) := by decide +kernel
theorem dX6_unit_36 : decode cX6_unit 36 = .ok (.invokestatic 42, 3) := by decide +kernel
theorem dX6_unit_39 : decode cX6_unit 39 = .ok (.ifCond .eq 33, 3) := by decide +kernel
theorem dX6_unit_42 : decode cX6_unit 42 = .ok (.iload 4, 2) := by decide +kernel
theorem dX6_unit_44 : decode cX6_unit 44 = .ok (.i2l, 1) := by decide +kernel
theorem dX6_unit_45 : decode cX6_unit 45 = .ok (.lconst 0, 1) := by decide +kernel
theorem dX6_unit_46 : decode cX6_unit 46 = .ok (.iconst 3, 1) := by decide +kernel
theorem dX6_unit_47 : decode cX6_unit 47 = .ok (.invokestatic 46, 3) := by decide +kernel
theorem dX6_unit_50 : decode cX6_unit 50 = .ok (.i2l, 1) := by decide +kernel
theorem dX6_unit_51 : decode cX6_unit 51 = .ok (.invokestatic 42, 3) := by decide +kernel
theorem dX6_unit_54 : decode cX6_unit 54 = .ok (.ifCond .eq 18, 3) := by decide +kernel
theorem dX6_unit_57 : decode cX6_unit 57 = .ok (.iload 5, 2) := by decide +kernel
theorem dX6_unit_59 : decode cX6_unit 59 = .ok (.i2l, 1) := by decide +kernel
theorem dX6_unit_60 : decode cX6_unit 60 = .ok (.lconst 0, 1) := by decide +kernel
theorem dX6_unit_61 : decode cX6_unit 61 = .ok (.iconst 4, 1) := by decide +kernel
theorem dX6_unit_62 : decode cX6_unit 62 = .ok (.invokestatic 46, 3) := by decide +kernel
theorem dX6_unit_65 : decode cX6_unit 65 = .ok (.i2l, 1) := by decide +kernel
theorem dX6_unit_66 : decode cX6_unit 66 = .ok (.invokestatic 42, 3) := by decide +kernel
theorem dX6_unit_69 : decode cX6_unit 69 = .ok (.ifCond .ne 10, 3) := by decide +kernel
theorem dX6_unit_72 : decode cX6_unit 72 = .ok (.aload_n 0, 1) := by decide +kernel
theorem dX6_unit_73 : decode cX6_unit 73 = .ok (.bipush (-2), 2) := by decide +kernel
theorem dX6_unit_75 : decode cX6_unit 75 = .ok (.invokevirtual 50, 3) := by decide +kernel
theorem dX6_unit_78 : decode cX6_unit 78 = .ok (.ireturn, 1) := by decide +kernel
theorem dX6_unit_79 : decode cX6_unit 79 = .ok (.aload_n 0, 1) := by decide +kernel
theorem dX6_unit_80 : decode cX6_unit 80 = .ok (.getfield 38, 3) := by decide +kernel
theorem dX6_unit_83 : decode cX6_unit 83 = .ok (.bipush 12, 2) := by decide +kernel
theorem dX6_unit_85 : decode cX6_unit 85 = .ok (.if_icmp .ne 8, 3) := by decide +kernel
theorem dX6_unit_88 : decode cX6_unit 88 = .ok (.aload_n 0, 1) := by decide +kernel
theorem dX6_unit_89 : decode cX6_unit 89 = .ok (.invokevirtual 53, 3) := by decide +kernel
theorem dX6_unit_92 : decode cX6_unit 92 = .ok (.ireturn, 1) := by decide +kernel
theorem dX6_unit_93 : decode cX6_unit 93 = .ok (.aload_n 0, 1) := by decide +kernel
theorem dX6_unit_94 : decode cX6_unit 94 = .ok (.iload_n 1, 1) := by decide +kernel
theorem dX6_unit_95 : decode cX6_unit 95 = .ok (.iload_n 2, 1) := by decide +kernel
theorem dX6_unit_96 : decode cX6_unit 96 = .ok (.iload_n 3, 1) := by decide +kernel
theorem dX6_unit_97 : decode cX6_unit 97 = .ok (.iload 4, 2) := by decide +kernel
theorem dX6_unit_99 : decode cX6_unit 99 = .ok (.iload 5, 2) := by decide +kernel
theorem dX6_unit_101 : decode cX6_unit 101 = .ok (.invokevirtual 57, 3) := by decide +kernel
theorem dX6_unit_104 : decode cX6_unit 104 = .ok (.aload_n 0, 1) := by decide +kernel
theorem dX6_unit_105 : decode cX6_unit 105 = .ok (.getfield 38, 3) := by decide +kernel
theorem dX6_unit_108 : decode cX6_unit 108 = .ok (.iconst 1, 1) := by decide +kernel
theorem dX6_unit_109 : decode cX6_unit 109 = .ok (.isub, 1) := by decide +kernel
theorem dX6_unit_110 : decode cX6_unit 110 = .ok (.ireturn, 1) := by decide +kernel
theorem dX6_becomes_0 : decode cX6_becomes 0 = .ok (.aload_n 0, 1) := by decide +kernel
theorem dX6_becomes_1 : decode cX6_becomes 1 = .ok (.iload_n 1, 1) := by decide +kernel
theorem dX6_becomes_2 : decode cX6_becomes 2 = .ok (.iload_n 2, 1) := by decide +kernel
theorem dX6_becomes_3 : decode cX6_becomes 3 = .ok (.invokevirtual 61, 3) := by decide +kernel
theorem dX6_becomes_6 : decode cX6_becomes 6 = .ok (.istore 4, 2) := by decide +kernel
theorem dX6_becomes_8 : decode cX6_becomes 8 = .ok (.aload_n 0, 1) := by decide +kernel
theorem dX6_becomes_9 : decode cX6_becomes 9 = .ok (.getfield 7, 3) := by decide +kernel
theorem dX6_becomes_12 : decode cX6_becomes 12 = .ok (.iconst 5, 1) := by decide +kernel
theorem dX6_becomes_13 : decode cX6_becomes 13 = .ok (.iload_n 1, 1) := by decide +kernel
theorem dX6_becomes_14 : decode cX6_becomes 14 = .ok (.imul, 1) := by decide +kernel
theorem dX6_becomes_15 : decode cX6_becomes 15 = .ok (.iload_n 2, 1) := by decide +kernel
theorem dX6_becomes_16 : decode cX6_becomes 16 = .ok (.iadd, 1) := by decide +kernel
theorem dX6_becomes_17 : decode cX6_becomes 17 = .ok (.iload_n 3, 1) := by decide +kernel
theorem dX6_becomes_18 : decode cX6_becomes 18 = .ok (.iastore, 1) := by decide +kernel
theorem dX6_becomes_19 : decode cX6_becomes 19 = .ok (.iload 4, 2) := by decide +kernel
theorem dX6_becomes_21 : decode cX6_becomes 21 = .ok (.ireturn, 1) := by decide +kernel
theorem dX6_sets_0 : decode cX6_sets 0 = .ok (.aload_n 0, 1) := by decide +kernel
theorem dX6_sets_1 : decode cX6_sets 1 = .ok (.iload_n 1, 1) := by decide +kernel
theorem dX6_sets_2 : decode cX6_sets 2 = .ok (.invokevirtual 65, 3) := by decide +kernel
theorem dX6_sets_5 : decode cX6_sets 5 = .ok (.ifCond .eq 29, 3) := by decide +kernel
theorem dX6_sets_8 : decode cX6_sets 8 = .ok (.iload_n 2, 1) := by decide +kernel
theorem dX6_sets_9 : decode cX6_sets 9 = .ok (.i2l, 1) := by decide +kernel
theorem dX6_sets_10 : decode cX6_sets 10 = .ok (.lconst 0, 1) := by decide +kernel
theorem dX6_sets_11 : decode cX6_sets 11 = .ok (.ldc2_w 69, 3) := by decide +kernel
theorem dX6_sets_14 : decode cX6_sets 14 = .ok (.invokestatic 42, 3) := by decide +kernel
theorem dX6_sets_17 : decode cX6_sets 17 = .ok (.ifCond .eq 17, 3) := by decide +kernel
theorem dX6_sets_20 : decode cX6_sets 20 = .ok (.iload_n 3, 1) := by decide +kernel
theorem dX6_sets_21 : decode cX6_sets 21 = .ok (.i2l, 1) := by decide +kernel
theorem dX6_sets_22 : decode cX6_sets 22 = .ok (.lconst 0, 1) := by decide +kernel
theorem dX6_sets_23 : decode cX6_sets 23 = .ok (.iload_n 2, 1) := by decide +kernel
theorem dX6_sets_24 : decode cX6_sets 24 = .ok (.invokestatic 46, 3) := by decide +kernel
theorem dX6_sets_27 : decode cX6_sets 27 = .ok (.i2l, 1) := by decide +kernel
theorem dX6_sets_28 : decode cX6_sets 28 = .ok (.invokestatic 42, 3) := by decide +kernel
theorem dX6_sets_31 : decode cX6_sets 31 = .ok (.ifCond .ne 10, 3) := by decide +kernel
theorem dX6_sets_34 : decode cX6_sets 34 = .ok (.aload_n 0, 1) := by decide +kernel
theorem dX6_sets_35 : decode cX6_sets 35 = .ok (.bipush (-2), 2) := by decide +kernel
theorem dX6_sets_37 : decode cX6_sets 37 = .ok (.invokevirtual 50, 3) := by decide +kernel
theorem dX6_sets_40 : decode cX6_sets 40 = .ok (.ireturn, 1) := by decide +kernel
theorem dX6_sets_41 : decode cX6_sets 41 = .ok (.aload_n 0, 1) := by decide +kernel
theorem dX6_sets_42 : decode cX6_sets 42 = .ok (.iload_n 1, 1) := by decide +kernel
theorem dX6_sets_43 : decode cX6_sets 43 = .ok (.iload_n 2, 1) := by decide +kernel
theorem dX6_sets_44 : decode cX6_sets 44 = .ok (.iload_n 3, 1) := by decide +kernel
theorem dX6_sets_45 : decode cX6_sets 45 = .ok (.invokevirtual 71, 3) := by decide +kernel
theorem dX6_sets_48 : decode cX6_sets 48 = .ok (.ireturn, 1) := by decide +kernel
theorem dX6_goesEmpty_0 : decode cX6_goesEmpty 0 = .ok (.aload_n 0, 1) := by decide +kernel
theorem dX6_goesEmpty_1 : decode cX6_goesEmpty 1 = .ok (.iconst 0, 1) := by decide +kernel
theorem dX6_goesEmpty_2 : decode cX6_goesEmpty 2 = .ok (.putfield 38, 3) := by decide +kernel
theorem dX6_goesEmpty_5 : decode cX6_goesEmpty 5 = .ok (.aload_n 0, 1) := by decide +kernel
theorem dX6_goesEmpty_6 : decode cX6_goesEmpty 6 = .ok (.iconst 0, 1) := by decide +kernel
theorem dX6_goesEmpty_7 : decode cX6_goesEmpty 7 = .ok (.putfield 75, 3) := by decide +kernel
theorem dX6_goesEmpty_10 : decode cX6_goesEmpty 10 = .ok (.aload_n 0, 1) := by decide +kernel
theorem dX6_goesEmpty_11 : decode cX6_goesEmpty 11 = .ok (.iconst 0, 1) := by decide +kernel
theorem dX6_goesEmpty_12 : decode cX6_goesEmpty 12 = .ok (.putfield 78, 3) := by decide +kernel
theorem dX6_goesEmpty_15 : decode cX6_goesEmpty 15 = .ok (.aload_n 0, 1) := by decide +kernel
theorem dX6_goesEmpty_16 : decode cX6_goesEmpty 16 = .ok (.iconst 0, 1) := by decide +kernel
theorem dX6_goesEmpty_17 : decode cX6_goesEmpty 17 = .ok (.putfield 81, 3) := by decide +kernel
theorem dX6_goesEmpty_20 : decode cX6_goesEmpty 20 = .ok (.aload_n 0, 1) := by decide +kernel
theorem dX6_goesEmpty_21 : decode cX6_goesEmpty 21 = .ok (.iconst 0, 1) := by decide +kernel
theorem dX6_goesEmpty_22 : decode cX6_goesEmpty 22 = .ok (.putfield 84, 3) := by decide +kernel
theorem dX6_goesEmpty_25 : decode cX6_goesEmpty 25 = .ok (.return_, 1) := by decide +kernel
theorem dX6_empties_0 : decode cX6_empties 0 = .ok (.aload_n 0, 1) := by decide +kernel
theorem dX6_empties_1 : decode cX6_empties 1 = .ok (.getfield 38, 3) := by decide +kernel
theorem dX6_empties_4 : decode cX6_empties 4 = .ok (.istore_n 1, 1) := by decide +kernel
theorem dX6_empties_5 : decode cX6_empties 5 = .ok (.aload_n 0, 1) := by decide +kernel
theorem dX6_empties_6 : decode cX6_empties 6 = .ok (.invokevirtual 87, 3) := by decide +kernel
theorem dX6_empties_9 : decode cX6_empties 9 = .ok (.iload_n 1, 1) := by decide +kernel
theorem dX6_empties_10 : decode cX6_empties 10 = .ok (.ireturn, 1) := by decide +kernel
theorem dX6_next_0 : decode cX6_next 0 = .ok (.lload_n 0, 1) := by decide +kernel
theorem dX6_next_1 : decode cX6_next 1 = .ok (.ldc2_w 90, 3) := by decide +kernel
theorem dX6_next_4 : decode cX6_next 4 = .ok (.lmul, 1) := by decide +kernel
theorem dX6_next_5 : decode cX6_next 5 = .ok (.ldc2_w 92, 3) := by decide +kernel
theorem dX6_next_8 : decode cX6_next 8 = .ok (.ladd, 1) := by decide +kernel
theorem dX6_next_9 : decode cX6_next 9 = .ok (.ldc2_w 94, 3) := by decide +kernel
theorem dX6_next_12 : decode cX6_next 12 = .ok (.lrem, 1) := by decide +kernel
theorem dX6_next_13 : decode cX6_next 13 = .ok (.lreturn, 1) := by decide +kernel
theorem dX6_draw_0 : decode cX6_draw 0 = .ok (.iload_n 1, 1) := by decide +kernel
theorem dX6_draw_1 : decode cX6_draw 1 = .ok (.i2l, 1) := by decide +kernel
theorem dX6_draw_2 : decode cX6_draw 2 = .ok (.lconst 0, 1) := by decide +kernel
theorem dX6_draw_3 : decode cX6_draw 3 = .ok (.ldc2_w 96, 3) := by decide +kernel
theorem dX6_draw_6 : decode cX6_draw 6 = .ok (.invokestatic 42, 3) := by decide +kernel
theorem dX6_draw_9 : decode cX6_draw 9 = .ok (.ifCond .eq 15, 3) := by decide +kernel
theorem dX6_draw_12 : decode cX6_draw 12 = .ok (.iload_n 2, 1) := by decide +kernel
theorem dX6_draw_13 : decode cX6_draw 13 = .ok (.i2l, 1) := by decide +kernel
theorem dX6_draw_14 : decode cX6_draw 14 = .ok (.lconst 0, 1) := by decide +kernel
theorem dX6_draw_15 : decode cX6_draw 15 = .ok (.ldc2_w 98, 3) := by decide +kernel
theorem dX6_draw_18 : decode cX6_draw 18 = .ok (.invokestatic 42, 3) := by decide +kernel
theorem dX6_draw_21 : decode cX6_draw 21 = .ok (.ifCond .ne 10, 3) := by decide +kernel
theorem dX6_draw_24 : decode cX6_draw 24 = .ok (.aload_n 0, 1) := by decide +kernel
theorem dX6_draw_25 : decode cX6_draw 25 = .ok (.bipush (-2), 2) := by decide +kernel
theorem dX6_draw_27 : decode cX6_draw 27 = .ok (.invokevirtual 50, 3) := by decide +kernel
theorem dX6_draw_30 : decode cX6_draw 30 = .ok (.ireturn, 1) := by decide +kernel
theorem dX6_draw_31 : decode cX6_draw 31 = .ok (.iload_n 1, 1) := by decide +kernel
theorem dX6_draw_32 : decode cX6_draw 32 = .ok (.i2l, 1) := by decide +kernel
theorem dX6_draw_33 : decode cX6_draw 33 = .ok (.lstore_n 3, 1) := by decide +kernel
theorem dX6_draw_34 : decode cX6_draw 34 = .ok (.iconst 0, 1) := by decide +kernel
theorem dX6_draw_35 : decode cX6_draw 35 = .ok (.istore 5, 2) := by decide +kernel
theorem dX6_draw_37 : decode cX6_draw 37 = .ok (.aload_n 0, 1) := by decide +kernel
theorem dX6_draw_38 : decode cX6_draw 38 = .ok (.invokevirtual 87, 3) := by decide +kernel
theorem dX6_draw_41 : decode cX6_draw 41 = .ok (.iconst 0, 1) := by decide +kernel
theorem dX6_draw_42 : decode cX6_draw 42 = .ok (.istore 6, 2) := by decide +kernel
theorem dX6_draw_44 : decode cX6_draw 44 = .ok (.iload 6, 2) := by decide +kernel
theorem dX6_draw_46 : decode cX6_draw 46 = .ok (.iload_n 2, 1) := by decide +kernel
theorem dX6_draw_47 : decode cX6_draw 47 = .ok (.if_icmp .ge 80, 3) := by decide +kernel
theorem dX6_draw_50 : decode cX6_draw 50 = .ok (.lload_n 3, 1) := by decide +kernel
theorem dX6_draw_51 : decode cX6_draw 51 = .ok (.invokestatic 100, 3) := by decide +kernel
theorem dX6_draw_54 : decode cX6_draw 54 = .ok (.lstore_n 3, 1) := by decide +kernel
theorem dX6_draw_55 : decode cX6_draw 55 = .ok (.aload_n 0, 1) := by decide +kernel
theorem dX6_draw_56 : decode cX6_draw 56 = .ok (.lload_n 3, 1) := by decide +kernel
theorem dX6_draw_57 : decode cX6_draw 57 = .ok (.ldc2_w 104, 3) := by decide +kernel
theorem dX6_draw_60 : decode cX6_draw 60 = .ok (.ldiv, 1) := by decide +kernel
theorem dX6_draw_61 : decode cX6_draw 61 = .ok (.ldc2_w 106, 3) := by decide +kernel
theorem dX6_draw_64 : decode cX6_draw 64 = .ok (.lrem, 1) := by decide +kernel
theorem dX6_draw_65 : decode cX6_draw 65 = .ok (.l2i, 1) := by decide +kernel
theorem dX6_draw_66 : decode cX6_draw 66 = .ok (.lload_n 3, 1) := by decide +kernel
theorem dX6_draw_67 : decode cX6_draw 67 = .ok (.ldc2_w 108, 3) := by decide +kernel
theorem dX6_draw_70 : decode cX6_draw 70 = .ok (.ldiv, 1) := by decide +kernel
theorem dX6_draw_71 : decode cX6_draw 71 = .ok (.ldc2_w 110, 3) := by decide +kernel
theorem dX6_draw_74 : decode cX6_draw 74 = .ok (.lrem, 1) := by decide +kernel
theorem dX6_draw_75 : decode cX6_draw 75 = .ok (.l2i, 1) := by decide +kernel
theorem dX6_draw_76 : decode cX6_draw 76 = .ok (.lload_n 3, 1) := by decide +kernel
theorem dX6_draw_77 : decode cX6_draw 77 = .ok (.ldc2_w 112, 3) := by decide +kernel
theorem dX6_draw_80 : decode cX6_draw 80 = .ok (.ldiv, 1) := by decide +kernel
theorem dX6_draw_81 : decode cX6_draw 81 = .ok (.ldc2_w 69, 3) := by decide +kernel
theorem dX6_draw_84 : decode cX6_draw 84 = .ok (.lrem, 1) := by decide +kernel
theorem dX6_draw_85 : decode cX6_draw 85 = .ok (.l2i, 1) := by decide +kernel
theorem dX6_draw_86 : decode cX6_draw 86 = .ok (.lload_n 3, 1) := by decide +kernel
theorem dX6_draw_87 : decode cX6_draw 87 = .ok (.ldc2_w 114, 3) := by decide +kernel
theorem dX6_draw_90 : decode cX6_draw 90 = .ok (.ldiv, 1) := by decide +kernel
theorem dX6_draw_91 : decode cX6_draw 91 = .ok (.ldc2_w 110, 3) := by decide +kernel
theorem dX6_draw_94 : decode cX6_draw 94 = .ok (.lrem, 1) := by decide +kernel
theorem dX6_draw_95 : decode cX6_draw 95 = .ok (.l2i, 1) := by decide +kernel
theorem dX6_draw_96 : decode cX6_draw 96 = .ok (.lload_n 3, 1) := by decide +kernel
theorem dX6_draw_97 : decode cX6_draw 97 = .ok (.ldc2_w 116, 3) := by decide +kernel
theorem dX6_draw_100 : decode cX6_draw 100 = .ok (.ldiv, 1) := by decide +kernel
theorem dX6_draw_101 : decode cX6_draw 101 = .ok (.ldc2_w 110, 3) := by decide +kernel
theorem dX6_draw_104 : decode cX6_draw 104 = .ok (.lrem, 1) := by decide +kernel
theorem dX6_draw_105 : decode cX6_draw 105 = .ok (.l2i, 1) := by decide +kernel
theorem dX6_draw_106 : decode cX6_draw 106 = .ok (.invokevirtual 57, 3) := by decide +kernel
theorem dX6_draw_109 : decode cX6_draw 109 = .ok (.iload 5, 2) := by decide +kernel
theorem dX6_draw_111 : decode cX6_draw 111 = .ok (.aload_n 0, 1) := by decide +kernel
theorem dX6_draw_112 : decode cX6_draw 112 = .ok (.iload 6, 2) := by decide +kernel
theorem dX6_draw_114 : decode cX6_draw 114 = .ok (.iconst 0, 1) := by decide +kernel
theorem dX6_draw_115 : decode cX6_draw 115 = .ok (.invokevirtual 61, 3) := by decide +kernel
theorem dX6_draw_118 : decode cX6_draw 118 = .ok (.iadd, 1) := by decide +kernel
theorem dX6_draw_119 : decode cX6_draw 119 = .ok (.istore 5, 2) := by decide +kernel
theorem dX6_draw_121 : decode cX6_draw 121 = .ok (.iinc 6 1, 3) := by decide +kernel
theorem dX6_draw_124 : decode cX6_draw 124 = .ok (.goto (-80), 3) := by decide +kernel
theorem dX6_draw_127 : decode cX6_draw 127 = .ok (.iload 5, 2) := by decide +kernel
theorem dX6_draw_129 : decode cX6_draw 129 = .ok (.ireturn, 1) := by decide +kernel
theorem dX6_of_0 : decode cX6_of 0 = .ok (.aload_n 0, 1) := by decide +kernel
theorem dX6_of_1 : decode cX6_of 1 = .ok (.iload_n 1, 1) := by decide +kernel
theorem dX6_of_2 : decode cX6_of 2 = .ok (.invokevirtual 65, 3) := by decide +kernel
theorem dX6_of_5 : decode cX6_of 5 = .ok (.ifCond .eq 15, 3) := by decide +kernel
theorem dX6_of_8 : decode cX6_of 8 = .ok (.iload_n 2, 1) := by decide +kernel
theorem dX6_of_9 : decode cX6_of 9 = .ok (.i2l, 1) := by decide +kernel
theorem dX6_of_10 : decode cX6_of 10 = .ok (.lconst 0, 1) := by decide +kernel
theorem dX6_of_11 : decode cX6_of 11 = .ok (.ldc2_w 118, 3) := by decide +kernel
theorem dX6_of_14 : decode cX6_of 14 = .ok (.invokestatic 42, 3) := by decide +kernel
theorem dX6_of_17 : decode cX6_of 17 = .ok (.ifCond .ne 10, 3) := by decide +kernel
theorem dX6_of_20 : decode cX6_of 20 = .ok (.aload_n 0, 1) := by decide +kernel
theorem dX6_of_21 : decode cX6_of 21 = .ok (.bipush (-2), 2) := by decide +kernel
theorem dX6_of_23 : decode cX6_of 23 = .ok (.invokevirtual 50, 3) := by decide +kernel
theorem dX6_of_26 : decode cX6_of 26 = .ok (.ireturn, 1) := by decide +kernel
theorem dX6_of_27 : decode cX6_of 27 = .ok (.iload_n 2, 1) := by decide +kernel
theorem dX6_of_28 : decode cX6_of 28 = .ok (.iconst 5, 1) := by decide +kernel
theorem dX6_of_29 : decode cX6_of 29 = .ok (.if_icmp .ge 12, 3) := by decide +kernel
theorem dX6_of_32 : decode cX6_of 32 = .ok (.aload_n 0, 1) := by decide +kernel
theorem dX6_of_33 : decode cX6_of 33 = .ok (.iload_n 1, 1) := by decide +kernel
theorem dX6_of_34 : decode cX6_of 34 = .ok (.iload_n 2, 1) := by decide +kernel
theorem dX6_of_35 : decode cX6_of 35 = .ok (.invokevirtual 61, 3) := by decide +kernel
theorem dX6_of_38 : decode cX6_of 38 = .ok (.goto 19, 3) := by decide +kernel
theorem dX6_of_41 : decode cX6_of 41 = .ok (.aload_n 0, 1) := by decide +kernel
theorem dX6_of_42 : decode cX6_of 42 = .ok (.getfield 75, 3) := by decide +kernel
theorem dX6_of_45 : decode cX6_of 45 = .ok (.iload_n 1, 1) := by decide +kernel
theorem dX6_of_46 : decode cX6_of 46 = .ok (.invokestatic 120, 3) := by decide +kernel
theorem dX6_of_49 : decode cX6_of 49 = .ok (.ifCond .eq 7, 3) := by decide +kernel
theorem dX6_of_52 : decode cX6_of 52 = .ok (.iconst 1, 1) := by decide +kernel
theorem dX6_of_53 : decode cX6_of 53 = .ok (.goto 4, 3) := by decide +kernel
theorem dX6_of_56 : decode cX6_of 56 = .ok (.iconst 0, 1) := by decide +kernel
theorem dX6_of_57 : decode cX6_of 57 = .ok (.ireturn, 1) := by decide +kernel
theorem dX6_sumOf_0 : decode cX6_sumOf 0 = .ok (.iconst 0, 1) := by decide +kernel
theorem dX6_sumOf_1 : decode cX6_sumOf 1 = .ok (.istore_n 2, 1) := by decide +kernel
theorem dX6_sumOf_2 : decode cX6_sumOf 2 = .ok (.iconst 0, 1) := by decide +kernel
theorem dX6_sumOf_3 : decode cX6_sumOf 3 = .ok (.istore_n 3, 1) := by decide +kernel
theorem dX6_sumOf_4 : decode cX6_sumOf 4 = .ok (.iload_n 3, 1) := by decide +kernel
theorem dX6_sumOf_5 : decode cX6_sumOf 5 = .ok (.aload_n 0, 1) := by decide +kernel
theorem dX6_sumOf_6 : decode cX6_sumOf 6 = .ok (.getfield 38, 3) := by decide +kernel
theorem dX6_sumOf_9 : decode cX6_sumOf 9 = .ok (.if_icmp .ge 31, 3) := by decide +kernel
theorem dX6_sumOf_12 : decode cX6_sumOf 12 = .ok (.iload_n 2, 1) := by decide +kernel
theorem dX6_sumOf_13 : decode cX6_sumOf 13 = .ok (.aload_n 0, 1) := by decide +kernel
theorem dX6_sumOf_14 : decode cX6_sumOf 14 = .ok (.iload_n 3, 1) := by decide +kernel
theorem dX6_sumOf_15 : decode cX6_sumOf 15 = .ok (.iconst 0, 1) := by decide +kernel
theorem dX6_sumOf_16 : decode cX6_sumOf 16 = .ok (.invokevirtual 61, 3) := by decide +kernel
theorem dX6_sumOf_19 : decode cX6_sumOf 19 = .ok (.ifCond .le 12, 3) := by decide +kernel
theorem dX6_sumOf_22 : decode cX6_sumOf 22 = .ok (.aload_n 0, 1) := by decide +kernel
theorem dX6_sumOf_23 : decode cX6_sumOf 23 = .ok (.iload_n 3, 1) := by decide +kernel
theorem dX6_sumOf_24 : decode cX6_sumOf 24 = .ok (.iload_n 1, 1) := by decide +kernel
theorem dX6_sumOf_25 : decode cX6_sumOf 25 = .ok (.invokevirtual 61, 3) := by decide +kernel
theorem dX6_sumOf_28 : decode cX6_sumOf 28 = .ok (.goto 4, 3) := by decide +kernel
theorem dX6_sumOf_31 : decode cX6_sumOf 31 = .ok (.iconst 0, 1) := by decide +kernel
theorem dX6_sumOf_32 : decode cX6_sumOf 32 = .ok (.iadd, 1) := by decide +kernel
theorem dX6_sumOf_33 : decode cX6_sumOf 33 = .ok (.istore_n 2, 1) := by decide +kernel
theorem dX6_sumOf_34 : decode cX6_sumOf 34 = .ok (.iinc 3 1, 3) := by decide +kernel
theorem dX6_sumOf_37 : decode cX6_sumOf 37 = .ok (.goto (-33), 3) := by decide +kernel
theorem dX6_sumOf_40 : decode cX6_sumOf 40 = .ok (.iload_n 2, 1) := by decide +kernel
theorem dX6_sumOf_41 : decode cX6_sumOf 41 = .ok (.ireturn, 1) := by decide +kernel
theorem dX6_opens_0 : decode cX6_opens 0 = .ok (.iconst 0, 1) := by decide +kernel
theorem dX6_opens_1 : decode cX6_opens 1 = .ok (.istore_n 1, 1) := by decide +kernel
theorem dX6_opens_2 : decode cX6_opens 2 = .ok (.iconst 0, 1) := by decide +kernel
theorem dX6_opens_3 : decode cX6_opens 3 = .ok (.istore_n 2, 1) := by decide +kernel
theorem dX6_opens_4 : decode cX6_opens 4 = .ok (.iload_n 2, 1) := by decide +kernel
theorem dX6_opens_5 : decode cX6_opens 5 = .ok (.aload_n 0, 1) := by decide +kernel
theorem dX6_opens_6 : decode cX6_opens 6 = .ok (.getfield 38, 3) := by decide +kernel
theorem dX6_opens_9 : decode cX6_opens 9 = .ok (.if_icmp .ge 34, 3) := by decide +kernel
theorem dX6_opens_12 : decode cX6_opens 12 = .ok (.iload_n 1, 1) := by decide +kernel
theorem dX6_opens_13 : decode cX6_opens 13 = .ok (.aload_n 0, 1) := by decide +kernel
theorem dX6_opens_14 : decode cX6_opens 14 = .ok (.iload_n 2, 1) := by decide +kernel
theorem dX6_opens_15 : decode cX6_opens 15 = .ok (.iconst 0, 1) := by decide +kernel
theorem dX6_opens_16 : decode cX6_opens 16 = .ok (.invokevirtual 61, 3) := by decide +kernel
theorem dX6_opens_19 : decode cX6_opens 19 = .ok (.i2l, 1) := by decide +kernel
theorem dX6_opens_20 : decode cX6_opens 20 = .ok (.lconst 1, 1) := by decide +kernel
theorem dX6_opens_21 : decode cX6_opens 21 = .ok (.ldc2_w 124, 3) := by decide +kernel
theorem dX6_opens_24 : decode cX6_opens 24 = .ok (.invokestatic 42, 3) := by decide +kernel
theorem dX6_opens_27 : decode cX6_opens 27 = .ok (.ifCond .eq 7, 3) := by decide +kernel
theorem dX6_opens_30 : decode cX6_opens 30 = .ok (.iconst 1, 1) := by decide +kernel
theorem dX6_opens_31 : decode cX6_opens 31 = .ok (.goto 4, 3) := by decide +kernel
theorem dX6_opens_34 : decode cX6_opens 34 = .ok (.iconst 0, 1) := by decide +kernel
theorem dX6_opens_35 : decode cX6_opens 35 = .ok (.iadd, 1) := by decide +kernel
theorem dX6_opens_36 : decode cX6_opens 36 = .ok (.istore_n 1, 1) := by decide +kernel
theorem dX6_opens_37 : decode cX6_opens 37 = .ok (.iinc 2 1, 3) := by decide +kernel
theorem dX6_opens_40 : decode cX6_opens 40 = .ok (.goto (-36), 3) := by decide +kernel
theorem dX6_opens_43 : decode cX6_opens 43 = .ok (.iload_n 1, 1) := by decide +kernel
theorem dX6_opens_44 : decode cX6_opens 44 = .ok (.ireturn, 1) := by decide +kernel
theorem dX6_all_0 : decode cX6_all 0 = .ok (.iload_n 1, 1) := by decide +kernel
theorem dX6_all_1 : decode cX6_all 1 = .ok (.i2l, 1) := by decide +kernel
theorem dX6_all_2 : decode cX6_all 2 = .ok (.lconst 0, 1) := by decide +kernel
theorem dX6_all_3 : decode cX6_all 3 = .ok (.ldc2_w 126, 3) := by decide +kernel
theorem dX6_all_6 : decode cX6_all 6 = .ok (.invokestatic 42, 3) := by decide +kernel
theorem dX6_all_9 : decode cX6_all 9 = .ok (.ifCond .ne 10, 3) := by decide +kernel
theorem dX6_all_12 : decode cX6_all 12 = .ok (.aload_n 0, 1) := by decide +kernel
theorem dX6_all_13 : decode cX6_all 13 = .ok (.bipush (-2), 2) := by decide +kernel
theorem dX6_all_15 : decode cX6_all 15 = .ok (.invokevirtual 50, 3) := by decide +kernel
theorem dX6_all_18 : decode cX6_all 18 = .ok (.ireturn, 1) := by decide +kernel
theorem dX6_all_19 : decode cX6_all 19 = .ok (.iload_n 1, 1) := by decide +kernel
theorem dX6_all_20 : decode cX6_all 20 = .ok (.ifCond .ne 11, 3) := by decide +kernel
theorem dX6_all_23 : decode cX6_all 23 = .ok (.aload_n 0, 1) := by decide +kernel
theorem dX6_all_24 : decode cX6_all 24 = .ok (.iconst 0, 1) := by decide +kernel
theorem dX6_all_25 : decode cX6_all 25 = .ok (.invokevirtual 128, 3) := by decide +kernel
theorem dX6_all_28 : decode cX6_all 28 = .ok (.goto 33, 3) := by decide +kernel
theorem dX6_all_31 : decode cX6_all 31 = .ok (.iload_n 1, 1) := by decide +kernel
theorem dX6_all_32 : decode cX6_all 32 = .ok (.iconst 1, 1) := by decide +kernel
theorem dX6_all_33 : decode cX6_all 33 = .ok (.if_icmp .ne 11, 3) := by decide +kernel
theorem dX6_all_36 : decode cX6_all 36 = .ok (.aload_n 0, 1) := by decide +kernel
theorem dX6_all_37 : decode cX6_all 37 = .ok (.iconst 3, 1) := by decide +kernel
theorem dX6_all_38 : decode cX6_all 38 = .ok (.invokevirtual 128, 3) := by decide +kernel
theorem dX6_all_41 : decode cX6_all 41 = .ok (.goto 20, 3) := by decide +kernel
theorem dX6_all_44 : decode cX6_all 44 = .ok (.iload_n 1, 1) := by decide +kernel
theorem dX6_all_45 : decode cX6_all 45 = .ok (.iconst 2, 1) := by decide +kernel
theorem dX6_all_46 : decode cX6_all 46 = .ok (.if_icmp .ne 11, 3) := by decide +kernel
theorem dX6_all_49 : decode cX6_all 49 = .ok (.aload_n 0, 1) := by decide +kernel
theorem dX6_all_50 : decode cX6_all 50 = .ok (.iconst 4, 1) := by decide +kernel
theorem dX6_all_51 : decode cX6_all 51 = .ok (.invokevirtual 128, 3) := by decide +kernel
theorem dX6_all_54 : decode cX6_all 54 = .ok (.goto 7, 3) := by decide +kernel
theorem dX6_all_57 : decode cX6_all 57 = .ok (.aload_n 0, 1) := by decide +kernel
theorem dX6_all_58 : decode cX6_all 58 = .ok (.invokevirtual 131, 3) := by decide +kernel
theorem dX6_all_61 : decode cX6_all 61 = .ok (.ireturn, 1) := by decide +kernel
theorem dX6_method_0 : decode cX6_method 0 = .ok (.iload_n 1, 1) := by decide +kernel
theorem dX6_method_1 : decode cX6_method 1 = .ok (.i2l, 1) := by decide +kernel
theorem dX6_method_2 : decode cX6_method 2 = .ok (.lconst 0, 1) := by decide +kernel
theorem dX6_method_3 : decode cX6_method 3 = .ok (.ldc2_w 69, 3) := by decide +kernel
theorem dX6_method_6 : decode cX6_method 6 = .ok (.invokestatic 42, 3) := by decide +kernel
theorem dX6_method_9 : decode cX6_method 9 = .ok (.ifCond .ne 10, 3) := by decide +kernel
theorem dX6_method_12 : decode cX6_method 12 = .ok (.aload_n 0, 1) := by decide +kernel
theorem dX6_method_13 : decode cX6_method 13 = .ok (.bipush (-2), 2) := by decide +kernel
theorem dX6_method_15 : decode cX6_method 15 = .ok (.invokevirtual 50, 3) := by decide +kernel
theorem dX6_method_18 : decode cX6_method 18 = .ok (.ireturn, 1) := by decide +kernel
theorem dX6_method_19 : decode cX6_method 19 = .ok (.aload_n 0, 1) := by decide +kernel
theorem dX6_method_20 : decode cX6_method 20 = .ok (.getfield 134, 3) := by decide +kernel
theorem dX6_method_23 : decode cX6_method 23 = .ok (.istore_n 2, 1) := by decide +kernel
theorem dX6_method_24 : decode cX6_method 24 = .ok (.aload_n 0, 1) := by decide +kernel
theorem dX6_method_25 : decode cX6_method 25 = .ok (.iload_n 1, 1) := by decide +kernel
theorem dX6_method_26 : decode cX6_method 26 = .ok (.putfield 134, 3) := by decide +kernel
theorem dX6_method_29 : decode cX6_method 29 = .ok (.iload_n 2, 1) := by decide +kernel
theorem dX6_method_30 : decode cX6_method 30 = .ok (.ireturn, 1) := by decide +kernel
theorem dX6_isOpen_0 : decode cX6_isOpen 0 = .ok (.aload_n 0, 1) := by decide +kernel
theorem dX6_isOpen_1 : decode cX6_isOpen 1 = .ok (.getfield 16, 3) := by decide +kernel
theorem dX6_isOpen_4 : decode cX6_isOpen 4 = .ok (.iload_n 1, 1) := by decide +kernel
theorem dX6_isOpen_5 : decode cX6_isOpen 5 = .ok (.iaload, 1) := by decide +kernel
theorem dX6_isOpen_6 : decode cX6_isOpen 6 = .ok (.i2l, 1) := by decide +kernel
theorem dX6_isOpen_7 : decode cX6_isOpen 7 = .ok (.lconst 1, 1) := by decide +kernel
theorem dX6_isOpen_8 : decode cX6_isOpen 8 = .ok (.ldc2_w 124, 3) := by decide +kernel
theorem dX6_isOpen_11 : decode cX6_isOpen 11 = .ok (.invokestatic 42, 3) := by decide +kernel
theorem dX6_isOpen_14 : decode cX6_isOpen 14 = .ok (.ireturn, 1) := by decide +kernel
theorem dX6_firstOpen_0 : decode cX6_firstOpen 0 = .ok (.iload_n 1, 1) := by decide +kernel
theorem dX6_firstOpen_1 : decode cX6_firstOpen 1 = .ok (.istore_n 2, 1) := by decide +kernel
theorem dX6_firstOpen_2 : decode cX6_firstOpen 2 = .ok (.iload_n 2, 1) := by decide +kernel
theorem dX6_firstOpen_3 : decode cX6_firstOpen 3 = .ok (.aload_n 0, 1) := by decide +kernel
theorem dX6_firstOpen_4 : decode cX6_firstOpen 4 = .ok (.getfield 38, 3) := by decide +kernel
theorem dX6_firstOpen_7 : decode cX6_firstOpen 7 = .ok (.if_icmp .ge 17, 3) := by decide +kernel
theorem dX6_firstOpen_10 : decode cX6_firstOpen 10 = .ok (.aload_n 0, 1) := by decide +kernel
theorem dX6_firstOpen_11 : decode cX6_firstOpen 11 = .ok (.iload_n 2, 1) := by decide +kernel
theorem dX6_firstOpen_12 : decode cX6_firstOpen 12 = .ok (.invokevirtual 137, 3) := by decide +kernel
theorem dX6_firstOpen_15 : decode cX6_firstOpen 15 = .ok (.ifCond .ne 9, 3) := by decide +kernel
theorem dX6_firstOpen_18 : decode cX6_firstOpen 18 = .ok (.iinc 2 1, 3) := by decide +kernel
theorem dX6_firstOpen_21 : decode cX6_firstOpen 21 = .ok (.goto (-19), 3) := by decide +kernel
theorem dX6_firstOpen_24 : decode cX6_firstOpen 24 = .ok (.iload_n 2, 1) := by decide +kernel
theorem dX6_firstOpen_25 : decode cX6_firstOpen 25 = .ok (.ireturn, 1) := by decide +kernel
theorem dX6_far_0 : decode cX6_far 0 = .ok (.iload_n 0, 1) := by decide +kernel
theorem dX6_far_1 : decode cX6_far 1 = .ok (.iload_n 1, 1) := by decide +kernel
theorem dX6_far_2 : decode cX6_far 2 = .ok (.if_icmp .le 9, 3) := by decide +kernel
theorem dX6_far_5 : decode cX6_far 5 = .ok (.iload_n 0, 1) := by decide +kernel
theorem dX6_far_6 : decode cX6_far 6 = .ok (.iload_n 1, 1) := by decide +kernel
theorem dX6_far_7 : decode cX6_far 7 = .ok (.isub, 1) := by decide +kernel
theorem dX6_far_8 : decode cX6_far 8 = .ok (.goto 6, 3) := by decide +kernel
theorem dX6_far_11 : decode cX6_far 11 = .ok (.iload_n 1, 1) := by decide +kernel
theorem dX6_far_12 : decode cX6_far 12 = .ok (.iload_n 0, 1) := by decide +kernel
theorem dX6_far_13 : decode cX6_far 13 = .ok (.isub, 1) := by decide +kernel
theorem dX6_far_14 : decode cX6_far 14 = .ok (.ireturn, 1) := by decide +kernel
theorem dX6_bestOf_0 : decode cX6_bestOf 0 = .ok (.iconst (-1), 1) := by decide +kernel
theorem dX6_bestOf_1 : decode cX6_bestOf 1 = .ok (.istore_n 3, 1) := by decide +kernel
theorem dX6_bestOf_2 : decode cX6_bestOf 2 = .ok (.iconst 0, 1) := by decide +kernel
theorem dX6_bestOf_3 : decode cX6_bestOf 3 = .ok (.istore 4, 2) := by decide +kernel
theorem dX6_bestOf_5 : decode cX6_bestOf 5 = .ok (.iconst 0, 1) := by decide +kernel
theorem dX6_bestOf_6 : decode cX6_bestOf 6 = .ok (.istore 5, 2) := by decide +kernel
theorem dX6_bestOf_8 : decode cX6_bestOf 8 = .ok (.iload 5, 2) := by decide +kernel
theorem dX6_bestOf_10 : decode cX6_bestOf 10 = .ok (.aload_n 0, 1) := by decide +kernel
theorem dX6_bestOf_11 : decode cX6_bestOf 11 = .ok (.getfield 38, 3) := by decide +kernel
theorem dX6_bestOf_14 : decode cX6_bestOf 14 = .ok (.if_icmp .ge 100, 3) := by decide +kernel
theorem dX6_bestOf_17 : decode cX6_bestOf 17 = .ok (.iload_n 1, 1) := by decide +kernel
theorem dX6_bestOf_18 : decode cX6_bestOf 18 = .ok (.iconst (-1), 1) := by decide +kernel
theorem dX6_bestOf_19 : decode cX6_bestOf 19 = .ok (.if_icmp .ne 7, 3) := by decide +kernel
theorem dX6_bestOf_22 : decode cX6_bestOf 22 = .ok (.iconst 0, 1) := by decide +kernel
theorem dX6_bestOf_23 : decode cX6_bestOf 23 = .ok (.goto 19, 3) := by decide +kernel
theorem dX6_bestOf_26 : decode cX6_bestOf 26 = .ok (.aload_n 0, 1) := by decide +kernel
theorem dX6_bestOf_27 : decode cX6_bestOf 27 = .ok (.iload 5, 2) := by decide +kernel
theorem dX6_bestOf_29 : decode cX6_bestOf 29 = .ok (.iconst 1, 1) := by decide +kernel
theorem dX6_bestOf_30 : decode cX6_bestOf 30 = .ok (.invokevirtual 61, 3) := by decide +kernel
theorem dX6_bestOf_33 : decode cX6_bestOf 33 = .ok (.aload_n 0, 1) := by decide +kernel
theorem dX6_bestOf_34 : decode cX6_bestOf 34 = .ok (.iload_n 1, 1) := by decide +kernel
theorem dX6_bestOf_35 : decode cX6_bestOf 35 = .ok (.iconst 1, 1) := by decide +kernel
theorem dX6_bestOf_36 : decode cX6_bestOf 36 = .ok (.invokevirtual 61, 3) := by decide +kernel
theorem dX6_bestOf_39 : decode cX6_bestOf 39 = .ok (.invokestatic 140, 3) := by decide +kernel
theorem dX6_bestOf_42 : decode cX6_bestOf 42 = .ok (.istore 6, 2) := by decide +kernel
theorem dX6_bestOf_44 : decode cX6_bestOf 44 = .ok (.iload_n 2, 1) := by decide +kernel
theorem dX6_bestOf_45 : decode cX6_bestOf 45 = .ok (.iconst 1, 1) := by decide +kernel
theorem dX6_bestOf_46 : decode cX6_bestOf 46 = .ok (.if_icmp .ne 9, 3) := by decide +kernel
theorem dX6_bestOf_49 : decode cX6_bestOf 49 = .ok (.iload 6, 2) := by decide +kernel
theorem dX6_bestOf_51 : decode cX6_bestOf 51 = .ok (.ineg, 1) := by decide +kernel
theorem dX6_bestOf_52 : decode cX6_bestOf 52 = .ok (.goto 20, 3) := by decide +kernel
theorem dX6_bestOf_55 : decode cX6_bestOf 55 = .ok (.iload_n 2, 1) := by decide +kernel
theorem dX6_bestOf_56 : decode cX6_bestOf 56 = .ok (.iconst 3, 1) := by decide +kernel
theorem dX6_bestOf_57 : decode cX6_bestOf 57 = .ok (.if_icmp .ne 8, 3) := by decide +kernel
theorem dX6_bestOf_60 : decode cX6_bestOf 60 = .ok (.iload 6, 2) := by decide +kernel
theorem dX6_bestOf_62 : decode cX6_bestOf 62 = .ok (.goto 10, 3) := by decide +kernel
theorem dX6_bestOf_65 : decode cX6_bestOf 65 = .ok (.aload_n 0, 1) := by decide +kernel
theorem dX6_bestOf_66 : decode cX6_bestOf 66 = .ok (.getfield 16, 3) := by decide +kernel
theorem dX6_bestOf_69 : decode cX6_bestOf 69 = .ok (.iload 5, 2) := by decide +kernel
theorem dX6_bestOf_71 : decode cX6_bestOf 71 = .ok (.iaload, 1) := by decide +kernel
theorem dX6_bestOf_72 : decode cX6_bestOf 72 = .ok (.istore 7, 2) := by decide +kernel
theorem dX6_bestOf_74 : decode cX6_bestOf 74 = .ok (.iload 5, 2) := by decide +kernel
theorem dX6_bestOf_76 : decode cX6_bestOf 76 = .ok (.iload_n 1, 1) := by decide +kernel
theorem dX6_bestOf_77 : decode cX6_bestOf 77 = .ok (.if_icmp .eq 31, 3) := by decide +kernel
theorem dX6_bestOf_80 : decode cX6_bestOf 80 = .ok (.aload_n 0, 1) := by decide +kernel
theorem dX6_bestOf_81 : decode cX6_bestOf 81 = .ok (.iload 5, 2) := by decide +kernel
theorem dX6_bestOf_83 : decode cX6_bestOf 83 = .ok (.invokevirtual 137, 3) := by decide +kernel
theorem dX6_bestOf_86 : decode cX6_bestOf 86 = .ok (.ifCond .eq 22, 3) := by decide +kernel
theorem dX6_bestOf_89 : decode cX6_bestOf 89 = .ok (.iload_n 3, 1) := by decide +kernel
theorem dX6_bestOf_90 : decode cX6_bestOf 90 = .ok (.iconst (-1), 1) := by decide +kernel
theorem dX6_bestOf_91 : decode cX6_bestOf 91 = .ok (.if_icmp .eq 10, 3) := by decide +kernel
theorem dX6_bestOf_94 : decode cX6_bestOf 94 = .ok (.iload 7, 2) := by decide +kernel
theorem dX6_bestOf_96 : decode cX6_bestOf 96 = .ok (.iload 4, 2) := by decide +kernel
theorem dX6_bestOf_98 : decode cX6_bestOf 98 = .ok (.if_icmp .le 10, 3) := by decide +kernel
theorem dX6_bestOf_101 : decode cX6_bestOf 101 = .ok (.iload 5, 2) := by decide +kernel
theorem dX6_bestOf_103 : decode cX6_bestOf 103 = .ok (.istore_n 3, 1) := by decide +kernel
theorem dX6_bestOf_104 : decode cX6_bestOf 104 = .ok (.iload 7, 2) := by decide +kernel
theorem dX6_bestOf_106 : decode cX6_bestOf 106 = .ok (.istore 4, 2) := by decide +kernel
theorem dX6_bestOf_108 : decode cX6_bestOf 108 = .ok (.iinc 5 1, 3) := by decide +kernel
theorem dX6_bestOf_111 : decode cX6_bestOf 111 = .ok (.goto (-103), 3) := by decide +kernel
theorem dX6_bestOf_114 : decode cX6_bestOf 114 = .ok (.iload_n 3, 1) := by decide +kernel
theorem dX6_bestOf_115 : decode cX6_bestOf 115 = .ok (.ireturn, 1) := by decide +kernel
theorem dX6_nextIn_0 : decode cX6_nextIn 0 = .ok (.aload_n 0, 1) := by decide +kernel
theorem dX6_nextIn_1 : decode cX6_nextIn 1 = .ok (.iload_n 2, 1) := by decide +kernel
theorem dX6_nextIn_2 : decode cX6_nextIn 2 = .ok (.invokevirtual 143, 3) := by decide +kernel
theorem dX6_nextIn_5 : decode cX6_nextIn 5 = .ok (.istore_n 3, 1) := by decide +kernel
theorem dX6_nextIn_6 : decode cX6_nextIn 6 = .ok (.iload_n 3, 1) := by decide +kernel
theorem dX6_nextIn_7 : decode cX6_nextIn 7 = .ok (.aload_n 0, 1) := by decide +kernel
theorem dX6_nextIn_8 : decode cX6_nextIn 8 = .ok (.getfield 38, 3) := by decide +kernel
theorem dX6_nextIn_11 : decode cX6_nextIn 11 = .ok (.if_icmp .ge 24, 3) := by decide +kernel
theorem dX6_nextIn_14 : decode cX6_nextIn 14 = .ok (.aload_n 0, 1) := by decide +kernel
theorem dX6_nextIn_15 : decode cX6_nextIn 15 = .ok (.iload_n 3, 1) := by decide +kernel
theorem dX6_nextIn_16 : decode cX6_nextIn 16 = .ok (.iconst 2, 1) := by decide +kernel
theorem dX6_nextIn_17 : decode cX6_nextIn 17 = .ok (.invokevirtual 61, 3) := by decide +kernel
theorem dX6_nextIn_20 : decode cX6_nextIn 20 = .ok (.iload_n 1, 1) := by decide +kernel
theorem dX6_nextIn_21 : decode cX6_nextIn 21 = .ok (.if_icmp .eq 14, 3) := by decide +kernel
theorem dX6_nextIn_24 : decode cX6_nextIn 24 = .ok (.aload_n 0, 1) := by decide +kernel
theorem dX6_nextIn_25 : decode cX6_nextIn 25 = .ok (.iload_n 3, 1) := by decide +kernel
theorem dX6_nextIn_26 : decode cX6_nextIn 26 = .ok (.iconst 1, 1) := by decide +kernel
theorem dX6_nextIn_27 : decode cX6_nextIn 27 = .ok (.iadd, 1) := by decide +kernel
theorem dX6_nextIn_28 : decode cX6_nextIn 28 = .ok (.invokevirtual 143, 3) := by decide +kernel
theorem dX6_nextIn_31 : decode cX6_nextIn 31 = .ok (.istore_n 3, 1) := by decide +kernel
theorem dX6_nextIn_32 : decode cX6_nextIn 32 = .ok (.goto (-26), 3) := by decide +kernel
theorem dX6_nextIn_35 : decode cX6_nextIn 35 = .ok (.iload_n 3, 1) := by decide +kernel
theorem dX6_nextIn_36 : decode cX6_nextIn 36 = .ok (.ireturn, 1) := by decide +kernel
theorem dX6_finds_0 : decode cX6_finds 0 = .ok (.aload_n 0, 1) := by decide +kernel
theorem dX6_finds_1 : decode cX6_finds 1 = .ok (.aload_n 0, 1) := by decide +kernel
theorem dX6_finds_2 : decode cX6_finds 2 = .ok (.iconst 0, 1) := by decide +kernel
theorem dX6_finds_3 : decode cX6_finds 3 = .ok (.invokevirtual 143, 3) := by decide +kernel
theorem dX6_finds_6 : decode cX6_finds 6 = .ok (.putfield 146, 3) := by decide +kernel
theorem dX6_finds_9 : decode cX6_finds 9 = .ok (.aload_n 0, 1) := by decide +kernel
theorem dX6_finds_10 : decode cX6_finds 10 = .ok (.getfield 146, 3) := by decide +kernel
theorem dX6_finds_13 : decode cX6_finds 13 = .ok (.aload_n 0, 1) := by decide +kernel
theorem dX6_finds_14 : decode cX6_finds 14 = .ok (.getfield 38, 3) := by decide +kernel
theorem dX6_finds_17 : decode cX6_finds 17 = .ok (.if_icmp .ne 5, 3) := by decide +kernel
theorem dX6_finds_20 : decode cX6_finds 20 = .ok (.iconst 0, 1) := by decide +kernel
theorem dX6_finds_21 : decode cX6_finds 21 = .ok (.ireturn, 1) := by decide +kernel
theorem dX6_finds_22 : decode cX6_finds 22 = .ok (.aload_n 0, 1) := by decide +kernel
theorem dX6_finds_23 : decode cX6_finds 23 = .ok (.aload_n 0, 1) := by decide +kernel
theorem dX6_finds_24 : decode cX6_finds 24 = .ok (.aload_n 0, 1) := by decide +kernel
theorem dX6_finds_25 : decode cX6_finds 25 = .ok (.getfield 146, 3) := by decide +kernel
theorem dX6_finds_28 : decode cX6_finds 28 = .ok (.iconst 1, 1) := by decide +kernel
theorem dX6_finds_29 : decode cX6_finds 29 = .ok (.iadd, 1) := by decide +kernel
theorem dX6_finds_30 : decode cX6_finds 30 = .ok (.invokevirtual 143, 3) := by decide +kernel
theorem dX6_finds_33 : decode cX6_finds 33 = .ok (.putfield 149, 3) := by decide +kernel
theorem dX6_finds_36 : decode cX6_finds 36 = .ok (.aload_n 0, 1) := by decide +kernel
theorem dX6_finds_37 : decode cX6_finds 37 = .ok (.getfield 149, 3) := by decide +kernel
theorem dX6_finds_40 : decode cX6_finds 40 = .ok (.aload_n 0, 1) := by decide +kernel
theorem dX6_finds_41 : decode cX6_finds 41 = .ok (.getfield 38, 3) := by decide +kernel
theorem dX6_finds_44 : decode cX6_finds 44 = .ok (.if_icmp .ne 10, 3) := by decide +kernel
theorem dX6_finds_47 : decode cX6_finds 47 = .ok (.aload_n 0, 1) := by decide +kernel
theorem dX6_finds_48 : decode cX6_finds 48 = .ok (.iconst (-1), 1) := by decide +kernel
theorem dX6_finds_49 : decode cX6_finds 49 = .ok (.putfield 149, 3) := by decide +kernel
theorem dX6_finds_52 : decode cX6_finds 52 = .ok (.iconst 1, 1) := by decide +kernel
theorem dX6_finds_53 : decode cX6_finds 53 = .ok (.ireturn, 1) := by decide +kernel
theorem dX6_finds_54 : decode cX6_finds 54 = .ok (.aload_n 0, 1) := by decide +kernel
theorem dX6_finds_55 : decode cX6_finds 55 = .ok (.getfield 134, 3) := by decide +kernel
theorem dX6_finds_58 : decode cX6_finds 58 = .ok (.iconst 1, 1) := by decide +kernel
theorem dX6_finds_59 : decode cX6_finds 59 = .ok (.if_icmp .eq 11, 3) := by decide +kernel
theorem dX6_finds_62 : decode cX6_finds 62 = .ok (.aload_n 0, 1) := by decide +kernel
theorem dX6_finds_63 : decode cX6_finds 63 = .ok (.getfield 134, 3) := by decide +kernel
theorem dX6_finds_66 : decode cX6_finds 66 = .ok (.iconst 3, 1) := by decide +kernel
theorem dX6_finds_67 : decode cX6_finds 67 = .ok (.if_icmp .ne 22, 3) := by decide +kernel
theorem dX6_finds_70 : decode cX6_finds 70 = .ok (.aload_n 0, 1) := by decide +kernel
theorem dX6_finds_71 : decode cX6_finds 71 = .ok (.aload_n 0, 1) := by decide +kernel
theorem dX6_finds_72 : decode cX6_finds 72 = .ok (.aload_n 0, 1) := by decide +kernel
theorem dX6_finds_73 : decode cX6_finds 73 = .ok (.getfield 146, 3) := by decide +kernel
theorem dX6_finds_76 : decode cX6_finds 76 = .ok (.aload_n 0, 1) := by decide +kernel
theorem dX6_finds_77 : decode cX6_finds 77 = .ok (.getfield 134, 3) := by decide +kernel
theorem dX6_finds_80 : decode cX6_finds 80 = .ok (.invokevirtual 152, 3) := by decide +kernel
theorem dX6_finds_83 : decode cX6_finds 83 = .ok (.putfield 149, 3) := by decide +kernel
theorem dX6_finds_86 : decode cX6_finds 86 = .ok (.goto 143, 3) := by decide +kernel
theorem dX6_finds_89 : decode cX6_finds 89 = .ok (.aload_n 0, 1) := by decide +kernel
theorem dX6_finds_90 : decode cX6_finds 90 = .ok (.getfield 134, 3) := by decide +kernel
theorem dX6_finds_93 : decode cX6_finds 93 = .ok (.iconst 2, 1) := by decide +kernel
theorem dX6_finds_94 : decode cX6_finds 94 = .ok (.if_icmp .ne 105, 3) := by decide +kernel
theorem dX6_finds_97 : decode cX6_finds 97 = .ok (.iconst 0, 1) := by decide +kernel
theorem dX6_finds_98 : decode cX6_finds 98 = .ok (.istore_n 1, 1) := by decide +kernel
theorem dX6_finds_99 : decode cX6_finds 99 = .ok (.iconst 0, 1) := by decide +kernel
theorem dX6_finds_100 : decode cX6_finds 100 = .ok (.istore_n 2, 1) := by decide +kernel
theorem dX6_finds_101 : decode cX6_finds 101 = .ok (.iload_n 2, 1) := by decide +kernel
theorem dX6_finds_102 : decode cX6_finds 102 = .ok (.iconst 4, 1) := by decide +kernel
theorem dX6_finds_103 : decode cX6_finds 103 = .ok (.if_icmp .ge 93, 3) := by decide +kernel
theorem dX6_finds_106 : decode cX6_finds 106 = .ok (.iload_n 1, 1) := by decide +kernel
theorem dX6_finds_107 : decode cX6_finds 107 = .ok (.ifCond .ne 89, 3) := by decide +kernel
theorem dX6_finds_110 : decode cX6_finds 110 = .ok (.aload_n 0, 1) := by decide +kernel
theorem dX6_finds_111 : decode cX6_finds 111 = .ok (.iload_n 2, 1) := by decide +kernel
theorem dX6_finds_112 : decode cX6_finds 112 = .ok (.iconst 0, 1) := by decide +kernel
theorem dX6_finds_113 : decode cX6_finds 113 = .ok (.invokevirtual 155, 3) := by decide +kernel
theorem dX6_finds_116 : decode cX6_finds 116 = .ok (.istore_n 3, 1) := by decide +kernel
theorem dX6_finds_117 : decode cX6_finds 117 = .ok (.iload_n 3, 1) := by decide +kernel
theorem dX6_finds_118 : decode cX6_finds 118 = .ok (.aload_n 0, 1) := by decide +kernel
theorem dX6_finds_119 : decode cX6_finds 119 = .ok (.getfield 38, 3) := by decide +kernel
theorem dX6_finds_122 : decode cX6_finds 122 = .ok (.if_icmp .ge 14, 3) := by decide +kernel
theorem dX6_finds_125 : decode cX6_finds 125 = .ok (.aload_n 0, 1) := by decide +kernel
theorem dX6_finds_126 : decode cX6_finds 126 = .ok (.iload_n 2, 1) := by decide +kernel
theorem dX6_finds_127 : decode cX6_finds 127 = .ok (.iload_n 3, 1) := by decide +kernel
theorem dX6_finds_128 : decode cX6_finds 128 = .ok (.iconst 1, 1) := by decide +kernel
theorem dX6_finds_129 : decode cX6_finds 129 = .ok (.iadd, 1) := by decide +kernel
theorem dX6_finds_130 : decode cX6_finds 130 = .ok (.invokevirtual 155, 3) := by decide +kernel
theorem dX6_finds_133 : decode cX6_finds 133 = .ok (.goto 7, 3) := by decide +kernel
theorem dX6_finds_136 : decode cX6_finds 136 = .ok (.aload_n 0, 1) := by decide +kernel
theorem dX6_finds_137 : decode cX6_finds 137 = .ok (.getfield 38, 3) := by decide +kernel
theorem dX6_finds_140 : decode cX6_finds 140 = .ok (.istore 4, 2) := by decide +kernel
theorem dX6_finds_142 : decode cX6_finds 142 = .ok (.iload 4, 2) := by decide +kernel
theorem dX6_finds_144 : decode cX6_finds 144 = .ok (.aload_n 0, 1) := by decide +kernel
theorem dX6_finds_145 : decode cX6_finds 145 = .ok (.getfield 38, 3) := by decide +kernel
theorem dX6_finds_148 : decode cX6_finds 148 = .ok (.if_icmp .ge 7, 3) := by decide +kernel
theorem dX6_finds_151 : decode cX6_finds 151 = .ok (.iconst 1, 1) := by decide +kernel
theorem dX6_finds_152 : decode cX6_finds 152 = .ok (.goto 4, 3) := by decide +kernel
theorem dX6_finds_155 : decode cX6_finds 155 = .ok (.iconst 0, 1) := by decide +kernel
theorem dX6_finds_156 : decode cX6_finds 156 = .ok (.istore_n 1, 1) := by decide +kernel
theorem dX6_finds_157 : decode cX6_finds 157 = .ok (.aload_n 0, 1) := by decide +kernel
theorem dX6_finds_158 : decode cX6_finds 158 = .ok (.iload_n 1, 1) := by decide +kernel
theorem dX6_finds_159 : decode cX6_finds 159 = .ok (.ifCond .eq 7, 3) := by decide +kernel
theorem dX6_finds_162 : decode cX6_finds 162 = .ok (.iload_n 3, 1) := by decide +kernel
theorem dX6_finds_163 : decode cX6_finds 163 = .ok (.goto 7, 3) := by decide +kernel
theorem dX6_finds_166 : decode cX6_finds 166 = .ok (.aload_n 0, 1) := by decide +kernel
theorem dX6_finds_167 : decode cX6_finds 167 = .ok (.getfield 146, 3) := by decide +kernel
theorem dX6_finds_170 : decode cX6_finds 170 = .ok (.putfield 146, 3) := by decide +kernel
theorem dX6_finds_173 : decode cX6_finds 173 = .ok (.aload_n 0, 1) := by decide +kernel
theorem dX6_finds_174 : decode cX6_finds 174 = .ok (.iload_n 1, 1) := by decide +kernel
theorem dX6_finds_175 : decode cX6_finds 175 = .ok (.ifCond .eq 8, 3) := by decide +kernel
theorem dX6_finds_178 : decode cX6_finds 178 = .ok (.iload 4, 2) := by decide +kernel
theorem dX6_finds_180 : decode cX6_finds 180 = .ok (.goto 7, 3) := by decide +kernel
theorem dX6_finds_183 : decode cX6_finds 183 = .ok (.aload_n 0, 1) := by decide +kernel
theorem dX6_finds_184 : decode cX6_finds 184 = .ok (.getfield 149, 3) := by decide +kernel
theorem dX6_finds_187 : decode cX6_finds 187 = .ok (.putfield 149, 3) := by decide +kernel
theorem dX6_finds_190 : decode cX6_finds 190 = .ok (.iinc 2 1, 3) := by decide +kernel
theorem dX6_finds_193 : decode cX6_finds 193 = .ok (.goto (-92), 3) := by decide +kernel
theorem dX6_finds_196 : decode cX6_finds 196 = .ok (.goto 33, 3) := by decide +kernel
theorem dX6_finds_199 : decode cX6_finds 199 = .ok (.aload_n 0, 1) := by decide +kernel
theorem dX6_finds_200 : decode cX6_finds 200 = .ok (.getfield 134, 3) := by decide +kernel
theorem dX6_finds_203 : decode cX6_finds 203 = .ok (.ifCond .eq 26, 3) := by decide +kernel
theorem dX6_finds_206 : decode cX6_finds 206 = .ok (.aload_n 0, 1) := by decide +kernel
theorem dX6_finds_207 : decode cX6_finds 207 = .ok (.aload_n 0, 1) := by decide +kernel
theorem dX6_finds_208 : decode cX6_finds 208 = .ok (.iconst (-1), 1) := by decide +kernel
theorem dX6_finds_209 : decode cX6_finds 209 = .ok (.iconst 4, 1) := by decide +kernel
theorem dX6_finds_210 : decode cX6_finds 210 = .ok (.invokevirtual 152, 3) := by decide +kernel
theorem dX6_finds_213 : decode cX6_finds 213 = .ok (.putfield 146, 3) := by decide +kernel
theorem dX6_finds_216 : decode cX6_finds 216 = .ok (.aload_n 0, 1) := by decide +kernel
theorem dX6_finds_217 : decode cX6_finds 217 = .ok (.aload_n 0, 1) := by decide +kernel
theorem dX6_finds_218 : decode cX6_finds 218 = .ok (.aload_n 0, 1) := by decide +kernel
theorem dX6_finds_219 : decode cX6_finds 219 = .ok (.getfield 146, 3) := by decide +kernel
theorem dX6_finds_222 : decode cX6_finds 222 = .ok (.iconst 4, 1) := by decide +kernel
theorem dX6_finds_223 : decode cX6_finds 223 = .ok (.invokevirtual 152, 3) := by decide +kernel
theorem dX6_finds_226 : decode cX6_finds 226 = .ok (.putfield 149, 3) := by decide +kernel
theorem dX6_finds_229 : decode cX6_finds 229 = .ok (.iconst 1, 1) := by decide +kernel
theorem dX6_finds_230 : decode cX6_finds 230 = .ok (.ireturn, 1) := by decide +kernel
theorem dX6_sizeOfPlay_0 : decode cX6_sizeOfPlay 0 = .ok (.aload_n 0, 1) := by decide +kernel
theorem dX6_sizeOfPlay_1 : decode cX6_sizeOfPlay 1 = .ok (.getfield 149, 3) := by decide +kernel
theorem dX6_sizeOfPlay_4 : decode cX6_sizeOfPlay 4 = .ok (.iconst (-1), 1) := by decide +kernel
theorem dX6_sizeOfPlay_5 : decode cX6_sizeOfPlay 5 = .ok (.if_icmp .ne 6, 3) := by decide +kernel
theorem dX6_sizeOfPlay_8 : decode cX6_sizeOfPlay 8 = .ok (.bipush 12, 2) := by decide +kernel
theorem dX6_sizeOfPlay_10 : decode cX6_sizeOfPlay 10 = .ok (.ireturn, 1) := by decide +kernel
theorem dX6_sizeOfPlay_11 : decode cX6_sizeOfPlay 11 = .ok (.aload_n 0, 1) := by decide +kernel
theorem dX6_sizeOfPlay_12 : decode cX6_sizeOfPlay 12 = .ok (.getfield 16, 3) := by decide +kernel
theorem dX6_sizeOfPlay_15 : decode cX6_sizeOfPlay 15 = .ok (.aload_n 0, 1) := by decide +kernel
theorem dX6_sizeOfPlay_16 : decode cX6_sizeOfPlay 16 = .ok (.getfield 146, 3) := by decide +kernel
theorem dX6_sizeOfPlay_19 : decode cX6_sizeOfPlay 19 = .ok (.iaload, 1) := by decide +kernel
theorem dX6_sizeOfPlay_20 : decode cX6_sizeOfPlay 20 = .ok (.aload_n 0, 1) := by decide +kernel
theorem dX6_sizeOfPlay_21 : decode cX6_sizeOfPlay 21 = .ok (.getfield 16, 3) := by decide +kernel
theorem dX6_sizeOfPlay_24 : decode cX6_sizeOfPlay 24 = .ok (.aload_n 0, 1) := by decide +kernel
theorem dX6_sizeOfPlay_25 : decode cX6_sizeOfPlay 25 = .ok (.getfield 149, 3) := by decide +kernel
theorem dX6_sizeOfPlay_28 : decode cX6_sizeOfPlay 28 = .ok (.iaload, 1) := by decide +kernel
theorem dX6_sizeOfPlay_29 : decode cX6_sizeOfPlay 29 = .ok (.iadd, 1) := by decide +kernel
theorem dX6_sizeOfPlay_30 : decode cX6_sizeOfPlay 30 = .ok (.istore_n 1, 1) := by decide +kernel
theorem dX6_sizeOfPlay_31 : decode cX6_sizeOfPlay 31 = .ok (.iload_n 1, 1) := by decide +kernel
theorem dX6_sizeOfPlay_32 : decode cX6_sizeOfPlay 32 = .ok (.bipush 12, 2) := by decide +kernel
theorem dX6_sizeOfPlay_34 : decode cX6_sizeOfPlay 34 = .ok (.if_icmp .gt 7, 3) := by decide +kernel
theorem dX6_sizeOfPlay_37 : decode cX6_sizeOfPlay 37 = .ok (.iload_n 1, 1) := by decide +kernel
theorem dX6_sizeOfPlay_38 : decode cX6_sizeOfPlay 38 = .ok (.goto 7, 3) := by decide +kernel
theorem dX6_sizeOfPlay_41 : decode cX6_sizeOfPlay 41 = .ok (.bipush 24, 2) := by decide +kernel
theorem dX6_sizeOfPlay_43 : decode cX6_sizeOfPlay 43 = .ok (.iload_n 1, 1) := by decide +kernel
theorem dX6_sizeOfPlay_44 : decode cX6_sizeOfPlay 44 = .ok (.isub, 1) := by decide +kernel
theorem dX6_sizeOfPlay_45 : decode cX6_sizeOfPlay 45 = .ok (.ireturn, 1) := by decide +kernel
theorem dX6_chancesOfOne_0 : decode cX6_chancesOfOne 0 = .ok (.aload_n 0, 1) := by decide +kernel
theorem dX6_chancesOfOne_1 : decode cX6_chancesOfOne 1 = .ok (.getfield 149, 3) := by decide +kernel
theorem dX6_chancesOfOne_4 : decode cX6_chancesOfOne 4 = .ok (.iconst (-1), 1) := by decide +kernel
theorem dX6_chancesOfOne_5 : decode cX6_chancesOfOne 5 = .ok (.if_icmp .ne 13, 3) := by decide +kernel
theorem dX6_chancesOfOne_8 : decode cX6_chancesOfOne 8 = .ok (.aload_n 0, 1) := by decide +kernel
theorem dX6_chancesOfOne_9 : decode cX6_chancesOfOne 9 = .ok (.getfield 16, 3) := by decide +kernel
theorem dX6_chancesOfOne_12 : decode cX6_chancesOfOne 12 = .ok (.aload_n 0, 1) := by decide +kernel
theorem dX6_chancesOfOne_13 : decode cX6_chancesOfOne 13 = .ok (.getfield 146, 3) := by decide +kernel
theorem dX6_chancesOfOne_16 : decode cX6_chancesOfOne 16 = .ok (.iaload, 1) := by decide +kernel
theorem dX6_chancesOfOne_17 : decode cX6_chancesOfOne 17 = .ok (.ireturn, 1) := by decide +kernel
theorem dX6_chancesOfOne_18 : decode cX6_chancesOfOne 18 = .ok (.aload_n 0, 1) := by decide +kernel
theorem dX6_chancesOfOne_19 : decode cX6_chancesOfOne 19 = .ok (.getfield 16, 3) := by decide +kernel
theorem dX6_chancesOfOne_22 : decode cX6_chancesOfOne 22 = .ok (.aload_n 0, 1) := by decide +kernel
theorem dX6_chancesOfOne_23 : decode cX6_chancesOfOne 23 = .ok (.getfield 146, 3) := by decide +kernel
theorem dX6_chancesOfOne_26 : decode cX6_chancesOfOne 26 = .ok (.iaload, 1) := by decide +kernel
theorem dX6_chancesOfOne_27 : decode cX6_chancesOfOne 27 = .ok (.aload_n 0, 1) := by decide +kernel
theorem dX6_chancesOfOne_28 : decode cX6_chancesOfOne 28 = .ok (.getfield 16, 3) := by decide +kernel
theorem dX6_chancesOfOne_31 : decode cX6_chancesOfOne 31 = .ok (.aload_n 0, 1) := by decide +kernel
theorem dX6_chancesOfOne_32 : decode cX6_chancesOfOne 32 = .ok (.getfield 149, 3) := by decide +kernel
theorem dX6_chancesOfOne_35 : decode cX6_chancesOfOne 35 = .ok (.iaload, 1) := by decide +kernel
theorem dX6_chancesOfOne_36 : decode cX6_chancesOfOne 36 = .ok (.iadd, 1) := by decide +kernel
theorem dX6_chancesOfOne_37 : decode cX6_chancesOfOne 37 = .ok (.bipush 12, 2) := by decide +kernel
theorem dX6_chancesOfOne_39 : decode cX6_chancesOfOne 39 = .ok (.if_icmp .gt 15, 3) := by decide +kernel
theorem dX6_chancesOfOne_42 : decode cX6_chancesOfOne 42 = .ok (.aload_n 0, 1) := by decide +kernel
theorem dX6_chancesOfOne_43 : decode cX6_chancesOfOne 43 = .ok (.getfield 16, 3) := by decide +kernel
theorem dX6_chancesOfOne_46 : decode cX6_chancesOfOne 46 = .ok (.aload_n 0, 1) := by decide +kernel
theorem dX6_chancesOfOne_47 : decode cX6_chancesOfOne 47 = .ok (.getfield 146, 3) := by decide +kernel
theorem dX6_chancesOfOne_50 : decode cX6_chancesOfOne 50 = .ok (.iaload, 1) := by decide +kernel
theorem dX6_chancesOfOne_51 : decode cX6_chancesOfOne 51 = .ok (.goto 15, 3) := by decide +kernel
theorem dX6_chancesOfOne_54 : decode cX6_chancesOfOne 54 = .ok (.bipush 12, 2) := by decide +kernel
theorem dX6_chancesOfOne_56 : decode cX6_chancesOfOne 56 = .ok (.aload_n 0, 1) := by decide +kernel
theorem dX6_chancesOfOne_57 : decode cX6_chancesOfOne 57 = .ok (.getfield 16, 3) := by decide +kernel
theorem dX6_chancesOfOne_60 : decode cX6_chancesOfOne 60 = .ok (.aload_n 0, 1) := by decide +kernel
theorem dX6_chancesOfOne_61 : decode cX6_chancesOfOne 61 = .ok (.getfield 149, 3) := by decide +kernel
theorem dX6_chancesOfOne_64 : decode cX6_chancesOfOne 64 = .ok (.iaload, 1) := by decide +kernel
theorem dX6_chancesOfOne_65 : decode cX6_chancesOfOne 65 = .ok (.isub, 1) := by decide +kernel
theorem dX6_chancesOfOne_66 : decode cX6_chancesOfOne 66 = .ok (.ireturn, 1) := by decide +kernel
theorem dX6_gets_0 : decode cX6_gets 0 = .ok (.aload_n 0, 1) := by decide +kernel
theorem dX6_gets_1 : decode cX6_gets 1 = .ok (.getfield 149, 3) := by decide +kernel
theorem dX6_gets_4 : decode cX6_gets 4 = .ok (.iconst (-1), 1) := by decide +kernel
theorem dX6_gets_5 : decode cX6_gets 5 = .ok (.if_icmp .ne 23, 3) := by decide +kernel
theorem dX6_gets_8 : decode cX6_gets 8 = .ok (.aload_n 0, 1) := by decide +kernel
theorem dX6_gets_9 : decode cX6_gets 9 = .ok (.getfield 16, 3) := by decide +kernel
theorem dX6_gets_12 : decode cX6_gets 12 = .ok (.aload_n 0, 1) := by decide +kernel
theorem dX6_gets_13 : decode cX6_gets 13 = .ok (.getfield 146, 3) := by decide +kernel
theorem dX6_gets_16 : decode cX6_gets 16 = .ok (.iload_n 1, 1) := by decide +kernel
theorem dX6_gets_17 : decode cX6_gets 17 = .ok (.ifCond .eq 8, 3) := by decide +kernel
theorem dX6_gets_20 : decode cX6_gets 20 = .ok (.bipush 12, 2) := by decide +kernel
theorem dX6_gets_22 : decode cX6_gets 22 = .ok (.goto 4, 3) := by decide +kernel
theorem dX6_gets_25 : decode cX6_gets 25 = .ok (.iconst 0, 1) := by decide +kernel
theorem dX6_gets_26 : decode cX6_gets 26 = .ok (.iastore, 1) := by decide +kernel
theorem dX6_gets_27 : decode cX6_gets 27 = .ok (.return_, 1) := by decide +kernel
theorem dX6_gets_28 : decode cX6_gets 28 = .ok (.aload_n 0, 1) := by decide +kernel
theorem dX6_gets_29 : decode cX6_gets 29 = .ok (.getfield 16, 3) := by decide +kernel
theorem dX6_gets_32 : decode cX6_gets 32 = .ok (.aload_n 0, 1) := by decide +kernel
theorem dX6_gets_33 : decode cX6_gets 33 = .ok (.getfield 146, 3) := by decide +kernel
theorem dX6_gets_36 : decode cX6_gets 36 = .ok (.iaload, 1) := by decide +kernel
theorem dX6_gets_37 : decode cX6_gets 37 = .ok (.aload_n 0, 1) := by decide +kernel
theorem dX6_gets_38 : decode cX6_gets 38 = .ok (.getfield 16, 3) := by decide +kernel
theorem dX6_gets_41 : decode cX6_gets 41 = .ok (.aload_n 0, 1) := by decide +kernel
theorem dX6_gets_42 : decode cX6_gets 42 = .ok (.getfield 149, 3) := by decide +kernel
theorem dX6_gets_45 : decode cX6_gets 45 = .ok (.iaload, 1) := by decide +kernel
theorem dX6_gets_46 : decode cX6_gets 46 = .ok (.iadd, 1) := by decide +kernel
theorem dX6_gets_47 : decode cX6_gets 47 = .ok (.istore_n 2, 1) := by decide +kernel
theorem dX6_gets_48 : decode cX6_gets 48 = .ok (.iload_n 2, 1) := by decide +kernel
theorem dX6_gets_49 : decode cX6_gets 49 = .ok (.bipush 12, 2) := by decide +kernel
theorem dX6_gets_51 : decode cX6_gets 51 = .ok (.if_icmp .gt 7, 3) := by decide +kernel
theorem dX6_gets_54 : decode cX6_gets 54 = .ok (.iload_n 2, 1) := by decide +kernel
theorem dX6_gets_55 : decode cX6_gets 55 = .ok (.goto 5, 3) := by decide +kernel
theorem dX6_gets_58 : decode cX6_gets 58 = .ok (.bipush 12, 2) := by decide +kernel
theorem dX6_gets_60 : decode cX6_gets 60 = .ok (.istore_n 3, 1) := by decide +kernel
theorem dX6_gets_61 : decode cX6_gets 61 = .ok (.aload_n 0, 1) := by decide +kernel
theorem dX6_gets_62 : decode cX6_gets 62 = .ok (.getfield 16, 3) := by decide +kernel
theorem dX6_gets_65 : decode cX6_gets 65 = .ok (.aload_n 0, 1) := by decide +kernel
theorem dX6_gets_66 : decode cX6_gets 66 = .ok (.getfield 146, 3) := by decide +kernel
theorem dX6_gets_69 : decode cX6_gets 69 = .ok (.iload_n 1, 1) := by decide +kernel
theorem dX6_gets_70 : decode cX6_gets 70 = .ok (.ifCond .eq 7, 3) := by decide +kernel
theorem dX6_gets_73 : decode cX6_gets 73 = .ok (.iload_n 3, 1) := by decide +kernel
theorem dX6_gets_74 : decode cX6_gets 74 = .ok (.goto 6, 3) := by decide +kernel
theorem dX6_gets_77 : decode cX6_gets 77 = .ok (.iload_n 2, 1) := by decide +kernel
theorem dX6_gets_78 : decode cX6_gets 78 = .ok (.iload_n 3, 1) := by decide +kernel
theorem dX6_gets_79 : decode cX6_gets 79 = .ok (.isub, 1) := by decide +kernel
theorem dX6_gets_80 : decode cX6_gets 80 = .ok (.iastore, 1) := by decide +kernel
theorem dX6_gets_81 : decode cX6_gets 81 = .ok (.aload_n 0, 1) := by decide +kernel
theorem dX6_gets_82 : decode cX6_gets 82 = .ok (.getfield 16, 3) := by decide +kernel
theorem dX6_gets_85 : decode cX6_gets 85 = .ok (.aload_n 0, 1) := by decide +kernel
theorem dX6_gets_86 : decode cX6_gets 86 = .ok (.getfield 149, 3) := by decide +kernel
theorem dX6_gets_89 : decode cX6_gets 89 = .ok (.iload_n 1, 1) := by decide +kernel
theorem dX6_gets_90 : decode cX6_gets 90 = .ok (.ifCond .eq 9, 3) := by decide +kernel
theorem dX6_gets_93 : decode cX6_gets 93 = .ok (.iload_n 2, 1) := by decide +kernel
theorem dX6_gets_94 : decode cX6_gets 94 = .ok (.iload_n 3, 1) := by decide +kernel
theorem dX6_gets_95 : decode cX6_gets 95 = .ok (.isub, 1) := by decide +kernel
theorem dX6_gets_96 : decode cX6_gets 96 = .ok (.goto 4, 3) := by decide +kernel
theorem dX6_gets_99 : decode cX6_gets 99 = .ok (.iload_n 3, 1) := by decide +kernel
theorem dX6_gets_100 : decode cX6_gets 100 = .ok (.iastore, 1) := by decide +kernel
theorem dX6_gets_101 : decode cX6_gets 101 = .ok (.return_, 1) := by decide +kernel
theorem dX6_begins_0 : decode cX6_begins 0 = .ok (.iconst 0, 1) := by decide +kernel
theorem dX6_begins_1 : decode cX6_begins 1 = .ok (.istore_n 1, 1) := by decide +kernel
theorem dX6_begins_2 : decode cX6_begins 2 = .ok (.iload_n 1, 1) := by decide +kernel
theorem dX6_begins_3 : decode cX6_begins 3 = .ok (.aload_n 0, 1) := by decide +kernel
theorem dX6_begins_4 : decode cX6_begins 4 = .ok (.getfield 38, 3) := by decide +kernel
theorem dX6_begins_7 : decode cX6_begins 7 = .ok (.if_icmp .ge 21, 3) := by decide +kernel
theorem dX6_begins_10 : decode cX6_begins 10 = .ok (.aload_n 0, 1) := by decide +kernel
theorem dX6_begins_11 : decode cX6_begins 11 = .ok (.getfield 16, 3) := by decide +kernel
theorem dX6_begins_14 : decode cX6_begins 14 = .ok (.iload_n 1, 1) := by decide +kernel
theorem dX6_begins_15 : decode cX6_begins 15 = .ok (.aload_n 0, 1) := by decide +kernel
theorem dX6_begins_16 : decode cX6_begins 16 = .ok (.iload_n 1, 1) := by decide +kernel
theorem dX6_begins_17 : decode cX6_begins 17 = .ok (.iconst 0, 1) := by decide +kernel
theorem dX6_begins_18 : decode cX6_begins 18 = .ok (.invokevirtual 61, 3) := by decide +kernel
theorem dX6_begins_21 : decode cX6_begins 21 = .ok (.iastore, 1) := by decide +kernel
theorem dX6_begins_22 : decode cX6_begins 22 = .ok (.iinc 1 1, 3) := by decide +kernel
theorem dX6_begins_25 : decode cX6_begins 25 = .ok (.goto (-23), 3) := by decide +kernel
theorem dX6_begins_28 : decode cX6_begins 28 = .ok (.return_, 1) := by decide +kernel
theorem dX6_sampleNow_0 : decode cX6_sampleNow 0 = .ok (.iconst 0, 1) := by decide +kernel
theorem dX6_sampleNow_1 : decode cX6_sampleNow 1 = .ok (.istore_n 1, 1) := by decide +kernel
theorem dX6_sampleNow_2 : decode cX6_sampleNow 2 = .ok (.iconst 0, 1) := by decide +kernel
theorem dX6_sampleNow_3 : decode cX6_sampleNow 3 = .ok (.istore_n 2, 1) := by decide +kernel
theorem dX6_sampleNow_4 : decode cX6_sampleNow 4 = .ok (.iload_n 2, 1) := by decide +kernel
theorem dX6_sampleNow_5 : decode cX6_sampleNow 5 = .ok (.aload_n 0, 1) := by decide +kernel
theorem dX6_sampleNow_6 : decode cX6_sampleNow 6 = .ok (.getfield 38, 3) := by decide +kernel
theorem dX6_sampleNow_9 : decode cX6_sampleNow 9 = .ok (.if_icmp .ge 30, 3) := by decide +kernel
theorem dX6_sampleNow_12 : decode cX6_sampleNow 12 = .ok (.iload_n 1, 1) := by decide +kernel
theorem dX6_sampleNow_13 : decode cX6_sampleNow 13 = .ok (.aload_n 0, 1) := by decide +kernel
theorem dX6_sampleNow_14 : decode cX6_sampleNow 14 = .ok (.getfield 16, 3) := by decide +kernel
theorem dX6_sampleNow_17 : decode cX6_sampleNow 17 = .ok (.iload_n 2, 1) := by decide +kernel
theorem dX6_sampleNow_18 : decode cX6_sampleNow 18 = .ok (.iaload, 1) := by decide +kernel
theorem dX6_sampleNow_19 : decode cX6_sampleNow 19 = .ok (.bipush 12, 2) := by decide +kernel
theorem dX6_sampleNow_21 : decode cX6_sampleNow 21 = .ok (.if_icmp .ne 9, 3) := by decide +kernel
theorem dX6_sampleNow_24 : decode cX6_sampleNow 24 = .ok (.iconst 1, 1) := by decide +kernel
theorem dX6_sampleNow_25 : decode cX6_sampleNow 25 = .ok (.iload_n 2, 1) := by decide +kernel
theorem dX6_sampleNow_26 : decode cX6_sampleNow 26 = .ok (.ishl, 1) := by decide +kernel
theorem dX6_sampleNow_27 : decode cX6_sampleNow 27 = .ok (.goto 4, 3) := by decide +kernel
theorem dX6_sampleNow_30 : decode cX6_sampleNow 30 = .ok (.iconst 0, 1) := by decide +kernel
theorem dX6_sampleNow_31 : decode cX6_sampleNow 31 = .ok (.ior, 1) := by decide +kernel
theorem dX6_sampleNow_32 : decode cX6_sampleNow 32 = .ok (.istore_n 1, 1) := by decide +kernel
theorem dX6_sampleNow_33 : decode cX6_sampleNow 33 = .ok (.iinc 2 1, 3) := by decide +kernel
theorem dX6_sampleNow_36 : decode cX6_sampleNow 36 = .ok (.goto (-32), 3) := by decide +kernel
theorem dX6_sampleNow_39 : decode cX6_sampleNow 39 = .ok (.iload_n 1, 1) := by decide +kernel
theorem dX6_sampleNow_40 : decode cX6_sampleNow 40 = .ok (.ireturn, 1) := by decide +kernel
theorem dX6_walked_0 : decode cX6_walked 0 = .ok (.iload_n 1, 1) := by decide +kernel
theorem dX6_walked_1 : decode cX6_walked 1 = .ok (.i2l, 1) := by decide +kernel
theorem dX6_walked_2 : decode cX6_walked 2 = .ok (.lstore_n 2, 1) := by decide +kernel
theorem dX6_walked_3 : decode cX6_walked 3 = .ok (.aload_n 0, 1) := by decide +kernel
theorem dX6_walked_4 : decode cX6_walked 4 = .ok (.iconst 0, 1) := by decide +kernel
theorem dX6_walked_5 : decode cX6_walked 5 = .ok (.putfield 158, 3) := by decide +kernel
theorem dX6_walked_8 : decode cX6_walked 8 = .ok (.aload_n 0, 1) := by decide +kernel
theorem dX6_walked_9 : decode cX6_walked 9 = .ok (.iconst 0, 1) := by decide +kernel
theorem dX6_walked_10 : decode cX6_walked 10 = .ok (.putfield 161, 3) := by decide +kernel
theorem dX6_walked_13 : decode cX6_walked 13 = .ok (.aload_n 0, 1) := by decide +kernel
theorem dX6_walked_14 : decode cX6_walked 14 = .ok (.iconst 0, 1) := by decide +kernel
theorem dX6_walked_15 : decode cX6_walked 15 = .ok (.putfield 164, 3) := by decide +kernel
theorem dX6_walked_18 : decode cX6_walked 18 = .ok (.aload_n 0, 1) := by decide +kernel
theorem dX6_walked_19 : decode cX6_walked 19 = .ok (.invokevirtual 167, 3) := by decide +kernel
theorem dX6_walked_22 : decode cX6_walked 22 = .ok (.aload_n 0, 1) := by decide +kernel
theorem dX6_walked_23 : decode cX6_walked 23 = .ok (.invokevirtual 170, 3) := by decide +kernel
theorem dX6_walked_26 : decode cX6_walked 26 = .ok (.ifCond .eq 203, 3) := by decide +kernel
theorem dX6_walked_29 : decode cX6_walked 29 = .ok (.lload_n 2, 1) := by decide +kernel
theorem dX6_walked_30 : decode cX6_walked 30 = .ok (.invokestatic 100, 3) := by decide +kernel
theorem dX6_walked_33 : decode cX6_walked 33 = .ok (.lstore_n 2, 1) := by decide +kernel
theorem dX6_walked_34 : decode cX6_walked 34 = .ok (.lload_n 2, 1) := by decide +kernel
theorem dX6_walked_35 : decode cX6_walked 35 = .ok (.ldc2_w 104, 3) := by decide +kernel
theorem dX6_walked_38 : decode cX6_walked 38 = .ok (.ldiv, 1) := by decide +kernel
theorem dX6_walked_39 : decode cX6_walked 39 = .ok (.aload_n 0, 1) := by decide +kernel
theorem dX6_walked_40 : decode cX6_walked 40 = .ok (.invokevirtual 174, 3) := by decide +kernel
theorem dX6_walked_43 : decode cX6_walked 43 = .ok (.i2l, 1) := by decide +kernel
theorem dX6_walked_44 : decode cX6_walked 44 = .ok (.lrem, 1) := by decide +kernel
theorem dX6_walked_45 : decode cX6_walked 45 = .ok (.l2i, 1) := by decide +kernel
theorem dX6_walked_46 : decode cX6_walked 46 = .ok (.istore 4, 2) := by decide +kernel
theorem dX6_walked_48 : decode cX6_walked 48 = .ok (.iload 4, 2) := by decide +kernel
theorem dX6_walked_50 : decode cX6_walked 50 = .ok (.aload_n 0, 1) := by decide +kernel
theorem dX6_walked_51 : decode cX6_walked 51 = .ok (.invokevirtual 177, 3) := by decide +kernel
theorem dX6_walked_54 : decode cX6_walked 54 = .ok (.if_icmp .ge 7, 3) := by decide +kernel
theorem dX6_walked_57 : decode cX6_walked 57 = .ok (.iconst 1, 1) := by decide +kernel
theorem dX6_walked_58 : decode cX6_walked 58 = .ok (.goto 4, 3) := by decide +kernel
theorem dX6_walked_61 : decode cX6_walked 61 = .ok (.iconst 0, 1) := by decide +kernel
theorem dX6_walked_62 : decode cX6_walked 62 = .ok (.istore 5, 2) := by decide +kernel
theorem dX6_walked_64 : decode cX6_walked 64 = .ok (.aload_n 0, 1) := by decide +kernel
theorem dX6_walked_65 : decode cX6_walked 65 = .ok (.getfield 149, 3) := by decide +kernel
theorem dX6_walked_68 : decode cX6_walked 68 = .ok (.iconst (-1), 1) := by decide +kernel
theorem dX6_walked_69 : decode cX6_walked 69 = .ok (.if_icmp .eq 31, 3) := by decide +kernel
theorem dX6_walked_72 : decode cX6_walked 72 = .ok (.aload_n 0, 1) := by decide +kernel
theorem dX6_walked_73 : decode cX6_walked 73 = .ok (.getfield 16, 3) := by decide +kernel
theorem dX6_walked_76 : decode cX6_walked 76 = .ok (.aload_n 0, 1) := by decide +kernel
theorem dX6_walked_77 : decode cX6_walked 77 = .ok (.getfield 146, 3) := by decide +kernel
theorem dX6_walked_80 : decode cX6_walked 80 = .ok (.iaload, 1) := by decide +kernel
theorem dX6_walked_81 : decode cX6_walked 81 = .ok (.aload_n 0, 1) := by decide +kernel
theorem dX6_walked_82 : decode cX6_walked 82 = .ok (.getfield 16, 3) := by decide +kernel
theorem dX6_walked_85 : decode cX6_walked 85 = .ok (.aload_n 0, 1) := by decide +kernel
theorem dX6_walked_86 : decode cX6_walked 86 = .ok (.getfield 149, 3) := by decide +kernel
theorem dX6_walked_89 : decode cX6_walked 89 = .ok (.iaload, 1) := by decide +kernel
theorem dX6_walked_90 : decode cX6_walked 90 = .ok (.iadd, 1) := by decide +kernel
theorem dX6_walked_91 : decode cX6_walked 91 = .ok (.bipush 12, 2) := by decide +kernel
theorem dX6_walked_93 : decode cX6_walked 93 = .ok (.if_icmp .gt 7, 3) := by decide +kernel
theorem dX6_walked_96 : decode cX6_walked 96 = .ok (.iconst 1, 1) := by decide +kernel
theorem dX6_walked_97 : decode cX6_walked 97 = .ok (.goto 4, 3) := by decide +kernel
theorem dX6_walked_100 : decode cX6_walked 100 = .ok (.iconst 0, 1) := by decide +kernel
theorem dX6_walked_101 : decode cX6_walked 101 = .ok (.istore 6, 2) := by decide +kernel
theorem dX6_walked_103 : decode cX6_walked 103 = .ok (.aload_n 0, 1) := by decide +kernel
theorem dX6_walked_104 : decode cX6_walked 104 = .ok (.getfield 22, 3) := by decide +kernel
theorem dX6_walked_107 : decode cX6_walked 107 = .ok (.iconst 3, 1) := by decide +kernel
theorem dX6_walked_108 : decode cX6_walked 108 = .ok (.aload_n 0, 1) := by decide +kernel
theorem dX6_walked_109 : decode cX6_walked 109 = .ok (.getfield 158, 3) := by decide +kernel
theorem dX6_walked_112 : decode cX6_walked 112 = .ok (.imul, 1) := by decide +kernel
theorem dX6_walked_113 : decode cX6_walked 113 = .ok (.aload_n 0, 1) := by decide +kernel
theorem dX6_walked_114 : decode cX6_walked 114 = .ok (.getfield 146, 3) := by decide +kernel
theorem dX6_walked_117 : decode cX6_walked 117 = .ok (.iastore, 1) := by decide +kernel
theorem dX6_walked_118 : decode cX6_walked 118 = .ok (.aload_n 0, 1) := by decide +kernel
theorem dX6_walked_119 : decode cX6_walked 119 = .ok (.getfield 22, 3) := by decide +kernel
theorem dX6_walked_122 : decode cX6_walked 122 = .ok (.iconst 3, 1) := by decide +kernel
theorem dX6_walked_123 : decode cX6_walked 123 = .ok (.aload_n 0, 1) := by decide +kernel
theorem dX6_walked_124 : decode cX6_walked 124 = .ok (.getfield 158, 3) := by decide +kernel
theorem dX6_walked_127 : decode cX6_walked 127 = .ok (.imul, 1) := by decide +kernel
theorem dX6_walked_128 : decode cX6_walked 128 = .ok (.iconst 1, 1) := by decide +kernel
theorem dX6_walked_129 : decode cX6_walked 129 = .ok (.iadd, 1) := by decide +kernel
theorem dX6_walked_130 : decode cX6_walked 130 = .ok (.aload_n 0, 1) := by decide +kernel
theorem dX6_walked_131 : decode cX6_walked 131 = .ok (.getfield 149, 3) := by decide +kernel
theorem dX6_walked_134 : decode cX6_walked 134 = .ok (.iastore, 1) := by decide +kernel
theorem dX6_walked_135 : decode cX6_walked 135 = .ok (.aload_n 0, 1) := by decide +kernel
theorem dX6_walked_136 : decode cX6_walked 136 = .ok (.getfield 22, 3) := by decide +kernel
theorem dX6_walked_139 : decode cX6_walked 139 = .ok (.iconst 3, 1) := by decide +kernel
theorem dX6_walked_140 : decode cX6_walked 140 = .ok (.aload_n 0, 1) := by decide +kernel
theorem dX6_walked_141 : decode cX6_walked 141 = .ok (.getfield 158, 3) := by decide +kernel
theorem dX6_walked_144 : decode cX6_walked 144 = .ok (.imul, 1) := by decide +kernel
theorem dX6_walked_145 : decode cX6_walked 145 = .ok (.iconst 2, 1) := by decide +kernel
theorem dX6_walked_146 : decode cX6_walked 146 = .ok (.iadd, 1) := by decide +kernel
theorem dX6_walked_147 : decode cX6_walked 147 = .ok (.iload 5, 2) := by decide +kernel
theorem dX6_walked_149 : decode cX6_walked 149 = .ok (.ifCond .eq 10, 3) := by decide +kernel
theorem dX6_walked_152 : decode cX6_walked 152 = .ok (.aload_n 0, 1) := by decide +kernel
theorem dX6_walked_153 : decode cX6_walked 153 = .ok (.getfield 146, 3) := by decide +kernel
theorem dX6_walked_156 : decode cX6_walked 156 = .ok (.goto 7, 3) := by decide +kernel
theorem dX6_walked_159 : decode cX6_walked 159 = .ok (.aload_n 0, 1) := by decide +kernel
theorem dX6_walked_160 : decode cX6_walked 160 = .ok (.getfield 149, 3) := by decide +kernel
theorem dX6_walked_163 : decode cX6_walked 163 = .ok (.iastore, 1) := by decide +kernel
theorem dX6_walked_164 : decode cX6_walked 164 = .ok (.aload_n 0, 1) := by decide +kernel
theorem dX6_walked_165 : decode cX6_walked 165 = .ok (.dup, 1) := by decide +kernel
theorem dX6_walked_166 : decode cX6_walked 166 = .ok (.getfield 158, 3) := by decide +kernel
theorem dX6_walked_169 : decode cX6_walked 169 = .ok (.iconst 1, 1) := by decide +kernel
theorem dX6_walked_170 : decode cX6_walked 170 = .ok (.iadd, 1) := by decide +kernel
theorem dX6_walked_171 : decode cX6_walked 171 = .ok (.putfield 158, 3) := by decide +kernel
theorem dX6_walked_174 : decode cX6_walked 174 = .ok (.aload_n 0, 1) := by decide +kernel
theorem dX6_walked_175 : decode cX6_walked 175 = .ok (.dup, 1) := by decide +kernel
theorem dX6_walked_176 : decode cX6_walked 176 = .ok (.getfield 161, 3) := by decide +kernel
theorem dX6_walked_179 : decode cX6_walked 179 = .ok (.iload 6, 2) := by decide +kernel
theorem dX6_walked_181 : decode cX6_walked 181 = .ok (.ifCond .eq 7, 3) := by decide +kernel
theorem dX6_walked_184 : decode cX6_walked 184 = .ok (.iconst 1, 1) := by decide +kernel
theorem dX6_walked_185 : decode cX6_walked 185 = .ok (.goto 4, 3) := by decide +kernel
theorem dX6_walked_188 : decode cX6_walked 188 = .ok (.iconst 0, 1) := by decide +kernel
theorem dX6_walked_189 : decode cX6_walked 189 = .ok (.iadd, 1) := by decide +kernel
theorem dX6_walked_190 : decode cX6_walked 190 = .ok (.putfield 161, 3) := by decide +kernel
theorem dX6_walked_193 : decode cX6_walked 193 = .ok (.aload_n 0, 1) := by decide +kernel
theorem dX6_walked_194 : decode cX6_walked 194 = .ok (.dup, 1) := by decide +kernel
theorem dX6_walked_195 : decode cX6_walked 195 = .ok (.getfield 164, 3) := by decide +kernel
theorem dX6_walked_198 : decode cX6_walked 198 = .ok (.aload_n 0, 1) := by decide +kernel
theorem dX6_walked_199 : decode cX6_walked 199 = .ok (.getfield 149, 3) := by decide +kernel
theorem dX6_walked_202 : decode cX6_walked 202 = .ok (.iconst (-1), 1) := by decide +kernel
theorem dX6_walked_203 : decode cX6_walked 203 = .ok (.if_icmp .eq 12, 3) := by decide +kernel
theorem dX6_walked_206 : decode cX6_walked 206 = .ok (.iload 6, 2) := by decide +kernel
theorem dX6_walked_208 : decode cX6_walked 208 = .ok (.ifCond .ne 7, 3) := by decide +kernel
theorem dX6_walked_211 : decode cX6_walked 211 = .ok (.iconst 1, 1) := by decide +kernel
theorem dX6_walked_212 : decode cX6_walked 212 = .ok (.goto 4, 3) := by decide +kernel
theorem dX6_walked_215 : decode cX6_walked 215 = .ok (.iconst 0, 1) := by decide +kernel
theorem dX6_walked_216 : decode cX6_walked 216 = .ok (.iadd, 1) := by decide +kernel
theorem dX6_walked_217 : decode cX6_walked 217 = .ok (.putfield 164, 3) := by decide +kernel
theorem dX6_walked_220 : decode cX6_walked 220 = .ok (.aload_n 0, 1) := by decide +kernel
theorem dX6_walked_221 : decode cX6_walked 221 = .ok (.iload 5, 2) := by decide +kernel
theorem dX6_walked_223 : decode cX6_walked 223 = .ok (.invokevirtual 180, 3) := by decide +kernel
theorem dX6_walked_226 : decode cX6_walked 226 = .ok (.goto (-204), 3) := by decide +kernel
theorem dX6_walked_229 : decode cX6_walked 229 = .ok (.aload_n 0, 1) := by decide +kernel
theorem dX6_walked_230 : decode cX6_walked 230 = .ok (.invokevirtual 184, 3) := by decide +kernel
theorem dX6_walked_233 : decode cX6_walked 233 = .ok (.ireturn, 1) := by decide +kernel
theorem dX6_walks_0 : decode cX6_walks 0 = .ok (.aload_n 0, 1) := by decide +kernel
theorem dX6_walks_1 : decode cX6_walks 1 = .ok (.aload_n 0, 1) := by decide +kernel
theorem dX6_walks_2 : decode cX6_walks 2 = .ok (.iload_n 1, 1) := by decide +kernel
theorem dX6_walks_3 : decode cX6_walks 3 = .ok (.invokevirtual 187, 3) := by decide +kernel
theorem dX6_walks_6 : decode cX6_walks 6 = .ok (.putfield 75, 3) := by decide +kernel
theorem dX6_walks_9 : decode cX6_walks 9 = .ok (.aload_n 0, 1) := by decide +kernel
theorem dX6_walks_10 : decode cX6_walks 10 = .ok (.aload_n 0, 1) := by decide +kernel
theorem dX6_walks_11 : decode cX6_walks 11 = .ok (.getfield 158, 3) := by decide +kernel
theorem dX6_walks_14 : decode cX6_walks 14 = .ok (.putfield 78, 3) := by decide +kernel
theorem dX6_walks_17 : decode cX6_walks 17 = .ok (.aload_n 0, 1) := by decide +kernel
theorem dX6_walks_18 : decode cX6_walks 18 = .ok (.aload_n 0, 1) := by decide +kernel
theorem dX6_walks_19 : decode cX6_walks 19 = .ok (.getfield 161, 3) := by decide +kernel
theorem dX6_walks_22 : decode cX6_walks 22 = .ok (.putfield 81, 3) := by decide +kernel
theorem dX6_walks_25 : decode cX6_walks 25 = .ok (.aload_n 0, 1) := by decide +kernel
theorem dX6_walks_26 : decode cX6_walks 26 = .ok (.aload_n 0, 1) := by decide +kernel
theorem dX6_walks_27 : decode cX6_walks 27 = .ok (.getfield 164, 3) := by decide +kernel
theorem dX6_walks_30 : decode cX6_walks 30 = .ok (.putfield 84, 3) := by decide +kernel
theorem dX6_walks_33 : decode cX6_walks 33 = .ok (.iconst 0, 1) := by decide +kernel
theorem dX6_walks_34 : decode cX6_walks 34 = .ok (.istore_n 2, 1) := by decide +kernel
theorem dX6_walks_35 : decode cX6_walks 35 = .ok (.iload_n 2, 1) := by decide +kernel
theorem dX6_walks_36 : decode cX6_walks 36 = .ok (.iconst 3, 1) := by decide +kernel
theorem dX6_walks_37 : decode cX6_walks 37 = .ok (.aload_n 0, 1) := by decide +kernel
theorem dX6_walks_38 : decode cX6_walks 38 = .ok (.getfield 78, 3) := by decide +kernel
theorem dX6_walks_41 : decode cX6_walks 41 = .ok (.imul, 1) := by decide +kernel
theorem dX6_walks_42 : decode cX6_walks 42 = .ok (.if_icmp .ge 21, 3) := by decide +kernel
theorem dX6_walks_45 : decode cX6_walks 45 = .ok (.aload_n 0, 1) := by decide +kernel
theorem dX6_walks_46 : decode cX6_walks 46 = .ok (.getfield 19, 3) := by decide +kernel
theorem dX6_walks_49 : decode cX6_walks 49 = .ok (.iload_n 2, 1) := by decide +kernel
theorem dX6_walks_50 : decode cX6_walks 50 = .ok (.aload_n 0, 1) := by decide +kernel
theorem dX6_walks_51 : decode cX6_walks 51 = .ok (.getfield 22, 3) := by decide +kernel
theorem dX6_walks_54 : decode cX6_walks 54 = .ok (.iload_n 2, 1) := by decide +kernel
theorem dX6_walks_55 : decode cX6_walks 55 = .ok (.iaload, 1) := by decide +kernel
theorem dX6_walks_56 : decode cX6_walks 56 = .ok (.iastore, 1) := by decide +kernel
theorem dX6_walks_57 : decode cX6_walks 57 = .ok (.iinc 2 1, 3) := by decide +kernel
theorem dX6_walks_60 : decode cX6_walks 60 = .ok (.goto (-25), 3) := by decide +kernel
theorem dX6_walks_63 : decode cX6_walks 63 = .ok (.aload_n 0, 1) := by decide +kernel
theorem dX6_walks_64 : decode cX6_walks 64 = .ok (.getfield 75, 3) := by decide +kernel
theorem dX6_walks_67 : decode cX6_walks 67 = .ok (.invokestatic 190, 3) := by decide +kernel
theorem dX6_walks_70 : decode cX6_walks 70 = .ok (.ireturn, 1) := by decide +kernel
theorem dX6_isSeed_0 : decode cX6_isSeed 0 = .ok (.iload_n 0, 1) := by decide +kernel
theorem dX6_isSeed_1 : decode cX6_isSeed 1 = .ok (.i2l, 1) := by decide +kernel
theorem dX6_isSeed_2 : decode cX6_isSeed 2 = .ok (.lconst 0, 1) := by decide +kernel
theorem dX6_isSeed_3 : decode cX6_isSeed 3 = .ok (.ldc2_w 96, 3) := by decide +kernel
theorem dX6_isSeed_6 : decode cX6_isSeed 6 = .ok (.invokestatic 42, 3) := by decide +kernel
theorem dX6_isSeed_9 : decode cX6_isSeed 9 = .ok (.ireturn, 1) := by decide +kernel
theorem dX6_walk_0 : decode cX6_walk 0 = .ok (.iload_n 1, 1) := by decide +kernel
theorem dX6_walk_1 : decode cX6_walk 1 = .ok (.invokestatic 193, 3) := by decide +kernel
theorem dX6_walk_4 : decode cX6_walk 4 = .ok (.ifCond .eq 11, 3) := by decide +kernel
theorem dX6_walk_7 : decode cX6_walk 7 = .ok (.aload_n 0, 1) := by decide +kernel
theorem dX6_walk_8 : decode cX6_walk 8 = .ok (.iload_n 1, 1) := by decide +kernel
theorem dX6_walk_9 : decode cX6_walk 9 = .ok (.invokevirtual 196, 3) := by decide +kernel
theorem dX6_walk_12 : decode cX6_walk 12 = .ok (.goto 9, 3) := by decide +kernel
theorem dX6_walk_15 : decode cX6_walk 15 = .ok (.aload_n 0, 1) := by decide +kernel
theorem dX6_walk_16 : decode cX6_walk 16 = .ok (.bipush (-2), 2) := by decide +kernel
theorem dX6_walk_18 : decode cX6_walk 18 = .ok (.invokevirtual 50, 3) := by decide +kernel
theorem dX6_walk_21 : decode cX6_walk 21 = .ok (.ireturn, 1) := by decide +kernel
theorem dX6_wasOf_0 : decode cX6_wasOf 0 = .ok (.iload_n 1, 1) := by decide +kernel
theorem dX6_wasOf_1 : decode cX6_wasOf 1 = .ok (.ifCond .ne 10, 3) := by decide +kernel
theorem dX6_wasOf_4 : decode cX6_wasOf 4 = .ok (.aload_n 0, 1) := by decide +kernel
theorem dX6_wasOf_5 : decode cX6_wasOf 5 = .ok (.getfield 75, 3) := by decide +kernel
theorem dX6_wasOf_8 : decode cX6_wasOf 8 = .ok (.goto 31, 3) := by decide +kernel
theorem dX6_wasOf_11 : decode cX6_wasOf 11 = .ok (.iload_n 1, 1) := by decide +kernel
theorem dX6_wasOf_12 : decode cX6_wasOf 12 = .ok (.iconst 1, 1) := by decide +kernel
theorem dX6_wasOf_13 : decode cX6_wasOf 13 = .ok (.if_icmp .ne 10, 3) := by decide +kernel
theorem dX6_wasOf_16 : decode cX6_wasOf 16 = .ok (.aload_n 0, 1) := by decide +kernel
theorem dX6_wasOf_17 : decode cX6_wasOf 17 = .ok (.getfield 78, 3) := by decide +kernel
theorem dX6_wasOf_20 : decode cX6_wasOf 20 = .ok (.goto 19, 3) := by decide +kernel
theorem dX6_wasOf_23 : decode cX6_wasOf 23 = .ok (.iload_n 1, 1) := by decide +kernel
theorem dX6_wasOf_24 : decode cX6_wasOf 24 = .ok (.iconst 2, 1) := by decide +kernel
theorem dX6_wasOf_25 : decode cX6_wasOf 25 = .ok (.if_icmp .ne 10, 3) := by decide +kernel
theorem dX6_wasOf_28 : decode cX6_wasOf 28 = .ok (.aload_n 0, 1) := by decide +kernel
theorem dX6_wasOf_29 : decode cX6_wasOf 29 = .ok (.getfield 81, 3) := by decide +kernel
theorem dX6_wasOf_32 : decode cX6_wasOf 32 = .ok (.goto 7, 3) := by decide +kernel
theorem dX6_wasOf_35 : decode cX6_wasOf 35 = .ok (.aload_n 0, 1) := by decide +kernel
theorem dX6_wasOf_36 : decode cX6_wasOf 36 = .ok (.getfield 84, 3) := by decide +kernel
theorem dX6_wasOf_39 : decode cX6_wasOf 39 = .ok (.ireturn, 1) := by decide +kernel
theorem dX6_was_0 : decode cX6_was 0 = .ok (.iload_n 1, 1) := by decide +kernel
theorem dX6_was_1 : decode cX6_was 1 = .ok (.i2l, 1) := by decide +kernel
theorem dX6_was_2 : decode cX6_was 2 = .ok (.lconst 0, 1) := by decide +kernel
theorem dX6_was_3 : decode cX6_was 3 = .ok (.ldc2_w 126, 3) := by decide +kernel
theorem dX6_was_6 : decode cX6_was 6 = .ok (.invokestatic 42, 3) := by decide +kernel
theorem dX6_was_9 : decode cX6_was 9 = .ok (.ifCond .eq 11, 3) := by decide +kernel
theorem dX6_was_12 : decode cX6_was 12 = .ok (.aload_n 0, 1) := by decide +kernel
theorem dX6_was_13 : decode cX6_was 13 = .ok (.iload_n 1, 1) := by decide +kernel
theorem dX6_was_14 : decode cX6_was 14 = .ok (.invokevirtual 199, 3) := by decide +kernel
theorem dX6_was_17 : decode cX6_was 17 = .ok (.goto 9, 3) := by decide +kernel
theorem dX6_was_20 : decode cX6_was 20 = .ok (.aload_n 0, 1) := by decide +kernel
theorem dX6_was_21 : decode cX6_was 21 = .ok (.bipush (-2), 2) := by decide +kernel
theorem dX6_was_23 : decode cX6_was 23 = .ok (.invokevirtual 50, 3) := by decide +kernel
theorem dX6_was_26 : decode cX6_was 26 = .ok (.ireturn, 1) := by decide +kernel
theorem dX6_play_0 : decode cX6_play 0 = .ok (.iload_n 1, 1) := by decide +kernel
theorem dX6_play_1 : decode cX6_play 1 = .ok (.ifCond .lt 15, 3) := by decide +kernel
theorem dX6_play_4 : decode cX6_play 4 = .ok (.iload_n 2, 1) := by decide +kernel
theorem dX6_play_5 : decode cX6_play 5 = .ok (.i2l, 1) := by decide +kernel
theorem dX6_play_6 : decode cX6_play 6 = .ok (.lconst 0, 1) := by decide +kernel
theorem dX6_play_7 : decode cX6_play 7 = .ok (.ldc2_w 202, 3) := by decide +kernel
theorem dX6_play_10 : decode cX6_play 10 = .ok (.invokestatic 42, 3) := by decide +kernel
theorem dX6_play_13 : decode cX6_play 13 = .ok (.ifCond .ne 10, 3) := by decide +kernel
theorem dX6_play_16 : decode cX6_play 16 = .ok (.aload_n 0, 1) := by decide +kernel
theorem dX6_play_17 : decode cX6_play 17 = .ok (.bipush (-2), 2) := by decide +kernel
theorem dX6_play_19 : decode cX6_play 19 = .ok (.invokevirtual 50, 3) := by decide +kernel
theorem dX6_play_22 : decode cX6_play 22 = .ok (.ireturn, 1) := by decide +kernel
theorem dX6_play_23 : decode cX6_play 23 = .ok (.iload_n 1, 1) := by decide +kernel
theorem dX6_play_24 : decode cX6_play 24 = .ok (.aload_n 0, 1) := by decide +kernel
theorem dX6_play_25 : decode cX6_play 25 = .ok (.getfield 78, 3) := by decide +kernel
theorem dX6_play_28 : decode cX6_play 28 = .ok (.if_icmp .ge 16, 3) := by decide +kernel
theorem dX6_play_31 : decode cX6_play 31 = .ok (.aload_n 0, 1) := by decide +kernel
theorem dX6_play_32 : decode cX6_play 32 = .ok (.getfield 19, 3) := by decide +kernel
theorem dX6_play_35 : decode cX6_play 35 = .ok (.iconst 3, 1) := by decide +kernel
theorem dX6_play_36 : decode cX6_play 36 = .ok (.iload_n 1, 1) := by decide +kernel
theorem dX6_play_37 : decode cX6_play 37 = .ok (.imul, 1) := by decide +kernel
theorem dX6_play_38 : decode cX6_play 38 = .ok (.iload_n 2, 1) := by decide +kernel
theorem dX6_play_39 : decode cX6_play 39 = .ok (.iadd, 1) := by decide +kernel
theorem dX6_play_40 : decode cX6_play 40 = .ok (.iaload, 1) := by decide +kernel
theorem dX6_play_41 : decode cX6_play 41 = .ok (.goto 4, 3) := by decide +kernel
theorem dX6_play_44 : decode cX6_play 44 = .ok (.iconst (-1), 1) := by decide +kernel
theorem dX6_play_45 : decode cX6_play 45 = .ok (.ireturn, 1) := by decide +kernel
theorem dX6_countedUp_0 : decode cX6_countedUp 0 = .ok (.lconst 0, 1) := by decide +kernel
theorem dX6_countedUp_1 : decode cX6_countedUp 1 = .ok (.lstore_n 3, 1) := by decide +kernel
theorem dX6_countedUp_2 : decode cX6_countedUp 2 = .ok (.iconst 0, 1) := by decide +kernel
theorem dX6_countedUp_3 : decode cX6_countedUp 3 = .ok (.istore 5, 2) := by decide +kernel
theorem dX6_countedUp_5 : decode cX6_countedUp 5 = .ok (.iload 5, 2) := by decide +kernel
theorem dX6_countedUp_7 : decode cX6_countedUp 7 = .ok (.aload_n 0, 1) := by decide +kernel
theorem dX6_countedUp_8 : decode cX6_countedUp 8 = .ok (.getfield 38, 3) := by decide +kernel
theorem dX6_countedUp_11 : decode cX6_countedUp 11 = .ok (.if_icmp .ge 67, 3) := by decide +kernel
theorem dX6_countedUp_14 : decode cX6_countedUp 14 = .ok (.iload_n 1, 1) := by decide +kernel
theorem dX6_countedUp_15 : decode cX6_countedUp 15 = .ok (.iload 5, 2) := by decide +kernel
theorem dX6_countedUp_17 : decode cX6_countedUp 17 = .ok (.invokestatic 120, 3) := by decide +kernel
theorem dX6_countedUp_20 : decode cX6_countedUp 20 = .ok (.ifCond .eq 17, 3) := by decide +kernel
theorem dX6_countedUp_23 : decode cX6_countedUp 23 = .ok (.aload_n 0, 1) := by decide +kernel
theorem dX6_countedUp_24 : decode cX6_countedUp 24 = .ok (.iload 5, 2) := by decide +kernel
theorem dX6_countedUp_26 : decode cX6_countedUp 26 = .ok (.iconst 0, 1) := by decide +kernel
theorem dX6_countedUp_27 : decode cX6_countedUp 27 = .ok (.invokevirtual 61, 3) := by decide +kernel
theorem dX6_countedUp_30 : decode cX6_countedUp 30 = .ok (.ifCond .le 7, 3) := by decide +kernel
theorem dX6_countedUp_33 : decode cX6_countedUp 33 = .ok (.iconst 1, 1) := by decide +kernel
theorem dX6_countedUp_34 : decode cX6_countedUp 34 = .ok (.goto 4, 3) := by decide +kernel
theorem dX6_countedUp_37 : decode cX6_countedUp 37 = .ok (.iconst 0, 1) := by decide +kernel
theorem dX6_countedUp_38 : decode cX6_countedUp 38 = .ok (.istore 6, 2) := by decide +kernel
theorem dX6_countedUp_40 : decode cX6_countedUp 40 = .ok (.lload_n 3, 1) := by decide +kernel
theorem dX6_countedUp_41 : decode cX6_countedUp 41 = .ok (.iload 6, 2) := by decide +kernel
theorem dX6_countedUp_43 : decode cX6_countedUp 43 = .ok (.ifCond .eq 26, 3) := by decide +kernel
theorem dX6_countedUp_46 : decode cX6_countedUp 46 = .ok (.aload_n 0, 1) := by decide +kernel
theorem dX6_countedUp_47 : decode cX6_countedUp 47 = .ok (.iload 5, 2) := by decide +kernel
theorem dX6_countedUp_49 : decode cX6_countedUp 49 = .ok (.iload_n 2, 1) := by decide +kernel
theorem dX6_countedUp_50 : decode cX6_countedUp 50 = .ok (.invokevirtual 61, 3) := by decide +kernel
theorem dX6_countedUp_53 : decode cX6_countedUp 53 = .ok (.i2l, 1) := by decide +kernel
theorem dX6_countedUp_54 : decode cX6_countedUp 54 = .ok (.ldc 204, 2) := by decide +kernel
theorem dX6_countedUp_56 : decode cX6_countedUp 56 = .ok (.aload_n 0, 1) := by decide +kernel
theorem dX6_countedUp_57 : decode cX6_countedUp 57 = .ok (.iload 5, 2) := by decide +kernel
theorem dX6_countedUp_59 : decode cX6_countedUp 59 = .ok (.iconst 0, 1) := by decide +kernel
theorem dX6_countedUp_60 : decode cX6_countedUp 60 = .ok (.invokevirtual 61, 3) := by decide +kernel
theorem dX6_countedUp_63 : decode cX6_countedUp 63 = .ok (.idiv, 1) := by decide +kernel
theorem dX6_countedUp_64 : decode cX6_countedUp 64 = .ok (.i2l, 1) := by decide +kernel
theorem dX6_countedUp_65 : decode cX6_countedUp 65 = .ok (.lmul, 1) := by decide +kernel
theorem dX6_countedUp_66 : decode cX6_countedUp 66 = .ok (.goto 4, 3) := by decide +kernel
theorem dX6_countedUp_69 : decode cX6_countedUp 69 = .ok (.lconst 0, 1) := by decide +kernel
theorem dX6_countedUp_70 : decode cX6_countedUp 70 = .ok (.ladd, 1) := by decide +kernel
theorem dX6_countedUp_71 : decode cX6_countedUp 71 = .ok (.lstore_n 3, 1) := by decide +kernel
theorem dX6_countedUp_72 : decode cX6_countedUp 72 = .ok (.iinc 5 1, 3) := by decide +kernel
theorem dX6_countedUp_75 : decode cX6_countedUp 75 = .ok (.goto (-70), 3) := by decide +kernel
theorem dX6_countedUp_78 : decode cX6_countedUp 78 = .ok (.lload_n 3, 1) := by decide +kernel
theorem dX6_countedUp_79 : decode cX6_countedUp 79 = .ok (.lreturn, 1) := by decide +kernel
theorem dX6_missOf_0 : decode cX6_missOf 0 = .ok (.aload_n 0, 1) := by decide +kernel
theorem dX6_missOf_1 : decode cX6_missOf 1 = .ok (.iload_n 1, 1) := by decide +kernel
theorem dX6_missOf_2 : decode cX6_missOf 2 = .ok (.iconst 3, 1) := by decide +kernel
theorem dX6_missOf_3 : decode cX6_missOf 3 = .ok (.invokevirtual 205, 3) := by decide +kernel
theorem dX6_missOf_6 : decode cX6_missOf 6 = .ok (.ldc2_w 209, 3) := by decide +kernel
theorem dX6_missOf_9 : decode cX6_missOf 9 = .ok (.aload_n 0, 1) := by decide +kernel
theorem dX6_missOf_10 : decode cX6_missOf 10 = .ok (.iconst 3, 1) := by decide +kernel
theorem dX6_missOf_11 : decode cX6_missOf 11 = .ok (.invokevirtual 128, 3) := by decide +kernel
theorem dX6_missOf_14 : decode cX6_missOf 14 = .ok (.i2l, 1) := by decide +kernel
theorem dX6_missOf_15 : decode cX6_missOf 15 = .ok (.lmul, 1) := by decide +kernel
theorem dX6_missOf_16 : decode cX6_missOf 16 = .ok (.lsub, 1) := by decide +kernel
theorem dX6_missOf_17 : decode cX6_missOf 17 = .ok (.lstore_n 2, 1) := by decide +kernel
theorem dX6_missOf_18 : decode cX6_missOf 18 = .ok (.lload_n 2, 1) := by decide +kernel
theorem dX6_missOf_19 : decode cX6_missOf 19 = .ok (.lconst 0, 1) := by decide +kernel
theorem dX6_missOf_20 : decode cX6_missOf 20 = .ok (.lcmp, 1) := by decide +kernel
theorem dX6_missOf_21 : decode cX6_missOf 21 = .ok (.ifCond .ge 8, 3) := by decide +kernel
theorem dX6_missOf_24 : decode cX6_missOf 24 = .ok (.lload_n 2, 1) := by decide +kernel
theorem dX6_missOf_25 : decode cX6_missOf 25 = .ok (.lneg, 1) := by decide +kernel
theorem dX6_missOf_26 : decode cX6_missOf 26 = .ok (.goto 4, 3) := by decide +kernel
theorem dX6_missOf_29 : decode cX6_missOf 29 = .ok (.lload_n 2, 1) := by decide +kernel
theorem dX6_missOf_30 : decode cX6_missOf 30 = .ok (.lreturn, 1) := by decide +kernel
theorem dX6_counted_0 : decode cX6_counted 0 = .ok (.iload_n 1, 1) := by decide +kernel
theorem dX6_counted_1 : decode cX6_counted 1 = .ok (.i2l, 1) := by decide +kernel
theorem dX6_counted_2 : decode cX6_counted 2 = .ok (.lconst 0, 1) := by decide +kernel
theorem dX6_counted_3 : decode cX6_counted 3 = .ok (.ldc2_w 202, 3) := by decide +kernel
theorem dX6_counted_6 : decode cX6_counted 6 = .ok (.invokestatic 42, 3) := by decide +kernel
theorem dX6_counted_9 : decode cX6_counted 9 = .ok (.ifCond .ne 11, 3) := by decide +kernel
theorem dX6_counted_12 : decode cX6_counted 12 = .ok (.aload_n 0, 1) := by decide +kernel
theorem dX6_counted_13 : decode cX6_counted 13 = .ok (.bipush (-2), 2) := by decide +kernel
theorem dX6_counted_15 : decode cX6_counted 15 = .ok (.invokevirtual 50, 3) := by decide +kernel
theorem dX6_counted_18 : decode cX6_counted 18 = .ok (.i2l, 1) := by decide +kernel
theorem dX6_counted_19 : decode cX6_counted 19 = .ok (.lreturn, 1) := by decide +kernel
theorem dX6_counted_20 : decode cX6_counted 20 = .ok (.iload_n 1, 1) := by decide +kernel
theorem dX6_counted_21 : decode cX6_counted 21 = .ok (.ifCond .ne 15, 3) := by decide +kernel
theorem dX6_counted_24 : decode cX6_counted 24 = .ok (.aload_n 0, 1) := by decide +kernel
theorem dX6_counted_25 : decode cX6_counted 25 = .ok (.aload_n 0, 1) := by decide +kernel
theorem dX6_counted_26 : decode cX6_counted 26 = .ok (.getfield 75, 3) := by decide +kernel
theorem dX6_counted_29 : decode cX6_counted 29 = .ok (.iconst 4, 1) := by decide +kernel
theorem dX6_counted_30 : decode cX6_counted 30 = .ok (.invokevirtual 205, 3) := by decide +kernel
theorem dX6_counted_33 : decode cX6_counted 33 = .ok (.goto 28, 3) := by decide +kernel
theorem dX6_counted_36 : decode cX6_counted 36 = .ok (.iload_n 1, 1) := by decide +kernel
theorem dX6_counted_37 : decode cX6_counted 37 = .ok (.iconst 1, 1) := by decide +kernel
theorem dX6_counted_38 : decode cX6_counted 38 = .ok (.if_icmp .ne 15, 3) := by decide +kernel
theorem dX6_counted_41 : decode cX6_counted 41 = .ok (.aload_n 0, 1) := by decide +kernel
theorem dX6_counted_42 : decode cX6_counted 42 = .ok (.aload_n 0, 1) := by decide +kernel
theorem dX6_counted_43 : decode cX6_counted 43 = .ok (.getfield 75, 3) := by decide +kernel
theorem dX6_counted_46 : decode cX6_counted 46 = .ok (.iconst 3, 1) := by decide +kernel
theorem dX6_counted_47 : decode cX6_counted 47 = .ok (.invokevirtual 205, 3) := by decide +kernel
theorem dX6_counted_50 : decode cX6_counted 50 = .ok (.goto 11, 3) := by decide +kernel
theorem dX6_counted_53 : decode cX6_counted 53 = .ok (.aload_n 0, 1) := by decide +kernel
theorem dX6_counted_54 : decode cX6_counted 54 = .ok (.aload_n 0, 1) := by decide +kernel
theorem dX6_counted_55 : decode cX6_counted 55 = .ok (.getfield 75, 3) := by decide +kernel
theorem dX6_counted_58 : decode cX6_counted 58 = .ok (.invokevirtual 211, 3) := by decide +kernel
theorem dX6_counted_61 : decode cX6_counted 61 = .ok (.lreturn, 1) := by decide +kernel
theorem dX6_inside_0 : decode cX6_inside 0 = .ok (.iload_n 1, 1) := by decide +kernel
theorem dX6_inside_1 : decode cX6_inside 1 = .ok (.i2l, 1) := by decide +kernel
theorem dX6_inside_2 : decode cX6_inside 2 = .ok (.lconst 0, 1) := by decide +kernel
theorem dX6_inside_3 : decode cX6_inside 3 = .ok (.ldc2_w 126, 3) := by decide +kernel
theorem dX6_inside_6 : decode cX6_inside 6 = .ok (.invokestatic 42, 3) := by decide +kernel
theorem dX6_inside_9 : decode cX6_inside 9 = .ok (.ifCond .ne 10, 3) := by decide +kernel
theorem dX6_inside_12 : decode cX6_inside 12 = .ok (.aload_n 0, 1) := by decide +kernel
theorem dX6_inside_13 : decode cX6_inside 13 = .ok (.bipush (-2), 2) := by decide +kernel
theorem dX6_inside_15 : decode cX6_inside 15 = .ok (.invokevirtual 50, 3) := by decide +kernel
theorem dX6_inside_18 : decode cX6_inside 18 = .ok (.ireturn, 1) := by decide +kernel
theorem dX6_inside_19 : decode cX6_inside 19 = .ok (.iconst 0, 1) := by decide +kernel
theorem dX6_inside_20 : decode cX6_inside 20 = .ok (.istore_n 2, 1) := by decide +kernel
theorem dX6_inside_21 : decode cX6_inside 21 = .ok (.iconst 0, 1) := by decide +kernel
theorem dX6_inside_22 : decode cX6_inside 22 = .ok (.istore_n 3, 1) := by decide +kernel
theorem dX6_inside_23 : decode cX6_inside 23 = .ok (.iload_n 3, 1) := by decide +kernel
theorem dX6_inside_24 : decode cX6_inside 24 = .ok (.aload_n 0, 1) := by decide +kernel
theorem dX6_inside_25 : decode cX6_inside 25 = .ok (.getfield 38, 3) := by decide +kernel
theorem dX6_inside_28 : decode cX6_inside 28 = .ok (.if_icmp .ge 38, 3) := by decide +kernel
theorem dX6_inside_31 : decode cX6_inside 31 = .ok (.iload_n 2, 1) := by decide +kernel
theorem dX6_inside_32 : decode cX6_inside 32 = .ok (.aload_n 0, 1) := by decide +kernel
theorem dX6_inside_33 : decode cX6_inside 33 = .ok (.getfield 75, 3) := by decide +kernel
theorem dX6_inside_36 : decode cX6_inside 36 = .ok (.iload_n 3, 1) := by decide +kernel
theorem dX6_inside_37 : decode cX6_inside 37 = .ok (.invokestatic 120, 3) := by decide +kernel
theorem dX6_inside_40 : decode cX6_inside 40 = .ok (.ifCond .eq 17, 3) := by decide +kernel
theorem dX6_inside_43 : decode cX6_inside 43 = .ok (.aload_n 0, 1) := by decide +kernel
theorem dX6_inside_44 : decode cX6_inside 44 = .ok (.iload_n 3, 1) := by decide +kernel
theorem dX6_inside_45 : decode cX6_inside 45 = .ok (.iconst 2, 1) := by decide +kernel
theorem dX6_inside_46 : decode cX6_inside 46 = .ok (.invokevirtual 61, 3) := by decide +kernel
theorem dX6_inside_49 : decode cX6_inside 49 = .ok (.iload_n 1, 1) := by decide +kernel
theorem dX6_inside_50 : decode cX6_inside 50 = .ok (.if_icmp .ne 7, 3) := by decide +kernel
theorem dX6_inside_53 : decode cX6_inside 53 = .ok (.iconst 1, 1) := by decide +kernel
theorem dX6_inside_54 : decode cX6_inside 54 = .ok (.goto 4, 3) := by decide +kernel
theorem dX6_inside_57 : decode cX6_inside 57 = .ok (.iconst 0, 1) := by decide +kernel
theorem dX6_inside_58 : decode cX6_inside 58 = .ok (.iadd, 1) := by decide +kernel
theorem dX6_inside_59 : decode cX6_inside 59 = .ok (.istore_n 2, 1) := by decide +kernel
theorem dX6_inside_60 : decode cX6_inside 60 = .ok (.iinc 3 1, 3) := by decide +kernel
theorem dX6_inside_63 : decode cX6_inside 63 = .ok (.goto (-40), 3) := by decide +kernel
theorem dX6_inside_66 : decode cX6_inside 66 = .ok (.iload_n 2, 1) := by decide +kernel
theorem dX6_inside_67 : decode cX6_inside 67 = .ok (.ireturn, 1) := by decide +kernel
theorem dX6_spread_0 : decode cX6_spread 0 = .ok (.iconst (-1), 1) := by decide +kernel
theorem dX6_spread_1 : decode cX6_spread 1 = .ok (.istore_n 1, 1) := by decide +kernel
theorem dX6_spread_2 : decode cX6_spread 2 = .ok (.iconst 0, 1) := by decide +kernel
theorem dX6_spread_3 : decode cX6_spread 3 = .ok (.istore_n 2, 1) := by decide +kernel
theorem dX6_spread_4 : decode cX6_spread 4 = .ok (.iload_n 2, 1) := by decide +kernel
theorem dX6_spread_5 : decode cX6_spread 5 = .ok (.aload_n 0, 1) := by decide +kernel
theorem dX6_spread_6 : decode cX6_spread 6 = .ok (.getfield 38, 3) := by decide +kernel
theorem dX6_spread_9 : decode cX6_spread 9 = .ok (.if_icmp .ge 91, 3) := by decide +kernel
theorem dX6_spread_12 : decode cX6_spread 12 = .ok (.iconst 0, 1) := by decide +kernel
theorem dX6_spread_13 : decode cX6_spread 13 = .ok (.istore_n 3, 1) := by decide +kernel
theorem dX6_spread_14 : decode cX6_spread 14 = .ok (.iload_n 3, 1) := by decide +kernel
theorem dX6_spread_15 : decode cX6_spread 15 = .ok (.iload_n 2, 1) := by decide +kernel
theorem dX6_spread_16 : decode cX6_spread 16 = .ok (.if_icmp .ge 78, 3) := by decide +kernel
theorem dX6_spread_19 : decode cX6_spread 19 = .ok (.aload_n 0, 1) := by decide +kernel
theorem dX6_spread_20 : decode cX6_spread 20 = .ok (.iload_n 2, 1) := by decide +kernel
theorem dX6_spread_21 : decode cX6_spread 21 = .ok (.iconst 1, 1) := by decide +kernel
theorem dX6_spread_22 : decode cX6_spread 22 = .ok (.invokevirtual 61, 3) := by decide +kernel
theorem dX6_spread_25 : decode cX6_spread 25 = .ok (.aload_n 0, 1) := by decide +kernel
theorem dX6_spread_26 : decode cX6_spread 26 = .ok (.iload_n 3, 1) := by decide +kernel
theorem dX6_spread_27 : decode cX6_spread 27 = .ok (.iconst 1, 1) := by decide +kernel
theorem dX6_spread_28 : decode cX6_spread 28 = .ok (.invokevirtual 61, 3) := by decide +kernel
theorem dX6_spread_31 : decode cX6_spread 31 = .ok (.invokestatic 140, 3) := by decide +kernel
theorem dX6_spread_34 : decode cX6_spread 34 = .ok (.istore 4, 2) := by decide +kernel
theorem dX6_spread_36 : decode cX6_spread 36 = .ok (.aload_n 0, 1) := by decide +kernel
theorem dX6_spread_37 : decode cX6_spread 37 = .ok (.getfield 75, 3) := by decide +kernel
theorem dX6_spread_40 : decode cX6_spread 40 = .ok (.iload_n 2, 1) := by decide +kernel
theorem dX6_spread_41 : decode cX6_spread 41 = .ok (.invokestatic 120, 3) := by decide +kernel
theorem dX6_spread_44 : decode cX6_spread 44 = .ok (.ifCond .eq 29, 3) := by decide +kernel
theorem dX6_spread_47 : decode cX6_spread 47 = .ok (.aload_n 0, 1) := by decide +kernel
theorem dX6_spread_48 : decode cX6_spread 48 = .ok (.getfield 75, 3) := by decide +kernel
theorem dX6_spread_51 : decode cX6_spread 51 = .ok (.iload_n 3, 1) := by decide +kernel
theorem dX6_spread_52 : decode cX6_spread 52 = .ok (.invokestatic 120, 3) := by decide +kernel
theorem dX6_spread_55 : decode cX6_spread 55 = .ok (.ifCond .eq 18, 3) := by decide +kernel
theorem dX6_spread_58 : decode cX6_spread 58 = .ok (.iload_n 1, 1) := by decide +kernel
theorem dX6_spread_59 : decode cX6_spread 59 = .ok (.iconst (-1), 1) := by decide +kernel
theorem dX6_spread_60 : decode cX6_spread 60 = .ok (.if_icmp .eq 9, 3) := by decide +kernel
theorem dX6_spread_63 : decode cX6_spread 63 = .ok (.iload 4, 2) := by decide +kernel
theorem dX6_spread_65 : decode cX6_spread 65 = .ok (.iload_n 1, 1) := by decide +kernel
theorem dX6_spread_66 : decode cX6_spread 66 = .ok (.if_icmp .ge 7, 3) := by decide +kernel
theorem dX6_spread_69 : decode cX6_spread 69 = .ok (.iconst 1, 1) := by decide +kernel
theorem dX6_spread_70 : decode cX6_spread 70 = .ok (.goto 4, 3) := by decide +kernel
theorem dX6_spread_73 : decode cX6_spread 73 = .ok (.iconst 0, 1) := by decide +kernel
theorem dX6_spread_74 : decode cX6_spread 74 = .ok (.istore 5, 2) := by decide +kernel
theorem dX6_spread_76 : decode cX6_spread 76 = .ok (.iload 5, 2) := by decide +kernel
theorem dX6_spread_78 : decode cX6_spread 78 = .ok (.ifCond .eq 8, 3) := by decide +kernel
theorem dX6_spread_81 : decode cX6_spread 81 = .ok (.iload 4, 2) := by decide +kernel
theorem dX6_spread_83 : decode cX6_spread 83 = .ok (.goto 4, 3) := by decide +kernel
theorem dX6_spread_86 : decode cX6_spread 86 = .ok (.iload_n 1, 1) := by decide +kernel
theorem dX6_spread_87 : decode cX6_spread 87 = .ok (.istore_n 1, 1) := by decide +kernel
theorem dX6_spread_88 : decode cX6_spread 88 = .ok (.iinc 3 1, 3) := by decide +kernel
theorem dX6_spread_91 : decode cX6_spread 91 = .ok (.goto (-77), 3) := by decide +kernel
theorem dX6_spread_94 : decode cX6_spread 94 = .ok (.iinc 2 1, 3) := by decide +kernel
theorem dX6_spread_97 : decode cX6_spread 97 = .ok (.goto (-93), 3) := by decide +kernel
theorem dX6_spread_100 : decode cX6_spread 100 = .ok (.iload_n 1, 1) := by decide +kernel
theorem dX6_spread_101 : decode cX6_spread 101 = .ok (.ireturn, 1) := by decide +kernel
theorem dX6_areSeeds_0 : decode cX6_areSeeds 0 = .ok (.iload_n 0, 1) := by decide +kernel
theorem dX6_areSeeds_1 : decode cX6_areSeeds 1 = .ok (.invokestatic 193, 3) := by decide +kernel
theorem dX6_areSeeds_4 : decode cX6_areSeeds 4 = .ok (.ifCond .eq 27, 3) := by decide +kernel
theorem dX6_areSeeds_7 : decode cX6_areSeeds 7 = .ok (.iload_n 1, 1) := by decide +kernel
theorem dX6_areSeeds_8 : decode cX6_areSeeds 8 = .ok (.i2l, 1) := by decide +kernel
theorem dX6_areSeeds_9 : decode cX6_areSeeds 9 = .ok (.lconst 1, 1) := by decide +kernel
theorem dX6_areSeeds_10 : decode cX6_areSeeds 10 = .ok (.ldc2_w 215, 3) := by decide +kernel
theorem dX6_areSeeds_13 : decode cX6_areSeeds 13 = .ok (.invokestatic 42, 3) := by decide +kernel
theorem dX6_areSeeds_16 : decode cX6_areSeeds 16 = .ok (.ifCond .eq 15, 3) := by decide +kernel
theorem dX6_areSeeds_19 : decode cX6_areSeeds 19 = .ok (.iload_n 0, 1) := by decide +kernel
theorem dX6_areSeeds_20 : decode cX6_areSeeds 20 = .ok (.iload_n 1, 1) := by decide +kernel
theorem dX6_areSeeds_21 : decode cX6_areSeeds 21 = .ok (.iadd, 1) := by decide +kernel
theorem dX6_areSeeds_22 : decode cX6_areSeeds 22 = .ok (.ldc 217, 2) := by decide +kernel
theorem dX6_areSeeds_24 : decode cX6_areSeeds 24 = .ok (.if_icmp .gt 7, 3) := by decide +kernel
theorem dX6_areSeeds_27 : decode cX6_areSeeds 27 = .ok (.iconst 1, 1) := by decide +kernel
theorem dX6_areSeeds_28 : decode cX6_areSeeds 28 = .ok (.goto 4, 3) := by decide +kernel
theorem dX6_areSeeds_31 : decode cX6_areSeeds 31 = .ok (.iconst 0, 1) := by decide +kernel
theorem dX6_areSeeds_32 : decode cX6_areSeeds 32 = .ok (.ireturn, 1) := by decide +kernel
theorem dX6_howOften_0 : decode cX6_howOften 0 = .ok (.iconst 0, 1) := by decide +kernel
theorem dX6_howOften_1 : decode cX6_howOften 1 = .ok (.istore 4, 2) := by decide +kernel
theorem dX6_howOften_3 : decode cX6_howOften 3 = .ok (.iconst 0, 1) := by decide +kernel
theorem dX6_howOften_4 : decode cX6_howOften 4 = .ok (.istore 5, 2) := by decide +kernel
theorem dX6_howOften_6 : decode cX6_howOften 6 = .ok (.iload 5, 2) := by decide +kernel
theorem dX6_howOften_8 : decode cX6_howOften 8 = .ok (.iload_n 3, 1) := by decide +kernel
theorem dX6_howOften_9 : decode cX6_howOften 9 = .ok (.if_icmp .ge 33, 3) := by decide +kernel
theorem dX6_howOften_12 : decode cX6_howOften 12 = .ok (.iload 4, 2) := by decide +kernel
theorem dX6_howOften_14 : decode cX6_howOften 14 = .ok (.aload_n 0, 1) := by decide +kernel
theorem dX6_howOften_15 : decode cX6_howOften 15 = .ok (.iload_n 2, 1) := by decide +kernel
theorem dX6_howOften_16 : decode cX6_howOften 16 = .ok (.iload 5, 2) := by decide +kernel
theorem dX6_howOften_18 : decode cX6_howOften 18 = .ok (.iadd, 1) := by decide +kernel
theorem dX6_howOften_19 : decode cX6_howOften 19 = .ok (.invokevirtual 187, 3) := by decide +kernel
theorem dX6_howOften_22 : decode cX6_howOften 22 = .ok (.iload_n 1, 1) := by decide +kernel
theorem dX6_howOften_23 : decode cX6_howOften 23 = .ok (.iand, 1) := by decide +kernel
theorem dX6_howOften_24 : decode cX6_howOften 24 = .ok (.iload_n 1, 1) := by decide +kernel
theorem dX6_howOften_25 : decode cX6_howOften 25 = .ok (.if_icmp .ne 7, 3) := by decide +kernel
theorem dX6_howOften_28 : decode cX6_howOften 28 = .ok (.iconst 1, 1) := by decide +kernel
theorem dX6_howOften_29 : decode cX6_howOften 29 = .ok (.goto 4, 3) := by decide +kernel
theorem dX6_howOften_32 : decode cX6_howOften 32 = .ok (.iconst 0, 1) := by decide +kernel
theorem dX6_howOften_33 : decode cX6_howOften 33 = .ok (.iadd, 1) := by decide +kernel
theorem dX6_howOften_34 : decode cX6_howOften 34 = .ok (.istore 4, 2) := by decide +kernel
theorem dX6_howOften_36 : decode cX6_howOften 36 = .ok (.iinc 5 1, 3) := by decide +kernel
theorem dX6_howOften_39 : decode cX6_howOften 39 = .ok (.goto (-33), 3) := by decide +kernel
theorem dX6_howOften_42 : decode cX6_howOften 42 = .ok (.iload 4, 2) := by decide +kernel
theorem dX6_howOften_44 : decode cX6_howOften 44 = .ok (.ireturn, 1) := by decide +kernel
theorem dX6_both_0 : decode cX6_both 0 = .ok (.aload_n 0, 1) := by decide +kernel
theorem dX6_both_1 : decode cX6_both 1 = .ok (.iload_n 1, 1) := by decide +kernel
theorem dX6_both_2 : decode cX6_both 2 = .ok (.invokevirtual 65, 3) := by decide +kernel
theorem dX6_both_5 : decode cX6_both 5 = .ok (.ifCond .eq 25, 3) := by decide +kernel
theorem dX6_both_8 : decode cX6_both 8 = .ok (.aload_n 0, 1) := by decide +kernel
theorem dX6_both_9 : decode cX6_both 9 = .ok (.iload_n 2, 1) := by decide +kernel
theorem dX6_both_10 : decode cX6_both 10 = .ok (.invokevirtual 65, 3) := by decide +kernel
theorem dX6_both_13 : decode cX6_both 13 = .ok (.ifCond .eq 17, 3) := by decide +kernel
theorem dX6_both_16 : decode cX6_both 16 = .ok (.iload_n 1, 1) := by decide +kernel
theorem dX6_both_17 : decode cX6_both 17 = .ok (.iload_n 2, 1) := by decide +kernel
theorem dX6_both_18 : decode cX6_both 18 = .ok (.if_icmp .eq 12, 3) := by decide +kernel
theorem dX6_both_21 : decode cX6_both 21 = .ok (.iload_n 3, 1) := by decide +kernel
theorem dX6_both_22 : decode cX6_both 22 = .ok (.iload 4, 2) := by decide +kernel
theorem dX6_both_24 : decode cX6_both 24 = .ok (.invokestatic 218, 3) := by decide +kernel
theorem dX6_both_27 : decode cX6_both 27 = .ok (.ifCond .ne 10, 3) := by decide +kernel
theorem dX6_both_30 : decode cX6_both 30 = .ok (.aload_n 0, 1) := by decide +kernel
theorem dX6_both_31 : decode cX6_both 31 = .ok (.bipush (-2), 2) := by decide +kernel
theorem dX6_both_33 : decode cX6_both 33 = .ok (.invokevirtual 50, 3) := by decide +kernel
theorem dX6_both_36 : decode cX6_both 36 = .ok (.ireturn, 1) := by decide +kernel
theorem dX6_both_37 : decode cX6_both 37 = .ok (.aload_n 0, 1) := by decide +kernel
theorem dX6_both_38 : decode cX6_both 38 = .ok (.iconst 1, 1) := by decide +kernel
theorem dX6_both_39 : decode cX6_both 39 = .ok (.iload_n 1, 1) := by decide +kernel
theorem dX6_both_40 : decode cX6_both 40 = .ok (.ishl, 1) := by decide +kernel
theorem dX6_both_41 : decode cX6_both 41 = .ok (.iconst 1, 1) := by decide +kernel
theorem dX6_both_42 : decode cX6_both 42 = .ok (.iload_n 2, 1) := by decide +kernel
theorem dX6_both_43 : decode cX6_both 43 = .ok (.ishl, 1) := by decide +kernel
theorem dX6_both_44 : decode cX6_both 44 = .ok (.ior, 1) := by decide +kernel
theorem dX6_both_45 : decode cX6_both 45 = .ok (.iload_n 3, 1) := by decide +kernel
theorem dX6_both_46 : decode cX6_both 46 = .ok (.iload 4, 2) := by decide +kernel
theorem dX6_both_48 : decode cX6_both 48 = .ok (.invokevirtual 221, 3) := by decide +kernel
theorem dX6_both_51 : decode cX6_both 51 = .ok (.ireturn, 1) := by decide +kernel
theorem dX6_often_0 : decode cX6_often 0 = .ok (.aload_n 0, 1) := by decide +kernel
theorem dX6_often_1 : decode cX6_often 1 = .ok (.iload_n 1, 1) := by decide +kernel
theorem dX6_often_2 : decode cX6_often 2 = .ok (.invokevirtual 65, 3) := by decide +kernel
theorem dX6_often_5 : decode cX6_often 5 = .ok (.ifCond .eq 23, 3) := by decide +kernel
theorem dX6_often_8 : decode cX6_often 8 = .ok (.iload_n 2, 1) := by decide +kernel
theorem dX6_often_9 : decode cX6_often 9 = .ok (.iload_n 3, 1) := by decide +kernel
theorem dX6_often_10 : decode cX6_often 10 = .ok (.invokestatic 218, 3) := by decide +kernel
theorem dX6_often_13 : decode cX6_often 13 = .ok (.ifCond .eq 15, 3) := by decide +kernel
theorem dX6_often_16 : decode cX6_often 16 = .ok (.aload_n 0, 1) := by decide +kernel
theorem dX6_often_17 : decode cX6_often 17 = .ok (.iconst 1, 1) := by decide +kernel
theorem dX6_often_18 : decode cX6_often 18 = .ok (.iload_n 1, 1) := by decide +kernel
theorem dX6_often_19 : decode cX6_often 19 = .ok (.ishl, 1) := by decide +kernel
theorem dX6_often_20 : decode cX6_often 20 = .ok (.iload_n 2, 1) := by decide +kernel
theorem dX6_often_21 : decode cX6_often 21 = .ok (.iload_n 3, 1) := by decide +kernel
theorem dX6_often_22 : decode cX6_often 22 = .ok (.invokevirtual 221, 3) := by decide +kernel
theorem dX6_often_25 : decode cX6_often 25 = .ok (.goto 9, 3) := by decide +kernel
theorem dX6_often_28 : decode cX6_often 28 = .ok (.aload_n 0, 1) := by decide +kernel
theorem dX6_often_29 : decode cX6_often 29 = .ok (.bipush (-2), 2) := by decide +kernel
theorem dX6_often_31 : decode cX6_often 31 = .ok (.invokevirtual 50, 3) := by decide +kernel
theorem dX6_often_34 : decode cX6_often 34 = .ok (.ireturn, 1) := by decide +kernel
theorem dX6_best_0 : decode cX6_best 0 = .ok (.iload_n 1, 1) := by decide +kernel
theorem dX6_best_1 : decode cX6_best 1 = .ok (.iload_n 2, 1) := by decide +kernel
theorem dX6_best_2 : decode cX6_best 2 = .ok (.invokestatic 218, 3) := by decide +kernel
theorem dX6_best_5 : decode cX6_best 5 = .ok (.ifCond .eq 13, 3) := by decide +kernel
theorem dX6_best_8 : decode cX6_best 8 = .ok (.iload_n 3, 1) := by decide +kernel
theorem dX6_best_9 : decode cX6_best 9 = .ok (.i2l, 1) := by decide +kernel
theorem dX6_best_10 : decode cX6_best 10 = .ok (.lconst 0, 1) := by decide +kernel
theorem dX6_best_11 : decode cX6_best 11 = .ok (.lconst 1, 1) := by decide +kernel
theorem dX6_best_12 : decode cX6_best 12 = .ok (.invokestatic 42, 3) := by decide +kernel
theorem dX6_best_15 : decode cX6_best 15 = .ok (.ifCond .ne 11, 3) := by decide +kernel
theorem dX6_best_18 : decode cX6_best 18 = .ok (.aload_n 0, 1) := by decide +kernel
theorem dX6_best_19 : decode cX6_best 19 = .ok (.bipush (-2), 2) := by decide +kernel
theorem dX6_best_21 : decode cX6_best 21 = .ok (.invokevirtual 50, 3) := by decide +kernel
theorem dX6_best_24 : decode cX6_best 24 = .ok (.i2l, 1) := by decide +kernel
theorem dX6_best_25 : decode cX6_best 25 = .ok (.lreturn, 1) := by decide +kernel
theorem dX6_best_26 : decode cX6_best 26 = .ok (.iload_n 1, 1) := by decide +kernel
theorem dX6_best_27 : decode cX6_best 27 = .ok (.istore 4, 2) := by decide +kernel
theorem dX6_best_29 : decode cX6_best 29 = .ok (.aload_n 0, 1) := by decide +kernel
theorem dX6_best_30 : decode cX6_best 30 = .ok (.aload_n 0, 1) := by decide +kernel
theorem dX6_best_31 : decode cX6_best 31 = .ok (.iload_n 1, 1) := by decide +kernel
theorem dX6_best_32 : decode cX6_best 32 = .ok (.invokevirtual 187, 3) := by decide +kernel
theorem dX6_best_35 : decode cX6_best 35 = .ok (.invokevirtual 211, 3) := by decide +kernel
theorem dX6_best_38 : decode cX6_best 38 = .ok (.lstore 5, 2) := by decide +kernel
theorem dX6_best_40 : decode cX6_best 40 = .ok (.iconst 1, 1) := by decide +kernel
theorem dX6_best_41 : decode cX6_best 41 = .ok (.istore 7, 2) := by decide +kernel
theorem dX6_best_43 : decode cX6_best 43 = .ok (.iload 7, 2) := by decide +kernel
theorem dX6_best_45 : decode cX6_best 45 = .ok (.iload_n 2, 1) := by decide +kernel
theorem dX6_best_46 : decode cX6_best 46 = .ok (.if_icmp .ge 59, 3) := by decide +kernel
theorem dX6_best_49 : decode cX6_best 49 = .ok (.aload_n 0, 1) := by decide +kernel
theorem dX6_best_50 : decode cX6_best 50 = .ok (.aload_n 0, 1) := by decide +kernel
theorem dX6_best_51 : decode cX6_best 51 = .ok (.iload_n 1, 1) := by decide +kernel
theorem dX6_best_52 : decode cX6_best 52 = .ok (.iload 7, 2) := by decide +kernel
theorem dX6_best_54 : decode cX6_best 54 = .ok (.iadd, 1) := by decide +kernel
theorem dX6_best_55 : decode cX6_best 55 = .ok (.invokevirtual 187, 3) := by decide +kernel
theorem dX6_best_58 : decode cX6_best 58 = .ok (.invokevirtual 211, 3) := by decide +kernel
theorem dX6_best_61 : decode cX6_best 61 = .ok (.lstore 8, 2) := by decide +kernel
theorem dX6_best_63 : decode cX6_best 63 = .ok (.lload 8, 2) := by decide +kernel
theorem dX6_best_65 : decode cX6_best 65 = .ok (.lload 5, 2) := by decide +kernel
theorem dX6_best_67 : decode cX6_best 67 = .ok (.lcmp, 1) := by decide +kernel
theorem dX6_best_68 : decode cX6_best 68 = .ok (.ifCond .ge 10, 3) := by decide +kernel
theorem dX6_best_71 : decode cX6_best 71 = .ok (.iload_n 1, 1) := by decide +kernel
theorem dX6_best_72 : decode cX6_best 72 = .ok (.iload 7, 2) := by decide +kernel
theorem dX6_best_74 : decode cX6_best 74 = .ok (.iadd, 1) := by decide +kernel
theorem dX6_best_75 : decode cX6_best 75 = .ok (.goto 5, 3) := by decide +kernel
theorem dX6_best_78 : decode cX6_best 78 = .ok (.iload 4, 2) := by decide +kernel
theorem dX6_best_80 : decode cX6_best 80 = .ok (.istore 4, 2) := by decide +kernel
theorem dX6_best_82 : decode cX6_best 82 = .ok (.lload 8, 2) := by decide +kernel
theorem dX6_best_84 : decode cX6_best 84 = .ok (.lload 5, 2) := by decide +kernel
theorem dX6_best_86 : decode cX6_best 86 = .ok (.lcmp, 1) := by decide +kernel
theorem dX6_best_87 : decode cX6_best 87 = .ok (.ifCond .ge 8, 3) := by decide +kernel
theorem dX6_best_90 : decode cX6_best 90 = .ok (.lload 8, 2) := by decide +kernel
theorem dX6_best_92 : decode cX6_best 92 = .ok (.goto 5, 3) := by decide +kernel
theorem dX6_best_95 : decode cX6_best 95 = .ok (.lload 5, 2) := by decide +kernel
theorem dX6_best_97 : decode cX6_best 97 = .ok (.lstore 5, 2) := by decide +kernel
theorem dX6_best_99 : decode cX6_best 99 = .ok (.iinc 7 1, 3) := by decide +kernel
theorem dX6_best_102 : decode cX6_best 102 = .ok (.goto (-59), 3) := by decide +kernel
theorem dX6_best_105 : decode cX6_best 105 = .ok (.iload_n 3, 1) := by decide +kernel
theorem dX6_best_106 : decode cX6_best 106 = .ok (.ifCond .ne 9, 3) := by decide +kernel
theorem dX6_best_109 : decode cX6_best 109 = .ok (.iload 4, 2) := by decide +kernel
theorem dX6_best_111 : decode cX6_best 111 = .ok (.i2l, 1) := by decide +kernel
theorem dX6_best_112 : decode cX6_best 112 = .ok (.goto 5, 3) := by decide +kernel
theorem dX6_best_115 : decode cX6_best 115 = .ok (.lload 5, 2) := by decide +kernel
theorem dX6_best_117 : decode cX6_best 117 = .ok (.lreturn, 1) := by decide +kernel
theorem dX6_layCan_0 : decode cX6_layCan 0 = .ok (.iconst 0, 1) := by decide +kernel
theorem dX6_layCan_1 : decode cX6_layCan 1 = .ok (.istore_n 1, 1) := by decide +kernel
theorem dX6_layCan_2 : decode cX6_layCan 2 = .ok (.iload_n 1, 1) := by decide +kernel
theorem dX6_layCan_3 : decode cX6_layCan 3 = .ok (.sipush 4096, 3) := by decide +kernel
theorem dX6_layCan_6 : decode cX6_layCan 6 = .ok (.if_icmp .ge 16, 3) := by decide +kernel
theorem dX6_layCan_9 : decode cX6_layCan 9 = .ok (.aload_n 0, 1) := by decide +kernel
theorem dX6_layCan_10 : decode cX6_layCan 10 = .ok (.getfield 25, 3) := by decide +kernel
theorem dX6_layCan_13 : decode cX6_layCan 13 = .ok (.iload_n 1, 1) := by decide +kernel
theorem dX6_layCan_14 : decode cX6_layCan 14 = .ok (.iconst 0, 1) := by decide +kernel
theorem dX6_layCan_15 : decode cX6_layCan 15 = .ok (.bastore, 1) := by decide +kernel
theorem dX6_layCan_16 : decode cX6_layCan 16 = .ok (.iinc 1 1, 3) := by decide +kernel
theorem dX6_layCan_19 : decode cX6_layCan 19 = .ok (.goto (-17), 3) := by decide +kernel
theorem dX6_layCan_22 : decode cX6_layCan 22 = .ok (.iconst 0, 1) := by decide +kernel
theorem dX6_layCan_23 : decode cX6_layCan 23 = .ok (.istore_n 1, 1) := by decide +kernel
theorem dX6_layCan_24 : decode cX6_layCan 24 = .ok (.aload_n 0, 1) := by decide +kernel
theorem dX6_layCan_25 : decode cX6_layCan 25 = .ok (.invokevirtual 167, 3) := by decide +kernel
theorem dX6_layCan_28 : decode cX6_layCan 28 = .ok (.iconst 0, 1) := by decide +kernel
theorem dX6_layCan_29 : decode cX6_layCan 29 = .ok (.istore_n 2, 1) := by decide +kernel
theorem dX6_layCan_30 : decode cX6_layCan 30 = .ok (.iload_n 2, 1) := by decide +kernel
theorem dX6_layCan_31 : decode cX6_layCan 31 = .ok (.aload_n 0, 1) := by decide +kernel
theorem dX6_layCan_32 : decode cX6_layCan 32 = .ok (.getfield 38, 3) := by decide +kernel
theorem dX6_layCan_35 : decode cX6_layCan 35 = .ok (.if_icmp .ge 25, 3) := by decide +kernel
theorem dX6_layCan_38 : decode cX6_layCan 38 = .ok (.iload_n 1, 1) := by decide +kernel
theorem dX6_layCan_39 : decode cX6_layCan 39 = .ok (.aload_n 0, 1) := by decide +kernel
theorem dX6_layCan_40 : decode cX6_layCan 40 = .ok (.iload_n 2, 1) := by decide +kernel
theorem dX6_layCan_41 : decode cX6_layCan 41 = .ok (.invokevirtual 137, 3) := by decide +kernel
theorem dX6_layCan_44 : decode cX6_layCan 44 = .ok (.ifCond .eq 7, 3) := by decide +kernel
theorem dX6_layCan_47 : decode cX6_layCan 47 = .ok (.iconst 1, 1) := by decide +kernel
theorem dX6_layCan_48 : decode cX6_layCan 48 = .ok (.goto 4, 3) := by decide +kernel
theorem dX6_layCan_51 : decode cX6_layCan 51 = .ok (.iconst 0, 1) := by decide +kernel
theorem dX6_layCan_52 : decode cX6_layCan 52 = .ok (.iadd, 1) := by decide +kernel
theorem dX6_layCan_53 : decode cX6_layCan 53 = .ok (.istore_n 1, 1) := by decide +kernel
theorem dX6_layCan_54 : decode cX6_layCan 54 = .ok (.iinc 2 1, 3) := by decide +kernel
theorem dX6_layCan_57 : decode cX6_layCan 57 = .ok (.goto (-27), 3) := by decide +kernel
theorem dX6_layCan_60 : decode cX6_layCan 60 = .ok (.iconst 0, 1) := by decide +kernel
theorem dX6_layCan_61 : decode cX6_layCan 61 = .ok (.istore_n 2, 1) := by decide +kernel
theorem dX6_layCan_62 : decode cX6_layCan 62 = .ok (.iload_n 2, 1) := by decide +kernel
theorem dX6_layCan_63 : decode cX6_layCan 63 = .ok (.iconst 1, 1) := by decide +kernel
theorem dX6_layCan_64 : decode cX6_layCan 64 = .ok (.iload_n 1, 1) := by decide +kernel
theorem dX6_layCan_65 : decode cX6_layCan 65 = .ok (.ishl, 1) := by decide +kernel
theorem dX6_layCan_66 : decode cX6_layCan 66 = .ok (.if_icmp .ge 47, 3) := by decide +kernel
theorem dX6_layCan_69 : decode cX6_layCan 69 = .ok (.iconst 0, 1) := by decide +kernel
theorem dX6_layCan_70 : decode cX6_layCan 70 = .ok (.istore_n 3, 1) := by decide +kernel
theorem dX6_layCan_71 : decode cX6_layCan 71 = .ok (.aload_n 0, 1) := by decide +kernel
theorem dX6_layCan_72 : decode cX6_layCan 72 = .ok (.invokevirtual 167, 3) := by decide +kernel
theorem dX6_layCan_75 : decode cX6_layCan 75 = .ok (.aload_n 0, 1) := by decide +kernel
theorem dX6_layCan_76 : decode cX6_layCan 76 = .ok (.invokevirtual 170, 3) := by decide +kernel
theorem dX6_layCan_79 : decode cX6_layCan 79 = .ok (.ifCond .eq 18, 3) := by decide +kernel
theorem dX6_layCan_82 : decode cX6_layCan 82 = .ok (.aload_n 0, 1) := by decide +kernel
theorem dX6_layCan_83 : decode cX6_layCan 83 = .ok (.iload_n 2, 1) := by decide +kernel
theorem dX6_layCan_84 : decode cX6_layCan 84 = .ok (.iload_n 3, 1) := by decide +kernel
theorem dX6_layCan_85 : decode cX6_layCan 85 = .ok (.invokestatic 120, 3) := by decide +kernel
theorem dX6_layCan_88 : decode cX6_layCan 88 = .ok (.invokevirtual 180, 3) := by decide +kernel
theorem dX6_layCan_91 : decode cX6_layCan 91 = .ok (.iinc 3 1, 3) := by decide +kernel
theorem dX6_layCan_94 : decode cX6_layCan 94 = .ok (.goto (-19), 3) := by decide +kernel
theorem dX6_layCan_97 : decode cX6_layCan 97 = .ok (.aload_n 0, 1) := by decide +kernel
theorem dX6_layCan_98 : decode cX6_layCan 98 = .ok (.getfield 25, 3) := by decide +kernel
theorem dX6_layCan_101 : decode cX6_layCan 101 = .ok (.aload_n 0, 1) := by decide +kernel
theorem dX6_layCan_102 : decode cX6_layCan 102 = .ok (.invokevirtual 184, 3) := by decide +kernel
theorem dX6_layCan_105 : decode cX6_layCan 105 = .ok (.iconst 1, 1) := by decide +kernel
theorem dX6_layCan_106 : decode cX6_layCan 106 = .ok (.bastore, 1) := by decide +kernel
theorem dX6_layCan_107 : decode cX6_layCan 107 = .ok (.iinc 2 1, 3) := by decide +kernel
theorem dX6_layCan_110 : decode cX6_layCan 110 = .ok (.goto (-48), 3) := by decide +kernel
theorem dX6_layCan_113 : decode cX6_layCan 113 = .ok (.return_, 1) := by decide +kernel
theorem dX6_many_0 : decode cX6_many 0 = .ok (.iconst 0, 1) := by decide +kernel
theorem dX6_many_1 : decode cX6_many 1 = .ok (.istore_n 1, 1) := by decide +kernel
theorem dX6_many_2 : decode cX6_many 2 = .ok (.aload_n 0, 1) := by decide +kernel
theorem dX6_many_3 : decode cX6_many 3 = .ok (.invokevirtual 224, 3) := by decide +kernel
theorem dX6_many_6 : decode cX6_many 6 = .ok (.iconst 0, 1) := by decide +kernel
theorem dX6_many_7 : decode cX6_many 7 = .ok (.istore_n 2, 1) := by decide +kernel
theorem dX6_many_8 : decode cX6_many 8 = .ok (.iload_n 2, 1) := by decide +kernel
theorem dX6_many_9 : decode cX6_many 9 = .ok (.sipush 4096, 3) := by decide +kernel
theorem dX6_many_12 : decode cX6_many 12 = .ok (.if_icmp .ge 26, 3) := by decide +kernel
theorem dX6_many_15 : decode cX6_many 15 = .ok (.iload_n 1, 1) := by decide +kernel
theorem dX6_many_16 : decode cX6_many 16 = .ok (.aload_n 0, 1) := by decide +kernel
theorem dX6_many_17 : decode cX6_many 17 = .ok (.getfield 25, 3) := by decide +kernel
theorem dX6_many_20 : decode cX6_many 20 = .ok (.iload_n 2, 1) := by decide +kernel
theorem dX6_many_21 : decode cX6_many 21 = .ok (.baload, 1) := by decide +kernel
theorem dX6_many_22 : decode cX6_many 22 = .ok (.ifCond .eq 7, 3) := by decide +kernel
theorem dX6_many_25 : decode cX6_many 25 = .ok (.iconst 1, 1) := by decide +kernel
theorem dX6_many_26 : decode cX6_many 26 = .ok (.goto 4, 3) := by decide +kernel
theorem dX6_many_29 : decode cX6_many 29 = .ok (.iconst 0, 1) := by decide +kernel
theorem dX6_many_30 : decode cX6_many 30 = .ok (.iadd, 1) := by decide +kernel
theorem dX6_many_31 : decode cX6_many 31 = .ok (.istore_n 1, 1) := by decide +kernel
theorem dX6_many_32 : decode cX6_many 32 = .ok (.iinc 2 1, 3) := by decide +kernel
theorem dX6_many_35 : decode cX6_many 35 = .ok (.goto (-27), 3) := by decide +kernel
theorem dX6_many_38 : decode cX6_many 38 = .ok (.iload_n 1, 1) := by decide +kernel
theorem dX6_many_39 : decode cX6_many 39 = .ok (.ireturn, 1) := by decide +kernel
theorem dX6_sizes_0 : decode cX6_sizes 0 = .ok (.iload_n 1, 1) := by decide +kernel
theorem dX6_sizes_1 : decode cX6_sizes 1 = .ok (.i2l, 1) := by decide +kernel
theorem dX6_sizes_2 : decode cX6_sizes 2 = .ok (.lconst 0, 1) := by decide +kernel
theorem dX6_sizes_3 : decode cX6_sizes 3 = .ok (.lconst 1, 1) := by decide +kernel
theorem dX6_sizes_4 : decode cX6_sizes 4 = .ok (.invokestatic 42, 3) := by decide +kernel
theorem dX6_sizes_7 : decode cX6_sizes 7 = .ok (.ifCond .ne 10, 3) := by decide +kernel
theorem dX6_sizes_10 : decode cX6_sizes 10 = .ok (.aload_n 0, 1) := by decide +kernel
theorem dX6_sizes_11 : decode cX6_sizes 11 = .ok (.bipush (-2), 2) := by decide +kernel
theorem dX6_sizes_13 : decode cX6_sizes 13 = .ok (.invokevirtual 50, 3) := by decide +kernel
theorem dX6_sizes_16 : decode cX6_sizes 16 = .ok (.ireturn, 1) := by decide +kernel
theorem dX6_sizes_17 : decode cX6_sizes 17 = .ok (.bipush 12, 2) := by decide +kernel
theorem dX6_sizes_19 : decode cX6_sizes 19 = .ok (.istore_n 2, 1) := by decide +kernel
theorem dX6_sizes_20 : decode cX6_sizes 20 = .ok (.iconst 0, 1) := by decide +kernel
theorem dX6_sizes_21 : decode cX6_sizes 21 = .ok (.istore_n 3, 1) := by decide +kernel
theorem dX6_sizes_22 : decode cX6_sizes 22 = .ok (.aload_n 0, 1) := by decide +kernel
theorem dX6_sizes_23 : decode cX6_sizes 23 = .ok (.invokevirtual 224, 3) := by decide +kernel
theorem dX6_sizes_26 : decode cX6_sizes 26 = .ok (.iconst 0, 1) := by decide +kernel
theorem dX6_sizes_27 : decode cX6_sizes 27 = .ok (.istore 4, 2) := by decide +kernel
theorem dX6_sizes_29 : decode cX6_sizes 29 = .ok (.iload 4, 2) := by decide +kernel
theorem dX6_sizes_31 : decode cX6_sizes 31 = .ok (.sipush 4096, 3) := by decide +kernel
theorem dX6_sizes_34 : decode cX6_sizes 34 = .ok (.if_icmp .ge 67, 3) := by decide +kernel
theorem dX6_sizes_37 : decode cX6_sizes 37 = .ok (.aload_n 0, 1) := by decide +kernel
theorem dX6_sizes_38 : decode cX6_sizes 38 = .ok (.getfield 25, 3) := by decide +kernel
theorem dX6_sizes_41 : decode cX6_sizes 41 = .ok (.iload 4, 2) := by decide +kernel
theorem dX6_sizes_43 : decode cX6_sizes 43 = .ok (.baload, 1) := by decide +kernel
theorem dX6_sizes_44 : decode cX6_sizes 44 = .ok (.ifCond .eq 20, 3) := by decide +kernel
theorem dX6_sizes_47 : decode cX6_sizes 47 = .ok (.iload 4, 2) := by decide +kernel
theorem dX6_sizes_49 : decode cX6_sizes 49 = .ok (.invokestatic 190, 3) := by decide +kernel
theorem dX6_sizes_52 : decode cX6_sizes 52 = .ok (.iload_n 2, 1) := by decide +kernel
theorem dX6_sizes_53 : decode cX6_sizes 53 = .ok (.if_icmp .ge 11, 3) := by decide +kernel
theorem dX6_sizes_56 : decode cX6_sizes 56 = .ok (.iload 4, 2) := by decide +kernel
theorem dX6_sizes_58 : decode cX6_sizes 58 = .ok (.invokestatic 190, 3) := by decide +kernel
theorem dX6_sizes_61 : decode cX6_sizes 61 = .ok (.goto 4, 3) := by decide +kernel
theorem dX6_sizes_64 : decode cX6_sizes 64 = .ok (.iload_n 2, 1) := by decide +kernel
theorem dX6_sizes_65 : decode cX6_sizes 65 = .ok (.istore_n 2, 1) := by decide +kernel
theorem dX6_sizes_66 : decode cX6_sizes 66 = .ok (.aload_n 0, 1) := by decide +kernel
theorem dX6_sizes_67 : decode cX6_sizes 67 = .ok (.getfield 25, 3) := by decide +kernel
theorem dX6_sizes_70 : decode cX6_sizes 70 = .ok (.iload 4, 2) := by decide +kernel
theorem dX6_sizes_72 : decode cX6_sizes 72 = .ok (.baload, 1) := by decide +kernel
theorem dX6_sizes_73 : decode cX6_sizes 73 = .ok (.ifCond .eq 20, 3) := by decide +kernel
theorem dX6_sizes_76 : decode cX6_sizes 76 = .ok (.iload 4, 2) := by decide +kernel
theorem dX6_sizes_78 : decode cX6_sizes 78 = .ok (.invokestatic 190, 3) := by decide +kernel
theorem dX6_sizes_81 : decode cX6_sizes 81 = .ok (.iload_n 3, 1) := by decide +kernel
theorem dX6_sizes_82 : decode cX6_sizes 82 = .ok (.if_icmp .le 11, 3) := by decide +kernel
theorem dX6_sizes_85 : decode cX6_sizes 85 = .ok (.iload 4, 2) := by decide +kernel
theorem dX6_sizes_87 : decode cX6_sizes 87 = .ok (.invokestatic 190, 3) := by decide +kernel
theorem dX6_sizes_90 : decode cX6_sizes 90 = .ok (.goto 4, 3) := by decide +kernel
theorem dX6_sizes_93 : decode cX6_sizes 93 = .ok (.iload_n 3, 1) := by decide +kernel
theorem dX6_sizes_94 : decode cX6_sizes 94 = .ok (.istore_n 3, 1) := by decide +kernel
theorem dX6_sizes_95 : decode cX6_sizes 95 = .ok (.iinc 4 1, 3) := by decide +kernel
theorem dX6_sizes_98 : decode cX6_sizes 98 = .ok (.goto (-69), 3) := by decide +kernel
theorem dX6_sizes_101 : decode cX6_sizes 101 = .ok (.iload_n 1, 1) := by decide +kernel
theorem dX6_sizes_102 : decode cX6_sizes 102 = .ok (.ifCond .ne 7, 3) := by decide +kernel
theorem dX6_sizes_105 : decode cX6_sizes 105 = .ok (.iload_n 2, 1) := by decide +kernel
theorem dX6_sizes_106 : decode cX6_sizes 106 = .ok (.goto 4, 3) := by decide +kernel
theorem dX6_sizes_109 : decode cX6_sizes 109 = .ok (.iload_n 3, 1) := by decide +kernel
theorem dX6_sizes_110 : decode cX6_sizes 110 = .ok (.ireturn, 1) := by decide +kernel
theorem dX6_can_0 : decode cX6_can 0 = .ok (.aload_n 0, 1) := by decide +kernel
theorem dX6_can_1 : decode cX6_can 1 = .ok (.iload_n 1, 1) := by decide +kernel
theorem dX6_can_2 : decode cX6_can 2 = .ok (.invokevirtual 65, 3) := by decide +kernel
theorem dX6_can_5 : decode cX6_can 5 = .ok (.ifCond .eq 11, 3) := by decide +kernel
theorem dX6_can_8 : decode cX6_can 8 = .ok (.aload_n 0, 1) := by decide +kernel
theorem dX6_can_9 : decode cX6_can 9 = .ok (.iload_n 2, 1) := by decide +kernel
theorem dX6_can_10 : decode cX6_can 10 = .ok (.invokevirtual 65, 3) := by decide +kernel
theorem dX6_can_13 : decode cX6_can 13 = .ok (.ifCond .ne 10, 3) := by decide +kernel
theorem dX6_can_16 : decode cX6_can 16 = .ok (.aload_n 0, 1) := by decide +kernel
theorem dX6_can_17 : decode cX6_can 17 = .ok (.bipush (-2), 2) := by decide +kernel
theorem dX6_can_19 : decode cX6_can 19 = .ok (.invokevirtual 50, 3) := by decide +kernel
theorem dX6_can_22 : decode cX6_can 22 = .ok (.ireturn, 1) := by decide +kernel
theorem dX6_can_23 : decode cX6_can 23 = .ok (.iconst 0, 1) := by decide +kernel
theorem dX6_can_24 : decode cX6_can 24 = .ok (.istore_n 3, 1) := by decide +kernel
theorem dX6_can_25 : decode cX6_can 25 = .ok (.iconst 1, 1) := by decide +kernel
theorem dX6_can_26 : decode cX6_can 26 = .ok (.iload_n 1, 1) := by decide +kernel
theorem dX6_can_27 : decode cX6_can 27 = .ok (.ishl, 1) := by decide +kernel
theorem dX6_can_28 : decode cX6_can 28 = .ok (.iconst 1, 1) := by decide +kernel
theorem dX6_can_29 : decode cX6_can 29 = .ok (.iload_n 2, 1) := by decide +kernel
theorem dX6_can_30 : decode cX6_can 30 = .ok (.ishl, 1) := by decide +kernel
theorem dX6_can_31 : decode cX6_can 31 = .ok (.ior, 1) := by decide +kernel
theorem dX6_can_32 : decode cX6_can 32 = .ok (.istore 4, 2) := by decide +kernel
theorem dX6_can_34 : decode cX6_can 34 = .ok (.aload_n 0, 1) := by decide +kernel
theorem dX6_can_35 : decode cX6_can 35 = .ok (.invokevirtual 224, 3) := by decide +kernel
theorem dX6_can_38 : decode cX6_can 38 = .ok (.iconst 0, 1) := by decide +kernel
theorem dX6_can_39 : decode cX6_can 39 = .ok (.istore 5, 2) := by decide +kernel
theorem dX6_can_41 : decode cX6_can 41 = .ok (.iload 5, 2) := by decide +kernel
theorem dX6_can_43 : decode cX6_can 43 = .ok (.sipush 4096, 3) := by decide +kernel
theorem dX6_can_46 : decode cX6_can 46 = .ok (.if_icmp .ge 39, 3) := by decide +kernel
theorem dX6_can_49 : decode cX6_can 49 = .ok (.iload_n 3, 1) := by decide +kernel
theorem dX6_can_50 : decode cX6_can 50 = .ok (.ifCond .ne 23, 3) := by decide +kernel
theorem dX6_can_53 : decode cX6_can 53 = .ok (.aload_n 0, 1) := by decide +kernel
theorem dX6_can_54 : decode cX6_can 54 = .ok (.getfield 25, 3) := by decide +kernel
theorem dX6_can_57 : decode cX6_can 57 = .ok (.iload 5, 2) := by decide +kernel
theorem dX6_can_59 : decode cX6_can 59 = .ok (.baload, 1) := by decide +kernel
theorem dX6_can_60 : decode cX6_can 60 = .ok (.ifCond .eq 17, 3) := by decide +kernel
theorem dX6_can_63 : decode cX6_can 63 = .ok (.iload 5, 2) := by decide +kernel
theorem dX6_can_65 : decode cX6_can 65 = .ok (.iload 4, 2) := by decide +kernel
theorem dX6_can_67 : decode cX6_can 67 = .ok (.iand, 1) := by decide +kernel
theorem dX6_can_68 : decode cX6_can 68 = .ok (.iload 4, 2) := by decide +kernel
theorem dX6_can_70 : decode cX6_can 70 = .ok (.if_icmp .ne 7, 3) := by decide +kernel
theorem dX6_can_73 : decode cX6_can 73 = .ok (.iconst 1, 1) := by decide +kernel
theorem dX6_can_74 : decode cX6_can 74 = .ok (.goto 4, 3) := by decide +kernel
theorem dX6_can_77 : decode cX6_can 77 = .ok (.iconst 0, 1) := by decide +kernel
theorem dX6_can_78 : decode cX6_can 78 = .ok (.istore_n 3, 1) := by decide +kernel
theorem dX6_can_79 : decode cX6_can 79 = .ok (.iinc 5 1, 3) := by decide +kernel
theorem dX6_can_82 : decode cX6_can 82 = .ok (.goto (-41), 3) := by decide +kernel
theorem dX6_can_85 : decode cX6_can 85 = .ok (.iload_n 3, 1) := by decide +kernel
theorem dX6_can_86 : decode cX6_can 86 = .ok (.ifCond .eq 7, 3) := by decide +kernel
theorem dX6_can_89 : decode cX6_can 89 = .ok (.iconst 1, 1) := by decide +kernel
theorem dX6_can_90 : decode cX6_can 90 = .ok (.goto 4, 3) := by decide +kernel
theorem dX6_can_93 : decode cX6_can 93 = .ok (.iconst 0, 1) := by decide +kernel
theorem dX6_can_94 : decode cX6_can 94 = .ok (.ireturn, 1) := by decide +kernel
theorem dX6_least_0 : decode cX6_least 0 = .ok (.ldc2_w 227, 3) := by decide +kernel
theorem dX6_least_3 : decode cX6_least 3 = .ok (.lstore_n 1, 1) := by decide +kernel
theorem dX6_least_4 : decode cX6_least 4 = .ok (.aload_n 0, 1) := by decide +kernel
theorem dX6_least_5 : decode cX6_least 5 = .ok (.invokevirtual 224, 3) := by decide +kernel
theorem dX6_least_8 : decode cX6_least 8 = .ok (.iconst 0, 1) := by decide +kernel
theorem dX6_least_9 : decode cX6_least 9 = .ok (.istore_n 3, 1) := by decide +kernel
theorem dX6_least_10 : decode cX6_least 10 = .ok (.iload_n 3, 1) := by decide +kernel
theorem dX6_least_11 : decode cX6_least 11 = .ok (.sipush 4096, 3) := by decide +kernel
theorem dX6_least_14 : decode cX6_least 14 = .ok (.if_icmp .ge 45, 3) := by decide +kernel
theorem dX6_least_17 : decode cX6_least 17 = .ok (.aload_n 0, 1) := by decide +kernel
theorem dX6_least_18 : decode cX6_least 18 = .ok (.getfield 25, 3) := by decide +kernel
theorem dX6_least_21 : decode cX6_least 21 = .ok (.iload_n 3, 1) := by decide +kernel
theorem dX6_least_22 : decode cX6_least 22 = .ok (.baload, 1) := by decide +kernel
theorem dX6_least_23 : decode cX6_least 23 = .ok (.ifCond .eq 30, 3) := by decide +kernel
theorem dX6_least_26 : decode cX6_least 26 = .ok (.aload_n 0, 1) := by decide +kernel
theorem dX6_least_27 : decode cX6_least 27 = .ok (.iload_n 3, 1) := by decide +kernel
theorem dX6_least_28 : decode cX6_least 28 = .ok (.invokevirtual 211, 3) := by decide +kernel
theorem dX6_least_31 : decode cX6_least 31 = .ok (.lstore 4, 2) := by decide +kernel
theorem dX6_least_33 : decode cX6_least 33 = .ok (.lload_n 1, 1) := by decide +kernel
theorem dX6_least_34 : decode cX6_least 34 = .ok (.lconst 0, 1) := by decide +kernel
theorem dX6_least_35 : decode cX6_least 35 = .ok (.lcmp, 1) := by decide +kernel
theorem dX6_least_36 : decode cX6_least 36 = .ok (.ifCond .lt 10, 3) := by decide +kernel
theorem dX6_least_39 : decode cX6_least 39 = .ok (.lload 4, 2) := by decide +kernel
theorem dX6_least_41 : decode cX6_least 41 = .ok (.lload_n 1, 1) := by decide +kernel
theorem dX6_least_42 : decode cX6_least 42 = .ok (.lcmp, 1) := by decide +kernel
theorem dX6_least_43 : decode cX6_least 43 = .ok (.ifCond .ge 8, 3) := by decide +kernel
theorem dX6_least_46 : decode cX6_least 46 = .ok (.lload 4, 2) := by decide +kernel
theorem dX6_least_48 : decode cX6_least 48 = .ok (.goto 4, 3) := by decide +kernel
theorem dX6_least_51 : decode cX6_least 51 = .ok (.lload_n 1, 1) := by decide +kernel
theorem dX6_least_52 : decode cX6_least 52 = .ok (.lstore_n 1, 1) := by decide +kernel
theorem dX6_least_53 : decode cX6_least 53 = .ok (.iinc 3 1, 3) := by decide +kernel
theorem dX6_least_56 : decode cX6_least 56 = .ok (.goto (-46), 3) := by decide +kernel
theorem dX6_least_59 : decode cX6_least 59 = .ok (.lload_n 1, 1) := by decide +kernel
theorem dX6_least_60 : decode cX6_least 60 = .ok (.lreturn, 1) := by decide +kernel
theorem dX6_type_0 : decode cX6_type 0 = .ok (.iload_n 1, 1) := by decide +kernel
theorem dX6_type_1 : decode cX6_type 1 = .ok (.i2l, 1) := by decide +kernel
theorem dX6_type_2 : decode cX6_type 2 = .ok (.lconst 0, 1) := by decide +kernel
theorem dX6_type_3 : decode cX6_type 3 = .ok (.ldc2_w 229, 3) := by decide +kernel
theorem dX6_type_6 : decode cX6_type 6 = .ok (.invokestatic 42, 3) := by decide +kernel
theorem dX6_type_9 : decode cX6_type 9 = .ok (.ifCond .ne 10, 3) := by decide +kernel
theorem dX6_type_12 : decode cX6_type 12 = .ok (.aload_n 0, 1) := by decide +kernel
theorem dX6_type_13 : decode cX6_type 13 = .ok (.bipush (-2), 2) := by decide +kernel
theorem dX6_type_15 : decode cX6_type 15 = .ok (.invokevirtual 50, 3) := by decide +kernel
theorem dX6_type_18 : decode cX6_type 18 = .ok (.ireturn, 1) := by decide +kernel
theorem dX6_type_19 : decode cX6_type 19 = .ok (.aload_n 0, 1) := by decide +kernel
theorem dX6_type_20 : decode cX6_type 20 = .ok (.getfield 231, 3) := by decide +kernel
theorem dX6_type_23 : decode cX6_type 23 = .ok (.bipush 120, 2) := by decide +kernel
theorem dX6_type_25 : decode cX6_type 25 = .ok (.if_icmp .ne 8, 3) := by decide +kernel
theorem dX6_type_28 : decode cX6_type 28 = .ok (.aload_n 0, 1) := by decide +kernel
theorem dX6_type_29 : decode cX6_type 29 = .ok (.invokevirtual 53, 3) := by decide +kernel
theorem dX6_type_32 : decode cX6_type 32 = .ok (.ireturn, 1) := by decide +kernel
theorem dX6_type_33 : decode cX6_type 33 = .ok (.aload_n 0, 1) := by decide +kernel
theorem dX6_type_34 : decode cX6_type 34 = .ok (.getfield 29, 3) := by decide +kernel
theorem dX6_type_37 : decode cX6_type 37 = .ok (.aload_n 0, 1) := by decide +kernel
theorem dX6_type_38 : decode cX6_type 38 = .ok (.getfield 231, 3) := by decide +kernel
theorem dX6_type_41 : decode cX6_type 41 = .ok (.iload_n 1, 1) := by decide +kernel
theorem dX6_type_42 : decode cX6_type 42 = .ok (.iastore, 1) := by decide +kernel
theorem dX6_type_43 : decode cX6_type 43 = .ok (.aload_n 0, 1) := by decide +kernel
theorem dX6_type_44 : decode cX6_type 44 = .ok (.dup, 1) := by decide +kernel
theorem dX6_type_45 : decode cX6_type 45 = .ok (.getfield 231, 3) := by decide +kernel
theorem dX6_type_48 : decode cX6_type 48 = .ok (.iconst 1, 1) := by decide +kernel
theorem dX6_type_49 : decode cX6_type 49 = .ok (.iadd, 1) := by decide +kernel
theorem dX6_type_50 : decode cX6_type 50 = .ok (.putfield 231, 3) := by decide +kernel
theorem dX6_type_53 : decode cX6_type 53 = .ok (.aload_n 0, 1) := by decide +kernel
theorem dX6_type_54 : decode cX6_type 54 = .ok (.getfield 231, 3) := by decide +kernel
theorem dX6_type_57 : decode cX6_type 57 = .ok (.ireturn, 1) := by decide +kernel
theorem dX6_clear_0 : decode cX6_clear 0 = .ok (.aload_n 0, 1) := by decide +kernel
theorem dX6_clear_1 : decode cX6_clear 1 = .ok (.getfield 231, 3) := by decide +kernel
theorem dX6_clear_4 : decode cX6_clear 4 = .ok (.istore_n 1, 1) := by decide +kernel
theorem dX6_clear_5 : decode cX6_clear 5 = .ok (.aload_n 0, 1) := by decide +kernel
theorem dX6_clear_6 : decode cX6_clear 6 = .ok (.iconst 0, 1) := by decide +kernel
theorem dX6_clear_7 : decode cX6_clear 7 = .ok (.putfield 231, 3) := by decide +kernel
theorem dX6_clear_10 : decode cX6_clear 10 = .ok (.iload_n 1, 1) := by decide +kernel
theorem dX6_clear_11 : decode cX6_clear 11 = .ok (.ireturn, 1) := by decide +kernel
theorem dX6_tells_0 : decode cX6_tells 0 = .ok (.aload_n 0, 1) := by decide +kernel
theorem dX6_tells_1 : decode cX6_tells 1 = .ok (.getfield 234, 3) := by decide +kernel
theorem dX6_tells_4 : decode cX6_tells 4 = .ok (.sipush 300, 3) := by decide +kernel
theorem dX6_tells_7 : decode cX6_tells 7 = .ok (.if_icmp .ge 23, 3) := by decide +kernel
theorem dX6_tells_10 : decode cX6_tells 10 = .ok (.aload_n 0, 1) := by decide +kernel
theorem dX6_tells_11 : decode cX6_tells 11 = .ok (.getfield 32, 3) := by decide +kernel
theorem dX6_tells_14 : decode cX6_tells 14 = .ok (.aload_n 0, 1) := by decide +kernel
theorem dX6_tells_15 : decode cX6_tells 15 = .ok (.getfield 234, 3) := by decide +kernel
theorem dX6_tells_18 : decode cX6_tells 18 = .ok (.iload_n 1, 1) := by decide +kernel
theorem dX6_tells_19 : decode cX6_tells 19 = .ok (.iastore, 1) := by decide +kernel
theorem dX6_tells_20 : decode cX6_tells 20 = .ok (.aload_n 0, 1) := by decide +kernel
theorem dX6_tells_21 : decode cX6_tells 21 = .ok (.dup, 1) := by decide +kernel
theorem dX6_tells_22 : decode cX6_tells 22 = .ok (.getfield 234, 3) := by decide +kernel
theorem dX6_tells_25 : decode cX6_tells 25 = .ok (.iconst 1, 1) := by decide +kernel
theorem dX6_tells_26 : decode cX6_tells 26 = .ok (.iadd, 1) := by decide +kernel
theorem dX6_tells_27 : decode cX6_tells 27 = .ok (.putfield 234, 3) := by decide +kernel
theorem dX6_tells_30 : decode cX6_tells 30 = .ok (.return_, 1) := by decide +kernel
theorem dX6_tellsNumber_0 : decode cX6_tellsNumber 0 = .ok (.iload_n 1, 1) := by decide +kernel
theorem dX6_tellsNumber_1 : decode cX6_tellsNumber 1 = .ok (.bipush 9, 2) := by decide +kernel
theorem dX6_tellsNumber_3 : decode cX6_tellsNumber 3 = .ok (.if_icmp .le 14, 3) := by decide +kernel
theorem dX6_tellsNumber_6 : decode cX6_tellsNumber 6 = .ok (.aload_n 0, 1) := by decide +kernel
theorem dX6_tellsNumber_7 : decode cX6_tellsNumber 7 = .ok (.bipush 48, 2) := by decide +kernel
theorem dX6_tellsNumber_9 : decode cX6_tellsNumber 9 = .ok (.iload_n 1, 1) := by decide +kernel
theorem dX6_tellsNumber_10 : decode cX6_tellsNumber 10 = .ok (.bipush 10, 2) := by decide +kernel
theorem dX6_tellsNumber_12 : decode cX6_tellsNumber 12 = .ok (.idiv, 1) := by decide +kernel
theorem dX6_tellsNumber_13 : decode cX6_tellsNumber 13 = .ok (.iadd, 1) := by decide +kernel
theorem dX6_tellsNumber_14 : decode cX6_tellsNumber 14 = .ok (.invokevirtual 237, 3) := by decide +kernel
theorem dX6_tellsNumber_17 : decode cX6_tellsNumber 17 = .ok (.aload_n 0, 1) := by decide +kernel
theorem dX6_tellsNumber_18 : decode cX6_tellsNumber 18 = .ok (.bipush 48, 2) := by decide +kernel
theorem dX6_tellsNumber_20 : decode cX6_tellsNumber 20 = .ok (.iload_n 1, 1) := by decide +kernel
theorem dX6_tellsNumber_21 : decode cX6_tellsNumber 21 = .ok (.bipush 10, 2) := by decide +kernel
theorem dX6_tellsNumber_23 : decode cX6_tellsNumber 23 = .ok (.irem, 1) := by decide +kernel
theorem dX6_tellsNumber_24 : decode cX6_tellsNumber 24 = .ok (.iadd, 1) := by decide +kernel
theorem dX6_tellsNumber_25 : decode cX6_tellsNumber 25 = .ok (.invokevirtual 237, 3) := by decide +kernel
theorem dX6_tellsNumber_28 : decode cX6_tellsNumber 28 = .ok (.return_, 1) := by decide +kernel
theorem dX6_letters_0 : decode cX6_letters 0 = .ok (.iload_n 0, 1) := by decide +kernel
theorem dX6_letters_1 : decode cX6_letters 1 = .ok (.tableswitch 250 0 11 #[63, 77, 92, 109, 123, 140, 155, 171, 189, 204, 220, 235], 63) := by decide +kernel
theorem dX6_letters_64 : decode cX6_letters 64 = .ok (.bipush 114, 2) := by decide +kernel
theorem dX6_letters_66 : decode cX6_letters 66 = .ok (.bipush 111, 2) := by decide +kernel
theorem dX6_letters_68 : decode cX6_letters 68 = .ok (.bipush 119, 2) := by decide +kernel
theorem dX6_letters_70 : decode cX6_letters 70 = .ok (.iconst 0, 1) := by decide +kernel
theorem dX6_letters_71 : decode cX6_letters 71 = .ok (.iconst 0, 1) := by decide +kernel
theorem dX6_letters_72 : decode cX6_letters 72 = .ok (.iconst 0, 1) := by decide +kernel
theorem dX6_letters_73 : decode cX6_letters 73 = .ok (.iconst 0, 1) := by decide +kernel
theorem dX6_letters_74 : decode cX6_letters 74 = .ok (.invokestatic 241, 3) := by decide +kernel
theorem dX6_letters_77 : decode cX6_letters 77 = .ok (.lreturn, 1) := by decide +kernel
theorem dX6_letters_78 : decode cX6_letters 78 = .ok (.bipush 110, 2) := by decide +kernel
theorem dX6_letters_80 : decode cX6_letters 80 = .ok (.bipush 101, 2) := by decide +kernel
theorem dX6_letters_82 : decode cX6_letters 82 = .ok (.bipush 97, 2) := by decide +kernel
theorem dX6_letters_84 : decode cX6_letters 84 = .ok (.bipush 114, 2) := by decide +kernel
theorem dX6_letters_86 : decode cX6_letters 86 = .ok (.iconst 0, 1) := by decide +kernel
theorem dX6_letters_87 : decode cX6_letters 87 = .ok (.iconst 0, 1) := by decide +kernel
theorem dX6_letters_88 : decode cX6_letters 88 = .ok (.iconst 0, 1) := by decide +kernel
theorem dX6_letters_89 : decode cX6_letters 89 = .ok (.invokestatic 241, 3) := by decide +kernel
theorem dX6_letters_92 : decode cX6_letters 92 = .ok (.lreturn, 1) := by decide +kernel
theorem dX6_letters_93 : decode cX6_letters 93 = .ok (.bipush 115, 2) := by decide +kernel
theorem dX6_letters_95 : decode cX6_letters 95 = .ok (.bipush 116, 2) := by decide +kernel
theorem dX6_letters_97 : decode cX6_letters 97 = .ok (.bipush 114, 2) := by decide +kernel
theorem dX6_letters_99 : decode cX6_letters 99 = .ok (.bipush 97, 2) := by decide +kernel
theorem dX6_letters_101 : decode cX6_letters 101 = .ok (.bipush 116, 2) := by decide +kernel
theorem dX6_letters_103 : decode cX6_letters 103 = .ok (.bipush 97, 2) := by decide +kernel
theorem dX6_letters_105 : decode cX6_letters 105 = .ok (.iconst 0, 1) := by decide +kernel
theorem dX6_letters_106 : decode cX6_letters 106 = .ok (.invokestatic 241, 3) := by decide +kernel
theorem dX6_letters_109 : decode cX6_letters 109 = .ok (.lreturn, 1) := by decide +kernel
theorem dX6_letters_110 : decode cX6_letters 110 = .ok (.bipush 102, 2) := by decide +kernel
theorem dX6_letters_112 : decode cX6_letters 112 = .ok (.bipush 97, 2) := by decide +kernel
theorem dX6_letters_114 : decode cX6_letters 114 = .ok (.bipush 114, 2) := by decide +kernel
theorem dX6_letters_116 : decode cX6_letters 116 = .ok (.iconst 0, 1) := by decide +kernel
theorem dX6_letters_117 : decode cX6_letters 117 = .ok (.iconst 0, 1) := by decide +kernel
theorem dX6_letters_118 : decode cX6_letters 118 = .ok (.iconst 0, 1) := by decide +kernel
theorem dX6_letters_119 : decode cX6_letters 119 = .ok (.iconst 0, 1) := by decide +kernel
theorem dX6_letters_120 : decode cX6_letters 120 = .ok (.invokestatic 241, 3) := by decide +kernel
theorem dX6_letters_123 : decode cX6_letters 123 = .ok (.lreturn, 1) := by decide +kernel
theorem dX6_letters_124 : decode cX6_letters 124 = .ok (.bipush 99, 2) := by decide +kernel
theorem dX6_letters_126 : decode cX6_letters 126 = .ok (.bipush 104, 2) := by decide +kernel
theorem dX6_letters_128 : decode cX6_letters 128 = .ok (.bipush 97, 2) := by decide +kernel
theorem dX6_letters_130 : decode cX6_letters 130 = .ok (.bipush 110, 2) := by decide +kernel
theorem dX6_letters_132 : decode cX6_letters 132 = .ok (.bipush 99, 2) := by decide +kernel
theorem dX6_letters_134 : decode cX6_letters 134 = .ok (.bipush 101, 2) := by decide +kernel
theorem dX6_letters_136 : decode cX6_letters 136 = .ok (.iconst 0, 1) := by decide +kernel
theorem dX6_letters_137 : decode cX6_letters 137 = .ok (.invokestatic 241, 3) := by decide +kernel
theorem dX6_letters_140 : decode cX6_letters 140 = .ok (.lreturn, 1) := by decide +kernel
theorem dX6_letters_141 : decode cX6_letters 141 = .ok (.bipush 116, 2) := by decide +kernel
theorem dX6_letters_143 : decode cX6_letters 143 = .ok (.bipush 117, 2) := by decide +kernel
theorem dX6_letters_145 : decode cX6_letters 145 = .ok (.bipush 114, 2) := by decide +kernel
theorem dX6_letters_147 : decode cX6_letters 147 = .ok (.bipush 110, 2) := by decide +kernel
theorem dX6_letters_149 : decode cX6_letters 149 = .ok (.iconst 0, 1) := by decide +kernel
theorem dX6_letters_150 : decode cX6_letters 150 = .ok (.iconst 0, 1) := by decide +kernel
theorem dX6_letters_151 : decode cX6_letters 151 = .ok (.iconst 0, 1) := by decide +kernel
theorem dX6_letters_152 : decode cX6_letters 152 = .ok (.invokestatic 241, 3) := by decide +kernel
theorem dX6_letters_155 : decode cX6_letters 155 = .ok (.lreturn, 1) := by decide +kernel
theorem dX6_letters_156 : decode cX6_letters 156 = .ok (.bipush 112, 2) := by decide +kernel
theorem dX6_letters_158 : decode cX6_letters 158 = .ok (.bipush 108, 2) := by decide +kernel
theorem dX6_letters_160 : decode cX6_letters 160 = .ok (.bipush 97, 2) := by decide +kernel
theorem dX6_letters_162 : decode cX6_letters 162 = .ok (.bipush 99, 2) := by decide +kernel
theorem dX6_letters_164 : decode cX6_letters 164 = .ok (.bipush 101, 2) := by decide +kernel
theorem dX6_letters_166 : decode cX6_letters 166 = .ok (.iconst 0, 1) := by decide +kernel
theorem dX6_letters_167 : decode cX6_letters 167 = .ok (.iconst 0, 1) := by decide +kernel
theorem dX6_letters_168 : decode cX6_letters 168 = .ok (.invokestatic 241, 3) := by decide +kernel
theorem dX6_letters_171 : decode cX6_letters 171 = .ok (.lreturn, 1) := by decide +kernel
theorem dX6_letters_172 : decode cX6_letters 172 = .ok (.bipush 115, 2) := by decide +kernel
theorem dX6_letters_174 : decode cX6_letters 174 = .ok (.bipush 116, 2) := by decide +kernel
theorem dX6_letters_176 : decode cX6_letters 176 = .ok (.bipush 114, 2) := by decide +kernel
theorem dX6_letters_178 : decode cX6_letters 178 = .ok (.bipush 97, 2) := by decide +kernel
theorem dX6_letters_180 : decode cX6_letters 180 = .ok (.bipush 116, 2) := by decide +kernel
theorem dX6_letters_182 : decode cX6_letters 182 = .ok (.bipush 117, 2) := by decide +kernel
theorem dX6_letters_184 : decode cX6_letters 184 = .ok (.bipush 109, 2) := by decide +kernel
theorem dX6_letters_186 : decode cX6_letters 186 = .ok (.invokestatic 241, 3) := by decide +kernel
theorem dX6_letters_189 : decode cX6_letters 189 = .ok (.lreturn, 1) := by decide +kernel
theorem dX6_letters_190 : decode cX6_letters 190 = .ok (.bipush 115, 2) := by decide +kernel
theorem dX6_letters_192 : decode cX6_letters 192 = .ok (.bipush 105, 2) := by decide +kernel
theorem dX6_letters_194 : decode cX6_letters 194 = .ok (.bipush 122, 2) := by decide +kernel
theorem dX6_letters_196 : decode cX6_letters 196 = .ok (.bipush 101, 2) := by decide +kernel
theorem dX6_letters_198 : decode cX6_letters 198 = .ok (.iconst 0, 1) := by decide +kernel
theorem dX6_letters_199 : decode cX6_letters 199 = .ok (.iconst 0, 1) := by decide +kernel
theorem dX6_letters_200 : decode cX6_letters 200 = .ok (.iconst 0, 1) := by decide +kernel
theorem dX6_letters_201 : decode cX6_letters 201 = .ok (.invokestatic 241, 3) := by decide +kernel
theorem dX6_letters_204 : decode cX6_letters 204 = .ok (.lreturn, 1) := by decide +kernel
theorem dX6_letters_205 : decode cX6_letters 205 = .ok (.bipush 118, 2) := by decide +kernel
theorem dX6_letters_207 : decode cX6_letters 207 = .ok (.bipush 97, 2) := by decide +kernel
theorem dX6_letters_209 : decode cX6_letters 209 = .ok (.bipush 108, 2) := by decide +kernel
theorem dX6_letters_211 : decode cX6_letters 211 = .ok (.bipush 117, 2) := by decide +kernel
theorem dX6_letters_213 : decode cX6_letters 213 = .ok (.bipush 101, 2) := by decide +kernel
theorem dX6_letters_215 : decode cX6_letters 215 = .ok (.iconst 0, 1) := by decide +kernel
theorem dX6_letters_216 : decode cX6_letters 216 = .ok (.iconst 0, 1) := by decide +kernel
theorem dX6_letters_217 : decode cX6_letters 217 = .ok (.invokestatic 241, 3) := by decide +kernel
theorem dX6_letters_220 : decode cX6_letters 220 = .ok (.lreturn, 1) := by decide +kernel
theorem dX6_letters_221 : decode cX6_letters 221 = .ok (.bipush 117, 2) := by decide +kernel
theorem dX6_letters_223 : decode cX6_letters 223 = .ok (.bipush 110, 2) := by decide +kernel
theorem dX6_letters_225 : decode cX6_letters 225 = .ok (.bipush 105, 2) := by decide +kernel
theorem dX6_letters_227 : decode cX6_letters 227 = .ok (.bipush 116, 2) := by decide +kernel
theorem dX6_letters_229 : decode cX6_letters 229 = .ok (.iconst 0, 1) := by decide +kernel
theorem dX6_letters_230 : decode cX6_letters 230 = .ok (.iconst 0, 1) := by decide +kernel
theorem dX6_letters_231 : decode cX6_letters 231 = .ok (.iconst 0, 1) := by decide +kernel
theorem dX6_letters_232 : decode cX6_letters 232 = .ok (.invokestatic 241, 3) := by decide +kernel
theorem dX6_letters_235 : decode cX6_letters 235 = .ok (.lreturn, 1) := by decide +kernel
theorem dX6_letters_236 : decode cX6_letters 236 = .ok (.bipush 119, 2) := by decide +kernel
theorem dX6_letters_238 : decode cX6_letters 238 = .ok (.bipush 97, 2) := by decide +kernel
theorem dX6_letters_240 : decode cX6_letters 240 = .ok (.bipush 108, 2) := by decide +kernel
theorem dX6_letters_242 : decode cX6_letters 242 = .ok (.bipush 107, 2) := by decide +kernel
theorem dX6_letters_244 : decode cX6_letters 244 = .ok (.iconst 0, 1) := by decide +kernel
theorem dX6_letters_245 : decode cX6_letters 245 = .ok (.iconst 0, 1) := by decide +kernel
theorem dX6_letters_246 : decode cX6_letters 246 = .ok (.iconst 0, 1) := by decide +kernel
theorem dX6_letters_247 : decode cX6_letters 247 = .ok (.invokestatic 241, 3) := by decide +kernel
theorem dX6_letters_250 : decode cX6_letters 250 = .ok (.lreturn, 1) := by decide +kernel
theorem dX6_letters_251 : decode cX6_letters 251 = .ok (.bipush 109, 2) := by decide +kernel
theorem dX6_letters_253 : decode cX6_letters 253 = .ok (.bipush 97, 2) := by decide +kernel
theorem dX6_letters_255 : decode cX6_letters 255 = .ok (.bipush 110, 2) := by decide +kernel
theorem dX6_letters_257 : decode cX6_letters 257 = .ok (.bipush 121, 2) := by decide +kernel
theorem dX6_letters_259 : decode cX6_letters 259 = .ok (.iconst 0, 1) := by decide +kernel
theorem dX6_letters_260 : decode cX6_letters 260 = .ok (.iconst 0, 1) := by decide +kernel
theorem dX6_letters_261 : decode cX6_letters 261 = .ok (.iconst 0, 1) := by decide +kernel
theorem dX6_letters_262 : decode cX6_letters 262 = .ok (.invokestatic 241, 3) := by decide +kernel
theorem dX6_letters_265 : decode cX6_letters 265 = .ok (.lreturn, 1) := by decide +kernel
theorem dX6_by27_0 : decode cX6_by27 0 = .ok (.iload_n 2, 1) := by decide +kernel
theorem dX6_by27_1 : decode cX6_by27 1 = .ok (.ifCond .ne 7, 3) := by decide +kernel
theorem dX6_by27_4 : decode cX6_by27 4 = .ok (.lload_n 0, 1) := by decide +kernel
theorem dX6_by27_5 : decode cX6_by27 5 = .ok (.goto 17, 3) := by decide +kernel
theorem dX6_by27_8 : decode cX6_by27 8 = .ok (.ldc2_w 245, 3) := by decide +kernel
theorem dX6_by27_11 : decode cX6_by27 11 = .ok (.lload_n 0, 1) := by decide +kernel
theorem dX6_by27_12 : decode cX6_by27 12 = .ok (.lmul, 1) := by decide +kernel
theorem dX6_by27_13 : decode cX6_by27 13 = .ok (.iload_n 2, 1) := by decide +kernel
theorem dX6_by27_14 : decode cX6_by27 14 = .ok (.i2l, 1) := by decide +kernel
theorem dX6_by27_15 : decode cX6_by27 15 = .ok (.ladd, 1) := by decide +kernel
theorem dX6_by27_16 : decode cX6_by27 16 = .ok (.ldc2_w 247, 3) := by decide +kernel
theorem dX6_by27_19 : decode cX6_by27 19 = .ok (.lsub, 1) := by decide +kernel
theorem dX6_by27_20 : decode cX6_by27 20 = .ok (.lconst 1, 1) := by decide +kernel
theorem dX6_by27_21 : decode cX6_by27 21 = .ok (.ladd, 1) := by decide +kernel
theorem dX6_by27_22 : decode cX6_by27 22 = .ok (.lreturn, 1) := by decide +kernel
theorem dX6_spells_0 : decode cX6_spells 0 = .ok (.lconst 0, 1) := by decide +kernel
theorem dX6_spells_1 : decode cX6_spells 1 = .ok (.iload_n 0, 1) := by decide +kernel
theorem dX6_spells_2 : decode cX6_spells 2 = .ok (.invokestatic 249, 3) := by decide +kernel
theorem dX6_spells_5 : decode cX6_spells 5 = .ok (.iload_n 1, 1) := by decide +kernel
theorem dX6_spells_6 : decode cX6_spells 6 = .ok (.invokestatic 249, 3) := by decide +kernel
theorem dX6_spells_9 : decode cX6_spells 9 = .ok (.iload_n 2, 1) := by decide +kernel
theorem dX6_spells_10 : decode cX6_spells 10 = .ok (.invokestatic 249, 3) := by decide +kernel
theorem dX6_spells_13 : decode cX6_spells 13 = .ok (.iload_n 3, 1) := by decide +kernel
theorem dX6_spells_14 : decode cX6_spells 14 = .ok (.invokestatic 249, 3) := by decide +kernel
theorem dX6_spells_17 : decode cX6_spells 17 = .ok (.iload 4, 2) := by decide +kernel
theorem dX6_spells_19 : decode cX6_spells 19 = .ok (.invokestatic 249, 3) := by decide +kernel
theorem dX6_spells_22 : decode cX6_spells 22 = .ok (.iload 5, 2) := by decide +kernel
theorem dX6_spells_24 : decode cX6_spells 24 = .ok (.invokestatic 249, 3) := by decide +kernel
theorem dX6_spells_27 : decode cX6_spells 27 = .ok (.iload 6, 2) := by decide +kernel
theorem dX6_spells_29 : decode cX6_spells 29 = .ok (.invokestatic 249, 3) := by decide +kernel
theorem dX6_spells_32 : decode cX6_spells 32 = .ok (.lreturn, 1) := by decide +kernel
theorem dX6_tellsWord_0 : decode cX6_tellsWord 0 = .ok (.iload_n 1, 1) := by decide +kernel
theorem dX6_tellsWord_1 : decode cX6_tellsWord 1 = .ok (.invokestatic 253, 3) := by decide +kernel
theorem dX6_tellsWord_4 : decode cX6_tellsWord 4 = .ok (.lstore_n 2, 1) := by decide +kernel
theorem dX6_tellsWord_5 : decode cX6_tellsWord 5 = .ok (.lconst 1, 1) := by decide +kernel
theorem dX6_tellsWord_6 : decode cX6_tellsWord 6 = .ok (.lstore 4, 2) := by decide +kernel
theorem dX6_tellsWord_8 : decode cX6_tellsWord 8 = .ok (.lload 4, 2) := by decide +kernel
theorem dX6_tellsWord_10 : decode cX6_tellsWord 10 = .ok (.ldc2_w 245, 3) := by decide +kernel
theorem dX6_tellsWord_13 : decode cX6_tellsWord 13 = .ok (.lmul, 1) := by decide +kernel
theorem dX6_tellsWord_14 : decode cX6_tellsWord 14 = .ok (.lload_n 2, 1) := by decide +kernel
theorem dX6_tellsWord_15 : decode cX6_tellsWord 15 = .ok (.lcmp, 1) := by decide +kernel
theorem dX6_tellsWord_16 : decode cX6_tellsWord 16 = .ok (.ifCond .gt 14, 3) := by decide +kernel
theorem dX6_tellsWord_19 : decode cX6_tellsWord 19 = .ok (.lload 4, 2) := by decide +kernel
theorem dX6_tellsWord_21 : decode cX6_tellsWord 21 = .ok (.ldc2_w 245, 3) := by decide +kernel
theorem dX6_tellsWord_24 : decode cX6_tellsWord 24 = .ok (.lmul, 1) := by decide +kernel
theorem dX6_tellsWord_25 : decode cX6_tellsWord 25 = .ok (.lstore 4, 2) := by decide +kernel
theorem dX6_tellsWord_27 : decode cX6_tellsWord 27 = .ok (.goto (-19), 3) := by decide +kernel
theorem dX6_tellsWord_30 : decode cX6_tellsWord 30 = .ok (.lload 4, 2) := by decide +kernel
theorem dX6_tellsWord_32 : decode cX6_tellsWord 32 = .ok (.lconst 0, 1) := by decide +kernel
theorem dX6_tellsWord_33 : decode cX6_tellsWord 33 = .ok (.lcmp, 1) := by decide +kernel
theorem dX6_tellsWord_34 : decode cX6_tellsWord 34 = .ok (.ifCond .le 33, 3) := by decide +kernel
theorem dX6_tellsWord_37 : decode cX6_tellsWord 37 = .ok (.aload_n 0, 1) := by decide +kernel
theorem dX6_tellsWord_38 : decode cX6_tellsWord 38 = .ok (.lload_n 2, 1) := by decide +kernel
theorem dX6_tellsWord_39 : decode cX6_tellsWord 39 = .ok (.lload 4, 2) := by decide +kernel
theorem dX6_tellsWord_41 : decode cX6_tellsWord 41 = .ok (.ldiv, 1) := by decide +kernel
theorem dX6_tellsWord_42 : decode cX6_tellsWord 42 = .ok (.l2i, 1) := by decide +kernel
theorem dX6_tellsWord_43 : decode cX6_tellsWord 43 = .ok (.bipush 97, 2) := by decide +kernel
theorem dX6_tellsWord_45 : decode cX6_tellsWord 45 = .ok (.iadd, 1) := by decide +kernel
theorem dX6_tellsWord_46 : decode cX6_tellsWord 46 = .ok (.iconst 1, 1) := by decide +kernel
theorem dX6_tellsWord_47 : decode cX6_tellsWord 47 = .ok (.isub, 1) := by decide +kernel
theorem dX6_tellsWord_48 : decode cX6_tellsWord 48 = .ok (.invokevirtual 237, 3) := by decide +kernel
theorem dX6_tellsWord_51 : decode cX6_tellsWord 51 = .ok (.lload_n 2, 1) := by decide +kernel
theorem dX6_tellsWord_52 : decode cX6_tellsWord 52 = .ok (.lload 4, 2) := by decide +kernel
theorem dX6_tellsWord_54 : decode cX6_tellsWord 54 = .ok (.lrem, 1) := by decide +kernel
theorem dX6_tellsWord_55 : decode cX6_tellsWord 55 = .ok (.lstore_n 2, 1) := by decide +kernel
theorem dX6_tellsWord_56 : decode cX6_tellsWord 56 = .ok (.lload 4, 2) := by decide +kernel
theorem dX6_tellsWord_58 : decode cX6_tellsWord 58 = .ok (.ldc2_w 245, 3) := by decide +kernel
theorem dX6_tellsWord_61 : decode cX6_tellsWord 61 = .ok (.ldiv, 1) := by decide +kernel
theorem dX6_tellsWord_62 : decode cX6_tellsWord 62 = .ok (.lstore 4, 2) := by decide +kernel
theorem dX6_tellsWord_64 : decode cX6_tellsWord 64 = .ok (.goto (-34), 3) := by decide +kernel
theorem dX6_tellsWord_67 : decode cX6_tellsWord 67 = .ok (.return_, 1) := by decide +kernel
theorem dX6_skip_0 : decode cX6_skip 0 = .ok (.aload_n 0, 1) := by decide +kernel
theorem dX6_skip_1 : decode cX6_skip 1 = .ok (.getfield 256, 3) := by decide +kernel
theorem dX6_skip_4 : decode cX6_skip 4 = .ok (.aload_n 0, 1) := by decide +kernel
theorem dX6_skip_5 : decode cX6_skip 5 = .ok (.getfield 231, 3) := by decide +kernel
theorem dX6_skip_8 : decode cX6_skip 8 = .ok (.if_icmp .ge 30, 3) := by decide +kernel
theorem dX6_skip_11 : decode cX6_skip 11 = .ok (.aload_n 0, 1) := by decide +kernel
theorem dX6_skip_12 : decode cX6_skip 12 = .ok (.getfield 29, 3) := by decide +kernel
theorem dX6_skip_15 : decode cX6_skip 15 = .ok (.aload_n 0, 1) := by decide +kernel
theorem dX6_skip_16 : decode cX6_skip 16 = .ok (.getfield 256, 3) := by decide +kernel
theorem dX6_skip_19 : decode cX6_skip 19 = .ok (.iaload, 1) := by decide +kernel
theorem dX6_skip_20 : decode cX6_skip 20 = .ok (.bipush 32, 2) := by decide +kernel
theorem dX6_skip_22 : decode cX6_skip 22 = .ok (.if_icmp .ne 16, 3) := by decide +kernel
theorem dX6_skip_25 : decode cX6_skip 25 = .ok (.aload_n 0, 1) := by decide +kernel
theorem dX6_skip_26 : decode cX6_skip 26 = .ok (.dup, 1) := by decide +kernel
theorem dX6_skip_27 : decode cX6_skip 27 = .ok (.getfield 256, 3) := by decide +kernel
theorem dX6_skip_30 : decode cX6_skip 30 = .ok (.iconst 1, 1) := by decide +kernel
theorem dX6_skip_31 : decode cX6_skip 31 = .ok (.iadd, 1) := by decide +kernel
theorem dX6_skip_32 : decode cX6_skip 32 = .ok (.putfield 256, 3) := by decide +kernel
theorem dX6_skip_35 : decode cX6_skip 35 = .ok (.goto (-35), 3) := by decide +kernel
theorem dX6_skip_38 : decode cX6_skip 38 = .ok (.return_, 1) := by decide +kernel
theorem dX6_isByte_0 : decode cX6_isByte 0 = .ok (.iload_n 1, 1) := by decide +kernel
theorem dX6_isByte_1 : decode cX6_isByte 1 = .ok (.aload_n 0, 1) := by decide +kernel
theorem dX6_isByte_2 : decode cX6_isByte 2 = .ok (.getfield 231, 3) := by decide +kernel
theorem dX6_isByte_5 : decode cX6_isByte 5 = .ok (.if_icmp .ge 24, 3) := by decide +kernel
theorem dX6_isByte_8 : decode cX6_isByte 8 = .ok (.aload_n 0, 1) := by decide +kernel
theorem dX6_isByte_9 : decode cX6_isByte 9 = .ok (.getfield 29, 3) := by decide +kernel
theorem dX6_isByte_12 : decode cX6_isByte 12 = .ok (.iload_n 1, 1) := by decide +kernel
theorem dX6_isByte_13 : decode cX6_isByte 13 = .ok (.iaload, 1) := by decide +kernel
theorem dX6_isByte_14 : decode cX6_isByte 14 = .ok (.i2l, 1) := by decide +kernel
theorem dX6_isByte_15 : decode cX6_isByte 15 = .ok (.iload_n 2, 1) := by decide +kernel
theorem dX6_isByte_16 : decode cX6_isByte 16 = .ok (.i2l, 1) := by decide +kernel
theorem dX6_isByte_17 : decode cX6_isByte 17 = .ok (.iload_n 3, 1) := by decide +kernel
theorem dX6_isByte_18 : decode cX6_isByte 18 = .ok (.i2l, 1) := by decide +kernel
theorem dX6_isByte_19 : decode cX6_isByte 19 = .ok (.invokestatic 42, 3) := by decide +kernel
theorem dX6_isByte_22 : decode cX6_isByte 22 = .ok (.ifCond .eq 7, 3) := by decide +kernel
theorem dX6_isByte_25 : decode cX6_isByte 25 = .ok (.iconst 1, 1) := by decide +kernel
theorem dX6_isByte_26 : decode cX6_isByte 26 = .ok (.goto 4, 3) := by decide +kernel
theorem dX6_isByte_29 : decode cX6_isByte 29 = .ok (.iconst 0, 1) := by decide +kernel
theorem dX6_isByte_30 : decode cX6_isByte 30 = .ok (.ireturn, 1) := by decide +kernel
theorem dX6_takesWord_0 : decode cX6_takesWord 0 = .ok (.aload_n 0, 1) := by decide +kernel
theorem dX6_takesWord_1 : decode cX6_takesWord 1 = .ok (.invokevirtual 259, 3) := by decide +kernel
theorem dX6_takesWord_4 : decode cX6_takesWord 4 = .ok (.aload_n 0, 1) := by decide +kernel
theorem dX6_takesWord_5 : decode cX6_takesWord 5 = .ok (.getfield 256, 3) := by decide +kernel
theorem dX6_takesWord_8 : decode cX6_takesWord 8 = .ok (.istore_n 1, 1) := by decide +kernel
theorem dX6_takesWord_9 : decode cX6_takesWord 9 = .ok (.lconst 0, 1) := by decide +kernel
theorem dX6_takesWord_10 : decode cX6_takesWord 10 = .ok (.lstore_n 2, 1) := by decide +kernel
theorem dX6_takesWord_11 : decode cX6_takesWord 11 = .ok (.aload_n 0, 1) := by decide +kernel
theorem dX6_takesWord_12 : decode cX6_takesWord 12 = .ok (.iload_n 1, 1) := by decide +kernel
theorem dX6_takesWord_13 : decode cX6_takesWord 13 = .ok (.bipush 97, 2) := by decide +kernel
theorem dX6_takesWord_15 : decode cX6_takesWord 15 = .ok (.bipush 122, 2) := by decide +kernel
theorem dX6_takesWord_17 : decode cX6_takesWord 17 = .ok (.invokevirtual 262, 3) := by decide +kernel
theorem dX6_takesWord_20 : decode cX6_takesWord 20 = .ok (.ifCond .eq 31, 3) := by decide +kernel
theorem dX6_takesWord_23 : decode cX6_takesWord 23 = .ok (.iload_n 1, 1) := by decide +kernel
theorem dX6_takesWord_24 : decode cX6_takesWord 24 = .ok (.aload_n 0, 1) := by decide +kernel
theorem dX6_takesWord_25 : decode cX6_takesWord 25 = .ok (.getfield 256, 3) := by decide +kernel
theorem dX6_takesWord_28 : decode cX6_takesWord 28 = .ok (.isub, 1) := by decide +kernel
theorem dX6_takesWord_29 : decode cX6_takesWord 29 = .ok (.bipush 8, 2) := by decide +kernel
theorem dX6_takesWord_31 : decode cX6_takesWord 31 = .ok (.if_icmp .ge 20, 3) := by decide +kernel
theorem dX6_takesWord_34 : decode cX6_takesWord 34 = .ok (.lload_n 2, 1) := by decide +kernel
theorem dX6_takesWord_35 : decode cX6_takesWord 35 = .ok (.aload_n 0, 1) := by decide +kernel
theorem dX6_takesWord_36 : decode cX6_takesWord 36 = .ok (.getfield 29, 3) := by decide +kernel
theorem dX6_takesWord_39 : decode cX6_takesWord 39 = .ok (.iload_n 1, 1) := by decide +kernel
theorem dX6_takesWord_40 : decode cX6_takesWord 40 = .ok (.iaload, 1) := by decide +kernel
theorem dX6_takesWord_41 : decode cX6_takesWord 41 = .ok (.invokestatic 249, 3) := by decide +kernel
theorem dX6_takesWord_44 : decode cX6_takesWord 44 = .ok (.lstore_n 2, 1) := by decide +kernel
theorem dX6_takesWord_45 : decode cX6_takesWord 45 = .ok (.iinc 1 1, 3) := by decide +kernel
theorem dX6_takesWord_48 : decode cX6_takesWord 48 = .ok (.goto (-37), 3) := by decide +kernel
theorem dX6_takesWord_51 : decode cX6_takesWord 51 = .ok (.iconst (-1), 1) := by decide +kernel
theorem dX6_takesWord_52 : decode cX6_takesWord 52 = .ok (.istore 4, 2) := by decide +kernel
theorem dX6_takesWord_54 : decode cX6_takesWord 54 = .ok (.iconst 0, 1) := by decide +kernel
theorem dX6_takesWord_55 : decode cX6_takesWord 55 = .ok (.istore 5, 2) := by decide +kernel
theorem dX6_takesWord_57 : decode cX6_takesWord 57 = .ok (.iload 5, 2) := by decide +kernel
theorem dX6_takesWord_59 : decode cX6_takesWord 59 = .ok (.bipush 13, 2) := by decide +kernel
theorem dX6_takesWord_61 : decode cX6_takesWord 61 = .ok (.if_icmp .ge 40, 3) := by decide +kernel
theorem dX6_takesWord_64 : decode cX6_takesWord 64 = .ok (.iload 5, 2) := by decide +kernel
theorem dX6_takesWord_66 : decode cX6_takesWord 66 = .ok (.invokestatic 253, 3) := by decide +kernel
theorem dX6_takesWord_69 : decode cX6_takesWord 69 = .ok (.lload_n 2, 1) := by decide +kernel
theorem dX6_takesWord_70 : decode cX6_takesWord 70 = .ok (.lcmp, 1) := by decide +kernel
theorem dX6_takesWord_71 : decode cX6_takesWord 71 = .ok (.ifCond .ne 20, 3) := by decide +kernel
theorem dX6_takesWord_74 : decode cX6_takesWord 74 = .ok (.aload_n 0, 1) := by decide +kernel
theorem dX6_takesWord_75 : decode cX6_takesWord 75 = .ok (.iload_n 1, 1) := by decide +kernel
theorem dX6_takesWord_76 : decode cX6_takesWord 76 = .ok (.bipush 97, 2) := by decide +kernel
theorem dX6_takesWord_78 : decode cX6_takesWord 78 = .ok (.bipush 122, 2) := by decide +kernel
theorem dX6_takesWord_80 : decode cX6_takesWord 80 = .ok (.invokevirtual 262, 3) := by decide +kernel
theorem dX6_takesWord_83 : decode cX6_takesWord 83 = .ok (.ifCond .ne 8, 3) := by decide +kernel
theorem dX6_takesWord_86 : decode cX6_takesWord 86 = .ok (.iload 5, 2) := by decide +kernel
theorem dX6_takesWord_88 : decode cX6_takesWord 88 = .ok (.goto 5, 3) := by decide +kernel
theorem dX6_takesWord_91 : decode cX6_takesWord 91 = .ok (.iload 4, 2) := by decide +kernel
theorem dX6_takesWord_93 : decode cX6_takesWord 93 = .ok (.istore 4, 2) := by decide +kernel
theorem dX6_takesWord_95 : decode cX6_takesWord 95 = .ok (.iinc 5 1, 3) := by decide +kernel
theorem dX6_takesWord_98 : decode cX6_takesWord 98 = .ok (.goto (-41), 3) := by decide +kernel
theorem dX6_takesWord_101 : decode cX6_takesWord 101 = .ok (.aload_n 0, 1) := by decide +kernel
theorem dX6_takesWord_102 : decode cX6_takesWord 102 = .ok (.iload 4, 2) := by decide +kernel
theorem dX6_takesWord_104 : decode cX6_takesWord 104 = .ok (.iconst (-1), 1) := by decide +kernel
theorem dX6_takesWord_105 : decode cX6_takesWord 105 = .ok (.if_icmp .ne 10, 3) := by decide +kernel
theorem dX6_takesWord_108 : decode cX6_takesWord 108 = .ok (.aload_n 0, 1) := by decide +kernel
theorem dX6_takesWord_109 : decode cX6_takesWord 109 = .ok (.getfield 256, 3) := by decide +kernel
theorem dX6_takesWord_112 : decode cX6_takesWord 112 = .ok (.goto 4, 3) := by decide +kernel
theorem dX6_takesWord_115 : decode cX6_takesWord 115 = .ok (.iload_n 1, 1) := by decide +kernel
theorem dX6_takesWord_116 : decode cX6_takesWord 116 = .ok (.putfield 256, 3) := by decide +kernel
theorem dX6_takesWord_119 : decode cX6_takesWord 119 = .ok (.iload 4, 2) := by decide +kernel
theorem dX6_takesWord_121 : decode cX6_takesWord 121 = .ok (.ireturn, 1) := by decide +kernel
theorem dX6_takesNumber_0 : decode cX6_takesNumber 0 = .ok (.aload_n 0, 1) := by decide +kernel
theorem dX6_takesNumber_1 : decode cX6_takesNumber 1 = .ok (.invokevirtual 259, 3) := by decide +kernel
theorem dX6_takesNumber_4 : decode cX6_takesNumber 4 = .ok (.aload_n 0, 1) := by decide +kernel
theorem dX6_takesNumber_5 : decode cX6_takesNumber 5 = .ok (.getfield 256, 3) := by decide +kernel
theorem dX6_takesNumber_8 : decode cX6_takesNumber 8 = .ok (.istore_n 3, 1) := by decide +kernel
theorem dX6_takesNumber_9 : decode cX6_takesNumber 9 = .ok (.iconst 0, 1) := by decide +kernel
theorem dX6_takesNumber_10 : decode cX6_takesNumber 10 = .ok (.istore 4, 2) := by decide +kernel
theorem dX6_takesNumber_12 : decode cX6_takesNumber 12 = .ok (.aload_n 0, 1) := by decide +kernel
theorem dX6_takesNumber_13 : decode cX6_takesNumber 13 = .ok (.iload_n 3, 1) := by decide +kernel
theorem dX6_takesNumber_14 : decode cX6_takesNumber 14 = .ok (.bipush 48, 2) := by decide +kernel
theorem dX6_takesNumber_16 : decode cX6_takesNumber 16 = .ok (.bipush 57, 2) := by decide +kernel
theorem dX6_takesNumber_18 : decode cX6_takesNumber 18 = .ok (.invokevirtual 262, 3) := by decide +kernel
theorem dX6_takesNumber_21 : decode cX6_takesNumber 21 = .ok (.ifCond .eq 37, 3) := by decide +kernel
theorem dX6_takesNumber_24 : decode cX6_takesNumber 24 = .ok (.iload_n 3, 1) := by decide +kernel
theorem dX6_takesNumber_25 : decode cX6_takesNumber 25 = .ok (.aload_n 0, 1) := by decide +kernel
theorem dX6_takesNumber_26 : decode cX6_takesNumber 26 = .ok (.getfield 256, 3) := by decide +kernel
theorem dX6_takesNumber_29 : decode cX6_takesNumber 29 = .ok (.isub, 1) := by decide +kernel
theorem dX6_takesNumber_30 : decode cX6_takesNumber 30 = .ok (.bipush 7, 2) := by decide +kernel
theorem dX6_takesNumber_32 : decode cX6_takesNumber 32 = .ok (.if_icmp .ge 26, 3) := by decide +kernel
theorem dX6_takesNumber_35 : decode cX6_takesNumber 35 = .ok (.bipush 10, 2) := by decide +kernel
theorem dX6_takesNumber_37 : decode cX6_takesNumber 37 = .ok (.iload 4, 2) := by decide +kernel
theorem dX6_takesNumber_39 : decode cX6_takesNumber 39 = .ok (.imul, 1) := by decide +kernel
theorem dX6_takesNumber_40 : decode cX6_takesNumber 40 = .ok (.aload_n 0, 1) := by decide +kernel
theorem dX6_takesNumber_41 : decode cX6_takesNumber 41 = .ok (.getfield 29, 3) := by decide +kernel
theorem dX6_takesNumber_44 : decode cX6_takesNumber 44 = .ok (.iload_n 3, 1) := by decide +kernel
theorem dX6_takesNumber_45 : decode cX6_takesNumber 45 = .ok (.iaload, 1) := by decide +kernel
theorem dX6_takesNumber_46 : decode cX6_takesNumber 46 = .ok (.iadd, 1) := by decide +kernel
theorem dX6_takesNumber_47 : decode cX6_takesNumber 47 = .ok (.bipush 48, 2) := by decide +kernel
theorem dX6_takesNumber_49 : decode cX6_takesNumber 49 = .ok (.isub, 1) := by decide +kernel
theorem dX6_takesNumber_50 : decode cX6_takesNumber 50 = .ok (.istore 4, 2) := by decide +kernel
theorem dX6_takesNumber_52 : decode cX6_takesNumber 52 = .ok (.iinc 3 1, 3) := by decide +kernel
theorem dX6_takesNumber_55 : decode cX6_takesNumber 55 = .ok (.goto (-43), 3) := by decide +kernel
theorem dX6_takesNumber_58 : decode cX6_takesNumber 58 = .ok (.iload_n 3, 1) := by decide +kernel
theorem dX6_takesNumber_59 : decode cX6_takesNumber 59 = .ok (.aload_n 0, 1) := by decide +kernel
theorem dX6_takesNumber_60 : decode cX6_takesNumber 60 = .ok (.getfield 256, 3) := by decide +kernel
theorem dX6_takesNumber_63 : decode cX6_takesNumber 63 = .ok (.isub, 1) := by decide +kernel
theorem dX6_takesNumber_64 : decode cX6_takesNumber 64 = .ok (.i2l, 1) := by decide +kernel
theorem dX6_takesNumber_65 : decode cX6_takesNumber 65 = .ok (.lconst 1, 1) := by decide +kernel
theorem dX6_takesNumber_66 : decode cX6_takesNumber 66 = .ok (.iload_n 1, 1) := by decide +kernel
theorem dX6_takesNumber_67 : decode cX6_takesNumber 67 = .ok (.i2l, 1) := by decide +kernel
theorem dX6_takesNumber_68 : decode cX6_takesNumber 68 = .ok (.invokestatic 42, 3) := by decide +kernel
theorem dX6_takesNumber_71 : decode cX6_takesNumber 71 = .ok (.ifCond .eq 25, 3) := by decide +kernel
theorem dX6_takesNumber_74 : decode cX6_takesNumber 74 = .ok (.iload 4, 2) := by decide +kernel
theorem dX6_takesNumber_76 : decode cX6_takesNumber 76 = .ok (.iload_n 2, 1) := by decide +kernel
theorem dX6_takesNumber_77 : decode cX6_takesNumber 77 = .ok (.if_icmp .gt 19, 3) := by decide +kernel
theorem dX6_takesNumber_80 : decode cX6_takesNumber 80 = .ok (.aload_n 0, 1) := by decide +kernel
theorem dX6_takesNumber_81 : decode cX6_takesNumber 81 = .ok (.iload_n 3, 1) := by decide +kernel
theorem dX6_takesNumber_82 : decode cX6_takesNumber 82 = .ok (.bipush 48, 2) := by decide +kernel
theorem dX6_takesNumber_84 : decode cX6_takesNumber 84 = .ok (.bipush 57, 2) := by decide +kernel
theorem dX6_takesNumber_86 : decode cX6_takesNumber 86 = .ok (.invokevirtual 262, 3) := by decide +kernel
theorem dX6_takesNumber_89 : decode cX6_takesNumber 89 = .ok (.ifCond .ne 7, 3) := by decide +kernel
theorem dX6_takesNumber_92 : decode cX6_takesNumber 92 = .ok (.iconst 1, 1) := by decide +kernel
theorem dX6_takesNumber_93 : decode cX6_takesNumber 93 = .ok (.goto 4, 3) := by decide +kernel
theorem dX6_takesNumber_96 : decode cX6_takesNumber 96 = .ok (.iconst 0, 1) := by decide +kernel
theorem dX6_takesNumber_97 : decode cX6_takesNumber 97 = .ok (.istore 5, 2) := by decide +kernel
theorem dX6_takesNumber_99 : decode cX6_takesNumber 99 = .ok (.aload_n 0, 1) := by decide +kernel
theorem dX6_takesNumber_100 : decode cX6_takesNumber 100 = .ok (.iload 5, 2) := by decide +kernel
theorem dX6_takesNumber_102 : decode cX6_takesNumber 102 = .ok (.ifCond .eq 7, 3) := by decide +kernel
theorem dX6_takesNumber_105 : decode cX6_takesNumber 105 = .ok (.iload_n 3, 1) := by decide +kernel
theorem dX6_takesNumber_106 : decode cX6_takesNumber 106 = .ok (.goto 7, 3) := by decide +kernel
theorem dX6_takesNumber_109 : decode cX6_takesNumber 109 = .ok (.aload_n 0, 1) := by decide +kernel
theorem dX6_takesNumber_110 : decode cX6_takesNumber 110 = .ok (.getfield 256, 3) := by decide +kernel
theorem dX6_takesNumber_113 : decode cX6_takesNumber 113 = .ok (.putfield 256, 3) := by decide +kernel
theorem dX6_takesNumber_116 : decode cX6_takesNumber 116 = .ok (.iload 5, 2) := by decide +kernel
theorem dX6_takesNumber_118 : decode cX6_takesNumber 118 = .ok (.ifCond .eq 8, 3) := by decide +kernel
theorem dX6_takesNumber_121 : decode cX6_takesNumber 121 = .ok (.iload 4, 2) := by decide +kernel
theorem dX6_takesNumber_123 : decode cX6_takesNumber 123 = .ok (.goto 4, 3) := by decide +kernel
theorem dX6_takesNumber_126 : decode cX6_takesNumber 126 = .ok (.iconst (-1), 1) := by decide +kernel
theorem dX6_takesNumber_127 : decode cX6_takesNumber 127 = .ok (.ireturn, 1) := by decide +kernel
theorem dX6_argsOf_0 : decode cX6_argsOf 0 = .ok (.iload_n 1, 1) := by decide +kernel
theorem dX6_argsOf_1 : decode cX6_argsOf 1 = .ok (.iconst 5, 1) := by decide +kernel
theorem dX6_argsOf_2 : decode cX6_argsOf 2 = .ok (.if_icmp .lt 9, 3) := by decide +kernel
theorem dX6_argsOf_5 : decode cX6_argsOf 5 = .ok (.iload_n 1, 1) := by decide +kernel
theorem dX6_argsOf_6 : decode cX6_argsOf 6 = .ok (.bipush 12, 2) := by decide +kernel
theorem dX6_argsOf_8 : decode cX6_argsOf 8 = .ok (.if_icmp .ne 7, 3) := by decide +kernel
theorem dX6_argsOf_11 : decode cX6_argsOf 11 = .ok (.iconst 0, 1) := by decide +kernel
theorem dX6_argsOf_12 : decode cX6_argsOf 12 = .ok (.goto 24, 3) := by decide +kernel
theorem dX6_argsOf_15 : decode cX6_argsOf 15 = .ok (.iload_n 1, 1) := by decide +kernel
theorem dX6_argsOf_16 : decode cX6_argsOf 16 = .ok (.bipush 10, 2) := by decide +kernel
theorem dX6_argsOf_18 : decode cX6_argsOf 18 = .ok (.if_icmp .ge 7, 3) := by decide +kernel
theorem dX6_argsOf_21 : decode cX6_argsOf 21 = .ok (.iconst 2, 1) := by decide +kernel
theorem dX6_argsOf_22 : decode cX6_argsOf 22 = .ok (.goto 14, 3) := by decide +kernel
theorem dX6_argsOf_25 : decode cX6_argsOf 25 = .ok (.iload_n 1, 1) := by decide +kernel
theorem dX6_argsOf_26 : decode cX6_argsOf 26 = .ok (.bipush 10, 2) := by decide +kernel
theorem dX6_argsOf_28 : decode cX6_argsOf 28 = .ok (.if_icmp .ne 7, 3) := by decide +kernel
theorem dX6_argsOf_31 : decode cX6_argsOf 31 = .ok (.iconst 5, 1) := by decide +kernel
theorem dX6_argsOf_32 : decode cX6_argsOf 32 = .ok (.goto 4, 3) := by decide +kernel
theorem dX6_argsOf_35 : decode cX6_argsOf 35 = .ok (.iconst 1, 1) := by decide +kernel
theorem dX6_argsOf_36 : decode cX6_argsOf 36 = .ok (.ireturn, 1) := by decide +kernel
theorem dX6_mostAt_0 : decode cX6_mostAt 0 = .ok (.iload_n 1, 1) := by decide +kernel
theorem dX6_mostAt_1 : decode cX6_mostAt 1 = .ok (.bipush 11, 2) := by decide +kernel
theorem dX6_mostAt_3 : decode cX6_mostAt 3 = .ok (.if_icmp .ne 7, 3) := by decide +kernel
theorem dX6_mostAt_6 : decode cX6_mostAt 6 = .ok (.ldc_w 266, 3) := by decide +kernel
theorem dX6_mostAt_9 : decode cX6_mostAt 9 = .ok (.ireturn, 1) := by decide +kernel
theorem dX6_mostAt_10 : decode cX6_mostAt 10 = .ok (.iload_n 1, 1) := by decide +kernel
theorem dX6_mostAt_11 : decode cX6_mostAt 11 = .ok (.bipush 10, 2) := by decide +kernel
theorem dX6_mostAt_13 : decode cX6_mostAt 13 = .ok (.if_icmp .ne 10, 3) := by decide +kernel
theorem dX6_mostAt_16 : decode cX6_mostAt 16 = .ok (.iload_n 2, 1) := by decide +kernel
theorem dX6_mostAt_17 : decode cX6_mostAt 17 = .ok (.invokestatic 46, 3) := by decide +kernel
theorem dX6_mostAt_20 : decode cX6_mostAt 20 = .ok (.goto 19, 3) := by decide +kernel
theorem dX6_mostAt_23 : decode cX6_mostAt 23 = .ok (.iload_n 2, 1) := by decide +kernel
theorem dX6_mostAt_24 : decode cX6_mostAt 24 = .ok (.ifCond .ne 9, 3) := by decide +kernel
theorem dX6_mostAt_27 : decode cX6_mostAt 27 = .ok (.iload_n 3, 1) := by decide +kernel
theorem dX6_mostAt_28 : decode cX6_mostAt 28 = .ok (.iconst 1, 1) := by decide +kernel
theorem dX6_mostAt_29 : decode cX6_mostAt 29 = .ok (.isub, 1) := by decide +kernel
theorem dX6_mostAt_30 : decode cX6_mostAt 30 = .ok (.goto 9, 3) := by decide +kernel
theorem dX6_mostAt_33 : decode cX6_mostAt 33 = .ok (.iload_n 1, 1) := by decide +kernel
theorem dX6_mostAt_34 : decode cX6_mostAt 34 = .ok (.iconst 5, 1) := by decide +kernel
theorem dX6_mostAt_35 : decode cX6_mostAt 35 = .ok (.isub, 1) := by decide +kernel
theorem dX6_mostAt_36 : decode cX6_mostAt 36 = .ok (.invokestatic 46, 3) := by decide +kernel
theorem dX6_mostAt_39 : decode cX6_mostAt 39 = .ok (.ireturn, 1) := by decide +kernel
theorem dX6_reads_0 : decode cX6_reads 0 = .ok (.aload_n 0, 1) := by decide +kernel
theorem dX6_reads_1 : decode cX6_reads 1 = .ok (.invokevirtual 259, 3) := by decide +kernel
theorem dX6_reads_4 : decode cX6_reads 4 = .ok (.aload_n 0, 1) := by decide +kernel
theorem dX6_reads_5 : decode cX6_reads 5 = .ok (.getfield 256, 3) := by decide +kernel
theorem dX6_reads_8 : decode cX6_reads 8 = .ok (.istore_n 2, 1) := by decide +kernel
theorem dX6_reads_9 : decode cX6_reads 9 = .ok (.aload_n 0, 1) := by decide +kernel
theorem dX6_reads_10 : decode cX6_reads 10 = .ok (.invokevirtual 267, 3) := by decide +kernel
theorem dX6_reads_13 : decode cX6_reads 13 = .ok (.istore_n 3, 1) := by decide +kernel
theorem dX6_reads_14 : decode cX6_reads 14 = .ok (.iload_n 3, 1) := by decide +kernel
theorem dX6_reads_15 : decode cX6_reads 15 = .ok (.bipush 10, 2) := by decide +kernel
theorem dX6_reads_17 : decode cX6_reads 17 = .ok (.if_icmp .ne 16, 3) := by decide +kernel
theorem dX6_reads_20 : decode cX6_reads 20 = .ok (.iload_n 1, 1) := by decide +kernel
theorem dX6_reads_21 : decode cX6_reads 21 = .ok (.bipush 12, 2) := by decide +kernel
theorem dX6_reads_23 : decode cX6_reads 23 = .ok (.if_icmp .ne 10, 3) := by decide +kernel
theorem dX6_reads_26 : decode cX6_reads 26 = .ok (.aload_n 0, 1) := by decide +kernel
theorem dX6_reads_27 : decode cX6_reads 27 = .ok (.iload_n 2, 1) := by decide +kernel
theorem dX6_reads_28 : decode cX6_reads 28 = .ok (.putfield 256, 3) := by decide +kernel
theorem dX6_reads_31 : decode cX6_reads 31 = .ok (.iconst (-1), 1) := by decide +kernel
theorem dX6_reads_32 : decode cX6_reads 32 = .ok (.ireturn, 1) := by decide +kernel
theorem dX6_reads_33 : decode cX6_reads 33 = .ok (.iload_n 3, 1) := by decide +kernel
theorem dX6_reads_34 : decode cX6_reads 34 = .ok (.iconst (-1), 1) := by decide +kernel
theorem dX6_reads_35 : decode cX6_reads 35 = .ok (.if_icmp .eq 7, 3) := by decide +kernel
theorem dX6_reads_38 : decode cX6_reads 38 = .ok (.iconst 1, 1) := by decide +kernel
theorem dX6_reads_39 : decode cX6_reads 39 = .ok (.goto 4, 3) := by decide +kernel
theorem dX6_reads_42 : decode cX6_reads 42 = .ok (.iconst 0, 1) := by decide +kernel
theorem dX6_reads_43 : decode cX6_reads 43 = .ok (.istore 4, 2) := by decide +kernel
theorem dX6_reads_45 : decode cX6_reads 45 = .ok (.iconst 0, 1) := by decide +kernel
theorem dX6_reads_46 : decode cX6_reads 46 = .ok (.istore 5, 2) := by decide +kernel
theorem dX6_reads_48 : decode cX6_reads 48 = .ok (.iload 4, 2) := by decide +kernel
theorem dX6_reads_50 : decode cX6_reads 50 = .ok (.ifCond .eq 68, 3) := by decide +kernel
theorem dX6_reads_53 : decode cX6_reads 53 = .ok (.iload 5, 2) := by decide +kernel
theorem dX6_reads_55 : decode cX6_reads 55 = .ok (.aload_n 0, 1) := by decide +kernel
theorem dX6_reads_56 : decode cX6_reads 56 = .ok (.iload_n 3, 1) := by decide +kernel
theorem dX6_reads_57 : decode cX6_reads 57 = .ok (.invokevirtual 270, 3) := by decide +kernel
theorem dX6_reads_60 : decode cX6_reads 60 = .ok (.if_icmp .ge 58, 3) := by decide +kernel
theorem dX6_reads_63 : decode cX6_reads 63 = .ok (.aload_n 0, 1) := by decide +kernel
theorem dX6_reads_64 : decode cX6_reads 64 = .ok (.getfield 35, 3) := by decide +kernel
theorem dX6_reads_67 : decode cX6_reads 67 = .ok (.iload 5, 2) := by decide +kernel
theorem dX6_reads_69 : decode cX6_reads 69 = .ok (.aload_n 0, 1) := by decide +kernel
theorem dX6_reads_70 : decode cX6_reads 70 = .ok (.iload_n 3, 1) := by decide +kernel
theorem dX6_reads_71 : decode cX6_reads 71 = .ok (.bipush 11, 2) := by decide +kernel
theorem dX6_reads_73 : decode cX6_reads 73 = .ok (.if_icmp .ne 8, 3) := by decide +kernel
theorem dX6_reads_76 : decode cX6_reads 76 = .ok (.bipush 6, 2) := by decide +kernel
theorem dX6_reads_78 : decode cX6_reads 78 = .ok (.goto 4, 3) := by decide +kernel
theorem dX6_reads_81 : decode cX6_reads 81 = .ok (.iconst 2, 1) := by decide +kernel
theorem dX6_reads_82 : decode cX6_reads 82 = .ok (.aload_n 0, 1) := by decide +kernel
theorem dX6_reads_83 : decode cX6_reads 83 = .ok (.iload_n 3, 1) := by decide +kernel
theorem dX6_reads_84 : decode cX6_reads 84 = .ok (.iload 5, 2) := by decide +kernel
theorem dX6_reads_86 : decode cX6_reads 86 = .ok (.iload_n 1, 1) := by decide +kernel
theorem dX6_reads_87 : decode cX6_reads 87 = .ok (.invokevirtual 273, 3) := by decide +kernel
theorem dX6_reads_90 : decode cX6_reads 90 = .ok (.invokevirtual 276, 3) := by decide +kernel
theorem dX6_reads_93 : decode cX6_reads 93 = .ok (.iastore, 1) := by decide +kernel
theorem dX6_reads_94 : decode cX6_reads 94 = .ok (.aload_n 0, 1) := by decide +kernel
theorem dX6_reads_95 : decode cX6_reads 95 = .ok (.getfield 35, 3) := by decide +kernel
theorem dX6_reads_98 : decode cX6_reads 98 = .ok (.iload 5, 2) := by decide +kernel
theorem dX6_reads_100 : decode cX6_reads 100 = .ok (.iaload, 1) := by decide +kernel
theorem dX6_reads_101 : decode cX6_reads 101 = .ok (.iconst (-1), 1) := by decide +kernel
theorem dX6_reads_102 : decode cX6_reads 102 = .ok (.if_icmp .eq 7, 3) := by decide +kernel
theorem dX6_reads_105 : decode cX6_reads 105 = .ok (.iconst 1, 1) := by decide +kernel
theorem dX6_reads_106 : decode cX6_reads 106 = .ok (.goto 4, 3) := by decide +kernel
theorem dX6_reads_109 : decode cX6_reads 109 = .ok (.iconst 0, 1) := by decide +kernel
theorem dX6_reads_110 : decode cX6_reads 110 = .ok (.istore 4, 2) := by decide +kernel
theorem dX6_reads_112 : decode cX6_reads 112 = .ok (.iinc 5 1, 3) := by decide +kernel
theorem dX6_reads_115 : decode cX6_reads 115 = .ok (.goto (-67), 3) := by decide +kernel
theorem dX6_reads_118 : decode cX6_reads 118 = .ok (.aload_n 0, 1) := by decide +kernel
theorem dX6_reads_119 : decode cX6_reads 119 = .ok (.invokevirtual 259, 3) := by decide +kernel
theorem dX6_reads_122 : decode cX6_reads 122 = .ok (.iload 4, 2) := by decide +kernel
theorem dX6_reads_124 : decode cX6_reads 124 = .ok (.ifCond .eq 18, 3) := by decide +kernel
theorem dX6_reads_127 : decode cX6_reads 127 = .ok (.aload_n 0, 1) := by decide +kernel
theorem dX6_reads_128 : decode cX6_reads 128 = .ok (.aload_n 0, 1) := by decide +kernel
theorem dX6_reads_129 : decode cX6_reads 129 = .ok (.getfield 256, 3) := by decide +kernel
theorem dX6_reads_132 : decode cX6_reads 132 = .ok (.bipush 59, 2) := by decide +kernel
theorem dX6_reads_134 : decode cX6_reads 134 = .ok (.bipush 59, 2) := by decide +kernel
theorem dX6_reads_136 : decode cX6_reads 136 = .ok (.invokevirtual 262, 3) := by decide +kernel
theorem dX6_reads_139 : decode cX6_reads 139 = .ok (.ifCond .ne 5, 3) := by decide +kernel
theorem dX6_reads_142 : decode cX6_reads 142 = .ok (.iconst (-1), 1) := by decide +kernel
theorem dX6_reads_143 : decode cX6_reads 143 = .ok (.ireturn, 1) := by decide +kernel
theorem dX6_reads_144 : decode cX6_reads 144 = .ok (.aload_n 0, 1) := by decide +kernel
theorem dX6_reads_145 : decode cX6_reads 145 = .ok (.dup, 1) := by decide +kernel
theorem dX6_reads_146 : decode cX6_reads 146 = .ok (.getfield 256, 3) := by decide +kernel
theorem dX6_reads_149 : decode cX6_reads 149 = .ok (.iconst 1, 1) := by decide +kernel
theorem dX6_reads_150 : decode cX6_reads 150 = .ok (.iadd, 1) := by decide +kernel
theorem dX6_reads_151 : decode cX6_reads 151 = .ok (.putfield 256, 3) := by decide +kernel
theorem dX6_reads_154 : decode cX6_reads 154 = .ok (.iload_n 3, 1) := by decide +kernel
theorem dX6_reads_155 : decode cX6_reads 155 = .ok (.ireturn, 1) := by decide +kernel
theorem dX6_tellsSample_0 : decode cX6_tellsSample 0 = .ok (.iconst 0, 1) := by decide +kernel
theorem dX6_tellsSample_1 : decode cX6_tellsSample 1 = .ok (.istore_n 1, 1) := by decide +kernel
theorem dX6_tellsSample_2 : decode cX6_tellsSample 2 = .ok (.iconst 0, 1) := by decide +kernel
theorem dX6_tellsSample_3 : decode cX6_tellsSample 3 = .ok (.istore_n 2, 1) := by decide +kernel
theorem dX6_tellsSample_4 : decode cX6_tellsSample 4 = .ok (.iload_n 2, 1) := by decide +kernel
theorem dX6_tellsSample_5 : decode cX6_tellsSample 5 = .ok (.aload_n 0, 1) := by decide +kernel
theorem dX6_tellsSample_6 : decode cX6_tellsSample 6 = .ok (.getfield 38, 3) := by decide +kernel
theorem dX6_tellsSample_9 : decode cX6_tellsSample 9 = .ok (.if_icmp .ge 38, 3) := by decide +kernel
theorem dX6_tellsSample_12 : decode cX6_tellsSample 12 = .ok (.aload_n 0, 1) := by decide +kernel
theorem dX6_tellsSample_13 : decode cX6_tellsSample 13 = .ok (.getfield 75, 3) := by decide +kernel
theorem dX6_tellsSample_16 : decode cX6_tellsSample 16 = .ok (.iload_n 2, 1) := by decide +kernel
theorem dX6_tellsSample_17 : decode cX6_tellsSample 17 = .ok (.invokestatic 120, 3) := by decide +kernel
theorem dX6_tellsSample_20 : decode cX6_tellsSample 20 = .ok (.ifCond .eq 21, 3) := by decide +kernel
theorem dX6_tellsSample_23 : decode cX6_tellsSample 23 = .ok (.iload_n 1, 1) := by decide +kernel
theorem dX6_tellsSample_24 : decode cX6_tellsSample 24 = .ok (.ifCond .le 9, 3) := by decide +kernel
theorem dX6_tellsSample_27 : decode cX6_tellsSample 27 = .ok (.aload_n 0, 1) := by decide +kernel
theorem dX6_tellsSample_28 : decode cX6_tellsSample 28 = .ok (.bipush 43, 2) := by decide +kernel
theorem dX6_tellsSample_30 : decode cX6_tellsSample 30 = .ok (.invokevirtual 237, 3) := by decide +kernel
theorem dX6_tellsSample_33 : decode cX6_tellsSample 33 = .ok (.aload_n 0, 1) := by decide +kernel
theorem dX6_tellsSample_34 : decode cX6_tellsSample 34 = .ok (.iload_n 2, 1) := by decide +kernel
theorem dX6_tellsSample_35 : decode cX6_tellsSample 35 = .ok (.invokevirtual 279, 3) := by decide +kernel
theorem dX6_tellsSample_38 : decode cX6_tellsSample 38 = .ok (.iinc 1 1, 3) := by decide +kernel
theorem dX6_tellsSample_41 : decode cX6_tellsSample 41 = .ok (.iinc 2 1, 3) := by decide +kernel
theorem dX6_tellsSample_44 : decode cX6_tellsSample 44 = .ok (.goto (-40), 3) := by decide +kernel
theorem dX6_tellsSample_47 : decode cX6_tellsSample 47 = .ok (.iload_n 1, 1) := by decide +kernel
theorem dX6_tellsSample_48 : decode cX6_tellsSample 48 = .ok (.ifCond .ne 9, 3) := by decide +kernel
theorem dX6_tellsSample_51 : decode cX6_tellsSample 51 = .ok (.aload_n 0, 1) := by decide +kernel
theorem dX6_tellsSample_52 : decode cX6_tellsSample 52 = .ok (.bipush 45, 2) := by decide +kernel
theorem dX6_tellsSample_54 : decode cX6_tellsSample 54 = .ok (.invokevirtual 237, 3) := by decide +kernel
theorem dX6_tellsSample_57 : decode cX6_tellsSample 57 = .ok (.return_, 1) := by decide +kernel
theorem dX6_does_0 : decode cX6_does 0 = .ok (.iload_n 1, 1) := by decide +kernel
theorem dX6_does_1 : decode cX6_does 1 = .ok (.iconst 5, 1) := by decide +kernel
theorem dX6_does_2 : decode cX6_does 2 = .ok (.if_icmp .ge 19, 3) := by decide +kernel
theorem dX6_does_5 : decode cX6_does 5 = .ok (.aload_n 0, 1) := by decide +kernel
theorem dX6_does_6 : decode cX6_does 6 = .ok (.aload_n 0, 1) := by decide +kernel
theorem dX6_does_7 : decode cX6_does 7 = .ok (.getfield 134, 3) := by decide +kernel
theorem dX6_does_10 : decode cX6_does 10 = .ok (.invokevirtual 282, 3) := by decide +kernel
theorem dX6_does_13 : decode cX6_does 13 = .ok (.aload_n 0, 1) := by decide +kernel
theorem dX6_does_14 : decode cX6_does 14 = .ok (.iload_n 1, 1) := by decide +kernel
theorem dX6_does_15 : decode cX6_does 15 = .ok (.putfield 134, 3) := by decide +kernel
theorem dX6_does_18 : decode cX6_does 18 = .ok (.goto 123, 3) := by decide +kernel
theorem dX6_does_21 : decode cX6_does 21 = .ok (.iload_n 1, 1) := by decide +kernel
theorem dX6_does_22 : decode cX6_does 22 = .ok (.bipush 10, 2) := by decide +kernel
theorem dX6_does_24 : decode cX6_does 24 = .ok (.if_icmp .ge 29, 3) := by decide +kernel
theorem dX6_does_27 : decode cX6_does 27 = .ok (.aload_n 0, 1) := by decide +kernel
theorem dX6_does_28 : decode cX6_does 28 = .ok (.aload_n 0, 1) := by decide +kernel
theorem dX6_does_29 : decode cX6_does 29 = .ok (.aload_n 0, 1) := by decide +kernel
theorem dX6_does_30 : decode cX6_does 30 = .ok (.getfield 35, 3) := by decide +kernel
theorem dX6_does_33 : decode cX6_does 33 = .ok (.iconst 0, 1) := by decide +kernel
theorem dX6_does_34 : decode cX6_does 34 = .ok (.iaload, 1) := by decide +kernel
theorem dX6_does_35 : decode cX6_does 35 = .ok (.iload_n 1, 1) := by decide +kernel
theorem dX6_does_36 : decode cX6_does 36 = .ok (.iconst 5, 1) := by decide +kernel
theorem dX6_does_37 : decode cX6_does 37 = .ok (.isub, 1) := by decide +kernel
theorem dX6_does_38 : decode cX6_does 38 = .ok (.aload_n 0, 1) := by decide +kernel
theorem dX6_does_39 : decode cX6_does 39 = .ok (.getfield 35, 3) := by decide +kernel
theorem dX6_does_42 : decode cX6_does 42 = .ok (.iconst 1, 1) := by decide +kernel
theorem dX6_does_43 : decode cX6_does 43 = .ok (.iaload, 1) := by decide +kernel
theorem dX6_does_44 : decode cX6_does 44 = .ok (.invokevirtual 71, 3) := by decide +kernel
theorem dX6_does_47 : decode cX6_does 47 = .ok (.invokevirtual 279, 3) := by decide +kernel
theorem dX6_does_50 : decode cX6_does 50 = .ok (.goto 91, 3) := by decide +kernel
theorem dX6_does_53 : decode cX6_does 53 = .ok (.iload_n 1, 1) := by decide +kernel
theorem dX6_does_54 : decode cX6_does 54 = .ok (.bipush 10, 2) := by decide +kernel
theorem dX6_does_56 : decode cX6_does 56 = .ok (.if_icmp .ne 50, 3) := by decide +kernel
theorem dX6_does_59 : decode cX6_does 59 = .ok (.aload_n 0, 1) := by decide +kernel
theorem dX6_does_60 : decode cX6_does 60 = .ok (.aload_n 0, 1) := by decide +kernel
theorem dX6_does_61 : decode cX6_does 61 = .ok (.getfield 35, 3) := by decide +kernel
theorem dX6_does_64 : decode cX6_does 64 = .ok (.iconst 0, 1) := by decide +kernel
theorem dX6_does_65 : decode cX6_does 65 = .ok (.iaload, 1) := by decide +kernel
theorem dX6_does_66 : decode cX6_does 66 = .ok (.aload_n 0, 1) := by decide +kernel
theorem dX6_does_67 : decode cX6_does 67 = .ok (.getfield 35, 3) := by decide +kernel
theorem dX6_does_70 : decode cX6_does 70 = .ok (.iconst 1, 1) := by decide +kernel
theorem dX6_does_71 : decode cX6_does 71 = .ok (.iaload, 1) := by decide +kernel
theorem dX6_does_72 : decode cX6_does 72 = .ok (.aload_n 0, 1) := by decide +kernel
theorem dX6_does_73 : decode cX6_does 73 = .ok (.getfield 35, 3) := by decide +kernel
theorem dX6_does_76 : decode cX6_does 76 = .ok (.iconst 2, 1) := by decide +kernel
theorem dX6_does_77 : decode cX6_does 77 = .ok (.iaload, 1) := by decide +kernel
theorem dX6_does_78 : decode cX6_does 78 = .ok (.aload_n 0, 1) := by decide +kernel
theorem dX6_does_79 : decode cX6_does 79 = .ok (.getfield 35, 3) := by decide +kernel
theorem dX6_does_82 : decode cX6_does 82 = .ok (.iconst 3, 1) := by decide +kernel
theorem dX6_does_83 : decode cX6_does 83 = .ok (.iaload, 1) := by decide +kernel
theorem dX6_does_84 : decode cX6_does 84 = .ok (.aload_n 0, 1) := by decide +kernel
theorem dX6_does_85 : decode cX6_does 85 = .ok (.getfield 35, 3) := by decide +kernel
theorem dX6_does_88 : decode cX6_does 88 = .ok (.iconst 4, 1) := by decide +kernel
theorem dX6_does_89 : decode cX6_does 89 = .ok (.iaload, 1) := by decide +kernel
theorem dX6_does_90 : decode cX6_does 90 = .ok (.invokevirtual 57, 3) := by decide +kernel
theorem dX6_does_93 : decode cX6_does 93 = .ok (.aload_n 0, 1) := by decide +kernel
theorem dX6_does_94 : decode cX6_does 94 = .ok (.aload_n 0, 1) := by decide +kernel
theorem dX6_does_95 : decode cX6_does 95 = .ok (.getfield 38, 3) := by decide +kernel
theorem dX6_does_98 : decode cX6_does 98 = .ok (.iconst 1, 1) := by decide +kernel
theorem dX6_does_99 : decode cX6_does 99 = .ok (.isub, 1) := by decide +kernel
theorem dX6_does_100 : decode cX6_does 100 = .ok (.invokevirtual 279, 3) := by decide +kernel
theorem dX6_does_103 : decode cX6_does 103 = .ok (.goto 38, 3) := by decide +kernel
theorem dX6_does_106 : decode cX6_does 106 = .ok (.iload_n 1, 1) := by decide +kernel
theorem dX6_does_107 : decode cX6_does 107 = .ok (.bipush 11, 2) := by decide +kernel
theorem dX6_does_109 : decode cX6_does 109 = .ok (.if_icmp .ne 21, 3) := by decide +kernel
theorem dX6_does_112 : decode cX6_does 112 = .ok (.aload_n 0, 1) := by decide +kernel
theorem dX6_does_113 : decode cX6_does 113 = .ok (.aload_n 0, 1) := by decide +kernel
theorem dX6_does_114 : decode cX6_does 114 = .ok (.getfield 35, 3) := by decide +kernel
theorem dX6_does_117 : decode cX6_does 117 = .ok (.iconst 0, 1) := by decide +kernel
theorem dX6_does_118 : decode cX6_does 118 = .ok (.iaload, 1) := by decide +kernel
theorem dX6_does_119 : decode cX6_does 119 = .ok (.invokevirtual 196, 3) := by decide +kernel
theorem dX6_does_122 : decode cX6_does 122 = .ok (.istore_n 2, 1) := by decide +kernel
theorem dX6_does_123 : decode cX6_does 123 = .ok (.aload_n 0, 1) := by decide +kernel
theorem dX6_does_124 : decode cX6_does 124 = .ok (.invokevirtual 285, 3) := by decide +kernel
theorem dX6_does_127 : decode cX6_does 127 = .ok (.goto 14, 3) := by decide +kernel
theorem dX6_does_130 : decode cX6_does 130 = .ok (.aload_n 0, 1) := by decide +kernel
theorem dX6_does_131 : decode cX6_does 131 = .ok (.aload_n 0, 1) := by decide +kernel
theorem dX6_does_132 : decode cX6_does 132 = .ok (.getfield 75, 3) := by decide +kernel
theorem dX6_does_135 : decode cX6_does 135 = .ok (.invokestatic 190, 3) := by decide +kernel
theorem dX6_does_138 : decode cX6_does 138 = .ok (.invokevirtual 279, 3) := by decide +kernel
theorem dX6_does_141 : decode cX6_does 141 = .ok (.return_, 1) := by decide +kernel
theorem dX6_goesThrough_0 : decode cX6_goesThrough 0 = .ok (.iconst 0, 1) := by decide +kernel
theorem dX6_goesThrough_1 : decode cX6_goesThrough 1 = .ok (.istore_n 2, 1) := by decide +kernel
theorem dX6_goesThrough_2 : decode cX6_goesThrough 2 = .ok (.aload_n 0, 1) := by decide +kernel
theorem dX6_goesThrough_3 : decode cX6_goesThrough 3 = .ok (.getfield 38, 3) := by decide +kernel
theorem dX6_goesThrough_6 : decode cX6_goesThrough 6 = .ok (.istore_n 3, 1) := by decide +kernel
theorem dX6_goesThrough_7 : decode cX6_goesThrough 7 = .ok (.aload_n 0, 1) := by decide +kernel
theorem dX6_goesThrough_8 : decode cX6_goesThrough 8 = .ok (.iconst 0, 1) := by decide +kernel
theorem dX6_goesThrough_9 : decode cX6_goesThrough 9 = .ok (.putfield 256, 3) := by decide +kernel
theorem dX6_goesThrough_12 : decode cX6_goesThrough 12 = .ok (.aload_n 0, 1) := by decide +kernel
theorem dX6_goesThrough_13 : decode cX6_goesThrough 13 = .ok (.invokevirtual 259, 3) := by decide +kernel
theorem dX6_goesThrough_16 : decode cX6_goesThrough 16 = .ok (.iconst 1, 1) := by decide +kernel
theorem dX6_goesThrough_17 : decode cX6_goesThrough 17 = .ok (.istore 4, 2) := by decide +kernel
theorem dX6_goesThrough_19 : decode cX6_goesThrough 19 = .ok (.iload 4, 2) := by decide +kernel
theorem dX6_goesThrough_21 : decode cX6_goesThrough 21 = .ok (.ifCond .eq 81, 3) := by decide +kernel
theorem dX6_goesThrough_24 : decode cX6_goesThrough 24 = .ok (.aload_n 0, 1) := by decide +kernel
theorem dX6_goesThrough_25 : decode cX6_goesThrough 25 = .ok (.iload_n 3, 1) := by decide +kernel
theorem dX6_goesThrough_26 : decode cX6_goesThrough 26 = .ok (.invokevirtual 288, 3) := by decide +kernel
theorem dX6_goesThrough_29 : decode cX6_goesThrough 29 = .ok (.istore 5, 2) := by decide +kernel
theorem dX6_goesThrough_31 : decode cX6_goesThrough 31 = .ok (.iload 5, 2) := by decide +kernel
theorem dX6_goesThrough_33 : decode cX6_goesThrough 33 = .ok (.iconst (-1), 1) := by decide +kernel
theorem dX6_goesThrough_34 : decode cX6_goesThrough 34 = .ok (.if_icmp .ne 5, 3) := by decide +kernel
theorem dX6_goesThrough_37 : decode cX6_goesThrough 37 = .ok (.iconst (-1), 1) := by decide +kernel
theorem dX6_goesThrough_38 : decode cX6_goesThrough 38 = .ok (.ireturn, 1) := by decide +kernel
theorem dX6_goesThrough_39 : decode cX6_goesThrough 39 = .ok (.iload_n 3, 1) := by decide +kernel
theorem dX6_goesThrough_40 : decode cX6_goesThrough 40 = .ok (.iload 5, 2) := by decide +kernel
theorem dX6_goesThrough_42 : decode cX6_goesThrough 42 = .ok (.bipush 10, 2) := by decide +kernel
theorem dX6_goesThrough_44 : decode cX6_goesThrough 44 = .ok (.if_icmp .ne 7, 3) := by decide +kernel
theorem dX6_goesThrough_47 : decode cX6_goesThrough 47 = .ok (.iconst 1, 1) := by decide +kernel
theorem dX6_goesThrough_48 : decode cX6_goesThrough 48 = .ok (.goto 4, 3) := by decide +kernel
theorem dX6_goesThrough_51 : decode cX6_goesThrough 51 = .ok (.iconst 0, 1) := by decide +kernel
theorem dX6_goesThrough_52 : decode cX6_goesThrough 52 = .ok (.iadd, 1) := by decide +kernel
theorem dX6_goesThrough_53 : decode cX6_goesThrough 53 = .ok (.istore_n 3, 1) := by decide +kernel
theorem dX6_goesThrough_54 : decode cX6_goesThrough 54 = .ok (.iload_n 1, 1) := by decide +kernel
theorem dX6_goesThrough_55 : decode cX6_goesThrough 55 = .ok (.ifCond .eq 19, 3) := by decide +kernel
theorem dX6_goesThrough_58 : decode cX6_goesThrough 58 = .ok (.iload_n 2, 1) := by decide +kernel
theorem dX6_goesThrough_59 : decode cX6_goesThrough 59 = .ok (.ifCond .le 9, 3) := by decide +kernel
theorem dX6_goesThrough_62 : decode cX6_goesThrough 62 = .ok (.aload_n 0, 1) := by decide +kernel
theorem dX6_goesThrough_63 : decode cX6_goesThrough 63 = .ok (.bipush 32, 2) := by decide +kernel
theorem dX6_goesThrough_65 : decode cX6_goesThrough 65 = .ok (.invokevirtual 237, 3) := by decide +kernel
theorem dX6_goesThrough_68 : decode cX6_goesThrough 68 = .ok (.aload_n 0, 1) := by decide +kernel
theorem dX6_goesThrough_69 : decode cX6_goesThrough 69 = .ok (.iload 5, 2) := by decide +kernel
theorem dX6_goesThrough_71 : decode cX6_goesThrough 71 = .ok (.invokevirtual 291, 3) := by decide +kernel
theorem dX6_goesThrough_74 : decode cX6_goesThrough 74 = .ok (.iinc 2 1, 3) := by decide +kernel
theorem dX6_goesThrough_77 : decode cX6_goesThrough 77 = .ok (.aload_n 0, 1) := by decide +kernel
theorem dX6_goesThrough_78 : decode cX6_goesThrough 78 = .ok (.invokevirtual 259, 3) := by decide +kernel
theorem dX6_goesThrough_81 : decode cX6_goesThrough 81 = .ok (.aload_n 0, 1) := by decide +kernel
theorem dX6_goesThrough_82 : decode cX6_goesThrough 82 = .ok (.getfield 256, 3) := by decide +kernel
theorem dX6_goesThrough_85 : decode cX6_goesThrough 85 = .ok (.aload_n 0, 1) := by decide +kernel
theorem dX6_goesThrough_86 : decode cX6_goesThrough 86 = .ok (.getfield 231, 3) := by decide +kernel
theorem dX6_goesThrough_89 : decode cX6_goesThrough 89 = .ok (.if_icmp .ge 7, 3) := by decide +kernel
theorem dX6_goesThrough_92 : decode cX6_goesThrough 92 = .ok (.iconst 1, 1) := by decide +kernel
theorem dX6_goesThrough_93 : decode cX6_goesThrough 93 = .ok (.goto 4, 3) := by decide +kernel
theorem dX6_goesThrough_96 : decode cX6_goesThrough 96 = .ok (.iconst 0, 1) := by decide +kernel
theorem dX6_goesThrough_97 : decode cX6_goesThrough 97 = .ok (.istore 4, 2) := by decide +kernel
theorem dX6_goesThrough_99 : decode cX6_goesThrough 99 = .ok (.goto (-80), 3) := by decide +kernel
theorem dX6_goesThrough_102 : decode cX6_goesThrough 102 = .ok (.iload_n 2, 1) := by decide +kernel
theorem dX6_goesThrough_103 : decode cX6_goesThrough 103 = .ok (.ireturn, 1) := by decide +kernel
theorem dX6_says_0 : decode cX6_says 0 = .ok (.aload_n 0, 1) := by decide +kernel
theorem dX6_says_1 : decode cX6_says 1 = .ok (.iconst 0, 1) := by decide +kernel
theorem dX6_says_2 : decode cX6_says 2 = .ok (.invokevirtual 294, 3) := by decide +kernel
theorem dX6_says_5 : decode cX6_says 5 = .ok (.iconst (-1), 1) := by decide +kernel
theorem dX6_says_6 : decode cX6_says 6 = .ok (.if_icmp .ne 11, 3) := by decide +kernel
theorem dX6_says_9 : decode cX6_says 9 = .ok (.bipush (-10), 2) := by decide +kernel
theorem dX6_says_11 : decode cX6_says 11 = .ok (.aload_n 0, 1) := by decide +kernel
theorem dX6_says_12 : decode cX6_says 12 = .ok (.getfield 256, 3) := by decide +kernel
theorem dX6_says_15 : decode cX6_says 15 = .ok (.isub, 1) := by decide +kernel
theorem dX6_says_16 : decode cX6_says 16 = .ok (.ireturn, 1) := by decide +kernel
theorem dX6_says_17 : decode cX6_says 17 = .ok (.aload_n 0, 1) := by decide +kernel
theorem dX6_says_18 : decode cX6_says 18 = .ok (.iconst 0, 1) := by decide +kernel
theorem dX6_says_19 : decode cX6_says 19 = .ok (.putfield 234, 3) := by decide +kernel
theorem dX6_says_22 : decode cX6_says 22 = .ok (.aload_n 0, 1) := by decide +kernel
theorem dX6_says_23 : decode cX6_says 23 = .ok (.iconst 1, 1) := by decide +kernel
theorem dX6_says_24 : decode cX6_says 24 = .ok (.invokevirtual 294, 3) := by decide +kernel
theorem dX6_says_27 : decode cX6_says 27 = .ok (.ireturn, 1) := by decide +kernel
theorem dX6_answer_0 : decode cX6_answer 0 = .ok (.iload_n 1, 1) := by decide +kernel
theorem dX6_answer_1 : decode cX6_answer 1 = .ok (.iconst (-1), 1) := by decide +kernel
theorem dX6_answer_2 : decode cX6_answer 2 = .ok (.if_icmp .ge 10, 3) := by decide +kernel
theorem dX6_answer_5 : decode cX6_answer 5 = .ok (.aload_n 0, 1) := by decide +kernel
theorem dX6_answer_6 : decode cX6_answer 6 = .ok (.bipush (-10), 2) := by decide +kernel
theorem dX6_answer_8 : decode cX6_answer 8 = .ok (.invokevirtual 50, 3) := by decide +kernel
theorem dX6_answer_11 : decode cX6_answer 11 = .ok (.ireturn, 1) := by decide +kernel
theorem dX6_answer_12 : decode cX6_answer 12 = .ok (.iload_n 1, 1) := by decide +kernel
theorem dX6_answer_13 : decode cX6_answer 13 = .ok (.iconst (-1), 1) := by decide +kernel
theorem dX6_answer_14 : decode cX6_answer 14 = .ok (.if_icmp .ne 10, 3) := by decide +kernel
theorem dX6_answer_17 : decode cX6_answer 17 = .ok (.aload_n 0, 1) := by decide +kernel
theorem dX6_answer_18 : decode cX6_answer 18 = .ok (.getfield 234, 3) := by decide +kernel
theorem dX6_answer_21 : decode cX6_answer 21 = .ok (.goto 22, 3) := by decide +kernel
theorem dX6_answer_24 : decode cX6_answer 24 = .ok (.iload_n 1, 1) := by decide +kernel
theorem dX6_answer_25 : decode cX6_answer 25 = .ok (.aload_n 0, 1) := by decide +kernel
theorem dX6_answer_26 : decode cX6_answer 26 = .ok (.getfield 234, 3) := by decide +kernel
theorem dX6_answer_29 : decode cX6_answer 29 = .ok (.if_icmp .ge 12, 3) := by decide +kernel
theorem dX6_answer_32 : decode cX6_answer 32 = .ok (.aload_n 0, 1) := by decide +kernel
theorem dX6_answer_33 : decode cX6_answer 33 = .ok (.getfield 32, 3) := by decide +kernel
theorem dX6_answer_36 : decode cX6_answer 36 = .ok (.iload_n 1, 1) := by decide +kernel
theorem dX6_answer_37 : decode cX6_answer 37 = .ok (.iaload, 1) := by decide +kernel
theorem dX6_answer_38 : decode cX6_answer 38 = .ok (.goto 5, 3) := by decide +kernel
theorem dX6_answer_41 : decode cX6_answer 41 = .ok (.bipush (-5), 2) := by decide +kernel
theorem dX6_answer_43 : decode cX6_answer 43 = .ok (.ireturn, 1) := by decide +kernel
theorem dX6_toldOf_0 : decode cX6_toldOf 0 = .ok (.iload_n 1, 1) := by decide +kernel
theorem dX6_toldOf_1 : decode cX6_toldOf 1 = .ok (.iconst 3, 1) := by decide +kernel
theorem dX6_toldOf_2 : decode cX6_toldOf 2 = .ok (.if_icmp .ge 12, 3) := by decide +kernel
theorem dX6_toldOf_5 : decode cX6_toldOf 5 = .ok (.aload_n 0, 1) := by decide +kernel
theorem dX6_toldOf_6 : decode cX6_toldOf 6 = .ok (.getfield 13, 3) := by decide +kernel
theorem dX6_toldOf_9 : decode cX6_toldOf 9 = .ok (.iload_n 1, 1) := by decide +kernel
theorem dX6_toldOf_10 : decode cX6_toldOf 10 = .ok (.iaload, 1) := by decide +kernel
theorem dX6_toldOf_11 : decode cX6_toldOf 11 = .ok (.goto 43, 3) := by decide +kernel
theorem dX6_toldOf_14 : decode cX6_toldOf 14 = .ok (.iload_n 1, 1) := by decide +kernel
theorem dX6_toldOf_15 : decode cX6_toldOf 15 = .ok (.iconst 3, 1) := by decide +kernel
theorem dX6_toldOf_16 : decode cX6_toldOf 16 = .ok (.if_icmp .ne 10, 3) := by decide +kernel
theorem dX6_toldOf_19 : decode cX6_toldOf 19 = .ok (.aload_n 0, 1) := by decide +kernel
theorem dX6_toldOf_20 : decode cX6_toldOf 20 = .ok (.getfield 231, 3) := by decide +kernel
theorem dX6_toldOf_23 : decode cX6_toldOf 23 = .ok (.goto 31, 3) := by decide +kernel
theorem dX6_toldOf_26 : decode cX6_toldOf 26 = .ok (.iload_n 1, 1) := by decide +kernel
theorem dX6_toldOf_27 : decode cX6_toldOf 27 = .ok (.iconst 4, 1) := by decide +kernel
theorem dX6_toldOf_28 : decode cX6_toldOf 28 = .ok (.if_icmp .ne 10, 3) := by decide +kernel
theorem dX6_toldOf_31 : decode cX6_toldOf 31 = .ok (.aload_n 0, 1) := by decide +kernel
theorem dX6_toldOf_32 : decode cX6_toldOf 32 = .ok (.getfield 38, 3) := by decide +kernel
theorem dX6_toldOf_35 : decode cX6_toldOf 35 = .ok (.goto 19, 3) := by decide +kernel
theorem dX6_toldOf_38 : decode cX6_toldOf 38 = .ok (.iload_n 1, 1) := by decide +kernel
theorem dX6_toldOf_39 : decode cX6_toldOf 39 = .ok (.iconst 5, 1) := by decide +kernel
theorem dX6_toldOf_40 : decode cX6_toldOf 40 = .ok (.if_icmp .ne 10, 3) := by decide +kernel
theorem dX6_toldOf_43 : decode cX6_toldOf 43 = .ok (.aload_n 0, 1) := by decide +kernel
theorem dX6_toldOf_44 : decode cX6_toldOf 44 = .ok (.getfield 134, 3) := by decide +kernel
theorem dX6_toldOf_47 : decode cX6_toldOf 47 = .ok (.goto 7, 3) := by decide +kernel
theorem dX6_toldOf_50 : decode cX6_toldOf 50 = .ok (.aload_n 0, 1) := by decide +kernel
theorem dX6_toldOf_51 : decode cX6_toldOf 51 = .ok (.getfield 234, 3) := by decide +kernel
theorem dX6_toldOf_54 : decode cX6_toldOf 54 = .ok (.ireturn, 1) := by decide +kernel
theorem dX6_told_0 : decode cX6_told 0 = .ok (.iload_n 1, 1) := by decide +kernel
theorem dX6_told_1 : decode cX6_told 1 = .ok (.i2l, 1) := by decide +kernel
theorem dX6_told_2 : decode cX6_told 2 = .ok (.lconst 0, 1) := by decide +kernel
theorem dX6_told_3 : decode cX6_told 3 = .ok (.ldc2_w 298, 3) := by decide +kernel
theorem dX6_told_6 : decode cX6_told 6 = .ok (.invokestatic 42, 3) := by decide +kernel
theorem dX6_told_9 : decode cX6_told 9 = .ok (.ifCond .eq 11, 3) := by decide +kernel
theorem dX6_told_12 : decode cX6_told 12 = .ok (.aload_n 0, 1) := by decide +kernel
theorem dX6_told_13 : decode cX6_told 13 = .ok (.iload_n 1, 1) := by decide +kernel
theorem dX6_told_14 : decode cX6_told 14 = .ok (.invokevirtual 300, 3) := by decide +kernel
theorem dX6_told_17 : decode cX6_told 17 = .ok (.goto 9, 3) := by decide +kernel
theorem dX6_told_20 : decode cX6_told 20 = .ok (.aload_n 0, 1) := by decide +kernel
theorem dX6_told_21 : decode cX6_told 21 = .ok (.bipush (-2), 2) := by decide +kernel
theorem dX6_told_23 : decode cX6_told 23 = .ok (.invokevirtual 50, 3) := by decide +kernel
theorem dX6_told_26 : decode cX6_told 26 = .ok (.ireturn, 1) := by decide +kernel
theorem dX6_digest_0 : decode cX6_digest 0 = .ok (.ldc2_w 303, 3) := by decide +kernel
theorem dX6_digest_3 : decode cX6_digest 3 = .ok (.lstore_n 1, 1) := by decide +kernel
theorem dX6_digest_4 : decode cX6_digest 4 = .ok (.iconst 0, 1) := by decide +kernel
theorem dX6_digest_5 : decode cX6_digest 5 = .ok (.istore_n 3, 1) := by decide +kernel
theorem dX6_digest_6 : decode cX6_digest 6 = .ok (.iload_n 3, 1) := by decide +kernel
theorem dX6_digest_7 : decode cX6_digest 7 = .ok (.bipush 7, 2) := by decide +kernel
theorem dX6_digest_9 : decode cX6_digest 9 = .ok (.if_icmp .ge 22, 3) := by decide +kernel
theorem dX6_digest_12 : decode cX6_digest 12 = .ok (.ldc2_w 305, 3) := by decide +kernel
theorem dX6_digest_15 : decode cX6_digest 15 = .ok (.lload_n 1, 1) := by decide +kernel
theorem dX6_digest_16 : decode cX6_digest 16 = .ok (.lmul, 1) := by decide +kernel
theorem dX6_digest_17 : decode cX6_digest 17 = .ok (.aload_n 0, 1) := by decide +kernel
theorem dX6_digest_18 : decode cX6_digest 18 = .ok (.iload_n 3, 1) := by decide +kernel
theorem dX6_digest_19 : decode cX6_digest 19 = .ok (.invokevirtual 300, 3) := by decide +kernel
theorem dX6_digest_22 : decode cX6_digest 22 = .ok (.i2l, 1) := by decide +kernel
theorem dX6_digest_23 : decode cX6_digest 23 = .ok (.ladd, 1) := by decide +kernel
theorem dX6_digest_24 : decode cX6_digest 24 = .ok (.lstore_n 1, 1) := by decide +kernel
theorem dX6_digest_25 : decode cX6_digest 25 = .ok (.iinc 3 1, 3) := by decide +kernel
theorem dX6_digest_28 : decode cX6_digest 28 = .ok (.goto (-22), 3) := by decide +kernel
theorem dX6_digest_31 : decode cX6_digest 31 = .ok (.iconst 0, 1) := by decide +kernel
theorem dX6_digest_32 : decode cX6_digest 32 = .ok (.istore_n 3, 1) := by decide +kernel
theorem dX6_digest_33 : decode cX6_digest 33 = .ok (.iload_n 3, 1) := by decide +kernel
theorem dX6_digest_34 : decode cX6_digest 34 = .ok (.aload_n 0, 1) := by decide +kernel
theorem dX6_digest_35 : decode cX6_digest 35 = .ok (.getfield 38, 3) := by decide +kernel
theorem dX6_digest_38 : decode cX6_digest 38 = .ok (.if_icmp .ge 63, 3) := by decide +kernel
theorem dX6_digest_41 : decode cX6_digest 41 = .ok (.iconst 0, 1) := by decide +kernel
theorem dX6_digest_42 : decode cX6_digest 42 = .ok (.istore 4, 2) := by decide +kernel
theorem dX6_digest_44 : decode cX6_digest 44 = .ok (.iload 4, 2) := by decide +kernel
theorem dX6_digest_46 : decode cX6_digest 46 = .ok (.iconst 5, 1) := by decide +kernel
theorem dX6_digest_47 : decode cX6_digest 47 = .ok (.if_icmp .ge 24, 3) := by decide +kernel
theorem dX6_digest_50 : decode cX6_digest 50 = .ok (.ldc2_w 305, 3) := by decide +kernel
theorem dX6_digest_53 : decode cX6_digest 53 = .ok (.lload_n 1, 1) := by decide +kernel
theorem dX6_digest_54 : decode cX6_digest 54 = .ok (.lmul, 1) := by decide +kernel
theorem dX6_digest_55 : decode cX6_digest 55 = .ok (.aload_n 0, 1) := by decide +kernel
theorem dX6_digest_56 : decode cX6_digest 56 = .ok (.iload_n 3, 1) := by decide +kernel
theorem dX6_digest_57 : decode cX6_digest 57 = .ok (.iload 4, 2) := by decide +kernel
theorem dX6_digest_59 : decode cX6_digest 59 = .ok (.invokevirtual 61, 3) := by decide +kernel
theorem dX6_digest_62 : decode cX6_digest 62 = .ok (.i2l, 1) := by decide +kernel
theorem dX6_digest_63 : decode cX6_digest 63 = .ok (.ladd, 1) := by decide +kernel
theorem dX6_digest_64 : decode cX6_digest 64 = .ok (.lstore_n 1, 1) := by decide +kernel
theorem dX6_digest_65 : decode cX6_digest 65 = .ok (.iinc 4 1, 3) := by decide +kernel
theorem dX6_digest_68 : decode cX6_digest 68 = .ok (.goto (-24), 3) := by decide +kernel
theorem dX6_digest_71 : decode cX6_digest 71 = .ok (.ldc2_w 305, 3) := by decide +kernel
theorem dX6_digest_74 : decode cX6_digest 74 = .ok (.lload_n 1, 1) := by decide +kernel
theorem dX6_digest_75 : decode cX6_digest 75 = .ok (.lmul, 1) := by decide +kernel
theorem dX6_digest_76 : decode cX6_digest 76 = .ok (.aload_n 0, 1) := by decide +kernel
theorem dX6_digest_77 : decode cX6_digest 77 = .ok (.getfield 75, 3) := by decide +kernel
theorem dX6_digest_80 : decode cX6_digest 80 = .ok (.iload_n 3, 1) := by decide +kernel
theorem dX6_digest_81 : decode cX6_digest 81 = .ok (.invokestatic 120, 3) := by decide +kernel
theorem dX6_digest_84 : decode cX6_digest 84 = .ok (.ifCond .eq 7, 3) := by decide +kernel
theorem dX6_digest_87 : decode cX6_digest 87 = .ok (.iconst 1, 1) := by decide +kernel
theorem dX6_digest_88 : decode cX6_digest 88 = .ok (.goto 4, 3) := by decide +kernel
theorem dX6_digest_91 : decode cX6_digest 91 = .ok (.iconst 0, 1) := by decide +kernel
theorem dX6_digest_92 : decode cX6_digest 92 = .ok (.i2l, 1) := by decide +kernel
theorem dX6_digest_93 : decode cX6_digest 93 = .ok (.ladd, 1) := by decide +kernel
theorem dX6_digest_94 : decode cX6_digest 94 = .ok (.lstore_n 1, 1) := by decide +kernel
theorem dX6_digest_95 : decode cX6_digest 95 = .ok (.iinc 3 1, 3) := by decide +kernel
theorem dX6_digest_98 : decode cX6_digest 98 = .ok (.goto (-65), 3) := by decide +kernel
theorem dX6_digest_101 : decode cX6_digest 101 = .ok (.iconst 0, 1) := by decide +kernel
theorem dX6_digest_102 : decode cX6_digest 102 = .ok (.istore_n 3, 1) := by decide +kernel
theorem dX6_digest_103 : decode cX6_digest 103 = .ok (.iload_n 3, 1) := by decide +kernel
theorem dX6_digest_104 : decode cX6_digest 104 = .ok (.iconst 4, 1) := by decide +kernel
theorem dX6_digest_105 : decode cX6_digest 105 = .ok (.if_icmp .ge 22, 3) := by decide +kernel
theorem dX6_digest_108 : decode cX6_digest 108 = .ok (.ldc2_w 305, 3) := by decide +kernel
theorem dX6_digest_111 : decode cX6_digest 111 = .ok (.lload_n 1, 1) := by decide +kernel
theorem dX6_digest_112 : decode cX6_digest 112 = .ok (.lmul, 1) := by decide +kernel
theorem dX6_digest_113 : decode cX6_digest 113 = .ok (.aload_n 0, 1) := by decide +kernel
theorem dX6_digest_114 : decode cX6_digest 114 = .ok (.iload_n 3, 1) := by decide +kernel
theorem dX6_digest_115 : decode cX6_digest 115 = .ok (.invokevirtual 199, 3) := by decide +kernel
theorem dX6_digest_118 : decode cX6_digest 118 = .ok (.i2l, 1) := by decide +kernel
theorem dX6_digest_119 : decode cX6_digest 119 = .ok (.ladd, 1) := by decide +kernel
theorem dX6_digest_120 : decode cX6_digest 120 = .ok (.lstore_n 1, 1) := by decide +kernel
theorem dX6_digest_121 : decode cX6_digest 121 = .ok (.iinc 3 1, 3) := by decide +kernel
theorem dX6_digest_124 : decode cX6_digest 124 = .ok (.goto (-21), 3) := by decide +kernel
theorem dX6_digest_127 : decode cX6_digest 127 = .ok (.iconst 0, 1) := by decide +kernel
theorem dX6_digest_128 : decode cX6_digest 128 = .ok (.istore_n 3, 1) := by decide +kernel
theorem dX6_digest_129 : decode cX6_digest 129 = .ok (.iload_n 3, 1) := by decide +kernel
theorem dX6_digest_130 : decode cX6_digest 130 = .ok (.aload_n 0, 1) := by decide +kernel
theorem dX6_digest_131 : decode cX6_digest 131 = .ok (.getfield 234, 3) := by decide +kernel
theorem dX6_digest_134 : decode cX6_digest 134 = .ok (.if_icmp .ge 23, 3) := by decide +kernel
theorem dX6_digest_137 : decode cX6_digest 137 = .ok (.ldc2_w 305, 3) := by decide +kernel
theorem dX6_digest_140 : decode cX6_digest 140 = .ok (.lload_n 1, 1) := by decide +kernel
theorem dX6_digest_141 : decode cX6_digest 141 = .ok (.lmul, 1) := by decide +kernel
theorem dX6_digest_142 : decode cX6_digest 142 = .ok (.aload_n 0, 1) := by decide +kernel
theorem dX6_digest_143 : decode cX6_digest 143 = .ok (.getfield 32, 3) := by decide +kernel
theorem dX6_digest_146 : decode cX6_digest 146 = .ok (.iload_n 3, 1) := by decide +kernel
theorem dX6_digest_147 : decode cX6_digest 147 = .ok (.iaload, 1) := by decide +kernel
theorem dX6_digest_148 : decode cX6_digest 148 = .ok (.i2l, 1) := by decide +kernel
theorem dX6_digest_149 : decode cX6_digest 149 = .ok (.ladd, 1) := by decide +kernel
theorem dX6_digest_150 : decode cX6_digest 150 = .ok (.lstore_n 1, 1) := by decide +kernel
theorem dX6_digest_151 : decode cX6_digest 151 = .ok (.iinc 3 1, 3) := by decide +kernel
theorem dX6_digest_154 : decode cX6_digest 154 = .ok (.goto (-25), 3) := by decide +kernel
theorem dX6_digest_157 : decode cX6_digest 157 = .ok (.lload_n 1, 1) := by decide +kernel
theorem dX6_digest_158 : decode cX6_digest 158 = .ok (.lreturn, 1) := by decide +kernel
theorem dJ6_bitCount_0f7a4_0 : decode cJ6_bitCount_0f7a4 0 = .ok (.iload_n 0, 1) := by decide +kernel
theorem dJ6_bitCount_0f7a4_1 : decode cJ6_bitCount_0f7a4 1 = .ok (.iload_n 0, 1) := by decide +kernel
theorem dJ6_bitCount_0f7a4_2 : decode cJ6_bitCount_0f7a4 2 = .ok (.iconst 1, 1) := by decide +kernel
theorem dJ6_bitCount_0f7a4_3 : decode cJ6_bitCount_0f7a4 3 = .ok (.iushr, 1) := by decide +kernel
theorem dJ6_bitCount_0f7a4_4 : decode cJ6_bitCount_0f7a4 4 = .ok (.ldc_w 265, 3) := by decide +kernel
theorem dJ6_bitCount_0f7a4_7 : decode cJ6_bitCount_0f7a4 7 = .ok (.iand, 1) := by decide +kernel
theorem dJ6_bitCount_0f7a4_8 : decode cJ6_bitCount_0f7a4 8 = .ok (.isub, 1) := by decide +kernel
theorem dJ6_bitCount_0f7a4_9 : decode cJ6_bitCount_0f7a4 9 = .ok (.istore_n 0, 1) := by decide +kernel
theorem dJ6_bitCount_0f7a4_10 : decode cJ6_bitCount_0f7a4 10 = .ok (.iload_n 0, 1) := by decide +kernel
theorem dJ6_bitCount_0f7a4_11 : decode cJ6_bitCount_0f7a4 11 = .ok (.ldc_w 266, 3) := by decide +kernel
theorem dJ6_bitCount_0f7a4_14 : decode cJ6_bitCount_0f7a4 14 = .ok (.iand, 1) := by decide +kernel
theorem dJ6_bitCount_0f7a4_15 : decode cJ6_bitCount_0f7a4 15 = .ok (.iload_n 0, 1) := by decide +kernel
theorem dJ6_bitCount_0f7a4_16 : decode cJ6_bitCount_0f7a4 16 = .ok (.iconst 2, 1) := by decide +kernel
theorem dJ6_bitCount_0f7a4_17 : decode cJ6_bitCount_0f7a4 17 = .ok (.iushr, 1) := by decide +kernel
theorem dJ6_bitCount_0f7a4_18 : decode cJ6_bitCount_0f7a4 18 = .ok (.ldc_w 266, 3) := by decide +kernel
theorem dJ6_bitCount_0f7a4_21 : decode cJ6_bitCount_0f7a4 21 = .ok (.iand, 1) := by decide +kernel
theorem dJ6_bitCount_0f7a4_22 : decode cJ6_bitCount_0f7a4 22 = .ok (.iadd, 1) := by decide +kernel
theorem dJ6_bitCount_0f7a4_23 : decode cJ6_bitCount_0f7a4 23 = .ok (.istore_n 0, 1) := by decide +kernel
theorem dJ6_bitCount_0f7a4_24 : decode cJ6_bitCount_0f7a4 24 = .ok (.iload_n 0, 1) := by decide +kernel
theorem dJ6_bitCount_0f7a4_25 : decode cJ6_bitCount_0f7a4 25 = .ok (.iload_n 0, 1) := by decide +kernel
theorem dJ6_bitCount_0f7a4_26 : decode cJ6_bitCount_0f7a4 26 = .ok (.iconst 4, 1) := by decide +kernel
theorem dJ6_bitCount_0f7a4_27 : decode cJ6_bitCount_0f7a4 27 = .ok (.iushr, 1) := by decide +kernel
theorem dJ6_bitCount_0f7a4_28 : decode cJ6_bitCount_0f7a4 28 = .ok (.iadd, 1) := by decide +kernel
theorem dJ6_bitCount_0f7a4_29 : decode cJ6_bitCount_0f7a4 29 = .ok (.ldc_w 267, 3) := by decide +kernel
theorem dJ6_bitCount_0f7a4_32 : decode cJ6_bitCount_0f7a4 32 = .ok (.iand, 1) := by decide +kernel
theorem dJ6_bitCount_0f7a4_33 : decode cJ6_bitCount_0f7a4 33 = .ok (.istore_n 0, 1) := by decide +kernel
theorem dJ6_bitCount_0f7a4_34 : decode cJ6_bitCount_0f7a4 34 = .ok (.iload_n 0, 1) := by decide +kernel
theorem dJ6_bitCount_0f7a4_35 : decode cJ6_bitCount_0f7a4 35 = .ok (.iload_n 0, 1) := by decide +kernel
theorem dJ6_bitCount_0f7a4_36 : decode cJ6_bitCount_0f7a4 36 = .ok (.bipush 8, 2) := by decide +kernel
theorem dJ6_bitCount_0f7a4_38 : decode cJ6_bitCount_0f7a4 38 = .ok (.iushr, 1) := by decide +kernel
theorem dJ6_bitCount_0f7a4_39 : decode cJ6_bitCount_0f7a4 39 = .ok (.iadd, 1) := by decide +kernel
theorem dJ6_bitCount_0f7a4_40 : decode cJ6_bitCount_0f7a4 40 = .ok (.istore_n 0, 1) := by decide +kernel
theorem dJ6_bitCount_0f7a4_41 : decode cJ6_bitCount_0f7a4 41 = .ok (.iload_n 0, 1) := by decide +kernel
theorem dJ6_bitCount_0f7a4_42 : decode cJ6_bitCount_0f7a4 42 = .ok (.iload_n 0, 1) := by decide +kernel
theorem dJ6_bitCount_0f7a4_43 : decode cJ6_bitCount_0f7a4 43 = .ok (.bipush 16, 2) := by decide +kernel
theorem dJ6_bitCount_0f7a4_45 : decode cJ6_bitCount_0f7a4 45 = .ok (.iushr, 1) := by decide +kernel
theorem dJ6_bitCount_0f7a4_46 : decode cJ6_bitCount_0f7a4 46 = .ok (.iadd, 1) := by decide +kernel
theorem dJ6_bitCount_0f7a4_47 : decode cJ6_bitCount_0f7a4 47 = .ok (.istore_n 0, 1) := by decide +kernel
theorem dJ6_bitCount_0f7a4_48 : decode cJ6_bitCount_0f7a4 48 = .ok (.iload_n 0, 1) := by decide +kernel
theorem dJ6_bitCount_0f7a4_49 : decode cJ6_bitCount_0f7a4 49 = .ok (.bipush 63, 2) := by decide +kernel
theorem dJ6_bitCount_0f7a4_51 : decode cJ6_bitCount_0f7a4 51 = .ok (.iand, 1) := by decide +kernel
theorem dJ6_bitCount_0f7a4_52 : decode cJ6_bitCount_0f7a4 52 = .ok (.ireturn, 1) := by decide +kernel
theorem dJ13_bitCount_95d88_0 : decode cJ13_bitCount_95d88 0 = .ok (.lload_n 0, 1) := by decide +kernel
theorem dJ13_bitCount_95d88_1 : decode cJ13_bitCount_95d88 1 = .ok (.lload_n 0, 1) := by decide +kernel
theorem dJ13_bitCount_95d88_2 : decode cJ13_bitCount_95d88 2 = .ok (.iconst 1, 1) := by decide +kernel
theorem dJ13_bitCount_95d88_3 : decode cJ13_bitCount_95d88 3 = .ok (.lushr, 1) := by decide +kernel
theorem dJ13_bitCount_95d88_4 : decode cJ13_bitCount_95d88 4 = .ok (.ldc2_w 314, 3) := by decide +kernel
theorem dJ13_bitCount_95d88_7 : decode cJ13_bitCount_95d88 7 = .ok (.land, 1) := by decide +kernel
theorem dJ13_bitCount_95d88_8 : decode cJ13_bitCount_95d88 8 = .ok (.lsub, 1) := by decide +kernel
theorem dJ13_bitCount_95d88_9 : decode cJ13_bitCount_95d88 9 = .ok (.lstore_n 0, 1) := by decide +kernel
theorem dJ13_bitCount_95d88_10 : decode cJ13_bitCount_95d88 10 = .ok (.lload_n 0, 1) := by decide +kernel
theorem dJ13_bitCount_95d88_11 : decode cJ13_bitCount_95d88 11 = .ok (.ldc2_w 316, 3) := by decide +kernel
theorem dJ13_bitCount_95d88_14 : decode cJ13_bitCount_95d88 14 = .ok (.land, 1) := by decide +kernel
theorem dJ13_bitCount_95d88_15 : decode cJ13_bitCount_95d88 15 = .ok (.lload_n 0, 1) := by decide +kernel
theorem dJ13_bitCount_95d88_16 : decode cJ13_bitCount_95d88 16 = .ok (.iconst 2, 1) := by decide +kernel
theorem dJ13_bitCount_95d88_17 : decode cJ13_bitCount_95d88 17 = .ok (.lushr, 1) := by decide +kernel
theorem dJ13_bitCount_95d88_18 : decode cJ13_bitCount_95d88 18 = .ok (.ldc2_w 316, 3) := by decide +kernel
theorem dJ13_bitCount_95d88_21 : decode cJ13_bitCount_95d88 21 = .ok (.land, 1) := by decide +kernel
theorem dJ13_bitCount_95d88_22 : decode cJ13_bitCount_95d88 22 = .ok (.ladd, 1) := by decide +kernel
theorem dJ13_bitCount_95d88_23 : decode cJ13_bitCount_95d88 23 = .ok (.lstore_n 0, 1) := by decide +kernel
theorem dJ13_bitCount_95d88_24 : decode cJ13_bitCount_95d88 24 = .ok (.lload_n 0, 1) := by decide +kernel
theorem dJ13_bitCount_95d88_25 : decode cJ13_bitCount_95d88 25 = .ok (.lload_n 0, 1) := by decide +kernel
theorem dJ13_bitCount_95d88_26 : decode cJ13_bitCount_95d88 26 = .ok (.iconst 4, 1) := by decide +kernel
theorem dJ13_bitCount_95d88_27 : decode cJ13_bitCount_95d88 27 = .ok (.lushr, 1) := by decide +kernel
theorem dJ13_bitCount_95d88_28 : decode cJ13_bitCount_95d88 28 = .ok (.ladd, 1) := by decide +kernel
theorem dJ13_bitCount_95d88_29 : decode cJ13_bitCount_95d88 29 = .ok (.ldc2_w 318, 3) := by decide +kernel
theorem dJ13_bitCount_95d88_32 : decode cJ13_bitCount_95d88 32 = .ok (.land, 1) := by decide +kernel
theorem dJ13_bitCount_95d88_33 : decode cJ13_bitCount_95d88 33 = .ok (.lstore_n 0, 1) := by decide +kernel
theorem dJ13_bitCount_95d88_34 : decode cJ13_bitCount_95d88 34 = .ok (.lload_n 0, 1) := by decide +kernel
theorem dJ13_bitCount_95d88_35 : decode cJ13_bitCount_95d88 35 = .ok (.lload_n 0, 1) := by decide +kernel
theorem dJ13_bitCount_95d88_36 : decode cJ13_bitCount_95d88 36 = .ok (.bipush 8, 2) := by decide +kernel
theorem dJ13_bitCount_95d88_38 : decode cJ13_bitCount_95d88 38 = .ok (.lushr, 1) := by decide +kernel
theorem dJ13_bitCount_95d88_39 : decode cJ13_bitCount_95d88 39 = .ok (.ladd, 1) := by decide +kernel
theorem dJ13_bitCount_95d88_40 : decode cJ13_bitCount_95d88 40 = .ok (.lstore_n 0, 1) := by decide +kernel
theorem dJ13_bitCount_95d88_41 : decode cJ13_bitCount_95d88 41 = .ok (.lload_n 0, 1) := by decide +kernel
theorem dJ13_bitCount_95d88_42 : decode cJ13_bitCount_95d88 42 = .ok (.lload_n 0, 1) := by decide +kernel
theorem dJ13_bitCount_95d88_43 : decode cJ13_bitCount_95d88 43 = .ok (.bipush 16, 2) := by decide +kernel
theorem dJ13_bitCount_95d88_45 : decode cJ13_bitCount_95d88 45 = .ok (.lushr, 1) := by decide +kernel
theorem dJ13_bitCount_95d88_46 : decode cJ13_bitCount_95d88 46 = .ok (.ladd, 1) := by decide +kernel
theorem dJ13_bitCount_95d88_47 : decode cJ13_bitCount_95d88 47 = .ok (.lstore_n 0, 1) := by decide +kernel
theorem dJ13_bitCount_95d88_48 : decode cJ13_bitCount_95d88 48 = .ok (.lload_n 0, 1) := by decide +kernel
theorem dJ13_bitCount_95d88_49 : decode cJ13_bitCount_95d88 49 = .ok (.lload_n 0, 1) := by decide +kernel
theorem dJ13_bitCount_95d88_50 : decode cJ13_bitCount_95d88 50 = .ok (.bipush 32, 2) := by decide +kernel
theorem dJ13_bitCount_95d88_52 : decode cJ13_bitCount_95d88 52 = .ok (.lushr, 1) := by decide +kernel
theorem dJ13_bitCount_95d88_53 : decode cJ13_bitCount_95d88 53 = .ok (.ladd, 1) := by decide +kernel
theorem dJ13_bitCount_95d88_54 : decode cJ13_bitCount_95d88 54 = .ok (.lstore_n 0, 1) := by decide +kernel
theorem dJ13_bitCount_95d88_55 : decode cJ13_bitCount_95d88 55 = .ok (.lload_n 0, 1) := by decide +kernel
theorem dJ13_bitCount_95d88_56 : decode cJ13_bitCount_95d88 56 = .ok (.l2i, 1) := by decide +kernel
theorem dJ13_bitCount_95d88_57 : decode cJ13_bitCount_95d88 57 = .ok (.bipush 127, 2) := by decide +kernel
theorem dJ13_bitCount_95d88_59 : decode cJ13_bitCount_95d88 59 = .ok (.iand, 1) := by decide +kernel
theorem dJ13_bitCount_95d88_60 : decode cJ13_bitCount_95d88 60 = .ok (.ireturn, 1) := by decide +kernel
theorem dJ9_abs_0f7a4_0 : decode cJ9_abs_0f7a4 0 = .ok (.iload_n 0, 1) := by decide +kernel
theorem dJ9_abs_0f7a4_1 : decode cJ9_abs_0f7a4 1 = .ok (.ifCond .ge 8, 3) := by decide +kernel
theorem dJ9_abs_0f7a4_4 : decode cJ9_abs_0f7a4 4 = .ok (.iload_n 0, 1) := by decide +kernel
theorem dJ9_abs_0f7a4_5 : decode cJ9_abs_0f7a4 5 = .ok (.ineg, 1) := by decide +kernel
theorem dJ9_abs_0f7a4_6 : decode cJ9_abs_0f7a4 6 = .ok (.goto 4, 3) := by decide +kernel
theorem dJ9_abs_0f7a4_9 : decode cJ9_abs_0f7a4 9 = .ok (.iload_n 0, 1) := by decide +kernel
theorem dJ9_abs_0f7a4_10 : decode cJ9_abs_0f7a4 10 = .ok (.ireturn, 1) := by decide +kernel
theorem dJ9_abs_067f4_0 : decode cJ9_abs_067f4 0 = .ok (.lload_n 0, 1) := by decide +kernel
theorem dJ9_abs_067f4_1 : decode cJ9_abs_067f4 1 = .ok (.lconst 0, 1) := by decide +kernel
theorem dJ9_abs_067f4_2 : decode cJ9_abs_067f4 2 = .ok (.lcmp, 1) := by decide +kernel
theorem dJ9_abs_067f4_3 : decode cJ9_abs_067f4 3 = .ok (.ifCond .ge 8, 3) := by decide +kernel
theorem dJ9_abs_067f4_6 : decode cJ9_abs_067f4 6 = .ok (.lload_n 0, 1) := by decide +kernel
theorem dJ9_abs_067f4_7 : decode cJ9_abs_067f4 7 = .ok (.lneg, 1) := by decide +kernel
theorem dJ9_abs_067f4_8 : decode cJ9_abs_067f4 8 = .ok (.goto 4, 3) := by decide +kernel
theorem dJ9_abs_067f4_11 : decode cJ9_abs_067f4 11 = .ok (.lload_n 0, 1) := by decide +kernel
theorem dJ9_abs_067f4_12 : decode cJ9_abs_067f4 12 = .ok (.lreturn, 1) := by decide +kernel
theorem dJ9_max_7cf53_0 : decode cJ9_max_7cf53 0 = .ok (.iload_n 0, 1) := by decide +kernel
theorem dJ9_max_7cf53_1 : decode cJ9_max_7cf53 1 = .ok (.iload_n 1, 1) := by decide +kernel
theorem dJ9_max_7cf53_2 : decode cJ9_max_7cf53 2 = .ok (.if_icmp .lt 7, 3) := by decide +kernel
theorem dJ9_max_7cf53_5 : decode cJ9_max_7cf53 5 = .ok (.iload_n 0, 1) := by decide +kernel
theorem dJ9_max_7cf53_6 : decode cJ9_max_7cf53 6 = .ok (.goto 4, 3) := by decide +kernel
theorem dJ9_max_7cf53_9 : decode cJ9_max_7cf53 9 = .ok (.iload_n 1, 1) := by decide +kernel
theorem dJ9_max_7cf53_10 : decode cJ9_max_7cf53 10 = .ok (.ireturn, 1) := by decide +kernel
theorem dJ9_min_7cf53_0 : decode cJ9_min_7cf53 0 = .ok (.iload_n 0, 1) := by decide +kernel
theorem dJ9_min_7cf53_1 : decode cJ9_min_7cf53 1 = .ok (.iload_n 1, 1) := by decide +kernel
theorem dJ9_min_7cf53_2 : decode cJ9_min_7cf53 2 = .ok (.if_icmp .gt 7, 3) := by decide +kernel
theorem dJ9_min_7cf53_5 : decode cJ9_min_7cf53 5 = .ok (.iload_n 0, 1) := by decide +kernel
theorem dJ9_min_7cf53_6 : decode cJ9_min_7cf53 6 = .ok (.goto 4, 3) := by decide +kernel
theorem dJ9_min_7cf53_9 : decode cJ9_min_7cf53 9 = .ok (.iload_n 1, 1) := by decide +kernel
theorem dJ9_min_7cf53_10 : decode cJ9_min_7cf53 10 = .ok (.ireturn, 1) := by decide +kernel
theorem dJ9_min_f86c9_0 : decode cJ9_min_f86c9 0 = .ok (.lload_n 0, 1) := by decide +kernel
theorem dJ9_min_f86c9_1 : decode cJ9_min_f86c9 1 = .ok (.lload_n 2, 1) := by decide +kernel
theorem dJ9_min_f86c9_2 : decode cJ9_min_f86c9 2 = .ok (.lcmp, 1) := by decide +kernel
theorem dJ9_min_f86c9_3 : decode cJ9_min_f86c9 3 = .ok (.ifCond .gt 7, 3) := by decide +kernel
theorem dJ9_min_f86c9_6 : decode cJ9_min_f86c9 6 = .ok (.lload_n 0, 1) := by decide +kernel
theorem dJ9_min_f86c9_7 : decode cJ9_min_f86c9 7 = .ok (.goto 4, 3) := by decide +kernel
theorem dJ9_min_f86c9_10 : decode cJ9_min_f86c9 10 = .ok (.lload_n 2, 1) := by decide +kernel
theorem dJ9_min_f86c9_11 : decode cJ9_min_f86c9 11 = .ok (.lreturn, 1) := by decide +kernel
theorem dJ0_length_8abf5_0 : decode cJ0_length_8abf5 0 = .ok (.aload_n 0, 1) := by decide +kernel
theorem dJ0_length_8abf5_1 : decode cJ0_length_8abf5 1 = .ok (.getfield 9, 3) := by decide +kernel
theorem dJ0_length_8abf5_4 : decode cJ0_length_8abf5 4 = .ok (.arraylength, 1) := by decide +kernel
theorem dJ0_length_8abf5_5 : decode cJ0_length_8abf5 5 = .ok (.aload_n 0, 1) := by decide +kernel
theorem dJ0_length_8abf5_6 : decode cJ0_length_8abf5 6 = .ok (.invokevirtual 335, 3) := by decide +kernel
theorem dJ0_length_8abf5_9 : decode cJ0_length_8abf5 9 = .ok (.ishr, 1) := by decide +kernel
theorem dJ0_length_8abf5_10 : decode cJ0_length_8abf5 10 = .ok (.ireturn, 1) := by decide +kernel
theorem dJ0_charAt_5068e_0 : decode cJ0_charAt_5068e 0 = .ok (.aload_n 0, 1) := by decide +kernel
theorem dJ0_charAt_5068e_1 : decode cJ0_charAt_5068e 1 = .ok (.invokevirtual 492, 3) := by decide +kernel
theorem dJ0_charAt_5068e_4 : decode cJ0_charAt_5068e 4 = .ok (.ifCond .eq 12, 3) := by decide +kernel
theorem dJ0_charAt_5068e_7 : decode cJ0_charAt_5068e 7 = .ok (.aload_n 0, 1) := by decide +kernel
theorem dJ0_charAt_5068e_8 : decode cJ0_charAt_5068e 8 = .ok (.getfield 9, 3) := by decide +kernel
theorem dJ0_charAt_5068e_11 : decode cJ0_charAt_5068e 11 = .ok (.iload_n 1, 1) := by decide +kernel
theorem dJ0_charAt_5068e_12 : decode cJ0_charAt_5068e 12 = .ok (.invokestatic 495, 3) := by decide +kernel
theorem dJ0_charAt_5068e_15 : decode cJ0_charAt_5068e 15 = .ok (.ireturn, 1) := by decide +kernel
theorem dJ0_charAt_5068e_16 : decode cJ0_charAt_5068e 16 = .ok (.aload_n 0, 1) := by decide +kernel
theorem dJ0_charAt_5068e_17 : decode cJ0_charAt_5068e 17 = .ok (.getfield 9, 3) := by decide +kernel
theorem dJ0_charAt_5068e_20 : decode cJ0_charAt_5068e 20 = .ok (.iload_n 1, 1) := by decide +kernel
theorem dJ0_charAt_5068e_21 : decode cJ0_charAt_5068e 21 = .ok (.invokestatic 498, 3) := by decide +kernel
theorem dJ0_charAt_5068e_24 : decode cJ0_charAt_5068e 24 = .ok (.ireturn, 1) := by decide +kernel
theorem dJ0_coder_7d493_0 : decode cJ0_coder_7d493 0 = .ok (.getstatic 38, 3) := by decide +kernel
theorem dJ0_coder_7d493_3 : decode cJ0_coder_7d493 3 = .ok (.ifCond .eq 10, 3) := by decide +kernel
theorem dJ0_coder_7d493_6 : decode cJ0_coder_7d493 6 = .ok (.aload_n 0, 1) := by decide +kernel
theorem dJ0_coder_7d493_7 : decode cJ0_coder_7d493 7 = .ok (.getfield 15, 3) := by decide +kernel
theorem dJ0_coder_7d493_10 : decode cJ0_coder_7d493 10 = .ok (.goto 4, 3) := by decide +kernel
theorem dJ0_coder_7d493_13 : decode cJ0_coder_7d493 13 = .ok (.iconst 1, 1) := by decide +kernel
theorem dJ0_coder_7d493_14 : decode cJ0_coder_7d493 14 = .ok (.ireturn, 1) := by decide +kernel
theorem dJ0_isLatin1_aae02_0 : decode cJ0_isLatin1_aae02 0 = .ok (.getstatic 38, 3) := by decide +kernel
theorem dJ0_isLatin1_aae02_3 : decode cJ0_isLatin1_aae02 3 = .ok (.ifCond .eq 14, 3) := by decide +kernel
theorem dJ0_isLatin1_aae02_6 : decode cJ0_isLatin1_aae02 6 = .ok (.aload_n 0, 1) := by decide +kernel
theorem dJ0_isLatin1_aae02_7 : decode cJ0_isLatin1_aae02 7 = .ok (.getfield 15, 3) := by decide +kernel
theorem dJ0_isLatin1_aae02_10 : decode cJ0_isLatin1_aae02 10 = .ok (.ifCond .ne 7, 3) := by decide +kernel
theorem dJ0_isLatin1_aae02_13 : decode cJ0_isLatin1_aae02 13 = .ok (.iconst 1, 1) := by decide +kernel
theorem dJ0_isLatin1_aae02_14 : decode cJ0_isLatin1_aae02 14 = .ok (.goto 4, 3) := by decide +kernel
theorem dJ0_isLatin1_aae02_17 : decode cJ0_isLatin1_aae02 17 = .ok (.iconst 0, 1) := by decide +kernel
theorem dJ0_isLatin1_aae02_18 : decode cJ0_isLatin1_aae02 18 = .ok (.ireturn, 1) := by decide +kernel
theorem dJ0_checkIndex_df160_0 : decode cJ0_checkIndex_df160 0 = .ok (.iload_n 0, 1) := by decide +kernel
theorem dJ0_checkIndex_df160_1 : decode cJ0_checkIndex_df160 1 = .ok (.iload_n 1, 1) := by decide +kernel
theorem dJ0_checkIndex_df160_2 : decode cJ0_checkIndex_df160 2 = .ok (.getstatic 1053, 3) := by decide +kernel
theorem dJ0_checkIndex_df160_5 : decode cJ0_checkIndex_df160 5 = .ok (.invokestatic 1059, 3) := by decide +kernel
theorem dJ0_checkIndex_df160_8 : decode cJ0_checkIndex_df160 8 = .ok (.pop, 1) := by decide +kernel
theorem dJ0_checkIndex_df160_9 : decode cJ0_checkIndex_df160 9 = .ok (.return_, 1) := by decide +kernel
theorem dJ1_charAt_3b067_0 : decode cJ1_charAt_3b067 0 = .ok (.iload_n 1, 1) := by decide +kernel
theorem dJ1_charAt_3b067_1 : decode cJ1_charAt_3b067 1 = .ok (.aload_n 0, 1) := by decide +kernel
theorem dJ1_charAt_3b067_2 : decode cJ1_charAt_3b067 2 = .ok (.arraylength, 1) := by decide +kernel
theorem dJ1_charAt_3b067_3 : decode cJ1_charAt_3b067 3 = .ok (.invokestatic 9, 3) := by decide +kernel
theorem dJ1_charAt_3b067_6 : decode cJ1_charAt_3b067 6 = .ok (.aload_n 0, 1) := by decide +kernel
theorem dJ1_charAt_3b067_7 : decode cJ1_charAt_3b067 7 = .ok (.iload_n 1, 1) := by decide +kernel
theorem dJ1_charAt_3b067_8 : decode cJ1_charAt_3b067 8 = .ok (.baload, 1) := by decide +kernel
theorem dJ1_charAt_3b067_9 : decode cJ1_charAt_3b067 9 = .ok (.sipush 255, 3) := by decide +kernel
theorem dJ1_charAt_3b067_12 : decode cJ1_charAt_3b067 12 = .ok (.iand, 1) := by decide +kernel
theorem dJ1_charAt_3b067_13 : decode cJ1_charAt_3b067 13 = .ok (.i2c, 1) := by decide +kernel
theorem dJ1_charAt_3b067_14 : decode cJ1_charAt_3b067 14 = .ok (.ireturn, 1) := by decide +kernel
theorem dJ2_getChar_3b067_0 : decode cJ2_getChar_3b067 0 = .ok (.getstatic 44, 3) := by decide +kernel
theorem dJ2_getChar_3b067_3 : decode cJ2_getChar_3b067 3 = .ok (.ifCond .ne 25, 3) := by decide +kernel
theorem dJ2_getChar_3b067_6 : decode cJ2_getChar_3b067 6 = .ok (.iload_n 1, 1) := by decide +kernel
theorem dJ2_getChar_3b067_7 : decode cJ2_getChar_3b067 7 = .ok (.ifCond .lt 11, 3) := by decide +kernel
theorem dJ2_getChar_3b067_10 : decode cJ2_getChar_3b067 10 = .ok (.iload_n 1, 1) := by decide +kernel
theorem dJ2_getChar_3b067_11 : decode cJ2_getChar_3b067 11 = .ok (.aload_n 0, 1) := by decide +kernel
theorem dJ2_getChar_3b067_12 : decode cJ2_getChar_3b067 12 = .ok (.invokestatic 48, 3) := by decide +kernel
theorem dJ2_getChar_3b067_15 : decode cJ2_getChar_3b067 15 = .ok (.if_icmp .lt 13, 3) := by decide +kernel
theorem dJ2_getChar_3b067_18 : decode cJ2_getChar_3b067 18 = .ok (.new 52, 3) := by decide +kernel
theorem dJ2_getChar_3b067_21 : decode cJ2_getChar_3b067 21 = .ok (.dup, 1) := by decide +kernel
theorem dJ2_getChar_3b067_22 : decode cJ2_getChar_3b067 22 = .ok (.ldc 54, 2) := by decide +kernel
theorem dJ2_getChar_3b067_24 : decode cJ2_getChar_3b067 24 = .ok (.invokespecial 56, 3) := by decide +kernel
theorem dJ2_getChar_3b067_27 : decode cJ2_getChar_3b067 27 = .ok (.athrow, 1) := by decide +kernel
theorem dJ2_getChar_3b067_28 : decode cJ2_getChar_3b067 28 = .ok (.iload_n 1, 1) := by decide +kernel
theorem dJ2_getChar_3b067_29 : decode cJ2_getChar_3b067 29 = .ok (.iconst 1, 1) := by decide +kernel
theorem dJ2_getChar_3b067_30 : decode cJ2_getChar_3b067 30 = .ok (.ishl, 1) := by decide +kernel
theorem dJ2_getChar_3b067_31 : decode cJ2_getChar_3b067 31 = .ok (.istore_n 1, 1) := by decide +kernel
theorem dJ2_getChar_3b067_32 : decode cJ2_getChar_3b067 32 = .ok (.aload_n 0, 1) := by decide +kernel
theorem dJ2_getChar_3b067_33 : decode cJ2_getChar_3b067 33 = .ok (.iload_n 1, 1) := by decide +kernel
theorem dJ2_getChar_3b067_34 : decode cJ2_getChar_3b067 34 = .ok (.iinc 1 1, 3) := by decide +kernel
theorem dJ2_getChar_3b067_37 : decode cJ2_getChar_3b067 37 = .ok (.baload, 1) := by decide +kernel
theorem dJ2_getChar_3b067_38 : decode cJ2_getChar_3b067 38 = .ok (.sipush 255, 3) := by decide +kernel
theorem dJ2_getChar_3b067_41 : decode cJ2_getChar_3b067 41 = .ok (.iand, 1) := by decide +kernel
theorem dJ2_getChar_3b067_42 : decode cJ2_getChar_3b067 42 = .ok (.getstatic 59, 3) := by decide +kernel
theorem dJ2_getChar_3b067_45 : decode cJ2_getChar_3b067 45 = .ok (.ishl, 1) := by decide +kernel
theorem dJ2_getChar_3b067_46 : decode cJ2_getChar_3b067 46 = .ok (.aload_n 0, 1) := by decide +kernel
theorem dJ2_getChar_3b067_47 : decode cJ2_getChar_3b067 47 = .ok (.iload_n 1, 1) := by decide +kernel
theorem dJ2_getChar_3b067_48 : decode cJ2_getChar_3b067 48 = .ok (.baload, 1) := by decide +kernel
theorem dJ2_getChar_3b067_49 : decode cJ2_getChar_3b067 49 = .ok (.sipush 255, 3) := by decide +kernel
theorem dJ2_getChar_3b067_52 : decode cJ2_getChar_3b067 52 = .ok (.iand, 1) := by decide +kernel
theorem dJ2_getChar_3b067_53 : decode cJ2_getChar_3b067 53 = .ok (.getstatic 63, 3) := by decide +kernel
theorem dJ2_getChar_3b067_56 : decode cJ2_getChar_3b067 56 = .ok (.ishl, 1) := by decide +kernel
theorem dJ2_getChar_3b067_57 : decode cJ2_getChar_3b067 57 = .ok (.ior, 1) := by decide +kernel
theorem dJ2_getChar_3b067_58 : decode cJ2_getChar_3b067 58 = .ok (.i2c, 1) := by decide +kernel
theorem dJ2_getChar_3b067_59 : decode cJ2_getChar_3b067 59 = .ok (.ireturn, 1) := by decide +kernel
theorem dJ2_length_9d52b_0 : decode cJ2_length_9d52b 0 = .ok (.aload_n 0, 1) := by decide +kernel
theorem dJ2_length_9d52b_1 : decode cJ2_length_9d52b 1 = .ok (.arraylength, 1) := by decide +kernel
theorem dJ2_length_9d52b_2 : decode cJ2_length_9d52b 2 = .ok (.iconst 1, 1) := by decide +kernel
theorem dJ2_length_9d52b_3 : decode cJ2_length_9d52b 3 = .ok (.ishr, 1) := by decide +kernel
theorem dJ2_length_9d52b_4 : decode cJ2_length_9d52b 4 = .ok (.ireturn, 1) := by decide +kernel
theorem dJ2_charAt_3b067_0 : decode cJ2_charAt_3b067 0 = .ok (.iload_n 1, 1) := by decide +kernel
theorem dJ2_charAt_3b067_1 : decode cJ2_charAt_3b067 1 = .ok (.aload_n 0, 1) := by decide +kernel
theorem dJ2_charAt_3b067_2 : decode cJ2_charAt_3b067 2 = .ok (.invokestatic 67, 3) := by decide +kernel
theorem dJ2_charAt_3b067_5 : decode cJ2_charAt_3b067 5 = .ok (.aload_n 0, 1) := by decide +kernel
theorem dJ2_charAt_3b067_6 : decode cJ2_charAt_3b067 6 = .ok (.iload_n 1, 1) := by decide +kernel
theorem dJ2_charAt_3b067_7 : decode cJ2_charAt_3b067 7 = .ok (.invokestatic 71, 3) := by decide +kernel
theorem dJ2_charAt_3b067_10 : decode cJ2_charAt_3b067 10 = .ok (.ireturn, 1) := by decide +kernel
theorem dJ2_checkIndex_2214a_0 : decode cJ2_checkIndex_2214a 0 = .ok (.iload_n 0, 1) := by decide +kernel
theorem dJ2_checkIndex_2214a_1 : decode cJ2_checkIndex_2214a 1 = .ok (.aload_n 1, 1) := by decide +kernel
theorem dJ2_checkIndex_2214a_2 : decode cJ2_checkIndex_2214a 2 = .ok (.invokestatic 48, 3) := by decide +kernel
theorem dJ2_checkIndex_2214a_5 : decode cJ2_checkIndex_2214a 5 = .ok (.invokestatic 414, 3) := by decide +kernel
theorem dJ2_checkIndex_2214a_8 : decode cJ2_checkIndex_2214a 8 = .ok (.return_, 1) := by decide +kernel
theorem dJ7_fill_d0a16_0 : decode cJ7_fill_d0a16 0 = .ok (.iconst 0, 1) := by decide +kernel
theorem dJ7_fill_d0a16_1 : decode cJ7_fill_d0a16 1 = .ok (.istore_n 3, 1) := by decide +kernel
theorem dJ7_fill_d0a16_2 : decode cJ7_fill_d0a16 2 = .ok (.aload_n 0, 1) := by decide +kernel
theorem dJ7_fill_d0a16_3 : decode cJ7_fill_d0a16 3 = .ok (.arraylength, 1) := by decide +kernel
theorem dJ7_fill_d0a16_4 : decode cJ7_fill_d0a16 4 = .ok (.istore 4, 2) := by decide +kernel
theorem dJ7_fill_d0a16_6 : decode cJ7_fill_d0a16 6 = .ok (.iload_n 3, 1) := by decide +kernel
theorem dJ7_fill_d0a16_7 : decode cJ7_fill_d0a16 7 = .ok (.iload 4, 2) := by decide +kernel
theorem dJ7_fill_d0a16_9 : decode cJ7_fill_d0a16 9 = .ok (.if_icmp .ge 13, 3) := by decide +kernel
theorem dJ7_fill_d0a16_12 : decode cJ7_fill_d0a16 12 = .ok (.aload_n 0, 1) := by decide +kernel
theorem dJ7_fill_d0a16_13 : decode cJ7_fill_d0a16 13 = .ok (.iload_n 3, 1) := by decide +kernel
theorem dJ7_fill_d0a16_14 : decode cJ7_fill_d0a16 14 = .ok (.lload_n 1, 1) := by decide +kernel
theorem dJ7_fill_d0a16_15 : decode cJ7_fill_d0a16 15 = .ok (.lastore, 1) := by decide +kernel
theorem dJ7_fill_d0a16_16 : decode cJ7_fill_d0a16 16 = .ok (.iinc 3 1, 3) := by decide +kernel
theorem dJ7_fill_d0a16_19 : decode cJ7_fill_d0a16 19 = .ok (.goto (-13), 3) := by decide +kernel
theorem dJ7_fill_d0a16_22 : decode cJ7_fill_d0a16 22 = .ok (.return_, 1) := by decide +kernel
theorem dJ3_checkIndex_8e157_0 : decode cJ3_checkIndex_8e157 0 = .ok (.iload_n 0, 1) := by decide +kernel
theorem dJ3_checkIndex_8e157_1 : decode cJ3_checkIndex_8e157 1 = .ok (.ifCond .lt 8, 3) := by decide +kernel
theorem dJ3_checkIndex_8e157_4 : decode cJ3_checkIndex_8e157 4 = .ok (.iload_n 0, 1) := by decide +kernel
theorem dJ3_checkIndex_8e157_5 : decode cJ3_checkIndex_8e157 5 = .ok (.iload_n 1, 1) := by decide +kernel
theorem dJ3_checkIndex_8e157_6 : decode cJ3_checkIndex_8e157 6 = .ok (.if_icmp .lt 10, 3) := by decide +kernel
theorem dJ3_checkIndex_8e157_9 : decode cJ3_checkIndex_8e157 9 = .ok (.aload_n 2, 1) := by decide +kernel
theorem dJ3_checkIndex_8e157_10 : decode cJ3_checkIndex_8e157 10 = .ok (.iload_n 0, 1) := by decide +kernel
theorem dJ3_checkIndex_8e157_11 : decode cJ3_checkIndex_8e157 11 = .ok (.iload_n 1, 1) := by decide +kernel
theorem dJ3_checkIndex_8e157_12 : decode cJ3_checkIndex_8e157 12 = .ok (.invokestatic 95, 3) := by decide +kernel
theorem dJ3_checkIndex_8e157_15 : decode cJ3_checkIndex_8e157 15 = .ok (.athrow, 1) := by decide +kernel
theorem dJ3_checkIndex_8e157_16 : decode cJ3_checkIndex_8e157 16 = .ok (.iload_n 0, 1) := by decide +kernel
theorem dJ3_checkIndex_8e157_17 : decode cJ3_checkIndex_8e157 17 = .ok (.ireturn, 1) := by decide +kernel
