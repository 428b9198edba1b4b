theorem dX0_init_0 : decode cX0_init 0 = .ok (.aload_n 0, 1) := by decide +kernel
theorem dX0_init_1 : decode cX0_init 1 = .ok (.invokespecial 3, 3) := by decide +kernel
theorem dX0_init_4 : decode cX0_init 4 = .ok (.aload_n 0, 1) := by decide +kernel
theorem dX0_init_5 : decode cX0_init 5 = .ok (.sipush 300, 3) := by decide +kernel
theorem dX0_init_8 : decode cX0_init 8 = .ok (.newarray .int, 2) := by decide +kernel
theorem dX0_init_10 : decode cX0_init 10 = .ok (.putfield 9, 3) := by decide +kernel
theorem dX0_init_13 : decode cX0_init 13 = .ok (.aload_n 0, 1) := by decide +kernel
theorem dX0_init_14 : decode cX0_init 14 = .ok (.sipush 300, 3) := by decide +kernel
theorem dX0_init_17 : decode cX0_init 17 = .ok (.newarray .int, 2) := by decide +kernel
theorem dX0_init_19 : decode cX0_init 19 = .ok (.putfield 15, 3) := by decide +kernel
theorem dX0_init_22 : decode cX0_init 22 = .ok (.aload_n 0, 1) := by decide +kernel
theorem dX0_init_23 : decode cX0_init 23 = .ok (.sipush 300, 3) := by decide +kernel
theorem dX0_init_26 : decode cX0_init 26 = .ok (.newarray .int, 2) := by decide +kernel
theorem dX0_init_28 : decode cX0_init 28 = .ok (.putfield 18, 3) := by decide +kernel
theorem dX0_init_31 : decode cX0_init 31 = .ok (.aload_n 0, 1) := by decide +kernel
theorem dX0_init_32 : decode cX0_init 32 = .ok (.iconst 0, 1) := by decide +kernel
theorem dX0_init_33 : decode cX0_init 33 = .ok (.putfield 21, 3) := by decide +kernel
theorem dX0_init_36 : decode cX0_init 36 = .ok (.return_, 1) := by decide +kernel
theorem dX0_clear_0 : decode cX0_clear 0 = .ok (.aload_n 0, 1) := by decide +kernel
theorem dX0_clear_1 : decode cX0_clear 1 = .ok (.iconst 0, 1) := by decide +kernel
theorem dX0_clear_2 : decode cX0_clear 2 = .ok (.putfield 21, 3) := by decide +kernel
theorem dX0_clear_5 : decode cX0_clear 5 = .ok (.return_, 1) := by decide +kernel
theorem dX0_add_0 : decode cX0_add 0 = .ok (.aload_n 0, 1) := by decide +kernel
theorem dX0_add_1 : decode cX0_add 1 = .ok (.getfield 21, 3) := by decide +kernel
theorem dX0_add_4 : decode cX0_add 4 = .ok (.ifCond .lt 69, 3) := by decide +kernel
theorem dX0_add_7 : decode cX0_add 7 = .ok (.aload_n 0, 1) := by decide +kernel
theorem dX0_add_8 : decode cX0_add 8 = .ok (.getfield 21, 3) := by decide +kernel
theorem dX0_add_11 : decode cX0_add 11 = .ok (.aload_n 0, 1) := by decide +kernel
theorem dX0_add_12 : decode cX0_add 12 = .ok (.getfield 9, 3) := by decide +kernel
theorem dX0_add_15 : decode cX0_add 15 = .ok (.arraylength, 1) := by decide +kernel
theorem dX0_add_16 : decode cX0_add 16 = .ok (.if_icmp .ge 57, 3) := by decide +kernel
theorem dX0_add_19 : decode cX0_add 19 = .ok (.aload_n 0, 1) := by decide +kernel
theorem dX0_add_20 : decode cX0_add 20 = .ok (.getfield 21, 3) := by decide +kernel
theorem dX0_add_23 : decode cX0_add 23 = .ok (.aload_n 0, 1) := by decide +kernel
theorem dX0_add_24 : decode cX0_add 24 = .ok (.getfield 15, 3) := by decide +kernel
theorem dX0_add_27 : decode cX0_add 27 = .ok (.arraylength, 1) := by decide +kernel
theorem dX0_add_28 : decode cX0_add 28 = .ok (.if_icmp .ge 45, 3) := by decide +kernel
theorem dX0_add_31 : decode cX0_add 31 = .ok (.aload_n 0, 1) := by decide +kernel
theorem dX0_add_32 : decode cX0_add 32 = .ok (.getfield 21, 3) := by decide +kernel
theorem dX0_add_35 : decode cX0_add 35 = .ok (.aload_n 0, 1) := by decide +kernel
theorem dX0_add_36 : decode cX0_add 36 = .ok (.getfield 18, 3) := by decide +kernel
theorem dX0_add_39 : decode cX0_add 39 = .ok (.arraylength, 1) := by decide +kernel
theorem dX0_add_40 : decode cX0_add 40 = .ok (.if_icmp .ge 33, 3) := by decide +kernel
theorem dX0_add_43 : decode cX0_add 43 = .ok (.aload_n 0, 1) := by decide +kernel
theorem dX0_add_44 : decode cX0_add 44 = .ok (.getfield 9, 3) := by decide +kernel
theorem dX0_add_47 : decode cX0_add 47 = .ok (.aload_n 0, 1) := by decide +kernel
theorem dX0_add_48 : decode cX0_add 48 = .ok (.getfield 21, 3) := by decide +kernel
theorem dX0_add_51 : decode cX0_add 51 = .ok (.iload_n 1, 1) := by decide +kernel
theorem dX0_add_52 : decode cX0_add 52 = .ok (.iastore, 1) := by decide +kernel
theorem dX0_add_53 : decode cX0_add 53 = .ok (.aload_n 0, 1) := by decide +kernel
theorem dX0_add_54 : decode cX0_add 54 = .ok (.getfield 15, 3) := by decide +kernel
theorem dX0_add_57 : decode cX0_add 57 = .ok (.aload_n 0, 1) := by decide +kernel
theorem dX0_add_58 : decode cX0_add 58 = .ok (.getfield 21, 3) := by decide +kernel
theorem dX0_add_61 : decode cX0_add 61 = .ok (.iload_n 2, 1) := by decide +kernel
theorem dX0_add_62 : decode cX0_add 62 = .ok (.iastore, 1) := by decide +kernel
theorem dX0_add_63 : decode cX0_add 63 = .ok (.aload_n 0, 1) := by decide +kernel
theorem dX0_add_64 : decode cX0_add 64 = .ok (.getfield 18, 3) := by decide +kernel
theorem dX0_add_67 : decode cX0_add 67 = .ok (.aload_n 0, 1) := by decide +kernel
theorem dX0_add_68 : decode cX0_add 68 = .ok (.getfield 21, 3) := by decide +kernel
theorem dX0_add_71 : decode cX0_add 71 = .ok (.iload_n 3, 1) := by decide +kernel
theorem dX0_add_72 : decode cX0_add 72 = .ok (.iastore, 1) := by decide +kernel
theorem dX0_add_73 : decode cX0_add 73 = .ok (.aload_n 0, 1) := by decide +kernel
theorem dX0_add_74 : decode cX0_add 74 = .ok (.dup, 1) := by decide +kernel
theorem dX0_add_75 : decode cX0_add 75 = .ok (.getfield 21, 3) := by decide +kernel
theorem dX0_add_78 : decode cX0_add 78 = .ok (.iconst 1, 1) := by decide +kernel
theorem dX0_add_79 : decode cX0_add 79 = .ok (.iadd, 1) := by decide +kernel
theorem dX0_add_80 : decode cX0_add 80 = .ok (.putfield 21, 3) := by decide +kernel
theorem dX0_add_83 : decode cX0_add 83 = .ok (.return_, 1) := by decide +kernel
theorem dX0_read_0 : decode cX0_read 0 = .ok (.iload_n 1, 1) := by decide +kernel
theorem dX0_read_1 : decode cX0_read 1 = .ok (.ifCond .lt 11, 3) := by decide +kernel
theorem dX0_read_4 : decode cX0_read 4 = .ok (.iload_n 1, 1) := by decide +kernel
theorem dX0_read_5 : decode cX0_read 5 = .ok (.aload_n 0, 1) := by decide +kernel
theorem dX0_read_6 : decode cX0_read 6 = .ok (.getfield 21, 3) := by decide +kernel
theorem dX0_read_9 : decode cX0_read 9 = .ok (.if_icmp .lt 5, 3) := by decide +kernel
theorem dX0_read_12 : decode cX0_read 12 = .ok (.iconst (-1), 1) := by decide +kernel
theorem dX0_read_13 : decode cX0_read 13 = .ok (.ireturn, 1) := by decide +kernel
theorem dX0_read_14 : decode cX0_read 14 = .ok (.iload_n 2, 1) := by decide +kernel
theorem dX0_read_15 : decode cX0_read 15 = .ok (.tableswitch 85 0 2 #[25, 45, 65], 25) := by decide +kernel
theorem dX0_read_40 : decode cX0_read 40 = .ok (.iload_n 1, 1) := by decide +kernel
theorem dX0_read_41 : decode cX0_read 41 = .ok (.aload_n 0, 1) := by decide +kernel
theorem dX0_read_42 : decode cX0_read 42 = .ok (.getfield 9, 3) := by decide +kernel
theorem dX0_read_45 : decode cX0_read 45 = .ok (.arraylength, 1) := by decide +kernel
theorem dX0_read_46 : decode cX0_read 46 = .ok (.if_icmp .ge 12, 3) := by decide +kernel
theorem dX0_read_49 : decode cX0_read 49 = .ok (.aload_n 0, 1) := by decide +kernel
theorem dX0_read_50 : decode cX0_read 50 = .ok (.getfield 9, 3) := by decide +kernel
theorem dX0_read_53 : decode cX0_read 53 = .ok (.iload_n 1, 1) := by decide +kernel
theorem dX0_read_54 : decode cX0_read 54 = .ok (.iaload, 1) := by decide +kernel
theorem dX0_read_55 : decode cX0_read 55 = .ok (.goto 4, 3) := by decide +kernel
theorem dX0_read_58 : decode cX0_read 58 = .ok (.iconst (-1), 1) := by decide +kernel
theorem dX0_read_59 : decode cX0_read 59 = .ok (.ireturn, 1) := by decide +kernel
theorem dX0_read_60 : decode cX0_read 60 = .ok (.iload_n 1, 1) := by decide +kernel
theorem dX0_read_61 : decode cX0_read 61 = .ok (.aload_n 0, 1) := by decide +kernel
theorem dX0_read_62 : decode cX0_read 62 = .ok (.getfield 15, 3) := by decide +kernel
theorem dX0_read_65 : decode cX0_read 65 = .ok (.arraylength, 1) := by decide +kernel
theorem dX0_read_66 : decode cX0_read 66 = .ok (.if_icmp .ge 12, 3) := by decide +kernel
theorem dX0_read_69 : decode cX0_read 69 = .ok (.aload_n 0, 1) := by decide +kernel
theorem dX0_read_70 : decode cX0_read 70 = .ok (.getfield 15, 3) := by decide +kernel
theorem dX0_read_73 : decode cX0_read 73 = .ok (.iload_n 1, 1) := by decide +kernel
theorem dX0_read_74 : decode cX0_read 74 = .ok (.iaload, 1) := by decide +kernel
theorem dX0_read_75 : decode cX0_read 75 = .ok (.goto 4, 3) := by decide +kernel
theorem dX0_read_78 : decode cX0_read 78 = .ok (.iconst (-1), 1) := by decide +kernel
theorem dX0_read_79 : decode cX0_read 79 = .ok (.ireturn, 1) := by decide +kernel
theorem dX0_read_80 : decode cX0_read 80 = .ok (.iload_n 1, 1) := by decide +kernel
theorem dX0_read_81 : decode cX0_read 81 = .ok (.aload_n 0, 1) := by decide +kernel
theorem dX0_read_82 : decode cX0_read 82 = .ok (.getfield 18, 3) := by decide +kernel
theorem dX0_read_85 : decode cX0_read 85 = .ok (.arraylength, 1) := by decide +kernel
theorem dX0_read_86 : decode cX0_read 86 = .ok (.if_icmp .ge 12, 3) := by decide +kernel
theorem dX0_read_89 : decode cX0_read 89 = .ok (.aload_n 0, 1) := by decide +kernel
theorem dX0_read_90 : decode cX0_read 90 = .ok (.getfield 18, 3) := by decide +kernel
theorem dX0_read_93 : decode cX0_read 93 = .ok (.iload_n 1, 1) := by decide +kernel
theorem dX0_read_94 : decode cX0_read 94 = .ok (.iaload, 1) := by decide +kernel
theorem dX0_read_95 : decode cX0_read 95 = .ok (.goto 4, 3) := by decide +kernel
theorem dX0_read_98 : decode cX0_read 98 = .ok (.iconst (-1), 1) := by decide +kernel
theorem dX0_read_99 : decode cX0_read 99 = .ok (.ireturn, 1) := by decide +kernel
theorem dX0_read_100 : decode cX0_read 100 = .ok (.iconst (-1), 1) := by decide +kernel
theorem dX0_read_101 : decode cX0_read 101 = .ok (.ireturn, 1) := by decide +kernel
theorem dX1_init_0 : decode cX1_init 0 = .ok (.aload_n 0, 1) := by decide +kernel
theorem dX1_init_1 : decode cX1_init 1 = .ok (.invokespecial 3, 3) := by decide +kernel
theorem dX1_init_4 : decode cX1_init 4 = .ok (.aload_n 0, 1) := by decide +kernel
theorem dX1_init_5 : decode cX1_init 5 = .ok (.bipush 24, 2) := by decide +kernel
theorem dX1_init_7 : decode cX1_init 7 = .ok (.newarray .int, 2) := by decide +kernel
theorem dX1_init_9 : decode cX1_init 9 = .ok (.putfield 9, 3) := by decide +kernel
theorem dX1_init_12 : decode cX1_init 12 = .ok (.aload_n 0, 1) := by decide +kernel
theorem dX1_init_13 : decode cX1_init 13 = .ok (.iconst 0, 1) := by decide +kernel
theorem dX1_init_14 : decode cX1_init 14 = .ok (.putfield 15, 3) := by decide +kernel
theorem dX1_init_17 : decode cX1_init 17 = .ok (.return_, 1) := by decide +kernel
theorem dX1_addBoat_0 : decode cX1_addBoat 0 = .ok (.iconst 0, 1) := by decide +kernel
theorem dX1_addBoat_1 : decode cX1_addBoat 1 = .ok (.istore_n 3, 1) := by decide +kernel
theorem dX1_addBoat_2 : decode cX1_addBoat 2 = .ok (.iload_n 3, 1) := by decide +kernel
theorem dX1_addBoat_3 : decode cX1_addBoat 3 = .ok (.aload_n 0, 1) := by decide +kernel
theorem dX1_addBoat_4 : decode cX1_addBoat 4 = .ok (.getfield 9, 3) := by decide +kernel
theorem dX1_addBoat_7 : decode cX1_addBoat 7 = .ok (.arraylength, 1) := by decide +kernel
theorem dX1_addBoat_8 : decode cX1_addBoat 8 = .ok (.if_icmp .ge 28, 3) := by decide +kernel
theorem dX1_addBoat_11 : decode cX1_addBoat 11 = .ok (.iload_n 1, 1) := by decide +kernel
theorem dX1_addBoat_12 : decode cX1_addBoat 12 = .ok (.iload_n 3, 1) := by decide +kernel
theorem dX1_addBoat_13 : decode cX1_addBoat 13 = .ok (.ishr, 1) := by decide +kernel
theorem dX1_addBoat_14 : decode cX1_addBoat 14 = .ok (.iconst 1, 1) := by decide +kernel
theorem dX1_addBoat_15 : decode cX1_addBoat 15 = .ok (.iand, 1) := by decide +kernel
theorem dX1_addBoat_16 : decode cX1_addBoat 16 = .ok (.iconst 1, 1) := by decide +kernel
theorem dX1_addBoat_17 : decode cX1_addBoat 17 = .ok (.if_icmp .ne 13, 3) := by decide +kernel
theorem dX1_addBoat_20 : decode cX1_addBoat 20 = .ok (.aload_n 0, 1) := by decide +kernel
theorem dX1_addBoat_21 : decode cX1_addBoat 21 = .ok (.getfield 9, 3) := by decide +kernel
theorem dX1_addBoat_24 : decode cX1_addBoat 24 = .ok (.iload_n 3, 1) := by decide +kernel
theorem dX1_addBoat_25 : decode cX1_addBoat 25 = .ok (.dup2, 1) := by decide +kernel
theorem dX1_addBoat_26 : decode cX1_addBoat 26 = .ok (.iaload, 1) := by decide +kernel
theorem dX1_addBoat_27 : decode cX1_addBoat 27 = .ok (.iload_n 2, 1) := by decide +kernel
theorem dX1_addBoat_28 : decode cX1_addBoat 28 = .ok (.iadd, 1) := by decide +kernel
theorem dX1_addBoat_29 : decode cX1_addBoat 29 = .ok (.iastore, 1) := by decide +kernel
theorem dX1_addBoat_30 : decode cX1_addBoat 30 = .ok (.iinc 3 1, 3) := by decide +kernel
theorem dX1_addBoat_33 : decode cX1_addBoat 33 = .ok (.goto (-31), 3) := by decide +kernel
theorem dX1_addBoat_36 : decode cX1_addBoat 36 = .ok (.aload_n 0, 1) := by decide +kernel
theorem dX1_addBoat_37 : decode cX1_addBoat 37 = .ok (.dup, 1) := by decide +kernel
theorem dX1_addBoat_38 : decode cX1_addBoat 38 = .ok (.getfield 15, 3) := by decide +kernel
theorem dX1_addBoat_41 : decode cX1_addBoat 41 = .ok (.iconst 1, 1) := by decide +kernel
theorem dX1_addBoat_42 : decode cX1_addBoat 42 = .ok (.iadd, 1) := by decide +kernel
theorem dX1_addBoat_43 : decode cX1_addBoat 43 = .ok (.putfield 15, 3) := by decide +kernel
theorem dX1_addBoat_46 : decode cX1_addBoat 46 = .ok (.return_, 1) := by decide +kernel
theorem dX1_seatsOut_0 : decode cX1_seatsOut 0 = .ok (.iload_n 1, 1) := by decide +kernel
theorem dX1_seatsOut_1 : decode cX1_seatsOut 1 = .ok (.bipush 24, 2) := by decide +kernel
theorem dX1_seatsOut_3 : decode cX1_seatsOut 3 = .ok (.irem, 1) := by decide +kernel
theorem dX1_seatsOut_4 : decode cX1_seatsOut 4 = .ok (.istore_n 2, 1) := by decide +kernel
theorem dX1_seatsOut_5 : decode cX1_seatsOut 5 = .ok (.iload_n 2, 1) := by decide +kernel
theorem dX1_seatsOut_6 : decode cX1_seatsOut 6 = .ok (.ifCond .lt 12, 3) := by decide +kernel
theorem dX1_seatsOut_9 : decode cX1_seatsOut 9 = .ok (.iload_n 2, 1) := by decide +kernel
theorem dX1_seatsOut_10 : decode cX1_seatsOut 10 = .ok (.aload_n 0, 1) := by decide +kernel
theorem dX1_seatsOut_11 : decode cX1_seatsOut 11 = .ok (.getfield 9, 3) := by decide +kernel
theorem dX1_seatsOut_14 : decode cX1_seatsOut 14 = .ok (.arraylength, 1) := by decide +kernel
theorem dX1_seatsOut_15 : decode cX1_seatsOut 15 = .ok (.if_icmp .lt 7, 3) := by decide +kernel
theorem dX1_seatsOut_18 : decode cX1_seatsOut 18 = .ok (.iconst 0, 1) := by decide +kernel
theorem dX1_seatsOut_19 : decode cX1_seatsOut 19 = .ok (.goto 9, 3) := by decide +kernel
theorem dX1_seatsOut_22 : decode cX1_seatsOut 22 = .ok (.aload_n 0, 1) := by decide +kernel
theorem dX1_seatsOut_23 : decode cX1_seatsOut 23 = .ok (.getfield 9, 3) := by decide +kernel
theorem dX1_seatsOut_26 : decode cX1_seatsOut 26 = .ok (.iload_n 2, 1) := by decide +kernel
theorem dX1_seatsOut_27 : decode cX1_seatsOut 27 = .ok (.iaload, 1) := by decide +kernel
theorem dX1_seatsOut_28 : decode cX1_seatsOut 28 = .ok (.ireturn, 1) := by decide +kernel
theorem dX1_seatsBack_0 : decode cX1_seatsBack 0 = .ok (.iload_n 1, 1) := by decide +kernel
theorem dX1_seatsBack_1 : decode cX1_seatsBack 1 = .ok (.ifCond .gt 7, 3) := by decide +kernel
theorem dX1_seatsBack_4 : decode cX1_seatsBack 4 = .ok (.iconst 0, 1) := by decide +kernel
theorem dX1_seatsBack_5 : decode cX1_seatsBack 5 = .ok (.goto 10, 3) := by decide +kernel
theorem dX1_seatsBack_8 : decode cX1_seatsBack 8 = .ok (.aload_n 0, 1) := by decide +kernel
theorem dX1_seatsBack_9 : decode cX1_seatsBack 9 = .ok (.iload_n 1, 1) := by decide +kernel
theorem dX1_seatsBack_10 : decode cX1_seatsBack 10 = .ok (.iconst 1, 1) := by decide +kernel
theorem dX1_seatsBack_11 : decode cX1_seatsBack 11 = .ok (.isub, 1) := by decide +kernel
theorem dX1_seatsBack_12 : decode cX1_seatsBack 12 = .ok (.invokevirtual 19, 3) := by decide +kernel
theorem dX1_seatsBack_15 : decode cX1_seatsBack 15 = .ok (.ireturn, 1) := by decide +kernel
theorem dX2_init_0 : decode cX2_init 0 = .ok (.aload_n 0, 1) := by decide +kernel
theorem dX2_init_1 : decode cX2_init 1 = .ok (.invokespecial 3, 3) := by decide +kernel
theorem dX2_init_4 : decode cX2_init 4 = .ok (.aload_n 0, 1) := by decide +kernel
theorem dX2_init_5 : decode cX2_init 5 = .ok (.iconst 0, 1) := by decide +kernel
theorem dX2_init_6 : decode cX2_init 6 = .ok (.putfield 9, 3) := by decide +kernel
theorem dX2_init_9 : decode cX2_init 9 = .ok (.aload_n 0, 1) := by decide +kernel
theorem dX2_init_10 : decode cX2_init 10 = .ok (.iconst 0, 1) := by decide +kernel
theorem dX2_init_11 : decode cX2_init 11 = .ok (.putfield 15, 3) := by decide +kernel
theorem dX2_init_14 : decode cX2_init 14 = .ok (.aload_n 0, 1) := by decide +kernel
theorem dX2_init_15 : decode cX2_init 15 = .ok (.iconst 0, 1) := by decide +kernel
theorem dX2_init_16 : decode cX2_init 16 = .ok (.putfield 18, 3) := by decide +kernel
theorem dX2_init_19 : decode cX2_init 19 = .ok (.aload_n 0, 1) := by decide +kernel
theorem dX2_init_20 : decode cX2_init 20 = .ok (.iconst 0, 1) := by decide +kernel
theorem dX2_init_21 : decode cX2_init 21 = .ok (.putfield 21, 3) := by decide +kernel
theorem dX2_init_24 : decode cX2_init 24 = .ok (.aload_n 0, 1) := by decide +kernel
theorem dX2_init_25 : decode cX2_init 25 = .ok (.iconst (-1), 1) := by decide +kernel
theorem dX2_init_26 : decode cX2_init 26 = .ok (.putfield 24, 3) := by decide +kernel
theorem dX2_init_29 : decode cX2_init 29 = .ok (.aload_n 0, 1) := by decide +kernel
theorem dX2_init_30 : decode cX2_init 30 = .ok (.iconst 0, 1) := by decide +kernel
theorem dX2_init_31 : decode cX2_init 31 = .ok (.putfield 27, 3) := by decide +kernel
theorem dX2_init_34 : decode cX2_init 34 = .ok (.aload_n 0, 1) := by decide +kernel
theorem dX2_init_35 : decode cX2_init 35 = .ok (.iconst 0, 1) := by decide +kernel
theorem dX2_init_36 : decode cX2_init 36 = .ok (.putfield 30, 3) := by decide +kernel
theorem dX2_init_39 : decode cX2_init 39 = .ok (.aload_n 0, 1) := by decide +kernel
theorem dX2_init_40 : decode cX2_init 40 = .ok (.iconst (-1), 1) := by decide +kernel
theorem dX2_init_41 : decode cX2_init 41 = .ok (.putfield 33, 3) := by decide +kernel
theorem dX2_init_44 : decode cX2_init 44 = .ok (.aload_n 0, 1) := by decide +kernel
theorem dX2_init_45 : decode cX2_init 45 = .ok (.aconst_null, 1) := by decide +kernel
theorem dX2_init_46 : decode cX2_init 46 = .ok (.putfield 36, 3) := by decide +kernel
theorem dX2_init_49 : decode cX2_init 49 = .ok (.return_, 1) := by decide +kernel
theorem dX2_goAboard_0 : decode cX2_goAboard 0 = .ok (.aload_n 0, 1) := by decide +kernel
theorem dX2_goAboard_1 : decode cX2_goAboard 1 = .ok (.iconst 2, 1) := by decide +kernel
theorem dX2_goAboard_2 : decode cX2_goAboard 2 = .ok (.putfield 9, 3) := by decide +kernel
theorem dX2_goAboard_5 : decode cX2_goAboard 5 = .ok (.aload_n 0, 1) := by decide +kernel
theorem dX2_goAboard_6 : decode cX2_goAboard 6 = .ok (.aload_n 1, 1) := by decide +kernel
theorem dX2_goAboard_7 : decode cX2_goAboard 7 = .ok (.putfield 36, 3) := by decide +kernel
theorem dX2_goAboard_10 : decode cX2_goAboard 10 = .ok (.return_, 1) := by decide +kernel
theorem dX2_stayAt_0 : decode cX2_stayAt 0 = .ok (.aload_n 0, 1) := by decide +kernel
theorem dX2_stayAt_1 : decode cX2_stayAt 1 = .ok (.iload_n 1, 1) := by decide +kernel
theorem dX2_stayAt_2 : decode cX2_stayAt 2 = .ok (.putfield 9, 3) := by decide +kernel
theorem dX2_stayAt_5 : decode cX2_stayAt 5 = .ok (.aload_n 0, 1) := by decide +kernel
theorem dX2_stayAt_6 : decode cX2_stayAt 6 = .ok (.iload_n 2, 1) := by decide +kernel
theorem dX2_stayAt_7 : decode cX2_stayAt 7 = .ok (.putfield 15, 3) := by decide +kernel
theorem dX2_stayAt_10 : decode cX2_stayAt 10 = .ok (.aload_n 0, 1) := by decide +kernel
theorem dX2_stayAt_11 : decode cX2_stayAt 11 = .ok (.aconst_null, 1) := by decide +kernel
theorem dX2_stayAt_12 : decode cX2_stayAt 12 = .ok (.putfield 36, 3) := by decide +kernel
theorem dX2_stayAt_15 : decode cX2_stayAt 15 = .ok (.return_, 1) := by decide +kernel
theorem dX2_takeRoad_0 : decode cX2_takeRoad 0 = .ok (.aload_n 0, 1) := by decide +kernel
theorem dX2_takeRoad_1 : decode cX2_takeRoad 1 = .ok (.iconst 3, 1) := by decide +kernel
theorem dX2_takeRoad_2 : decode cX2_takeRoad 2 = .ok (.putfield 9, 3) := by decide +kernel
theorem dX2_takeRoad_5 : decode cX2_takeRoad 5 = .ok (.aload_n 0, 1) := by decide +kernel
theorem dX2_takeRoad_6 : decode cX2_takeRoad 6 = .ok (.iload_n 1, 1) := by decide +kernel
theorem dX2_takeRoad_7 : decode cX2_takeRoad 7 = .ok (.putfield 18, 3) := by decide +kernel
theorem dX2_takeRoad_10 : decode cX2_takeRoad 10 = .ok (.aload_n 0, 1) := by decide +kernel
theorem dX2_takeRoad_11 : decode cX2_takeRoad 11 = .ok (.aconst_null, 1) := by decide +kernel
theorem dX2_takeRoad_12 : decode cX2_takeRoad 12 = .ok (.putfield 36, 3) := by decide +kernel
theorem dX2_takeRoad_15 : decode cX2_takeRoad 15 = .ok (.return_, 1) := by decide +kernel
theorem dX2_copyFrom_0 : decode cX2_copyFrom 0 = .ok (.aload_n 0, 1) := by decide +kernel
theorem dX2_copyFrom_1 : decode cX2_copyFrom 1 = .ok (.aload_n 1, 1) := by decide +kernel
theorem dX2_copyFrom_2 : decode cX2_copyFrom 2 = .ok (.getfield 9, 3) := by decide +kernel
theorem dX2_copyFrom_5 : decode cX2_copyFrom 5 = .ok (.putfield 9, 3) := by decide +kernel
theorem dX2_copyFrom_8 : decode cX2_copyFrom 8 = .ok (.aload_n 0, 1) := by decide +kernel
theorem dX2_copyFrom_9 : decode cX2_copyFrom 9 = .ok (.aload_n 1, 1) := by decide +kernel
theorem dX2_copyFrom_10 : decode cX2_copyFrom 10 = .ok (.getfield 15, 3) := by decide +kernel
theorem dX2_copyFrom_13 : decode cX2_copyFrom 13 = .ok (.putfield 15, 3) := by decide +kernel
theorem dX2_copyFrom_16 : decode cX2_copyFrom 16 = .ok (.aload_n 0, 1) := by decide +kernel
theorem dX2_copyFrom_17 : decode cX2_copyFrom 17 = .ok (.aload_n 1, 1) := by decide +kernel
theorem dX2_copyFrom_18 : decode cX2_copyFrom 18 = .ok (.getfield 18, 3) := by decide +kernel
theorem dX2_copyFrom_21 : decode cX2_copyFrom 21 = .ok (.putfield 18, 3) := by decide +kernel
theorem dX2_copyFrom_24 : decode cX2_copyFrom 24 = .ok (.aload_n 0, 1) := by decide +kernel
theorem dX2_copyFrom_25 : decode cX2_copyFrom 25 = .ok (.aload_n 1, 1) := by decide +kernel
theorem dX2_copyFrom_26 : decode cX2_copyFrom 26 = .ok (.getfield 21, 3) := by decide +kernel
theorem dX2_copyFrom_29 : decode cX2_copyFrom 29 = .ok (.putfield 21, 3) := by decide +kernel
theorem dX2_copyFrom_32 : decode cX2_copyFrom 32 = .ok (.aload_n 0, 1) := by decide +kernel
theorem dX2_copyFrom_33 : decode cX2_copyFrom 33 = .ok (.aload_n 1, 1) := by decide +kernel
theorem dX2_copyFrom_34 : decode cX2_copyFrom 34 = .ok (.getfield 24, 3) := by decide +kernel
theorem dX2_copyFrom_37 : decode cX2_copyFrom 37 = .ok (.putfield 24, 3) := by decide +kernel
theorem dX2_copyFrom_40 : decode cX2_copyFrom 40 = .ok (.aload_n 0, 1) := by decide +kernel
theorem dX2_copyFrom_41 : decode cX2_copyFrom 41 = .ok (.aload_n 1, 1) := by decide +kernel
theorem dX2_copyFrom_42 : decode cX2_copyFrom 42 = .ok (.getfield 27, 3) := by decide +kernel
theorem dX2_copyFrom_45 : decode cX2_copyFrom 45 = .ok (.putfield 27, 3) := by decide +kernel
theorem dX2_copyFrom_48 : decode cX2_copyFrom 48 = .ok (.aload_n 0, 1) := by decide +kernel
theorem dX2_copyFrom_49 : decode cX2_copyFrom 49 = .ok (.aload_n 1, 1) := by decide +kernel
theorem dX2_copyFrom_50 : decode cX2_copyFrom 50 = .ok (.getfield 30, 3) := by decide +kernel
theorem dX2_copyFrom_53 : decode cX2_copyFrom 53 = .ok (.putfield 30, 3) := by decide +kernel
theorem dX2_copyFrom_56 : decode cX2_copyFrom 56 = .ok (.aload_n 0, 1) := by decide +kernel
theorem dX2_copyFrom_57 : decode cX2_copyFrom 57 = .ok (.aload_n 1, 1) := by decide +kernel
theorem dX2_copyFrom_58 : decode cX2_copyFrom 58 = .ok (.getfield 33, 3) := by decide +kernel
theorem dX2_copyFrom_61 : decode cX2_copyFrom 61 = .ok (.putfield 33, 3) := by decide +kernel
theorem dX2_copyFrom_64 : decode cX2_copyFrom 64 = .ok (.aload_n 0, 1) := by decide +kernel
theorem dX2_copyFrom_65 : decode cX2_copyFrom 65 = .ok (.aload_n 1, 1) := by decide +kernel
theorem dX2_copyFrom_66 : decode cX2_copyFrom 66 = .ok (.getfield 36, 3) := by decide +kernel
theorem dX2_copyFrom_69 : decode cX2_copyFrom 69 = .ok (.putfield 36, 3) := by decide +kernel
theorem dX2_copyFrom_72 : decode cX2_copyFrom 72 = .ok (.return_, 1) := by decide +kernel
theorem dX3_init_0 : decode cX3_init 0 = .ok (.aload_n 0, 1) := by decide +kernel
theorem dX3_init_1 : decode cX3_init 1 = .ok (.invokespecial 3, 3) := by decide +kernel
theorem dX3_init_4 : decode cX3_init 4 = .ok (.aload_n 0, 1) := by decide +kernel
theorem dX3_init_5 : decode cX3_init 5 = .ok (.iload_n 1, 1) := by decide +kernel
theorem dX3_init_6 : decode cX3_init 6 = .ok (.putfield 9, 3) := by decide +kernel
theorem dX3_init_9 : decode cX3_init 9 = .ok (.aload_n 0, 1) := by decide +kernel
theorem dX3_init_10 : decode cX3_init 10 = .ok (.iload_n 2, 1) := by decide +kernel
theorem dX3_init_11 : decode cX3_init 11 = .ok (.putfield 15, 3) := by decide +kernel
theorem dX3_init_14 : decode cX3_init 14 = .ok (.aload_n 0, 1) := by decide +kernel
theorem dX3_init_15 : decode cX3_init 15 = .ok (.iload_n 3, 1) := by decide +kernel
theorem dX3_init_16 : decode cX3_init 16 = .ok (.putfield 18, 3) := by decide +kernel
theorem dX3_init_19 : decode cX3_init 19 = .ok (.aload_n 0, 1) := by decide +kernel
theorem dX3_init_20 : decode cX3_init 20 = .ok (.iload 4, 2) := by decide +kernel
theorem dX3_init_22 : decode cX3_init 22 = .ok (.putfield 21, 3) := by decide +kernel
theorem dX3_init_25 : decode cX3_init 25 = .ok (.aload_n 0, 1) := by decide +kernel
theorem dX3_init_26 : decode cX3_init 26 = .ok (.new 24, 3) := by decide +kernel
theorem dX3_init_29 : decode cX3_init 29 = .ok (.dup, 1) := by decide +kernel
theorem dX3_init_30 : decode cX3_init 30 = .ok (.invokespecial 26, 3) := by decide +kernel
theorem dX3_init_33 : decode cX3_init 33 = .ok (.putfield 27, 3) := by decide +kernel
theorem dX3_init_36 : decode cX3_init 36 = .ok (.aload_n 0, 1) := by decide +kernel
theorem dX3_init_37 : decode cX3_init 37 = .ok (.new 24, 3) := by decide +kernel
theorem dX3_init_40 : decode cX3_init 40 = .ok (.dup, 1) := by decide +kernel
theorem dX3_init_41 : decode cX3_init 41 = .ok (.invokespecial 26, 3) := by decide +kernel
theorem dX3_init_44 : decode cX3_init 44 = .ok (.putfield 31, 3) := by decide +kernel
theorem dX3_init_47 : decode cX3_init 47 = .ok (.aload_n 0, 1) := by decide +kernel
theorem dX3_init_48 : decode cX3_init 48 = .ok (.sipush 400, 3) := by decide +kernel
theorem dX3_init_51 : decode cX3_init 51 = .ok (.newarray .boolean, 2) := by decide +kernel
theorem dX3_init_53 : decode cX3_init 53 = .ok (.putfield 34, 3) := by decide +kernel
theorem dX3_init_56 : decode cX3_init 56 = .ok (.aload_n 0, 1) := by decide +kernel
theorem dX3_init_57 : decode cX3_init 57 = .ok (.iconst 0, 1) := by decide +kernel
theorem dX3_init_58 : decode cX3_init 58 = .ok (.putfield 38, 3) := by decide +kernel
theorem dX3_init_61 : decode cX3_init 61 = .ok (.aload_n 0, 1) := by decide +kernel
theorem dX3_init_62 : decode cX3_init 62 = .ok (.iconst 1, 1) := by decide +kernel
theorem dX3_init_63 : decode cX3_init 63 = .ok (.putfield 41, 3) := by decide +kernel
theorem dX3_init_66 : decode cX3_init 66 = .ok (.return_, 1) := by decide +kernel
theorem dX3_mayLead_0 : decode cX3_mayLead 0 = .ok (.aload_n 1, 1) := by decide +kernel
theorem dX3_mayLead_1 : decode cX3_mayLead 1 = .ok (.getfield 45, 3) := by decide +kernel
theorem dX3_mayLead_4 : decode cX3_mayLead 4 = .ok (.aload_n 0, 1) := by decide +kernel
theorem dX3_mayLead_5 : decode cX3_mayLead 5 = .ok (.getfield 18, 3) := by decide +kernel
theorem dX3_mayLead_8 : decode cX3_mayLead 8 = .ok (.if_icmp .gt 18, 3) := by decide +kernel
theorem dX3_mayLead_11 : decode cX3_mayLead 11 = .ok (.aload_n 1, 1) := by decide +kernel
theorem dX3_mayLead_12 : decode cX3_mayLead 12 = .ok (.getfield 48, 3) := by decide +kernel
theorem dX3_mayLead_15 : decode cX3_mayLead 15 = .ok (.aload_n 0, 1) := by decide +kernel
theorem dX3_mayLead_16 : decode cX3_mayLead 16 = .ok (.getfield 21, 3) := by decide +kernel
theorem dX3_mayLead_19 : decode cX3_mayLead 19 = .ok (.if_icmp .gt 7, 3) := by decide +kernel
theorem dX3_mayLead_22 : decode cX3_mayLead 22 = .ok (.iconst 1, 1) := by decide +kernel
theorem dX3_mayLead_23 : decode cX3_mayLead 23 = .ok (.goto 4, 3) := by decide +kernel
theorem dX3_mayLead_26 : decode cX3_mayLead 26 = .ok (.iconst 0, 1) := by decide +kernel
theorem dX3_mayLead_27 : decode cX3_mayLead 27 = .ok (.istore_n 2, 1) := by decide +kernel
theorem dX3_mayLead_28 : decode cX3_mayLead 28 = .ok (.aload_n 0, 1) := by decide +kernel
theorem dX3_mayLead_29 : decode cX3_mayLead 29 = .ok (.getfield 15, 3) := by decide +kernel
theorem dX3_mayLead_32 : decode cX3_mayLead 32 = .ok (.tableswitch 76 0 4 #[36, 38, 76, 40, 55], 36) := by decide +kernel
theorem dX3_mayLead_68 : decode cX3_mayLead 68 = .ok (.iload_n 2, 1) := by decide +kernel
theorem dX3_mayLead_69 : decode cX3_mayLead 69 = .ok (.ireturn, 1) := by decide +kernel
theorem dX3_mayLead_70 : decode cX3_mayLead 70 = .ok (.iconst 1, 1) := by decide +kernel
theorem dX3_mayLead_71 : decode cX3_mayLead 71 = .ok (.ireturn, 1) := by decide +kernel
theorem dX3_mayLead_72 : decode cX3_mayLead 72 = .ok (.aload_n 1, 1) := by decide +kernel
theorem dX3_mayLead_73 : decode cX3_mayLead 73 = .ok (.getfield 49, 3) := by decide +kernel
theorem dX3_mayLead_76 : decode cX3_mayLead 76 = .ok (.bipush (-2), 2) := by decide +kernel
theorem dX3_mayLead_78 : decode cX3_mayLead 78 = .ok (.if_icmp .ne 7, 3) := by decide +kernel
theorem dX3_mayLead_81 : decode cX3_mayLead 81 = .ok (.iconst 1, 1) := by decide +kernel
theorem dX3_mayLead_82 : decode cX3_mayLead 82 = .ok (.goto 4, 3) := by decide +kernel
theorem dX3_mayLead_85 : decode cX3_mayLead 85 = .ok (.iconst 0, 1) := by decide +kernel
theorem dX3_mayLead_86 : decode cX3_mayLead 86 = .ok (.ireturn, 1) := by decide +kernel
theorem dX3_mayLead_87 : decode cX3_mayLead 87 = .ok (.iload_n 2, 1) := by decide +kernel
theorem dX3_mayLead_88 : decode cX3_mayLead 88 = .ok (.ifCond .eq 18, 3) := by decide +kernel
theorem dX3_mayLead_91 : decode cX3_mayLead 91 = .ok (.aload_n 1, 1) := by decide +kernel
theorem dX3_mayLead_92 : decode cX3_mayLead 92 = .ok (.getfield 49, 3) := by decide +kernel
theorem dX3_mayLead_95 : decode cX3_mayLead 95 = .ok (.aload_n 0, 1) := by decide +kernel
theorem dX3_mayLead_96 : decode cX3_mayLead 96 = .ok (.getfield 9, 3) := by decide +kernel
theorem dX3_mayLead_99 : decode cX3_mayLead 99 = .ok (.if_icmp .ne 7, 3) := by decide +kernel
theorem dX3_mayLead_102 : decode cX3_mayLead 102 = .ok (.iconst 1, 1) := by decide +kernel
theorem dX3_mayLead_103 : decode cX3_mayLead 103 = .ok (.goto 4, 3) := by decide +kernel
theorem dX3_mayLead_106 : decode cX3_mayLead 106 = .ok (.iconst 0, 1) := by decide +kernel
theorem dX3_mayLead_107 : decode cX3_mayLead 107 = .ok (.ireturn, 1) := by decide +kernel
theorem dX3_mayLead_108 : decode cX3_mayLead 108 = .ok (.iconst 0, 1) := by decide +kernel
theorem dX3_mayLead_109 : decode cX3_mayLead 109 = .ok (.ireturn, 1) := by decide +kernel
theorem dX3_isOff_0 : decode cX3_isOff 0 = .ok (.iload_n 1, 1) := by decide +kernel
theorem dX3_isOff_1 : decode cX3_isOff 1 = .ok (.ifCond .lt 25, 3) := by decide +kernel
theorem dX3_isOff_4 : decode cX3_isOff 4 = .ok (.iload_n 1, 1) := by decide +kernel
theorem dX3_isOff_5 : decode cX3_isOff 5 = .ok (.aload_n 0, 1) := by decide +kernel
theorem dX3_isOff_6 : decode cX3_isOff 6 = .ok (.getfield 34, 3) := by decide +kernel
theorem dX3_isOff_9 : decode cX3_isOff 9 = .ok (.arraylength, 1) := by decide +kernel
theorem dX3_isOff_10 : decode cX3_isOff 10 = .ok (.if_icmp .ge 16, 3) := by decide +kernel
theorem dX3_isOff_13 : decode cX3_isOff 13 = .ok (.aload_n 0, 1) := by decide +kernel
theorem dX3_isOff_14 : decode cX3_isOff 14 = .ok (.getfield 34, 3) := by decide +kernel
theorem dX3_isOff_17 : decode cX3_isOff 17 = .ok (.iload_n 1, 1) := by decide +kernel
theorem dX3_isOff_18 : decode cX3_isOff 18 = .ok (.baload, 1) := by decide +kernel
theorem dX3_isOff_19 : decode cX3_isOff 19 = .ok (.ifCond .eq 7, 3) := by decide +kernel
theorem dX3_isOff_22 : decode cX3_isOff 22 = .ok (.iconst 1, 1) := by decide +kernel
theorem dX3_isOff_23 : decode cX3_isOff 23 = .ok (.goto 4, 3) := by decide +kernel
theorem dX3_isOff_26 : decode cX3_isOff 26 = .ok (.iconst 0, 1) := by decide +kernel
theorem dX3_isOff_27 : decode cX3_isOff 27 = .ok (.ireturn, 1) := by decide +kernel
theorem dX3_setOff_0 : decode cX3_setOff 0 = .ok (.iload_n 1, 1) := by decide +kernel
theorem dX3_setOff_1 : decode cX3_setOff 1 = .ok (.ifCond .lt 22, 3) := by decide +kernel
theorem dX3_setOff_4 : decode cX3_setOff 4 = .ok (.iload_n 1, 1) := by decide +kernel
theorem dX3_setOff_5 : decode cX3_setOff 5 = .ok (.aload_n 0, 1) := by decide +kernel
theorem dX3_setOff_6 : decode cX3_setOff 6 = .ok (.getfield 34, 3) := by decide +kernel
theorem dX3_setOff_9 : decode cX3_setOff 9 = .ok (.arraylength, 1) := by decide +kernel
theorem dX3_setOff_10 : decode cX3_setOff 10 = .ok (.if_icmp .ge 13, 3) := by decide +kernel
theorem dX3_setOff_13 : decode cX3_setOff 13 = .ok (.aload_n 0, 1) := by decide +kernel
theorem dX3_setOff_14 : decode cX3_setOff 14 = .ok (.getfield 34, 3) := by decide +kernel
theorem dX3_setOff_17 : decode cX3_setOff 17 = .ok (.iload_n 1, 1) := by decide +kernel
theorem dX3_setOff_18 : decode cX3_setOff 18 = .ok (.baload, 1) := by decide +kernel
theorem dX3_setOff_19 : decode cX3_setOff 19 = .ok (.iload_n 2, 1) := by decide +kernel
theorem dX3_setOff_20 : decode cX3_setOff 20 = .ok (.if_icmp .ne 5, 3) := by decide +kernel
theorem dX3_setOff_23 : decode cX3_setOff 23 = .ok (.iconst 0, 1) := by decide +kernel
theorem dX3_setOff_24 : decode cX3_setOff 24 = .ok (.ireturn, 1) := by decide +kernel
theorem dX3_setOff_25 : decode cX3_setOff 25 = .ok (.aload_n 0, 1) := by decide +kernel
theorem dX3_setOff_26 : decode cX3_setOff 26 = .ok (.getfield 34, 3) := by decide +kernel
theorem dX3_setOff_29 : decode cX3_setOff 29 = .ok (.iload_n 1, 1) := by decide +kernel
theorem dX3_setOff_30 : decode cX3_setOff 30 = .ok (.iload_n 2, 1) := by decide +kernel
theorem dX3_setOff_31 : decode cX3_setOff 31 = .ok (.bastore, 1) := by decide +kernel
theorem dX3_setOff_32 : decode cX3_setOff 32 = .ok (.aload_n 0, 1) := by decide +kernel
theorem dX3_setOff_33 : decode cX3_setOff 33 = .ok (.dup, 1) := by decide +kernel
theorem dX3_setOff_34 : decode cX3_setOff 34 = .ok (.getfield 38, 3) := by decide +kernel
theorem dX3_setOff_37 : decode cX3_setOff 37 = .ok (.iload_n 2, 1) := by decide +kernel
theorem dX3_setOff_38 : decode cX3_setOff 38 = .ok (.ifCond .eq 7, 3) := by decide +kernel
theorem dX3_setOff_41 : decode cX3_setOff 41 = .ok (.iconst 1, 1) := by decide +kernel
theorem dX3_setOff_42 : decode cX3_setOff 42 = .ok (.goto 4, 3) := by decide +kernel
theorem dX3_setOff_45 : decode cX3_setOff 45 = .ok (.iconst (-1), 1) := by decide +kernel
theorem dX3_setOff_46 : decode cX3_setOff 46 = .ok (.iadd, 1) := by decide +kernel
theorem dX3_setOff_47 : decode cX3_setOff 47 = .ok (.putfield 38, 3) := by decide +kernel
theorem dX3_setOff_50 : decode cX3_setOff 50 = .ok (.iconst 1, 1) := by decide +kernel
theorem dX3_setOff_51 : decode cX3_setOff 51 = .ok (.ireturn, 1) := by decide +kernel
theorem dX3_isLike_0 : decode cX3_isLike 0 = .ok (.aload_n 0, 1) := by decide +kernel
theorem dX3_isLike_1 : decode cX3_isLike 1 = .ok (.getfield 15, 3) := by decide +kernel
theorem dX3_isLike_4 : decode cX3_isLike 4 = .ok (.aload_n 1, 1) := by decide +kernel
theorem dX3_isLike_5 : decode cX3_isLike 5 = .ok (.getfield 15, 3) := by decide +kernel
theorem dX3_isLike_8 : decode cX3_isLike 8 = .ok (.if_icmp .ne 40, 3) := by decide +kernel
theorem dX3_isLike_11 : decode cX3_isLike 11 = .ok (.aload_n 0, 1) := by decide +kernel
theorem dX3_isLike_12 : decode cX3_isLike 12 = .ok (.getfield 18, 3) := by decide +kernel
theorem dX3_isLike_15 : decode cX3_isLike 15 = .ok (.aload_n 1, 1) := by decide +kernel
theorem dX3_isLike_16 : decode cX3_isLike 16 = .ok (.getfield 18, 3) := by decide +kernel
theorem dX3_isLike_19 : decode cX3_isLike 19 = .ok (.if_icmp .ne 29, 3) := by decide +kernel
theorem dX3_isLike_22 : decode cX3_isLike 22 = .ok (.aload_n 0, 1) := by decide +kernel
theorem dX3_isLike_23 : decode cX3_isLike 23 = .ok (.getfield 21, 3) := by decide +kernel
theorem dX3_isLike_26 : decode cX3_isLike 26 = .ok (.aload_n 1, 1) := by decide +kernel
theorem dX3_isLike_27 : decode cX3_isLike 27 = .ok (.getfield 21, 3) := by decide +kernel
theorem dX3_isLike_30 : decode cX3_isLike 30 = .ok (.if_icmp .ne 18, 3) := by decide +kernel
theorem dX3_isLike_33 : decode cX3_isLike 33 = .ok (.aload_n 0, 1) := by decide +kernel
theorem dX3_isLike_34 : decode cX3_isLike 34 = .ok (.getfield 38, 3) := by decide +kernel
theorem dX3_isLike_37 : decode cX3_isLike 37 = .ok (.aload_n 1, 1) := by decide +kernel
theorem dX3_isLike_38 : decode cX3_isLike 38 = .ok (.getfield 38, 3) := by decide +kernel
theorem dX3_isLike_41 : decode cX3_isLike 41 = .ok (.if_icmp .ne 7, 3) := by decide +kernel
theorem dX3_isLike_44 : decode cX3_isLike 44 = .ok (.iconst 1, 1) := by decide +kernel
theorem dX3_isLike_45 : decode cX3_isLike 45 = .ok (.goto 4, 3) := by decide +kernel
theorem dX3_isLike_48 : decode cX3_isLike 48 = .ok (.iconst 0, 1) := by decide +kernel
theorem dX3_isLike_49 : decode cX3_isLike 49 = .ok (.ireturn, 1) := by decide +kernel
theorem dX4_init_0 : decode cX4_init 0 = .ok (.aload_n 0, 1) := by decide +kernel
theorem dX4_init_1 : decode cX4_init 1 = .ok (.invokespecial 1, 3) := by decide +kernel
theorem dX4_init_4 : decode cX4_init 4 = .ok (.aload_n 0, 1) := by decide +kernel
theorem dX4_init_5 : decode cX4_init 5 = .ok (.bipush 8, 2) := by decide +kernel
theorem dX4_init_7 : decode cX4_init 7 = .ok (.putfield 7, 3) := by decide +kernel
theorem dX4_init_10 : decode cX4_init 10 = .ok (.aload_n 0, 1) := by decide +kernel
theorem dX4_init_11 : decode cX4_init 11 = .ok (.iconst 4, 1) := by decide +kernel
theorem dX4_init_12 : decode cX4_init 12 = .ok (.putfield 13, 3) := by decide +kernel
theorem dX4_init_15 : decode cX4_init 15 = .ok (.aload_n 0, 1) := by decide +kernel
theorem dX4_init_16 : decode cX4_init 16 = .ok (.iconst 4, 1) := by decide +kernel
theorem dX4_init_17 : decode cX4_init 17 = .ok (.putfield 16, 3) := by decide +kernel
theorem dX4_init_20 : decode cX4_init 20 = .ok (.return_, 1) := by decide +kernel
theorem dX4_set_0 : decode cX4_set 0 = .ok (.aload_n 0, 1) := by decide +kernel
theorem dX4_set_1 : decode cX4_set 1 = .ok (.iload_n 1, 1) := by decide +kernel
theorem dX4_set_2 : decode cX4_set 2 = .ok (.putfield 7, 3) := by decide +kernel
theorem dX4_set_5 : decode cX4_set 5 = .ok (.aload_n 0, 1) := by decide +kernel
theorem dX4_set_6 : decode cX4_set 6 = .ok (.iload_n 2, 1) := by decide +kernel
theorem dX4_set_7 : decode cX4_set 7 = .ok (.putfield 13, 3) := by decide +kernel
theorem dX4_set_10 : decode cX4_set 10 = .ok (.aload_n 0, 1) := by decide +kernel
theorem dX4_set_11 : decode cX4_set 11 = .ok (.iload_n 3, 1) := by decide +kernel
theorem dX4_set_12 : decode cX4_set 12 = .ok (.putfield 16, 3) := by decide +kernel
theorem dX4_set_15 : decode cX4_set 15 = .ok (.return_, 1) := by decide +kernel
theorem dX4_hoursBehind_0 : decode cX4_hoursBehind 0 = .ok (.aload_n 0, 1) := by decide +kernel
theorem dX4_hoursBehind_1 : decode cX4_hoursBehind 1 = .ok (.getfield 7, 3) := by decide +kernel
theorem dX4_hoursBehind_4 : decode cX4_hoursBehind 4 = .ok (.iload_n 1, 1) := by decide +kernel
theorem dX4_hoursBehind_5 : decode cX4_hoursBehind 5 = .ok (.ifCond .eq 10, 3) := by decide +kernel
theorem dX4_hoursBehind_8 : decode cX4_hoursBehind 8 = .ok (.aload_n 0, 1) := by decide +kernel
theorem dX4_hoursBehind_9 : decode cX4_hoursBehind 9 = .ok (.getfield 13, 3) := by decide +kernel
theorem dX4_hoursBehind_12 : decode cX4_hoursBehind 12 = .ok (.goto 4, 3) := by decide +kernel
theorem dX4_hoursBehind_15 : decode cX4_hoursBehind 15 = .ok (.iconst 0, 1) := by decide +kernel
theorem dX4_hoursBehind_16 : decode cX4_hoursBehind 16 = .ok (.iadd, 1) := by decide +kernel
theorem dX4_hoursBehind_17 : decode cX4_hoursBehind 17 = .ok (.iload_n 2, 1) := by decide +kernel
theorem dX4_hoursBehind_18 : decode cX4_hoursBehind 18 = .ok (.ifCond .eq 10, 3) := by decide +kernel
theorem dX4_hoursBehind_21 : decode cX4_hoursBehind 21 = .ok (.aload_n 0, 1) := by decide +kernel
theorem dX4_hoursBehind_22 : decode cX4_hoursBehind 22 = .ok (.getfield 16, 3) := by decide +kernel
theorem dX4_hoursBehind_25 : decode cX4_hoursBehind 25 = .ok (.goto 4, 3) := by decide +kernel
theorem dX4_hoursBehind_28 : decode cX4_hoursBehind 28 = .ok (.iconst 0, 1) := by decide +kernel
theorem dX4_hoursBehind_29 : decode cX4_hoursBehind 29 = .ok (.iadd, 1) := by decide +kernel
theorem dX4_hoursBehind_30 : decode cX4_hoursBehind 30 = .ok (.ireturn, 1) := by decide +kernel
theorem dX5_init_0 : decode cX5_init 0 = .ok (.aload_n 0, 1) := by decide +kernel
theorem dX5_init_1 : decode cX5_init 1 = .ok (.invokespecial 3, 3) := by decide +kernel
theorem dX5_init_4 : decode cX5_init 4 = .ok (.aload_n 0, 1) := by decide +kernel
theorem dX5_init_5 : decode cX5_init 5 = .ok (.new 9, 3) := by decide +kernel
theorem dX5_init_8 : decode cX5_init 8 = .ok (.dup, 1) := by decide +kernel
theorem dX5_init_9 : decode cX5_init 9 = .ok (.invokespecial 11, 3) := by decide +kernel
theorem dX5_init_12 : decode cX5_init 12 = .ok (.putfield 12, 3) := by decide +kernel
theorem dX5_init_15 : decode cX5_init 15 = .ok (.return_, 1) := by decide +kernel
theorem dX5_length_0 : decode cX5_length 0 = .ok (.aload_n 0, 1) := by decide +kernel
theorem dX5_length_1 : decode cX5_length 1 = .ok (.getfield 12, 3) := by decide +kernel
theorem dX5_length_4 : decode cX5_length 4 = .ok (.invokevirtual 18, 3) := by decide +kernel
theorem dX5_length_7 : decode cX5_length 7 = .ok (.ireturn, 1) := by decide +kernel
theorem dX5_at_0 : decode cX5_at 0 = .ok (.iload_n 1, 1) := by decide +kernel
theorem dX5_at_1 : decode cX5_at 1 = .ok (.ifCond .lt 14, 3) := by decide +kernel
theorem dX5_at_4 : decode cX5_at 4 = .ok (.iload_n 1, 1) := by decide +kernel
theorem dX5_at_5 : decode cX5_at 5 = .ok (.aload_n 0, 1) := by decide +kernel
theorem dX5_at_6 : decode cX5_at 6 = .ok (.getfield 12, 3) := by decide +kernel
theorem dX5_at_9 : decode cX5_at 9 = .ok (.invokevirtual 18, 3) := by decide +kernel
theorem dX5_at_12 : decode cX5_at 12 = .ok (.if_icmp .lt 7, 3) := by decide +kernel
theorem dX5_at_15 : decode cX5_at 15 = .ok (.aconst_null, 1) := by decide +kernel
theorem dX5_at_16 : decode cX5_at 16 = .ok (.goto 14, 3) := by decide +kernel
theorem dX5_at_19 : decode cX5_at 19 = .ok (.aload_n 0, 1) := by decide +kernel
theorem dX5_at_20 : decode cX5_at 20 = .ok (.getfield 12, 3) := by decide +kernel
theorem dX5_at_23 : decode cX5_at 23 = .ok (.iload_n 1, 1) := by decide +kernel
theorem dX5_at_24 : decode cX5_at 24 = .ok (.invokevirtual 22, 3) := by decide +kernel
theorem dX5_at_27 : decode cX5_at 27 = .ok (.checkcast 26, 3) := by decide +kernel
theorem dX5_at_30 : decode cX5_at 30 = .ok (.areturn, 1) := by decide +kernel
theorem dX5_placeOf_0 : decode cX5_placeOf 0 = .ok (.iconst 0, 1) := by decide +kernel
theorem dX5_placeOf_1 : decode cX5_placeOf 1 = .ok (.istore_n 2, 1) := by decide +kernel
theorem dX5_placeOf_2 : decode cX5_placeOf 2 = .ok (.iload_n 2, 1) := by decide +kernel
theorem dX5_placeOf_3 : decode cX5_placeOf 3 = .ok (.aload_n 0, 1) := by decide +kernel
theorem dX5_placeOf_4 : decode cX5_placeOf 4 = .ok (.getfield 12, 3) := by decide +kernel
theorem dX5_placeOf_7 : decode cX5_placeOf 7 = .ok (.invokevirtual 18, 3) := by decide +kernel
theorem dX5_placeOf_10 : decode cX5_placeOf 10 = .ok (.if_icmp .ge 23, 3) := by decide +kernel
theorem dX5_placeOf_13 : decode cX5_placeOf 13 = .ok (.aload_n 0, 1) := by decide +kernel
theorem dX5_placeOf_14 : decode cX5_placeOf 14 = .ok (.getfield 12, 3) := by decide +kernel
theorem dX5_placeOf_17 : decode cX5_placeOf 17 = .ok (.iload_n 2, 1) := by decide +kernel
theorem dX5_placeOf_18 : decode cX5_placeOf 18 = .ok (.invokevirtual 22, 3) := by decide +kernel
theorem dX5_placeOf_21 : decode cX5_placeOf 21 = .ok (.aload_n 1, 1) := by decide +kernel
theorem dX5_placeOf_22 : decode cX5_placeOf 22 = .ok (.if_acmp .ne 5, 3) := by decide +kernel
theorem dX5_placeOf_25 : decode cX5_placeOf 25 = .ok (.iload_n 2, 1) := by decide +kernel
theorem dX5_placeOf_26 : decode cX5_placeOf 26 = .ok (.ireturn, 1) := by decide +kernel
theorem dX5_placeOf_27 : decode cX5_placeOf 27 = .ok (.iinc 2 1, 3) := by decide +kernel
theorem dX5_placeOf_30 : decode cX5_placeOf 30 = .ok (.goto (-28), 3) := by decide +kernel
theorem dX5_placeOf_33 : decode cX5_placeOf 33 = .ok (.iconst (-1), 1) := by decide +kernel
theorem dX5_placeOf_34 : decode cX5_placeOf 34 = .ok (.ireturn, 1) := by decide +kernel
theorem dX5_append_0 : decode cX5_append 0 = .ok (.aload_n 0, 1) := by decide +kernel
theorem dX5_append_1 : decode cX5_append 1 = .ok (.getfield 12, 3) := by decide +kernel
theorem dX5_append_4 : decode cX5_append 4 = .ok (.aload_n 1, 1) := by decide +kernel
theorem dX5_append_5 : decode cX5_append 5 = .ok (.invokevirtual 28, 3) := by decide +kernel
theorem dX5_append_8 : decode cX5_append 8 = .ok (.pop, 1) := by decide +kernel
theorem dX5_append_9 : decode cX5_append 9 = .ok (.return_, 1) := by decide +kernel
theorem dX5_insert_0 : decode cX5_insert 0 = .ok (.iload_n 2, 1) := by decide +kernel
theorem dX5_insert_1 : decode cX5_insert 1 = .ok (.ifCond .lt 14, 3) := by decide +kernel
theorem dX5_insert_4 : decode cX5_insert 4 = .ok (.iload_n 2, 1) := by decide +kernel
theorem dX5_insert_5 : decode cX5_insert 5 = .ok (.aload_n 0, 1) := by decide +kernel
theorem dX5_insert_6 : decode cX5_insert 6 = .ok (.getfield 12, 3) := by decide +kernel
theorem dX5_insert_9 : decode cX5_insert 9 = .ok (.invokevirtual 18, 3) := by decide +kernel
theorem dX5_insert_12 : decode cX5_insert 12 = .ok (.if_icmp .lt 15, 3) := by decide +kernel
theorem dX5_insert_15 : decode cX5_insert 15 = .ok (.aload_n 0, 1) := by decide +kernel
theorem dX5_insert_16 : decode cX5_insert 16 = .ok (.getfield 12, 3) := by decide +kernel
theorem dX5_insert_19 : decode cX5_insert 19 = .ok (.aload_n 1, 1) := by decide +kernel
theorem dX5_insert_20 : decode cX5_insert 20 = .ok (.invokevirtual 28, 3) := by decide +kernel
theorem dX5_insert_23 : decode cX5_insert 23 = .ok (.pop, 1) := by decide +kernel
theorem dX5_insert_24 : decode cX5_insert 24 = .ok (.goto 12, 3) := by decide +kernel
theorem dX5_insert_27 : decode cX5_insert 27 = .ok (.aload_n 0, 1) := by decide +kernel
theorem dX5_insert_28 : decode cX5_insert 28 = .ok (.getfield 12, 3) := by decide +kernel
theorem dX5_insert_31 : decode cX5_insert 31 = .ok (.iload_n 2, 1) := by decide +kernel
theorem dX5_insert_32 : decode cX5_insert 32 = .ok (.aload_n 1, 1) := by decide +kernel
theorem dX5_insert_33 : decode cX5_insert 33 = .ok (.invokevirtual 32, 3) := by decide +kernel
theorem dX5_insert_36 : decode cX5_insert 36 = .ok (.return_, 1) := by decide +kernel
theorem dX5_takeOut_0 : decode cX5_takeOut 0 = .ok (.aload_n 0, 1) := by decide +kernel
theorem dX5_takeOut_1 : decode cX5_takeOut 1 = .ok (.aload_n 1, 1) := by decide +kernel
theorem dX5_takeOut_2 : decode cX5_takeOut 2 = .ok (.invokevirtual 35, 3) := by decide +kernel
theorem dX5_takeOut_5 : decode cX5_takeOut 5 = .ok (.istore_n 2, 1) := by decide +kernel
theorem dX5_takeOut_6 : decode cX5_takeOut 6 = .ok (.iload_n 2, 1) := by decide +kernel
theorem dX5_takeOut_7 : decode cX5_takeOut 7 = .ok (.ifCond .lt 23, 3) := by decide +kernel
theorem dX5_takeOut_10 : decode cX5_takeOut 10 = .ok (.iload_n 2, 1) := by decide +kernel
theorem dX5_takeOut_11 : decode cX5_takeOut 11 = .ok (.aload_n 0, 1) := by decide +kernel
theorem dX5_takeOut_12 : decode cX5_takeOut 12 = .ok (.getfield 12, 3) := by decide +kernel
theorem dX5_takeOut_15 : decode cX5_takeOut 15 = .ok (.invokevirtual 18, 3) := by decide +kernel
theorem dX5_takeOut_18 : decode cX5_takeOut 18 = .ok (.if_icmp .ge 12, 3) := by decide +kernel
theorem dX5_takeOut_21 : decode cX5_takeOut 21 = .ok (.aload_n 0, 1) := by decide +kernel
theorem dX5_takeOut_22 : decode cX5_takeOut 22 = .ok (.getfield 12, 3) := by decide +kernel
theorem dX5_takeOut_25 : decode cX5_takeOut 25 = .ok (.iload_n 2, 1) := by decide +kernel
theorem dX5_takeOut_26 : decode cX5_takeOut 26 = .ok (.invokevirtual 39, 3) := by decide +kernel
theorem dX5_takeOut_29 : decode cX5_takeOut 29 = .ok (.pop, 1) := by decide +kernel
theorem dX5_takeOut_30 : decode cX5_takeOut 30 = .ok (.return_, 1) := by decide +kernel
theorem dX5_moveToEnd_0 : decode cX5_moveToEnd 0 = .ok (.aload_n 0, 1) := by decide +kernel
theorem dX5_moveToEnd_1 : decode cX5_moveToEnd 1 = .ok (.aload_n 1, 1) := by decide +kernel
theorem dX5_moveToEnd_2 : decode cX5_moveToEnd 2 = .ok (.invokevirtual 35, 3) := by decide +kernel
theorem dX5_moveToEnd_5 : decode cX5_moveToEnd 5 = .ok (.istore_n 2, 1) := by decide +kernel
theorem dX5_moveToEnd_6 : decode cX5_moveToEnd 6 = .ok (.iload_n 2, 1) := by decide +kernel
theorem dX5_moveToEnd_7 : decode cX5_moveToEnd 7 = .ok (.ifCond .lt 33, 3) := by decide +kernel
theorem dX5_moveToEnd_10 : decode cX5_moveToEnd 10 = .ok (.iload_n 2, 1) := by decide +kernel
theorem dX5_moveToEnd_11 : decode cX5_moveToEnd 11 = .ok (.aload_n 0, 1) := by decide +kernel
theorem dX5_moveToEnd_12 : decode cX5_moveToEnd 12 = .ok (.getfield 12, 3) := by decide +kernel
theorem dX5_moveToEnd_15 : decode cX5_moveToEnd 15 = .ok (.invokevirtual 18, 3) := by decide +kernel
theorem dX5_moveToEnd_18 : decode cX5_moveToEnd 18 = .ok (.if_icmp .ge 22, 3) := by decide +kernel
theorem dX5_moveToEnd_21 : decode cX5_moveToEnd 21 = .ok (.aload_n 0, 1) := by decide +kernel
theorem dX5_moveToEnd_22 : decode cX5_moveToEnd 22 = .ok (.getfield 12, 3) := by decide +kernel
theorem dX5_moveToEnd_25 : decode cX5_moveToEnd 25 = .ok (.aload_n 0, 1) := by decide +kernel
theorem dX5_moveToEnd_26 : decode cX5_moveToEnd 26 = .ok (.getfield 12, 3) := by decide +kernel
theorem dX5_moveToEnd_29 : decode cX5_moveToEnd 29 = .ok (.iload_n 2, 1) := by decide +kernel
theorem dX5_moveToEnd_30 : decode cX5_moveToEnd 30 = .ok (.invokevirtual 39, 3) := by decide +kernel
theorem dX5_moveToEnd_33 : decode cX5_moveToEnd 33 = .ok (.checkcast 26, 3) := by decide +kernel
theorem dX5_moveToEnd_36 : decode cX5_moveToEnd 36 = .ok (.invokevirtual 28, 3) := by decide +kernel
theorem dX5_moveToEnd_39 : decode cX5_moveToEnd 39 = .ok (.pop, 1) := by decide +kernel
theorem dX5_moveToEnd_40 : decode cX5_moveToEnd 40 = .ok (.return_, 1) := by decide +kernel
theorem dX5_markPlaces_0 : decode cX5_markPlaces 0 = .ok (.iconst 0, 1) := by decide +kernel
theorem dX5_markPlaces_1 : decode cX5_markPlaces 1 = .ok (.istore_n 1, 1) := by decide +kernel
theorem dX5_markPlaces_2 : decode cX5_markPlaces 2 = .ok (.iload_n 1, 1) := by decide +kernel
theorem dX5_markPlaces_3 : decode cX5_markPlaces 3 = .ok (.aload_n 0, 1) := by decide +kernel
theorem dX5_markPlaces_4 : decode cX5_markPlaces 4 = .ok (.getfield 12, 3) := by decide +kernel
theorem dX5_markPlaces_7 : decode cX5_markPlaces 7 = .ok (.invokevirtual 18, 3) := by decide +kernel
theorem dX5_markPlaces_10 : decode cX5_markPlaces 10 = .ok (.if_icmp .ge 27, 3) := by decide +kernel
theorem dX5_markPlaces_13 : decode cX5_markPlaces 13 = .ok (.aload_n 0, 1) := by decide +kernel
theorem dX5_markPlaces_14 : decode cX5_markPlaces 14 = .ok (.getfield 12, 3) := by decide +kernel
theorem dX5_markPlaces_17 : decode cX5_markPlaces 17 = .ok (.iload_n 1, 1) := by decide +kernel
theorem dX5_markPlaces_18 : decode cX5_markPlaces 18 = .ok (.invokevirtual 22, 3) := by decide +kernel
theorem dX5_markPlaces_21 : decode cX5_markPlaces 21 = .ok (.checkcast 26, 3) := by decide +kernel
theorem dX5_markPlaces_24 : decode cX5_markPlaces 24 = .ok (.getfield 42, 3) := by decide +kernel
theorem dX5_markPlaces_27 : decode cX5_markPlaces 27 = .ok (.iload_n 1, 1) := by decide +kernel
theorem dX5_markPlaces_28 : decode cX5_markPlaces 28 = .ok (.putfield 46, 3) := by decide +kernel
theorem dX5_markPlaces_31 : decode cX5_markPlaces 31 = .ok (.iinc 1 1, 3) := by decide +kernel
theorem dX5_markPlaces_34 : decode cX5_markPlaces 34 = .ok (.goto (-32), 3) := by decide +kernel
theorem dX5_markPlaces_37 : decode cX5_markPlaces 37 = .ok (.return_, 1) := by decide +kernel
theorem dX5_copyFrom_0 : decode cX5_copyFrom 0 = .ok (.aload_n 0, 1) := by decide +kernel
theorem dX5_copyFrom_1 : decode cX5_copyFrom 1 = .ok (.getfield 12, 3) := by decide +kernel
theorem dX5_copyFrom_4 : decode cX5_copyFrom 4 = .ok (.invokevirtual 52, 3) := by decide +kernel
theorem dX5_copyFrom_7 : decode cX5_copyFrom 7 = .ok (.iconst 0, 1) := by decide +kernel
theorem dX5_copyFrom_8 : decode cX5_copyFrom 8 = .ok (.istore_n 2, 1) := by decide +kernel
theorem dX5_copyFrom_9 : decode cX5_copyFrom 9 = .ok (.iload_n 2, 1) := by decide +kernel
theorem dX5_copyFrom_10 : decode cX5_copyFrom 10 = .ok (.aload_n 1, 1) := by decide +kernel
theorem dX5_copyFrom_11 : decode cX5_copyFrom 11 = .ok (.getfield 12, 3) := by decide +kernel
theorem dX5_copyFrom_14 : decode cX5_copyFrom 14 = .ok (.invokevirtual 18, 3) := by decide +kernel
theorem dX5_copyFrom_17 : decode cX5_copyFrom 17 = .ok (.if_icmp .ge 28, 3) := by decide +kernel
theorem dX5_copyFrom_20 : decode cX5_copyFrom 20 = .ok (.aload_n 0, 1) := by decide +kernel
theorem dX5_copyFrom_21 : decode cX5_copyFrom 21 = .ok (.getfield 12, 3) := by decide +kernel
theorem dX5_copyFrom_24 : decode cX5_copyFrom 24 = .ok (.aload_n 1, 1) := by decide +kernel
theorem dX5_copyFrom_25 : decode cX5_copyFrom 25 = .ok (.getfield 12, 3) := by decide +kernel
theorem dX5_copyFrom_28 : decode cX5_copyFrom 28 = .ok (.iload_n 2, 1) := by decide +kernel
theorem dX5_copyFrom_29 : decode cX5_copyFrom 29 = .ok (.invokevirtual 22, 3) := by decide +kernel
theorem dX5_copyFrom_32 : decode cX5_copyFrom 32 = .ok (.checkcast 26, 3) := by decide +kernel
theorem dX5_copyFrom_35 : decode cX5_copyFrom 35 = .ok (.invokevirtual 28, 3) := by decide +kernel
theorem dX5_copyFrom_38 : decode cX5_copyFrom 38 = .ok (.pop, 1) := by decide +kernel
theorem dX5_copyFrom_39 : decode cX5_copyFrom 39 = .ok (.iinc 2 1, 3) := by decide +kernel
theorem dX5_copyFrom_42 : decode cX5_copyFrom 42 = .ok (.goto (-33), 3) := by decide +kernel
theorem dX5_copyFrom_45 : decode cX5_copyFrom 45 = .ok (.return_, 1) := by decide +kernel
theorem dX6_init_0 : decode cX6_init 0 = .ok (.aload_n 0, 1) := by decide +kernel
theorem dX6_init_1 : decode cX6_init 1 = .ok (.invokespecial 1, 3) := by decide +kernel
theorem dX6_init_4 : decode cX6_init 4 = .ok (.aload_n 0, 1) := by decide +kernel
theorem dX6_init_5 : decode cX6_init 5 = .ok (.iload_n 1, 1) := by decide +kernel
theorem dX6_init_6 : decode cX6_init 6 = .ok (.putfield 7, 3) := by decide +kernel
theorem dX6_init_9 : decode cX6_init 9 = .ok (.aload_n 0, 1) := by decide +kernel
theorem dX6_init_10 : decode cX6_init 10 = .ok (.iload_n 2, 1) := by decide +kernel
theorem dX6_init_11 : decode cX6_init 11 = .ok (.putfield 13, 3) := by decide +kernel
theorem dX6_init_14 : decode cX6_init 14 = .ok (.aload_n 0, 1) := by decide +kernel
theorem dX6_init_15 : decode cX6_init 15 = .ok (.iload_n 3, 1) := by decide +kernel
theorem dX6_init_16 : decode cX6_init 16 = .ok (.putfield 17, 3) := by decide +kernel
theorem dX6_init_19 : decode cX6_init 19 = .ok (.aload_n 0, 1) := by decide +kernel
theorem dX6_init_20 : decode cX6_init 20 = .ok (.iload 4, 2) := by decide +kernel
theorem dX6_init_22 : decode cX6_init 22 = .ok (.putfield 20, 3) := by decide +kernel
theorem dX6_init_25 : decode cX6_init 25 = .ok (.aload_n 0, 1) := by decide +kernel
theorem dX6_init_26 : decode cX6_init 26 = .ok (.iload 5, 2) := by decide +kernel
theorem dX6_init_28 : decode cX6_init 28 = .ok (.putfield 23, 3) := by decide +kernel
theorem dX6_init_31 : decode cX6_init 31 = .ok (.aload_n 0, 1) := by decide +kernel
theorem dX6_init_32 : decode cX6_init 32 = .ok (.iload 6, 2) := by decide +kernel
theorem dX6_init_34 : decode cX6_init 34 = .ok (.putfield 26, 3) := by decide +kernel
theorem dX6_init_37 : decode cX6_init 37 = .ok (.aload_n 0, 1) := by decide +kernel
theorem dX6_init_38 : decode cX6_init 38 = .ok (.iload 7, 2) := by decide +kernel
theorem dX6_init_40 : decode cX6_init 40 = .ok (.putfield 29, 3) := by decide +kernel
theorem dX6_init_43 : decode cX6_init 43 = .ok (.aload_n 0, 1) := by decide +kernel
theorem dX6_init_44 : decode cX6_init 44 = .ok (.new 32, 3) := by decide +kernel
theorem dX6_init_47 : decode cX6_init 47 = .ok (.dup, 1) := by decide +kernel
theorem dX6_init_48 : decode cX6_init 48 = .ok (.invokespecial 34, 3) := by decide +kernel
theorem dX6_init_51 : decode cX6_init 51 = .ok (.putfield 35, 3) := by decide +kernel
theorem dX6_init_54 : decode cX6_init 54 = .ok (.aload_n 0, 1) := by decide +kernel
theorem dX6_init_55 : decode cX6_init 55 = .ok (.new 32, 3) := by decide +kernel
theorem dX6_init_58 : decode cX6_init 58 = .ok (.dup, 1) := by decide +kernel
theorem dX6_init_59 : decode cX6_init 59 = .ok (.invokespecial 34, 3) := by decide +kernel
theorem dX6_init_62 : decode cX6_init 62 = .ok (.putfield 39, 3) := by decide +kernel
theorem dX6_init_65 : decode cX6_init 65 = .ok (.return_, 1) := by decide +kernel
theorem dX6_hoursToLead_0 : decode cX6_hoursToLead 0 = .ok (.iconst 1, 1) := by decide +kernel
theorem dX6_hoursToLead_1 : decode cX6_hoursToLead 1 = .ok (.aload_n 0, 1) := by decide +kernel
theorem dX6_hoursToLead_2 : decode cX6_hoursToLead 2 = .ok (.getfield 17, 3) := by decide +kernel
theorem dX6_hoursToLead_5 : decode cX6_hoursToLead 5 = .ok (.bipush 100, 2) := by decide +kernel
theorem dX6_hoursToLead_7 : decode cX6_hoursToLead 7 = .ok (.idiv, 1) := by decide +kernel
theorem dX6_hoursToLead_8 : decode cX6_hoursToLead 8 = .ok (.iadd, 1) := by decide +kernel
theorem dX6_hoursToLead_9 : decode cX6_hoursToLead 9 = .ok (.ireturn, 1) := by decide +kernel
theorem dX7_init_0 : decode cX7_init 0 = .ok (.aload_n 0, 1) := by decide +kernel
theorem dX7_init_1 : decode cX7_init 1 = .ok (.invokespecial 3, 3) := by decide +kernel
theorem dX7_init_4 : decode cX7_init 4 = .ok (.aload_n 0, 1) := by decide +kernel
theorem dX7_init_5 : decode cX7_init 5 = .ok (.sipush 9600, 3) := by decide +kernel
theorem dX7_init_8 : decode cX7_init 8 = .ok (.newarray .int, 2) := by decide +kernel
theorem dX7_init_10 : decode cX7_init 10 = .ok (.putfield 9, 3) := by decide +kernel
theorem dX7_init_13 : decode cX7_init 13 = .ok (.aload_n 0, 1) := by decide +kernel
theorem dX7_init_14 : decode cX7_init 14 = .ok (.sipush 400, 3) := by decide +kernel
theorem dX7_init_17 : decode cX7_init 17 = .ok (.newarray .int, 2) := by decide +kernel
theorem dX7_init_19 : decode cX7_init 19 = .ok (.putfield 15, 3) := by decide +kernel
theorem dX7_init_22 : decode cX7_init 22 = .ok (.return_, 1) := by decide +kernel
theorem dX7_toldOn_0 : decode cX7_toldOn 0 = .ok (.iload_n 1, 1) := by decide +kernel
theorem dX7_toldOn_1 : decode cX7_toldOn 1 = .ok (.ifCond .lt 12, 3) := by decide +kernel
theorem dX7_toldOn_4 : decode cX7_toldOn 4 = .ok (.iload_n 1, 1) := by decide +kernel
theorem dX7_toldOn_5 : decode cX7_toldOn 5 = .ok (.aload_n 0, 1) := by decide +kernel
theorem dX7_toldOn_6 : decode cX7_toldOn 6 = .ok (.getfield 15, 3) := by decide +kernel
theorem dX7_toldOn_9 : decode cX7_toldOn 9 = .ok (.arraylength, 1) := by decide +kernel
theorem dX7_toldOn_10 : decode cX7_toldOn 10 = .ok (.if_icmp .lt 7, 3) := by decide +kernel
theorem dX7_toldOn_13 : decode cX7_toldOn 13 = .ok (.iconst 0, 1) := by decide +kernel
theorem dX7_toldOn_14 : decode cX7_toldOn 14 = .ok (.goto 9, 3) := by decide +kernel
theorem dX7_toldOn_17 : decode cX7_toldOn 17 = .ok (.aload_n 0, 1) := by decide +kernel
theorem dX7_toldOn_18 : decode cX7_toldOn 18 = .ok (.getfield 15, 3) := by decide +kernel
theorem dX7_toldOn_21 : decode cX7_toldOn 21 = .ok (.iload_n 1, 1) := by decide +kernel
theorem dX7_toldOn_22 : decode cX7_toldOn 22 = .ok (.iaload, 1) := by decide +kernel
theorem dX7_toldOn_23 : decode cX7_toldOn 23 = .ok (.ireturn, 1) := by decide +kernel
theorem dX7_tell_0 : decode cX7_tell 0 = .ok (.iload_n 1, 1) := by decide +kernel
theorem dX7_tell_1 : decode cX7_tell 1 = .ok (.ifCond .lt 23, 3) := by decide +kernel
theorem dX7_tell_4 : decode cX7_tell 4 = .ok (.iload_n 1, 1) := by decide +kernel
theorem dX7_tell_5 : decode cX7_tell 5 = .ok (.aload_n 0, 1) := by decide +kernel
theorem dX7_tell_6 : decode cX7_tell 6 = .ok (.getfield 15, 3) := by decide +kernel
theorem dX7_tell_9 : decode cX7_tell 9 = .ok (.arraylength, 1) := by decide +kernel
theorem dX7_tell_10 : decode cX7_tell 10 = .ok (.if_icmp .ge 14, 3) := by decide +kernel
theorem dX7_tell_13 : decode cX7_tell 13 = .ok (.aload_n 0, 1) := by decide +kernel
theorem dX7_tell_14 : decode cX7_tell 14 = .ok (.getfield 15, 3) := by decide +kernel
theorem dX7_tell_17 : decode cX7_tell 17 = .ok (.iload_n 1, 1) := by decide +kernel
theorem dX7_tell_18 : decode cX7_tell 18 = .ok (.iaload, 1) := by decide +kernel
theorem dX7_tell_19 : decode cX7_tell 19 = .ok (.bipush 24, 2) := by decide +kernel
theorem dX7_tell_21 : decode cX7_tell 21 = .ok (.if_icmp .lt 4, 3) := by decide +kernel
theorem dX7_tell_24 : decode cX7_tell 24 = .ok (.return_, 1) := by decide +kernel
theorem dX7_tell_25 : decode cX7_tell 25 = .ok (.iload_n 1, 1) := by decide +kernel
theorem dX7_tell_26 : decode cX7_tell 26 = .ok (.bipush 24, 2) := by decide +kernel
theorem dX7_tell_28 : decode cX7_tell 28 = .ok (.imul, 1) := by decide +kernel
theorem dX7_tell_29 : decode cX7_tell 29 = .ok (.aload_n 0, 1) := by decide +kernel
theorem dX7_tell_30 : decode cX7_tell 30 = .ok (.getfield 15, 3) := by decide +kernel
theorem dX7_tell_33 : decode cX7_tell 33 = .ok (.iload_n 1, 1) := by decide +kernel
theorem dX7_tell_34 : decode cX7_tell 34 = .ok (.iaload, 1) := by decide +kernel
theorem dX7_tell_35 : decode cX7_tell 35 = .ok (.iadd, 1) := by decide +kernel
theorem dX7_tell_36 : decode cX7_tell 36 = .ok (.istore_n 3, 1) := by decide +kernel
theorem dX7_tell_37 : decode cX7_tell 37 = .ok (.iload_n 3, 1) := by decide +kernel
theorem dX7_tell_38 : decode cX7_tell 38 = .ok (.ifCond .lt 29, 3) := by decide +kernel
theorem dX7_tell_41 : decode cX7_tell 41 = .ok (.iload_n 3, 1) := by decide +kernel
theorem dX7_tell_42 : decode cX7_tell 42 = .ok (.aload_n 0, 1) := by decide +kernel
theorem dX7_tell_43 : decode cX7_tell 43 = .ok (.getfield 9, 3) := by decide +kernel
theorem dX7_tell_46 : decode cX7_tell 46 = .ok (.arraylength, 1) := by decide +kernel
theorem dX7_tell_47 : decode cX7_tell 47 = .ok (.if_icmp .ge 20, 3) := by decide +kernel
theorem dX7_tell_50 : decode cX7_tell 50 = .ok (.aload_n 0, 1) := by decide +kernel
theorem dX7_tell_51 : decode cX7_tell 51 = .ok (.getfield 9, 3) := by decide +kernel
theorem dX7_tell_54 : decode cX7_tell 54 = .ok (.iload_n 3, 1) := by decide +kernel
theorem dX7_tell_55 : decode cX7_tell 55 = .ok (.iload_n 2, 1) := by decide +kernel
theorem dX7_tell_56 : decode cX7_tell 56 = .ok (.iastore, 1) := by decide +kernel
theorem dX7_tell_57 : decode cX7_tell 57 = .ok (.aload_n 0, 1) := by decide +kernel
theorem dX7_tell_58 : decode cX7_tell 58 = .ok (.getfield 15, 3) := by decide +kernel
theorem dX7_tell_61 : decode cX7_tell 61 = .ok (.iload_n 1, 1) := by decide +kernel
theorem dX7_tell_62 : decode cX7_tell 62 = .ok (.dup2, 1) := by decide +kernel
theorem dX7_tell_63 : decode cX7_tell 63 = .ok (.iaload, 1) := by decide +kernel
theorem dX7_tell_64 : decode cX7_tell 64 = .ok (.iconst 1, 1) := by decide +kernel
theorem dX7_tell_65 : decode cX7_tell 65 = .ok (.iadd, 1) := by decide +kernel
theorem dX7_tell_66 : decode cX7_tell 66 = .ok (.iastore, 1) := by decide +kernel
theorem dX7_tell_67 : decode cX7_tell 67 = .ok (.return_, 1) := by decide +kernel
theorem dX7_forget_0 : decode cX7_forget 0 = .ok (.iload_n 1, 1) := by decide +kernel
theorem dX7_forget_1 : decode cX7_forget 1 = .ok (.ifCond .lt 19, 3) := by decide +kernel
theorem dX7_forget_4 : decode cX7_forget 4 = .ok (.iload_n 1, 1) := by decide +kernel
theorem dX7_forget_5 : decode cX7_forget 5 = .ok (.aload_n 0, 1) := by decide +kernel
theorem dX7_forget_6 : decode cX7_forget 6 = .ok (.getfield 15, 3) := by decide +kernel
theorem dX7_forget_9 : decode cX7_forget 9 = .ok (.arraylength, 1) := by decide +kernel
theorem dX7_forget_10 : decode cX7_forget 10 = .ok (.if_icmp .ge 10, 3) := by decide +kernel
theorem dX7_forget_13 : decode cX7_forget 13 = .ok (.aload_n 0, 1) := by decide +kernel
theorem dX7_forget_14 : decode cX7_forget 14 = .ok (.getfield 15, 3) := by decide +kernel
theorem dX7_forget_17 : decode cX7_forget 17 = .ok (.iload_n 1, 1) := by decide +kernel
theorem dX7_forget_18 : decode cX7_forget 18 = .ok (.iconst 0, 1) := by decide +kernel
theorem dX7_forget_19 : decode cX7_forget 19 = .ok (.iastore, 1) := by decide +kernel
theorem dX7_forget_20 : decode cX7_forget 20 = .ok (.return_, 1) := by decide +kernel
theorem dX7_letThrough_0 : decode cX7_letThrough 0 = .ok (.iload_n 2, 1) := by decide +kernel
theorem dX7_letThrough_1 : decode cX7_letThrough 1 = .ok (.ifCond .lt 12, 3) := by decide +kernel
theorem dX7_letThrough_4 : decode cX7_letThrough 4 = .ok (.iload_n 2, 1) := by decide +kernel
theorem dX7_letThrough_5 : decode cX7_letThrough 5 = .ok (.aload_n 0, 1) := by decide +kernel
theorem dX7_letThrough_6 : decode cX7_letThrough 6 = .ok (.getfield 9, 3) := by decide +kernel
theorem dX7_letThrough_9 : decode cX7_letThrough 9 = .ok (.arraylength, 1) := by decide +kernel
theorem dX7_letThrough_10 : decode cX7_letThrough 10 = .ok (.if_icmp .lt 5, 3) := by decide +kernel
theorem dX7_letThrough_13 : decode cX7_letThrough 13 = .ok (.iconst 0, 1) := by decide +kernel
theorem dX7_letThrough_14 : decode cX7_letThrough 14 = .ok (.ireturn, 1) := by decide +kernel
theorem dX7_letThrough_15 : decode cX7_letThrough 15 = .ok (.iload_n 2, 1) := by decide +kernel
theorem dX7_letThrough_16 : decode cX7_letThrough 16 = .ok (.bipush 24, 2) := by decide +kernel
theorem dX7_letThrough_18 : decode cX7_letThrough 18 = .ok (.irem, 1) := by decide +kernel
theorem dX7_letThrough_19 : decode cX7_letThrough 19 = .ok (.aload_n 0, 1) := by decide +kernel
theorem dX7_letThrough_20 : decode cX7_letThrough 20 = .ok (.iload_n 2, 1) := by decide +kernel
theorem dX7_letThrough_21 : decode cX7_letThrough 21 = .ok (.bipush 24, 2) := by decide +kernel
theorem dX7_letThrough_23 : decode cX7_letThrough 23 = .ok (.idiv, 1) := by decide +kernel
theorem dX7_letThrough_24 : decode cX7_letThrough 24 = .ok (.invokevirtual 18, 3) := by decide +kernel
theorem dX7_letThrough_27 : decode cX7_letThrough 27 = .ok (.if_icmp .ge 17, 3) := by decide +kernel
theorem dX7_letThrough_30 : decode cX7_letThrough 30 = .ok (.iload_n 1, 1) := by decide +kernel
theorem dX7_letThrough_31 : decode cX7_letThrough 31 = .ok (.aload_n 0, 1) := by decide +kernel
theorem dX7_letThrough_32 : decode cX7_letThrough 32 = .ok (.getfield 9, 3) := by decide +kernel
theorem dX7_letThrough_35 : decode cX7_letThrough 35 = .ok (.iload_n 2, 1) := by decide +kernel
theorem dX7_letThrough_36 : decode cX7_letThrough 36 = .ok (.iaload, 1) := by decide +kernel
theorem dX7_letThrough_37 : decode cX7_letThrough 37 = .ok (.if_icmp .gt 7, 3) := by decide +kernel
theorem dX7_letThrough_40 : decode cX7_letThrough 40 = .ok (.iconst 1, 1) := by decide +kernel
theorem dX7_letThrough_41 : decode cX7_letThrough 41 = .ok (.goto 4, 3) := by decide +kernel
theorem dX7_letThrough_44 : decode cX7_letThrough 44 = .ok (.iconst 0, 1) := by decide +kernel
theorem dX7_letThrough_45 : decode cX7_letThrough 45 = .ok (.ireturn, 1) := by decide +kernel
theorem dX8_init_0 : decode cX8_init 0 = .ok (.aload_n 0, 1) := by decide +kernel
theorem dX8_init_1 : decode cX8_init 1 = .ok (.invokespecial 3, 3) := by decide +kernel
theorem dX8_init_4 : decode cX8_init 4 = .ok (.aload_n 0, 1) := by decide +kernel
theorem dX8_init_5 : decode cX8_init 5 = .ok (.iconst 0, 1) := by decide +kernel
theorem dX8_init_6 : decode cX8_init 6 = .ok (.putfield 9, 3) := by decide +kernel
theorem dX8_init_9 : decode cX8_init 9 = .ok (.aload_n 0, 1) := by decide +kernel
theorem dX8_init_10 : decode cX8_init 10 = .ok (.iconst (-1), 1) := by decide +kernel
theorem dX8_init_11 : decode cX8_init 11 = .ok (.putfield 15, 3) := by decide +kernel
theorem dX8_init_14 : decode cX8_init 14 = .ok (.aload_n 0, 1) := by decide +kernel
theorem dX8_init_15 : decode cX8_init 15 = .ok (.aconst_null, 1) := by decide +kernel
theorem dX8_init_16 : decode cX8_init 16 = .ok (.putfield 18, 3) := by decide +kernel
theorem dX8_init_19 : decode cX8_init 19 = .ok (.aload_n 0, 1) := by decide +kernel
theorem dX8_init_20 : decode cX8_init 20 = .ok (.aconst_null, 1) := by decide +kernel
theorem dX8_init_21 : decode cX8_init 21 = .ok (.putfield 22, 3) := by decide +kernel
theorem dX8_init_24 : decode cX8_init 24 = .ok (.aload_n 0, 1) := by decide +kernel
theorem dX8_init_25 : decode cX8_init 25 = .ok (.aconst_null, 1) := by decide +kernel
theorem dX8_init_26 : decode cX8_init 26 = .ok (.putfield 25, 3) := by decide +kernel
theorem dX8_init_29 : decode cX8_init 29 = .ok (.aload_n 0, 1) := by decide +kernel
theorem dX8_init_30 : decode cX8_init 30 = .ok (.iconst 0, 1) := by decide +kernel
theorem dX8_init_31 : decode cX8_init 31 = .ok (.putfield 28, 3) := by decide +kernel
theorem dX8_init_34 : decode cX8_init 34 = .ok (.aload_n 0, 1) := by decide +kernel
theorem dX8_init_35 : decode cX8_init 35 = .ok (.iconst 0, 1) := by decide +kernel
theorem dX8_init_36 : decode cX8_init 36 = .ok (.putfield 31, 3) := by decide +kernel
theorem dX8_init_39 : decode cX8_init 39 = .ok (.aload_n 0, 1) := by decide +kernel
theorem dX8_init_40 : decode cX8_init 40 = .ok (.iconst 0, 1) := by decide +kernel
theorem dX8_init_41 : decode cX8_init 41 = .ok (.putfield 34, 3) := by decide +kernel
theorem dX8_init_44 : decode cX8_init 44 = .ok (.return_, 1) := by decide +kernel
theorem dX8_aboardFromPlace_0 : decode cX8_aboardFromPlace 0 = .ok (.aload_n 0, 1) := by decide +kernel
theorem dX8_aboardFromPlace_1 : decode cX8_aboardFromPlace 1 = .ok (.getfield 18, 3) := by decide +kernel
theorem dX8_aboardFromPlace_4 : decode cX8_aboardFromPlace 4 = .ok (.ifnull 22, 3) := by decide +kernel
theorem dX8_aboardFromPlace_7 : decode cX8_aboardFromPlace 7 = .ok (.aload_n 0, 1) := by decide +kernel
theorem dX8_aboardFromPlace_8 : decode cX8_aboardFromPlace 8 = .ok (.getfield 18, 3) := by decide +kernel
theorem dX8_aboardFromPlace_11 : decode cX8_aboardFromPlace 11 = .ok (.getfield 37, 3) := by decide +kernel
theorem dX8_aboardFromPlace_14 : decode cX8_aboardFromPlace 14 = .ok (.getfield 43, 3) := by decide +kernel
theorem dX8_aboardFromPlace_17 : decode cX8_aboardFromPlace 17 = .ok (.iload_n 1, 1) := by decide +kernel
theorem dX8_aboardFromPlace_18 : decode cX8_aboardFromPlace 18 = .ok (.if_icmp .ne 8, 3) := by decide +kernel
theorem dX8_aboardFromPlace_21 : decode cX8_aboardFromPlace 21 = .ok (.aload_n 0, 1) := by decide +kernel
theorem dX8_aboardFromPlace_22 : decode cX8_aboardFromPlace 22 = .ok (.getfield 18, 3) := by decide +kernel
theorem dX8_aboardFromPlace_25 : decode cX8_aboardFromPlace 25 = .ok (.areturn, 1) := by decide +kernel
theorem dX8_aboardFromPlace_26 : decode cX8_aboardFromPlace 26 = .ok (.aload_n 0, 1) := by decide +kernel
theorem dX8_aboardFromPlace_27 : decode cX8_aboardFromPlace 27 = .ok (.getfield 22, 3) := by decide +kernel
theorem dX8_aboardFromPlace_30 : decode cX8_aboardFromPlace 30 = .ok (.ifnull 22, 3) := by decide +kernel
theorem dX8_aboardFromPlace_33 : decode cX8_aboardFromPlace 33 = .ok (.aload_n 0, 1) := by decide +kernel
theorem dX8_aboardFromPlace_34 : decode cX8_aboardFromPlace 34 = .ok (.getfield 22, 3) := by decide +kernel
theorem dX8_aboardFromPlace_37 : decode cX8_aboardFromPlace 37 = .ok (.getfield 37, 3) := by decide +kernel
theorem dX8_aboardFromPlace_40 : decode cX8_aboardFromPlace 40 = .ok (.getfield 43, 3) := by decide +kernel
theorem dX8_aboardFromPlace_43 : decode cX8_aboardFromPlace 43 = .ok (.iload_n 1, 1) := by decide +kernel
theorem dX8_aboardFromPlace_44 : decode cX8_aboardFromPlace 44 = .ok (.if_icmp .ne 8, 3) := by decide +kernel
theorem dX8_aboardFromPlace_47 : decode cX8_aboardFromPlace 47 = .ok (.aload_n 0, 1) := by decide +kernel
theorem dX8_aboardFromPlace_48 : decode cX8_aboardFromPlace 48 = .ok (.getfield 22, 3) := by decide +kernel
theorem dX8_aboardFromPlace_51 : decode cX8_aboardFromPlace 51 = .ok (.areturn, 1) := by decide +kernel
theorem dX8_aboardFromPlace_52 : decode cX8_aboardFromPlace 52 = .ok (.aload_n 0, 1) := by decide +kernel
theorem dX8_aboardFromPlace_53 : decode cX8_aboardFromPlace 53 = .ok (.getfield 25, 3) := by decide +kernel
theorem dX8_aboardFromPlace_56 : decode cX8_aboardFromPlace 56 = .ok (.ifnull 22, 3) := by decide +kernel
theorem dX8_aboardFromPlace_59 : decode cX8_aboardFromPlace 59 = .ok (.aload_n 0, 1) := by decide +kernel
theorem dX8_aboardFromPlace_60 : decode cX8_aboardFromPlace 60 = .ok (.getfield 25, 3) := by decide +kernel
theorem dX8_aboardFromPlace_63 : decode cX8_aboardFromPlace 63 = .ok (.getfield 37, 3) := by decide +kernel
theorem dX8_aboardFromPlace_66 : decode cX8_aboardFromPlace 66 = .ok (.getfield 43, 3) := by decide +kernel
theorem dX8_aboardFromPlace_69 : decode cX8_aboardFromPlace 69 = .ok (.iload_n 1, 1) := by decide +kernel
theorem dX8_aboardFromPlace_70 : decode cX8_aboardFromPlace 70 = .ok (.if_icmp .ne 8, 3) := by decide +kernel
theorem dX8_aboardFromPlace_73 : decode cX8_aboardFromPlace 73 = .ok (.aload_n 0, 1) := by decide +kernel
theorem dX8_aboardFromPlace_74 : decode cX8_aboardFromPlace 74 = .ok (.getfield 25, 3) := by decide +kernel
theorem dX8_aboardFromPlace_77 : decode cX8_aboardFromPlace 77 = .ok (.areturn, 1) := by decide +kernel
theorem dX8_aboardFromPlace_78 : decode cX8_aboardFromPlace 78 = .ok (.aconst_null, 1) := by decide +kernel
theorem dX8_aboardFromPlace_79 : decode cX8_aboardFromPlace 79 = .ok (.areturn, 1) := by decide +kernel
theorem dX8_turnBack_0 : decode cX8_turnBack 0 = .ok (.aload_n 0, 1) := by decide +kernel
theorem dX8_turnBack_1 : decode cX8_turnBack 1 = .ok (.iconst 3, 1) := by decide +kernel
theorem dX8_turnBack_2 : decode cX8_turnBack 2 = .ok (.putfield 9, 3) := by decide +kernel
theorem dX8_turnBack_5 : decode cX8_turnBack 5 = .ok (.aload_n 0, 1) := by decide +kernel
theorem dX8_turnBack_6 : decode cX8_turnBack 6 = .ok (.aconst_null, 1) := by decide +kernel
theorem dX8_turnBack_7 : decode cX8_turnBack 7 = .ok (.putfield 18, 3) := by decide +kernel
theorem dX8_turnBack_10 : decode cX8_turnBack 10 = .ok (.aload_n 0, 1) := by decide +kernel
theorem dX8_turnBack_11 : decode cX8_turnBack 11 = .ok (.aconst_null, 1) := by decide +kernel
theorem dX8_turnBack_12 : decode cX8_turnBack 12 = .ok (.putfield 22, 3) := by decide +kernel
theorem dX8_turnBack_15 : decode cX8_turnBack 15 = .ok (.aload_n 0, 1) := by decide +kernel
theorem dX8_turnBack_16 : decode cX8_turnBack 16 = .ok (.aconst_null, 1) := by decide +kernel
theorem dX8_turnBack_17 : decode cX8_turnBack 17 = .ok (.putfield 25, 3) := by decide +kernel
theorem dX8_turnBack_20 : decode cX8_turnBack 20 = .ok (.return_, 1) := by decide +kernel
theorem dX8_copyFrom_0 : decode cX8_copyFrom 0 = .ok (.aload_n 0, 1) := by decide +kernel
theorem dX8_copyFrom_1 : decode cX8_copyFrom 1 = .ok (.aload_n 1, 1) := by decide +kernel
theorem dX8_copyFrom_2 : decode cX8_copyFrom 2 = .ok (.getfield 9, 3) := by decide +kernel
theorem dX8_copyFrom_5 : decode cX8_copyFrom 5 = .ok (.putfield 9, 3) := by decide +kernel
theorem dX8_copyFrom_8 : decode cX8_copyFrom 8 = .ok (.aload_n 0, 1) := by decide +kernel
theorem dX8_copyFrom_9 : decode cX8_copyFrom 9 = .ok (.aload_n 1, 1) := by decide +kernel
theorem dX8_copyFrom_10 : decode cX8_copyFrom 10 = .ok (.getfield 15, 3) := by decide +kernel
theorem dX8_copyFrom_13 : decode cX8_copyFrom 13 = .ok (.putfield 15, 3) := by decide +kernel
theorem dX8_copyFrom_16 : decode cX8_copyFrom 16 = .ok (.aload_n 0, 1) := by decide +kernel
theorem dX8_copyFrom_17 : decode cX8_copyFrom 17 = .ok (.aload_n 1, 1) := by decide +kernel
theorem dX8_copyFrom_18 : decode cX8_copyFrom 18 = .ok (.getfield 18, 3) := by decide +kernel
theorem dX8_copyFrom_21 : decode cX8_copyFrom 21 = .ok (.putfield 18, 3) := by decide +kernel
theorem dX8_copyFrom_24 : decode cX8_copyFrom 24 = .ok (.aload_n 0, 1) := by decide +kernel
theorem dX8_copyFrom_25 : decode cX8_copyFrom 25 = .ok (.aload_n 1, 1) := by decide +kernel
theorem dX8_copyFrom_26 : decode cX8_copyFrom 26 = .ok (.getfield 22, 3) := by decide +kernel
theorem dX8_copyFrom_29 : decode cX8_copyFrom 29 = .ok (.putfield 22, 3) := by decide +kernel
theorem dX8_copyFrom_32 : decode cX8_copyFrom 32 = .ok (.aload_n 0, 1) := by decide +kernel
theorem dX8_copyFrom_33 : decode cX8_copyFrom 33 = .ok (.aload_n 1, 1) := by decide +kernel
theorem dX8_copyFrom_34 : decode cX8_copyFrom 34 = .ok (.getfield 25, 3) := by decide +kernel
theorem dX8_copyFrom_37 : decode cX8_copyFrom 37 = .ok (.putfield 25, 3) := by decide +kernel
theorem dX8_copyFrom_40 : decode cX8_copyFrom 40 = .ok (.aload_n 0, 1) := by decide +kernel
theorem dX8_copyFrom_41 : decode cX8_copyFrom 41 = .ok (.aload_n 1, 1) := by decide +kernel
theorem dX8_copyFrom_42 : decode cX8_copyFrom 42 = .ok (.getfield 28, 3) := by decide +kernel
theorem dX8_copyFrom_45 : decode cX8_copyFrom 45 = .ok (.putfield 28, 3) := by decide +kernel
theorem dX8_copyFrom_48 : decode cX8_copyFrom 48 = .ok (.aload_n 0, 1) := by decide +kernel
theorem dX8_copyFrom_49 : decode cX8_copyFrom 49 = .ok (.aload_n 1, 1) := by decide +kernel
theorem dX8_copyFrom_50 : decode cX8_copyFrom 50 = .ok (.getfield 31, 3) := by decide +kernel
theorem dX8_copyFrom_53 : decode cX8_copyFrom 53 = .ok (.putfield 31, 3) := by decide +kernel
theorem dX8_copyFrom_56 : decode cX8_copyFrom 56 = .ok (.aload_n 0, 1) := by decide +kernel
theorem dX8_copyFrom_57 : decode cX8_copyFrom 57 = .ok (.aload_n 1, 1) := by decide +kernel
theorem dX8_copyFrom_58 : decode cX8_copyFrom 58 = .ok (.getfield 34, 3) := by decide +kernel
theorem dX8_copyFrom_61 : decode cX8_copyFrom 61 = .ok (.putfield 34, 3) := by decide +kernel
theorem dX8_copyFrom_64 : decode cX8_copyFrom 64 = .ok (.return_, 1) := by decide +kernel
theorem dX9_init_0 : decode cX9_init 0 = .ok (.aload_n 0, 1) := by decide +kernel
theorem dX9_init_1 : decode cX9_init 1 = .ok (.invokespecial 3, 3) := by decide +kernel
theorem dX9_init_4 : decode cX9_init 4 = .ok (.aload_n 0, 1) := by decide +kernel
theorem dX9_init_5 : decode cX9_init 5 = .ok (.new 9, 3) := by decide +kernel
theorem dX9_init_8 : decode cX9_init 8 = .ok (.dup, 1) := by decide +kernel
theorem dX9_init_9 : decode cX9_init 9 = .ok (.invokespecial 11, 3) := by decide +kernel
theorem dX9_init_12 : decode cX9_init 12 = .ok (.putfield 12, 3) := by decide +kernel
theorem dX9_init_15 : decode cX9_init 15 = .ok (.aload_n 0, 1) := by decide +kernel
theorem dX9_init_16 : decode cX9_init 16 = .ok (.new 9, 3) := by decide +kernel
theorem dX9_init_19 : decode cX9_init 19 = .ok (.dup, 1) := by decide +kernel
theorem dX9_init_20 : decode cX9_init 20 = .ok (.invokespecial 11, 3) := by decide +kernel
theorem dX9_init_23 : decode cX9_init 23 = .ok (.putfield 16, 3) := by decide +kernel
theorem dX9_init_26 : decode cX9_init 26 = .ok (.aload_n 0, 1) := by decide +kernel
theorem dX9_init_27 : decode cX9_init 27 = .ok (.new 9, 3) := by decide +kernel
theorem dX9_init_30 : decode cX9_init 30 = .ok (.dup, 1) := by decide +kernel
theorem dX9_init_31 : decode cX9_init 31 = .ok (.invokespecial 11, 3) := by decide +kernel
theorem dX9_init_34 : decode cX9_init 34 = .ok (.putfield 19, 3) := by decide +kernel
theorem dX9_init_37 : decode cX9_init 37 = .ok (.aload_n 0, 1) := by decide +kernel
theorem dX9_init_38 : decode cX9_init 38 = .ok (.new 22, 3) := by decide +kernel
theorem dX9_init_41 : decode cX9_init 41 = .ok (.dup, 1) := by decide +kernel
theorem dX9_init_42 : decode cX9_init 42 = .ok (.invokespecial 24, 3) := by decide +kernel
theorem dX9_init_45 : decode cX9_init 45 = .ok (.putfield 25, 3) := by decide +kernel
theorem dX9_init_48 : decode cX9_init 48 = .ok (.aload_n 0, 1) := by decide +kernel
theorem dX9_init_49 : decode cX9_init 49 = .ok (.new 29, 3) := by decide +kernel
theorem dX9_init_52 : decode cX9_init 52 = .ok (.dup, 1) := by decide +kernel
theorem dX9_init_53 : decode cX9_init 53 = .ok (.invokespecial 31, 3) := by decide +kernel
theorem dX9_init_56 : decode cX9_init 56 = .ok (.putfield 32, 3) := by decide +kernel
theorem dX9_init_59 : decode cX9_init 59 = .ok (.aload_n 0, 1) := by decide +kernel
theorem dX9_init_60 : decode cX9_init 60 = .ok (.new 36, 3) := by decide +kernel
theorem dX9_init_63 : decode cX9_init 63 = .ok (.dup, 1) := by decide +kernel
theorem dX9_init_64 : decode cX9_init 64 = .ok (.invokespecial 38, 3) := by decide +kernel
theorem dX9_init_67 : decode cX9_init 67 = .ok (.putfield 39, 3) := by decide +kernel
theorem dX9_init_70 : decode cX9_init 70 = .ok (.aload_n 0, 1) := by decide +kernel
theorem dX9_init_71 : decode cX9_init 71 = .ok (.new 43, 3) := by decide +kernel
theorem dX9_init_74 : decode cX9_init 74 = .ok (.dup, 1) := by decide +kernel
theorem dX9_init_75 : decode cX9_init 75 = .ok (.invokespecial 45, 3) := by decide +kernel
theorem dX9_init_78 : decode cX9_init 78 = .ok (.putfield 46, 3) := by decide +kernel
theorem dX9_init_81 : decode cX9_init 81 = .ok (.aload_n 0, 1) := by decide +kernel
theorem dX9_init_82 : decode cX9_init 82 = .ok (.new 43, 3) := by decide +kernel
theorem dX9_init_85 : decode cX9_init 85 = .ok (.dup, 1) := by decide +kernel
theorem dX9_init_86 : decode cX9_init 86 = .ok (.invokespecial 45, 3) := by decide +kernel
theorem dX9_init_89 : decode cX9_init 89 = .ok (.putfield 50, 3) := by decide +kernel
theorem dX9_init_92 : decode cX9_init 92 = .ok (.aload_n 0, 1) := by decide +kernel
theorem dX9_init_93 : decode cX9_init 93 = .ok (.new 43, 3) := by decide +kernel
theorem dX9_init_96 : decode cX9_init 96 = .ok (.dup, 1) := by decide +kernel
theorem dX9_init_97 : decode cX9_init 97 = .ok (.invokespecial 45, 3) := by decide +kernel
theorem dX9_init_100 : decode cX9_init 100 = .ok (.putfield 53, 3) := by decide +kernel
theorem dX9_init_103 : decode cX9_init 103 = .ok (.aload_n 0, 1) := by decide +kernel
theorem dX9_init_104 : decode cX9_init 104 = .ok (.new 56, 3) := by decide +kernel
theorem dX9_init_107 : decode cX9_init 107 = .ok (.dup, 1) := by decide +kernel
theorem dX9_init_108 : decode cX9_init 108 = .ok (.invokespecial 58, 3) := by decide +kernel
theorem dX9_init_111 : decode cX9_init 111 = .ok (.putfield 59, 3) := by decide +kernel
theorem dX9_init_114 : decode cX9_init 114 = .ok (.aload_n 0, 1) := by decide +kernel
theorem dX9_init_115 : decode cX9_init 115 = .ok (.iconst 0, 1) := by decide +kernel
theorem dX9_init_116 : decode cX9_init 116 = .ok (.putfield 63, 3) := by decide +kernel
theorem dX9_init_119 : decode cX9_init 119 = .ok (.aload_n 0, 1) := by decide +kernel
theorem dX9_init_120 : decode cX9_init 120 = .ok (.iconst 1, 1) := by decide +kernel
theorem dX9_init_121 : decode cX9_init 121 = .ok (.putfield 67, 3) := by decide +kernel
theorem dX9_init_124 : decode cX9_init 124 = .ok (.aload_n 0, 1) := by decide +kernel
theorem dX9_init_125 : decode cX9_init 125 = .ok (.iconst 0, 1) := by decide +kernel
theorem dX9_init_126 : decode cX9_init 126 = .ok (.putfield 70, 3) := by decide +kernel
theorem dX9_init_129 : decode cX9_init 129 = .ok (.aload_n 0, 1) := by decide +kernel
theorem dX9_init_130 : decode cX9_init 130 = .ok (.iconst 0, 1) := by decide +kernel
theorem dX9_init_131 : decode cX9_init 131 = .ok (.putfield 73, 3) := by decide +kernel
theorem dX9_init_134 : decode cX9_init 134 = .ok (.aload_n 0, 1) := by decide +kernel
theorem dX9_init_135 : decode cX9_init 135 = .ok (.iconst 0, 1) := by decide +kernel
theorem dX9_init_136 : decode cX9_init 136 = .ok (.putfield 77, 3) := by decide +kernel
theorem dX9_init_139 : decode cX9_init 139 = .ok (.return_, 1) := by decide +kernel
theorem dX9_pilot_0 : decode cX9_pilot 0 = .ok (.iload_n 1, 1) := by decide +kernel
theorem dX9_pilot_1 : decode cX9_pilot 1 = .ok (.iconst 0, 1) := by decide +kernel
theorem dX9_pilot_2 : decode cX9_pilot 2 = .ok (.iconst 4, 1) := by decide +kernel
theorem dX9_pilot_3 : decode cX9_pilot 3 = .ok (.invokestatic 80, 3) := by decide +kernel
theorem dX9_pilot_6 : decode cX9_pilot 6 = .ok (.ifCond .ne 13, 3) := by decide +kernel
theorem dX9_pilot_9 : decode cX9_pilot 9 = .ok (.new 84, 3) := by decide +kernel
theorem dX9_pilot_12 : decode cX9_pilot 12 = .ok (.dup, 1) := by decide +kernel
theorem dX9_pilot_13 : decode cX9_pilot 13 = .ok (.ldc 86, 2) := by decide +kernel
theorem dX9_pilot_15 : decode cX9_pilot 15 = .ok (.invokespecial 88, 3) := by decide +kernel
theorem dX9_pilot_18 : decode cX9_pilot 18 = .ok (.athrow, 1) := by decide +kernel
theorem dX9_pilot_19 : decode cX9_pilot 19 = .ok (.iload_n 2, 1) := by decide +kernel
theorem dX9_pilot_20 : decode cX9_pilot 20 = .ok (.iconst 0, 1) := by decide +kernel
theorem dX9_pilot_21 : decode cX9_pilot 21 = .ok (.sipush 400, 3) := by decide +kernel
theorem dX9_pilot_24 : decode cX9_pilot 24 = .ok (.invokestatic 80, 3) := by decide +kernel
theorem dX9_pilot_27 : decode cX9_pilot 27 = .ok (.ifCond .eq 14, 3) := by decide +kernel
theorem dX9_pilot_30 : decode cX9_pilot 30 = .ok (.iload_n 3, 1) := by decide +kernel
theorem dX9_pilot_31 : decode cX9_pilot 31 = .ok (.iconst 0, 1) := by decide +kernel
theorem dX9_pilot_32 : decode cX9_pilot 32 = .ok (.sipush 200, 3) := by decide +kernel
theorem dX9_pilot_35 : decode cX9_pilot 35 = .ok (.invokestatic 80, 3) := by decide +kernel
theorem dX9_pilot_38 : decode cX9_pilot 38 = .ok (.ifCond .ne 13, 3) := by decide +kernel
theorem dX9_pilot_41 : decode cX9_pilot 41 = .ok (.new 84, 3) := by decide +kernel
theorem dX9_pilot_44 : decode cX9_pilot 44 = .ok (.dup, 1) := by decide +kernel
theorem dX9_pilot_45 : decode cX9_pilot 45 = .ok (.ldc 91, 2) := by decide +kernel
theorem dX9_pilot_47 : decode cX9_pilot 47 = .ok (.invokespecial 88, 3) := by decide +kernel
theorem dX9_pilot_50 : decode cX9_pilot 50 = .ok (.athrow, 1) := by decide +kernel
theorem dX9_pilot_51 : decode cX9_pilot 51 = .ok (.aload_n 0, 1) := by decide +kernel
theorem dX9_pilot_52 : decode cX9_pilot 52 = .ok (.getfield 12, 3) := by decide +kernel
theorem dX9_pilot_55 : decode cX9_pilot 55 = .ok (.invokevirtual 93, 3) := by decide +kernel
theorem dX9_pilot_58 : decode cX9_pilot 58 = .ok (.bipush 60, 2) := by decide +kernel
theorem dX9_pilot_60 : decode cX9_pilot 60 = .ok (.if_icmp .lt 13, 3) := by decide +kernel
theorem dX9_pilot_63 : decode cX9_pilot 63 = .ok (.new 97, 3) := by decide +kernel
theorem dX9_pilot_66 : decode cX9_pilot 66 = .ok (.dup, 1) := by decide +kernel
theorem dX9_pilot_67 : decode cX9_pilot 67 = .ok (.ldc 99, 2) := by decide +kernel
theorem dX9_pilot_69 : decode cX9_pilot 69 = .ok (.invokespecial 101, 3) := by decide +kernel
theorem dX9_pilot_72 : decode cX9_pilot 72 = .ok (.athrow, 1) := by decide +kernel
theorem dX9_pilot_73 : decode cX9_pilot 73 = .ok (.aload_n 0, 1) := by decide +kernel
theorem dX9_pilot_74 : decode cX9_pilot 74 = .ok (.iconst 0, 1) := by decide +kernel
theorem dX9_pilot_75 : decode cX9_pilot 75 = .ok (.putfield 77, 3) := by decide +kernel
theorem dX9_pilot_78 : decode cX9_pilot 78 = .ok (.new 102, 3) := by decide +kernel
theorem dX9_pilot_81 : decode cX9_pilot 81 = .ok (.dup, 1) := by decide +kernel
theorem dX9_pilot_82 : decode cX9_pilot 82 = .ok (.aload_n 0, 1) := by decide +kernel
theorem dX9_pilot_83 : decode cX9_pilot 83 = .ok (.getfield 12, 3) := by decide +kernel
theorem dX9_pilot_86 : decode cX9_pilot 86 = .ok (.invokevirtual 93, 3) := by decide +kernel
theorem dX9_pilot_89 : decode cX9_pilot 89 = .ok (.iload_n 1, 1) := by decide +kernel
theorem dX9_pilot_90 : decode cX9_pilot 90 = .ok (.iload_n 2, 1) := by decide +kernel
theorem dX9_pilot_91 : decode cX9_pilot 91 = .ok (.iload_n 3, 1) := by decide +kernel
theorem dX9_pilot_92 : decode cX9_pilot 92 = .ok (.invokespecial 104, 3) := by decide +kernel
theorem dX9_pilot_95 : decode cX9_pilot 95 = .ok (.astore 4, 2) := by decide +kernel
theorem dX9_pilot_97 : decode cX9_pilot 97 = .ok (.aload_n 0, 1) := by decide +kernel
theorem dX9_pilot_98 : decode cX9_pilot 98 = .ok (.getfield 12, 3) := by decide +kernel
theorem dX9_pilot_101 : decode cX9_pilot 101 = .ok (.aload 4, 2) := by decide +kernel
theorem dX9_pilot_103 : decode cX9_pilot 103 = .ok (.invokevirtual 107, 3) := by decide +kernel
theorem dX9_pilot_106 : decode cX9_pilot 106 = .ok (.pop, 1) := by decide +kernel
theorem dX9_pilot_107 : decode cX9_pilot 107 = .ok (.aload_n 0, 1) := by decide +kernel
theorem dX9_pilot_108 : decode cX9_pilot 108 = .ok (.getfield 46, 3) := by decide +kernel
theorem dX9_pilot_111 : decode cX9_pilot 111 = .ok (.aload 4, 2) := by decide +kernel
theorem dX9_pilot_113 : decode cX9_pilot 113 = .ok (.invokevirtual 111, 3) := by decide +kernel
theorem dX9_pilot_116 : decode cX9_pilot 116 = .ok (.aload 4, 2) := by decide +kernel
theorem dX9_pilot_118 : decode cX9_pilot 118 = .ok (.getfield 115, 3) := by decide +kernel
theorem dX9_pilot_121 : decode cX9_pilot 121 = .ok (.ireturn, 1) := by decide +kernel
theorem dX9_ship_0 : decode cX9_ship 0 = .ok (.iload_n 2, 1) := by decide +kernel
theorem dX9_ship_1 : decode cX9_ship 1 = .ok (.iconst 1, 1) := by decide +kernel
theorem dX9_ship_2 : decode cX9_ship 2 = .ok (.sipush 400, 3) := by decide +kernel
theorem dX9_ship_5 : decode cX9_ship 5 = .ok (.invokestatic 80, 3) := by decide +kernel
theorem dX9_ship_8 : decode cX9_ship 8 = .ok (.ifCond .eq 14, 3) := by decide +kernel
theorem dX9_ship_11 : decode cX9_ship 11 = .ok (.iload_n 3, 1) := by decide +kernel
theorem dX9_ship_12 : decode cX9_ship 12 = .ok (.iconst 1, 1) := by decide +kernel
theorem dX9_ship_13 : decode cX9_ship 13 = .ok (.sipush 200, 3) := by decide +kernel
theorem dX9_ship_16 : decode cX9_ship 16 = .ok (.invokestatic 80, 3) := by decide +kernel
theorem dX9_ship_19 : decode cX9_ship 19 = .ok (.ifCond .ne 13, 3) := by decide +kernel
theorem dX9_ship_22 : decode cX9_ship 22 = .ok (.new 84, 3) := by decide +kernel
theorem dX9_ship_25 : decode cX9_ship 25 = .ok (.dup, 1) := by decide +kernel
theorem dX9_ship_26 : decode cX9_ship 26 = .ok (.ldc 118, 2) := by decide +kernel
theorem dX9_ship_28 : decode cX9_ship 28 = .ok (.invokespecial 88, 3) := by decide +kernel
theorem dX9_ship_31 : decode cX9_ship 31 = .ok (.athrow, 1) := by decide +kernel
theorem dX9_ship_32 : decode cX9_ship 32 = .ok (.iload 4, 2) := by decide +kernel
theorem dX9_ship_34 : decode cX9_ship 34 = .ok (.iconst 0, 1) := by decide +kernel
theorem dX9_ship_35 : decode cX9_ship 35 = .ok (.sipush 9599, 3) := by decide +kernel
theorem dX9_ship_38 : decode cX9_ship 38 = .ok (.invokestatic 80, 3) := by decide +kernel
theorem dX9_ship_41 : decode cX9_ship 41 = .ok (.ifCond .ne 13, 3) := by decide +kernel
theorem dX9_ship_44 : decode cX9_ship 44 = .ok (.new 84, 3) := by decide +kernel
theorem dX9_ship_47 : decode cX9_ship 47 = .ok (.dup, 1) := by decide +kernel
theorem dX9_ship_48 : decode cX9_ship 48 = .ok (.ldc 120, 2) := by decide +kernel
theorem dX9_ship_50 : decode cX9_ship 50 = .ok (.invokespecial 88, 3) := by decide +kernel
theorem dX9_ship_53 : decode cX9_ship 53 = .ok (.athrow, 1) := by decide +kernel
theorem dX9_ship_54 : decode cX9_ship 54 = .ok (.iload 5, 2) := by decide +kernel
theorem dX9_ship_56 : decode cX9_ship 56 = .ok (.bipush (-2), 2) := by decide +kernel
theorem dX9_ship_58 : decode cX9_ship 58 = .ok (.if_icmp .ge 13, 3) := by decide +kernel
theorem dX9_ship_61 : decode cX9_ship 61 = .ok (.new 84, 3) := by decide +kernel
theorem dX9_ship_64 : decode cX9_ship 64 = .ok (.dup, 1) := by decide +kernel
theorem dX9_ship_65 : decode cX9_ship 65 = .ok (.ldc 122, 2) := by decide +kernel
theorem dX9_ship_67 : decode cX9_ship 67 = .ok (.invokespecial 88, 3) := by decide +kernel
theorem dX9_ship_70 : decode cX9_ship 70 = .ok (.athrow, 1) := by decide +kernel
theorem dX9_ship_71 : decode cX9_ship 71 = .ok (.iload 5, 2) := by decide +kernel
theorem dX9_ship_73 : decode cX9_ship 73 = .ok (.aload_n 0, 1) := by decide +kernel
theorem dX9_ship_74 : decode cX9_ship 74 = .ok (.getfield 12, 3) := by decide +kernel
theorem dX9_ship_77 : decode cX9_ship 77 = .ok (.invokevirtual 93, 3) := by decide +kernel
theorem dX9_ship_80 : decode cX9_ship 80 = .ok (.if_icmp .lt 13, 3) := by decide +kernel
theorem dX9_ship_83 : decode cX9_ship 83 = .ok (.new 124, 3) := by decide +kernel
theorem dX9_ship_86 : decode cX9_ship 86 = .ok (.dup, 1) := by decide +kernel
theorem dX9_ship_87 : decode cX9_ship 87 = .ok (.ldc 126, 2) := by decide +kernel
theorem dX9_ship_89 : decode cX9_ship 89 = .ok (.invokespecial 128, 3) := by decide +kernel
theorem dX9_ship_92 : decode cX9_ship 92 = .ok (.athrow, 1) := by decide +kernel
theorem dX9_ship_93 : decode cX9_ship 93 = .ok (.aload_n 0, 1) := by decide +kernel
theorem dX9_ship_94 : decode cX9_ship 94 = .ok (.getfield 16, 3) := by decide +kernel
theorem dX9_ship_97 : decode cX9_ship 97 = .ok (.invokevirtual 93, 3) := by decide +kernel
theorem dX9_ship_100 : decode cX9_ship 100 = .ok (.sipush 400, 3) := by decide +kernel
theorem dX9_ship_103 : decode cX9_ship 103 = .ok (.if_icmp .lt 13, 3) := by decide +kernel
theorem dX9_ship_106 : decode cX9_ship 106 = .ok (.new 97, 3) := by decide +kernel
theorem dX9_ship_109 : decode cX9_ship 109 = .ok (.dup, 1) := by decide +kernel
theorem dX9_ship_110 : decode cX9_ship 110 = .ok (.ldc 129, 2) := by decide +kernel
theorem dX9_ship_112 : decode cX9_ship 112 = .ok (.invokespecial 101, 3) := by decide +kernel
theorem dX9_ship_115 : decode cX9_ship 115 = .ok (.athrow, 1) := by decide +kernel
theorem dX9_ship_116 : decode cX9_ship 116 = .ok (.aload_n 0, 1) := by decide +kernel
theorem dX9_ship_117 : decode cX9_ship 117 = .ok (.iconst 0, 1) := by decide +kernel
theorem dX9_ship_118 : decode cX9_ship 118 = .ok (.putfield 77, 3) := by decide +kernel
theorem dX9_ship_121 : decode cX9_ship 121 = .ok (.new 131, 3) := by decide +kernel
theorem dX9_ship_124 : decode cX9_ship 124 = .ok (.dup, 1) := by decide +kernel
theorem dX9_ship_125 : decode cX9_ship 125 = .ok (.aload_n 0, 1) := by decide +kernel
theorem dX9_ship_126 : decode cX9_ship 126 = .ok (.getfield 16, 3) := by decide +kernel
theorem dX9_ship_129 : decode cX9_ship 129 = .ok (.invokevirtual 93, 3) := by decide +kernel
theorem dX9_ship_132 : decode cX9_ship 132 = .ok (.iload_n 1, 1) := by decide +kernel
theorem dX9_ship_133 : decode cX9_ship 133 = .ok (.iload_n 2, 1) := by decide +kernel
theorem dX9_ship_134 : decode cX9_ship 134 = .ok (.iload_n 3, 1) := by decide +kernel
theorem dX9_ship_135 : decode cX9_ship 135 = .ok (.iload 4, 2) := by decide +kernel
theorem dX9_ship_137 : decode cX9_ship 137 = .ok (.iload 5, 2) := by decide +kernel
theorem dX9_ship_139 : decode cX9_ship 139 = .ok (.iload 6, 2) := by decide +kernel
theorem dX9_ship_141 : decode cX9_ship 141 = .ok (.invokespecial 133, 3) := by decide +kernel
theorem dX9_ship_144 : decode cX9_ship 144 = .ok (.astore 7, 2) := by decide +kernel
theorem dX9_ship_146 : decode cX9_ship 146 = .ok (.aload_n 0, 1) := by decide +kernel
theorem dX9_ship_147 : decode cX9_ship 147 = .ok (.getfield 16, 3) := by decide +kernel
theorem dX9_ship_150 : decode cX9_ship 150 = .ok (.aload 7, 2) := by decide +kernel
theorem dX9_ship_152 : decode cX9_ship 152 = .ok (.invokevirtual 107, 3) := by decide +kernel
theorem dX9_ship_155 : decode cX9_ship 155 = .ok (.pop, 1) := by decide +kernel
theorem dX9_ship_156 : decode cX9_ship 156 = .ok (.aload_n 0, 1) := by decide +kernel
theorem dX9_ship_157 : decode cX9_ship 157 = .ok (.getfield 19, 3) := by decide +kernel
theorem dX9_ship_160 : decode cX9_ship 160 = .ok (.aload_n 0, 1) := by decide +kernel
theorem dX9_ship_161 : decode cX9_ship 161 = .ok (.iload_n 2, 1) := by decide +kernel
theorem dX9_ship_162 : decode cX9_ship 162 = .ok (.invokevirtual 136, 3) := by decide +kernel
theorem dX9_ship_165 : decode cX9_ship 165 = .ok (.aload 7, 2) := by decide +kernel
theorem dX9_ship_167 : decode cX9_ship 167 = .ok (.invokevirtual 140, 3) := by decide +kernel
theorem dX9_ship_170 : decode cX9_ship 170 = .ok (.aload 7, 2) := by decide +kernel
theorem dX9_ship_172 : decode cX9_ship 172 = .ok (.getfield 143, 3) := by decide +kernel
theorem dX9_ship_175 : decode cX9_ship 175 = .ok (.ireturn, 1) := by decide +kernel
theorem dX9_tide_0 : decode cX9_tide 0 = .ok (.iload_n 1, 1) := by decide +kernel
theorem dX9_tide_1 : decode cX9_tide 1 = .ok (.invokestatic 144, 3) := by decide +kernel
theorem dX9_tide_4 : decode cX9_tide 4 = .ok (.ifCond .ne 13, 3) := by decide +kernel
theorem dX9_tide_7 : decode cX9_tide 7 = .ok (.new 124, 3) := by decide +kernel
theorem dX9_tide_10 : decode cX9_tide 10 = .ok (.dup, 1) := by decide +kernel
theorem dX9_tide_11 : decode cX9_tide 11 = .ok (.ldc 148, 2) := by decide +kernel
theorem dX9_tide_13 : decode cX9_tide 13 = .ok (.invokespecial 128, 3) := by decide +kernel
theorem dX9_tide_16 : decode cX9_tide 16 = .ok (.athrow, 1) := by decide +kernel
theorem dX9_tide_17 : decode cX9_tide 17 = .ok (.iload_n 2, 1) := by decide +kernel
theorem dX9_tide_18 : decode cX9_tide 18 = .ok (.iconst 0, 1) := by decide +kernel
theorem dX9_tide_19 : decode cX9_tide 19 = .ok (.sipush 200, 3) := by decide +kernel
theorem dX9_tide_22 : decode cX9_tide 22 = .ok (.invokestatic 80, 3) := by decide +kernel
theorem dX9_tide_25 : decode cX9_tide 25 = .ok (.ifCond .ne 13, 3) := by decide +kernel
theorem dX9_tide_28 : decode cX9_tide 28 = .ok (.new 84, 3) := by decide +kernel
theorem dX9_tide_31 : decode cX9_tide 31 = .ok (.dup, 1) := by decide +kernel
theorem dX9_tide_32 : decode cX9_tide 32 = .ok (.ldc 150, 2) := by decide +kernel
theorem dX9_tide_34 : decode cX9_tide 34 = .ok (.invokespecial 88, 3) := by decide +kernel
theorem dX9_tide_37 : decode cX9_tide 37 = .ok (.athrow, 1) := by decide +kernel
theorem dX9_tide_38 : decode cX9_tide 38 = .ok (.aload_n 0, 1) := by decide +kernel
theorem dX9_tide_39 : decode cX9_tide 39 = .ok (.getfield 25, 3) := by decide +kernel
theorem dX9_tide_42 : decode cX9_tide 42 = .ok (.iload_n 1, 1) := by decide +kernel
theorem dX9_tide_43 : decode cX9_tide 43 = .ok (.invokevirtual 152, 3) := by decide +kernel
theorem dX9_tide_46 : decode cX9_tide 46 = .ok (.bipush 24, 2) := by decide +kernel
theorem dX9_tide_48 : decode cX9_tide 48 = .ok (.if_icmp .lt 13, 3) := by decide +kernel
theorem dX9_tide_51 : decode cX9_tide 51 = .ok (.new 97, 3) := by decide +kernel
theorem dX9_tide_54 : decode cX9_tide 54 = .ok (.dup, 1) := by decide +kernel
theorem dX9_tide_55 : decode cX9_tide 55 = .ok (.ldc 155, 2) := by decide +kernel
theorem dX9_tide_57 : decode cX9_tide 57 = .ok (.invokespecial 101, 3) := by decide +kernel
theorem dX9_tide_60 : decode cX9_tide 60 = .ok (.athrow, 1) := by decide +kernel
theorem dX9_tide_61 : decode cX9_tide 61 = .ok (.aload_n 0, 1) := by decide +kernel
theorem dX9_tide_62 : decode cX9_tide 62 = .ok (.iconst 0, 1) := by decide +kernel
theorem dX9_tide_63 : decode cX9_tide 63 = .ok (.putfield 77, 3) := by decide +kernel
theorem dX9_tide_66 : decode cX9_tide 66 = .ok (.aload_n 0, 1) := by decide +kernel
theorem dX9_tide_67 : decode cX9_tide 67 = .ok (.getfield 25, 3) := by decide +kernel
theorem dX9_tide_70 : decode cX9_tide 70 = .ok (.iload_n 1, 1) := by decide +kernel
theorem dX9_tide_71 : decode cX9_tide 71 = .ok (.iload_n 2, 1) := by decide +kernel
theorem dX9_tide_72 : decode cX9_tide 72 = .ok (.invokevirtual 157, 3) := by decide +kernel
theorem dX9_tide_75 : decode cX9_tide 75 = .ok (.aload_n 0, 1) := by decide +kernel
theorem dX9_tide_76 : decode cX9_tide 76 = .ok (.getfield 25, 3) := by decide +kernel
theorem dX9_tide_79 : decode cX9_tide 79 = .ok (.iload_n 1, 1) := by decide +kernel
theorem dX9_tide_80 : decode cX9_tide 80 = .ok (.invokevirtual 152, 3) := by decide +kernel
theorem dX9_tide_83 : decode cX9_tide 83 = .ok (.ireturn, 1) := by decide +kernel
theorem dX9_tear_0 : decode cX9_tear 0 = .ok (.iload_n 1, 1) := by decide +kernel
theorem dX9_tear_1 : decode cX9_tear 1 = .ok (.invokestatic 144, 3) := by decide +kernel
theorem dX9_tear_4 : decode cX9_tear 4 = .ok (.ifCond .ne 13, 3) := by decide +kernel
theorem dX9_tear_7 : decode cX9_tear 7 = .ok (.new 124, 3) := by decide +kernel
theorem dX9_tear_10 : decode cX9_tear 10 = .ok (.dup, 1) := by decide +kernel
theorem dX9_tear_11 : decode cX9_tear 11 = .ok (.ldc 148, 2) := by decide +kernel
theorem dX9_tear_13 : decode cX9_tear 13 = .ok (.invokespecial 128, 3) := by decide +kernel
theorem dX9_tear_16 : decode cX9_tear 16 = .ok (.athrow, 1) := by decide +kernel
theorem dX9_tear_17 : decode cX9_tear 17 = .ok (.aload_n 0, 1) := by decide +kernel
theorem dX9_tear_18 : decode cX9_tear 18 = .ok (.iconst 0, 1) := by decide +kernel
theorem dX9_tear_19 : decode cX9_tear 19 = .ok (.putfield 77, 3) := by decide +kernel
theorem dX9_tear_22 : decode cX9_tear 22 = .ok (.aload_n 0, 1) := by decide +kernel
theorem dX9_tear_23 : decode cX9_tear 23 = .ok (.getfield 25, 3) := by decide +kernel
theorem dX9_tear_26 : decode cX9_tear 26 = .ok (.iload_n 1, 1) := by decide +kernel
theorem dX9_tear_27 : decode cX9_tear 27 = .ok (.invokevirtual 152, 3) := by decide +kernel
theorem dX9_tear_30 : decode cX9_tear 30 = .ok (.ifCond .le 7, 3) := by decide +kernel
theorem dX9_tear_33 : decode cX9_tear 33 = .ok (.iconst 1, 1) := by decide +kernel
theorem dX9_tear_34 : decode cX9_tear 34 = .ok (.goto 4, 3) := by decide +kernel
theorem dX9_tear_37 : decode cX9_tear 37 = .ok (.iconst 0, 1) := by decide +kernel
theorem dX9_tear_38 : decode cX9_tear 38 = .ok (.istore_n 2, 1) := by decide +kernel
theorem dX9_tear_39 : decode cX9_tear 39 = .ok (.aload_n 0, 1) := by decide +kernel
theorem dX9_tear_40 : decode cX9_tear 40 = .ok (.getfield 25, 3) := by decide +kernel
theorem dX9_tear_43 : decode cX9_tear 43 = .ok (.iload_n 1, 1) := by decide +kernel
theorem dX9_tear_44 : decode cX9_tear 44 = .ok (.invokevirtual 161, 3) := by decide +kernel
theorem dX9_tear_47 : decode cX9_tear 47 = .ok (.iload_n 2, 1) := by decide +kernel
theorem dX9_tear_48 : decode cX9_tear 48 = .ok (.ireturn, 1) := by decide +kernel
theorem dX9_boat_0 : decode cX9_boat 0 = .ok (.iload_n 1, 1) := by decide +kernel
theorem dX9_boat_1 : decode cX9_boat 1 = .ok (.iconst 0, 1) := by decide +kernel
theorem dX9_boat_2 : decode cX9_boat 2 = .ok (.ldc 165, 2) := by decide +kernel
theorem dX9_boat_4 : decode cX9_boat 4 = .ok (.invokestatic 80, 3) := by decide +kernel
theorem dX9_boat_7 : decode cX9_boat 7 = .ok (.ifCond .eq 13, 3) := by decide +kernel
theorem dX9_boat_10 : decode cX9_boat 10 = .ok (.iload_n 2, 1) := by decide +kernel
theorem dX9_boat_11 : decode cX9_boat 11 = .ok (.iconst 1, 1) := by decide +kernel
theorem dX9_boat_12 : decode cX9_boat 12 = .ok (.bipush 20, 2) := by decide +kernel
theorem dX9_boat_14 : decode cX9_boat 14 = .ok (.invokestatic 80, 3) := by decide +kernel
theorem dX9_boat_17 : decode cX9_boat 17 = .ok (.ifCond .ne 13, 3) := by decide +kernel
theorem dX9_boat_20 : decode cX9_boat 20 = .ok (.new 84, 3) := by decide +kernel
theorem dX9_boat_23 : decode cX9_boat 23 = .ok (.dup, 1) := by decide +kernel
theorem dX9_boat_24 : decode cX9_boat 24 = .ok (.ldc 166, 2) := by decide +kernel
theorem dX9_boat_26 : decode cX9_boat 26 = .ok (.invokespecial 88, 3) := by decide +kernel
theorem dX9_boat_29 : decode cX9_boat 29 = .ok (.athrow, 1) := by decide +kernel
theorem dX9_boat_30 : decode cX9_boat 30 = .ok (.aload_n 0, 1) := by decide +kernel
theorem dX9_boat_31 : decode cX9_boat 31 = .ok (.getfield 32, 3) := by decide +kernel
theorem dX9_boat_34 : decode cX9_boat 34 = .ok (.getfield 168, 3) := by decide +kernel
theorem dX9_boat_37 : decode cX9_boat 37 = .ok (.bipush 12, 2) := by decide +kernel
theorem dX9_boat_39 : decode cX9_boat 39 = .ok (.if_icmp .lt 13, 3) := by decide +kernel
theorem dX9_boat_42 : decode cX9_boat 42 = .ok (.new 97, 3) := by decide +kernel
theorem dX9_boat_45 : decode cX9_boat 45 = .ok (.dup, 1) := by decide +kernel
theorem dX9_boat_46 : decode cX9_boat 46 = .ok (.ldc 169, 2) := by decide +kernel
theorem dX9_boat_48 : decode cX9_boat 48 = .ok (.invokespecial 101, 3) := by decide +kernel
theorem dX9_boat_51 : decode cX9_boat 51 = .ok (.athrow, 1) := by decide +kernel
theorem dX9_boat_52 : decode cX9_boat 52 = .ok (.aload_n 0, 1) := by decide +kernel
theorem dX9_boat_53 : decode cX9_boat 53 = .ok (.iconst 0, 1) := by decide +kernel
theorem dX9_boat_54 : decode cX9_boat 54 = .ok (.putfield 77, 3) := by decide +kernel
theorem dX9_boat_57 : decode cX9_boat 57 = .ok (.aload_n 0, 1) := by decide +kernel
theorem dX9_boat_58 : decode cX9_boat 58 = .ok (.getfield 32, 3) := by decide +kernel
theorem dX9_boat_61 : decode cX9_boat 61 = .ok (.iload_n 1, 1) := by decide +kernel
theorem dX9_boat_62 : decode cX9_boat 62 = .ok (.iload_n 2, 1) := by decide +kernel
theorem dX9_boat_63 : decode cX9_boat 63 = .ok (.invokevirtual 171, 3) := by decide +kernel
theorem dX9_boat_66 : decode cX9_boat 66 = .ok (.aload_n 0, 1) := by decide +kernel
theorem dX9_boat_67 : decode cX9_boat 67 = .ok (.getfield 32, 3) := by decide +kernel
theorem dX9_boat_70 : decode cX9_boat 70 = .ok (.getfield 168, 3) := by decide +kernel
theorem dX9_boat_73 : decode cX9_boat 73 = .ok (.iconst 1, 1) := by decide +kernel
theorem dX9_boat_74 : decode cX9_boat 74 = .ok (.isub, 1) := by decide +kernel
theorem dX9_boat_75 : decode cX9_boat 75 = .ok (.ireturn, 1) := by decide +kernel
theorem dX9_road_0 : decode cX9_road 0 = .ok (.iload_n 1, 1) := by decide +kernel
theorem dX9_road_1 : decode cX9_road 1 = .ok (.iconst 0, 1) := by decide +kernel
theorem dX9_road_2 : decode cX9_road 2 = .ok (.iconst 5, 1) := by decide +kernel
theorem dX9_road_3 : decode cX9_road 3 = .ok (.invokestatic 80, 3) := by decide +kernel
theorem dX9_road_6 : decode cX9_road 6 = .ok (.ifCond .ne 13, 3) := by decide +kernel
theorem dX9_road_9 : decode cX9_road 9 = .ok (.new 84, 3) := by decide +kernel
theorem dX9_road_12 : decode cX9_road 12 = .ok (.dup, 1) := by decide +kernel
theorem dX9_road_13 : decode cX9_road 13 = .ok (.ldc 174, 2) := by decide +kernel
theorem dX9_road_15 : decode cX9_road 15 = .ok (.invokespecial 88, 3) := by decide +kernel
theorem dX9_road_18 : decode cX9_road 18 = .ok (.athrow, 1) := by decide +kernel
theorem dX9_road_19 : decode cX9_road 19 = .ok (.aload_n 0, 1) := by decide +kernel
theorem dX9_road_20 : decode cX9_road 20 = .ok (.iconst 0, 1) := by decide +kernel
theorem dX9_road_21 : decode cX9_road 21 = .ok (.putfield 77, 3) := by decide +kernel
theorem dX9_road_24 : decode cX9_road 24 = .ok (.aload_n 0, 1) := by decide +kernel
theorem dX9_road_25 : decode cX9_road 25 = .ok (.iload_n 1, 1) := by decide +kernel
theorem dX9_road_26 : decode cX9_road 26 = .ok (.putfield 67, 3) := by decide +kernel
theorem dX9_road_29 : decode cX9_road 29 = .ok (.return_, 1) := by decide +kernel
theorem dX9_rest_0 : decode cX9_rest 0 = .ok (.iload_n 1, 1) := by decide +kernel
theorem dX9_rest_1 : decode cX9_rest 1 = .ok (.iconst 0, 1) := by decide +kernel
theorem dX9_rest_2 : decode cX9_rest 2 = .ok (.bipush 48, 2) := by decide +kernel
theorem dX9_rest_4 : decode cX9_rest 4 = .ok (.invokestatic 80, 3) := by decide +kernel
theorem dX9_rest_7 : decode cX9_rest 7 = .ok (.ifCond .eq 23, 3) := by decide +kernel
theorem dX9_rest_10 : decode cX9_rest 10 = .ok (.iload_n 2, 1) := by decide +kernel
theorem dX9_rest_11 : decode cX9_rest 11 = .ok (.iconst 0, 1) := by decide +kernel
theorem dX9_rest_12 : decode cX9_rest 12 = .ok (.bipush 48, 2) := by decide +kernel
theorem dX9_rest_14 : decode cX9_rest 14 = .ok (.invokestatic 80, 3) := by decide +kernel
theorem dX9_rest_17 : decode cX9_rest 17 = .ok (.ifCond .eq 13, 3) := by decide +kernel
theorem dX9_rest_20 : decode cX9_rest 20 = .ok (.iload_n 3, 1) := by decide +kernel
theorem dX9_rest_21 : decode cX9_rest 21 = .ok (.iconst 0, 1) := by decide +kernel
theorem dX9_rest_22 : decode cX9_rest 22 = .ok (.bipush 48, 2) := by decide +kernel
theorem dX9_rest_24 : decode cX9_rest 24 = .ok (.invokestatic 80, 3) := by decide +kernel
theorem dX9_rest_27 : decode cX9_rest 27 = .ok (.ifCond .ne 13, 3) := by decide +kernel
theorem dX9_rest_30 : decode cX9_rest 30 = .ok (.new 84, 3) := by decide +kernel
theorem dX9_rest_33 : decode cX9_rest 33 = .ok (.dup, 1) := by decide +kernel
theorem dX9_rest_34 : decode cX9_rest 34 = .ok (.ldc 176, 2) := by decide +kernel
theorem dX9_rest_36 : decode cX9_rest 36 = .ok (.invokespecial 88, 3) := by decide +kernel
theorem dX9_rest_39 : decode cX9_rest 39 = .ok (.athrow, 1) := by decide +kernel
theorem dX9_rest_40 : decode cX9_rest 40 = .ok (.aload_n 0, 1) := by decide +kernel
theorem dX9_rest_41 : decode cX9_rest 41 = .ok (.iconst 0, 1) := by decide +kernel
theorem dX9_rest_42 : decode cX9_rest 42 = .ok (.putfield 77, 3) := by decide +kernel
theorem dX9_rest_45 : decode cX9_rest 45 = .ok (.aload_n 0, 1) := by decide +kernel
theorem dX9_rest_46 : decode cX9_rest 46 = .ok (.getfield 39, 3) := by decide +kernel
theorem dX9_rest_49 : decode cX9_rest 49 = .ok (.iload_n 1, 1) := by decide +kernel
theorem dX9_rest_50 : decode cX9_rest 50 = .ok (.iload_n 2, 1) := by decide +kernel
theorem dX9_rest_51 : decode cX9_rest 51 = .ok (.iload_n 3, 1) := by decide +kernel
theorem dX9_rest_52 : decode cX9_rest 52 = .ok (.invokevirtual 178, 3) := by decide +kernel
theorem dX9_rest_55 : decode cX9_rest 55 = .ok (.return_, 1) := by decide +kernel
theorem dX9_off_0 : decode cX9_off 0 = .ok (.aload_n 0, 1) := by decide +kernel
theorem dX9_off_1 : decode cX9_off 1 = .ok (.iload_n 1, 1) := by decide +kernel
theorem dX9_off_2 : decode cX9_off 2 = .ok (.invokevirtual 182, 3) := by decide +kernel
theorem dX9_off_5 : decode cX9_off 5 = .ok (.astore 4, 2) := by decide +kernel
theorem dX9_off_7 : decode cX9_off 7 = .ok (.iload_n 2, 1) := by decide +kernel
theorem dX9_off_8 : decode cX9_off 8 = .ok (.invokestatic 144, 3) := by decide +kernel
theorem dX9_off_11 : decode cX9_off 11 = .ok (.ifCond .ne 13, 3) := by decide +kernel
theorem dX9_off_14 : decode cX9_off 14 = .ok (.new 124, 3) := by decide +kernel
theorem dX9_off_17 : decode cX9_off 17 = .ok (.dup, 1) := by decide +kernel
theorem dX9_off_18 : decode cX9_off 18 = .ok (.ldc 148, 2) := by decide +kernel
theorem dX9_off_20 : decode cX9_off 20 = .ok (.invokespecial 128, 3) := by decide +kernel
theorem dX9_off_23 : decode cX9_off 23 = .ok (.athrow, 1) := by decide +kernel
theorem dX9_off_24 : decode cX9_off 24 = .ok (.aload_n 0, 1) := by decide +kernel
theorem dX9_off_25 : decode cX9_off 25 = .ok (.iconst 0, 1) := by decide +kernel
theorem dX9_off_26 : decode cX9_off 26 = .ok (.putfield 77, 3) := by decide +kernel
theorem dX9_off_29 : decode cX9_off 29 = .ok (.aload 4, 2) := by decide +kernel
theorem dX9_off_31 : decode cX9_off 31 = .ok (.iload_n 2, 1) := by decide +kernel
theorem dX9_off_32 : decode cX9_off 32 = .ok (.iload_n 3, 1) := by decide +kernel
theorem dX9_off_33 : decode cX9_off 33 = .ok (.invokevirtual 186, 3) := by decide +kernel
theorem dX9_off_36 : decode cX9_off 36 = .ok (.ireturn, 1) := by decide +kernel
theorem dX9_will_0 : decode cX9_will 0 = .ok (.aload_n 0, 1) := by decide +kernel
theorem dX9_will_1 : decode cX9_will 1 = .ok (.iload_n 1, 1) := by decide +kernel
theorem dX9_will_2 : decode cX9_will 2 = .ok (.invokevirtual 182, 3) := by decide +kernel
theorem dX9_will_5 : decode cX9_will 5 = .ok (.astore_n 3, 1) := by decide +kernel
theorem dX9_will_6 : decode cX9_will 6 = .ok (.aload_n 0, 1) := by decide +kernel
theorem dX9_will_7 : decode cX9_will 7 = .ok (.iconst 0, 1) := by decide +kernel
theorem dX9_will_8 : decode cX9_will 8 = .ok (.putfield 77, 3) := by decide +kernel
theorem dX9_will_11 : decode cX9_will 11 = .ok (.aload_n 3, 1) := by decide +kernel
theorem dX9_will_12 : decode cX9_will 12 = .ok (.getfield 190, 3) := by decide +kernel
theorem dX9_will_15 : decode cX9_will 15 = .ok (.iload_n 2, 1) := by decide +kernel
theorem dX9_will_16 : decode cX9_will 16 = .ok (.if_icmp .eq 7, 3) := by decide +kernel
theorem dX9_will_19 : decode cX9_will 19 = .ok (.iconst 1, 1) := by decide +kernel
theorem dX9_will_20 : decode cX9_will 20 = .ok (.goto 4, 3) := by decide +kernel
theorem dX9_will_23 : decode cX9_will 23 = .ok (.iconst 0, 1) := by decide +kernel
theorem dX9_will_24 : decode cX9_will 24 = .ok (.istore 4, 2) := by decide +kernel
theorem dX9_will_26 : decode cX9_will 26 = .ok (.aload_n 3, 1) := by decide +kernel
theorem dX9_will_27 : decode cX9_will 27 = .ok (.iload_n 2, 1) := by decide +kernel
theorem dX9_will_28 : decode cX9_will 28 = .ok (.putfield 190, 3) := by decide +kernel
theorem dX9_will_31 : decode cX9_will 31 = .ok (.iload 4, 2) := by decide +kernel
theorem dX9_will_33 : decode cX9_will 33 = .ok (.ireturn, 1) := by decide +kernel
theorem dX9_hour_0 : decode cX9_hour 0 = .ok (.aload_n 0, 1) := by decide +kernel
theorem dX9_hour_1 : decode cX9_hour 1 = .ok (.getfield 63, 3) := by decide +kernel
theorem dX9_hour_4 : decode cX9_hour 4 = .ok (.sipush 9599, 3) := by decide +kernel
theorem dX9_hour_7 : decode cX9_hour 7 = .ok (.if_icmp .lt 5, 3) := by decide +kernel
theorem dX9_hour_10 : decode cX9_hour 10 = .ok (.iconst (-1), 1) := by decide +kernel
theorem dX9_hour_11 : decode cX9_hour 11 = .ok (.ireturn, 1) := by decide +kernel
theorem dX9_hour_12 : decode cX9_hour 12 = .ok (.aload_n 0, 1) := by decide +kernel
theorem dX9_hour_13 : decode cX9_hour 13 = .ok (.invokevirtual 193, 3) := by decide +kernel
theorem dX9_hour_16 : decode cX9_hour 16 = .ok (.aload_n 0, 1) := by decide +kernel
theorem dX9_hour_17 : decode cX9_hour 17 = .ok (.getfield 59, 3) := by decide +kernel
theorem dX9_hour_20 : decode cX9_hour 20 = .ok (.invokevirtual 196, 3) := by decide +kernel
theorem dX9_hour_23 : decode cX9_hour 23 = .ok (.aload_n 0, 1) := by decide +kernel
theorem dX9_hour_24 : decode cX9_hour 24 = .ok (.getfield 46, 3) := by decide +kernel
theorem dX9_hour_27 : decode cX9_hour 27 = .ok (.invokevirtual 199, 3) := by decide +kernel
theorem dX9_hour_30 : decode cX9_hour 30 = .ok (.aload_n 0, 1) := by decide +kernel
theorem dX9_hour_31 : decode cX9_hour 31 = .ok (.aload_n 0, 1) := by decide +kernel
theorem dX9_hour_32 : decode cX9_hour 32 = .ok (.getfield 63, 3) := by decide +kernel
theorem dX9_hour_35 : decode cX9_hour 35 = .ok (.iconst 1, 1) := by decide +kernel
theorem dX9_hour_36 : decode cX9_hour 36 = .ok (.iadd, 1) := by decide +kernel
theorem dX9_hour_37 : decode cX9_hour 37 = .ok (.invokevirtual 202, 3) := by decide +kernel
theorem dX9_hour_40 : decode cX9_hour 40 = .ok (.istore_n 1, 1) := by decide +kernel
theorem dX9_hour_41 : decode cX9_hour 41 = .ok (.aload_n 0, 1) := by decide +kernel
theorem dX9_hour_42 : decode cX9_hour 42 = .ok (.invokevirtual 205, 3) := by decide +kernel
theorem dX9_hour_45 : decode cX9_hour 45 = .ok (.aload_n 0, 1) := by decide +kernel
theorem dX9_hour_46 : decode cX9_hour 46 = .ok (.aload_n 0, 1) := by decide +kernel
theorem dX9_hour_47 : decode cX9_hour 47 = .ok (.getfield 63, 3) := by decide +kernel
theorem dX9_hour_50 : decode cX9_hour 50 = .ok (.iconst 1, 1) := by decide +kernel
theorem dX9_hour_51 : decode cX9_hour 51 = .ok (.iadd, 1) := by decide +kernel
theorem dX9_hour_52 : decode cX9_hour 52 = .ok (.putfield 63, 3) := by decide +kernel
theorem dX9_hour_55 : decode cX9_hour 55 = .ok (.aload_n 0, 1) := by decide +kernel
theorem dX9_hour_56 : decode cX9_hour 56 = .ok (.invokevirtual 208, 3) := by decide +kernel
theorem dX9_hour_59 : decode cX9_hour 59 = .ok (.aload_n 0, 1) := by decide +kernel
theorem dX9_hour_60 : decode cX9_hour 60 = .ok (.invokevirtual 211, 3) := by decide +kernel
theorem dX9_hour_63 : decode cX9_hour 63 = .ok (.aload_n 0, 1) := by decide +kernel
theorem dX9_hour_64 : decode cX9_hour 64 = .ok (.invokevirtual 214, 3) := by decide +kernel
theorem dX9_hour_67 : decode cX9_hour 67 = .ok (.iload_n 1, 1) := by decide +kernel
theorem dX9_hour_68 : decode cX9_hour 68 = .ok (.ireturn, 1) := by decide +kernel
theorem dX9_back_0 : decode cX9_back 0 = .ok (.aload_n 0, 1) := by decide +kernel
theorem dX9_back_1 : decode cX9_back 1 = .ok (.iload_n 1, 1) := by decide +kernel
theorem dX9_back_2 : decode cX9_back 2 = .ok (.invokevirtual 217, 3) := by decide +kernel
theorem dX9_back_5 : decode cX9_back 5 = .ok (.astore_n 2, 1) := by decide +kernel
theorem dX9_back_6 : decode cX9_back 6 = .ok (.aload_n 2, 1) := by decide +kernel
theorem dX9_back_7 : decode cX9_back 7 = .ok (.getfield 221, 3) := by decide +kernel
theorem dX9_back_10 : decode cX9_back 10 = .ok (.astore_n 3, 1) := by decide +kernel
theorem dX9_back_11 : decode cX9_back 11 = .ok (.aload_n 0, 1) := by decide +kernel
theorem dX9_back_12 : decode cX9_back 12 = .ok (.aload_n 3, 1) := by decide +kernel
theorem dX9_back_13 : decode cX9_back 13 = .ok (.invokevirtual 225, 3) := by decide +kernel
theorem dX9_back_16 : decode cX9_back 16 = .ok (.ifCond .ne 5, 3) := by decide +kernel
theorem dX9_back_19 : decode cX9_back 19 = .ok (.iconst 0, 1) := by decide +kernel
theorem dX9_back_20 : decode cX9_back 20 = .ok (.ireturn, 1) := by decide +kernel
theorem dX9_back_21 : decode cX9_back 21 = .ok (.iconst 0, 1) := by decide +kernel
theorem dX9_back_22 : decode cX9_back 22 = .ok (.istore 4, 2) := by decide +kernel
theorem dX9_back_24 : decode cX9_back 24 = .ok (.iload 4, 2) := by decide +kernel
theorem dX9_back_26 : decode cX9_back 26 = .ok (.bipush 60, 2) := by decide +kernel
theorem dX9_back_28 : decode cX9_back 28 = .ok (.if_icmp .ge 57, 3) := by decide +kernel
theorem dX9_back_31 : decode cX9_back 31 = .ok (.aload_n 3, 1) := by decide +kernel
theorem dX9_back_32 : decode cX9_back 32 = .ok (.iload 4, 2) := by decide +kernel
theorem dX9_back_34 : decode cX9_back 34 = .ok (.invokevirtual 229, 3) := by decide +kernel
theorem dX9_back_37 : decode cX9_back 37 = .ok (.astore 5, 2) := by decide +kernel
theorem dX9_back_39 : decode cX9_back 39 = .ok (.aload 5, 2) := by decide +kernel
theorem dX9_back_41 : decode cX9_back 41 = .ok (.ifnull 38, 3) := by decide +kernel
theorem dX9_back_44 : decode cX9_back 44 = .ok (.aload 5, 2) := by decide +kernel
theorem dX9_back_46 : decode cX9_back 46 = .ok (.getfield 234, 3) := by decide +kernel
theorem dX9_back_49 : decode cX9_back 49 = .ok (.aload_n 2, 1) := by decide +kernel
theorem dX9_back_50 : decode cX9_back 50 = .ok (.getfield 238, 3) := by decide +kernel
theorem dX9_back_53 : decode cX9_back 53 = .ok (.ifCond .eq 7, 3) := by decide +kernel
theorem dX9_back_56 : decode cX9_back 56 = .ok (.iconst 1, 1) := by decide +kernel
theorem dX9_back_57 : decode cX9_back 57 = .ok (.goto 4, 3) := by decide +kernel
theorem dX9_back_60 : decode cX9_back 60 = .ok (.iconst 0, 1) := by decide +kernel
theorem dX9_back_61 : decode cX9_back 61 = .ok (.aload_n 0, 1) := by decide +kernel
theorem dX9_back_62 : decode cX9_back 62 = .ok (.getfield 63, 3) := by decide +kernel
theorem dX9_back_65 : decode cX9_back 65 = .ok (.invokevirtual 241, 3) := by decide +kernel
theorem dX9_back_68 : decode cX9_back 68 = .ok (.aload_n 0, 1) := by decide +kernel
theorem dX9_back_69 : decode cX9_back 69 = .ok (.getfield 46, 3) := by decide +kernel
theorem dX9_back_72 : decode cX9_back 72 = .ok (.aload 5, 2) := by decide +kernel
theorem dX9_back_74 : decode cX9_back 74 = .ok (.iload 4, 2) := by decide +kernel
theorem dX9_back_76 : decode cX9_back 76 = .ok (.invokevirtual 246, 3) := by decide +kernel
theorem dX9_back_79 : decode cX9_back 79 = .ok (.iinc 4 1, 3) := by decide +kernel
theorem dX9_back_82 : decode cX9_back 82 = .ok (.goto (-58), 3) := by decide +kernel
theorem dX9_back_85 : decode cX9_back 85 = .ok (.aload_n 3, 1) := by decide +kernel
theorem dX9_back_86 : decode cX9_back 86 = .ok (.invokevirtual 250, 3) := by decide +kernel
theorem dX9_back_89 : decode cX9_back 89 = .ok (.iconst 1, 1) := by decide +kernel
theorem dX9_back_90 : decode cX9_back 90 = .ok (.ireturn, 1) := by decide +kernel
theorem dX9_swap_0 : decode cX9_swap 0 = .ok (.aload_n 0, 1) := by decide +kernel
theorem dX9_swap_1 : decode cX9_swap 1 = .ok (.iload_n 1, 1) := by decide +kernel
theorem dX9_swap_2 : decode cX9_swap 2 = .ok (.invokevirtual 217, 3) := by decide +kernel
theorem dX9_swap_5 : decode cX9_swap 5 = .ok (.astore_n 3, 1) := by decide +kernel
theorem dX9_swap_6 : decode cX9_swap 6 = .ok (.aload_n 0, 1) := by decide +kernel
theorem dX9_swap_7 : decode cX9_swap 7 = .ok (.iload_n 2, 1) := by decide +kernel
theorem dX9_swap_8 : decode cX9_swap 8 = .ok (.invokevirtual 217, 3) := by decide +kernel
theorem dX9_swap_11 : decode cX9_swap 11 = .ok (.astore 4, 2) := by decide +kernel
theorem dX9_swap_13 : decode cX9_swap 13 = .ok (.iload_n 1, 1) := by decide +kernel
theorem dX9_swap_14 : decode cX9_swap 14 = .ok (.iload_n 2, 1) := by decide +kernel
theorem dX9_swap_15 : decode cX9_swap 15 = .ok (.if_icmp .eq 38, 3) := by decide +kernel
theorem dX9_swap_18 : decode cX9_swap 18 = .ok (.aload_n 3, 1) := by decide +kernel
theorem dX9_swap_19 : decode cX9_swap 19 = .ok (.getfield 238, 3) := by decide +kernel
theorem dX9_swap_22 : decode cX9_swap 22 = .ok (.aload 4, 2) := by decide +kernel
theorem dX9_swap_24 : decode cX9_swap 24 = .ok (.getfield 238, 3) := by decide +kernel
theorem dX9_swap_27 : decode cX9_swap 27 = .ok (.if_icmp .ne 26, 3) := by decide +kernel
theorem dX9_swap_30 : decode cX9_swap 30 = .ok (.aload_n 0, 1) := by decide +kernel
theorem dX9_swap_31 : decode cX9_swap 31 = .ok (.aload_n 3, 1) := by decide +kernel
theorem dX9_swap_32 : decode cX9_swap 32 = .ok (.getfield 221, 3) := by decide +kernel
theorem dX9_swap_35 : decode cX9_swap 35 = .ok (.invokevirtual 253, 3) := by decide +kernel
theorem dX9_swap_38 : decode cX9_swap 38 = .ok (.ifCond .eq 15, 3) := by decide +kernel
theorem dX9_swap_41 : decode cX9_swap 41 = .ok (.aload_n 0, 1) := by decide +kernel
theorem dX9_swap_42 : decode cX9_swap 42 = .ok (.aload 4, 2) := by decide +kernel
theorem dX9_swap_44 : decode cX9_swap 44 = .ok (.getfield 221, 3) := by decide +kernel
theorem dX9_swap_47 : decode cX9_swap 47 = .ok (.invokevirtual 253, 3) := by decide +kernel
theorem dX9_swap_50 : decode cX9_swap 50 = .ok (.ifCond .ne 5, 3) := by decide +kernel
theorem dX9_swap_53 : decode cX9_swap 53 = .ok (.iconst 0, 1) := by decide +kernel
theorem dX9_swap_54 : decode cX9_swap 54 = .ok (.ireturn, 1) := by decide +kernel
theorem dX9_swap_55 : decode cX9_swap 55 = .ok (.aload_n 3, 1) := by decide +kernel
theorem dX9_swap_56 : decode cX9_swap 56 = .ok (.getfield 221, 3) := by decide +kernel
theorem dX9_swap_59 : decode cX9_swap 59 = .ok (.getfield 256, 3) := by decide +kernel
theorem dX9_swap_62 : decode cX9_swap 62 = .ok (.astore 5, 2) := by decide +kernel
theorem dX9_swap_64 : decode cX9_swap 64 = .ok (.aload 4, 2) := by decide +kernel
theorem dX9_swap_66 : decode cX9_swap 66 = .ok (.getfield 221, 3) := by decide +kernel
theorem dX9_swap_69 : decode cX9_swap 69 = .ok (.getfield 256, 3) := by decide +kernel
theorem dX9_swap_72 : decode cX9_swap 72 = .ok (.astore 6, 2) := by decide +kernel
theorem dX9_swap_74 : decode cX9_swap 74 = .ok (.aload 5, 2) := by decide +kernel
theorem dX9_swap_76 : decode cX9_swap 76 = .ok (.ifnull 27, 3) := by decide +kernel
theorem dX9_swap_79 : decode cX9_swap 79 = .ok (.aload 6, 2) := by decide +kernel
theorem dX9_swap_81 : decode cX9_swap 81 = .ok (.ifnull 22, 3) := by decide +kernel
theorem dX9_swap_84 : decode cX9_swap 84 = .ok (.aload 5, 2) := by decide +kernel
theorem dX9_swap_86 : decode cX9_swap 86 = .ok (.aload 4, 2) := by decide +kernel
theorem dX9_swap_88 : decode cX9_swap 88 = .ok (.invokevirtual 260, 3) := by decide +kernel
theorem dX9_swap_91 : decode cX9_swap 91 = .ok (.ifCond .eq 12, 3) := by decide +kernel
theorem dX9_swap_94 : decode cX9_swap 94 = .ok (.aload 6, 2) := by decide +kernel
theorem dX9_swap_96 : decode cX9_swap 96 = .ok (.aload_n 3, 1) := by decide +kernel
theorem dX9_swap_97 : decode cX9_swap 97 = .ok (.invokevirtual 260, 3) := by decide +kernel
theorem dX9_swap_100 : decode cX9_swap 100 = .ok (.ifCond .ne 5, 3) := by decide +kernel
theorem dX9_swap_103 : decode cX9_swap 103 = .ok (.iconst 0, 1) := by decide +kernel
theorem dX9_swap_104 : decode cX9_swap 104 = .ok (.ireturn, 1) := by decide +kernel
theorem dX9_swap_105 : decode cX9_swap 105 = .ok (.aload_n 3, 1) := by decide +kernel
theorem dX9_swap_106 : decode cX9_swap 106 = .ok (.getfield 221, 3) := by decide +kernel
theorem dX9_swap_109 : decode cX9_swap 109 = .ok (.aload 6, 2) := by decide +kernel
theorem dX9_swap_111 : decode cX9_swap 111 = .ok (.putfield 256, 3) := by decide +kernel
theorem dX9_swap_114 : decode cX9_swap 114 = .ok (.aload 4, 2) := by decide +kernel
theorem dX9_swap_116 : decode cX9_swap 116 = .ok (.getfield 221, 3) := by decide +kernel
theorem dX9_swap_119 : decode cX9_swap 119 = .ok (.aload 5, 2) := by decide +kernel
theorem dX9_swap_121 : decode cX9_swap 121 = .ok (.putfield 256, 3) := by decide +kernel
theorem dX9_swap_124 : decode cX9_swap 124 = .ok (.aload 5, 2) := by decide +kernel
theorem dX9_swap_126 : decode cX9_swap 126 = .ok (.getfield 234, 3) := by decide +kernel
theorem dX9_swap_129 : decode cX9_swap 129 = .ok (.aload 4, 2) := by decide +kernel
theorem dX9_swap_131 : decode cX9_swap 131 = .ok (.invokevirtual 264, 3) := by decide +kernel
theorem dX9_swap_134 : decode cX9_swap 134 = .ok (.aload 6, 2) := by decide +kernel
theorem dX9_swap_136 : decode cX9_swap 136 = .ok (.getfield 234, 3) := by decide +kernel
theorem dX9_swap_139 : decode cX9_swap 139 = .ok (.aload_n 3, 1) := by decide +kernel
theorem dX9_swap_140 : decode cX9_swap 140 = .ok (.invokevirtual 264, 3) := by decide +kernel
theorem dX9_swap_143 : decode cX9_swap 143 = .ok (.iconst 1, 1) := by decide +kernel
theorem dX9_swap_144 : decode cX9_swap 144 = .ok (.ireturn, 1) := by decide +kernel
theorem dX9_undo_0 : decode cX9_undo 0 = .ok (.aload_n 0, 1) := by decide +kernel
theorem dX9_undo_1 : decode cX9_undo 1 = .ok (.getfield 77, 3) := by decide +kernel
theorem dX9_undo_4 : decode cX9_undo 4 = .ok (.ifCond .ne 5, 3) := by decide +kernel
theorem dX9_undo_7 : decode cX9_undo 7 = .ok (.iconst 0, 1) := by decide +kernel
theorem dX9_undo_8 : decode cX9_undo 8 = .ok (.ireturn, 1) := by decide +kernel
theorem dX9_undo_9 : decode cX9_undo 9 = .ok (.aload_n 0, 1) := by decide +kernel
theorem dX9_undo_10 : decode cX9_undo 10 = .ok (.iconst 0, 1) := by decide +kernel
theorem dX9_undo_11 : decode cX9_undo 11 = .ok (.putfield 77, 3) := by decide +kernel
theorem dX9_undo_14 : decode cX9_undo 14 = .ok (.aload_n 0, 1) := by decide +kernel
theorem dX9_undo_15 : decode cX9_undo 15 = .ok (.aload_n 0, 1) := by decide +kernel
theorem dX9_undo_16 : decode cX9_undo 16 = .ok (.getfield 63, 3) := by decide +kernel
theorem dX9_undo_19 : decode cX9_undo 19 = .ok (.iconst 1, 1) := by decide +kernel
theorem dX9_undo_20 : decode cX9_undo 20 = .ok (.isub, 1) := by decide +kernel
theorem dX9_undo_21 : decode cX9_undo 21 = .ok (.putfield 63, 3) := by decide +kernel
theorem dX9_undo_24 : decode cX9_undo 24 = .ok (.iconst 0, 1) := by decide +kernel
theorem dX9_undo_25 : decode cX9_undo 25 = .ok (.istore_n 1, 1) := by decide +kernel
theorem dX9_undo_26 : decode cX9_undo 26 = .ok (.iload_n 1, 1) := by decide +kernel
theorem dX9_undo_27 : decode cX9_undo 27 = .ok (.aload_n 0, 1) := by decide +kernel
theorem dX9_undo_28 : decode cX9_undo 28 = .ok (.getfield 12, 3) := by decide +kernel
theorem dX9_undo_31 : decode cX9_undo 31 = .ok (.invokevirtual 93, 3) := by decide +kernel
theorem dX9_undo_34 : decode cX9_undo 34 = .ok (.if_icmp .ge 40, 3) := by decide +kernel
theorem dX9_undo_37 : decode cX9_undo 37 = .ok (.aload_n 0, 1) := by decide +kernel
theorem dX9_undo_38 : decode cX9_undo 38 = .ok (.getfield 12, 3) := by decide +kernel
theorem dX9_undo_41 : decode cX9_undo 41 = .ok (.iload_n 1, 1) := by decide +kernel
theorem dX9_undo_42 : decode cX9_undo 42 = .ok (.invokevirtual 268, 3) := by decide +kernel
theorem dX9_undo_45 : decode cX9_undo 45 = .ok (.checkcast 102, 3) := by decide +kernel
theorem dX9_undo_48 : decode cX9_undo 48 = .ok (.getfield 234, 3) := by decide +kernel
theorem dX9_undo_51 : decode cX9_undo 51 = .ok (.aload_n 0, 1) := by decide +kernel
theorem dX9_undo_52 : decode cX9_undo 52 = .ok (.getfield 12, 3) := by decide +kernel
theorem dX9_undo_55 : decode cX9_undo 55 = .ok (.iload_n 1, 1) := by decide +kernel
theorem dX9_undo_56 : decode cX9_undo 56 = .ok (.invokevirtual 268, 3) := by decide +kernel
theorem dX9_undo_59 : decode cX9_undo 59 = .ok (.checkcast 102, 3) := by decide +kernel
theorem dX9_undo_62 : decode cX9_undo 62 = .ok (.getfield 272, 3) := by decide +kernel
theorem dX9_undo_65 : decode cX9_undo 65 = .ok (.invokevirtual 275, 3) := by decide +kernel
theorem dX9_undo_68 : decode cX9_undo 68 = .ok (.iinc 1 1, 3) := by decide +kernel
theorem dX9_undo_71 : decode cX9_undo 71 = .ok (.goto (-45), 3) := by decide +kernel
theorem dX9_undo_74 : decode cX9_undo 74 = .ok (.iconst 0, 1) := by decide +kernel
theorem dX9_undo_75 : decode cX9_undo 75 = .ok (.istore_n 1, 1) := by decide +kernel
theorem dX9_undo_76 : decode cX9_undo 76 = .ok (.iload_n 1, 1) := by decide +kernel
theorem dX9_undo_77 : decode cX9_undo 77 = .ok (.aload_n 0, 1) := by decide +kernel
theorem dX9_undo_78 : decode cX9_undo 78 = .ok (.getfield 16, 3) := by decide +kernel
theorem dX9_undo_81 : decode cX9_undo 81 = .ok (.invokevirtual 93, 3) := by decide +kernel
theorem dX9_undo_84 : decode cX9_undo 84 = .ok (.if_icmp .ge 40, 3) := by decide +kernel
theorem dX9_undo_87 : decode cX9_undo 87 = .ok (.aload_n 0, 1) := by decide +kernel
theorem dX9_undo_88 : decode cX9_undo 88 = .ok (.getfield 16, 3) := by decide +kernel
theorem dX9_undo_91 : decode cX9_undo 91 = .ok (.iload_n 1, 1) := by decide +kernel
theorem dX9_undo_92 : decode cX9_undo 92 = .ok (.invokevirtual 268, 3) := by decide +kernel
theorem dX9_undo_95 : decode cX9_undo 95 = .ok (.checkcast 131, 3) := by decide +kernel
theorem dX9_undo_98 : decode cX9_undo 98 = .ok (.getfield 221, 3) := by decide +kernel
theorem dX9_undo_101 : decode cX9_undo 101 = .ok (.aload_n 0, 1) := by decide +kernel
theorem dX9_undo_102 : decode cX9_undo 102 = .ok (.getfield 16, 3) := by decide +kernel
theorem dX9_undo_105 : decode cX9_undo 105 = .ok (.iload_n 1, 1) := by decide +kernel
theorem dX9_undo_106 : decode cX9_undo 106 = .ok (.invokevirtual 268, 3) := by decide +kernel
theorem dX9_undo_109 : decode cX9_undo 109 = .ok (.checkcast 131, 3) := by decide +kernel
theorem dX9_undo_112 : decode cX9_undo 112 = .ok (.getfield 279, 3) := by decide +kernel
theorem dX9_undo_115 : decode cX9_undo 115 = .ok (.invokevirtual 282, 3) := by decide +kernel
theorem dX9_undo_118 : decode cX9_undo 118 = .ok (.iinc 1 1, 3) := by decide +kernel
theorem dX9_undo_121 : decode cX9_undo 121 = .ok (.goto (-45), 3) := by decide +kernel
theorem dX9_undo_124 : decode cX9_undo 124 = .ok (.aload_n 0, 1) := by decide +kernel
theorem dX9_undo_125 : decode cX9_undo 125 = .ok (.getfield 46, 3) := by decide +kernel
theorem dX9_undo_128 : decode cX9_undo 128 = .ok (.aload_n 0, 1) := by decide +kernel
theorem dX9_undo_129 : decode cX9_undo 129 = .ok (.getfield 50, 3) := by decide +kernel
theorem dX9_undo_132 : decode cX9_undo 132 = .ok (.invokevirtual 285, 3) := by decide +kernel
theorem dX9_undo_135 : decode cX9_undo 135 = .ok (.aload_n 0, 1) := by decide +kernel
theorem dX9_undo_136 : decode cX9_undo 136 = .ok (.getfield 59, 3) := by decide +kernel
