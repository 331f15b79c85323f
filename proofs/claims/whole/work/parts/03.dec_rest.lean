theorem dX0_init_0 : decode cX0_init 0 = .ok (.aload_n 0, 1) := by decide +kernel
theorem dX0_init_1 : decode cX0_init 1 = .ok (.invokespecial 3, 3) := by decide +kernel
theorem dX0_init_4 : decode cX0_init 4 = .ok (.aload_n 0, 1) := by decide +kernel
theorem dX0_init_5 : decode cX0_init 5 = .ok (.new 9, 3) := by decide +kernel
theorem dX0_init_8 : decode cX0_init 8 = .ok (.dup, 1) := by decide +kernel
theorem dX0_init_9 : decode cX0_init 9 = .ok (.sipush 144, 3) := by decide +kernel
theorem dX0_init_12 : decode cX0_init 12 = .ok (.invokespecial 11, 3) := by decide +kernel
theorem dX0_init_15 : decode cX0_init 15 = .ok (.putfield 14, 3) := by decide +kernel
theorem dX0_init_18 : decode cX0_init 18 = .ok (.aload_n 0, 1) := by decide +kernel
theorem dX0_init_19 : decode cX0_init 19 = .ok (.iconst 4, 1) := by decide +kernel
theorem dX0_init_20 : decode cX0_init 20 = .ok (.anewarray 20, 3) := by decide +kernel
theorem dX0_init_23 : decode cX0_init 23 = .ok (.putfield 22, 3) := by decide +kernel
theorem dX0_init_26 : decode cX0_init 26 = .ok (.iconst 0, 1) := by decide +kernel
theorem dX0_init_27 : decode cX0_init 27 = .ok (.istore_n 1, 1) := by decide +kernel
theorem dX0_init_28 : decode cX0_init 28 = .ok (.iload_n 1, 1) := by decide +kernel
theorem dX0_init_29 : decode cX0_init 29 = .ok (.aload_n 0, 1) := by decide +kernel
theorem dX0_init_30 : decode cX0_init 30 = .ok (.getfield 22, 3) := by decide +kernel
theorem dX0_init_33 : decode cX0_init 33 = .ok (.arraylength, 1) := by decide +kernel
theorem dX0_init_34 : decode cX0_init 34 = .ok (.if_icmp .ge 22, 3) := by decide +kernel
theorem dX0_init_37 : decode cX0_init 37 = .ok (.aload_n 0, 1) := by decide +kernel
theorem dX0_init_38 : decode cX0_init 38 = .ok (.getfield 22, 3) := by decide +kernel
theorem dX0_init_41 : decode cX0_init 41 = .ok (.iload_n 1, 1) := by decide +kernel
theorem dX0_init_42 : decode cX0_init 42 = .ok (.new 20, 3) := by decide +kernel
theorem dX0_init_45 : decode cX0_init 45 = .ok (.dup, 1) := by decide +kernel
theorem dX0_init_46 : decode cX0_init 46 = .ok (.invokespecial 26, 3) := by decide +kernel
theorem dX0_init_49 : decode cX0_init 49 = .ok (.aastore, 1) := by decide +kernel
theorem dX0_init_50 : decode cX0_init 50 = .ok (.iinc 1 1, 3) := by decide +kernel
theorem dX0_init_53 : decode cX0_init 53 = .ok (.goto (-25), 3) := by decide +kernel
theorem dX0_init_56 : decode cX0_init 56 = .ok (.return_, 1) := by decide +kernel
theorem dX0_who_0 : decode cX0_who 0 = .ok (.aload_n 0, 1) := by decide +kernel
theorem dX0_who_1 : decode cX0_who 1 = .ok (.getfield 22, 3) := by decide +kernel
theorem dX0_who_4 : decode cX0_who 4 = .ok (.iload_n 1, 1) := by decide +kernel
theorem dX0_who_5 : decode cX0_who 5 = .ok (.ifCond .lt 16, 3) := by decide +kernel
theorem dX0_who_8 : decode cX0_who 8 = .ok (.iload_n 1, 1) := by decide +kernel
theorem dX0_who_9 : decode cX0_who 9 = .ok (.aload_n 0, 1) := by decide +kernel
theorem dX0_who_10 : decode cX0_who 10 = .ok (.getfield 22, 3) := by decide +kernel
theorem dX0_who_13 : decode cX0_who 13 = .ok (.arraylength, 1) := by decide +kernel
theorem dX0_who_14 : decode cX0_who 14 = .ok (.if_icmp .ge 7, 3) := by decide +kernel
theorem dX0_who_17 : decode cX0_who 17 = .ok (.iload_n 1, 1) := by decide +kernel
theorem dX0_who_18 : decode cX0_who 18 = .ok (.goto 4, 3) := by decide +kernel
theorem dX0_who_21 : decode cX0_who 21 = .ok (.iconst 0, 1) := by decide +kernel
theorem dX0_who_22 : decode cX0_who 22 = .ok (.aaload, 1) := by decide +kernel
theorem dX0_who_23 : decode cX0_who 23 = .ok (.areturn, 1) := by decide +kernel
theorem dX0_clear_0 : decode cX0_clear 0 = .ok (.aload_n 0, 1) := by decide +kernel
theorem dX0_clear_1 : decode cX0_clear 1 = .ok (.getfield 14, 3) := by decide +kernel
theorem dX0_clear_4 : decode cX0_clear 4 = .ok (.iconst (-1), 1) := by decide +kernel
theorem dX0_clear_5 : decode cX0_clear 5 = .ok (.invokevirtual 27, 3) := by decide +kernel
theorem dX0_clear_8 : decode cX0_clear 8 = .ok (.aload_n 0, 1) := by decide +kernel
theorem dX0_clear_9 : decode cX0_clear 9 = .ok (.iconst 0, 1) := by decide +kernel
theorem dX0_clear_10 : decode cX0_clear 10 = .ok (.putfield 30, 3) := by decide +kernel
theorem dX0_clear_13 : decode cX0_clear 13 = .ok (.aload_n 0, 1) := by decide +kernel
theorem dX0_clear_14 : decode cX0_clear 14 = .ok (.iconst 0, 1) := by decide +kernel
theorem dX0_clear_15 : decode cX0_clear 15 = .ok (.putfield 34, 3) := by decide +kernel
theorem dX0_clear_18 : decode cX0_clear 18 = .ok (.return_, 1) := by decide +kernel
theorem dX0_setTold_0 : decode cX0_setTold 0 = .ok (.aload_n 0, 1) := by decide +kernel
theorem dX0_setTold_1 : decode cX0_setTold 1 = .ok (.getfield 14, 3) := by decide +kernel
theorem dX0_setTold_4 : decode cX0_setTold 4 = .ok (.iload_n 1, 1) := by decide +kernel
theorem dX0_setTold_5 : decode cX0_setTold 5 = .ok (.bipush 36, 2) := by decide +kernel
theorem dX0_setTold_7 : decode cX0_setTold 7 = .ok (.imul, 1) := by decide +kernel
theorem dX0_setTold_8 : decode cX0_setTold 8 = .ok (.iload_n 2, 1) := by decide +kernel
theorem dX0_setTold_9 : decode cX0_setTold 9 = .ok (.iadd, 1) := by decide +kernel
theorem dX0_setTold_10 : decode cX0_setTold 10 = .ok (.iload_n 3, 1) := by decide +kernel
theorem dX0_setTold_11 : decode cX0_setTold 11 = .ok (.invokevirtual 37, 3) := by decide +kernel
theorem dX0_setTold_14 : decode cX0_setTold 14 = .ok (.return_, 1) := by decide +kernel
theorem dX0_tells_0 : decode cX0_tells 0 = .ok (.aload_n 0, 1) := by decide +kernel
theorem dX0_tells_1 : decode cX0_tells 1 = .ok (.getfield 14, 3) := by decide +kernel
theorem dX0_tells_4 : decode cX0_tells 4 = .ok (.iload_n 2, 1) := by decide +kernel
theorem dX0_tells_5 : decode cX0_tells 5 = .ok (.bipush 36, 2) := by decide +kernel
theorem dX0_tells_7 : decode cX0_tells 7 = .ok (.imul, 1) := by decide +kernel
theorem dX0_tells_8 : decode cX0_tells 8 = .ok (.iload_n 3, 1) := by decide +kernel
theorem dX0_tells_9 : decode cX0_tells 9 = .ok (.iadd, 1) := by decide +kernel
theorem dX0_tells_10 : decode cX0_tells 10 = .ok (.invokevirtual 41, 3) := by decide +kernel
theorem dX0_tells_13 : decode cX0_tells 13 = .ok (.istore 4, 2) := by decide +kernel
theorem dX0_tells_15 : decode cX0_tells 15 = .ok (.iload 4, 2) := by decide +kernel
theorem dX0_tells_17 : decode cX0_tells 17 = .ok (.iconst (-1), 1) := by decide +kernel
theorem dX0_tells_18 : decode cX0_tells 18 = .ok (.if_icmp .ne 14, 3) := by decide +kernel
theorem dX0_tells_21 : decode cX0_tells 21 = .ok (.aload_n 1, 1) := by decide +kernel
theorem dX0_tells_22 : decode cX0_tells 22 = .ok (.getfield 45, 3) := by decide +kernel
theorem dX0_tells_25 : decode cX0_tells 25 = .ok (.iload_n 3, 1) := by decide +kernel
theorem dX0_tells_26 : decode cX0_tells 26 = .ok (.invokevirtual 41, 3) := by decide +kernel
theorem dX0_tells_29 : decode cX0_tells 29 = .ok (.goto 5, 3) := by decide +kernel
theorem dX0_tells_32 : decode cX0_tells 32 = .ok (.iload 4, 2) := by decide +kernel
theorem dX0_tells_34 : decode cX0_tells 34 = .ok (.ireturn, 1) := by decide +kernel
theorem dX0_takes_0 : decode cX0_takes 0 = .ok (.aload_n 0, 1) := by decide +kernel
theorem dX0_takes_1 : decode cX0_takes 1 = .ok (.aload_n 1, 1) := by decide +kernel
theorem dX0_takes_2 : decode cX0_takes 2 = .ok (.iload_n 2, 1) := by decide +kernel
theorem dX0_takes_3 : decode cX0_takes 3 = .ok (.iload_n 3, 1) := by decide +kernel
theorem dX0_takes_4 : decode cX0_takes 4 = .ok (.invokevirtual 50, 3) := by decide +kernel
theorem dX0_takes_7 : decode cX0_takes 7 = .ok (.istore 4, 2) := by decide +kernel
theorem dX0_takes_9 : decode cX0_takes 9 = .ok (.aload_n 1, 1) := by decide +kernel
theorem dX0_takes_10 : decode cX0_takes 10 = .ok (.getfield 54, 3) := by decide +kernel
theorem dX0_takes_13 : decode cX0_takes 13 = .ok (.iload_n 2, 1) := by decide +kernel
theorem dX0_takes_14 : decode cX0_takes 14 = .ok (.invokevirtual 41, 3) := by decide +kernel
theorem dX0_takes_17 : decode cX0_takes 17 = .ok (.tableswitch 66 1 3 #[27, 40, 53], 27) := by decide +kernel
theorem dX0_takes_44 : decode cX0_takes 44 = .ok (.iload 4, 2) := by decide +kernel
theorem dX0_takes_46 : decode cX0_takes 46 = .ok (.iconst 1, 1) := by decide +kernel
theorem dX0_takes_47 : decode cX0_takes 47 = .ok (.if_icmp .ne 7, 3) := by decide +kernel
theorem dX0_takes_50 : decode cX0_takes 50 = .ok (.iconst 0, 1) := by decide +kernel
theorem dX0_takes_51 : decode cX0_takes 51 = .ok (.goto 5, 3) := by decide +kernel
theorem dX0_takes_54 : decode cX0_takes 54 = .ok (.iload 4, 2) := by decide +kernel
theorem dX0_takes_56 : decode cX0_takes 56 = .ok (.ireturn, 1) := by decide +kernel
theorem dX0_takes_57 : decode cX0_takes 57 = .ok (.iload 4, 2) := by decide +kernel
theorem dX0_takes_59 : decode cX0_takes 59 = .ok (.iconst 2, 1) := by decide +kernel
theorem dX0_takes_60 : decode cX0_takes 60 = .ok (.if_icmp .ne 7, 3) := by decide +kernel
theorem dX0_takes_63 : decode cX0_takes 63 = .ok (.iconst 0, 1) := by decide +kernel
theorem dX0_takes_64 : decode cX0_takes 64 = .ok (.goto 5, 3) := by decide +kernel
theorem dX0_takes_67 : decode cX0_takes 67 = .ok (.iload 4, 2) := by decide +kernel
theorem dX0_takes_69 : decode cX0_takes 69 = .ok (.ireturn, 1) := by decide +kernel
theorem dX0_takes_70 : decode cX0_takes 70 = .ok (.iload 4, 2) := by decide +kernel
theorem dX0_takes_72 : decode cX0_takes 72 = .ok (.iconst 3, 1) := by decide +kernel
theorem dX0_takes_73 : decode cX0_takes 73 = .ok (.if_icmp .ne 7, 3) := by decide +kernel
theorem dX0_takes_76 : decode cX0_takes 76 = .ok (.iconst 0, 1) := by decide +kernel
theorem dX0_takes_77 : decode cX0_takes 77 = .ok (.goto 5, 3) := by decide +kernel
theorem dX0_takes_80 : decode cX0_takes 80 = .ok (.iload 4, 2) := by decide +kernel
theorem dX0_takes_82 : decode cX0_takes 82 = .ok (.ireturn, 1) := by decide +kernel
theorem dX0_takes_83 : decode cX0_takes 83 = .ok (.iload 4, 2) := by decide +kernel
theorem dX0_takes_85 : decode cX0_takes 85 = .ok (.ireturn, 1) := by decide +kernel
theorem dX0_howMany_0 : decode cX0_howMany 0 = .ok (.iconst 0, 1) := by decide +kernel
theorem dX0_howMany_1 : decode cX0_howMany 1 = .ok (.istore_n 3, 1) := by decide +kernel
theorem dX0_howMany_2 : decode cX0_howMany 2 = .ok (.iconst 0, 1) := by decide +kernel
theorem dX0_howMany_3 : decode cX0_howMany 3 = .ok (.istore 4, 2) := by decide +kernel
theorem dX0_howMany_5 : decode cX0_howMany 5 = .ok (.iload 4, 2) := by decide +kernel
theorem dX0_howMany_7 : decode cX0_howMany 7 = .ok (.aload_n 1, 1) := by decide +kernel
theorem dX0_howMany_8 : decode cX0_howMany 8 = .ok (.getfield 57, 3) := by decide +kernel
theorem dX0_howMany_11 : decode cX0_howMany 11 = .ok (.if_icmp .ge 30, 3) := by decide +kernel
theorem dX0_howMany_14 : decode cX0_howMany 14 = .ok (.iload_n 3, 1) := by decide +kernel
theorem dX0_howMany_15 : decode cX0_howMany 15 = .ok (.aload_n 0, 1) := by decide +kernel
theorem dX0_howMany_16 : decode cX0_howMany 16 = .ok (.iload 4, 2) := by decide +kernel
theorem dX0_howMany_18 : decode cX0_howMany 18 = .ok (.invokevirtual 59, 3) := by decide +kernel
theorem dX0_howMany_21 : decode cX0_howMany 21 = .ok (.getfield 63, 3) := by decide +kernel
theorem dX0_howMany_24 : decode cX0_howMany 24 = .ok (.iload_n 2, 1) := by decide +kernel
theorem dX0_howMany_25 : decode cX0_howMany 25 = .ok (.if_icmp .ne 7, 3) := by decide +kernel
theorem dX0_howMany_28 : decode cX0_howMany 28 = .ok (.iconst 1, 1) := by decide +kernel
theorem dX0_howMany_29 : decode cX0_howMany 29 = .ok (.goto 4, 3) := by decide +kernel
theorem dX0_howMany_32 : decode cX0_howMany 32 = .ok (.iconst 0, 1) := by decide +kernel
theorem dX0_howMany_33 : decode cX0_howMany 33 = .ok (.iadd, 1) := by decide +kernel
theorem dX0_howMany_34 : decode cX0_howMany 34 = .ok (.istore_n 3, 1) := by decide +kernel
theorem dX0_howMany_35 : decode cX0_howMany 35 = .ok (.iinc 4 1, 3) := by decide +kernel
theorem dX0_howMany_38 : decode cX0_howMany 38 = .ok (.goto (-33), 3) := by decide +kernel
theorem dX0_howMany_41 : decode cX0_howMany 41 = .ok (.iload_n 3, 1) := by decide +kernel
theorem dX0_howMany_42 : decode cX0_howMany 42 = .ok (.ireturn, 1) := by decide +kernel
theorem dX0_copyFrom_0 : decode cX0_copyFrom 0 = .ok (.aload_n 0, 1) := by decide +kernel
theorem dX0_copyFrom_1 : decode cX0_copyFrom 1 = .ok (.getfield 14, 3) := by decide +kernel
theorem dX0_copyFrom_4 : decode cX0_copyFrom 4 = .ok (.aload_n 1, 1) := by decide +kernel
theorem dX0_copyFrom_5 : decode cX0_copyFrom 5 = .ok (.getfield 14, 3) := by decide +kernel
theorem dX0_copyFrom_8 : decode cX0_copyFrom 8 = .ok (.invokevirtual 66, 3) := by decide +kernel
theorem dX0_copyFrom_11 : decode cX0_copyFrom 11 = .ok (.iconst 0, 1) := by decide +kernel
theorem dX0_copyFrom_12 : decode cX0_copyFrom 12 = .ok (.istore_n 2, 1) := by decide +kernel
theorem dX0_copyFrom_13 : decode cX0_copyFrom 13 = .ok (.iload_n 2, 1) := by decide +kernel
theorem dX0_copyFrom_14 : decode cX0_copyFrom 14 = .ok (.iconst 4, 1) := by decide +kernel
theorem dX0_copyFrom_15 : decode cX0_copyFrom 15 = .ok (.if_icmp .ge 22, 3) := by decide +kernel
theorem dX0_copyFrom_18 : decode cX0_copyFrom 18 = .ok (.aload_n 0, 1) := by decide +kernel
theorem dX0_copyFrom_19 : decode cX0_copyFrom 19 = .ok (.iload_n 2, 1) := by decide +kernel
theorem dX0_copyFrom_20 : decode cX0_copyFrom 20 = .ok (.invokevirtual 59, 3) := by decide +kernel
theorem dX0_copyFrom_23 : decode cX0_copyFrom 23 = .ok (.aload_n 1, 1) := by decide +kernel
theorem dX0_copyFrom_24 : decode cX0_copyFrom 24 = .ok (.iload_n 2, 1) := by decide +kernel
theorem dX0_copyFrom_25 : decode cX0_copyFrom 25 = .ok (.invokevirtual 59, 3) := by decide +kernel
theorem dX0_copyFrom_28 : decode cX0_copyFrom 28 = .ok (.invokevirtual 70, 3) := by decide +kernel
theorem dX0_copyFrom_31 : decode cX0_copyFrom 31 = .ok (.iinc 2 1, 3) := by decide +kernel
theorem dX0_copyFrom_34 : decode cX0_copyFrom 34 = .ok (.goto (-21), 3) := by decide +kernel
theorem dX0_copyFrom_37 : decode cX0_copyFrom 37 = .ok (.aload_n 0, 1) := by decide +kernel
theorem dX0_copyFrom_38 : decode cX0_copyFrom 38 = .ok (.aload_n 1, 1) := by decide +kernel
theorem dX0_copyFrom_39 : decode cX0_copyFrom 39 = .ok (.getfield 30, 3) := by decide +kernel
theorem dX0_copyFrom_42 : decode cX0_copyFrom 42 = .ok (.putfield 30, 3) := by decide +kernel
theorem dX0_copyFrom_45 : decode cX0_copyFrom 45 = .ok (.aload_n 0, 1) := by decide +kernel
theorem dX0_copyFrom_46 : decode cX0_copyFrom 46 = .ok (.aload_n 1, 1) := by decide +kernel
theorem dX0_copyFrom_47 : decode cX0_copyFrom 47 = .ok (.getfield 34, 3) := by decide +kernel
theorem dX0_copyFrom_50 : decode cX0_copyFrom 50 = .ok (.putfield 34, 3) := by decide +kernel
theorem dX0_copyFrom_53 : decode cX0_copyFrom 53 = .ok (.return_, 1) := by decide +kernel
theorem dX1_init_0 : decode cX1_init 0 = .ok (.aload_n 0, 1) := by decide +kernel
theorem dX1_init_1 : decode cX1_init 1 = .ok (.invokespecial 3, 3) := by decide +kernel
theorem dX1_init_4 : decode cX1_init 4 = .ok (.aload_n 0, 1) := by decide +kernel
theorem dX1_init_5 : decode cX1_init 5 = .ok (.new 9, 3) := by decide +kernel
theorem dX1_init_8 : decode cX1_init 8 = .ok (.dup, 1) := by decide +kernel
theorem dX1_init_9 : decode cX1_init 9 = .ok (.bipush 36, 2) := by decide +kernel
theorem dX1_init_11 : decode cX1_init 11 = .ok (.invokespecial 11, 3) := by decide +kernel
theorem dX1_init_14 : decode cX1_init 14 = .ok (.putfield 14, 3) := by decide +kernel
theorem dX1_init_17 : decode cX1_init 17 = .ok (.aload_n 0, 1) := by decide +kernel
theorem dX1_init_18 : decode cX1_init 18 = .ok (.new 9, 3) := by decide +kernel
theorem dX1_init_21 : decode cX1_init 21 = .ok (.dup, 1) := by decide +kernel
theorem dX1_init_22 : decode cX1_init 22 = .ok (.iconst 4, 1) := by decide +kernel
theorem dX1_init_23 : decode cX1_init 23 = .ok (.invokespecial 11, 3) := by decide +kernel
theorem dX1_init_26 : decode cX1_init 26 = .ok (.putfield 20, 3) := by decide +kernel
theorem dX1_init_29 : decode cX1_init 29 = .ok (.aload_n 0, 1) := by decide +kernel
theorem dX1_init_30 : decode cX1_init 30 = .ok (.new 9, 3) := by decide +kernel
theorem dX1_init_33 : decode cX1_init 33 = .ok (.dup, 1) := by decide +kernel
theorem dX1_init_34 : decode cX1_init 34 = .ok (.sipush 144, 3) := by decide +kernel
theorem dX1_init_37 : decode cX1_init 37 = .ok (.invokespecial 11, 3) := by decide +kernel
theorem dX1_init_40 : decode cX1_init 40 = .ok (.putfield 23, 3) := by decide +kernel
theorem dX1_init_43 : decode cX1_init 43 = .ok (.return_, 1) := by decide +kernel
theorem dX1_hasPlace_0 : decode cX1_hasPlace 0 = .ok (.iload_n 1, 1) := by decide +kernel
theorem dX1_hasPlace_1 : decode cX1_hasPlace 1 = .ok (.ifCond .lt 15, 3) := by decide +kernel
theorem dX1_hasPlace_4 : decode cX1_hasPlace 4 = .ok (.iload_n 1, 1) := by decide +kernel
theorem dX1_hasPlace_5 : decode cX1_hasPlace 5 = .ok (.aload_n 0, 1) := by decide +kernel
theorem dX1_hasPlace_6 : decode cX1_hasPlace 6 = .ok (.getfield 26, 3) := by decide +kernel
theorem dX1_hasPlace_9 : decode cX1_hasPlace 9 = .ok (.if_icmp .ge 7, 3) := by decide +kernel
theorem dX1_hasPlace_12 : decode cX1_hasPlace 12 = .ok (.iconst 1, 1) := by decide +kernel
theorem dX1_hasPlace_13 : decode cX1_hasPlace 13 = .ok (.goto 4, 3) := by decide +kernel
theorem dX1_hasPlace_16 : decode cX1_hasPlace 16 = .ok (.iconst 0, 1) := by decide +kernel
theorem dX1_hasPlace_17 : decode cX1_hasPlace 17 = .ok (.ireturn, 1) := by decide +kernel
theorem dX1_hasDrum_0 : decode cX1_hasDrum 0 = .ok (.iload_n 1, 1) := by decide +kernel
theorem dX1_hasDrum_1 : decode cX1_hasDrum 1 = .ok (.ifCond .lt 15, 3) := by decide +kernel
theorem dX1_hasDrum_4 : decode cX1_hasDrum 4 = .ok (.iload_n 1, 1) := by decide +kernel
theorem dX1_hasDrum_5 : decode cX1_hasDrum 5 = .ok (.aload_n 0, 1) := by decide +kernel
theorem dX1_hasDrum_6 : decode cX1_hasDrum 6 = .ok (.getfield 30, 3) := by decide +kernel
theorem dX1_hasDrum_9 : decode cX1_hasDrum 9 = .ok (.if_icmp .ge 7, 3) := by decide +kernel
theorem dX1_hasDrum_12 : decode cX1_hasDrum 12 = .ok (.iconst 1, 1) := by decide +kernel
theorem dX1_hasDrum_13 : decode cX1_hasDrum 13 = .ok (.goto 4, 3) := by decide +kernel
theorem dX1_hasDrum_16 : decode cX1_hasDrum 16 = .ok (.iconst 0, 1) := by decide +kernel
theorem dX1_hasDrum_17 : decode cX1_hasDrum 17 = .ok (.ireturn, 1) := by decide +kernel
theorem dX1_hasTraveller_0 : decode cX1_hasTraveller 0 = .ok (.iload_n 1, 1) := by decide +kernel
theorem dX1_hasTraveller_1 : decode cX1_hasTraveller 1 = .ok (.ifCond .lt 15, 3) := by decide +kernel
theorem dX1_hasTraveller_4 : decode cX1_hasTraveller 4 = .ok (.iload_n 1, 1) := by decide +kernel
theorem dX1_hasTraveller_5 : decode cX1_hasTraveller 5 = .ok (.aload_n 0, 1) := by decide +kernel
theorem dX1_hasTraveller_6 : decode cX1_hasTraveller 6 = .ok (.getfield 33, 3) := by decide +kernel
theorem dX1_hasTraveller_9 : decode cX1_hasTraveller 9 = .ok (.if_icmp .ge 7, 3) := by decide +kernel
theorem dX1_hasTraveller_12 : decode cX1_hasTraveller 12 = .ok (.iconst 1, 1) := by decide +kernel
theorem dX1_hasTraveller_13 : decode cX1_hasTraveller 13 = .ok (.goto 4, 3) := by decide +kernel
theorem dX1_hasTraveller_16 : decode cX1_hasTraveller 16 = .ok (.iconst 0, 1) := by decide +kernel
theorem dX1_hasTraveller_17 : decode cX1_hasTraveller 17 = .ok (.ireturn, 1) := by decide +kernel
theorem dX1_clear_0 : decode cX1_clear 0 = .ok (.aload_n 0, 1) := by decide +kernel
theorem dX1_clear_1 : decode cX1_clear 1 = .ok (.iconst 0, 1) := by decide +kernel
theorem dX1_clear_2 : decode cX1_clear 2 = .ok (.putfield 26, 3) := by decide +kernel
theorem dX1_clear_5 : decode cX1_clear 5 = .ok (.aload_n 0, 1) := by decide +kernel
theorem dX1_clear_6 : decode cX1_clear 6 = .ok (.iconst 0, 1) := by decide +kernel
theorem dX1_clear_7 : decode cX1_clear 7 = .ok (.putfield 36, 3) := by decide +kernel
theorem dX1_clear_10 : decode cX1_clear 10 = .ok (.aload_n 0, 1) := by decide +kernel
theorem dX1_clear_11 : decode cX1_clear 11 = .ok (.iconst 0, 1) := by decide +kernel
theorem dX1_clear_12 : decode cX1_clear 12 = .ok (.putfield 39, 3) := by decide +kernel
theorem dX1_clear_15 : decode cX1_clear 15 = .ok (.aload_n 0, 1) := by decide +kernel
theorem dX1_clear_16 : decode cX1_clear 16 = .ok (.iconst 0, 1) := by decide +kernel
theorem dX1_clear_17 : decode cX1_clear 17 = .ok (.putfield 30, 3) := by decide +kernel
theorem dX1_clear_20 : decode cX1_clear 20 = .ok (.aload_n 0, 1) := by decide +kernel
theorem dX1_clear_21 : decode cX1_clear 21 = .ok (.iconst 0, 1) := by decide +kernel
theorem dX1_clear_22 : decode cX1_clear 22 = .ok (.putfield 33, 3) := by decide +kernel
theorem dX1_clear_25 : decode cX1_clear 25 = .ok (.return_, 1) := by decide +kernel
theorem dX1_copyFrom_0 : decode cX1_copyFrom 0 = .ok (.aload_n 0, 1) := by decide +kernel
theorem dX1_copyFrom_1 : decode cX1_copyFrom 1 = .ok (.getfield 14, 3) := by decide +kernel
theorem dX1_copyFrom_4 : decode cX1_copyFrom 4 = .ok (.aload_n 1, 1) := by decide +kernel
theorem dX1_copyFrom_5 : decode cX1_copyFrom 5 = .ok (.getfield 14, 3) := by decide +kernel
theorem dX1_copyFrom_8 : decode cX1_copyFrom 8 = .ok (.invokevirtual 42, 3) := by decide +kernel
theorem dX1_copyFrom_11 : decode cX1_copyFrom 11 = .ok (.aload_n 0, 1) := by decide +kernel
theorem dX1_copyFrom_12 : decode cX1_copyFrom 12 = .ok (.getfield 20, 3) := by decide +kernel
theorem dX1_copyFrom_15 : decode cX1_copyFrom 15 = .ok (.aload_n 1, 1) := by decide +kernel
theorem dX1_copyFrom_16 : decode cX1_copyFrom 16 = .ok (.getfield 20, 3) := by decide +kernel
theorem dX1_copyFrom_19 : decode cX1_copyFrom 19 = .ok (.invokevirtual 42, 3) := by decide +kernel
theorem dX1_copyFrom_22 : decode cX1_copyFrom 22 = .ok (.aload_n 0, 1) := by decide +kernel
theorem dX1_copyFrom_23 : decode cX1_copyFrom 23 = .ok (.aload_n 1, 1) := by decide +kernel
theorem dX1_copyFrom_24 : decode cX1_copyFrom 24 = .ok (.getfield 26, 3) := by decide +kernel
theorem dX1_copyFrom_27 : decode cX1_copyFrom 27 = .ok (.putfield 26, 3) := by decide +kernel
theorem dX1_copyFrom_30 : decode cX1_copyFrom 30 = .ok (.aload_n 0, 1) := by decide +kernel
theorem dX1_copyFrom_31 : decode cX1_copyFrom 31 = .ok (.aload_n 1, 1) := by decide +kernel
theorem dX1_copyFrom_32 : decode cX1_copyFrom 32 = .ok (.getfield 36, 3) := by decide +kernel
theorem dX1_copyFrom_35 : decode cX1_copyFrom 35 = .ok (.putfield 36, 3) := by decide +kernel
theorem dX1_copyFrom_38 : decode cX1_copyFrom 38 = .ok (.aload_n 0, 1) := by decide +kernel
theorem dX1_copyFrom_39 : decode cX1_copyFrom 39 = .ok (.aload_n 1, 1) := by decide +kernel
theorem dX1_copyFrom_40 : decode cX1_copyFrom 40 = .ok (.getfield 39, 3) := by decide +kernel
theorem dX1_copyFrom_43 : decode cX1_copyFrom 43 = .ok (.putfield 39, 3) := by decide +kernel
theorem dX1_copyFrom_46 : decode cX1_copyFrom 46 = .ok (.aload_n 0, 1) := by decide +kernel
theorem dX1_copyFrom_47 : decode cX1_copyFrom 47 = .ok (.aload_n 1, 1) := by decide +kernel
theorem dX1_copyFrom_48 : decode cX1_copyFrom 48 = .ok (.getfield 30, 3) := by decide +kernel
theorem dX1_copyFrom_51 : decode cX1_copyFrom 51 = .ok (.putfield 30, 3) := by decide +kernel
theorem dX1_copyFrom_54 : decode cX1_copyFrom 54 = .ok (.aload_n 0, 1) := by decide +kernel
theorem dX1_copyFrom_55 : decode cX1_copyFrom 55 = .ok (.aload_n 1, 1) := by decide +kernel
theorem dX1_copyFrom_56 : decode cX1_copyFrom 56 = .ok (.getfield 33, 3) := by decide +kernel
theorem dX1_copyFrom_59 : decode cX1_copyFrom 59 = .ok (.putfield 33, 3) := by decide +kernel
theorem dX1_copyFrom_62 : decode cX1_copyFrom 62 = .ok (.return_, 1) := by decide +kernel
theorem dX1_linkPlaces_0 : decode cX1_linkPlaces 0 = .ok (.iconst 0, 1) := by decide +kernel
theorem dX1_linkPlaces_1 : decode cX1_linkPlaces 1 = .ok (.istore_n 1, 1) := by decide +kernel
theorem dX1_linkPlaces_2 : decode cX1_linkPlaces 2 = .ok (.iload_n 1, 1) := by decide +kernel
theorem dX1_linkPlaces_3 : decode cX1_linkPlaces 3 = .ok (.aload_n 0, 1) := by decide +kernel
theorem dX1_linkPlaces_4 : decode cX1_linkPlaces 4 = .ok (.getfield 26, 3) := by decide +kernel
theorem dX1_linkPlaces_7 : decode cX1_linkPlaces 7 = .ok (.if_icmp .ge 137, 3) := by decide +kernel
theorem dX1_linkPlaces_10 : decode cX1_linkPlaces 10 = .ok (.iload_n 1, 1) := by decide +kernel
theorem dX1_linkPlaces_11 : decode cX1_linkPlaces 11 = .ok (.aload_n 0, 1) := by decide +kernel
theorem dX1_linkPlaces_12 : decode cX1_linkPlaces 12 = .ok (.getfield 36, 3) := by decide +kernel
theorem dX1_linkPlaces_15 : decode cX1_linkPlaces 15 = .ok (.invokestatic 46, 3) := by decide +kernel
theorem dX1_linkPlaces_18 : decode cX1_linkPlaces 18 = .ok (.istore_n 2, 1) := by decide +kernel
theorem dX1_linkPlaces_19 : decode cX1_linkPlaces 19 = .ok (.aload_n 0, 1) := by decide +kernel
theorem dX1_linkPlaces_20 : decode cX1_linkPlaces 20 = .ok (.getfield 23, 3) := by decide +kernel
theorem dX1_linkPlaces_23 : decode cX1_linkPlaces 23 = .ok (.iload_n 1, 1) := by decide +kernel
theorem dX1_linkPlaces_24 : decode cX1_linkPlaces 24 = .ok (.iconst 4, 1) := by decide +kernel
theorem dX1_linkPlaces_25 : decode cX1_linkPlaces 25 = .ok (.imul, 1) := by decide +kernel
theorem dX1_linkPlaces_26 : decode cX1_linkPlaces 26 = .ok (.iload_n 1, 1) := by decide +kernel
theorem dX1_linkPlaces_27 : decode cX1_linkPlaces 27 = .ok (.aload_n 0, 1) := by decide +kernel
theorem dX1_linkPlaces_28 : decode cX1_linkPlaces 28 = .ok (.getfield 36, 3) := by decide +kernel
theorem dX1_linkPlaces_31 : decode cX1_linkPlaces 31 = .ok (.if_icmp .lt 12, 3) := by decide +kernel
theorem dX1_linkPlaces_34 : decode cX1_linkPlaces 34 = .ok (.iload_n 1, 1) := by decide +kernel
theorem dX1_linkPlaces_35 : decode cX1_linkPlaces 35 = .ok (.aload_n 0, 1) := by decide +kernel
theorem dX1_linkPlaces_36 : decode cX1_linkPlaces 36 = .ok (.getfield 36, 3) := by decide +kernel
theorem dX1_linkPlaces_39 : decode cX1_linkPlaces 39 = .ok (.isub, 1) := by decide +kernel
theorem dX1_linkPlaces_40 : decode cX1_linkPlaces 40 = .ok (.goto 5, 3) := by decide +kernel
theorem dX1_linkPlaces_43 : decode cX1_linkPlaces 43 = .ok (.bipush (-4), 2) := by decide +kernel
theorem dX1_linkPlaces_45 : decode cX1_linkPlaces 45 = .ok (.invokevirtual 50, 3) := by decide +kernel
theorem dX1_linkPlaces_48 : decode cX1_linkPlaces 48 = .ok (.aload_n 0, 1) := by decide +kernel
theorem dX1_linkPlaces_49 : decode cX1_linkPlaces 49 = .ok (.getfield 23, 3) := by decide +kernel
theorem dX1_linkPlaces_52 : decode cX1_linkPlaces 52 = .ok (.iload_n 1, 1) := by decide +kernel
theorem dX1_linkPlaces_53 : decode cX1_linkPlaces 53 = .ok (.iconst 4, 1) := by decide +kernel
theorem dX1_linkPlaces_54 : decode cX1_linkPlaces 54 = .ok (.imul, 1) := by decide +kernel
theorem dX1_linkPlaces_55 : decode cX1_linkPlaces 55 = .ok (.iconst 1, 1) := by decide +kernel
theorem dX1_linkPlaces_56 : decode cX1_linkPlaces 56 = .ok (.iadd, 1) := by decide +kernel
theorem dX1_linkPlaces_57 : decode cX1_linkPlaces 57 = .ok (.iload_n 2, 1) := by decide +kernel
theorem dX1_linkPlaces_58 : decode cX1_linkPlaces 58 = .ok (.ifCond .le 9, 3) := by decide +kernel
theorem dX1_linkPlaces_61 : decode cX1_linkPlaces 61 = .ok (.iload_n 1, 1) := by decide +kernel
theorem dX1_linkPlaces_62 : decode cX1_linkPlaces 62 = .ok (.iconst 1, 1) := by decide +kernel
theorem dX1_linkPlaces_63 : decode cX1_linkPlaces 63 = .ok (.isub, 1) := by decide +kernel
theorem dX1_linkPlaces_64 : decode cX1_linkPlaces 64 = .ok (.goto 5, 3) := by decide +kernel
theorem dX1_linkPlaces_67 : decode cX1_linkPlaces 67 = .ok (.bipush (-4), 2) := by decide +kernel
theorem dX1_linkPlaces_69 : decode cX1_linkPlaces 69 = .ok (.invokevirtual 50, 3) := by decide +kernel
theorem dX1_linkPlaces_72 : decode cX1_linkPlaces 72 = .ok (.aload_n 0, 1) := by decide +kernel
theorem dX1_linkPlaces_73 : decode cX1_linkPlaces 73 = .ok (.getfield 23, 3) := by decide +kernel
theorem dX1_linkPlaces_76 : decode cX1_linkPlaces 76 = .ok (.iload_n 1, 1) := by decide +kernel
theorem dX1_linkPlaces_77 : decode cX1_linkPlaces 77 = .ok (.iconst 4, 1) := by decide +kernel
theorem dX1_linkPlaces_78 : decode cX1_linkPlaces 78 = .ok (.imul, 1) := by decide +kernel
theorem dX1_linkPlaces_79 : decode cX1_linkPlaces 79 = .ok (.iconst 2, 1) := by decide +kernel
theorem dX1_linkPlaces_80 : decode cX1_linkPlaces 80 = .ok (.iadd, 1) := by decide +kernel
theorem dX1_linkPlaces_81 : decode cX1_linkPlaces 81 = .ok (.iload_n 2, 1) := by decide +kernel
theorem dX1_linkPlaces_82 : decode cX1_linkPlaces 82 = .ok (.iconst 1, 1) := by decide +kernel
theorem dX1_linkPlaces_83 : decode cX1_linkPlaces 83 = .ok (.iadd, 1) := by decide +kernel
theorem dX1_linkPlaces_84 : decode cX1_linkPlaces 84 = .ok (.aload_n 0, 1) := by decide +kernel
theorem dX1_linkPlaces_85 : decode cX1_linkPlaces 85 = .ok (.getfield 36, 3) := by decide +kernel
theorem dX1_linkPlaces_88 : decode cX1_linkPlaces 88 = .ok (.if_icmp .ge 9, 3) := by decide +kernel
theorem dX1_linkPlaces_91 : decode cX1_linkPlaces 91 = .ok (.iload_n 1, 1) := by decide +kernel
theorem dX1_linkPlaces_92 : decode cX1_linkPlaces 92 = .ok (.iconst 1, 1) := by decide +kernel
theorem dX1_linkPlaces_93 : decode cX1_linkPlaces 93 = .ok (.iadd, 1) := by decide +kernel
theorem dX1_linkPlaces_94 : decode cX1_linkPlaces 94 = .ok (.goto 5, 3) := by decide +kernel
theorem dX1_linkPlaces_97 : decode cX1_linkPlaces 97 = .ok (.bipush (-4), 2) := by decide +kernel
theorem dX1_linkPlaces_99 : decode cX1_linkPlaces 99 = .ok (.invokevirtual 50, 3) := by decide +kernel
theorem dX1_linkPlaces_102 : decode cX1_linkPlaces 102 = .ok (.aload_n 0, 1) := by decide +kernel
theorem dX1_linkPlaces_103 : decode cX1_linkPlaces 103 = .ok (.getfield 23, 3) := by decide +kernel
theorem dX1_linkPlaces_106 : decode cX1_linkPlaces 106 = .ok (.iload_n 1, 1) := by decide +kernel
theorem dX1_linkPlaces_107 : decode cX1_linkPlaces 107 = .ok (.iconst 4, 1) := by decide +kernel
theorem dX1_linkPlaces_108 : decode cX1_linkPlaces 108 = .ok (.imul, 1) := by decide +kernel
theorem dX1_linkPlaces_109 : decode cX1_linkPlaces 109 = .ok (.iconst 3, 1) := by decide +kernel
theorem dX1_linkPlaces_110 : decode cX1_linkPlaces 110 = .ok (.iadd, 1) := by decide +kernel
theorem dX1_linkPlaces_111 : decode cX1_linkPlaces 111 = .ok (.iload_n 1, 1) := by decide +kernel
theorem dX1_linkPlaces_112 : decode cX1_linkPlaces 112 = .ok (.aload_n 0, 1) := by decide +kernel
theorem dX1_linkPlaces_113 : decode cX1_linkPlaces 113 = .ok (.getfield 36, 3) := by decide +kernel
theorem dX1_linkPlaces_116 : decode cX1_linkPlaces 116 = .ok (.iadd, 1) := by decide +kernel
theorem dX1_linkPlaces_117 : decode cX1_linkPlaces 117 = .ok (.aload_n 0, 1) := by decide +kernel
theorem dX1_linkPlaces_118 : decode cX1_linkPlaces 118 = .ok (.getfield 26, 3) := by decide +kernel
theorem dX1_linkPlaces_121 : decode cX1_linkPlaces 121 = .ok (.if_icmp .ge 12, 3) := by decide +kernel
theorem dX1_linkPlaces_124 : decode cX1_linkPlaces 124 = .ok (.iload_n 1, 1) := by decide +kernel
theorem dX1_linkPlaces_125 : decode cX1_linkPlaces 125 = .ok (.aload_n 0, 1) := by decide +kernel
theorem dX1_linkPlaces_126 : decode cX1_linkPlaces 126 = .ok (.getfield 36, 3) := by decide +kernel
theorem dX1_linkPlaces_129 : decode cX1_linkPlaces 129 = .ok (.iadd, 1) := by decide +kernel
theorem dX1_linkPlaces_130 : decode cX1_linkPlaces 130 = .ok (.goto 5, 3) := by decide +kernel
theorem dX1_linkPlaces_133 : decode cX1_linkPlaces 133 = .ok (.bipush (-4), 2) := by decide +kernel
theorem dX1_linkPlaces_135 : decode cX1_linkPlaces 135 = .ok (.invokevirtual 50, 3) := by decide +kernel
theorem dX1_linkPlaces_138 : decode cX1_linkPlaces 138 = .ok (.iinc 1 1, 3) := by decide +kernel
theorem dX1_linkPlaces_141 : decode cX1_linkPlaces 141 = .ok (.goto (-139), 3) := by decide +kernel
theorem dX1_linkPlaces_144 : decode cX1_linkPlaces 144 = .ok (.return_, 1) := by decide +kernel
theorem dX2_init_0 : decode cX2_init 0 = .ok (.aload_n 0, 1) := by decide +kernel
theorem dX2_init_1 : decode cX2_init 1 = .ok (.invokespecial 3, 3) := by decide +kernel
theorem dX2_init_4 : decode cX2_init 4 = .ok (.aload_n 0, 1) := by decide +kernel
theorem dX2_init_5 : decode cX2_init 5 = .ok (.new 9, 3) := by decide +kernel
theorem dX2_init_8 : decode cX2_init 8 = .ok (.dup, 1) := by decide +kernel
theorem dX2_init_9 : decode cX2_init 9 = .ok (.invokespecial 11, 3) := by decide +kernel
theorem dX2_init_12 : decode cX2_init 12 = .ok (.putfield 12, 3) := by decide +kernel
theorem dX2_init_15 : decode cX2_init 15 = .ok (.aload_n 0, 1) := by decide +kernel
theorem dX2_init_16 : decode cX2_init 16 = .ok (.new 18, 3) := by decide +kernel
theorem dX2_init_19 : decode cX2_init 19 = .ok (.dup, 1) := by decide +kernel
theorem dX2_init_20 : decode cX2_init 20 = .ok (.invokespecial 20, 3) := by decide +kernel
theorem dX2_init_23 : decode cX2_init 23 = .ok (.putfield 21, 3) := by decide +kernel
theorem dX2_init_26 : decode cX2_init 26 = .ok (.aload_n 0, 1) := by decide +kernel
theorem dX2_init_27 : decode cX2_init 27 = .ok (.new 25, 3) := by decide +kernel
theorem dX2_init_30 : decode cX2_init 30 = .ok (.dup, 1) := by decide +kernel
theorem dX2_init_31 : decode cX2_init 31 = .ok (.iconst 3, 1) := by decide +kernel
theorem dX2_init_32 : decode cX2_init 32 = .ok (.invokespecial 27, 3) := by decide +kernel
theorem dX2_init_35 : decode cX2_init 35 = .ok (.putfield 30, 3) := by decide +kernel
theorem dX2_init_38 : decode cX2_init 38 = .ok (.return_, 1) := by decide +kernel
theorem dX2_firstFault_0 : decode cX2_firstFault 0 = .ok (.aload_n 0, 1) := by decide +kernel
theorem dX2_firstFault_1 : decode cX2_firstFault 1 = .ok (.getfield 12, 3) := by decide +kernel
theorem dX2_firstFault_4 : decode cX2_firstFault 4 = .ok (.invokevirtual 34, 3) := by decide +kernel
theorem dX2_firstFault_7 : decode cX2_firstFault 7 = .ok (.aload_n 0, 1) := by decide +kernel
theorem dX2_firstFault_8 : decode cX2_firstFault 8 = .ok (.getfield 21, 3) := by decide +kernel
theorem dX2_firstFault_11 : decode cX2_firstFault 11 = .ok (.invokevirtual 37, 3) := by decide +kernel
theorem dX2_firstFault_14 : decode cX2_firstFault 14 = .ok (.iconst 0, 1) := by decide +kernel
theorem dX2_firstFault_15 : decode cX2_firstFault 15 = .ok (.istore_n 2, 1) := by decide +kernel
theorem dX2_firstFault_16 : decode cX2_firstFault 16 = .ok (.iconst 0, 1) := by decide +kernel
theorem dX2_firstFault_17 : decode cX2_firstFault 17 = .ok (.istore_n 3, 1) := by decide +kernel
theorem dX2_firstFault_18 : decode cX2_firstFault 18 = .ok (.iload_n 3, 1) := by decide +kernel
theorem dX2_firstFault_19 : decode cX2_firstFault 19 = .ok (.sipush 200, 3) := by decide +kernel
theorem dX2_firstFault_22 : decode cX2_firstFault 22 = .ok (.if_icmp .ge 36, 3) := by decide +kernel
theorem dX2_firstFault_25 : decode cX2_firstFault 25 = .ok (.iload_n 2, 1) := by decide +kernel
theorem dX2_firstFault_26 : decode cX2_firstFault 26 = .ok (.aload_n 1, 1) := by decide +kernel
theorem dX2_firstFault_27 : decode cX2_firstFault 27 = .ok (.getfield 38, 3) := by decide +kernel
theorem dX2_firstFault_30 : decode cX2_firstFault 30 = .ok (.if_icmp .ge 28, 3) := by decide +kernel
theorem dX2_firstFault_33 : decode cX2_firstFault 33 = .ok (.aload_n 0, 1) := by decide +kernel
theorem dX2_firstFault_34 : decode cX2_firstFault 34 = .ok (.aload_n 1, 1) := by decide +kernel
theorem dX2_firstFault_35 : decode cX2_firstFault 35 = .ok (.iload_n 2, 1) := by decide +kernel
theorem dX2_firstFault_36 : decode cX2_firstFault 36 = .ok (.invokevirtual 44, 3) := by decide +kernel
theorem dX2_firstFault_39 : decode cX2_firstFault 39 = .ok (.istore 4, 2) := by decide +kernel
theorem dX2_firstFault_41 : decode cX2_firstFault 41 = .ok (.iload 4, 2) := by decide +kernel
theorem dX2_firstFault_43 : decode cX2_firstFault 43 = .ok (.iload_n 2, 1) := by decide +kernel
theorem dX2_firstFault_44 : decode cX2_firstFault 44 = .ok (.if_icmp .gt 5, 3) := by decide +kernel
theorem dX2_firstFault_47 : decode cX2_firstFault 47 = .ok (.iload_n 2, 1) := by decide +kernel
theorem dX2_firstFault_48 : decode cX2_firstFault 48 = .ok (.ireturn, 1) := by decide +kernel
theorem dX2_firstFault_49 : decode cX2_firstFault 49 = .ok (.iload 4, 2) := by decide +kernel
theorem dX2_firstFault_51 : decode cX2_firstFault 51 = .ok (.istore_n 2, 1) := by decide +kernel
theorem dX2_firstFault_52 : decode cX2_firstFault 52 = .ok (.iinc 3 1, 3) := by decide +kernel
theorem dX2_firstFault_55 : decode cX2_firstFault 55 = .ok (.goto (-37), 3) := by decide +kernel
theorem dX2_firstFault_58 : decode cX2_firstFault 58 = .ok (.bipush (-4), 2) := by decide +kernel
theorem dX2_firstFault_60 : decode cX2_firstFault 60 = .ok (.ireturn, 1) := by decide +kernel
theorem dX2_readItem_0 : decode cX2_readItem 0 = .ok (.aload_n 1, 1) := by decide +kernel
theorem dX2_readItem_1 : decode cX2_readItem 1 = .ok (.iload_n 2, 1) := by decide +kernel
theorem dX2_readItem_2 : decode cX2_readItem 2 = .ok (.invokevirtual 48, 3) := by decide +kernel
theorem dX2_readItem_5 : decode cX2_readItem 5 = .ok (.lookupswitch 96 #[(100, 60), (114, 51), (116, 78), (119, 87), (120, 69)], 51) := by decide +kernel
theorem dX2_readItem_56 : decode cX2_readItem 56 = .ok (.aload_n 0, 1) := by decide +kernel
theorem dX2_readItem_57 : decode cX2_readItem 57 = .ok (.aload_n 1, 1) := by decide +kernel
theorem dX2_readItem_58 : decode cX2_readItem 58 = .ok (.iload_n 2, 1) := by decide +kernel
theorem dX2_readItem_59 : decode cX2_readItem 59 = .ok (.iconst 1, 1) := by decide +kernel
theorem dX2_readItem_60 : decode cX2_readItem 60 = .ok (.iadd, 1) := by decide +kernel
theorem dX2_readItem_61 : decode cX2_readItem 61 = .ok (.invokevirtual 52, 3) := by decide +kernel
theorem dX2_readItem_64 : decode cX2_readItem 64 = .ok (.ireturn, 1) := by decide +kernel
theorem dX2_readItem_65 : decode cX2_readItem 65 = .ok (.aload_n 0, 1) := by decide +kernel
theorem dX2_readItem_66 : decode cX2_readItem 66 = .ok (.aload_n 1, 1) := by decide +kernel
theorem dX2_readItem_67 : decode cX2_readItem 67 = .ok (.iload_n 2, 1) := by decide +kernel
theorem dX2_readItem_68 : decode cX2_readItem 68 = .ok (.iconst 1, 1) := by decide +kernel
theorem dX2_readItem_69 : decode cX2_readItem 69 = .ok (.iadd, 1) := by decide +kernel
theorem dX2_readItem_70 : decode cX2_readItem 70 = .ok (.invokevirtual 55, 3) := by decide +kernel
theorem dX2_readItem_73 : decode cX2_readItem 73 = .ok (.ireturn, 1) := by decide +kernel
theorem dX2_readItem_74 : decode cX2_readItem 74 = .ok (.aload_n 0, 1) := by decide +kernel
theorem dX2_readItem_75 : decode cX2_readItem 75 = .ok (.aload_n 1, 1) := by decide +kernel
theorem dX2_readItem_76 : decode cX2_readItem 76 = .ok (.iload_n 2, 1) := by decide +kernel
theorem dX2_readItem_77 : decode cX2_readItem 77 = .ok (.iconst 1, 1) := by decide +kernel
theorem dX2_readItem_78 : decode cX2_readItem 78 = .ok (.iadd, 1) := by decide +kernel
theorem dX2_readItem_79 : decode cX2_readItem 79 = .ok (.invokevirtual 58, 3) := by decide +kernel
theorem dX2_readItem_82 : decode cX2_readItem 82 = .ok (.ireturn, 1) := by decide +kernel
theorem dX2_readItem_83 : decode cX2_readItem 83 = .ok (.aload_n 0, 1) := by decide +kernel
theorem dX2_readItem_84 : decode cX2_readItem 84 = .ok (.aload_n 1, 1) := by decide +kernel
theorem dX2_readItem_85 : decode cX2_readItem 85 = .ok (.iload_n 2, 1) := by decide +kernel
theorem dX2_readItem_86 : decode cX2_readItem 86 = .ok (.iconst 1, 1) := by decide +kernel
theorem dX2_readItem_87 : decode cX2_readItem 87 = .ok (.iadd, 1) := by decide +kernel
theorem dX2_readItem_88 : decode cX2_readItem 88 = .ok (.invokevirtual 61, 3) := by decide +kernel
theorem dX2_readItem_91 : decode cX2_readItem 91 = .ok (.ireturn, 1) := by decide +kernel
theorem dX2_readItem_92 : decode cX2_readItem 92 = .ok (.aload_n 0, 1) := by decide +kernel
theorem dX2_readItem_93 : decode cX2_readItem 93 = .ok (.aload_n 1, 1) := by decide +kernel
theorem dX2_readItem_94 : decode cX2_readItem 94 = .ok (.iload_n 2, 1) := by decide +kernel
theorem dX2_readItem_95 : decode cX2_readItem 95 = .ok (.iconst 1, 1) := by decide +kernel
theorem dX2_readItem_96 : decode cX2_readItem 96 = .ok (.iadd, 1) := by decide +kernel
theorem dX2_readItem_97 : decode cX2_readItem 97 = .ok (.invokevirtual 64, 3) := by decide +kernel
theorem dX2_readItem_100 : decode cX2_readItem 100 = .ok (.ireturn, 1) := by decide +kernel
theorem dX2_readItem_101 : decode cX2_readItem 101 = .ok (.iconst (-1), 1) := by decide +kernel
theorem dX2_readItem_102 : decode cX2_readItem 102 = .ok (.ireturn, 1) := by decide +kernel
theorem dX2_readRow_0 : decode cX2_readRow 0 = .ok (.iconst 0, 1) := by decide +kernel
theorem dX2_readRow_1 : decode cX2_readRow 1 = .ok (.istore_n 3, 1) := by decide +kernel
theorem dX2_readRow_2 : decode cX2_readRow 2 = .ok (.iload_n 3, 1) := by decide +kernel
theorem dX2_readRow_3 : decode cX2_readRow 3 = .ok (.bipush 6, 2) := by decide +kernel
theorem dX2_readRow_5 : decode cX2_readRow 5 = .ok (.if_icmp .ge 56, 3) := by decide +kernel
theorem dX2_readRow_8 : decode cX2_readRow 8 = .ok (.aload_n 1, 1) := by decide +kernel
theorem dX2_readRow_9 : decode cX2_readRow 9 = .ok (.iload_n 2, 1) := by decide +kernel
theorem dX2_readRow_10 : decode cX2_readRow 10 = .ok (.iload_n 3, 1) := by decide +kernel
theorem dX2_readRow_11 : decode cX2_readRow 11 = .ok (.iadd, 1) := by decide +kernel
theorem dX2_readRow_12 : decode cX2_readRow 12 = .ok (.invokevirtual 48, 3) := by decide +kernel
theorem dX2_readRow_15 : decode cX2_readRow 15 = .ok (.invokestatic 67, 3) := by decide +kernel
theorem dX2_readRow_18 : decode cX2_readRow 18 = .ok (.iconst 0, 1) := by decide +kernel
theorem dX2_readRow_19 : decode cX2_readRow 19 = .ok (.iconst 3, 1) := by decide +kernel
theorem dX2_readRow_20 : decode cX2_readRow 20 = .ok (.invokestatic 70, 3) := by decide +kernel
theorem dX2_readRow_23 : decode cX2_readRow 23 = .ok (.ifCond .eq 38, 3) := by decide +kernel
theorem dX2_readRow_26 : decode cX2_readRow 26 = .ok (.aload_n 0, 1) := by decide +kernel
theorem dX2_readRow_27 : decode cX2_readRow 27 = .ok (.getfield 12, 3) := by decide +kernel
theorem dX2_readRow_30 : decode cX2_readRow 30 = .ok (.getfield 74, 3) := by decide +kernel
theorem dX2_readRow_33 : decode cX2_readRow 33 = .ok (.aload_n 0, 1) := by decide +kernel
theorem dX2_readRow_34 : decode cX2_readRow 34 = .ok (.getfield 12, 3) := by decide +kernel
theorem dX2_readRow_37 : decode cX2_readRow 37 = .ok (.getfield 77, 3) := by decide +kernel
theorem dX2_readRow_40 : decode cX2_readRow 40 = .ok (.iload_n 3, 1) := by decide +kernel
theorem dX2_readRow_41 : decode cX2_readRow 41 = .ok (.iadd, 1) := by decide +kernel
theorem dX2_readRow_42 : decode cX2_readRow 42 = .ok (.aload_n 1, 1) := by decide +kernel
theorem dX2_readRow_43 : decode cX2_readRow 43 = .ok (.iload_n 2, 1) := by decide +kernel
theorem dX2_readRow_44 : decode cX2_readRow 44 = .ok (.iload_n 3, 1) := by decide +kernel
theorem dX2_readRow_45 : decode cX2_readRow 45 = .ok (.iadd, 1) := by decide +kernel
theorem dX2_readRow_46 : decode cX2_readRow 46 = .ok (.invokevirtual 48, 3) := by decide +kernel
theorem dX2_readRow_49 : decode cX2_readRow 49 = .ok (.invokestatic 67, 3) := by decide +kernel
theorem dX2_readRow_52 : decode cX2_readRow 52 = .ok (.invokevirtual 80, 3) := by decide +kernel
theorem dX2_readRow_55 : decode cX2_readRow 55 = .ok (.iinc 3 1, 3) := by decide +kernel
theorem dX2_readRow_58 : decode cX2_readRow 58 = .ok (.goto (-56), 3) := by decide +kernel
theorem dX2_readRow_61 : decode cX2_readRow 61 = .ok (.iload_n 3, 1) := by decide +kernel
theorem dX2_readRow_62 : decode cX2_readRow 62 = .ok (.ifCond .le 28, 3) := by decide +kernel
theorem dX2_readRow_65 : decode cX2_readRow 65 = .ok (.aload_n 0, 1) := by decide +kernel
theorem dX2_readRow_66 : decode cX2_readRow 66 = .ok (.getfield 12, 3) := by decide +kernel
theorem dX2_readRow_69 : decode cX2_readRow 69 = .ok (.getfield 84, 3) := by decide +kernel
theorem dX2_readRow_72 : decode cX2_readRow 72 = .ok (.ifCond .eq 14, 3) := by decide +kernel
theorem dX2_readRow_75 : decode cX2_readRow 75 = .ok (.iload_n 3, 1) := by decide +kernel
theorem dX2_readRow_76 : decode cX2_readRow 76 = .ok (.aload_n 0, 1) := by decide +kernel
theorem dX2_readRow_77 : decode cX2_readRow 77 = .ok (.getfield 12, 3) := by decide +kernel
theorem dX2_readRow_80 : decode cX2_readRow 80 = .ok (.getfield 87, 3) := by decide +kernel
theorem dX2_readRow_83 : decode cX2_readRow 83 = .ok (.if_icmp .ne 7, 3) := by decide +kernel
theorem dX2_readRow_86 : decode cX2_readRow 86 = .ok (.iconst 1, 1) := by decide +kernel
theorem dX2_readRow_87 : decode cX2_readRow 87 = .ok (.goto 4, 3) := by decide +kernel
theorem dX2_readRow_90 : decode cX2_readRow 90 = .ok (.iconst 0, 1) := by decide +kernel
theorem dX2_readRow_91 : decode cX2_readRow 91 = .ok (.istore 4, 2) := by decide +kernel
theorem dX2_readRow_93 : decode cX2_readRow 93 = .ok (.iload 4, 2) := by decide +kernel
theorem dX2_readRow_95 : decode cX2_readRow 95 = .ok (.ifCond .eq 27, 3) := by decide +kernel
theorem dX2_readRow_98 : decode cX2_readRow 98 = .ok (.aload_n 0, 1) := by decide +kernel
theorem dX2_readRow_99 : decode cX2_readRow 99 = .ok (.getfield 12, 3) := by decide +kernel
theorem dX2_readRow_102 : decode cX2_readRow 102 = .ok (.getfield 84, 3) := by decide +kernel
theorem dX2_readRow_105 : decode cX2_readRow 105 = .ok (.bipush 6, 2) := by decide +kernel
theorem dX2_readRow_107 : decode cX2_readRow 107 = .ok (.if_icmp .ge 15, 3) := by decide +kernel
theorem dX2_readRow_110 : decode cX2_readRow 110 = .ok (.aload_n 1, 1) := by decide +kernel
theorem dX2_readRow_111 : decode cX2_readRow 111 = .ok (.iload_n 2, 1) := by decide +kernel
theorem dX2_readRow_112 : decode cX2_readRow 112 = .ok (.iload_n 3, 1) := by decide +kernel
theorem dX2_readRow_113 : decode cX2_readRow 113 = .ok (.iadd, 1) := by decide +kernel
theorem dX2_readRow_114 : decode cX2_readRow 114 = .ok (.invokevirtual 48, 3) := by decide +kernel
theorem dX2_readRow_117 : decode cX2_readRow 117 = .ok (.bipush 59, 2) := by decide +kernel
theorem dX2_readRow_119 : decode cX2_readRow 119 = .ok (.if_icmp .eq 5, 3) := by decide +kernel
theorem dX2_readRow_122 : decode cX2_readRow 122 = .ok (.iconst (-1), 1) := by decide +kernel
theorem dX2_readRow_123 : decode cX2_readRow 123 = .ok (.ireturn, 1) := by decide +kernel
theorem dX2_readRow_124 : decode cX2_readRow 124 = .ok (.aload_n 0, 1) := by decide +kernel
theorem dX2_readRow_125 : decode cX2_readRow 125 = .ok (.getfield 12, 3) := by decide +kernel
theorem dX2_readRow_128 : decode cX2_readRow 128 = .ok (.iload_n 3, 1) := by decide +kernel
theorem dX2_readRow_129 : decode cX2_readRow 129 = .ok (.putfield 87, 3) := by decide +kernel
theorem dX2_readRow_132 : decode cX2_readRow 132 = .ok (.aload_n 0, 1) := by decide +kernel
theorem dX2_readRow_133 : decode cX2_readRow 133 = .ok (.getfield 12, 3) := by decide +kernel
theorem dX2_readRow_136 : decode cX2_readRow 136 = .ok (.dup, 1) := by decide +kernel
theorem dX2_readRow_137 : decode cX2_readRow 137 = .ok (.getfield 77, 3) := by decide +kernel
theorem dX2_readRow_140 : decode cX2_readRow 140 = .ok (.iload_n 3, 1) := by decide +kernel
theorem dX2_readRow_141 : decode cX2_readRow 141 = .ok (.iadd, 1) := by decide +kernel
theorem dX2_readRow_142 : decode cX2_readRow 142 = .ok (.putfield 77, 3) := by decide +kernel
theorem dX2_readRow_145 : decode cX2_readRow 145 = .ok (.aload_n 0, 1) := by decide +kernel
theorem dX2_readRow_146 : decode cX2_readRow 146 = .ok (.getfield 12, 3) := by decide +kernel
theorem dX2_readRow_149 : decode cX2_readRow 149 = .ok (.dup, 1) := by decide +kernel
theorem dX2_readRow_150 : decode cX2_readRow 150 = .ok (.getfield 84, 3) := by decide +kernel
theorem dX2_readRow_153 : decode cX2_readRow 153 = .ok (.iconst 1, 1) := by decide +kernel
theorem dX2_readRow_154 : decode cX2_readRow 154 = .ok (.iadd, 1) := by decide +kernel
theorem dX2_readRow_155 : decode cX2_readRow 155 = .ok (.putfield 84, 3) := by decide +kernel
theorem dX2_readRow_158 : decode cX2_readRow 158 = .ok (.iload_n 2, 1) := by decide +kernel
theorem dX2_readRow_159 : decode cX2_readRow 159 = .ok (.iload_n 3, 1) := by decide +kernel
theorem dX2_readRow_160 : decode cX2_readRow 160 = .ok (.iadd, 1) := by decide +kernel
theorem dX2_readRow_161 : decode cX2_readRow 161 = .ok (.iconst 1, 1) := by decide +kernel
theorem dX2_readRow_162 : decode cX2_readRow 162 = .ok (.iadd, 1) := by decide +kernel
theorem dX2_readRow_163 : decode cX2_readRow 163 = .ok (.ireturn, 1) := by decide +kernel
theorem dX2_readDrum_0 : decode cX2_readDrum 0 = .ok (.aload_n 0, 1) := by decide +kernel
theorem dX2_readDrum_1 : decode cX2_readDrum 1 = .ok (.aload_n 1, 1) := by decide +kernel
theorem dX2_readDrum_2 : decode cX2_readDrum 2 = .ok (.iload_n 2, 1) := by decide +kernel
theorem dX2_readDrum_3 : decode cX2_readDrum 3 = .ok (.iconst 1, 1) := by decide +kernel
theorem dX2_readDrum_4 : decode cX2_readDrum 4 = .ok (.invokevirtual 90, 3) := by decide +kernel
theorem dX2_readDrum_7 : decode cX2_readDrum 7 = .ok (.istore_n 3, 1) := by decide +kernel
theorem dX2_readDrum_8 : decode cX2_readDrum 8 = .ok (.aload_n 0, 1) := by decide +kernel
theorem dX2_readDrum_9 : decode cX2_readDrum 9 = .ok (.getfield 30, 3) := by decide +kernel
theorem dX2_readDrum_12 : decode cX2_readDrum 12 = .ok (.iconst 0, 1) := by decide +kernel
theorem dX2_readDrum_13 : decode cX2_readDrum 13 = .ok (.invokevirtual 94, 3) := by decide +kernel
theorem dX2_readDrum_16 : decode cX2_readDrum 16 = .ok (.istore 4, 2) := by decide +kernel
theorem dX2_readDrum_18 : decode cX2_readDrum 18 = .ok (.iload_n 3, 1) := by decide +kernel
theorem dX2_readDrum_19 : decode cX2_readDrum 19 = .ok (.iconst (-1), 1) := by decide +kernel
theorem dX2_readDrum_20 : decode cX2_readDrum 20 = .ok (.if_icmp .eq 20, 3) := by decide +kernel
theorem dX2_readDrum_23 : decode cX2_readDrum 23 = .ok (.iload 4, 2) := by decide +kernel
theorem dX2_readDrum_25 : decode cX2_readDrum 25 = .ok (.iconst 3, 1) := by decide +kernel
theorem dX2_readDrum_26 : decode cX2_readDrum 26 = .ok (.if_icmp .gt 14, 3) := by decide +kernel
theorem dX2_readDrum_29 : decode cX2_readDrum 29 = .ok (.aload_n 0, 1) := by decide +kernel
theorem dX2_readDrum_30 : decode cX2_readDrum 30 = .ok (.getfield 12, 3) := by decide +kernel
theorem dX2_readDrum_33 : decode cX2_readDrum 33 = .ok (.getfield 97, 3) := by decide +kernel
theorem dX2_readDrum_36 : decode cX2_readDrum 36 = .ok (.iconst 4, 1) := by decide +kernel
theorem dX2_readDrum_37 : decode cX2_readDrum 37 = .ok (.if_icmp .lt 5, 3) := by decide +kernel
theorem dX2_readDrum_40 : decode cX2_readDrum 40 = .ok (.iconst (-1), 1) := by decide +kernel
theorem dX2_readDrum_41 : decode cX2_readDrum 41 = .ok (.ireturn, 1) := by decide +kernel
theorem dX2_readDrum_42 : decode cX2_readDrum 42 = .ok (.aload_n 0, 1) := by decide +kernel
theorem dX2_readDrum_43 : decode cX2_readDrum 43 = .ok (.getfield 12, 3) := by decide +kernel
theorem dX2_readDrum_46 : decode cX2_readDrum 46 = .ok (.getfield 100, 3) := by decide +kernel
theorem dX2_readDrum_49 : decode cX2_readDrum 49 = .ok (.aload_n 0, 1) := by decide +kernel
theorem dX2_readDrum_50 : decode cX2_readDrum 50 = .ok (.getfield 12, 3) := by decide +kernel
theorem dX2_readDrum_53 : decode cX2_readDrum 53 = .ok (.getfield 97, 3) := by decide +kernel
theorem dX2_readDrum_56 : decode cX2_readDrum 56 = .ok (.iload 4, 2) := by decide +kernel
theorem dX2_readDrum_58 : decode cX2_readDrum 58 = .ok (.invokevirtual 80, 3) := by decide +kernel
theorem dX2_readDrum_61 : decode cX2_readDrum 61 = .ok (.aload_n 0, 1) := by decide +kernel
theorem dX2_readDrum_62 : decode cX2_readDrum 62 = .ok (.getfield 12, 3) := by decide +kernel
theorem dX2_readDrum_65 : decode cX2_readDrum 65 = .ok (.dup, 1) := by decide +kernel
theorem dX2_readDrum_66 : decode cX2_readDrum 66 = .ok (.getfield 97, 3) := by decide +kernel
theorem dX2_readDrum_69 : decode cX2_readDrum 69 = .ok (.iconst 1, 1) := by decide +kernel
theorem dX2_readDrum_70 : decode cX2_readDrum 70 = .ok (.iadd, 1) := by decide +kernel
theorem dX2_readDrum_71 : decode cX2_readDrum 71 = .ok (.putfield 97, 3) := by decide +kernel
theorem dX2_readDrum_74 : decode cX2_readDrum 74 = .ok (.iload_n 3, 1) := by decide +kernel
theorem dX2_readDrum_75 : decode cX2_readDrum 75 = .ok (.ireturn, 1) := by decide +kernel
theorem dX2_readTold_0 : decode cX2_readTold 0 = .ok (.aload_n 0, 1) := by decide +kernel
theorem dX2_readTold_1 : decode cX2_readTold 1 = .ok (.aload_n 1, 1) := by decide +kernel
theorem dX2_readTold_2 : decode cX2_readTold 2 = .ok (.iload_n 2, 1) := by decide +kernel
theorem dX2_readTold_3 : decode cX2_readTold 3 = .ok (.iconst 3, 1) := by decide +kernel
theorem dX2_readTold_4 : decode cX2_readTold 4 = .ok (.invokevirtual 90, 3) := by decide +kernel
theorem dX2_readTold_7 : decode cX2_readTold 7 = .ok (.istore_n 3, 1) := by decide +kernel
theorem dX2_readTold_8 : decode cX2_readTold 8 = .ok (.aload_n 0, 1) := by decide +kernel
theorem dX2_readTold_9 : decode cX2_readTold 9 = .ok (.getfield 30, 3) := by decide +kernel
theorem dX2_readTold_12 : decode cX2_readTold 12 = .ok (.iconst 0, 1) := by decide +kernel
theorem dX2_readTold_13 : decode cX2_readTold 13 = .ok (.invokevirtual 94, 3) := by decide +kernel
theorem dX2_readTold_16 : decode cX2_readTold 16 = .ok (.istore 4, 2) := by decide +kernel
theorem dX2_readTold_18 : decode cX2_readTold 18 = .ok (.aload_n 0, 1) := by decide +kernel
theorem dX2_readTold_19 : decode cX2_readTold 19 = .ok (.getfield 30, 3) := by decide +kernel
theorem dX2_readTold_22 : decode cX2_readTold 22 = .ok (.iconst 1, 1) := by decide +kernel
theorem dX2_readTold_23 : decode cX2_readTold 23 = .ok (.invokevirtual 94, 3) := by decide +kernel
theorem dX2_readTold_26 : decode cX2_readTold 26 = .ok (.istore 5, 2) := by decide +kernel
theorem dX2_readTold_28 : decode cX2_readTold 28 = .ok (.aload_n 0, 1) := by decide +kernel
theorem dX2_readTold_29 : decode cX2_readTold 29 = .ok (.getfield 30, 3) := by decide +kernel
theorem dX2_readTold_32 : decode cX2_readTold 32 = .ok (.iconst 2, 1) := by decide +kernel
theorem dX2_readTold_33 : decode cX2_readTold 33 = .ok (.invokevirtual 94, 3) := by decide +kernel
theorem dX2_readTold_36 : decode cX2_readTold 36 = .ok (.istore 6, 2) := by decide +kernel
theorem dX2_readTold_38 : decode cX2_readTold 38 = .ok (.iload_n 3, 1) := by decide +kernel
theorem dX2_readTold_39 : decode cX2_readTold 39 = .ok (.iconst (-1), 1) := by decide +kernel
theorem dX2_readTold_40 : decode cX2_readTold 40 = .ok (.if_icmp .eq 33, 3) := by decide +kernel
theorem dX2_readTold_43 : decode cX2_readTold 43 = .ok (.aload_n 0, 1) := by decide +kernel
theorem dX2_readTold_44 : decode cX2_readTold 44 = .ok (.getfield 12, 3) := by decide +kernel
theorem dX2_readTold_47 : decode cX2_readTold 47 = .ok (.iload 4, 2) := by decide +kernel
theorem dX2_readTold_49 : decode cX2_readTold 49 = .ok (.invokevirtual 103, 3) := by decide +kernel
theorem dX2_readTold_52 : decode cX2_readTold 52 = .ok (.ifCond .eq 21, 3) := by decide +kernel
theorem dX2_readTold_55 : decode cX2_readTold 55 = .ok (.aload_n 0, 1) := by decide +kernel
theorem dX2_readTold_56 : decode cX2_readTold 56 = .ok (.getfield 12, 3) := by decide +kernel
theorem dX2_readTold_59 : decode cX2_readTold 59 = .ok (.iload 5, 2) := by decide +kernel
theorem dX2_readTold_61 : decode cX2_readTold 61 = .ok (.invokevirtual 107, 3) := by decide +kernel
theorem dX2_readTold_64 : decode cX2_readTold 64 = .ok (.ifCond .eq 9, 3) := by decide +kernel
theorem dX2_readTold_67 : decode cX2_readTold 67 = .ok (.iload 6, 2) := by decide +kernel
theorem dX2_readTold_69 : decode cX2_readTold 69 = .ok (.iconst 3, 1) := by decide +kernel
theorem dX2_readTold_70 : decode cX2_readTold 70 = .ok (.if_icmp .le 5, 3) := by decide +kernel
theorem dX2_readTold_73 : decode cX2_readTold 73 = .ok (.iconst (-1), 1) := by decide +kernel
theorem dX2_readTold_74 : decode cX2_readTold 74 = .ok (.ireturn, 1) := by decide +kernel
theorem dX2_readTold_75 : decode cX2_readTold 75 = .ok (.aload_n 0, 1) := by decide +kernel
theorem dX2_readTold_76 : decode cX2_readTold 76 = .ok (.getfield 21, 3) := by decide +kernel
theorem dX2_readTold_79 : decode cX2_readTold 79 = .ok (.iload 4, 2) := by decide +kernel
theorem dX2_readTold_81 : decode cX2_readTold 81 = .ok (.iload 5, 2) := by decide +kernel
theorem dX2_readTold_83 : decode cX2_readTold 83 = .ok (.iload 6, 2) := by decide +kernel
theorem dX2_readTold_85 : decode cX2_readTold 85 = .ok (.invokevirtual 110, 3) := by decide +kernel
theorem dX2_readTold_88 : decode cX2_readTold 88 = .ok (.iload_n 3, 1) := by decide +kernel
theorem dX2_readTold_89 : decode cX2_readTold 89 = .ok (.ireturn, 1) := by decide +kernel
theorem dX2_readTraveller_0 : decode cX2_readTraveller 0 = .ok (.aload_n 0, 1) := by decide +kernel
theorem dX2_readTraveller_1 : decode cX2_readTraveller 1 = .ok (.aload_n 1, 1) := by decide +kernel
theorem dX2_readTraveller_2 : decode cX2_readTraveller 2 = .ok (.iload_n 2, 1) := by decide +kernel
theorem dX2_readTraveller_3 : decode cX2_readTraveller 3 = .ok (.iconst 3, 1) := by decide +kernel
theorem dX2_readTraveller_4 : decode cX2_readTraveller 4 = .ok (.invokevirtual 90, 3) := by decide +kernel
theorem dX2_readTraveller_7 : decode cX2_readTraveller 7 = .ok (.istore_n 3, 1) := by decide +kernel
theorem dX2_readTraveller_8 : decode cX2_readTraveller 8 = .ok (.aload_n 0, 1) := by decide +kernel
theorem dX2_readTraveller_9 : decode cX2_readTraveller 9 = .ok (.getfield 30, 3) := by decide +kernel
theorem dX2_readTraveller_12 : decode cX2_readTraveller 12 = .ok (.iconst 0, 1) := by decide +kernel
theorem dX2_readTraveller_13 : decode cX2_readTraveller 13 = .ok (.invokevirtual 94, 3) := by decide +kernel
theorem dX2_readTraveller_16 : decode cX2_readTraveller 16 = .ok (.istore 4, 2) := by decide +kernel
theorem dX2_readTraveller_18 : decode cX2_readTraveller 18 = .ok (.aload_n 0, 1) := by decide +kernel
theorem dX2_readTraveller_19 : decode cX2_readTraveller 19 = .ok (.getfield 30, 3) := by decide +kernel
theorem dX2_readTraveller_22 : decode cX2_readTraveller 22 = .ok (.iconst 1, 1) := by decide +kernel
theorem dX2_readTraveller_23 : decode cX2_readTraveller 23 = .ok (.invokevirtual 94, 3) := by decide +kernel
theorem dX2_readTraveller_26 : decode cX2_readTraveller 26 = .ok (.istore 5, 2) := by decide +kernel
theorem dX2_readTraveller_28 : decode cX2_readTraveller 28 = .ok (.aload_n 0, 1) := by decide +kernel
theorem dX2_readTraveller_29 : decode cX2_readTraveller 29 = .ok (.getfield 30, 3) := by decide +kernel
theorem dX2_readTraveller_32 : decode cX2_readTraveller 32 = .ok (.iconst 2, 1) := by decide +kernel
theorem dX2_readTraveller_33 : decode cX2_readTraveller 33 = .ok (.invokevirtual 94, 3) := by decide +kernel
theorem dX2_readTraveller_36 : decode cX2_readTraveller 36 = .ok (.istore 6, 2) := by decide +kernel
theorem dX2_readTraveller_38 : decode cX2_readTraveller 38 = .ok (.iload_n 3, 1) := by decide +kernel
theorem dX2_readTraveller_39 : decode cX2_readTraveller 39 = .ok (.iconst (-1), 1) := by decide +kernel
theorem dX2_readTraveller_40 : decode cX2_readTraveller 40 = .ok (.if_icmp .eq 39, 3) := by decide +kernel
theorem dX2_readTraveller_43 : decode cX2_readTraveller 43 = .ok (.aload_n 0, 1) := by decide +kernel
theorem dX2_readTraveller_44 : decode cX2_readTraveller 44 = .ok (.getfield 12, 3) := by decide +kernel
theorem dX2_readTraveller_47 : decode cX2_readTraveller 47 = .ok (.iload 4, 2) := by decide +kernel
theorem dX2_readTraveller_49 : decode cX2_readTraveller 49 = .ok (.invokevirtual 107, 3) := by decide +kernel
theorem dX2_readTraveller_52 : decode cX2_readTraveller 52 = .ok (.ifCond .eq 27, 3) := by decide +kernel
theorem dX2_readTraveller_55 : decode cX2_readTraveller 55 = .ok (.aload_n 0, 1) := by decide +kernel
theorem dX2_readTraveller_56 : decode cX2_readTraveller 56 = .ok (.getfield 12, 3) := by decide +kernel
theorem dX2_readTraveller_59 : decode cX2_readTraveller 59 = .ok (.iload 5, 2) := by decide +kernel
theorem dX2_readTraveller_61 : decode cX2_readTraveller 61 = .ok (.invokevirtual 107, 3) := by decide +kernel
theorem dX2_readTraveller_64 : decode cX2_readTraveller 64 = .ok (.ifCond .eq 15, 3) := by decide +kernel
theorem dX2_readTraveller_67 : decode cX2_readTraveller 67 = .ok (.aload_n 0, 1) := by decide +kernel
theorem dX2_readTraveller_68 : decode cX2_readTraveller 68 = .ok (.getfield 12, 3) := by decide +kernel
theorem dX2_readTraveller_71 : decode cX2_readTraveller 71 = .ok (.iload 6, 2) := by decide +kernel
theorem dX2_readTraveller_73 : decode cX2_readTraveller 73 = .ok (.invokevirtual 103, 3) := by decide +kernel
theorem dX2_readTraveller_76 : decode cX2_readTraveller 76 = .ok (.ifCond .ne 5, 3) := by decide +kernel
theorem dX2_readTraveller_79 : decode cX2_readTraveller 79 = .ok (.iconst (-1), 1) := by decide +kernel
theorem dX2_readTraveller_80 : decode cX2_readTraveller 80 = .ok (.ireturn, 1) := by decide +kernel
theorem dX2_readTraveller_81 : decode cX2_readTraveller 81 = .ok (.aload_n 0, 1) := by decide +kernel
theorem dX2_readTraveller_82 : decode cX2_readTraveller 82 = .ok (.getfield 12, 3) := by decide +kernel
theorem dX2_readTraveller_85 : decode cX2_readTraveller 85 = .ok (.getfield 114, 3) := by decide +kernel
theorem dX2_readTraveller_88 : decode cX2_readTraveller 88 = .ok (.iconst 4, 1) := by decide +kernel
theorem dX2_readTraveller_89 : decode cX2_readTraveller 89 = .ok (.if_icmp .lt 5, 3) := by decide +kernel
theorem dX2_readTraveller_92 : decode cX2_readTraveller 92 = .ok (.iconst (-1), 1) := by decide +kernel
theorem dX2_readTraveller_93 : decode cX2_readTraveller 93 = .ok (.ireturn, 1) := by decide +kernel
theorem dX2_readTraveller_94 : decode cX2_readTraveller 94 = .ok (.aload_n 0, 1) := by decide +kernel
theorem dX2_readTraveller_95 : decode cX2_readTraveller 95 = .ok (.getfield 21, 3) := by decide +kernel
theorem dX2_readTraveller_98 : decode cX2_readTraveller 98 = .ok (.aload_n 0, 1) := by decide +kernel
theorem dX2_readTraveller_99 : decode cX2_readTraveller 99 = .ok (.getfield 12, 3) := by decide +kernel
theorem dX2_readTraveller_102 : decode cX2_readTraveller 102 = .ok (.getfield 114, 3) := by decide +kernel
theorem dX2_readTraveller_105 : decode cX2_readTraveller 105 = .ok (.invokevirtual 117, 3) := by decide +kernel
theorem dX2_readTraveller_108 : decode cX2_readTraveller 108 = .ok (.iload 4, 2) := by decide +kernel
theorem dX2_readTraveller_110 : decode cX2_readTraveller 110 = .ok (.iload 5, 2) := by decide +kernel
theorem dX2_readTraveller_112 : decode cX2_readTraveller 112 = .ok (.iload 6, 2) := by decide +kernel
theorem dX2_readTraveller_114 : decode cX2_readTraveller 114 = .ok (.invokevirtual 121, 3) := by decide +kernel
theorem dX2_readTraveller_117 : decode cX2_readTraveller 117 = .ok (.aload_n 0, 1) := by decide +kernel
theorem dX2_readTraveller_118 : decode cX2_readTraveller 118 = .ok (.getfield 12, 3) := by decide +kernel
theorem dX2_readTraveller_121 : decode cX2_readTraveller 121 = .ok (.dup, 1) := by decide +kernel
theorem dX2_readTraveller_122 : decode cX2_readTraveller 122 = .ok (.getfield 114, 3) := by decide +kernel
theorem dX2_readTraveller_125 : decode cX2_readTraveller 125 = .ok (.iconst 1, 1) := by decide +kernel
theorem dX2_readTraveller_126 : decode cX2_readTraveller 126 = .ok (.iadd, 1) := by decide +kernel
theorem dX2_readTraveller_127 : decode cX2_readTraveller 127 = .ok (.putfield 114, 3) := by decide +kernel
theorem dX2_readTraveller_130 : decode cX2_readTraveller 130 = .ok (.iload_n 3, 1) := by decide +kernel
theorem dX2_readTraveller_131 : decode cX2_readTraveller 131 = .ok (.ireturn, 1) := by decide +kernel
theorem dX2_readWet_0 : decode cX2_readWet 0 = .ok (.aload_n 0, 1) := by decide +kernel
theorem dX2_readWet_1 : decode cX2_readWet 1 = .ok (.aload_n 1, 1) := by decide +kernel
theorem dX2_readWet_2 : decode cX2_readWet 2 = .ok (.iload_n 2, 1) := by decide +kernel
theorem dX2_readWet_3 : decode cX2_readWet 3 = .ok (.iconst 1, 1) := by decide +kernel
theorem dX2_readWet_4 : decode cX2_readWet 4 = .ok (.invokevirtual 90, 3) := by decide +kernel
theorem dX2_readWet_7 : decode cX2_readWet 7 = .ok (.istore_n 3, 1) := by decide +kernel
theorem dX2_readWet_8 : decode cX2_readWet 8 = .ok (.iload_n 3, 1) := by decide +kernel
theorem dX2_readWet_9 : decode cX2_readWet 9 = .ok (.iconst (-1), 1) := by decide +kernel
theorem dX2_readWet_10 : decode cX2_readWet 10 = .ok (.if_icmp .eq 15, 3) := by decide +kernel
theorem dX2_readWet_13 : decode cX2_readWet 13 = .ok (.aload_n 0, 1) := by decide +kernel
theorem dX2_readWet_14 : decode cX2_readWet 14 = .ok (.getfield 30, 3) := by decide +kernel
theorem dX2_readWet_17 : decode cX2_readWet 17 = .ok (.iconst 0, 1) := by decide +kernel
theorem dX2_readWet_18 : decode cX2_readWet 18 = .ok (.invokevirtual 94, 3) := by decide +kernel
theorem dX2_readWet_21 : decode cX2_readWet 21 = .ok (.iconst 3, 1) := by decide +kernel
theorem dX2_readWet_22 : decode cX2_readWet 22 = .ok (.if_icmp .le 5, 3) := by decide +kernel
theorem dX2_readWet_25 : decode cX2_readWet 25 = .ok (.iconst (-1), 1) := by decide +kernel
theorem dX2_readWet_26 : decode cX2_readWet 26 = .ok (.ireturn, 1) := by decide +kernel
theorem dX2_readWet_27 : decode cX2_readWet 27 = .ok (.aload_n 0, 1) := by decide +kernel
theorem dX2_readWet_28 : decode cX2_readWet 28 = .ok (.getfield 21, 3) := by decide +kernel
theorem dX2_readWet_31 : decode cX2_readWet 31 = .ok (.aload_n 0, 1) := by decide +kernel
theorem dX2_readWet_32 : decode cX2_readWet 32 = .ok (.getfield 30, 3) := by decide +kernel
theorem dX2_readWet_35 : decode cX2_readWet 35 = .ok (.iconst 0, 1) := by decide +kernel
theorem dX2_readWet_36 : decode cX2_readWet 36 = .ok (.invokevirtual 94, 3) := by decide +kernel
theorem dX2_readWet_39 : decode cX2_readWet 39 = .ok (.putfield 126, 3) := by decide +kernel
theorem dX2_readWet_42 : decode cX2_readWet 42 = .ok (.iload_n 3, 1) := by decide +kernel
theorem dX2_readWet_43 : decode cX2_readWet 43 = .ok (.ireturn, 1) := by decide +kernel
theorem dX2_readNumbers_0 : decode cX2_readNumbers 0 = .ok (.iload_n 2, 1) := by decide +kernel
theorem dX2_readNumbers_1 : decode cX2_readNumbers 1 = .ok (.istore 4, 2) := by decide +kernel
theorem dX2_readNumbers_3 : decode cX2_readNumbers 3 = .ok (.iconst 0, 1) := by decide +kernel
theorem dX2_readNumbers_4 : decode cX2_readNumbers 4 = .ok (.istore 5, 2) := by decide +kernel
theorem dX2_readNumbers_6 : decode cX2_readNumbers 6 = .ok (.iload 5, 2) := by decide +kernel
theorem dX2_readNumbers_8 : decode cX2_readNumbers 8 = .ok (.iload_n 3, 1) := by decide +kernel
theorem dX2_readNumbers_9 : decode cX2_readNumbers 9 = .ok (.if_icmp .ge 101, 3) := by decide +kernel
theorem dX2_readNumbers_12 : decode cX2_readNumbers 12 = .ok (.aload_n 1, 1) := by decide +kernel
theorem dX2_readNumbers_13 : decode cX2_readNumbers 13 = .ok (.iload 4, 2) := by decide +kernel
theorem dX2_readNumbers_15 : decode cX2_readNumbers 15 = .ok (.invokevirtual 48, 3) := by decide +kernel
theorem dX2_readNumbers_18 : decode cX2_readNumbers 18 = .ok (.invokestatic 67, 3) := by decide +kernel
theorem dX2_readNumbers_21 : decode cX2_readNumbers 21 = .ok (.istore 6, 2) := by decide +kernel
theorem dX2_readNumbers_23 : decode cX2_readNumbers 23 = .ok (.iload 6, 2) := by decide +kernel
theorem dX2_readNumbers_25 : decode cX2_readNumbers 25 = .ok (.iconst (-1), 1) := by decide +kernel
theorem dX2_readNumbers_26 : decode cX2_readNumbers 26 = .ok (.if_icmp .ne 5, 3) := by decide +kernel
theorem dX2_readNumbers_29 : decode cX2_readNumbers 29 = .ok (.iconst (-1), 1) := by decide +kernel
theorem dX2_readNumbers_30 : decode cX2_readNumbers 30 = .ok (.ireturn, 1) := by decide +kernel
theorem dX2_readNumbers_31 : decode cX2_readNumbers 31 = .ok (.iinc 4 1, 3) := by decide +kernel
theorem dX2_readNumbers_34 : decode cX2_readNumbers 34 = .ok (.aload_n 1, 1) := by decide +kernel
theorem dX2_readNumbers_35 : decode cX2_readNumbers 35 = .ok (.iload 4, 2) := by decide +kernel
theorem dX2_readNumbers_37 : decode cX2_readNumbers 37 = .ok (.invokevirtual 48, 3) := by decide +kernel
theorem dX2_readNumbers_40 : decode cX2_readNumbers 40 = .ok (.invokestatic 67, 3) := by decide +kernel
theorem dX2_readNumbers_43 : decode cX2_readNumbers 43 = .ok (.istore 7, 2) := by decide +kernel
theorem dX2_readNumbers_45 : decode cX2_readNumbers 45 = .ok (.iload 7, 2) := by decide +kernel
theorem dX2_readNumbers_47 : decode cX2_readNumbers 47 = .ok (.iconst (-1), 1) := by decide +kernel
theorem dX2_readNumbers_48 : decode cX2_readNumbers 48 = .ok (.if_icmp .eq 16, 3) := by decide +kernel
theorem dX2_readNumbers_51 : decode cX2_readNumbers 51 = .ok (.iload 6, 2) := by decide +kernel
theorem dX2_readNumbers_53 : decode cX2_readNumbers 53 = .ok (.bipush 10, 2) := by decide +kernel
theorem dX2_readNumbers_55 : decode cX2_readNumbers 55 = .ok (.imul, 1) := by decide +kernel
theorem dX2_readNumbers_56 : decode cX2_readNumbers 56 = .ok (.iload 7, 2) := by decide +kernel
theorem dX2_readNumbers_58 : decode cX2_readNumbers 58 = .ok (.iadd, 1) := by decide +kernel
theorem dX2_readNumbers_59 : decode cX2_readNumbers 59 = .ok (.istore 6, 2) := by decide +kernel
theorem dX2_readNumbers_61 : decode cX2_readNumbers 61 = .ok (.iinc 4 1, 3) := by decide +kernel
theorem dX2_readNumbers_64 : decode cX2_readNumbers 64 = .ok (.aload_n 1, 1) := by decide +kernel
theorem dX2_readNumbers_65 : decode cX2_readNumbers 65 = .ok (.iload 4, 2) := by decide +kernel
theorem dX2_readNumbers_67 : decode cX2_readNumbers 67 = .ok (.invokevirtual 48, 3) := by decide +kernel
theorem dX2_readNumbers_70 : decode cX2_readNumbers 70 = .ok (.iload 5, 2) := by decide +kernel
theorem dX2_readNumbers_72 : decode cX2_readNumbers 72 = .ok (.iconst 1, 1) := by decide +kernel
theorem dX2_readNumbers_73 : decode cX2_readNumbers 73 = .ok (.iadd, 1) := by decide +kernel
theorem dX2_readNumbers_74 : decode cX2_readNumbers 74 = .ok (.iload_n 3, 1) := by decide +kernel
theorem dX2_readNumbers_75 : decode cX2_readNumbers 75 = .ok (.if_icmp .ge 8, 3) := by decide +kernel
theorem dX2_readNumbers_78 : decode cX2_readNumbers 78 = .ok (.bipush 44, 2) := by decide +kernel
theorem dX2_readNumbers_80 : decode cX2_readNumbers 80 = .ok (.goto 5, 3) := by decide +kernel
theorem dX2_readNumbers_83 : decode cX2_readNumbers 83 = .ok (.bipush 59, 2) := by decide +kernel
theorem dX2_readNumbers_85 : decode cX2_readNumbers 85 = .ok (.if_icmp .eq 5, 3) := by decide +kernel
theorem dX2_readNumbers_88 : decode cX2_readNumbers 88 = .ok (.iconst (-1), 1) := by decide +kernel
theorem dX2_readNumbers_89 : decode cX2_readNumbers 89 = .ok (.ireturn, 1) := by decide +kernel
theorem dX2_readNumbers_90 : decode cX2_readNumbers 90 = .ok (.iinc 4 1, 3) := by decide +kernel
theorem dX2_readNumbers_93 : decode cX2_readNumbers 93 = .ok (.aload_n 0, 1) := by decide +kernel
theorem dX2_readNumbers_94 : decode cX2_readNumbers 94 = .ok (.getfield 30, 3) := by decide +kernel
theorem dX2_readNumbers_97 : decode cX2_readNumbers 97 = .ok (.iload 5, 2) := by decide +kernel
theorem dX2_readNumbers_99 : decode cX2_readNumbers 99 = .ok (.iload 6, 2) := by decide +kernel
theorem dX2_readNumbers_101 : decode cX2_readNumbers 101 = .ok (.invokevirtual 80, 3) := by decide +kernel
theorem dX2_readNumbers_104 : decode cX2_readNumbers 104 = .ok (.iinc 5 1, 3) := by decide +kernel
theorem dX2_readNumbers_107 : decode cX2_readNumbers 107 = .ok (.goto (-101), 3) := by decide +kernel
theorem dX2_readNumbers_110 : decode cX2_readNumbers 110 = .ok (.iload 4, 2) := by decide +kernel
theorem dX2_readNumbers_112 : decode cX2_readNumbers 112 = .ok (.ireturn, 1) := by decide +kernel
theorem dX3_init_0 : decode cX3_init 0 = .ok (.aload_n 0, 1) := by decide +kernel
theorem dX3_init_1 : decode cX3_init 1 = .ok (.invokespecial 1, 3) := by decide +kernel
theorem dX3_init_4 : decode cX3_init 4 = .ok (.aload_n 0, 1) := by decide +kernel
theorem dX3_init_5 : decode cX3_init 5 = .ok (.iload_n 1, 1) := by decide +kernel
theorem dX3_init_6 : decode cX3_init 6 = .ok (.ifCond .le 7, 3) := by decide +kernel
theorem dX3_init_9 : decode cX3_init 9 = .ok (.iload_n 1, 1) := by decide +kernel
theorem dX3_init_10 : decode cX3_init 10 = .ok (.goto 4, 3) := by decide +kernel
theorem dX3_init_13 : decode cX3_init 13 = .ok (.iconst 0, 1) := by decide +kernel
theorem dX3_init_14 : decode cX3_init 14 = .ok (.newarray .int, 2) := by decide +kernel
theorem dX3_init_16 : decode cX3_init 16 = .ok (.putfield 7, 3) := by decide +kernel
theorem dX3_init_19 : decode cX3_init 19 = .ok (.return_, 1) := by decide +kernel
theorem dX3_at_0 : decode cX3_at 0 = .ok (.iload_n 1, 1) := by decide +kernel
theorem dX3_at_1 : decode cX3_at 1 = .ok (.ifCond .lt 21, 3) := by decide +kernel
theorem dX3_at_4 : decode cX3_at 4 = .ok (.iload_n 1, 1) := by decide +kernel
theorem dX3_at_5 : decode cX3_at 5 = .ok (.aload_n 0, 1) := by decide +kernel
theorem dX3_at_6 : decode cX3_at 6 = .ok (.getfield 7, 3) := by decide +kernel
theorem dX3_at_9 : decode cX3_at 9 = .ok (.arraylength, 1) := by decide +kernel
theorem dX3_at_10 : decode cX3_at 10 = .ok (.if_icmp .ge 12, 3) := by decide +kernel
theorem dX3_at_13 : decode cX3_at 13 = .ok (.aload_n 0, 1) := by decide +kernel
theorem dX3_at_14 : decode cX3_at 14 = .ok (.getfield 7, 3) := by decide +kernel
theorem dX3_at_17 : decode cX3_at 17 = .ok (.iload_n 1, 1) := by decide +kernel
theorem dX3_at_18 : decode cX3_at 18 = .ok (.iaload, 1) := by decide +kernel
theorem dX3_at_19 : decode cX3_at 19 = .ok (.goto 4, 3) := by decide +kernel
theorem dX3_at_22 : decode cX3_at 22 = .ok (.iconst 0, 1) := by decide +kernel
theorem dX3_at_23 : decode cX3_at 23 = .ok (.ireturn, 1) := by decide +kernel
theorem dX3_put_0 : decode cX3_put 0 = .ok (.iload_n 1, 1) := by decide +kernel
theorem dX3_put_1 : decode cX3_put 1 = .ok (.ifCond .lt 19, 3) := by decide +kernel
theorem dX3_put_4 : decode cX3_put 4 = .ok (.iload_n 1, 1) := by decide +kernel
theorem dX3_put_5 : decode cX3_put 5 = .ok (.aload_n 0, 1) := by decide +kernel
theorem dX3_put_6 : decode cX3_put 6 = .ok (.getfield 7, 3) := by decide +kernel
theorem dX3_put_9 : decode cX3_put 9 = .ok (.arraylength, 1) := by decide +kernel
theorem dX3_put_10 : decode cX3_put 10 = .ok (.if_icmp .ge 10, 3) := by decide +kernel
theorem dX3_put_13 : decode cX3_put 13 = .ok (.aload_n 0, 1) := by decide +kernel
theorem dX3_put_14 : decode cX3_put 14 = .ok (.getfield 7, 3) := by decide +kernel
theorem dX3_put_17 : decode cX3_put 17 = .ok (.iload_n 1, 1) := by decide +kernel
theorem dX3_put_18 : decode cX3_put 18 = .ok (.iload_n 2, 1) := by decide +kernel
theorem dX3_put_19 : decode cX3_put 19 = .ok (.iastore, 1) := by decide +kernel
theorem dX3_put_20 : decode cX3_put 20 = .ok (.return_, 1) := by decide +kernel
theorem dX3_fill_0 : decode cX3_fill 0 = .ok (.iconst 0, 1) := by decide +kernel
theorem dX3_fill_1 : decode cX3_fill 1 = .ok (.istore_n 2, 1) := by decide +kernel
theorem dX3_fill_2 : decode cX3_fill 2 = .ok (.iload_n 2, 1) := by decide +kernel
theorem dX3_fill_3 : decode cX3_fill 3 = .ok (.aload_n 0, 1) := by decide +kernel
theorem dX3_fill_4 : decode cX3_fill 4 = .ok (.getfield 7, 3) := by decide +kernel
theorem dX3_fill_7 : decode cX3_fill 7 = .ok (.arraylength, 1) := by decide +kernel
theorem dX3_fill_8 : decode cX3_fill 8 = .ok (.if_icmp .ge 16, 3) := by decide +kernel
theorem dX3_fill_11 : decode cX3_fill 11 = .ok (.aload_n 0, 1) := by decide +kernel
theorem dX3_fill_12 : decode cX3_fill 12 = .ok (.getfield 7, 3) := by decide +kernel
theorem dX3_fill_15 : decode cX3_fill 15 = .ok (.iload_n 2, 1) := by decide +kernel
theorem dX3_fill_16 : decode cX3_fill 16 = .ok (.iload_n 1, 1) := by decide +kernel
theorem dX3_fill_17 : decode cX3_fill 17 = .ok (.iastore, 1) := by decide +kernel
theorem dX3_fill_18 : decode cX3_fill 18 = .ok (.iinc 2 1, 3) := by decide +kernel
theorem dX3_fill_21 : decode cX3_fill 21 = .ok (.goto (-19), 3) := by decide +kernel
theorem dX3_fill_24 : decode cX3_fill 24 = .ok (.return_, 1) := by decide +kernel
theorem dX3_copyFrom_0 : decode cX3_copyFrom 0 = .ok (.aload_n 1, 1) := by decide +kernel
theorem dX3_copyFrom_1 : decode cX3_copyFrom 1 = .ok (.getfield 7, 3) := by decide +kernel
theorem dX3_copyFrom_4 : decode cX3_copyFrom 4 = .ok (.iconst 0, 1) := by decide +kernel
theorem dX3_copyFrom_5 : decode cX3_copyFrom 5 = .ok (.aload_n 0, 1) := by decide +kernel
theorem dX3_copyFrom_6 : decode cX3_copyFrom 6 = .ok (.getfield 7, 3) := by decide +kernel
theorem dX3_copyFrom_9 : decode cX3_copyFrom 9 = .ok (.iconst 0, 1) := by decide +kernel
theorem dX3_copyFrom_10 : decode cX3_copyFrom 10 = .ok (.aload_n 0, 1) := by decide +kernel
theorem dX3_copyFrom_11 : decode cX3_copyFrom 11 = .ok (.getfield 7, 3) := by decide +kernel
theorem dX3_copyFrom_14 : decode cX3_copyFrom 14 = .ok (.arraylength, 1) := by decide +kernel
theorem dX3_copyFrom_15 : decode cX3_copyFrom 15 = .ok (.aload_n 1, 1) := by decide +kernel
theorem dX3_copyFrom_16 : decode cX3_copyFrom 16 = .ok (.getfield 7, 3) := by decide +kernel
theorem dX3_copyFrom_19 : decode cX3_copyFrom 19 = .ok (.arraylength, 1) := by decide +kernel
theorem dX3_copyFrom_20 : decode cX3_copyFrom 20 = .ok (.invokestatic 13, 3) := by decide +kernel
theorem dX3_copyFrom_23 : decode cX3_copyFrom 23 = .ok (.invokestatic 19, 3) := by decide +kernel
theorem dX3_copyFrom_26 : decode cX3_copyFrom 26 = .ok (.return_, 1) := by decide +kernel
theorem dX4_init_0 : decode cX4_init 0 = .ok (.aload_n 0, 1) := by decide +kernel
theorem dX4_init_1 : decode cX4_init 1 = .ok (.invokespecial 1, 3) := by decide +kernel
theorem dX4_init_4 : decode cX4_init 4 = .ok (.aload_n 0, 1) := by decide +kernel
theorem dX4_init_5 : decode cX4_init 5 = .ok (.iload_n 1, 1) := by decide +kernel
theorem dX4_init_6 : decode cX4_init 6 = .ok (.ifCond .le 7, 3) := by decide +kernel
theorem dX4_init_9 : decode cX4_init 9 = .ok (.iload_n 1, 1) := by decide +kernel
theorem dX4_init_10 : decode cX4_init 10 = .ok (.goto 4, 3) := by decide +kernel
theorem dX4_init_13 : decode cX4_init 13 = .ok (.iconst 0, 1) := by decide +kernel
theorem dX4_init_14 : decode cX4_init 14 = .ok (.anewarray 7, 3) := by decide +kernel
theorem dX4_init_17 : decode cX4_init 17 = .ok (.putfield 9, 3) := by decide +kernel
theorem dX4_init_20 : decode cX4_init 20 = .ok (.iconst 0, 1) := by decide +kernel
theorem dX4_init_21 : decode cX4_init 21 = .ok (.istore_n 2, 1) := by decide +kernel
theorem dX4_init_22 : decode cX4_init 22 = .ok (.iload_n 2, 1) := by decide +kernel
theorem dX4_init_23 : decode cX4_init 23 = .ok (.aload_n 0, 1) := by decide +kernel
theorem dX4_init_24 : decode cX4_init 24 = .ok (.getfield 9, 3) := by decide +kernel
theorem dX4_init_27 : decode cX4_init 27 = .ok (.arraylength, 1) := by decide +kernel
theorem dX4_init_28 : decode cX4_init 28 = .ok (.if_icmp .ge 22, 3) := by decide +kernel
theorem dX4_init_31 : decode cX4_init 31 = .ok (.aload_n 0, 1) := by decide +kernel
theorem dX4_init_32 : decode cX4_init 32 = .ok (.getfield 9, 3) := by decide +kernel
theorem dX4_init_35 : decode cX4_init 35 = .ok (.iload_n 2, 1) := by decide +kernel
theorem dX4_init_36 : decode cX4_init 36 = .ok (.new 7, 3) := by decide +kernel
theorem dX4_init_39 : decode cX4_init 39 = .ok (.dup, 1) := by decide +kernel
theorem dX4_init_40 : decode cX4_init 40 = .ok (.invokespecial 15, 3) := by decide +kernel
theorem dX4_init_43 : decode cX4_init 43 = .ok (.aastore, 1) := by decide +kernel
theorem dX4_init_44 : decode cX4_init 44 = .ok (.iinc 2 1, 3) := by decide +kernel
theorem dX4_init_47 : decode cX4_init 47 = .ok (.goto (-25), 3) := by decide +kernel
theorem dX4_init_50 : decode cX4_init 50 = .ok (.return_, 1) := by decide +kernel
theorem dX4_isFull_0 : decode cX4_isFull 0 = .ok (.aload_n 0, 1) := by decide +kernel
theorem dX4_isFull_1 : decode cX4_isFull 1 = .ok (.getfield 16, 3) := by decide +kernel
theorem dX4_isFull_4 : decode cX4_isFull 4 = .ok (.aload_n 0, 1) := by decide +kernel
theorem dX4_isFull_5 : decode cX4_isFull 5 = .ok (.getfield 9, 3) := by decide +kernel
theorem dX4_isFull_8 : decode cX4_isFull 8 = .ok (.arraylength, 1) := by decide +kernel
theorem dX4_isFull_9 : decode cX4_isFull 9 = .ok (.if_icmp .lt 7, 3) := by decide +kernel
theorem dX4_isFull_12 : decode cX4_isFull 12 = .ok (.iconst 1, 1) := by decide +kernel
theorem dX4_isFull_13 : decode cX4_isFull 13 = .ok (.goto 4, 3) := by decide +kernel
theorem dX4_isFull_16 : decode cX4_isFull 16 = .ok (.iconst 0, 1) := by decide +kernel
theorem dX4_isFull_17 : decode cX4_isFull 17 = .ok (.ireturn, 1) := by decide +kernel
theorem dX4_add_0 : decode cX4_add 0 = .ok (.aload_n 0, 1) := by decide +kernel
theorem dX4_add_1 : decode cX4_add 1 = .ok (.invokevirtual 20, 3) := by decide +kernel
theorem dX4_add_4 : decode cX4_add 4 = .ok (.ifCond .eq 7, 3) := by decide +kernel
theorem dX4_add_7 : decode cX4_add 7 = .ok (.aload_n 0, 1) := by decide +kernel
theorem dX4_add_8 : decode cX4_add 8 = .ok (.invokevirtual 24, 3) := by decide +kernel
theorem dX4_add_11 : decode cX4_add 11 = .ok (.aload_n 0, 1) := by decide +kernel
theorem dX4_add_12 : decode cX4_add 12 = .ok (.getfield 16, 3) := by decide +kernel
theorem dX4_add_15 : decode cX4_add 15 = .ok (.ifCond .lt 38, 3) := by decide +kernel
theorem dX4_add_18 : decode cX4_add 18 = .ok (.aload_n 0, 1) := by decide +kernel
theorem dX4_add_19 : decode cX4_add 19 = .ok (.getfield 16, 3) := by decide +kernel
theorem dX4_add_22 : decode cX4_add 22 = .ok (.aload_n 0, 1) := by decide +kernel
theorem dX4_add_23 : decode cX4_add 23 = .ok (.getfield 9, 3) := by decide +kernel
theorem dX4_add_26 : decode cX4_add 26 = .ok (.arraylength, 1) := by decide +kernel
theorem dX4_add_27 : decode cX4_add 27 = .ok (.if_icmp .ge 26, 3) := by decide +kernel
theorem dX4_add_30 : decode cX4_add 30 = .ok (.aload_n 0, 1) := by decide +kernel
theorem dX4_add_31 : decode cX4_add 31 = .ok (.getfield 9, 3) := by decide +kernel
theorem dX4_add_34 : decode cX4_add 34 = .ok (.aload_n 0, 1) := by decide +kernel
theorem dX4_add_35 : decode cX4_add 35 = .ok (.getfield 16, 3) := by decide +kernel
theorem dX4_add_38 : decode cX4_add 38 = .ok (.aaload, 1) := by decide +kernel
theorem dX4_add_39 : decode cX4_add 39 = .ok (.aload_n 1, 1) := by decide +kernel
theorem dX4_add_40 : decode cX4_add 40 = .ok (.invokevirtual 27, 3) := by decide +kernel
theorem dX4_add_43 : decode cX4_add 43 = .ok (.aload_n 0, 1) := by decide +kernel
theorem dX4_add_44 : decode cX4_add 44 = .ok (.dup, 1) := by decide +kernel
theorem dX4_add_45 : decode cX4_add 45 = .ok (.getfield 16, 3) := by decide +kernel
theorem dX4_add_48 : decode cX4_add 48 = .ok (.iconst 1, 1) := by decide +kernel
theorem dX4_add_49 : decode cX4_add 49 = .ok (.iadd, 1) := by decide +kernel
theorem dX4_add_50 : decode cX4_add 50 = .ok (.putfield 16, 3) := by decide +kernel
theorem dX4_add_53 : decode cX4_add 53 = .ok (.return_, 1) := by decide +kernel
theorem dX4_dropLowest_0 : decode cX4_dropLowest 0 = .ok (.aload_n 0, 1) := by decide +kernel
theorem dX4_dropLowest_1 : decode cX4_dropLowest 1 = .ok (.getfield 9, 3) := by decide +kernel
theorem dX4_dropLowest_4 : decode cX4_dropLowest 4 = .ok (.arraylength, 1) := by decide +kernel
theorem dX4_dropLowest_5 : decode cX4_dropLowest 5 = .ok (.ifCond .ne 4, 3) := by decide +kernel
theorem dX4_dropLowest_8 : decode cX4_dropLowest 8 = .ok (.return_, 1) := by decide +kernel
theorem dX4_dropLowest_9 : decode cX4_dropLowest 9 = .ok (.aload_n 0, 1) := by decide +kernel
theorem dX4_dropLowest_10 : decode cX4_dropLowest 10 = .ok (.getfield 9, 3) := by decide +kernel
theorem dX4_dropLowest_13 : decode cX4_dropLowest 13 = .ok (.iconst 0, 1) := by decide +kernel
theorem dX4_dropLowest_14 : decode cX4_dropLowest 14 = .ok (.aaload, 1) := by decide +kernel
theorem dX4_dropLowest_15 : decode cX4_dropLowest 15 = .ok (.astore_n 1, 1) := by decide +kernel
theorem dX4_dropLowest_16 : decode cX4_dropLowest 16 = .ok (.iconst 1, 1) := by decide +kernel
theorem dX4_dropLowest_17 : decode cX4_dropLowest 17 = .ok (.istore_n 2, 1) := by decide +kernel
theorem dX4_dropLowest_18 : decode cX4_dropLowest 18 = .ok (.iload_n 2, 1) := by decide +kernel
theorem dX4_dropLowest_19 : decode cX4_dropLowest 19 = .ok (.aload_n 0, 1) := by decide +kernel
theorem dX4_dropLowest_20 : decode cX4_dropLowest 20 = .ok (.getfield 9, 3) := by decide +kernel
theorem dX4_dropLowest_23 : decode cX4_dropLowest 23 = .ok (.arraylength, 1) := by decide +kernel
theorem dX4_dropLowest_24 : decode cX4_dropLowest 24 = .ok (.if_icmp .ge 23, 3) := by decide +kernel
theorem dX4_dropLowest_27 : decode cX4_dropLowest 27 = .ok (.aload_n 0, 1) := by decide +kernel
theorem dX4_dropLowest_28 : decode cX4_dropLowest 28 = .ok (.getfield 9, 3) := by decide +kernel
theorem dX4_dropLowest_31 : decode cX4_dropLowest 31 = .ok (.iload_n 2, 1) := by decide +kernel
theorem dX4_dropLowest_32 : decode cX4_dropLowest 32 = .ok (.iconst 1, 1) := by decide +kernel
theorem dX4_dropLowest_33 : decode cX4_dropLowest 33 = .ok (.isub, 1) := by decide +kernel
theorem dX4_dropLowest_34 : decode cX4_dropLowest 34 = .ok (.aload_n 0, 1) := by decide +kernel
theorem dX4_dropLowest_35 : decode cX4_dropLowest 35 = .ok (.getfield 9, 3) := by decide +kernel
theorem dX4_dropLowest_38 : decode cX4_dropLowest 38 = .ok (.iload_n 2, 1) := by decide +kernel
theorem dX4_dropLowest_39 : decode cX4_dropLowest 39 = .ok (.aaload, 1) := by decide +kernel
theorem dX4_dropLowest_40 : decode cX4_dropLowest 40 = .ok (.aastore, 1) := by decide +kernel
theorem dX4_dropLowest_41 : decode cX4_dropLowest 41 = .ok (.iinc 2 1, 3) := by decide +kernel
theorem dX4_dropLowest_44 : decode cX4_dropLowest 44 = .ok (.goto (-26), 3) := by decide +kernel
theorem dX4_dropLowest_47 : decode cX4_dropLowest 47 = .ok (.aload_n 0, 1) := by decide +kernel
theorem dX4_dropLowest_48 : decode cX4_dropLowest 48 = .ok (.getfield 9, 3) := by decide +kernel
theorem dX4_dropLowest_51 : decode cX4_dropLowest 51 = .ok (.aload_n 0, 1) := by decide +kernel
theorem dX4_dropLowest_52 : decode cX4_dropLowest 52 = .ok (.getfield 9, 3) := by decide +kernel
theorem dX4_dropLowest_55 : decode cX4_dropLowest 55 = .ok (.arraylength, 1) := by decide +kernel
theorem dX4_dropLowest_56 : decode cX4_dropLowest 56 = .ok (.iconst 1, 1) := by decide +kernel
theorem dX4_dropLowest_57 : decode cX4_dropLowest 57 = .ok (.isub, 1) := by decide +kernel
theorem dX4_dropLowest_58 : decode cX4_dropLowest 58 = .ok (.aload_n 1, 1) := by decide +kernel
theorem dX4_dropLowest_59 : decode cX4_dropLowest 59 = .ok (.aastore, 1) := by decide +kernel
theorem dX4_dropLowest_60 : decode cX4_dropLowest 60 = .ok (.aload_n 0, 1) := by decide +kernel
theorem dX4_dropLowest_61 : decode cX4_dropLowest 61 = .ok (.dup, 1) := by decide +kernel
theorem dX4_dropLowest_62 : decode cX4_dropLowest 62 = .ok (.getfield 16, 3) := by decide +kernel
theorem dX4_dropLowest_65 : decode cX4_dropLowest 65 = .ok (.iconst 1, 1) := by decide +kernel
theorem dX4_dropLowest_66 : decode cX4_dropLowest 66 = .ok (.isub, 1) := by decide +kernel
theorem dX4_dropLowest_67 : decode cX4_dropLowest 67 = .ok (.putfield 16, 3) := by decide +kernel
theorem dX4_dropLowest_70 : decode cX4_dropLowest 70 = .ok (.return_, 1) := by decide +kernel
theorem dX4_takeInto_0 : decode cX4_takeInto 0 = .ok (.aload_n 0, 1) := by decide +kernel
theorem dX4_takeInto_1 : decode cX4_takeInto 1 = .ok (.getfield 16, 3) := by decide +kernel
theorem dX4_takeInto_4 : decode cX4_takeInto 4 = .ok (.ifCond .le 15, 3) := by decide +kernel
theorem dX4_takeInto_7 : decode cX4_takeInto 7 = .ok (.aload_n 0, 1) := by decide +kernel
theorem dX4_takeInto_8 : decode cX4_takeInto 8 = .ok (.getfield 16, 3) := by decide +kernel
theorem dX4_takeInto_11 : decode cX4_takeInto 11 = .ok (.aload_n 0, 1) := by decide +kernel
theorem dX4_takeInto_12 : decode cX4_takeInto 12 = .ok (.getfield 9, 3) := by decide +kernel
theorem dX4_takeInto_15 : decode cX4_takeInto 15 = .ok (.arraylength, 1) := by decide +kernel
theorem dX4_takeInto_16 : decode cX4_takeInto 16 = .ok (.if_icmp .le 5, 3) := by decide +kernel
theorem dX4_takeInto_19 : decode cX4_takeInto 19 = .ok (.iconst 0, 1) := by decide +kernel
theorem dX4_takeInto_20 : decode cX4_takeInto 20 = .ok (.ireturn, 1) := by decide +kernel
theorem dX4_takeInto_21 : decode cX4_takeInto 21 = .ok (.aload_n 0, 1) := by decide +kernel
theorem dX4_takeInto_22 : decode cX4_takeInto 22 = .ok (.dup, 1) := by decide +kernel
theorem dX4_takeInto_23 : decode cX4_takeInto 23 = .ok (.getfield 16, 3) := by decide +kernel
theorem dX4_takeInto_26 : decode cX4_takeInto 26 = .ok (.iconst 1, 1) := by decide +kernel
theorem dX4_takeInto_27 : decode cX4_takeInto 27 = .ok (.isub, 1) := by decide +kernel
theorem dX4_takeInto_28 : decode cX4_takeInto 28 = .ok (.putfield 16, 3) := by decide +kernel
theorem dX4_takeInto_31 : decode cX4_takeInto 31 = .ok (.aload_n 1, 1) := by decide +kernel
theorem dX4_takeInto_32 : decode cX4_takeInto 32 = .ok (.aload_n 0, 1) := by decide +kernel
theorem dX4_takeInto_33 : decode cX4_takeInto 33 = .ok (.getfield 9, 3) := by decide +kernel
theorem dX4_takeInto_36 : decode cX4_takeInto 36 = .ok (.aload_n 0, 1) := by decide +kernel
theorem dX4_takeInto_37 : decode cX4_takeInto 37 = .ok (.getfield 16, 3) := by decide +kernel
theorem dX4_takeInto_40 : decode cX4_takeInto 40 = .ok (.aaload, 1) := by decide +kernel
theorem dX4_takeInto_41 : decode cX4_takeInto 41 = .ok (.invokevirtual 27, 3) := by decide +kernel
theorem dX4_takeInto_44 : decode cX4_takeInto 44 = .ok (.iconst 1, 1) := by decide +kernel
theorem dX4_takeInto_45 : decode cX4_takeInto 45 = .ok (.ireturn, 1) := by decide +kernel
theorem dX5_init_0 : decode cX5_init 0 = .ok (.aload_n 0, 1) := by decide +kernel
theorem dX5_init_1 : decode cX5_init 1 = .ok (.invokespecial 3, 3) := by decide +kernel
theorem dX5_init_4 : decode cX5_init 4 = .ok (.aload_n 0, 1) := by decide +kernel
theorem dX5_init_5 : decode cX5_init 5 = .ok (.sipush 200, 3) := by decide +kernel
theorem dX5_init_8 : decode cX5_init 8 = .ok (.newarray .int, 2) := by decide +kernel
theorem dX5_init_10 : decode cX5_init 10 = .ok (.putfield 9, 3) := by decide +kernel
theorem dX5_init_13 : decode cX5_init 13 = .ok (.return_, 1) := by decide +kernel
theorem dX5_add_0 : decode cX5_add 0 = .ok (.aload_n 0, 1) := by decide +kernel
theorem dX5_add_1 : decode cX5_add 1 = .ok (.getfield 15, 3) := by decide +kernel
theorem dX5_add_4 : decode cX5_add 4 = .ok (.ifCond .lt 15, 3) := by decide +kernel
theorem dX5_add_7 : decode cX5_add 7 = .ok (.aload_n 0, 1) := by decide +kernel
theorem dX5_add_8 : decode cX5_add 8 = .ok (.getfield 15, 3) := by decide +kernel
theorem dX5_add_11 : decode cX5_add 11 = .ok (.aload_n 0, 1) := by decide +kernel
theorem dX5_add_12 : decode cX5_add 12 = .ok (.getfield 9, 3) := by decide +kernel
theorem dX5_add_15 : decode cX5_add 15 = .ok (.arraylength, 1) := by decide +kernel
theorem dX5_add_16 : decode cX5_add 16 = .ok (.if_icmp .lt 5, 3) := by decide +kernel
theorem dX5_add_19 : decode cX5_add 19 = .ok (.iconst 0, 1) := by decide +kernel
theorem dX5_add_20 : decode cX5_add 20 = .ok (.ireturn, 1) := by decide +kernel
theorem dX5_add_21 : decode cX5_add 21 = .ok (.aload_n 0, 1) := by decide +kernel
theorem dX5_add_22 : decode cX5_add 22 = .ok (.getfield 9, 3) := by decide +kernel
theorem dX5_add_25 : decode cX5_add 25 = .ok (.aload_n 0, 1) := by decide +kernel
theorem dX5_add_26 : decode cX5_add 26 = .ok (.getfield 15, 3) := by decide +kernel
theorem dX5_add_29 : decode cX5_add 29 = .ok (.iload_n 1, 1) := by decide +kernel
theorem dX5_add_30 : decode cX5_add 30 = .ok (.iastore, 1) := by decide +kernel
theorem dX5_add_31 : decode cX5_add 31 = .ok (.aload_n 0, 1) := by decide +kernel
theorem dX5_add_32 : decode cX5_add 32 = .ok (.dup, 1) := by decide +kernel
theorem dX5_add_33 : decode cX5_add 33 = .ok (.getfield 15, 3) := by decide +kernel
theorem dX5_add_36 : decode cX5_add 36 = .ok (.iconst 1, 1) := by decide +kernel
theorem dX5_add_37 : decode cX5_add 37 = .ok (.iadd, 1) := by decide +kernel
theorem dX5_add_38 : decode cX5_add 38 = .ok (.putfield 15, 3) := by decide +kernel
theorem dX5_add_41 : decode cX5_add 41 = .ok (.iconst 1, 1) := by decide +kernel
theorem dX5_add_42 : decode cX5_add 42 = .ok (.ireturn, 1) := by decide +kernel
theorem dX5_letterAt_0 : decode cX5_letterAt 0 = .ok (.iload_n 1, 1) := by decide +kernel
theorem dX5_letterAt_1 : decode cX5_letterAt 1 = .ok (.ifCond .lt 29, 3) := by decide +kernel
theorem dX5_letterAt_4 : decode cX5_letterAt 4 = .ok (.iload_n 1, 1) := by decide +kernel
theorem dX5_letterAt_5 : decode cX5_letterAt 5 = .ok (.aload_n 0, 1) := by decide +kernel
theorem dX5_letterAt_6 : decode cX5_letterAt 6 = .ok (.getfield 15, 3) := by decide +kernel
theorem dX5_letterAt_9 : decode cX5_letterAt 9 = .ok (.if_icmp .ge 21, 3) := by decide +kernel
theorem dX5_letterAt_12 : decode cX5_letterAt 12 = .ok (.iload_n 1, 1) := by decide +kernel
theorem dX5_letterAt_13 : decode cX5_letterAt 13 = .ok (.aload_n 0, 1) := by decide +kernel
theorem dX5_letterAt_14 : decode cX5_letterAt 14 = .ok (.getfield 9, 3) := by decide +kernel
theorem dX5_letterAt_17 : decode cX5_letterAt 17 = .ok (.arraylength, 1) := by decide +kernel
theorem dX5_letterAt_18 : decode cX5_letterAt 18 = .ok (.if_icmp .ge 12, 3) := by decide +kernel
theorem dX5_letterAt_21 : decode cX5_letterAt 21 = .ok (.aload_n 0, 1) := by decide +kernel
theorem dX5_letterAt_22 : decode cX5_letterAt 22 = .ok (.getfield 9, 3) := by decide +kernel
theorem dX5_letterAt_25 : decode cX5_letterAt 25 = .ok (.iload_n 1, 1) := by decide +kernel
theorem dX5_letterAt_26 : decode cX5_letterAt 26 = .ok (.iaload, 1) := by decide +kernel
theorem dX5_letterAt_27 : decode cX5_letterAt 27 = .ok (.goto 4, 3) := by decide +kernel
theorem dX5_letterAt_30 : decode cX5_letterAt 30 = .ok (.iconst 0, 1) := by decide +kernel
theorem dX5_letterAt_31 : decode cX5_letterAt 31 = .ok (.ireturn, 1) := by decide +kernel
theorem dX6_init_0 : decode cX6_init 0 = .ok (.aload_n 0, 1) := by decide +kernel
theorem dX6_init_1 : decode cX6_init 1 = .ok (.invokespecial 3, 3) := by decide +kernel
theorem dX6_init_4 : decode cX6_init 4 = .ok (.return_, 1) := by decide +kernel
theorem dX6_start_0 : decode cX6_start 0 = .ok (.aload_n 0, 1) := by decide +kernel
theorem dX6_start_1 : decode cX6_start 1 = .ok (.iload_n 1, 1) := by decide +kernel
theorem dX6_start_2 : decode cX6_start 2 = .ok (.putfield 9, 3) := by decide +kernel
theorem dX6_start_5 : decode cX6_start 5 = .ok (.aload_n 0, 1) := by decide +kernel
theorem dX6_start_6 : decode cX6_start 6 = .ok (.iload_n 1, 1) := by decide +kernel
theorem dX6_start_7 : decode cX6_start 7 = .ok (.putfield 15, 3) := by decide +kernel
theorem dX6_start_10 : decode cX6_start 10 = .ok (.aload_n 0, 1) := by decide +kernel
theorem dX6_start_11 : decode cX6_start 11 = .ok (.iconst 0, 1) := by decide +kernel
theorem dX6_start_12 : decode cX6_start 12 = .ok (.putfield 18, 3) := by decide +kernel
theorem dX6_start_15 : decode cX6_start 15 = .ok (.aload_n 0, 1) := by decide +kernel
theorem dX6_start_16 : decode cX6_start 16 = .ok (.iload_n 3, 1) := by decide +kernel
theorem dX6_start_17 : decode cX6_start 17 = .ok (.putfield 21, 3) := by decide +kernel
theorem dX6_start_20 : decode cX6_start 20 = .ok (.aload_n 0, 1) := by decide +kernel
theorem dX6_start_21 : decode cX6_start 21 = .ok (.iload_n 2, 1) := by decide +kernel
theorem dX6_start_22 : decode cX6_start 22 = .ok (.invokevirtual 24, 3) := by decide +kernel
theorem dX6_start_25 : decode cX6_start 25 = .ok (.return_, 1) := by decide +kernel
theorem dX6_goTo_0 : decode cX6_goTo 0 = .ok (.aload_n 0, 1) := by decide +kernel
theorem dX6_goTo_1 : decode cX6_goTo 1 = .ok (.iload_n 1, 1) := by decide +kernel
theorem dX6_goTo_2 : decode cX6_goTo 2 = .ok (.putfield 28, 3) := by decide +kernel
theorem dX6_goTo_5 : decode cX6_goTo 5 = .ok (.aload_n 0, 1) := by decide +kernel
theorem dX6_goTo_6 : decode cX6_goTo 6 = .ok (.aload_n 0, 1) := by decide +kernel
theorem dX6_goTo_7 : decode cX6_goTo 7 = .ok (.getfield 18, 3) := by decide +kernel
theorem dX6_goTo_10 : decode cX6_goTo 10 = .ok (.ifCond .ne 15, 3) := by decide +kernel
theorem dX6_goTo_13 : decode cX6_goTo 13 = .ok (.aload_n 0, 1) := by decide +kernel
theorem dX6_goTo_14 : decode cX6_goTo 14 = .ok (.getfield 9, 3) := by decide +kernel
theorem dX6_goTo_17 : decode cX6_goTo 17 = .ok (.iload_n 1, 1) := by decide +kernel
theorem dX6_goTo_18 : decode cX6_goTo 18 = .ok (.if_icmp .ne 7, 3) := by decide +kernel
theorem dX6_goTo_21 : decode cX6_goTo 21 = .ok (.iconst 1, 1) := by decide +kernel
theorem dX6_goTo_22 : decode cX6_goTo 22 = .ok (.goto 4, 3) := by decide +kernel
theorem dX6_goTo_25 : decode cX6_goTo 25 = .ok (.iconst 0, 1) := by decide +kernel
theorem dX6_goTo_26 : decode cX6_goTo 26 = .ok (.putfield 31, 3) := by decide +kernel
theorem dX6_goTo_29 : decode cX6_goTo 29 = .ok (.return_, 1) := by decide +kernel
theorem dX6_isOnHisWay_0 : decode cX6_isOnHisWay 0 = .ok (.aload_n 0, 1) := by decide +kernel
theorem dX6_isOnHisWay_1 : decode cX6_isOnHisWay 1 = .ok (.getfield 18, 3) := by decide +kernel
theorem dX6_isOnHisWay_4 : decode cX6_isOnHisWay 4 = .ok (.ifCond .le 7, 3) := by decide +kernel
theorem dX6_isOnHisWay_7 : decode cX6_isOnHisWay 7 = .ok (.iconst 1, 1) := by decide +kernel
theorem dX6_isOnHisWay_8 : decode cX6_isOnHisWay 8 = .ok (.goto 4, 3) := by decide +kernel
theorem dX6_isOnHisWay_11 : decode cX6_isOnHisWay 11 = .ok (.iconst 0, 1) := by decide +kernel
theorem dX6_isOnHisWay_12 : decode cX6_isOnHisWay 12 = .ok (.ireturn, 1) := by decide +kernel
theorem dX6_mustSetOut_0 : decode cX6_mustSetOut 0 = .ok (.aload_n 0, 1) := by decide +kernel
theorem dX6_mustSetOut_1 : decode cX6_mustSetOut 1 = .ok (.getfield 31, 3) := by decide +kernel
theorem dX6_mustSetOut_4 : decode cX6_mustSetOut 4 = .ok (.ifCond .ne 14, 3) := by decide +kernel
theorem dX6_mustSetOut_7 : decode cX6_mustSetOut 7 = .ok (.aload_n 0, 1) := by decide +kernel
theorem dX6_mustSetOut_8 : decode cX6_mustSetOut 8 = .ok (.getfield 18, 3) := by decide +kernel
theorem dX6_mustSetOut_11 : decode cX6_mustSetOut 11 = .ok (.ifCond .ne 7, 3) := by decide +kernel
theorem dX6_mustSetOut_14 : decode cX6_mustSetOut 14 = .ok (.iconst 1, 1) := by decide +kernel
theorem dX6_mustSetOut_15 : decode cX6_mustSetOut 15 = .ok (.goto 4, 3) := by decide +kernel
theorem dX6_mustSetOut_18 : decode cX6_mustSetOut 18 = .ok (.iconst 0, 1) := by decide +kernel
theorem dX6_mustSetOut_19 : decode cX6_mustSetOut 19 = .ok (.ireturn, 1) := by decide +kernel
theorem dX6_goOn_0 : decode cX6_goOn 0 = .ok (.aload_n 0, 1) := by decide +kernel
theorem dX6_goOn_1 : decode cX6_goOn 1 = .ok (.dup, 1) := by decide +kernel
theorem dX6_goOn_2 : decode cX6_goOn 2 = .ok (.getfield 18, 3) := by decide +kernel
theorem dX6_goOn_5 : decode cX6_goOn 5 = .ok (.iconst 1, 1) := by decide +kernel
theorem dX6_goOn_6 : decode cX6_goOn 6 = .ok (.isub, 1) := by decide +kernel
theorem dX6_goOn_7 : decode cX6_goOn 7 = .ok (.putfield 18, 3) := by decide +kernel
theorem dX6_goOn_10 : decode cX6_goOn 10 = .ok (.aload_n 0, 1) := by decide +kernel
theorem dX6_goOn_11 : decode cX6_goOn 11 = .ok (.getfield 18, 3) := by decide +kernel
theorem dX6_goOn_14 : decode cX6_goOn 14 = .ok (.ifCond .ne 31, 3) := by decide +kernel
theorem dX6_goOn_17 : decode cX6_goOn 17 = .ok (.aload_n 0, 1) := by decide +kernel
theorem dX6_goOn_18 : decode cX6_goOn 18 = .ok (.aload_n 0, 1) := by decide +kernel
theorem dX6_goOn_19 : decode cX6_goOn 19 = .ok (.getfield 15, 3) := by decide +kernel
theorem dX6_goOn_22 : decode cX6_goOn 22 = .ok (.putfield 9, 3) := by decide +kernel
theorem dX6_goOn_25 : decode cX6_goOn 25 = .ok (.aload_n 0, 1) := by decide +kernel
theorem dX6_goOn_26 : decode cX6_goOn 26 = .ok (.aload_n 0, 1) := by decide +kernel
theorem dX6_goOn_27 : decode cX6_goOn 27 = .ok (.getfield 9, 3) := by decide +kernel
theorem dX6_goOn_30 : decode cX6_goOn 30 = .ok (.aload_n 0, 1) := by decide +kernel
theorem dX6_goOn_31 : decode cX6_goOn 31 = .ok (.getfield 28, 3) := by decide +kernel
theorem dX6_goOn_34 : decode cX6_goOn 34 = .ok (.if_icmp .ne 7, 3) := by decide +kernel
theorem dX6_goOn_37 : decode cX6_goOn 37 = .ok (.iconst 1, 1) := by decide +kernel
theorem dX6_goOn_38 : decode cX6_goOn 38 = .ok (.goto 4, 3) := by decide +kernel
theorem dX6_goOn_41 : decode cX6_goOn 41 = .ok (.iconst 0, 1) := by decide +kernel
theorem dX6_goOn_42 : decode cX6_goOn 42 = .ok (.putfield 31, 3) := by decide +kernel
theorem dX6_goOn_45 : decode cX6_goOn 45 = .ok (.return_, 1) := by decide +kernel
theorem dX6_isWith_0 : decode cX6_isWith 0 = .ok (.aload_n 0, 1) := by decide +kernel
theorem dX6_isWith_1 : decode cX6_isWith 1 = .ok (.getfield 18, 3) := by decide +kernel
theorem dX6_isWith_4 : decode cX6_isWith 4 = .ok (.ifCond .ne 25, 3) := by decide +kernel
theorem dX6_isWith_7 : decode cX6_isWith 7 = .ok (.aload_n 1, 1) := by decide +kernel
theorem dX6_isWith_8 : decode cX6_isWith 8 = .ok (.getfield 18, 3) := by decide +kernel
theorem dX6_isWith_11 : decode cX6_isWith 11 = .ok (.ifCond .ne 18, 3) := by decide +kernel
theorem dX6_isWith_14 : decode cX6_isWith 14 = .ok (.aload_n 0, 1) := by decide +kernel
theorem dX6_isWith_15 : decode cX6_isWith 15 = .ok (.getfield 9, 3) := by decide +kernel
theorem dX6_isWith_18 : decode cX6_isWith 18 = .ok (.aload_n 1, 1) := by decide +kernel
theorem dX6_isWith_19 : decode cX6_isWith 19 = .ok (.getfield 9, 3) := by decide +kernel
theorem dX6_isWith_22 : decode cX6_isWith 22 = .ok (.if_icmp .ne 7, 3) := by decide +kernel
theorem dX6_isWith_25 : decode cX6_isWith 25 = .ok (.iconst 1, 1) := by decide +kernel
theorem dX6_isWith_26 : decode cX6_isWith 26 = .ok (.goto 4, 3) := by decide +kernel
theorem dX6_isWith_29 : decode cX6_isWith 29 = .ok (.iconst 0, 1) := by decide +kernel
theorem dX6_isWith_30 : decode cX6_isWith 30 = .ok (.ireturn, 1) := by decide +kernel
theorem dX6_copyFrom_0 : decode cX6_copyFrom 0 = .ok (.aload_n 0, 1) := by decide +kernel
theorem dX6_copyFrom_1 : decode cX6_copyFrom 1 = .ok (.aload_n 1, 1) := by decide +kernel
theorem dX6_copyFrom_2 : decode cX6_copyFrom 2 = .ok (.getfield 9, 3) := by decide +kernel
theorem dX6_copyFrom_5 : decode cX6_copyFrom 5 = .ok (.putfield 9, 3) := by decide +kernel
theorem dX6_copyFrom_8 : decode cX6_copyFrom 8 = .ok (.aload_n 0, 1) := by decide +kernel
theorem dX6_copyFrom_9 : decode cX6_copyFrom 9 = .ok (.aload_n 1, 1) := by decide +kernel
theorem dX6_copyFrom_10 : decode cX6_copyFrom 10 = .ok (.getfield 28, 3) := by decide +kernel
theorem dX6_copyFrom_13 : decode cX6_copyFrom 13 = .ok (.putfield 28, 3) := by decide +kernel
theorem dX6_copyFrom_16 : decode cX6_copyFrom 16 = .ok (.aload_n 0, 1) := by decide +kernel
theorem dX6_copyFrom_17 : decode cX6_copyFrom 17 = .ok (.aload_n 1, 1) := by decide +kernel
theorem dX6_copyFrom_18 : decode cX6_copyFrom 18 = .ok (.getfield 21, 3) := by decide +kernel
theorem dX6_copyFrom_21 : decode cX6_copyFrom 21 = .ok (.putfield 21, 3) := by decide +kernel
theorem dX6_copyFrom_24 : decode cX6_copyFrom 24 = .ok (.aload_n 0, 1) := by decide +kernel
theorem dX6_copyFrom_25 : decode cX6_copyFrom 25 = .ok (.aload_n 1, 1) := by decide +kernel
theorem dX6_copyFrom_26 : decode cX6_copyFrom 26 = .ok (.getfield 31, 3) := by decide +kernel
theorem dX6_copyFrom_29 : decode cX6_copyFrom 29 = .ok (.putfield 31, 3) := by decide +kernel
theorem dX6_copyFrom_32 : decode cX6_copyFrom 32 = .ok (.aload_n 0, 1) := by decide +kernel
theorem dX6_copyFrom_33 : decode cX6_copyFrom 33 = .ok (.aload_n 1, 1) := by decide +kernel
theorem dX6_copyFrom_34 : decode cX6_copyFrom 34 = .ok (.getfield 15, 3) := by decide +kernel
theorem dX6_copyFrom_37 : decode cX6_copyFrom 37 = .ok (.putfield 15, 3) := by decide +kernel
theorem dX6_copyFrom_40 : decode cX6_copyFrom 40 = .ok (.aload_n 0, 1) := by decide +kernel
theorem dX6_copyFrom_41 : decode cX6_copyFrom 41 = .ok (.aload_n 1, 1) := by decide +kernel
theorem dX6_copyFrom_42 : decode cX6_copyFrom 42 = .ok (.getfield 18, 3) := by decide +kernel
theorem dX6_copyFrom_45 : decode cX6_copyFrom 45 = .ok (.putfield 18, 3) := by decide +kernel
theorem dX6_copyFrom_48 : decode cX6_copyFrom 48 = .ok (.return_, 1) := by decide +kernel
theorem dX7_init_0 : decode cX7_init 0 = .ok (.aload_n 0, 1) := by decide +kernel
theorem dX7_init_1 : decode cX7_init 1 = .ok (.invokespecial 3, 3) := by decide +kernel
theorem dX7_init_4 : decode cX7_init 4 = .ok (.aload_n 0, 1) := by decide +kernel
theorem dX7_init_5 : decode cX7_init 5 = .ok (.new 9, 3) := by decide +kernel
theorem dX7_init_8 : decode cX7_init 8 = .ok (.dup, 1) := by decide +kernel
theorem dX7_init_9 : decode cX7_init 9 = .ok (.bipush 36, 2) := by decide +kernel
theorem dX7_init_11 : decode cX7_init 11 = .ok (.invokespecial 11, 3) := by decide +kernel
theorem dX7_init_14 : decode cX7_init 14 = .ok (.putfield 14, 3) := by decide +kernel
theorem dX7_init_17 : decode cX7_init 17 = .ok (.aload_n 0, 1) := by decide +kernel
theorem dX7_init_18 : decode cX7_init 18 = .ok (.new 9, 3) := by decide +kernel
theorem dX7_init_21 : decode cX7_init 21 = .ok (.dup, 1) := by decide +kernel
theorem dX7_init_22 : decode cX7_init 22 = .ok (.bipush 36, 2) := by decide +kernel
theorem dX7_init_24 : decode cX7_init 24 = .ok (.invokespecial 11, 3) := by decide +kernel
theorem dX7_init_27 : decode cX7_init 27 = .ok (.putfield 20, 3) := by decide +kernel
theorem dX7_init_30 : decode cX7_init 30 = .ok (.return_, 1) := by decide +kernel
theorem dX7_learnByDrum_0 : decode cX7_learnByDrum 0 = .ok (.iconst 0, 1) := by decide +kernel
theorem dX7_learnByDrum_1 : decode cX7_learnByDrum 1 = .ok (.istore 5, 2) := by decide +kernel
theorem dX7_learnByDrum_3 : decode cX7_learnByDrum 3 = .ok (.iload 5, 2) := by decide +kernel
theorem dX7_learnByDrum_5 : decode cX7_learnByDrum 5 = .ok (.aload_n 1, 1) := by decide +kernel
theorem dX7_learnByDrum_6 : decode cX7_learnByDrum 6 = .ok (.getfield 23, 3) := by decide +kernel
theorem dX7_learnByDrum_9 : decode cX7_learnByDrum 9 = .ok (.if_icmp .ge 33, 3) := by decide +kernel
theorem dX7_learnByDrum_12 : decode cX7_learnByDrum 12 = .ok (.aload_n 0, 1) := by decide +kernel
theorem dX7_learnByDrum_13 : decode cX7_learnByDrum 13 = .ok (.getfield 14, 3) := by decide +kernel
theorem dX7_learnByDrum_16 : decode cX7_learnByDrum 16 = .ok (.iload 5, 2) := by decide +kernel
theorem dX7_learnByDrum_18 : decode cX7_learnByDrum 18 = .ok (.aload_n 2, 1) := by decide +kernel
theorem dX7_learnByDrum_19 : decode cX7_learnByDrum 19 = .ok (.aload_n 1, 1) := by decide +kernel
theorem dX7_learnByDrum_20 : decode cX7_learnByDrum 20 = .ok (.iload_n 3, 1) := by decide +kernel
theorem dX7_learnByDrum_21 : decode cX7_learnByDrum 21 = .ok (.iload 5, 2) := by decide +kernel
theorem dX7_learnByDrum_23 : decode cX7_learnByDrum 23 = .ok (.invokevirtual 29, 3) := by decide +kernel
theorem dX7_learnByDrum_26 : decode cX7_learnByDrum 26 = .ok (.aload_n 2, 1) := by decide +kernel
theorem dX7_learnByDrum_27 : decode cX7_learnByDrum 27 = .ok (.getfield 35, 3) := by decide +kernel
theorem dX7_learnByDrum_30 : decode cX7_learnByDrum 30 = .ok (.invokestatic 38, 3) := by decide +kernel
theorem dX7_learnByDrum_33 : decode cX7_learnByDrum 33 = .ok (.invokevirtual 42, 3) := by decide +kernel
theorem dX7_learnByDrum_36 : decode cX7_learnByDrum 36 = .ok (.iinc 5 1, 3) := by decide +kernel
theorem dX7_learnByDrum_39 : decode cX7_learnByDrum 39 = .ok (.goto (-36), 3) := by decide +kernel
theorem dX7_learnByDrum_42 : decode cX7_learnByDrum 42 = .ok (.aload_n 0, 1) := by decide +kernel
theorem dX7_learnByDrum_43 : decode cX7_learnByDrum 43 = .ok (.aload_n 1, 1) := by decide +kernel
theorem dX7_learnByDrum_44 : decode cX7_learnByDrum 44 = .ok (.iload 4, 2) := by decide +kernel
theorem dX7_learnByDrum_46 : decode cX7_learnByDrum 46 = .ok (.invokevirtual 46, 3) := by decide +kernel
theorem dX7_learnByDrum_49 : decode cX7_learnByDrum 49 = .ok (.return_, 1) := by decide +kernel
theorem dX7_learnInTruth_0 : decode cX7_learnInTruth 0 = .ok (.iconst 0, 1) := by decide +kernel
theorem dX7_learnInTruth_1 : decode cX7_learnInTruth 1 = .ok (.istore 4, 2) := by decide +kernel
theorem dX7_learnInTruth_3 : decode cX7_learnInTruth 3 = .ok (.iload 4, 2) := by decide +kernel
theorem dX7_learnInTruth_5 : decode cX7_learnInTruth 5 = .ok (.aload_n 1, 1) := by decide +kernel
theorem dX7_learnInTruth_6 : decode cX7_learnInTruth 6 = .ok (.getfield 23, 3) := by decide +kernel
theorem dX7_learnInTruth_9 : decode cX7_learnInTruth 9 = .ok (.if_icmp .ge 31, 3) := by decide +kernel
theorem dX7_learnInTruth_12 : decode cX7_learnInTruth 12 = .ok (.aload_n 0, 1) := by decide +kernel
theorem dX7_learnInTruth_13 : decode cX7_learnInTruth 13 = .ok (.getfield 14, 3) := by decide +kernel
theorem dX7_learnInTruth_16 : decode cX7_learnInTruth 16 = .ok (.iload 4, 2) := by decide +kernel
theorem dX7_learnInTruth_18 : decode cX7_learnInTruth 18 = .ok (.aload_n 1, 1) := by decide +kernel
theorem dX7_learnInTruth_19 : decode cX7_learnInTruth 19 = .ok (.getfield 50, 3) := by decide +kernel
theorem dX7_learnInTruth_22 : decode cX7_learnInTruth 22 = .ok (.iload 4, 2) := by decide +kernel
theorem dX7_learnInTruth_24 : decode cX7_learnInTruth 24 = .ok (.invokevirtual 53, 3) := by decide +kernel
theorem dX7_learnInTruth_27 : decode cX7_learnInTruth 27 = .ok (.iload_n 2, 1) := by decide +kernel
theorem dX7_learnInTruth_28 : decode cX7_learnInTruth 28 = .ok (.invokestatic 38, 3) := by decide +kernel
theorem dX7_learnInTruth_31 : decode cX7_learnInTruth 31 = .ok (.invokevirtual 42, 3) := by decide +kernel
theorem dX7_learnInTruth_34 : decode cX7_learnInTruth 34 = .ok (.iinc 4 1, 3) := by decide +kernel
theorem dX7_learnInTruth_37 : decode cX7_learnInTruth 37 = .ok (.goto (-34), 3) := by decide +kernel
theorem dX7_learnInTruth_40 : decode cX7_learnInTruth 40 = .ok (.aload_n 0, 1) := by decide +kernel
theorem dX7_learnInTruth_41 : decode cX7_learnInTruth 41 = .ok (.aload_n 1, 1) := by decide +kernel
theorem dX7_learnInTruth_42 : decode cX7_learnInTruth 42 = .ok (.iload_n 3, 1) := by decide +kernel
theorem dX7_learnInTruth_43 : decode cX7_learnInTruth 43 = .ok (.invokevirtual 46, 3) := by decide +kernel
theorem dX7_learnInTruth_46 : decode cX7_learnInTruth 46 = .ok (.return_, 1) := by decide +kernel
theorem dX7_measure_0 : decode cX7_measure 0 = .ok (.aload_n 0, 1) := by decide +kernel
theorem dX7_measure_1 : decode cX7_measure 1 = .ok (.getfield 20, 3) := by decide +kernel
theorem dX7_measure_4 : decode cX7_measure 4 = .ok (.ldc 57, 2) := by decide +kernel
theorem dX7_measure_6 : decode cX7_measure 6 = .ok (.invokevirtual 58, 3) := by decide +kernel
theorem dX7_measure_9 : decode cX7_measure 9 = .ok (.aload_n 0, 1) := by decide +kernel
theorem dX7_measure_10 : decode cX7_measure 10 = .ok (.getfield 20, 3) := by decide +kernel
theorem dX7_measure_13 : decode cX7_measure 13 = .ok (.iload_n 2, 1) := by decide +kernel
theorem dX7_measure_14 : decode cX7_measure 14 = .ok (.iconst 0, 1) := by decide +kernel
theorem dX7_measure_15 : decode cX7_measure 15 = .ok (.invokevirtual 42, 3) := by decide +kernel
theorem dX7_measure_18 : decode cX7_measure 18 = .ok (.iconst 1, 1) := by decide +kernel
theorem dX7_measure_19 : decode cX7_measure 19 = .ok (.istore_n 3, 1) := by decide +kernel
theorem dX7_measure_20 : decode cX7_measure 20 = .ok (.iconst 0, 1) := by decide +kernel
theorem dX7_measure_21 : decode cX7_measure 21 = .ok (.istore 4, 2) := by decide +kernel
theorem dX7_measure_23 : decode cX7_measure 23 = .ok (.iload 4, 2) := by decide +kernel
theorem dX7_measure_25 : decode cX7_measure 25 = .ok (.bipush 36, 2) := by decide +kernel
theorem dX7_measure_27 : decode cX7_measure 27 = .ok (.if_icmp .ge 96, 3) := by decide +kernel
theorem dX7_measure_30 : decode cX7_measure 30 = .ok (.iload_n 3, 1) := by decide +kernel
theorem dX7_measure_31 : decode cX7_measure 31 = .ok (.ifCond .eq 92, 3) := by decide +kernel
theorem dX7_measure_34 : decode cX7_measure 34 = .ok (.iconst 0, 1) := by decide +kernel
theorem dX7_measure_35 : decode cX7_measure 35 = .ok (.istore_n 3, 1) := by decide +kernel
theorem dX7_measure_36 : decode cX7_measure 36 = .ok (.iconst 0, 1) := by decide +kernel
theorem dX7_measure_37 : decode cX7_measure 37 = .ok (.istore 5, 2) := by decide +kernel
theorem dX7_measure_39 : decode cX7_measure 39 = .ok (.iload 5, 2) := by decide +kernel
theorem dX7_measure_41 : decode cX7_measure 41 = .ok (.aload_n 1, 1) := by decide +kernel
theorem dX7_measure_42 : decode cX7_measure 42 = .ok (.getfield 23, 3) := by decide +kernel
theorem dX7_measure_45 : decode cX7_measure 45 = .ok (.if_icmp .ge 72, 3) := by decide +kernel
theorem dX7_measure_48 : decode cX7_measure 48 = .ok (.iload 4, 2) := by decide +kernel
theorem dX7_measure_50 : decode cX7_measure 50 = .ok (.iconst 2, 1) := by decide +kernel
theorem dX7_measure_51 : decode cX7_measure 51 = .ok (.irem, 1) := by decide +kernel
theorem dX7_measure_52 : decode cX7_measure 52 = .ok (.ifCond .ne 15, 3) := by decide +kernel
theorem dX7_measure_55 : decode cX7_measure 55 = .ok (.aload_n 1, 1) := by decide +kernel
theorem dX7_measure_56 : decode cX7_measure 56 = .ok (.getfield 23, 3) := by decide +kernel
theorem dX7_measure_59 : decode cX7_measure 59 = .ok (.iconst 1, 1) := by decide +kernel
theorem dX7_measure_60 : decode cX7_measure 60 = .ok (.isub, 1) := by decide +kernel
theorem dX7_measure_61 : decode cX7_measure 61 = .ok (.iload 5, 2) := by decide +kernel
theorem dX7_measure_63 : decode cX7_measure 63 = .ok (.isub, 1) := by decide +kernel
theorem dX7_measure_64 : decode cX7_measure 64 = .ok (.goto 5, 3) := by decide +kernel
theorem dX7_measure_67 : decode cX7_measure 67 = .ok (.iload 5, 2) := by decide +kernel
theorem dX7_measure_69 : decode cX7_measure 69 = .ok (.istore 6, 2) := by decide +kernel
theorem dX7_measure_71 : decode cX7_measure 71 = .ok (.aload_n 0, 1) := by decide +kernel
theorem dX7_measure_72 : decode cX7_measure 72 = .ok (.aload_n 0, 1) := by decide +kernel
theorem dX7_measure_73 : decode cX7_measure 73 = .ok (.aload_n 1, 1) := by decide +kernel
theorem dX7_measure_74 : decode cX7_measure 74 = .ok (.iload 6, 2) := by decide +kernel
theorem dX7_measure_76 : decode cX7_measure 76 = .ok (.invokevirtual 61, 3) := by decide +kernel
theorem dX7_measure_79 : decode cX7_measure 79 = .ok (.invokevirtual 65, 3) := by decide +kernel
theorem dX7_measure_82 : decode cX7_measure 82 = .ok (.istore 7, 2) := by decide +kernel
theorem dX7_measure_84 : decode cX7_measure 84 = .ok (.iload 7, 2) := by decide +kernel
theorem dX7_measure_86 : decode cX7_measure 86 = .ok (.aload_n 0, 1) := by decide +kernel
theorem dX7_measure_87 : decode cX7_measure 87 = .ok (.getfield 20, 3) := by decide +kernel
theorem dX7_measure_90 : decode cX7_measure 90 = .ok (.iload 6, 2) := by decide +kernel
theorem dX7_measure_92 : decode cX7_measure 92 = .ok (.invokevirtual 53, 3) := by decide +kernel
theorem dX7_measure_95 : decode cX7_measure 95 = .ok (.if_icmp .ge 16, 3) := by decide +kernel
theorem dX7_measure_98 : decode cX7_measure 98 = .ok (.aload_n 0, 1) := by decide +kernel
theorem dX7_measure_99 : decode cX7_measure 99 = .ok (.getfield 20, 3) := by decide +kernel
theorem dX7_measure_102 : decode cX7_measure 102 = .ok (.iload 6, 2) := by decide +kernel
theorem dX7_measure_104 : decode cX7_measure 104 = .ok (.iload 7, 2) := by decide +kernel
theorem dX7_measure_106 : decode cX7_measure 106 = .ok (.invokevirtual 42, 3) := by decide +kernel
theorem dX7_measure_109 : decode cX7_measure 109 = .ok (.iconst 1, 1) := by decide +kernel
theorem dX7_measure_110 : decode cX7_measure 110 = .ok (.istore_n 3, 1) := by decide +kernel
theorem dX7_measure_111 : decode cX7_measure 111 = .ok (.iinc 5 1, 3) := by decide +kernel
theorem dX7_measure_114 : decode cX7_measure 114 = .ok (.goto (-75), 3) := by decide +kernel
theorem dX7_measure_117 : decode cX7_measure 117 = .ok (.iinc 4 1, 3) := by decide +kernel
theorem dX7_measure_120 : decode cX7_measure 120 = .ok (.goto (-97), 3) := by decide +kernel
theorem dX7_measure_123 : decode cX7_measure 123 = .ok (.return_, 1) := by decide +kernel
theorem dX7_hoursOver_0 : decode cX7_hoursOver 0 = .ok (.iload_n 1, 1) := by decide +kernel
theorem dX7_hoursOver_1 : decode cX7_hoursOver 1 = .ok (.bipush (-4), 2) := by decide +kernel
theorem dX7_hoursOver_3 : decode cX7_hoursOver 3 = .ok (.if_icmp .ne 8, 3) := by decide +kernel
theorem dX7_hoursOver_6 : decode cX7_hoursOver 6 = .ok (.ldc 57, 2) := by decide +kernel
theorem dX7_hoursOver_8 : decode cX7_hoursOver 8 = .ok (.goto 20, 3) := by decide +kernel
theorem dX7_hoursOver_11 : decode cX7_hoursOver 11 = .ok (.aload_n 0, 1) := by decide +kernel
theorem dX7_hoursOver_12 : decode cX7_hoursOver 12 = .ok (.getfield 14, 3) := by decide +kernel
theorem dX7_hoursOver_15 : decode cX7_hoursOver 15 = .ok (.iload_n 1, 1) := by decide +kernel
theorem dX7_hoursOver_16 : decode cX7_hoursOver 16 = .ok (.invokevirtual 53, 3) := by decide +kernel
theorem dX7_hoursOver_19 : decode cX7_hoursOver 19 = .ok (.aload_n 0, 1) := by decide +kernel
theorem dX7_hoursOver_20 : decode cX7_hoursOver 20 = .ok (.getfield 20, 3) := by decide +kernel
theorem dX7_hoursOver_23 : decode cX7_hoursOver 23 = .ok (.iload_n 1, 1) := by decide +kernel
theorem dX7_hoursOver_24 : decode cX7_hoursOver 24 = .ok (.invokevirtual 53, 3) := by decide +kernel
theorem dX7_hoursOver_27 : decode cX7_hoursOver 27 = .ok (.iadd, 1) := by decide +kernel
theorem dX7_hoursOver_28 : decode cX7_hoursOver 28 = .ok (.ireturn, 1) := by decide +kernel
theorem dX7_firstOf_0 : decode cX7_firstOf 0 = .ok (.bipush (-4), 2) := by decide +kernel
theorem dX7_firstOf_2 : decode cX7_firstOf 2 = .ok (.istore_n 3, 1) := by decide +kernel
theorem dX7_firstOf_3 : decode cX7_firstOf 3 = .ok (.ldc 57, 2) := by decide +kernel
theorem dX7_firstOf_5 : decode cX7_firstOf 5 = .ok (.istore 4, 2) := by decide +kernel
theorem dX7_firstOf_7 : decode cX7_firstOf 7 = .ok (.iconst 0, 1) := by decide +kernel
theorem dX7_firstOf_8 : decode cX7_firstOf 8 = .ok (.istore 5, 2) := by decide +kernel
theorem dX7_firstOf_10 : decode cX7_firstOf 10 = .ok (.iload 5, 2) := by decide +kernel
theorem dX7_firstOf_12 : decode cX7_firstOf 12 = .ok (.iconst 4, 1) := by decide +kernel
theorem dX7_firstOf_13 : decode cX7_firstOf 13 = .ok (.if_icmp .ge 71, 3) := by decide +kernel
theorem dX7_firstOf_16 : decode cX7_firstOf 16 = .ok (.aload_n 1, 1) := by decide +kernel
theorem dX7_firstOf_17 : decode cX7_firstOf 17 = .ok (.getfield 68, 3) := by decide +kernel
theorem dX7_firstOf_20 : decode cX7_firstOf 20 = .ok (.iload_n 2, 1) := by decide +kernel
theorem dX7_firstOf_21 : decode cX7_firstOf 21 = .ok (.iconst 4, 1) := by decide +kernel
theorem dX7_firstOf_22 : decode cX7_firstOf 22 = .ok (.imul, 1) := by decide +kernel
theorem dX7_firstOf_23 : decode cX7_firstOf 23 = .ok (.iload 5, 2) := by decide +kernel
theorem dX7_firstOf_25 : decode cX7_firstOf 25 = .ok (.iadd, 1) := by decide +kernel
theorem dX7_firstOf_26 : decode cX7_firstOf 26 = .ok (.invokevirtual 53, 3) := by decide +kernel
theorem dX7_firstOf_29 : decode cX7_firstOf 29 = .ok (.istore 6, 2) := by decide +kernel
theorem dX7_firstOf_31 : decode cX7_firstOf 31 = .ok (.iload 6, 2) := by decide +kernel
theorem dX7_firstOf_33 : decode cX7_firstOf 33 = .ok (.bipush (-4), 2) := by decide +kernel
theorem dX7_firstOf_35 : decode cX7_firstOf 35 = .ok (.if_icmp .ne 8, 3) := by decide +kernel
theorem dX7_firstOf_38 : decode cX7_firstOf 38 = .ok (.ldc 57, 2) := by decide +kernel
theorem dX7_firstOf_40 : decode cX7_firstOf 40 = .ok (.goto 22, 3) := by decide +kernel
theorem dX7_firstOf_43 : decode cX7_firstOf 43 = .ok (.aload_n 0, 1) := by decide +kernel
theorem dX7_firstOf_44 : decode cX7_firstOf 44 = .ok (.getfield 14, 3) := by decide +kernel
theorem dX7_firstOf_47 : decode cX7_firstOf 47 = .ok (.iload 6, 2) := by decide +kernel
theorem dX7_firstOf_49 : decode cX7_firstOf 49 = .ok (.invokevirtual 53, 3) := by decide +kernel
theorem dX7_firstOf_52 : decode cX7_firstOf 52 = .ok (.aload_n 0, 1) := by decide +kernel
theorem dX7_firstOf_53 : decode cX7_firstOf 53 = .ok (.getfield 20, 3) := by decide +kernel
theorem dX7_firstOf_56 : decode cX7_firstOf 56 = .ok (.iload 6, 2) := by decide +kernel
theorem dX7_firstOf_58 : decode cX7_firstOf 58 = .ok (.invokevirtual 53, 3) := by decide +kernel
theorem dX7_firstOf_61 : decode cX7_firstOf 61 = .ok (.iadd, 1) := by decide +kernel
theorem dX7_firstOf_62 : decode cX7_firstOf 62 = .ok (.istore 7, 2) := by decide +kernel
theorem dX7_firstOf_64 : decode cX7_firstOf 64 = .ok (.iload 7, 2) := by decide +kernel
theorem dX7_firstOf_66 : decode cX7_firstOf 66 = .ok (.iload 4, 2) := by decide +kernel
theorem dX7_firstOf_68 : decode cX7_firstOf 68 = .ok (.if_icmp .ge 10, 3) := by decide +kernel
theorem dX7_firstOf_71 : decode cX7_firstOf 71 = .ok (.iload 7, 2) := by decide +kernel
theorem dX7_firstOf_73 : decode cX7_firstOf 73 = .ok (.istore 4, 2) := by decide +kernel
theorem dX7_firstOf_75 : decode cX7_firstOf 75 = .ok (.iload 6, 2) := by decide +kernel
theorem dX7_firstOf_77 : decode cX7_firstOf 77 = .ok (.istore_n 3, 1) := by decide +kernel
theorem dX7_firstOf_78 : decode cX7_firstOf 78 = .ok (.iinc 5 1, 3) := by decide +kernel
theorem dX7_firstOf_81 : decode cX7_firstOf 81 = .ok (.goto (-71), 3) := by decide +kernel
theorem dX7_firstOf_84 : decode cX7_firstOf 84 = .ok (.iload_n 3, 1) := by decide +kernel
theorem dX7_firstOf_85 : decode cX7_firstOf 85 = .ok (.ireturn, 1) := by decide +kernel
theorem dX7_hoursFrom_0 : decode cX7_hoursFrom 0 = .ok (.aload_n 0, 1) := by decide +kernel
theorem dX7_hoursFrom_1 : decode cX7_hoursFrom 1 = .ok (.getfield 20, 3) := by decide +kernel
theorem dX7_hoursFrom_4 : decode cX7_hoursFrom 4 = .ok (.iload_n 1, 1) := by decide +kernel
theorem dX7_hoursFrom_5 : decode cX7_hoursFrom 5 = .ok (.invokevirtual 53, 3) := by decide +kernel
theorem dX7_hoursFrom_8 : decode cX7_hoursFrom 8 = .ok (.ldc 57, 2) := by decide +kernel
theorem dX7_hoursFrom_10 : decode cX7_hoursFrom 10 = .ok (.if_icmp .ge 14, 3) := by decide +kernel
theorem dX7_hoursFrom_13 : decode cX7_hoursFrom 13 = .ok (.aload_n 0, 1) := by decide +kernel
theorem dX7_hoursFrom_14 : decode cX7_hoursFrom 14 = .ok (.getfield 20, 3) := by decide +kernel
theorem dX7_hoursFrom_17 : decode cX7_hoursFrom 17 = .ok (.iload_n 1, 1) := by decide +kernel
theorem dX7_hoursFrom_18 : decode cX7_hoursFrom 18 = .ok (.invokevirtual 53, 3) := by decide +kernel
theorem dX7_hoursFrom_21 : decode cX7_hoursFrom 21 = .ok (.goto 5, 3) := by decide +kernel
theorem dX7_hoursFrom_24 : decode cX7_hoursFrom 24 = .ok (.bipush (-4), 2) := by decide +kernel
theorem dX7_hoursFrom_26 : decode cX7_hoursFrom 26 = .ok (.ireturn, 1) := by decide +kernel
theorem dX7_firstFrom_0 : decode cX7_firstFrom 0 = .ok (.aload_n 0, 1) := by decide +kernel
theorem dX7_firstFrom_1 : decode cX7_firstFrom 1 = .ok (.getfield 20, 3) := by decide +kernel
theorem dX7_firstFrom_4 : decode cX7_firstFrom 4 = .ok (.iload_n 2, 1) := by decide +kernel
theorem dX7_firstFrom_5 : decode cX7_firstFrom 5 = .ok (.invokevirtual 53, 3) := by decide +kernel
theorem dX7_firstFrom_8 : decode cX7_firstFrom 8 = .ok (.ifCond .ne 8, 3) := by decide +kernel
theorem dX7_firstFrom_11 : decode cX7_firstFrom 11 = .ok (.bipush (-4), 2) := by decide +kernel
theorem dX7_firstFrom_13 : decode cX7_firstFrom 13 = .ok (.goto 9, 3) := by decide +kernel
theorem dX7_firstFrom_16 : decode cX7_firstFrom 16 = .ok (.aload_n 0, 1) := by decide +kernel
theorem dX7_firstFrom_17 : decode cX7_firstFrom 17 = .ok (.aload_n 1, 1) := by decide +kernel
theorem dX7_firstFrom_18 : decode cX7_firstFrom 18 = .ok (.iload_n 2, 1) := by decide +kernel
theorem dX7_firstFrom_19 : decode cX7_firstFrom 19 = .ok (.invokevirtual 61, 3) := by decide +kernel
theorem dX7_firstFrom_22 : decode cX7_firstFrom 22 = .ok (.ireturn, 1) := by decide +kernel
theorem dJ9_min_7cf53_0 : decode cJ9_min_7cf53 0 = .ok (.iload_n 0, 1) := by decide +kernel
theorem dJ9_min_7cf53_1 : decode cJ9_min_7cf53 1 = .ok (.iload_n 1, 1) := by decide +kernel
theorem dJ9_min_7cf53_2 : decode cJ9_min_7cf53 2 = .ok (.if_icmp .gt 7, 3) := by decide +kernel
theorem dJ9_min_7cf53_5 : decode cJ9_min_7cf53 5 = .ok (.iload_n 0, 1) := by decide +kernel
theorem dJ9_min_7cf53_6 : decode cJ9_min_7cf53 6 = .ok (.goto 4, 3) := by decide +kernel
theorem dJ9_min_7cf53_9 : decode cJ9_min_7cf53 9 = .ok (.iload_n 1, 1) := by decide +kernel
theorem dJ9_min_7cf53_10 : decode cJ9_min_7cf53 10 = .ok (.ireturn, 1) := by decide +kernel
theorem dJ0_length_8abf5_0 : decode cJ0_length_8abf5 0 = .ok (.aload_n 0, 1) := by decide +kernel
theorem dJ0_length_8abf5_1 : decode cJ0_length_8abf5 1 = .ok (.getfield 9, 3) := by decide +kernel
theorem dJ0_length_8abf5_4 : decode cJ0_length_8abf5 4 = .ok (.arraylength, 1) := by decide +kernel
theorem dJ0_length_8abf5_5 : decode cJ0_length_8abf5 5 = .ok (.aload_n 0, 1) := by decide +kernel
theorem dJ0_length_8abf5_6 : decode cJ0_length_8abf5 6 = .ok (.invokevirtual 335, 3) := by decide +kernel
theorem dJ0_length_8abf5_9 : decode cJ0_length_8abf5 9 = .ok (.ishr, 1) := by decide +kernel
theorem dJ0_length_8abf5_10 : decode cJ0_length_8abf5 10 = .ok (.ireturn, 1) := by decide +kernel
theorem dJ0_charAt_5068e_0 : decode cJ0_charAt_5068e 0 = .ok (.aload_n 0, 1) := by decide +kernel
theorem dJ0_charAt_5068e_1 : decode cJ0_charAt_5068e 1 = .ok (.invokevirtual 492, 3) := by decide +kernel
theorem dJ0_charAt_5068e_4 : decode cJ0_charAt_5068e 4 = .ok (.ifCond .eq 12, 3) := by decide +kernel
theorem dJ0_charAt_5068e_7 : decode cJ0_charAt_5068e 7 = .ok (.aload_n 0, 1) := by decide +kernel
theorem dJ0_charAt_5068e_8 : decode cJ0_charAt_5068e 8 = .ok (.getfield 9, 3) := by decide +kernel
theorem dJ0_charAt_5068e_11 : decode cJ0_charAt_5068e 11 = .ok (.iload_n 1, 1) := by decide +kernel
theorem dJ0_charAt_5068e_12 : decode cJ0_charAt_5068e 12 = .ok (.invokestatic 495, 3) := by decide +kernel
theorem dJ0_charAt_5068e_15 : decode cJ0_charAt_5068e 15 = .ok (.ireturn, 1) := by decide +kernel
theorem dJ0_charAt_5068e_16 : decode cJ0_charAt_5068e 16 = .ok (.aload_n 0, 1) := by decide +kernel
theorem dJ0_charAt_5068e_17 : decode cJ0_charAt_5068e 17 = .ok (.getfield 9, 3) := by decide +kernel
theorem dJ0_charAt_5068e_20 : decode cJ0_charAt_5068e 20 = .ok (.iload_n 1, 1) := by decide +kernel
theorem dJ0_charAt_5068e_21 : decode cJ0_charAt_5068e 21 = .ok (.invokestatic 498, 3) := by decide +kernel
theorem dJ0_charAt_5068e_24 : decode cJ0_charAt_5068e 24 = .ok (.ireturn, 1) := by decide +kernel
theorem dJ0_coder_7d493_0 : decode cJ0_coder_7d493 0 = .ok (.getstatic 38, 3) := by decide +kernel
theorem dJ0_coder_7d493_3 : decode cJ0_coder_7d493 3 = .ok (.ifCond .eq 10, 3) := by decide +kernel
theorem dJ0_coder_7d493_6 : decode cJ0_coder_7d493 6 = .ok (.aload_n 0, 1) := by decide +kernel
theorem dJ0_coder_7d493_7 : decode cJ0_coder_7d493 7 = .ok (.getfield 15, 3) := by decide +kernel
theorem dJ0_coder_7d493_10 : decode cJ0_coder_7d493 10 = .ok (.goto 4, 3) := by decide +kernel
theorem dJ0_coder_7d493_13 : decode cJ0_coder_7d493 13 = .ok (.iconst 1, 1) := by decide +kernel
theorem dJ0_coder_7d493_14 : decode cJ0_coder_7d493 14 = .ok (.ireturn, 1) := by decide +kernel
theorem dJ0_isLatin1_aae02_0 : decode cJ0_isLatin1_aae02 0 = .ok (.getstatic 38, 3) := by decide +kernel
theorem dJ0_isLatin1_aae02_3 : decode cJ0_isLatin1_aae02 3 = .ok (.ifCond .eq 14, 3) := by decide +kernel
theorem dJ0_isLatin1_aae02_6 : decode cJ0_isLatin1_aae02 6 = .ok (.aload_n 0, 1) := by decide +kernel
theorem dJ0_isLatin1_aae02_7 : decode cJ0_isLatin1_aae02 7 = .ok (.getfield 15, 3) := by decide +kernel
theorem dJ0_isLatin1_aae02_10 : decode cJ0_isLatin1_aae02 10 = .ok (.ifCond .ne 7, 3) := by decide +kernel
theorem dJ0_isLatin1_aae02_13 : decode cJ0_isLatin1_aae02 13 = .ok (.iconst 1, 1) := by decide +kernel
theorem dJ0_isLatin1_aae02_14 : decode cJ0_isLatin1_aae02 14 = .ok (.goto 4, 3) := by decide +kernel
theorem dJ0_isLatin1_aae02_17 : decode cJ0_isLatin1_aae02 17 = .ok (.iconst 0, 1) := by decide +kernel
theorem dJ0_isLatin1_aae02_18 : decode cJ0_isLatin1_aae02 18 = .ok (.ireturn, 1) := by decide +kernel
theorem dJ0_checkIndex_df160_0 : decode cJ0_checkIndex_df160 0 = .ok (.iload_n 0, 1) := by decide +kernel
theorem dJ0_checkIndex_df160_1 : decode cJ0_checkIndex_df160 1 = .ok (.iload_n 1, 1) := by decide +kernel
theorem dJ0_checkIndex_df160_2 : decode cJ0_checkIndex_df160 2 = .ok (.getstatic 1053, 3) := by decide +kernel
theorem dJ0_checkIndex_df160_5 : decode cJ0_checkIndex_df160 5 = .ok (.invokestatic 1059, 3) := by decide +kernel
theorem dJ0_checkIndex_df160_8 : decode cJ0_checkIndex_df160 8 = .ok (.pop, 1) := by decide +kernel
theorem dJ0_checkIndex_df160_9 : decode cJ0_checkIndex_df160 9 = .ok (.return_, 1) := by decide +kernel
theorem dJ1_charAt_3b067_0 : decode cJ1_charAt_3b067 0 = .ok (.iload_n 1, 1) := by decide +kernel
theorem dJ1_charAt_3b067_1 : decode cJ1_charAt_3b067 1 = .ok (.aload_n 0, 1) := by decide +kernel
theorem dJ1_charAt_3b067_2 : decode cJ1_charAt_3b067 2 = .ok (.arraylength, 1) := by decide +kernel
theorem dJ1_charAt_3b067_3 : decode cJ1_charAt_3b067 3 = .ok (.invokestatic 9, 3) := by decide +kernel
theorem dJ1_charAt_3b067_6 : decode cJ1_charAt_3b067 6 = .ok (.aload_n 0, 1) := by decide +kernel
theorem dJ1_charAt_3b067_7 : decode cJ1_charAt_3b067 7 = .ok (.iload_n 1, 1) := by decide +kernel
theorem dJ1_charAt_3b067_8 : decode cJ1_charAt_3b067 8 = .ok (.baload, 1) := by decide +kernel
theorem dJ1_charAt_3b067_9 : decode cJ1_charAt_3b067 9 = .ok (.sipush 255, 3) := by decide +kernel
theorem dJ1_charAt_3b067_12 : decode cJ1_charAt_3b067 12 = .ok (.iand, 1) := by decide +kernel
theorem dJ1_charAt_3b067_13 : decode cJ1_charAt_3b067 13 = .ok (.i2c, 1) := by decide +kernel
theorem dJ1_charAt_3b067_14 : decode cJ1_charAt_3b067 14 = .ok (.ireturn, 1) := by decide +kernel
theorem dJ2_getChar_3b067_0 : decode cJ2_getChar_3b067 0 = .ok (.getstatic 44, 3) := by decide +kernel
theorem dJ2_getChar_3b067_3 : decode cJ2_getChar_3b067 3 = .ok (.ifCond .ne 25, 3) := by decide +kernel
theorem dJ2_getChar_3b067_6 : decode cJ2_getChar_3b067 6 = .ok (.iload_n 1, 1) := by decide +kernel
theorem dJ2_getChar_3b067_7 : decode cJ2_getChar_3b067 7 = .ok (.ifCond .lt 11, 3) := by decide +kernel
theorem dJ2_getChar_3b067_10 : decode cJ2_getChar_3b067 10 = .ok (.iload_n 1, 1) := by decide +kernel
theorem dJ2_getChar_3b067_11 : decode cJ2_getChar_3b067 11 = .ok (.aload_n 0, 1) := by decide +kernel
theorem dJ2_getChar_3b067_12 : decode cJ2_getChar_3b067 12 = .ok (.invokestatic 48, 3) := by decide +kernel
theorem dJ2_getChar_3b067_15 : decode cJ2_getChar_3b067 15 = .ok (.if_icmp .lt 13, 3) := by decide +kernel
theorem dJ2_getChar_3b067_18 : decode cJ2_getChar_3b067 18 = .ok (.new 52, 3) := by decide +kernel
theorem dJ2_getChar_3b067_21 : decode cJ2_getChar_3b067 21 = .ok (.dup, 1) := by decide +kernel
theorem dJ2_getChar_3b067_22 : decode cJ2_getChar_3b067 22 = .ok (.ldc 54, 2) := by decide +kernel
theorem dJ2_getChar_3b067_24 : decode cJ2_getChar_3b067 24 = .ok (.invokespecial 56, 3) := by decide +kernel
theorem dJ2_getChar_3b067_27 : decode cJ2_getChar_3b067 27 = .ok (.athrow, 1) := by decide +kernel
theorem dJ2_getChar_3b067_28 : decode cJ2_getChar_3b067 28 = .ok (.iload_n 1, 1) := by decide +kernel
theorem dJ2_getChar_3b067_29 : decode cJ2_getChar_3b067 29 = .ok (.iconst 1, 1) := by decide +kernel
theorem dJ2_getChar_3b067_30 : decode cJ2_getChar_3b067 30 = .ok (.ishl, 1) := by decide +kernel
theorem dJ2_getChar_3b067_31 : decode cJ2_getChar_3b067 31 = .ok (.istore_n 1, 1) := by decide +kernel
theorem dJ2_getChar_3b067_32 : decode cJ2_getChar_3b067 32 = .ok (.aload_n 0, 1) := by decide +kernel
theorem dJ2_getChar_3b067_33 : decode cJ2_getChar_3b067 33 = .ok (.iload_n 1, 1) := by decide +kernel
theorem dJ2_getChar_3b067_34 : decode cJ2_getChar_3b067 34 = .ok (.iinc 1 1, 3) := by decide +kernel
theorem dJ2_getChar_3b067_37 : decode cJ2_getChar_3b067 37 = .ok (.baload, 1) := by decide +kernel
theorem dJ2_getChar_3b067_38 : decode cJ2_getChar_3b067 38 = .ok (.sipush 255, 3) := by decide +kernel
theorem dJ2_getChar_3b067_41 : decode cJ2_getChar_3b067 41 = .ok (.iand, 1) := by decide +kernel
theorem dJ2_getChar_3b067_42 : decode cJ2_getChar_3b067 42 = .ok (.getstatic 59, 3) := by decide +kernel
theorem dJ2_getChar_3b067_45 : decode cJ2_getChar_3b067 45 = .ok (.ishl, 1) := by decide +kernel
theorem dJ2_getChar_3b067_46 : decode cJ2_getChar_3b067 46 = .ok (.aload_n 0, 1) := by decide +kernel
theorem dJ2_getChar_3b067_47 : decode cJ2_getChar_3b067 47 = .ok (.iload_n 1, 1) := by decide +kernel
theorem dJ2_getChar_3b067_48 : decode cJ2_getChar_3b067 48 = .ok (.baload, 1) := by decide +kernel
theorem dJ2_getChar_3b067_49 : decode cJ2_getChar_3b067 49 = .ok (.sipush 255, 3) := by decide +kernel
theorem dJ2_getChar_3b067_52 : decode cJ2_getChar_3b067 52 = .ok (.iand, 1) := by decide +kernel
theorem dJ2_getChar_3b067_53 : decode cJ2_getChar_3b067 53 = .ok (.getstatic 63, 3) := by decide +kernel
theorem dJ2_getChar_3b067_56 : decode cJ2_getChar_3b067 56 = .ok (.ishl, 1) := by decide +kernel
theorem dJ2_getChar_3b067_57 : decode cJ2_getChar_3b067 57 = .ok (.ior, 1) := by decide +kernel
theorem dJ2_getChar_3b067_58 : decode cJ2_getChar_3b067 58 = .ok (.i2c, 1) := by decide +kernel
theorem dJ2_getChar_3b067_59 : decode cJ2_getChar_3b067 59 = .ok (.ireturn, 1) := by decide +kernel
theorem dJ2_length_9d52b_0 : decode cJ2_length_9d52b 0 = .ok (.aload_n 0, 1) := by decide +kernel
theorem dJ2_length_9d52b_1 : decode cJ2_length_9d52b 1 = .ok (.arraylength, 1) := by decide +kernel
theorem dJ2_length_9d52b_2 : decode cJ2_length_9d52b 2 = .ok (.iconst 1, 1) := by decide +kernel
theorem dJ2_length_9d52b_3 : decode cJ2_length_9d52b 3 = .ok (.ishr, 1) := by decide +kernel
theorem dJ2_length_9d52b_4 : decode cJ2_length_9d52b 4 = .ok (.ireturn, 1) := by decide +kernel
theorem dJ2_charAt_3b067_0 : decode cJ2_charAt_3b067 0 = .ok (.iload_n 1, 1) := by decide +kernel
theorem dJ2_charAt_3b067_1 : decode cJ2_charAt_3b067 1 = .ok (.aload_n 0, 1) := by decide +kernel
theorem dJ2_charAt_3b067_2 : decode cJ2_charAt_3b067 2 = .ok (.invokestatic 67, 3) := by decide +kernel
theorem dJ2_charAt_3b067_5 : decode cJ2_charAt_3b067 5 = .ok (.aload_n 0, 1) := by decide +kernel
theorem dJ2_charAt_3b067_6 : decode cJ2_charAt_3b067 6 = .ok (.iload_n 1, 1) := by decide +kernel
theorem dJ2_charAt_3b067_7 : decode cJ2_charAt_3b067 7 = .ok (.invokestatic 71, 3) := by decide +kernel
theorem dJ2_charAt_3b067_10 : decode cJ2_charAt_3b067 10 = .ok (.ireturn, 1) := by decide +kernel
theorem dJ2_checkIndex_2214a_0 : decode cJ2_checkIndex_2214a 0 = .ok (.iload_n 0, 1) := by decide +kernel
theorem dJ2_checkIndex_2214a_1 : decode cJ2_checkIndex_2214a 1 = .ok (.aload_n 1, 1) := by decide +kernel
theorem dJ2_checkIndex_2214a_2 : decode cJ2_checkIndex_2214a 2 = .ok (.invokestatic 48, 3) := by decide +kernel
theorem dJ2_checkIndex_2214a_5 : decode cJ2_checkIndex_2214a 5 = .ok (.invokestatic 414, 3) := by decide +kernel
theorem dJ2_checkIndex_2214a_8 : decode cJ2_checkIndex_2214a 8 = .ok (.return_, 1) := by decide +kernel
theorem dJ3_checkIndex_8e157_0 : decode cJ3_checkIndex_8e157 0 = .ok (.iload_n 0, 1) := by decide +kernel
theorem dJ3_checkIndex_8e157_1 : decode cJ3_checkIndex_8e157 1 = .ok (.ifCond .lt 8, 3) := by decide +kernel
theorem dJ3_checkIndex_8e157_4 : decode cJ3_checkIndex_8e157 4 = .ok (.iload_n 0, 1) := by decide +kernel
theorem dJ3_checkIndex_8e157_5 : decode cJ3_checkIndex_8e157 5 = .ok (.iload_n 1, 1) := by decide +kernel
theorem dJ3_checkIndex_8e157_6 : decode cJ3_checkIndex_8e157 6 = .ok (.if_icmp .lt 10, 3) := by decide +kernel
theorem dJ3_checkIndex_8e157_9 : decode cJ3_checkIndex_8e157 9 = .ok (.aload_n 2, 1) := by decide +kernel
theorem dJ3_checkIndex_8e157_10 : decode cJ3_checkIndex_8e157 10 = .ok (.iload_n 0, 1) := by decide +kernel
theorem dJ3_checkIndex_8e157_11 : decode cJ3_checkIndex_8e157 11 = .ok (.iload_n 1, 1) := by decide +kernel
theorem dJ3_checkIndex_8e157_12 : decode cJ3_checkIndex_8e157 12 = .ok (.invokestatic 95, 3) := by decide +kernel
theorem dJ3_checkIndex_8e157_15 : decode cJ3_checkIndex_8e157 15 = .ok (.athrow, 1) := by decide +kernel
theorem dJ3_checkIndex_8e157_16 : decode cJ3_checkIndex_8e157 16 = .ok (.iload_n 0, 1) := by decide +kernel
theorem dJ3_checkIndex_8e157_17 : decode cJ3_checkIndex_8e157 17 = .ok (.ireturn, 1) := by decide +kernel
