theorem dX0_init_0 : decode cX0_init 0 = .ok (.aload_n 0, 1) := by decide +kernel
theorem dX0_init_1 : decode cX0_init 1 = .ok (.invokespecial 3, 3) := by decide +kernel
theorem dX0_init_4 : decode cX0_init 4 = .ok (.aload_n 0, 1) := by decide +kernel
theorem dX0_init_5 : decode cX0_init 5 = .ok (.bipush 12, 2) := by decide +kernel
theorem dX0_init_7 : decode cX0_init 7 = .ok (.newarray .int, 2) := by decide +kernel
theorem dX0_init_9 : decode cX0_init 9 = .ok (.putfield 9, 3) := by decide +kernel
theorem dX0_init_12 : decode cX0_init 12 = .ok (.aload_n 0, 1) := by decide +kernel
theorem dX0_init_13 : decode cX0_init 13 = .ok (.bipush 12, 2) := by decide +kernel
theorem dX0_init_15 : decode cX0_init 15 = .ok (.newarray .int, 2) := by decide +kernel
theorem dX0_init_17 : decode cX0_init 17 = .ok (.putfield 15, 3) := by decide +kernel
theorem dX0_init_20 : decode cX0_init 20 = .ok (.aload_n 0, 1) := by decide +kernel
theorem dX0_init_21 : decode cX0_init 21 = .ok (.iconst 4, 1) := by decide +kernel
theorem dX0_init_22 : decode cX0_init 22 = .ok (.newarray .int, 2) := by decide +kernel
theorem dX0_init_24 : decode cX0_init 24 = .ok (.putfield 18, 3) := by decide +kernel
theorem dX0_init_27 : decode cX0_init 27 = .ok (.aload_n 0, 1) := by decide +kernel
theorem dX0_init_28 : decode cX0_init 28 = .ok (.iconst 4, 1) := by decide +kernel
theorem dX0_init_29 : decode cX0_init 29 = .ok (.newarray .int, 2) := by decide +kernel
theorem dX0_init_31 : decode cX0_init 31 = .ok (.putfield 21, 3) := by decide +kernel
theorem dX0_init_34 : decode cX0_init 34 = .ok (.aload_n 0, 1) := by decide +kernel
theorem dX0_init_35 : decode cX0_init 35 = .ok (.bipush 16, 2) := by decide +kernel
theorem dX0_init_37 : decode cX0_init 37 = .ok (.newarray .int, 2) := by decide +kernel
theorem dX0_init_39 : decode cX0_init 39 = .ok (.putfield 24, 3) := by decide +kernel
theorem dX0_init_42 : decode cX0_init 42 = .ok (.aload_n 0, 1) := by decide +kernel
theorem dX0_init_43 : decode cX0_init 43 = .ok (.bipush 16, 2) := by decide +kernel
theorem dX0_init_45 : decode cX0_init 45 = .ok (.newarray .int, 2) := by decide +kernel
theorem dX0_init_47 : decode cX0_init 47 = .ok (.putfield 27, 3) := by decide +kernel
theorem dX0_init_50 : decode cX0_init 50 = .ok (.aload_n 0, 1) := by decide +kernel
theorem dX0_init_51 : decode cX0_init 51 = .ok (.bipush 16, 2) := by decide +kernel
theorem dX0_init_53 : decode cX0_init 53 = .ok (.newarray .int, 2) := by decide +kernel
theorem dX0_init_55 : decode cX0_init 55 = .ok (.putfield 30, 3) := by decide +kernel
theorem dX0_init_58 : decode cX0_init 58 = .ok (.aload_n 0, 1) := by decide +kernel
theorem dX0_init_59 : decode cX0_init 59 = .ok (.bipush 16, 2) := by decide +kernel
theorem dX0_init_61 : decode cX0_init 61 = .ok (.newarray .int, 2) := by decide +kernel
theorem dX0_init_63 : decode cX0_init 63 = .ok (.putfield 33, 3) := by decide +kernel
theorem dX0_init_66 : decode cX0_init 66 = .ok (.aload_n 0, 1) := by decide +kernel
theorem dX0_init_67 : decode cX0_init 67 = .ok (.bipush 16, 2) := by decide +kernel
theorem dX0_init_69 : decode cX0_init 69 = .ok (.newarray .int, 2) := by decide +kernel
theorem dX0_init_71 : decode cX0_init 71 = .ok (.putfield 36, 3) := by decide +kernel
theorem dX0_init_74 : decode cX0_init 74 = .ok (.aload_n 0, 1) := by decide +kernel
theorem dX0_init_75 : decode cX0_init 75 = .ok (.bipush 16, 2) := by decide +kernel
theorem dX0_init_77 : decode cX0_init 77 = .ok (.newarray .int, 2) := by decide +kernel
theorem dX0_init_79 : decode cX0_init 79 = .ok (.putfield 39, 3) := by decide +kernel
theorem dX0_init_82 : decode cX0_init 82 = .ok (.aload_n 0, 1) := by decide +kernel
theorem dX0_init_83 : decode cX0_init 83 = .ok (.bipush 16, 2) := by decide +kernel
theorem dX0_init_85 : decode cX0_init 85 = .ok (.newarray .int, 2) := by decide +kernel
theorem dX0_init_87 : decode cX0_init 87 = .ok (.putfield 42, 3) := by decide +kernel
theorem dX0_init_90 : decode cX0_init 90 = .ok (.aload_n 0, 1) := by decide +kernel
theorem dX0_init_91 : decode cX0_init 91 = .ok (.sipush 200, 3) := by decide +kernel
theorem dX0_init_94 : decode cX0_init 94 = .ok (.newarray .int, 2) := by decide +kernel
theorem dX0_init_96 : decode cX0_init 96 = .ok (.putfield 45, 3) := by decide +kernel
theorem dX0_init_99 : decode cX0_init 99 = .ok (.aload_n 0, 1) := by decide +kernel
theorem dX0_init_100 : decode cX0_init 100 = .ok (.sipush 200, 3) := by decide +kernel
theorem dX0_init_103 : decode cX0_init 103 = .ok (.newarray .int, 2) := by decide +kernel
theorem dX0_init_105 : decode cX0_init 105 = .ok (.putfield 48, 3) := by decide +kernel
theorem dX0_init_108 : decode cX0_init 108 = .ok (.return_, 1) := by decide +kernel
theorem dX0_clear_0 : decode cX0_clear 0 = .ok (.aload_n 0, 1) := by decide +kernel
theorem dX0_clear_1 : decode cX0_clear 1 = .ok (.iconst 0, 1) := by decide +kernel
theorem dX0_clear_2 : decode cX0_clear 2 = .ok (.putfield 51, 3) := by decide +kernel
theorem dX0_clear_5 : decode cX0_clear 5 = .ok (.aload_n 0, 1) := by decide +kernel
theorem dX0_clear_6 : decode cX0_clear 6 = .ok (.iconst 0, 1) := by decide +kernel
theorem dX0_clear_7 : decode cX0_clear 7 = .ok (.putfield 55, 3) := by decide +kernel
theorem dX0_clear_10 : decode cX0_clear 10 = .ok (.aload_n 0, 1) := by decide +kernel
theorem dX0_clear_11 : decode cX0_clear 11 = .ok (.iconst 0, 1) := by decide +kernel
theorem dX0_clear_12 : decode cX0_clear 12 = .ok (.putfield 58, 3) := by decide +kernel
theorem dX0_clear_15 : decode cX0_clear 15 = .ok (.aload_n 0, 1) := by decide +kernel
theorem dX0_clear_16 : decode cX0_clear 16 = .ok (.iconst 0, 1) := by decide +kernel
theorem dX0_clear_17 : decode cX0_clear 17 = .ok (.putfield 61, 3) := by decide +kernel
theorem dX0_clear_20 : decode cX0_clear 20 = .ok (.aload_n 0, 1) := by decide +kernel
theorem dX0_clear_21 : decode cX0_clear 21 = .ok (.iconst 0, 1) := by decide +kernel
theorem dX0_clear_22 : decode cX0_clear 22 = .ok (.putfield 64, 3) := by decide +kernel
theorem dX0_clear_25 : decode cX0_clear 25 = .ok (.aload_n 0, 1) := by decide +kernel
theorem dX0_clear_26 : decode cX0_clear 26 = .ok (.iconst 0, 1) := by decide +kernel
theorem dX0_clear_27 : decode cX0_clear 27 = .ok (.putfield 67, 3) := by decide +kernel
theorem dX0_clear_30 : decode cX0_clear 30 = .ok (.return_, 1) := by decide +kernel
theorem dX0_addPlace_0 : decode cX0_addPlace 0 = .ok (.aload_n 0, 1) := by decide +kernel
theorem dX0_addPlace_1 : decode cX0_addPlace 1 = .ok (.getfield 55, 3) := by decide +kernel
theorem dX0_addPlace_4 : decode cX0_addPlace 4 = .ok (.bipush 12, 2) := by decide +kernel
theorem dX0_addPlace_6 : decode cX0_addPlace 6 = .ok (.if_icmp .ge 33, 3) := by decide +kernel
theorem dX0_addPlace_9 : decode cX0_addPlace 9 = .ok (.aload_n 0, 1) := by decide +kernel
theorem dX0_addPlace_10 : decode cX0_addPlace 10 = .ok (.getfield 9, 3) := by decide +kernel
theorem dX0_addPlace_13 : decode cX0_addPlace 13 = .ok (.aload_n 0, 1) := by decide +kernel
theorem dX0_addPlace_14 : decode cX0_addPlace 14 = .ok (.getfield 55, 3) := by decide +kernel
theorem dX0_addPlace_17 : decode cX0_addPlace 17 = .ok (.iload_n 1, 1) := by decide +kernel
theorem dX0_addPlace_18 : decode cX0_addPlace 18 = .ok (.iastore, 1) := by decide +kernel
theorem dX0_addPlace_19 : decode cX0_addPlace 19 = .ok (.aload_n 0, 1) := by decide +kernel
theorem dX0_addPlace_20 : decode cX0_addPlace 20 = .ok (.getfield 15, 3) := by decide +kernel
theorem dX0_addPlace_23 : decode cX0_addPlace 23 = .ok (.aload_n 0, 1) := by decide +kernel
theorem dX0_addPlace_24 : decode cX0_addPlace 24 = .ok (.getfield 55, 3) := by decide +kernel
theorem dX0_addPlace_27 : decode cX0_addPlace 27 = .ok (.iload_n 2, 1) := by decide +kernel
theorem dX0_addPlace_28 : decode cX0_addPlace 28 = .ok (.iastore, 1) := by decide +kernel
theorem dX0_addPlace_29 : decode cX0_addPlace 29 = .ok (.aload_n 0, 1) := by decide +kernel
theorem dX0_addPlace_30 : decode cX0_addPlace 30 = .ok (.dup, 1) := by decide +kernel
theorem dX0_addPlace_31 : decode cX0_addPlace 31 = .ok (.getfield 55, 3) := by decide +kernel
theorem dX0_addPlace_34 : decode cX0_addPlace 34 = .ok (.iconst 1, 1) := by decide +kernel
theorem dX0_addPlace_35 : decode cX0_addPlace 35 = .ok (.iadd, 1) := by decide +kernel
theorem dX0_addPlace_36 : decode cX0_addPlace 36 = .ok (.putfield 55, 3) := by decide +kernel
theorem dX0_addPlace_39 : decode cX0_addPlace 39 = .ok (.return_, 1) := by decide +kernel
theorem dX0_addTruck_0 : decode cX0_addTruck 0 = .ok (.aload_n 0, 1) := by decide +kernel
theorem dX0_addTruck_1 : decode cX0_addTruck 1 = .ok (.getfield 58, 3) := by decide +kernel
theorem dX0_addTruck_4 : decode cX0_addTruck 4 = .ok (.iconst 4, 1) := by decide +kernel
theorem dX0_addTruck_5 : decode cX0_addTruck 5 = .ok (.if_icmp .ge 33, 3) := by decide +kernel
theorem dX0_addTruck_8 : decode cX0_addTruck 8 = .ok (.aload_n 0, 1) := by decide +kernel
theorem dX0_addTruck_9 : decode cX0_addTruck 9 = .ok (.getfield 18, 3) := by decide +kernel
theorem dX0_addTruck_12 : decode cX0_addTruck 12 = .ok (.aload_n 0, 1) := by decide +kernel
theorem dX0_addTruck_13 : decode cX0_addTruck 13 = .ok (.getfield 58, 3) := by decide +kernel
theorem dX0_addTruck_16 : decode cX0_addTruck 16 = .ok (.iload_n 1, 1) := by decide +kernel
theorem dX0_addTruck_17 : decode cX0_addTruck 17 = .ok (.iastore, 1) := by decide +kernel
theorem dX0_addTruck_18 : decode cX0_addTruck 18 = .ok (.aload_n 0, 1) := by decide +kernel
theorem dX0_addTruck_19 : decode cX0_addTruck 19 = .ok (.getfield 21, 3) := by decide +kernel
theorem dX0_addTruck_22 : decode cX0_addTruck 22 = .ok (.aload_n 0, 1) := by decide +kernel
theorem dX0_addTruck_23 : decode cX0_addTruck 23 = .ok (.getfield 58, 3) := by decide +kernel
theorem dX0_addTruck_26 : decode cX0_addTruck 26 = .ok (.iload_n 2, 1) := by decide +kernel
theorem dX0_addTruck_27 : decode cX0_addTruck 27 = .ok (.iastore, 1) := by decide +kernel
theorem dX0_addTruck_28 : decode cX0_addTruck 28 = .ok (.aload_n 0, 1) := by decide +kernel
theorem dX0_addTruck_29 : decode cX0_addTruck 29 = .ok (.dup, 1) := by decide +kernel
theorem dX0_addTruck_30 : decode cX0_addTruck 30 = .ok (.getfield 58, 3) := by decide +kernel
theorem dX0_addTruck_33 : decode cX0_addTruck 33 = .ok (.iconst 1, 1) := by decide +kernel
theorem dX0_addTruck_34 : decode cX0_addTruck 34 = .ok (.iadd, 1) := by decide +kernel
theorem dX0_addTruck_35 : decode cX0_addTruck 35 = .ok (.putfield 58, 3) := by decide +kernel
theorem dX0_addTruck_38 : decode cX0_addTruck 38 = .ok (.return_, 1) := by decide +kernel
theorem dX0_addLoad_0 : decode cX0_addLoad 0 = .ok (.aload_n 0, 1) := by decide +kernel
theorem dX0_addLoad_1 : decode cX0_addLoad 1 = .ok (.getfield 61, 3) := by decide +kernel
theorem dX0_addLoad_4 : decode cX0_addLoad 4 = .ok (.bipush 16, 2) := by decide +kernel
theorem dX0_addLoad_6 : decode cX0_addLoad 6 = .ok (.if_icmp .ge 43, 3) := by decide +kernel
theorem dX0_addLoad_9 : decode cX0_addLoad 9 = .ok (.aload_n 0, 1) := by decide +kernel
theorem dX0_addLoad_10 : decode cX0_addLoad 10 = .ok (.getfield 24, 3) := by decide +kernel
theorem dX0_addLoad_13 : decode cX0_addLoad 13 = .ok (.aload_n 0, 1) := by decide +kernel
theorem dX0_addLoad_14 : decode cX0_addLoad 14 = .ok (.getfield 61, 3) := by decide +kernel
theorem dX0_addLoad_17 : decode cX0_addLoad 17 = .ok (.iload_n 1, 1) := by decide +kernel
theorem dX0_addLoad_18 : decode cX0_addLoad 18 = .ok (.iastore, 1) := by decide +kernel
theorem dX0_addLoad_19 : decode cX0_addLoad 19 = .ok (.aload_n 0, 1) := by decide +kernel
theorem dX0_addLoad_20 : decode cX0_addLoad 20 = .ok (.getfield 27, 3) := by decide +kernel
theorem dX0_addLoad_23 : decode cX0_addLoad 23 = .ok (.aload_n 0, 1) := by decide +kernel
theorem dX0_addLoad_24 : decode cX0_addLoad 24 = .ok (.getfield 61, 3) := by decide +kernel
theorem dX0_addLoad_27 : decode cX0_addLoad 27 = .ok (.iload_n 2, 1) := by decide +kernel
theorem dX0_addLoad_28 : decode cX0_addLoad 28 = .ok (.iastore, 1) := by decide +kernel
theorem dX0_addLoad_29 : decode cX0_addLoad 29 = .ok (.aload_n 0, 1) := by decide +kernel
theorem dX0_addLoad_30 : decode cX0_addLoad 30 = .ok (.getfield 30, 3) := by decide +kernel
theorem dX0_addLoad_33 : decode cX0_addLoad 33 = .ok (.aload_n 0, 1) := by decide +kernel
theorem dX0_addLoad_34 : decode cX0_addLoad 34 = .ok (.getfield 61, 3) := by decide +kernel
theorem dX0_addLoad_37 : decode cX0_addLoad 37 = .ok (.iload_n 3, 1) := by decide +kernel
theorem dX0_addLoad_38 : decode cX0_addLoad 38 = .ok (.iastore, 1) := by decide +kernel
theorem dX0_addLoad_39 : decode cX0_addLoad 39 = .ok (.aload_n 0, 1) := by decide +kernel
theorem dX0_addLoad_40 : decode cX0_addLoad 40 = .ok (.dup, 1) := by decide +kernel
theorem dX0_addLoad_41 : decode cX0_addLoad 41 = .ok (.getfield 61, 3) := by decide +kernel
theorem dX0_addLoad_44 : decode cX0_addLoad 44 = .ok (.iconst 1, 1) := by decide +kernel
theorem dX0_addLoad_45 : decode cX0_addLoad 45 = .ok (.iadd, 1) := by decide +kernel
theorem dX0_addLoad_46 : decode cX0_addLoad 46 = .ok (.putfield 61, 3) := by decide +kernel
theorem dX0_addLoad_49 : decode cX0_addLoad 49 = .ok (.return_, 1) := by decide +kernel
theorem dX0_addTrip_0 : decode cX0_addTrip 0 = .ok (.aload_n 0, 1) := by decide +kernel
theorem dX0_addTrip_1 : decode cX0_addTrip 1 = .ok (.getfield 64, 3) := by decide +kernel
theorem dX0_addTrip_4 : decode cX0_addTrip 4 = .ok (.bipush 16, 2) := by decide +kernel
theorem dX0_addTrip_6 : decode cX0_addTrip 6 = .ok (.if_icmp .ge 56, 3) := by decide +kernel
theorem dX0_addTrip_9 : decode cX0_addTrip 9 = .ok (.aload_n 0, 1) := by decide +kernel
theorem dX0_addTrip_10 : decode cX0_addTrip 10 = .ok (.getfield 33, 3) := by decide +kernel
theorem dX0_addTrip_13 : decode cX0_addTrip 13 = .ok (.aload_n 0, 1) := by decide +kernel
theorem dX0_addTrip_14 : decode cX0_addTrip 14 = .ok (.getfield 64, 3) := by decide +kernel
theorem dX0_addTrip_17 : decode cX0_addTrip 17 = .ok (.iload_n 1, 1) := by decide +kernel
theorem dX0_addTrip_18 : decode cX0_addTrip 18 = .ok (.iastore, 1) := by decide +kernel
theorem dX0_addTrip_19 : decode cX0_addTrip 19 = .ok (.aload_n 0, 1) := by decide +kernel
theorem dX0_addTrip_20 : decode cX0_addTrip 20 = .ok (.getfield 36, 3) := by decide +kernel
theorem dX0_addTrip_23 : decode cX0_addTrip 23 = .ok (.aload_n 0, 1) := by decide +kernel
theorem dX0_addTrip_24 : decode cX0_addTrip 24 = .ok (.getfield 64, 3) := by decide +kernel
theorem dX0_addTrip_27 : decode cX0_addTrip 27 = .ok (.iload_n 2, 1) := by decide +kernel
theorem dX0_addTrip_28 : decode cX0_addTrip 28 = .ok (.iastore, 1) := by decide +kernel
theorem dX0_addTrip_29 : decode cX0_addTrip 29 = .ok (.aload_n 0, 1) := by decide +kernel
theorem dX0_addTrip_30 : decode cX0_addTrip 30 = .ok (.getfield 39, 3) := by decide +kernel
theorem dX0_addTrip_33 : decode cX0_addTrip 33 = .ok (.aload_n 0, 1) := by decide +kernel
theorem dX0_addTrip_34 : decode cX0_addTrip 34 = .ok (.getfield 64, 3) := by decide +kernel
theorem dX0_addTrip_37 : decode cX0_addTrip 37 = .ok (.iload_n 3, 1) := by decide +kernel
theorem dX0_addTrip_38 : decode cX0_addTrip 38 = .ok (.iastore, 1) := by decide +kernel
theorem dX0_addTrip_39 : decode cX0_addTrip 39 = .ok (.aload_n 0, 1) := by decide +kernel
theorem dX0_addTrip_40 : decode cX0_addTrip 40 = .ok (.getfield 42, 3) := by decide +kernel
theorem dX0_addTrip_43 : decode cX0_addTrip 43 = .ok (.aload_n 0, 1) := by decide +kernel
theorem dX0_addTrip_44 : decode cX0_addTrip 44 = .ok (.getfield 64, 3) := by decide +kernel
theorem dX0_addTrip_47 : decode cX0_addTrip 47 = .ok (.aload_n 0, 1) := by decide +kernel
theorem dX0_addTrip_48 : decode cX0_addTrip 48 = .ok (.getfield 67, 3) := by decide +kernel
theorem dX0_addTrip_51 : decode cX0_addTrip 51 = .ok (.iastore, 1) := by decide +kernel
theorem dX0_addTrip_52 : decode cX0_addTrip 52 = .ok (.aload_n 0, 1) := by decide +kernel
theorem dX0_addTrip_53 : decode cX0_addTrip 53 = .ok (.dup, 1) := by decide +kernel
theorem dX0_addTrip_54 : decode cX0_addTrip 54 = .ok (.getfield 64, 3) := by decide +kernel
theorem dX0_addTrip_57 : decode cX0_addTrip 57 = .ok (.iconst 1, 1) := by decide +kernel
theorem dX0_addTrip_58 : decode cX0_addTrip 58 = .ok (.iadd, 1) := by decide +kernel
theorem dX0_addTrip_59 : decode cX0_addTrip 59 = .ok (.putfield 64, 3) := by decide +kernel
theorem dX0_addTrip_62 : decode cX0_addTrip 62 = .ok (.return_, 1) := by decide +kernel
theorem dX0_addStep_0 : decode cX0_addStep 0 = .ok (.aload_n 0, 1) := by decide +kernel
theorem dX0_addStep_1 : decode cX0_addStep 1 = .ok (.getfield 64, 3) := by decide +kernel
theorem dX0_addStep_4 : decode cX0_addStep 4 = .ok (.ifCond .le 67, 3) := by decide +kernel
theorem dX0_addStep_7 : decode cX0_addStep 7 = .ok (.aload_n 0, 1) := by decide +kernel
theorem dX0_addStep_8 : decode cX0_addStep 8 = .ok (.getfield 64, 3) := by decide +kernel
theorem dX0_addStep_11 : decode cX0_addStep 11 = .ok (.bipush 16, 2) := by decide +kernel
theorem dX0_addStep_13 : decode cX0_addStep 13 = .ok (.if_icmp .gt 58, 3) := by decide +kernel
theorem dX0_addStep_16 : decode cX0_addStep 16 = .ok (.aload_n 0, 1) := by decide +kernel
theorem dX0_addStep_17 : decode cX0_addStep 17 = .ok (.getfield 67, 3) := by decide +kernel
theorem dX0_addStep_20 : decode cX0_addStep 20 = .ok (.sipush 200, 3) := by decide +kernel
theorem dX0_addStep_23 : decode cX0_addStep 23 = .ok (.if_icmp .ge 48, 3) := by decide +kernel
theorem dX0_addStep_26 : decode cX0_addStep 26 = .ok (.aload_n 0, 1) := by decide +kernel
theorem dX0_addStep_27 : decode cX0_addStep 27 = .ok (.getfield 45, 3) := by decide +kernel
theorem dX0_addStep_30 : decode cX0_addStep 30 = .ok (.aload_n 0, 1) := by decide +kernel
theorem dX0_addStep_31 : decode cX0_addStep 31 = .ok (.getfield 67, 3) := by decide +kernel
theorem dX0_addStep_34 : decode cX0_addStep 34 = .ok (.iload_n 1, 1) := by decide +kernel
theorem dX0_addStep_35 : decode cX0_addStep 35 = .ok (.iastore, 1) := by decide +kernel
theorem dX0_addStep_36 : decode cX0_addStep 36 = .ok (.aload_n 0, 1) := by decide +kernel
theorem dX0_addStep_37 : decode cX0_addStep 37 = .ok (.getfield 48, 3) := by decide +kernel
theorem dX0_addStep_40 : decode cX0_addStep 40 = .ok (.aload_n 0, 1) := by decide +kernel
theorem dX0_addStep_41 : decode cX0_addStep 41 = .ok (.getfield 67, 3) := by decide +kernel
theorem dX0_addStep_44 : decode cX0_addStep 44 = .ok (.iload_n 2, 1) := by decide +kernel
theorem dX0_addStep_45 : decode cX0_addStep 45 = .ok (.iastore, 1) := by decide +kernel
theorem dX0_addStep_46 : decode cX0_addStep 46 = .ok (.aload_n 0, 1) := by decide +kernel
theorem dX0_addStep_47 : decode cX0_addStep 47 = .ok (.dup, 1) := by decide +kernel
theorem dX0_addStep_48 : decode cX0_addStep 48 = .ok (.getfield 67, 3) := by decide +kernel
theorem dX0_addStep_51 : decode cX0_addStep 51 = .ok (.iconst 1, 1) := by decide +kernel
theorem dX0_addStep_52 : decode cX0_addStep 52 = .ok (.iadd, 1) := by decide +kernel
theorem dX0_addStep_53 : decode cX0_addStep 53 = .ok (.putfield 67, 3) := by decide +kernel
theorem dX0_addStep_56 : decode cX0_addStep 56 = .ok (.aload_n 0, 1) := by decide +kernel
theorem dX0_addStep_57 : decode cX0_addStep 57 = .ok (.getfield 42, 3) := by decide +kernel
theorem dX0_addStep_60 : decode cX0_addStep 60 = .ok (.aload_n 0, 1) := by decide +kernel
theorem dX0_addStep_61 : decode cX0_addStep 61 = .ok (.getfield 64, 3) := by decide +kernel
theorem dX0_addStep_64 : decode cX0_addStep 64 = .ok (.iconst 1, 1) := by decide +kernel
theorem dX0_addStep_65 : decode cX0_addStep 65 = .ok (.isub, 1) := by decide +kernel
theorem dX0_addStep_66 : decode cX0_addStep 66 = .ok (.aload_n 0, 1) := by decide +kernel
theorem dX0_addStep_67 : decode cX0_addStep 67 = .ok (.getfield 67, 3) := by decide +kernel
theorem dX0_addStep_70 : decode cX0_addStep 70 = .ok (.iastore, 1) := by decide +kernel
theorem dX0_addStep_71 : decode cX0_addStep 71 = .ok (.return_, 1) := by decide +kernel
theorem dX0_firstStep_0 : decode cX0_firstStep 0 = .ok (.iload_n 1, 1) := by decide +kernel
theorem dX0_firstStep_1 : decode cX0_firstStep 1 = .ok (.ifCond .le 20, 3) := by decide +kernel
theorem dX0_firstStep_4 : decode cX0_firstStep 4 = .ok (.iload_n 1, 1) := by decide +kernel
theorem dX0_firstStep_5 : decode cX0_firstStep 5 = .ok (.bipush 16, 2) := by decide +kernel
theorem dX0_firstStep_7 : decode cX0_firstStep 7 = .ok (.if_icmp .ge 14, 3) := by decide +kernel
theorem dX0_firstStep_10 : decode cX0_firstStep 10 = .ok (.aload_n 0, 1) := by decide +kernel
theorem dX0_firstStep_11 : decode cX0_firstStep 11 = .ok (.getfield 42, 3) := by decide +kernel
theorem dX0_firstStep_14 : decode cX0_firstStep 14 = .ok (.iload_n 1, 1) := by decide +kernel
theorem dX0_firstStep_15 : decode cX0_firstStep 15 = .ok (.iconst 1, 1) := by decide +kernel
theorem dX0_firstStep_16 : decode cX0_firstStep 16 = .ok (.isub, 1) := by decide +kernel
theorem dX0_firstStep_17 : decode cX0_firstStep 17 = .ok (.iaload, 1) := by decide +kernel
theorem dX0_firstStep_18 : decode cX0_firstStep 18 = .ok (.goto 4, 3) := by decide +kernel
theorem dX0_firstStep_21 : decode cX0_firstStep 21 = .ok (.iconst 0, 1) := by decide +kernel
theorem dX0_firstStep_22 : decode cX0_firstStep 22 = .ok (.ireturn, 1) := by decide +kernel
theorem dX0_fuelTold_0 : decode cX0_fuelTold 0 = .ok (.iconst 0, 1) := by decide +kernel
theorem dX0_fuelTold_1 : decode cX0_fuelTold 1 = .ok (.istore_n 2, 1) := by decide +kernel
theorem dX0_fuelTold_2 : decode cX0_fuelTold 2 = .ok (.iconst 0, 1) := by decide +kernel
theorem dX0_fuelTold_3 : decode cX0_fuelTold 3 = .ok (.istore_n 3, 1) := by decide +kernel
theorem dX0_fuelTold_4 : decode cX0_fuelTold 4 = .ok (.iload_n 3, 1) := by decide +kernel
theorem dX0_fuelTold_5 : decode cX0_fuelTold 5 = .ok (.aload_n 0, 1) := by decide +kernel
theorem dX0_fuelTold_6 : decode cX0_fuelTold 6 = .ok (.getfield 64, 3) := by decide +kernel
theorem dX0_fuelTold_9 : decode cX0_fuelTold 9 = .ok (.if_icmp .ge 38, 3) := by decide +kernel
theorem dX0_fuelTold_12 : decode cX0_fuelTold 12 = .ok (.aload_n 0, 1) := by decide +kernel
theorem dX0_fuelTold_13 : decode cX0_fuelTold 13 = .ok (.getfield 33, 3) := by decide +kernel
theorem dX0_fuelTold_16 : decode cX0_fuelTold 16 = .ok (.iload_n 3, 1) := by decide +kernel
theorem dX0_fuelTold_17 : decode cX0_fuelTold 17 = .ok (.iaload, 1) := by decide +kernel
theorem dX0_fuelTold_18 : decode cX0_fuelTold 18 = .ok (.iload_n 1, 1) := by decide +kernel
theorem dX0_fuelTold_19 : decode cX0_fuelTold 19 = .ok (.if_icmp .ne 22, 3) := by decide +kernel
theorem dX0_fuelTold_22 : decode cX0_fuelTold 22 = .ok (.aload_n 0, 1) := by decide +kernel
theorem dX0_fuelTold_23 : decode cX0_fuelTold 23 = .ok (.getfield 36, 3) := by decide +kernel
theorem dX0_fuelTold_26 : decode cX0_fuelTold 26 = .ok (.iload_n 3, 1) := by decide +kernel
theorem dX0_fuelTold_27 : decode cX0_fuelTold 27 = .ok (.iaload, 1) := by decide +kernel
theorem dX0_fuelTold_28 : decode cX0_fuelTold 28 = .ok (.iconst (-1), 1) := by decide +kernel
theorem dX0_fuelTold_29 : decode cX0_fuelTold 29 = .ok (.if_icmp .eq 12, 3) := by decide +kernel
theorem dX0_fuelTold_32 : decode cX0_fuelTold 32 = .ok (.iload_n 2, 1) := by decide +kernel
theorem dX0_fuelTold_33 : decode cX0_fuelTold 33 = .ok (.aload_n 0, 1) := by decide +kernel
theorem dX0_fuelTold_34 : decode cX0_fuelTold 34 = .ok (.getfield 36, 3) := by decide +kernel
theorem dX0_fuelTold_37 : decode cX0_fuelTold 37 = .ok (.iload_n 3, 1) := by decide +kernel
theorem dX0_fuelTold_38 : decode cX0_fuelTold 38 = .ok (.iaload, 1) := by decide +kernel
theorem dX0_fuelTold_39 : decode cX0_fuelTold 39 = .ok (.iadd, 1) := by decide +kernel
theorem dX0_fuelTold_40 : decode cX0_fuelTold 40 = .ok (.istore_n 2, 1) := by decide +kernel
theorem dX0_fuelTold_41 : decode cX0_fuelTold 41 = .ok (.iinc 3 1, 3) := by decide +kernel
theorem dX0_fuelTold_44 : decode cX0_fuelTold 44 = .ok (.goto (-40), 3) := by decide +kernel
theorem dX0_fuelTold_47 : decode cX0_fuelTold 47 = .ok (.iload_n 2, 1) := by decide +kernel
theorem dX0_fuelTold_48 : decode cX0_fuelTold 48 = .ok (.ireturn, 1) := by decide +kernel
theorem dX0_distance_0 : decode cX0_distance 0 = .ok (.aload_n 0, 1) := by decide +kernel
theorem dX0_distance_1 : decode cX0_distance 1 = .ok (.getfield 9, 3) := by decide +kernel
theorem dX0_distance_4 : decode cX0_distance 4 = .ok (.iload_n 1, 1) := by decide +kernel
theorem dX0_distance_5 : decode cX0_distance 5 = .ok (.iaload, 1) := by decide +kernel
theorem dX0_distance_6 : decode cX0_distance 6 = .ok (.aload_n 0, 1) := by decide +kernel
theorem dX0_distance_7 : decode cX0_distance 7 = .ok (.getfield 9, 3) := by decide +kernel
theorem dX0_distance_10 : decode cX0_distance 10 = .ok (.iload_n 2, 1) := by decide +kernel
theorem dX0_distance_11 : decode cX0_distance 11 = .ok (.iaload, 1) := by decide +kernel
theorem dX0_distance_12 : decode cX0_distance 12 = .ok (.isub, 1) := by decide +kernel
theorem dX0_distance_13 : decode cX0_distance 13 = .ok (.invokestatic 70, 3) := by decide +kernel
theorem dX0_distance_16 : decode cX0_distance 16 = .ok (.aload_n 0, 1) := by decide +kernel
theorem dX0_distance_17 : decode cX0_distance 17 = .ok (.getfield 15, 3) := by decide +kernel
theorem dX0_distance_20 : decode cX0_distance 20 = .ok (.iload_n 1, 1) := by decide +kernel
theorem dX0_distance_21 : decode cX0_distance 21 = .ok (.iaload, 1) := by decide +kernel
theorem dX0_distance_22 : decode cX0_distance 22 = .ok (.aload_n 0, 1) := by decide +kernel
theorem dX0_distance_23 : decode cX0_distance 23 = .ok (.getfield 15, 3) := by decide +kernel
theorem dX0_distance_26 : decode cX0_distance 26 = .ok (.iload_n 2, 1) := by decide +kernel
theorem dX0_distance_27 : decode cX0_distance 27 = .ok (.iaload, 1) := by decide +kernel
theorem dX0_distance_28 : decode cX0_distance 28 = .ok (.isub, 1) := by decide +kernel
theorem dX0_distance_29 : decode cX0_distance 29 = .ok (.invokestatic 70, 3) := by decide +kernel
theorem dX0_distance_32 : decode cX0_distance 32 = .ok (.iadd, 1) := by decide +kernel
theorem dX0_distance_33 : decode cX0_distance 33 = .ok (.ireturn, 1) := by decide +kernel
theorem dX1_init_0 : decode cX1_init 0 = .ok (.aload_n 0, 1) := by decide +kernel
theorem dX1_init_1 : decode cX1_init 1 = .ok (.invokespecial 3, 3) := by decide +kernel
theorem dX1_init_4 : decode cX1_init 4 = .ok (.aload_n 0, 1) := by decide +kernel
theorem dX1_init_5 : decode cX1_init 5 = .ok (.bipush 12, 2) := by decide +kernel
theorem dX1_init_7 : decode cX1_init 7 = .ok (.newarray .int, 2) := by decide +kernel
theorem dX1_init_9 : decode cX1_init 9 = .ok (.putfield 9, 3) := by decide +kernel
theorem dX1_init_12 : decode cX1_init 12 = .ok (.aload_n 0, 1) := by decide +kernel
theorem dX1_init_13 : decode cX1_init 13 = .ok (.bipush 12, 2) := by decide +kernel
theorem dX1_init_15 : decode cX1_init 15 = .ok (.newarray .int, 2) := by decide +kernel
theorem dX1_init_17 : decode cX1_init 17 = .ok (.putfield 15, 3) := by decide +kernel
theorem dX1_init_20 : decode cX1_init 20 = .ok (.aload_n 0, 1) := by decide +kernel
theorem dX1_init_21 : decode cX1_init 21 = .ok (.bipush 12, 2) := by decide +kernel
theorem dX1_init_23 : decode cX1_init 23 = .ok (.newarray .int, 2) := by decide +kernel
theorem dX1_init_25 : decode cX1_init 25 = .ok (.putfield 18, 3) := by decide +kernel
theorem dX1_init_28 : decode cX1_init 28 = .ok (.return_, 1) := by decide +kernel
theorem dX1_keep_0 : decode cX1_keep 0 = .ok (.aload_n 0, 1) := by decide +kernel
theorem dX1_keep_1 : decode cX1_keep 1 = .ok (.getfield 21, 3) := by decide +kernel
theorem dX1_keep_4 : decode cX1_keep 4 = .ok (.bipush 12, 2) := by decide +kernel
theorem dX1_keep_6 : decode cX1_keep 6 = .ok (.if_icmp .lt 7, 3) := by decide +kernel
theorem dX1_keep_9 : decode cX1_keep 9 = .ok (.aload_n 0, 1) := by decide +kernel
theorem dX1_keep_10 : decode cX1_keep 10 = .ok (.invokevirtual 25, 3) := by decide +kernel
theorem dX1_keep_13 : decode cX1_keep 13 = .ok (.aload_n 0, 1) := by decide +kernel
theorem dX1_keep_14 : decode cX1_keep 14 = .ok (.getfield 21, 3) := by decide +kernel
theorem dX1_keep_17 : decode cX1_keep 17 = .ok (.ifCond .lt 52, 3) := by decide +kernel
theorem dX1_keep_20 : decode cX1_keep 20 = .ok (.aload_n 0, 1) := by decide +kernel
theorem dX1_keep_21 : decode cX1_keep 21 = .ok (.getfield 21, 3) := by decide +kernel
theorem dX1_keep_24 : decode cX1_keep 24 = .ok (.bipush 12, 2) := by decide +kernel
theorem dX1_keep_26 : decode cX1_keep 26 = .ok (.if_icmp .ge 43, 3) := by decide +kernel
theorem dX1_keep_29 : decode cX1_keep 29 = .ok (.aload_n 0, 1) := by decide +kernel
theorem dX1_keep_30 : decode cX1_keep 30 = .ok (.getfield 9, 3) := by decide +kernel
theorem dX1_keep_33 : decode cX1_keep 33 = .ok (.aload_n 0, 1) := by decide +kernel
theorem dX1_keep_34 : decode cX1_keep 34 = .ok (.getfield 21, 3) := by decide +kernel
theorem dX1_keep_37 : decode cX1_keep 37 = .ok (.iload_n 1, 1) := by decide +kernel
theorem dX1_keep_38 : decode cX1_keep 38 = .ok (.iastore, 1) := by decide +kernel
theorem dX1_keep_39 : decode cX1_keep 39 = .ok (.aload_n 0, 1) := by decide +kernel
theorem dX1_keep_40 : decode cX1_keep 40 = .ok (.getfield 15, 3) := by decide +kernel
theorem dX1_keep_43 : decode cX1_keep 43 = .ok (.aload_n 0, 1) := by decide +kernel
theorem dX1_keep_44 : decode cX1_keep 44 = .ok (.getfield 21, 3) := by decide +kernel
theorem dX1_keep_47 : decode cX1_keep 47 = .ok (.iload_n 2, 1) := by decide +kernel
theorem dX1_keep_48 : decode cX1_keep 48 = .ok (.iastore, 1) := by decide +kernel
theorem dX1_keep_49 : decode cX1_keep 49 = .ok (.aload_n 0, 1) := by decide +kernel
theorem dX1_keep_50 : decode cX1_keep 50 = .ok (.getfield 18, 3) := by decide +kernel
theorem dX1_keep_53 : decode cX1_keep 53 = .ok (.aload_n 0, 1) := by decide +kernel
theorem dX1_keep_54 : decode cX1_keep 54 = .ok (.getfield 21, 3) := by decide +kernel
theorem dX1_keep_57 : decode cX1_keep 57 = .ok (.iload_n 3, 1) := by decide +kernel
theorem dX1_keep_58 : decode cX1_keep 58 = .ok (.iastore, 1) := by decide +kernel
theorem dX1_keep_59 : decode cX1_keep 59 = .ok (.aload_n 0, 1) := by decide +kernel
theorem dX1_keep_60 : decode cX1_keep 60 = .ok (.dup, 1) := by decide +kernel
theorem dX1_keep_61 : decode cX1_keep 61 = .ok (.getfield 21, 3) := by decide +kernel
theorem dX1_keep_64 : decode cX1_keep 64 = .ok (.iconst 1, 1) := by decide +kernel
theorem dX1_keep_65 : decode cX1_keep 65 = .ok (.iadd, 1) := by decide +kernel
theorem dX1_keep_66 : decode cX1_keep 66 = .ok (.putfield 21, 3) := by decide +kernel
theorem dX1_keep_69 : decode cX1_keep 69 = .ok (.return_, 1) := by decide +kernel
theorem dX1_forgetOldest_0 : decode cX1_forgetOldest 0 = .ok (.iconst 1, 1) := by decide +kernel
theorem dX1_forgetOldest_1 : decode cX1_forgetOldest 1 = .ok (.istore_n 1, 1) := by decide +kernel
theorem dX1_forgetOldest_2 : decode cX1_forgetOldest 2 = .ok (.iload_n 1, 1) := by decide +kernel
theorem dX1_forgetOldest_3 : decode cX1_forgetOldest 3 = .ok (.bipush 12, 2) := by decide +kernel
theorem dX1_forgetOldest_5 : decode cX1_forgetOldest 5 = .ok (.if_icmp .ge 51, 3) := by decide +kernel
theorem dX1_forgetOldest_8 : decode cX1_forgetOldest 8 = .ok (.aload_n 0, 1) := by decide +kernel
theorem dX1_forgetOldest_9 : decode cX1_forgetOldest 9 = .ok (.getfield 9, 3) := by decide +kernel
theorem dX1_forgetOldest_12 : decode cX1_forgetOldest 12 = .ok (.iload_n 1, 1) := by decide +kernel
theorem dX1_forgetOldest_13 : decode cX1_forgetOldest 13 = .ok (.iconst 1, 1) := by decide +kernel
theorem dX1_forgetOldest_14 : decode cX1_forgetOldest 14 = .ok (.isub, 1) := by decide +kernel
theorem dX1_forgetOldest_15 : decode cX1_forgetOldest 15 = .ok (.aload_n 0, 1) := by decide +kernel
theorem dX1_forgetOldest_16 : decode cX1_forgetOldest 16 = .ok (.getfield 9, 3) := by decide +kernel
theorem dX1_forgetOldest_19 : decode cX1_forgetOldest 19 = .ok (.iload_n 1, 1) := by decide +kernel
theorem dX1_forgetOldest_20 : decode cX1_forgetOldest 20 = .ok (.iaload, 1) := by decide +kernel
theorem dX1_forgetOldest_21 : decode cX1_forgetOldest 21 = .ok (.iastore, 1) := by decide +kernel
theorem dX1_forgetOldest_22 : decode cX1_forgetOldest 22 = .ok (.aload_n 0, 1) := by decide +kernel
theorem dX1_forgetOldest_23 : decode cX1_forgetOldest 23 = .ok (.getfield 15, 3) := by decide +kernel
theorem dX1_forgetOldest_26 : decode cX1_forgetOldest 26 = .ok (.iload_n 1, 1) := by decide +kernel
theorem dX1_forgetOldest_27 : decode cX1_forgetOldest 27 = .ok (.iconst 1, 1) := by decide +kernel
theorem dX1_forgetOldest_28 : decode cX1_forgetOldest 28 = .ok (.isub, 1) := by decide +kernel
theorem dX1_forgetOldest_29 : decode cX1_forgetOldest 29 = .ok (.aload_n 0, 1) := by decide +kernel
theorem dX1_forgetOldest_30 : decode cX1_forgetOldest 30 = .ok (.getfield 15, 3) := by decide +kernel
theorem dX1_forgetOldest_33 : decode cX1_forgetOldest 33 = .ok (.iload_n 1, 1) := by decide +kernel
theorem dX1_forgetOldest_34 : decode cX1_forgetOldest 34 = .ok (.iaload, 1) := by decide +kernel
theorem dX1_forgetOldest_35 : decode cX1_forgetOldest 35 = .ok (.iastore, 1) := by decide +kernel
theorem dX1_forgetOldest_36 : decode cX1_forgetOldest 36 = .ok (.aload_n 0, 1) := by decide +kernel
theorem dX1_forgetOldest_37 : decode cX1_forgetOldest 37 = .ok (.getfield 18, 3) := by decide +kernel
theorem dX1_forgetOldest_40 : decode cX1_forgetOldest 40 = .ok (.iload_n 1, 1) := by decide +kernel
theorem dX1_forgetOldest_41 : decode cX1_forgetOldest 41 = .ok (.iconst 1, 1) := by decide +kernel
theorem dX1_forgetOldest_42 : decode cX1_forgetOldest 42 = .ok (.isub, 1) := by decide +kernel
theorem dX1_forgetOldest_43 : decode cX1_forgetOldest 43 = .ok (.aload_n 0, 1) := by decide +kernel
theorem dX1_forgetOldest_44 : decode cX1_forgetOldest 44 = .ok (.getfield 18, 3) := by decide +kernel
theorem dX1_forgetOldest_47 : decode cX1_forgetOldest 47 = .ok (.iload_n 1, 1) := by decide +kernel
theorem dX1_forgetOldest_48 : decode cX1_forgetOldest 48 = .ok (.iaload, 1) := by decide +kernel
theorem dX1_forgetOldest_49 : decode cX1_forgetOldest 49 = .ok (.iastore, 1) := by decide +kernel
theorem dX1_forgetOldest_50 : decode cX1_forgetOldest 50 = .ok (.iinc 1 1, 3) := by decide +kernel
theorem dX1_forgetOldest_53 : decode cX1_forgetOldest 53 = .ok (.goto (-51), 3) := by decide +kernel
theorem dX1_forgetOldest_56 : decode cX1_forgetOldest 56 = .ok (.aload_n 0, 1) := by decide +kernel
theorem dX1_forgetOldest_57 : decode cX1_forgetOldest 57 = .ok (.bipush 11, 2) := by decide +kernel
theorem dX1_forgetOldest_59 : decode cX1_forgetOldest 59 = .ok (.putfield 21, 3) := by decide +kernel
theorem dX1_forgetOldest_62 : decode cX1_forgetOldest 62 = .ok (.return_, 1) := by decide +kernel
theorem dX2_init_0 : decode cX2_init 0 = .ok (.aload_n 0, 1) := by decide +kernel
theorem dX2_init_1 : decode cX2_init 1 = .ok (.invokespecial 3, 3) := by decide +kernel
theorem dX2_init_4 : decode cX2_init 4 = .ok (.aload_n 0, 1) := by decide +kernel
theorem dX2_init_5 : decode cX2_init 5 = .ok (.new 9, 3) := by decide +kernel
theorem dX2_init_8 : decode cX2_init 8 = .ok (.dup, 1) := by decide +kernel
theorem dX2_init_9 : decode cX2_init 9 = .ok (.invokespecial 11, 3) := by decide +kernel
theorem dX2_init_12 : decode cX2_init 12 = .ok (.putfield 12, 3) := by decide +kernel
theorem dX2_init_15 : decode cX2_init 15 = .ok (.aload_n 0, 1) := by decide +kernel
theorem dX2_init_16 : decode cX2_init 16 = .ok (.bipush 16, 2) := by decide +kernel
theorem dX2_init_18 : decode cX2_init 18 = .ok (.newarray .int, 2) := by decide +kernel
theorem dX2_init_20 : decode cX2_init 20 = .ok (.putfield 18, 3) := by decide +kernel
theorem dX2_init_23 : decode cX2_init 23 = .ok (.aload_n 0, 1) := by decide +kernel
theorem dX2_init_24 : decode cX2_init 24 = .ok (.bipush 16, 2) := by decide +kernel
theorem dX2_init_26 : decode cX2_init 26 = .ok (.newarray .int, 2) := by decide +kernel
theorem dX2_init_28 : decode cX2_init 28 = .ok (.putfield 22, 3) := by decide +kernel
theorem dX2_init_31 : decode cX2_init 31 = .ok (.aload_n 0, 1) := by decide +kernel
theorem dX2_init_32 : decode cX2_init 32 = .ok (.bipush 16, 2) := by decide +kernel
theorem dX2_init_34 : decode cX2_init 34 = .ok (.newarray .int, 2) := by decide +kernel
theorem dX2_init_36 : decode cX2_init 36 = .ok (.putfield 25, 3) := by decide +kernel
theorem dX2_init_39 : decode cX2_init 39 = .ok (.aload_n 0, 1) := by decide +kernel
theorem dX2_init_40 : decode cX2_init 40 = .ok (.bipush 16, 2) := by decide +kernel
theorem dX2_init_42 : decode cX2_init 42 = .ok (.newarray .int, 2) := by decide +kernel
theorem dX2_init_44 : decode cX2_init 44 = .ok (.putfield 28, 3) := by decide +kernel
theorem dX2_init_47 : decode cX2_init 47 = .ok (.aload_n 0, 1) := by decide +kernel
theorem dX2_init_48 : decode cX2_init 48 = .ok (.bipush 16, 2) := by decide +kernel
theorem dX2_init_50 : decode cX2_init 50 = .ok (.bipush 16, 2) := by decide +kernel
theorem dX2_init_52 : decode cX2_init 52 = .ok (.multianewarray 31 2, 4) := by decide +kernel
theorem dX2_init_56 : decode cX2_init 56 = .ok (.putfield 33, 3) := by decide +kernel
theorem dX2_init_59 : decode cX2_init 59 = .ok (.aload_n 0, 1) := by decide +kernel
theorem dX2_init_60 : decode cX2_init 60 = .ok (.bipush 16, 2) := by decide +kernel
theorem dX2_init_62 : decode cX2_init 62 = .ok (.newarray .int, 2) := by decide +kernel
theorem dX2_init_64 : decode cX2_init 64 = .ok (.putfield 36, 3) := by decide +kernel
theorem dX2_init_67 : decode cX2_init 67 = .ok (.aload_n 0, 1) := by decide +kernel
theorem dX2_init_68 : decode cX2_init 68 = .ok (.bipush 16, 2) := by decide +kernel
theorem dX2_init_70 : decode cX2_init 70 = .ok (.newarray .int, 2) := by decide +kernel
theorem dX2_init_72 : decode cX2_init 72 = .ok (.putfield 39, 3) := by decide +kernel
theorem dX2_init_75 : decode cX2_init 75 = .ok (.aload_n 0, 1) := by decide +kernel
theorem dX2_init_76 : decode cX2_init 76 = .ok (.bipush 16, 2) := by decide +kernel
theorem dX2_init_78 : decode cX2_init 78 = .ok (.newarray .int, 2) := by decide +kernel
theorem dX2_init_80 : decode cX2_init 80 = .ok (.putfield 42, 3) := by decide +kernel
theorem dX2_init_83 : decode cX2_init 83 = .ok (.aload_n 0, 1) := by decide +kernel
theorem dX2_init_84 : decode cX2_init 84 = .ok (.bipush 16, 2) := by decide +kernel
theorem dX2_init_86 : decode cX2_init 86 = .ok (.bipush 16, 2) := by decide +kernel
theorem dX2_init_88 : decode cX2_init 88 = .ok (.multianewarray 31 2, 4) := by decide +kernel
theorem dX2_init_92 : decode cX2_init 92 = .ok (.putfield 45, 3) := by decide +kernel
theorem dX2_init_95 : decode cX2_init 95 = .ok (.aload_n 0, 1) := by decide +kernel
theorem dX2_init_96 : decode cX2_init 96 = .ok (.bipush 16, 2) := by decide +kernel
theorem dX2_init_98 : decode cX2_init 98 = .ok (.newarray .int, 2) := by decide +kernel
theorem dX2_init_100 : decode cX2_init 100 = .ok (.putfield 48, 3) := by decide +kernel
theorem dX2_init_103 : decode cX2_init 103 = .ok (.aload_n 0, 1) := by decide +kernel
theorem dX2_init_104 : decode cX2_init 104 = .ok (.bipush 16, 2) := by decide +kernel
theorem dX2_init_106 : decode cX2_init 106 = .ok (.newarray .int, 2) := by decide +kernel
theorem dX2_init_108 : decode cX2_init 108 = .ok (.putfield 51, 3) := by decide +kernel
theorem dX2_init_111 : decode cX2_init 111 = .ok (.return_, 1) := by decide +kernel
theorem dX2_takeLoads_0 : decode cX2_takeLoads 0 = .ok (.aload_n 0, 1) := by decide +kernel
theorem dX2_takeLoads_1 : decode cX2_takeLoads 1 = .ok (.aload_n 1, 1) := by decide +kernel
theorem dX2_takeLoads_2 : decode cX2_takeLoads 2 = .ok (.getfield 54, 3) := by decide +kernel
theorem dX2_takeLoads_5 : decode cX2_takeLoads 5 = .ok (.putfield 60, 3) := by decide +kernel
theorem dX2_takeLoads_8 : decode cX2_takeLoads 8 = .ok (.iconst 0, 1) := by decide +kernel
theorem dX2_takeLoads_9 : decode cX2_takeLoads 9 = .ok (.istore_n 2, 1) := by decide +kernel
theorem dX2_takeLoads_10 : decode cX2_takeLoads 10 = .ok (.iload_n 2, 1) := by decide +kernel
theorem dX2_takeLoads_11 : decode cX2_takeLoads 11 = .ok (.aload_n 0, 1) := by decide +kernel
theorem dX2_takeLoads_12 : decode cX2_takeLoads 12 = .ok (.getfield 60, 3) := by decide +kernel
theorem dX2_takeLoads_15 : decode cX2_takeLoads 15 = .ok (.if_icmp .ge 28, 3) := by decide +kernel
theorem dX2_takeLoads_18 : decode cX2_takeLoads 18 = .ok (.aload_n 0, 1) := by decide +kernel
theorem dX2_takeLoads_19 : decode cX2_takeLoads 19 = .ok (.getfield 18, 3) := by decide +kernel
theorem dX2_takeLoads_22 : decode cX2_takeLoads 22 = .ok (.iload_n 2, 1) := by decide +kernel
theorem dX2_takeLoads_23 : decode cX2_takeLoads 23 = .ok (.aload_n 1, 1) := by decide +kernel
theorem dX2_takeLoads_24 : decode cX2_takeLoads 24 = .ok (.getfield 61, 3) := by decide +kernel
theorem dX2_takeLoads_27 : decode cX2_takeLoads 27 = .ok (.iload_n 2, 1) := by decide +kernel
theorem dX2_takeLoads_28 : decode cX2_takeLoads 28 = .ok (.iaload, 1) := by decide +kernel
theorem dX2_takeLoads_29 : decode cX2_takeLoads 29 = .ok (.iastore, 1) := by decide +kernel
theorem dX2_takeLoads_30 : decode cX2_takeLoads 30 = .ok (.aload_n 0, 1) := by decide +kernel
theorem dX2_takeLoads_31 : decode cX2_takeLoads 31 = .ok (.getfield 22, 3) := by decide +kernel
theorem dX2_takeLoads_34 : decode cX2_takeLoads 34 = .ok (.iload_n 2, 1) := by decide +kernel
theorem dX2_takeLoads_35 : decode cX2_takeLoads 35 = .ok (.iload_n 2, 1) := by decide +kernel
theorem dX2_takeLoads_36 : decode cX2_takeLoads 36 = .ok (.iastore, 1) := by decide +kernel
theorem dX2_takeLoads_37 : decode cX2_takeLoads 37 = .ok (.iinc 2 1, 3) := by decide +kernel
theorem dX2_takeLoads_40 : decode cX2_takeLoads 40 = .ok (.goto (-30), 3) := by decide +kernel
theorem dX2_takeLoads_43 : decode cX2_takeLoads 43 = .ok (.return_, 1) := by decide +kernel
theorem dX2_splitLoad_0 : decode cX2_splitLoad 0 = .ok (.aload_n 0, 1) := by decide +kernel
theorem dX2_splitLoad_1 : decode cX2_splitLoad 1 = .ok (.getfield 60, 3) := by decide +kernel
theorem dX2_splitLoad_4 : decode cX2_splitLoad 4 = .ok (.bipush 16, 2) := by decide +kernel
theorem dX2_splitLoad_6 : decode cX2_splitLoad 6 = .ok (.if_icmp .ge 47, 3) := by decide +kernel
theorem dX2_splitLoad_9 : decode cX2_splitLoad 9 = .ok (.aload_n 0, 1) := by decide +kernel
theorem dX2_splitLoad_10 : decode cX2_splitLoad 10 = .ok (.getfield 18, 3) := by decide +kernel
theorem dX2_splitLoad_13 : decode cX2_splitLoad 13 = .ok (.aload_n 0, 1) := by decide +kernel
theorem dX2_splitLoad_14 : decode cX2_splitLoad 14 = .ok (.getfield 60, 3) := by decide +kernel
theorem dX2_splitLoad_17 : decode cX2_splitLoad 17 = .ok (.aload_n 0, 1) := by decide +kernel
theorem dX2_splitLoad_18 : decode cX2_splitLoad 18 = .ok (.getfield 18, 3) := by decide +kernel
theorem dX2_splitLoad_21 : decode cX2_splitLoad 21 = .ok (.iload_n 1, 1) := by decide +kernel
theorem dX2_splitLoad_22 : decode cX2_splitLoad 22 = .ok (.iaload, 1) := by decide +kernel
theorem dX2_splitLoad_23 : decode cX2_splitLoad 23 = .ok (.iload_n 2, 1) := by decide +kernel
theorem dX2_splitLoad_24 : decode cX2_splitLoad 24 = .ok (.isub, 1) := by decide +kernel
theorem dX2_splitLoad_25 : decode cX2_splitLoad 25 = .ok (.iastore, 1) := by decide +kernel
theorem dX2_splitLoad_26 : decode cX2_splitLoad 26 = .ok (.aload_n 0, 1) := by decide +kernel
theorem dX2_splitLoad_27 : decode cX2_splitLoad 27 = .ok (.getfield 22, 3) := by decide +kernel
theorem dX2_splitLoad_30 : decode cX2_splitLoad 30 = .ok (.aload_n 0, 1) := by decide +kernel
theorem dX2_splitLoad_31 : decode cX2_splitLoad 31 = .ok (.getfield 60, 3) := by decide +kernel
theorem dX2_splitLoad_34 : decode cX2_splitLoad 34 = .ok (.iload_n 1, 1) := by decide +kernel
theorem dX2_splitLoad_35 : decode cX2_splitLoad 35 = .ok (.iastore, 1) := by decide +kernel
theorem dX2_splitLoad_36 : decode cX2_splitLoad 36 = .ok (.aload_n 0, 1) := by decide +kernel
theorem dX2_splitLoad_37 : decode cX2_splitLoad 37 = .ok (.getfield 18, 3) := by decide +kernel
theorem dX2_splitLoad_40 : decode cX2_splitLoad 40 = .ok (.iload_n 1, 1) := by decide +kernel
theorem dX2_splitLoad_41 : decode cX2_splitLoad 41 = .ok (.iload_n 2, 1) := by decide +kernel
theorem dX2_splitLoad_42 : decode cX2_splitLoad 42 = .ok (.iastore, 1) := by decide +kernel
theorem dX2_splitLoad_43 : decode cX2_splitLoad 43 = .ok (.aload_n 0, 1) := by decide +kernel
theorem dX2_splitLoad_44 : decode cX2_splitLoad 44 = .ok (.dup, 1) := by decide +kernel
theorem dX2_splitLoad_45 : decode cX2_splitLoad 45 = .ok (.getfield 60, 3) := by decide +kernel
theorem dX2_splitLoad_48 : decode cX2_splitLoad 48 = .ok (.iconst 1, 1) := by decide +kernel
theorem dX2_splitLoad_49 : decode cX2_splitLoad 49 = .ok (.iadd, 1) := by decide +kernel
theorem dX2_splitLoad_50 : decode cX2_splitLoad 50 = .ok (.putfield 60, 3) := by decide +kernel
theorem dX2_splitLoad_53 : decode cX2_splitLoad 53 = .ok (.return_, 1) := by decide +kernel
theorem dX2_settle_0 : decode cX2_settle 0 = .ok (.aload_n 0, 1) := by decide +kernel
theorem dX2_settle_1 : decode cX2_settle 1 = .ok (.aload_n 1, 1) := by decide +kernel
theorem dX2_settle_2 : decode cX2_settle 2 = .ok (.putfield 62, 3) := by decide +kernel
theorem dX2_settle_5 : decode cX2_settle 5 = .ok (.aload_n 0, 1) := by decide +kernel
theorem dX2_settle_6 : decode cX2_settle 6 = .ok (.aload_n 2, 1) := by decide +kernel
theorem dX2_settle_7 : decode cX2_settle 7 = .ok (.putfield 66, 3) := by decide +kernel
theorem dX2_settle_10 : decode cX2_settle 10 = .ok (.aload_n 0, 1) := by decide +kernel
theorem dX2_settle_11 : decode cX2_settle 11 = .ok (.iconst 0, 1) := by decide +kernel
theorem dX2_settle_12 : decode cX2_settle 12 = .ok (.putfield 70, 3) := by decide +kernel
theorem dX2_settle_15 : decode cX2_settle 15 = .ok (.iconst 0, 1) := by decide +kernel
theorem dX2_settle_16 : decode cX2_settle 16 = .ok (.istore_n 3, 1) := by decide +kernel
theorem dX2_settle_17 : decode cX2_settle 17 = .ok (.iload_n 3, 1) := by decide +kernel
theorem dX2_settle_18 : decode cX2_settle 18 = .ok (.bipush 16, 2) := by decide +kernel
theorem dX2_settle_20 : decode cX2_settle 20 = .ok (.if_icmp .ge 16, 3) := by decide +kernel
theorem dX2_settle_23 : decode cX2_settle 23 = .ok (.aload_n 0, 1) := by decide +kernel
theorem dX2_settle_24 : decode cX2_settle 24 = .ok (.getfield 51, 3) := by decide +kernel
theorem dX2_settle_27 : decode cX2_settle 27 = .ok (.iload_n 3, 1) := by decide +kernel
theorem dX2_settle_28 : decode cX2_settle 28 = .ok (.iconst 0, 1) := by decide +kernel
theorem dX2_settle_29 : decode cX2_settle 29 = .ok (.iastore, 1) := by decide +kernel
theorem dX2_settle_30 : decode cX2_settle 30 = .ok (.iinc 3 1, 3) := by decide +kernel
theorem dX2_settle_33 : decode cX2_settle 33 = .ok (.goto (-16), 3) := by decide +kernel
theorem dX2_settle_36 : decode cX2_settle 36 = .ok (.iconst 0, 1) := by decide +kernel
theorem dX2_settle_37 : decode cX2_settle 37 = .ok (.istore_n 3, 1) := by decide +kernel
theorem dX2_settle_38 : decode cX2_settle 38 = .ok (.iload_n 3, 1) := by decide +kernel
theorem dX2_settle_39 : decode cX2_settle 39 = .ok (.aload_n 0, 1) := by decide +kernel
theorem dX2_settle_40 : decode cX2_settle 40 = .ok (.getfield 62, 3) := by decide +kernel
theorem dX2_settle_43 : decode cX2_settle 43 = .ok (.getfield 73, 3) := by decide +kernel
theorem dX2_settle_46 : decode cX2_settle 46 = .ok (.if_icmp .ge 25, 3) := by decide +kernel
theorem dX2_settle_49 : decode cX2_settle 49 = .ok (.aload_n 0, 1) := by decide +kernel
theorem dX2_settle_50 : decode cX2_settle 50 = .ok (.getfield 25, 3) := by decide +kernel
theorem dX2_settle_53 : decode cX2_settle 53 = .ok (.iload_n 3, 1) := by decide +kernel
theorem dX2_settle_54 : decode cX2_settle 54 = .ok (.aload_n 0, 1) := by decide +kernel
theorem dX2_settle_55 : decode cX2_settle 55 = .ok (.iload_n 3, 1) := by decide +kernel
theorem dX2_settle_56 : decode cX2_settle 56 = .ok (.invokevirtual 76, 3) := by decide +kernel
theorem dX2_settle_59 : decode cX2_settle 59 = .ok (.iastore, 1) := by decide +kernel
theorem dX2_settle_60 : decode cX2_settle 60 = .ok (.aload_n 0, 1) := by decide +kernel
theorem dX2_settle_61 : decode cX2_settle 61 = .ok (.iload_n 3, 1) := by decide +kernel
theorem dX2_settle_62 : decode cX2_settle 62 = .ok (.invokevirtual 80, 3) := by decide +kernel
theorem dX2_settle_65 : decode cX2_settle 65 = .ok (.iinc 3 1, 3) := by decide +kernel
theorem dX2_settle_68 : decode cX2_settle 68 = .ok (.goto (-30), 3) := by decide +kernel
theorem dX2_settle_71 : decode cX2_settle 71 = .ok (.iconst 0, 1) := by decide +kernel
theorem dX2_settle_72 : decode cX2_settle 72 = .ok (.istore_n 3, 1) := by decide +kernel
theorem dX2_settle_73 : decode cX2_settle 73 = .ok (.iload_n 3, 1) := by decide +kernel
theorem dX2_settle_74 : decode cX2_settle 74 = .ok (.aload_n 0, 1) := by decide +kernel
theorem dX2_settle_75 : decode cX2_settle 75 = .ok (.getfield 62, 3) := by decide +kernel
theorem dX2_settle_78 : decode cX2_settle 78 = .ok (.getfield 84, 3) := by decide +kernel
theorem dX2_settle_81 : decode cX2_settle 81 = .ok (.if_icmp .ge 14, 3) := by decide +kernel
theorem dX2_settle_84 : decode cX2_settle 84 = .ok (.aload_n 0, 1) := by decide +kernel
theorem dX2_settle_85 : decode cX2_settle 85 = .ok (.iload_n 3, 1) := by decide +kernel
theorem dX2_settle_86 : decode cX2_settle 86 = .ok (.invokevirtual 87, 3) := by decide +kernel
theorem dX2_settle_89 : decode cX2_settle 89 = .ok (.iinc 3 1, 3) := by decide +kernel
theorem dX2_settle_92 : decode cX2_settle 92 = .ok (.goto (-19), 3) := by decide +kernel
theorem dX2_settle_95 : decode cX2_settle 95 = .ok (.aload_n 0, 1) := by decide +kernel
theorem dX2_settle_96 : decode cX2_settle 96 = .ok (.invokevirtual 90, 3) := by decide +kernel
theorem dX2_settle_99 : decode cX2_settle 99 = .ok (.iconst 0, 1) := by decide +kernel
theorem dX2_settle_100 : decode cX2_settle 100 = .ok (.istore_n 3, 1) := by decide +kernel
theorem dX2_settle_101 : decode cX2_settle 101 = .ok (.iload_n 3, 1) := by decide +kernel
theorem dX2_settle_102 : decode cX2_settle 102 = .ok (.aload_n 0, 1) := by decide +kernel
theorem dX2_settle_103 : decode cX2_settle 103 = .ok (.getfield 62, 3) := by decide +kernel
theorem dX2_settle_106 : decode cX2_settle 106 = .ok (.getfield 73, 3) := by decide +kernel
theorem dX2_settle_109 : decode cX2_settle 109 = .ok (.if_icmp .ge 14, 3) := by decide +kernel
theorem dX2_settle_112 : decode cX2_settle 112 = .ok (.aload_n 0, 1) := by decide +kernel
theorem dX2_settle_113 : decode cX2_settle 113 = .ok (.iload_n 3, 1) := by decide +kernel
theorem dX2_settle_114 : decode cX2_settle 114 = .ok (.invokevirtual 93, 3) := by decide +kernel
theorem dX2_settle_117 : decode cX2_settle 117 = .ok (.iinc 3 1, 3) := by decide +kernel
theorem dX2_settle_120 : decode cX2_settle 120 = .ok (.goto (-19), 3) := by decide +kernel
theorem dX2_settle_123 : decode cX2_settle 123 = .ok (.aload_n 0, 1) := by decide +kernel
theorem dX2_settle_124 : decode cX2_settle 124 = .ok (.invokevirtual 96, 3) := by decide +kernel
theorem dX2_settle_127 : decode cX2_settle 127 = .ok (.return_, 1) := by decide +kernel
theorem dX2_isIdle_0 : decode cX2_isIdle 0 = .ok (.aload_n 0, 1) := by decide +kernel
theorem dX2_isIdle_1 : decode cX2_isIdle 1 = .ok (.getfield 36, 3) := by decide +kernel
theorem dX2_isIdle_4 : decode cX2_isIdle 4 = .ok (.iload_n 1, 1) := by decide +kernel
theorem dX2_isIdle_5 : decode cX2_isIdle 5 = .ok (.iaload, 1) := by decide +kernel
theorem dX2_isIdle_6 : decode cX2_isIdle 6 = .ok (.ifCond .ne 7, 3) := by decide +kernel
theorem dX2_isIdle_9 : decode cX2_isIdle 9 = .ok (.iconst 1, 1) := by decide +kernel
theorem dX2_isIdle_10 : decode cX2_isIdle 10 = .ok (.goto 4, 3) := by decide +kernel
theorem dX2_isIdle_13 : decode cX2_isIdle 13 = .ok (.iconst 0, 1) := by decide +kernel
theorem dX2_isIdle_14 : decode cX2_isIdle 14 = .ok (.ireturn, 1) := by decide +kernel
theorem dX2_estimateOf_0 : decode cX2_estimateOf 0 = .ok (.aload_n 0, 1) := by decide +kernel
theorem dX2_estimateOf_1 : decode cX2_estimateOf 1 = .ok (.getfield 62, 3) := by decide +kernel
theorem dX2_estimateOf_4 : decode cX2_estimateOf 4 = .ok (.getfield 99, 3) := by decide +kernel
theorem dX2_estimateOf_7 : decode cX2_estimateOf 7 = .ok (.iload_n 1, 1) := by decide +kernel
theorem dX2_estimateOf_8 : decode cX2_estimateOf 8 = .ok (.iaload, 1) := by decide +kernel
theorem dX2_estimateOf_9 : decode cX2_estimateOf 9 = .ok (.iconst (-1), 1) := by decide +kernel
theorem dX2_estimateOf_10 : decode cX2_estimateOf 10 = .ok (.if_icmp .eq 13, 3) := by decide +kernel
theorem dX2_estimateOf_13 : decode cX2_estimateOf 13 = .ok (.aload_n 0, 1) := by decide +kernel
theorem dX2_estimateOf_14 : decode cX2_estimateOf 14 = .ok (.getfield 62, 3) := by decide +kernel
theorem dX2_estimateOf_17 : decode cX2_estimateOf 17 = .ok (.getfield 99, 3) := by decide +kernel
theorem dX2_estimateOf_20 : decode cX2_estimateOf 20 = .ok (.iload_n 1, 1) := by decide +kernel
theorem dX2_estimateOf_21 : decode cX2_estimateOf 21 = .ok (.iaload, 1) := by decide +kernel
theorem dX2_estimateOf_22 : decode cX2_estimateOf 22 = .ok (.ireturn, 1) := by decide +kernel
theorem dX2_estimateOf_23 : decode cX2_estimateOf 23 = .ok (.aload_n 0, 1) := by decide +kernel
theorem dX2_estimateOf_24 : decode cX2_estimateOf 24 = .ok (.getfield 62, 3) := by decide +kernel
theorem dX2_estimateOf_27 : decode cX2_estimateOf 27 = .ok (.getfield 102, 3) := by decide +kernel
theorem dX2_estimateOf_30 : decode cX2_estimateOf 30 = .ok (.aload_n 0, 1) := by decide +kernel
theorem dX2_estimateOf_31 : decode cX2_estimateOf 31 = .ok (.getfield 62, 3) := by decide +kernel
theorem dX2_estimateOf_34 : decode cX2_estimateOf 34 = .ok (.getfield 105, 3) := by decide +kernel
theorem dX2_estimateOf_37 : decode cX2_estimateOf 37 = .ok (.iload_n 1, 1) := by decide +kernel
theorem dX2_estimateOf_38 : decode cX2_estimateOf 38 = .ok (.iaload, 1) := by decide +kernel
theorem dX2_estimateOf_39 : decode cX2_estimateOf 39 = .ok (.iaload, 1) := by decide +kernel
theorem dX2_estimateOf_40 : decode cX2_estimateOf 40 = .ok (.aload_n 0, 1) := by decide +kernel
theorem dX2_estimateOf_41 : decode cX2_estimateOf 41 = .ok (.getfield 66, 3) := by decide +kernel
theorem dX2_estimateOf_44 : decode cX2_estimateOf 44 = .ok (.getfield 108, 3) := by decide +kernel
theorem dX2_estimateOf_47 : decode cX2_estimateOf 47 = .ok (.iload_n 1, 1) := by decide +kernel
theorem dX2_estimateOf_48 : decode cX2_estimateOf 48 = .ok (.iaload, 1) := by decide +kernel
theorem dX2_estimateOf_49 : decode cX2_estimateOf 49 = .ok (.imul, 1) := by decide +kernel
theorem dX2_estimateOf_50 : decode cX2_estimateOf 50 = .ok (.bipush 99, 2) := by decide +kernel
theorem dX2_estimateOf_52 : decode cX2_estimateOf 52 = .ok (.iadd, 1) := by decide +kernel
theorem dX2_estimateOf_53 : decode cX2_estimateOf 53 = .ok (.bipush 100, 2) := by decide +kernel
theorem dX2_estimateOf_55 : decode cX2_estimateOf 55 = .ok (.idiv, 1) := by decide +kernel
theorem dX2_estimateOf_56 : decode cX2_estimateOf 56 = .ok (.ireturn, 1) := by decide +kernel
theorem dX2_measureParts_0 : decode cX2_measureParts 0 = .ok (.aload_n 0, 1) := by decide +kernel
theorem dX2_measureParts_1 : decode cX2_measureParts 1 = .ok (.getfield 36, 3) := by decide +kernel
theorem dX2_measureParts_4 : decode cX2_measureParts 4 = .ok (.iload_n 1, 1) := by decide +kernel
theorem dX2_measureParts_5 : decode cX2_measureParts 5 = .ok (.iconst 0, 1) := by decide +kernel
theorem dX2_measureParts_6 : decode cX2_measureParts 6 = .ok (.iastore, 1) := by decide +kernel
theorem dX2_measureParts_7 : decode cX2_measureParts 7 = .ok (.iconst 0, 1) := by decide +kernel
theorem dX2_measureParts_8 : decode cX2_measureParts 8 = .ok (.istore_n 2, 1) := by decide +kernel
theorem dX2_measureParts_9 : decode cX2_measureParts 9 = .ok (.iload_n 2, 1) := by decide +kernel
theorem dX2_measureParts_10 : decode cX2_measureParts 10 = .ok (.aload_n 0, 1) := by decide +kernel
theorem dX2_measureParts_11 : decode cX2_measureParts 11 = .ok (.getfield 60, 3) := by decide +kernel
theorem dX2_measureParts_14 : decode cX2_measureParts 14 = .ok (.if_icmp .ge 106, 3) := by decide +kernel
theorem dX2_measureParts_17 : decode cX2_measureParts 17 = .ok (.aload_n 0, 1) := by decide +kernel
theorem dX2_measureParts_18 : decode cX2_measureParts 18 = .ok (.getfield 22, 3) := by decide +kernel
theorem dX2_measureParts_21 : decode cX2_measureParts 21 = .ok (.iload_n 2, 1) := by decide +kernel
theorem dX2_measureParts_22 : decode cX2_measureParts 22 = .ok (.iaload, 1) := by decide +kernel
theorem dX2_measureParts_23 : decode cX2_measureParts 23 = .ok (.istore_n 3, 1) := by decide +kernel
theorem dX2_measureParts_24 : decode cX2_measureParts 24 = .ok (.aload_n 0, 1) := by decide +kernel
theorem dX2_measureParts_25 : decode cX2_measureParts 25 = .ok (.getfield 33, 3) := by decide +kernel
theorem dX2_measureParts_28 : decode cX2_measureParts 28 = .ok (.iload_n 1, 1) := by decide +kernel
theorem dX2_measureParts_29 : decode cX2_measureParts 29 = .ok (.aaload, 1) := by decide +kernel
theorem dX2_measureParts_30 : decode cX2_measureParts 30 = .ok (.iload_n 2, 1) := by decide +kernel
theorem dX2_measureParts_31 : decode cX2_measureParts 31 = .ok (.iconst 0, 1) := by decide +kernel
theorem dX2_measureParts_32 : decode cX2_measureParts 32 = .ok (.iastore, 1) := by decide +kernel
theorem dX2_measureParts_33 : decode cX2_measureParts 33 = .ok (.aload_n 0, 1) := by decide +kernel
theorem dX2_measureParts_34 : decode cX2_measureParts 34 = .ok (.getfield 66, 3) := by decide +kernel
theorem dX2_measureParts_37 : decode cX2_measureParts 37 = .ok (.getfield 113, 3) := by decide +kernel
theorem dX2_measureParts_40 : decode cX2_measureParts 40 = .ok (.iload_n 1, 1) := by decide +kernel
theorem dX2_measureParts_41 : decode cX2_measureParts 41 = .ok (.iaload, 1) := by decide +kernel
theorem dX2_measureParts_42 : decode cX2_measureParts 42 = .ok (.iload_n 3, 1) := by decide +kernel
theorem dX2_measureParts_43 : decode cX2_measureParts 43 = .ok (.ishr, 1) := by decide +kernel
theorem dX2_measureParts_44 : decode cX2_measureParts 44 = .ok (.iconst 1, 1) := by decide +kernel
theorem dX2_measureParts_45 : decode cX2_measureParts 45 = .ok (.iand, 1) := by decide +kernel
theorem dX2_measureParts_46 : decode cX2_measureParts 46 = .ok (.ifCond .eq 51, 3) := by decide +kernel
theorem dX2_measureParts_49 : decode cX2_measureParts 49 = .ok (.aload_n 0, 1) := by decide +kernel
theorem dX2_measureParts_50 : decode cX2_measureParts 50 = .ok (.getfield 62, 3) := by decide +kernel
theorem dX2_measureParts_53 : decode cX2_measureParts 53 = .ok (.aload_n 0, 1) := by decide +kernel
theorem dX2_measureParts_54 : decode cX2_measureParts 54 = .ok (.getfield 66, 3) := by decide +kernel
theorem dX2_measureParts_57 : decode cX2_measureParts 57 = .ok (.getfield 116, 3) := by decide +kernel
theorem dX2_measureParts_60 : decode cX2_measureParts 60 = .ok (.iload_n 1, 1) := by decide +kernel
theorem dX2_measureParts_61 : decode cX2_measureParts 61 = .ok (.aaload, 1) := by decide +kernel
theorem dX2_measureParts_62 : decode cX2_measureParts 62 = .ok (.iload_n 3, 1) := by decide +kernel
theorem dX2_measureParts_63 : decode cX2_measureParts 63 = .ok (.iaload, 1) := by decide +kernel
theorem dX2_measureParts_64 : decode cX2_measureParts 64 = .ok (.aload_n 0, 1) := by decide +kernel
theorem dX2_measureParts_65 : decode cX2_measureParts 65 = .ok (.getfield 66, 3) := by decide +kernel
theorem dX2_measureParts_68 : decode cX2_measureParts 68 = .ok (.getfield 119, 3) := by decide +kernel
theorem dX2_measureParts_71 : decode cX2_measureParts 71 = .ok (.iload_n 1, 1) := by decide +kernel
theorem dX2_measureParts_72 : decode cX2_measureParts 72 = .ok (.aaload, 1) := by decide +kernel
theorem dX2_measureParts_73 : decode cX2_measureParts 73 = .ok (.iload_n 3, 1) := by decide +kernel
theorem dX2_measureParts_74 : decode cX2_measureParts 74 = .ok (.iaload, 1) := by decide +kernel
theorem dX2_measureParts_75 : decode cX2_measureParts 75 = .ok (.invokevirtual 122, 3) := by decide +kernel
theorem dX2_measureParts_78 : decode cX2_measureParts 78 = .ok (.istore 4, 2) := by decide +kernel
theorem dX2_measureParts_80 : decode cX2_measureParts 80 = .ok (.aload_n 0, 1) := by decide +kernel
theorem dX2_measureParts_81 : decode cX2_measureParts 81 = .ok (.getfield 33, 3) := by decide +kernel
theorem dX2_measureParts_84 : decode cX2_measureParts 84 = .ok (.iload_n 1, 1) := by decide +kernel
theorem dX2_measureParts_85 : decode cX2_measureParts 85 = .ok (.aaload, 1) := by decide +kernel
theorem dX2_measureParts_86 : decode cX2_measureParts 86 = .ok (.iload_n 2, 1) := by decide +kernel
theorem dX2_measureParts_87 : decode cX2_measureParts 87 = .ok (.aload_n 0, 1) := by decide +kernel
theorem dX2_measureParts_88 : decode cX2_measureParts 88 = .ok (.getfield 18, 3) := by decide +kernel
theorem dX2_measureParts_91 : decode cX2_measureParts 91 = .ok (.iload_n 2, 1) := by decide +kernel
theorem dX2_measureParts_92 : decode cX2_measureParts 92 = .ok (.iaload, 1) := by decide +kernel
theorem dX2_measureParts_93 : decode cX2_measureParts 93 = .ok (.iload 4, 2) := by decide +kernel
theorem dX2_measureParts_95 : decode cX2_measureParts 95 = .ok (.imul, 1) := by decide +kernel
theorem dX2_measureParts_96 : decode cX2_measureParts 96 = .ok (.iastore, 1) := by decide +kernel
theorem dX2_measureParts_97 : decode cX2_measureParts 97 = .ok (.aload_n 0, 1) := by decide +kernel
theorem dX2_measureParts_98 : decode cX2_measureParts 98 = .ok (.getfield 36, 3) := by decide +kernel
theorem dX2_measureParts_101 : decode cX2_measureParts 101 = .ok (.iload_n 1, 1) := by decide +kernel
theorem dX2_measureParts_102 : decode cX2_measureParts 102 = .ok (.dup2, 1) := by decide +kernel
theorem dX2_measureParts_103 : decode cX2_measureParts 103 = .ok (.iaload, 1) := by decide +kernel
theorem dX2_measureParts_104 : decode cX2_measureParts 104 = .ok (.aload_n 0, 1) := by decide +kernel
theorem dX2_measureParts_105 : decode cX2_measureParts 105 = .ok (.getfield 33, 3) := by decide +kernel
theorem dX2_measureParts_108 : decode cX2_measureParts 108 = .ok (.iload_n 1, 1) := by decide +kernel
theorem dX2_measureParts_109 : decode cX2_measureParts 109 = .ok (.aaload, 1) := by decide +kernel
theorem dX2_measureParts_110 : decode cX2_measureParts 110 = .ok (.iload_n 2, 1) := by decide +kernel
theorem dX2_measureParts_111 : decode cX2_measureParts 111 = .ok (.iaload, 1) := by decide +kernel
theorem dX2_measureParts_112 : decode cX2_measureParts 112 = .ok (.iadd, 1) := by decide +kernel
theorem dX2_measureParts_113 : decode cX2_measureParts 113 = .ok (.iastore, 1) := by decide +kernel
theorem dX2_measureParts_114 : decode cX2_measureParts 114 = .ok (.iinc 2 1, 3) := by decide +kernel
theorem dX2_measureParts_117 : decode cX2_measureParts 117 = .ok (.goto (-108), 3) := by decide +kernel
theorem dX2_measureParts_120 : decode cX2_measureParts 120 = .ok (.return_, 1) := by decide +kernel
theorem dX2_closeTruck_0 : decode cX2_closeTruck 0 = .ok (.aload_n 0, 1) := by decide +kernel
theorem dX2_closeTruck_1 : decode cX2_closeTruck 1 = .ok (.getfield 62, 3) := by decide +kernel
theorem dX2_closeTruck_4 : decode cX2_closeTruck 4 = .ok (.getfield 126, 3) := by decide +kernel
theorem dX2_closeTruck_7 : decode cX2_closeTruck 7 = .ok (.iload_n 1, 1) := by decide +kernel
theorem dX2_closeTruck_8 : decode cX2_closeTruck 8 = .ok (.iaload, 1) := by decide +kernel
theorem dX2_closeTruck_9 : decode cX2_closeTruck 9 = .ok (.istore_n 2, 1) := by decide +kernel
theorem dX2_closeTruck_10 : decode cX2_closeTruck 10 = .ok (.aload_n 0, 1) := by decide +kernel
theorem dX2_closeTruck_11 : decode cX2_closeTruck 11 = .ok (.getfield 62, 3) := by decide +kernel
theorem dX2_closeTruck_14 : decode cX2_closeTruck 14 = .ok (.iload_n 1, 1) := by decide +kernel
theorem dX2_closeTruck_15 : decode cX2_closeTruck 15 = .ok (.invokevirtual 129, 3) := by decide +kernel
theorem dX2_closeTruck_18 : decode cX2_closeTruck 18 = .ok (.istore_n 3, 1) := by decide +kernel
theorem dX2_closeTruck_19 : decode cX2_closeTruck 19 = .ok (.aload_n 0, 1) := by decide +kernel
theorem dX2_closeTruck_20 : decode cX2_closeTruck 20 = .ok (.iload_n 1, 1) := by decide +kernel
theorem dX2_closeTruck_21 : decode cX2_closeTruck 21 = .ok (.invokevirtual 132, 3) := by decide +kernel
theorem dX2_closeTruck_24 : decode cX2_closeTruck 24 = .ok (.ifCond .le 12, 3) := by decide +kernel
theorem dX2_closeTruck_27 : decode cX2_closeTruck 27 = .ok (.iload_n 3, 1) := by decide +kernel
theorem dX2_closeTruck_28 : decode cX2_closeTruck 28 = .ok (.iload_n 2, 1) := by decide +kernel
theorem dX2_closeTruck_29 : decode cX2_closeTruck 29 = .ok (.if_icmp .gt 7, 3) := by decide +kernel
theorem dX2_closeTruck_32 : decode cX2_closeTruck 32 = .ok (.iconst 1, 1) := by decide +kernel
theorem dX2_closeTruck_33 : decode cX2_closeTruck 33 = .ok (.goto 4, 3) := by decide +kernel
theorem dX2_closeTruck_36 : decode cX2_closeTruck 36 = .ok (.iconst 0, 1) := by decide +kernel
theorem dX2_closeTruck_37 : decode cX2_closeTruck 37 = .ok (.istore 4, 2) := by decide +kernel
theorem dX2_closeTruck_39 : decode cX2_closeTruck 39 = .ok (.aload_n 0, 1) := by decide +kernel
theorem dX2_closeTruck_40 : decode cX2_closeTruck 40 = .ok (.getfield 12, 3) := by decide +kernel
theorem dX2_closeTruck_43 : decode cX2_closeTruck 43 = .ok (.invokevirtual 135, 3) := by decide +kernel
theorem dX2_closeTruck_46 : decode cX2_closeTruck 46 = .ok (.iconst 0, 1) := by decide +kernel
theorem dX2_closeTruck_47 : decode cX2_closeTruck 47 = .ok (.istore 5, 2) := by decide +kernel
theorem dX2_closeTruck_49 : decode cX2_closeTruck 49 = .ok (.iload 5, 2) := by decide +kernel
theorem dX2_closeTruck_51 : decode cX2_closeTruck 51 = .ok (.aload_n 0, 1) := by decide +kernel
theorem dX2_closeTruck_52 : decode cX2_closeTruck 52 = .ok (.getfield 62, 3) := by decide +kernel
theorem dX2_closeTruck_55 : decode cX2_closeTruck 55 = .ok (.getfield 73, 3) := by decide +kernel
theorem dX2_closeTruck_58 : decode cX2_closeTruck 58 = .ok (.if_icmp .ge 69, 3) := by decide +kernel
theorem dX2_closeTruck_61 : decode cX2_closeTruck 61 = .ok (.aload_n 0, 1) := by decide +kernel
theorem dX2_closeTruck_62 : decode cX2_closeTruck 62 = .ok (.iload 5, 2) := by decide +kernel
theorem dX2_closeTruck_64 : decode cX2_closeTruck 64 = .ok (.iload_n 1, 1) := by decide +kernel
theorem dX2_closeTruck_65 : decode cX2_closeTruck 65 = .ok (.iload 4, 2) := by decide +kernel
theorem dX2_closeTruck_67 : decode cX2_closeTruck 67 = .ok (.invokevirtual 138, 3) := by decide +kernel
theorem dX2_closeTruck_70 : decode cX2_closeTruck 70 = .ok (.ifCond .eq 20, 3) := by decide +kernel
theorem dX2_closeTruck_73 : decode cX2_closeTruck 73 = .ok (.aload_n 0, 1) := by decide +kernel
theorem dX2_closeTruck_74 : decode cX2_closeTruck 74 = .ok (.getfield 12, 3) := by decide +kernel
theorem dX2_closeTruck_77 : decode cX2_closeTruck 77 = .ok (.aload_n 0, 1) := by decide +kernel
theorem dX2_closeTruck_78 : decode cX2_closeTruck 78 = .ok (.getfield 25, 3) := by decide +kernel
theorem dX2_closeTruck_81 : decode cX2_closeTruck 81 = .ok (.iload 5, 2) := by decide +kernel
theorem dX2_closeTruck_83 : decode cX2_closeTruck 83 = .ok (.iaload, 1) := by decide +kernel
theorem dX2_closeTruck_84 : decode cX2_closeTruck 84 = .ok (.invokevirtual 142, 3) := by decide +kernel
theorem dX2_closeTruck_87 : decode cX2_closeTruck 87 = .ok (.goto 34, 3) := by decide +kernel
theorem dX2_closeTruck_90 : decode cX2_closeTruck 90 = .ok (.aload_n 0, 1) := by decide +kernel
theorem dX2_closeTruck_91 : decode cX2_closeTruck 91 = .ok (.getfield 62, 3) := by decide +kernel
theorem dX2_closeTruck_94 : decode cX2_closeTruck 94 = .ok (.getfield 105, 3) := by decide +kernel
theorem dX2_closeTruck_97 : decode cX2_closeTruck 97 = .ok (.iload 5, 2) := by decide +kernel
theorem dX2_closeTruck_99 : decode cX2_closeTruck 99 = .ok (.iaload, 1) := by decide +kernel
theorem dX2_closeTruck_100 : decode cX2_closeTruck 100 = .ok (.iload_n 1, 1) := by decide +kernel
theorem dX2_closeTruck_101 : decode cX2_closeTruck 101 = .ok (.if_icmp .ne 20, 3) := by decide +kernel
theorem dX2_closeTruck_104 : decode cX2_closeTruck 104 = .ok (.aload_n 0, 1) := by decide +kernel
theorem dX2_closeTruck_105 : decode cX2_closeTruck 105 = .ok (.getfield 28, 3) := by decide +kernel
theorem dX2_closeTruck_108 : decode cX2_closeTruck 108 = .ok (.iload 5, 2) := by decide +kernel
theorem dX2_closeTruck_110 : decode cX2_closeTruck 110 = .ok (.aload_n 0, 1) := by decide +kernel
theorem dX2_closeTruck_111 : decode cX2_closeTruck 111 = .ok (.getfield 62, 3) := by decide +kernel
theorem dX2_closeTruck_114 : decode cX2_closeTruck 114 = .ok (.getfield 99, 3) := by decide +kernel
theorem dX2_closeTruck_117 : decode cX2_closeTruck 117 = .ok (.iload 5, 2) := by decide +kernel
theorem dX2_closeTruck_119 : decode cX2_closeTruck 119 = .ok (.iaload, 1) := by decide +kernel
theorem dX2_closeTruck_120 : decode cX2_closeTruck 120 = .ok (.iastore, 1) := by decide +kernel
theorem dX2_closeTruck_121 : decode cX2_closeTruck 121 = .ok (.iinc 5 1, 3) := by decide +kernel
theorem dX2_closeTruck_124 : decode cX2_closeTruck 124 = .ok (.goto (-75), 3) := by decide +kernel
theorem dX2_closeTruck_127 : decode cX2_closeTruck 127 = .ok (.aload_n 0, 1) := by decide +kernel
theorem dX2_closeTruck_128 : decode cX2_closeTruck 128 = .ok (.getfield 12, 3) := by decide +kernel
theorem dX2_closeTruck_131 : decode cX2_closeTruck 131 = .ok (.getfield 145, 3) := by decide +kernel
theorem dX2_closeTruck_134 : decode cX2_closeTruck 134 = .ok (.ifCond .ne 14, 3) := by decide +kernel
theorem dX2_closeTruck_137 : decode cX2_closeTruck 137 = .ok (.aload_n 0, 1) := by decide +kernel
theorem dX2_closeTruck_138 : decode cX2_closeTruck 138 = .ok (.dup, 1) := by decide +kernel
theorem dX2_closeTruck_139 : decode cX2_closeTruck 139 = .ok (.getfield 70, 3) := by decide +kernel
theorem dX2_closeTruck_142 : decode cX2_closeTruck 142 = .ok (.iload_n 2, 1) := by decide +kernel
theorem dX2_closeTruck_143 : decode cX2_closeTruck 143 = .ok (.iadd, 1) := by decide +kernel
theorem dX2_closeTruck_144 : decode cX2_closeTruck 144 = .ok (.putfield 70, 3) := by decide +kernel
theorem dX2_closeTruck_147 : decode cX2_closeTruck 147 = .ok (.return_, 1) := by decide +kernel
theorem dX2_closeTruck_148 : decode cX2_closeTruck 148 = .ok (.aload_n 0, 1) := by decide +kernel
theorem dX2_closeTruck_149 : decode cX2_closeTruck 149 = .ok (.getfield 12, 3) := by decide +kernel
theorem dX2_closeTruck_152 : decode cX2_closeTruck 152 = .ok (.iload 4, 2) := by decide +kernel
theorem dX2_closeTruck_154 : decode cX2_closeTruck 154 = .ok (.ifCond .eq 9, 3) := by decide +kernel
theorem dX2_closeTruck_157 : decode cX2_closeTruck 157 = .ok (.iload_n 2, 1) := by decide +kernel
theorem dX2_closeTruck_158 : decode cX2_closeTruck 158 = .ok (.iload_n 3, 1) := by decide +kernel
theorem dX2_closeTruck_159 : decode cX2_closeTruck 159 = .ok (.isub, 1) := by decide +kernel
theorem dX2_closeTruck_160 : decode cX2_closeTruck 160 = .ok (.goto 4, 3) := by decide +kernel
theorem dX2_closeTruck_163 : decode cX2_closeTruck 163 = .ok (.iload_n 2, 1) := by decide +kernel
theorem dX2_closeTruck_164 : decode cX2_closeTruck 164 = .ok (.invokevirtual 148, 3) := by decide +kernel
theorem dX2_closeTruck_167 : decode cX2_closeTruck 167 = .ok (.iconst 0, 1) := by decide +kernel
theorem dX2_closeTruck_168 : decode cX2_closeTruck 168 = .ok (.istore 5, 2) := by decide +kernel
theorem dX2_closeTruck_170 : decode cX2_closeTruck 170 = .ok (.iconst 0, 1) := by decide +kernel
theorem dX2_closeTruck_171 : decode cX2_closeTruck 171 = .ok (.istore 6, 2) := by decide +kernel
theorem dX2_closeTruck_173 : decode cX2_closeTruck 173 = .ok (.iload 6, 2) := by decide +kernel
theorem dX2_closeTruck_175 : decode cX2_closeTruck 175 = .ok (.aload_n 0, 1) := by decide +kernel
theorem dX2_closeTruck_176 : decode cX2_closeTruck 176 = .ok (.getfield 62, 3) := by decide +kernel
theorem dX2_closeTruck_179 : decode cX2_closeTruck 179 = .ok (.getfield 73, 3) := by decide +kernel
theorem dX2_closeTruck_182 : decode cX2_closeTruck 182 = .ok (.if_icmp .ge 53, 3) := by decide +kernel
theorem dX2_closeTruck_185 : decode cX2_closeTruck 185 = .ok (.iload 5, 2) := by decide +kernel
theorem dX2_closeTruck_187 : decode cX2_closeTruck 187 = .ok (.aload_n 0, 1) := by decide +kernel
theorem dX2_closeTruck_188 : decode cX2_closeTruck 188 = .ok (.getfield 12, 3) := by decide +kernel
theorem dX2_closeTruck_191 : decode cX2_closeTruck 191 = .ok (.getfield 145, 3) := by decide +kernel
theorem dX2_closeTruck_194 : decode cX2_closeTruck 194 = .ok (.if_icmp .ge 41, 3) := by decide +kernel
theorem dX2_closeTruck_197 : decode cX2_closeTruck 197 = .ok (.aload_n 0, 1) := by decide +kernel
theorem dX2_closeTruck_198 : decode cX2_closeTruck 198 = .ok (.iload 6, 2) := by decide +kernel
theorem dX2_closeTruck_200 : decode cX2_closeTruck 200 = .ok (.iload_n 1, 1) := by decide +kernel
theorem dX2_closeTruck_201 : decode cX2_closeTruck 201 = .ok (.iload 4, 2) := by decide +kernel
theorem dX2_closeTruck_203 : decode cX2_closeTruck 203 = .ok (.invokevirtual 138, 3) := by decide +kernel
theorem dX2_closeTruck_206 : decode cX2_closeTruck 206 = .ok (.ifCond .eq 23, 3) := by decide +kernel
theorem dX2_closeTruck_209 : decode cX2_closeTruck 209 = .ok (.aload_n 0, 1) := by decide +kernel
theorem dX2_closeTruck_210 : decode cX2_closeTruck 210 = .ok (.getfield 28, 3) := by decide +kernel
theorem dX2_closeTruck_213 : decode cX2_closeTruck 213 = .ok (.iload 6, 2) := by decide +kernel
theorem dX2_closeTruck_215 : decode cX2_closeTruck 215 = .ok (.aload_n 0, 1) := by decide +kernel
theorem dX2_closeTruck_216 : decode cX2_closeTruck 216 = .ok (.getfield 12, 3) := by decide +kernel
theorem dX2_closeTruck_219 : decode cX2_closeTruck 219 = .ok (.getfield 151, 3) := by decide +kernel
theorem dX2_closeTruck_222 : decode cX2_closeTruck 222 = .ok (.iload 5, 2) := by decide +kernel
theorem dX2_closeTruck_224 : decode cX2_closeTruck 224 = .ok (.iaload, 1) := by decide +kernel
theorem dX2_closeTruck_225 : decode cX2_closeTruck 225 = .ok (.iastore, 1) := by decide +kernel
theorem dX2_closeTruck_226 : decode cX2_closeTruck 226 = .ok (.iinc 5 1, 3) := by decide +kernel
theorem dX2_closeTruck_229 : decode cX2_closeTruck 229 = .ok (.iinc 6 1, 3) := by decide +kernel
theorem dX2_closeTruck_232 : decode cX2_closeTruck 232 = .ok (.goto (-59), 3) := by decide +kernel
theorem dX2_closeTruck_235 : decode cX2_closeTruck 235 = .ok (.return_, 1) := by decide +kernel
theorem dX2_isParted_0 : decode cX2_isParted 0 = .ok (.aload_n 0, 1) := by decide +kernel
theorem dX2_isParted_1 : decode cX2_isParted 1 = .ok (.getfield 62, 3) := by decide +kernel
theorem dX2_isParted_4 : decode cX2_isParted 4 = .ok (.getfield 105, 3) := by decide +kernel
theorem dX2_isParted_7 : decode cX2_isParted 7 = .ok (.iload_n 1, 1) := by decide +kernel
theorem dX2_isParted_8 : decode cX2_isParted 8 = .ok (.iaload, 1) := by decide +kernel
theorem dX2_isParted_9 : decode cX2_isParted 9 = .ok (.iload_n 2, 1) := by decide +kernel
theorem dX2_isParted_10 : decode cX2_isParted 10 = .ok (.if_icmp .ne 24, 3) := by decide +kernel
theorem dX2_isParted_13 : decode cX2_isParted 13 = .ok (.iload_n 3, 1) := by decide +kernel
theorem dX2_isParted_14 : decode cX2_isParted 14 = .ok (.ifCond .eq 16, 3) := by decide +kernel
theorem dX2_isParted_17 : decode cX2_isParted 17 = .ok (.aload_n 0, 1) := by decide +kernel
theorem dX2_isParted_18 : decode cX2_isParted 18 = .ok (.getfield 62, 3) := by decide +kernel
theorem dX2_isParted_21 : decode cX2_isParted 21 = .ok (.getfield 99, 3) := by decide +kernel
theorem dX2_isParted_24 : decode cX2_isParted 24 = .ok (.iload_n 1, 1) := by decide +kernel
theorem dX2_isParted_25 : decode cX2_isParted 25 = .ok (.iaload, 1) := by decide +kernel
theorem dX2_isParted_26 : decode cX2_isParted 26 = .ok (.iconst (-1), 1) := by decide +kernel
theorem dX2_isParted_27 : decode cX2_isParted 27 = .ok (.if_icmp .ne 7, 3) := by decide +kernel
theorem dX2_isParted_30 : decode cX2_isParted 30 = .ok (.iconst 1, 1) := by decide +kernel
theorem dX2_isParted_31 : decode cX2_isParted 31 = .ok (.goto 4, 3) := by decide +kernel
theorem dX2_isParted_34 : decode cX2_isParted 34 = .ok (.iconst 0, 1) := by decide +kernel
theorem dX2_isParted_35 : decode cX2_isParted 35 = .ok (.ireturn, 1) := by decide +kernel
theorem dX2_sumOfMissing_0 : decode cX2_sumOfMissing 0 = .ok (.iconst 0, 1) := by decide +kernel
theorem dX2_sumOfMissing_1 : decode cX2_sumOfMissing 1 = .ok (.istore_n 2, 1) := by decide +kernel
theorem dX2_sumOfMissing_2 : decode cX2_sumOfMissing 2 = .ok (.iconst 0, 1) := by decide +kernel
theorem dX2_sumOfMissing_3 : decode cX2_sumOfMissing 3 = .ok (.istore_n 3, 1) := by decide +kernel
theorem dX2_sumOfMissing_4 : decode cX2_sumOfMissing 4 = .ok (.iload_n 3, 1) := by decide +kernel
theorem dX2_sumOfMissing_5 : decode cX2_sumOfMissing 5 = .ok (.aload_n 0, 1) := by decide +kernel
theorem dX2_sumOfMissing_6 : decode cX2_sumOfMissing 6 = .ok (.getfield 62, 3) := by decide +kernel
theorem dX2_sumOfMissing_9 : decode cX2_sumOfMissing 9 = .ok (.getfield 73, 3) := by decide +kernel
theorem dX2_sumOfMissing_12 : decode cX2_sumOfMissing 12 = .ok (.if_icmp .ge 44, 3) := by decide +kernel
theorem dX2_sumOfMissing_15 : decode cX2_sumOfMissing 15 = .ok (.aload_n 0, 1) := by decide +kernel
theorem dX2_sumOfMissing_16 : decode cX2_sumOfMissing 16 = .ok (.getfield 62, 3) := by decide +kernel
theorem dX2_sumOfMissing_19 : decode cX2_sumOfMissing 19 = .ok (.getfield 105, 3) := by decide +kernel
theorem dX2_sumOfMissing_22 : decode cX2_sumOfMissing 22 = .ok (.iload_n 3, 1) := by decide +kernel
theorem dX2_sumOfMissing_23 : decode cX2_sumOfMissing 23 = .ok (.iaload, 1) := by decide +kernel
theorem dX2_sumOfMissing_24 : decode cX2_sumOfMissing 24 = .ok (.iload_n 1, 1) := by decide +kernel
theorem dX2_sumOfMissing_25 : decode cX2_sumOfMissing 25 = .ok (.if_icmp .ne 25, 3) := by decide +kernel
theorem dX2_sumOfMissing_28 : decode cX2_sumOfMissing 28 = .ok (.aload_n 0, 1) := by decide +kernel
theorem dX2_sumOfMissing_29 : decode cX2_sumOfMissing 29 = .ok (.getfield 62, 3) := by decide +kernel
theorem dX2_sumOfMissing_32 : decode cX2_sumOfMissing 32 = .ok (.getfield 99, 3) := by decide +kernel
theorem dX2_sumOfMissing_35 : decode cX2_sumOfMissing 35 = .ok (.iload_n 3, 1) := by decide +kernel
theorem dX2_sumOfMissing_36 : decode cX2_sumOfMissing 36 = .ok (.iaload, 1) := by decide +kernel
theorem dX2_sumOfMissing_37 : decode cX2_sumOfMissing 37 = .ok (.iconst (-1), 1) := by decide +kernel
theorem dX2_sumOfMissing_38 : decode cX2_sumOfMissing 38 = .ok (.if_icmp .ne 12, 3) := by decide +kernel
theorem dX2_sumOfMissing_41 : decode cX2_sumOfMissing 41 = .ok (.iload_n 2, 1) := by decide +kernel
theorem dX2_sumOfMissing_42 : decode cX2_sumOfMissing 42 = .ok (.aload_n 0, 1) := by decide +kernel
theorem dX2_sumOfMissing_43 : decode cX2_sumOfMissing 43 = .ok (.getfield 25, 3) := by decide +kernel
theorem dX2_sumOfMissing_46 : decode cX2_sumOfMissing 46 = .ok (.iload_n 3, 1) := by decide +kernel
theorem dX2_sumOfMissing_47 : decode cX2_sumOfMissing 47 = .ok (.iaload, 1) := by decide +kernel
theorem dX2_sumOfMissing_48 : decode cX2_sumOfMissing 48 = .ok (.iadd, 1) := by decide +kernel
theorem dX2_sumOfMissing_49 : decode cX2_sumOfMissing 49 = .ok (.istore_n 2, 1) := by decide +kernel
theorem dX2_sumOfMissing_50 : decode cX2_sumOfMissing 50 = .ok (.iinc 3 1, 3) := by decide +kernel
theorem dX2_sumOfMissing_53 : decode cX2_sumOfMissing 53 = .ok (.goto (-49), 3) := by decide +kernel
theorem dX2_sumOfMissing_56 : decode cX2_sumOfMissing 56 = .ok (.iload_n 2, 1) := by decide +kernel
theorem dX2_sumOfMissing_57 : decode cX2_sumOfMissing 57 = .ok (.ireturn, 1) := by decide +kernel
theorem dX2_gatherIdle_0 : decode cX2_gatherIdle 0 = .ok (.iconst 0, 1) := by decide +kernel
theorem dX2_gatherIdle_1 : decode cX2_gatherIdle 1 = .ok (.istore_n 1, 1) := by decide +kernel
theorem dX2_gatherIdle_2 : decode cX2_gatherIdle 2 = .ok (.iload_n 1, 1) := by decide +kernel
theorem dX2_gatherIdle_3 : decode cX2_gatherIdle 3 = .ok (.aload_n 0, 1) := by decide +kernel
theorem dX2_gatherIdle_4 : decode cX2_gatherIdle 4 = .ok (.getfield 62, 3) := by decide +kernel
theorem dX2_gatherIdle_7 : decode cX2_gatherIdle 7 = .ok (.getfield 73, 3) := by decide +kernel
theorem dX2_gatherIdle_10 : decode cX2_gatherIdle 10 = .ok (.if_icmp .ge 16, 3) := by decide +kernel
theorem dX2_gatherIdle_13 : decode cX2_gatherIdle 13 = .ok (.aload_n 0, 1) := by decide +kernel
theorem dX2_gatherIdle_14 : decode cX2_gatherIdle 14 = .ok (.getfield 42, 3) := by decide +kernel
theorem dX2_gatherIdle_17 : decode cX2_gatherIdle 17 = .ok (.iload_n 1, 1) := by decide +kernel
theorem dX2_gatherIdle_18 : decode cX2_gatherIdle 18 = .ok (.iconst 0, 1) := by decide +kernel
theorem dX2_gatherIdle_19 : decode cX2_gatherIdle 19 = .ok (.iastore, 1) := by decide +kernel
theorem dX2_gatherIdle_20 : decode cX2_gatherIdle 20 = .ok (.iinc 1 1, 3) := by decide +kernel
theorem dX2_gatherIdle_23 : decode cX2_gatherIdle 23 = .ok (.goto (-21), 3) := by decide +kernel
theorem dX2_gatherIdle_26 : decode cX2_gatherIdle 26 = .ok (.iconst 0, 1) := by decide +kernel
theorem dX2_gatherIdle_27 : decode cX2_gatherIdle 27 = .ok (.istore_n 1, 1) := by decide +kernel
theorem dX2_gatherIdle_28 : decode cX2_gatherIdle 28 = .ok (.iload_n 1, 1) := by decide +kernel
theorem dX2_gatherIdle_29 : decode cX2_gatherIdle 29 = .ok (.aload_n 0, 1) := by decide +kernel
theorem dX2_gatherIdle_30 : decode cX2_gatherIdle 30 = .ok (.getfield 62, 3) := by decide +kernel
theorem dX2_gatherIdle_33 : decode cX2_gatherIdle 33 = .ok (.getfield 73, 3) := by decide +kernel
theorem dX2_gatherIdle_36 : decode cX2_gatherIdle 36 = .ok (.if_icmp .ge 93, 3) := by decide +kernel
theorem dX2_gatherIdle_39 : decode cX2_gatherIdle 39 = .ok (.aload_n 0, 1) := by decide +kernel
theorem dX2_gatherIdle_40 : decode cX2_gatherIdle 40 = .ok (.getfield 39, 3) := by decide +kernel
theorem dX2_gatherIdle_43 : decode cX2_gatherIdle 43 = .ok (.iload_n 1, 1) := by decide +kernel
theorem dX2_gatherIdle_44 : decode cX2_gatherIdle 44 = .ok (.iconst (-1), 1) := by decide +kernel
theorem dX2_gatherIdle_45 : decode cX2_gatherIdle 45 = .ok (.iastore, 1) := by decide +kernel
theorem dX2_gatherIdle_46 : decode cX2_gatherIdle 46 = .ok (.aload_n 0, 1) := by decide +kernel
theorem dX2_gatherIdle_47 : decode cX2_gatherIdle 47 = .ok (.iload_n 1, 1) := by decide +kernel
theorem dX2_gatherIdle_48 : decode cX2_gatherIdle 48 = .ok (.invokevirtual 154, 3) := by decide +kernel
theorem dX2_gatherIdle_51 : decode cX2_gatherIdle 51 = .ok (.ifCond .ne 21, 3) := by decide +kernel
theorem dX2_gatherIdle_54 : decode cX2_gatherIdle 54 = .ok (.aload_n 0, 1) := by decide +kernel
theorem dX2_gatherIdle_55 : decode cX2_gatherIdle 55 = .ok (.getfield 42, 3) := by decide +kernel
theorem dX2_gatherIdle_58 : decode cX2_gatherIdle 58 = .ok (.iload_n 1, 1) := by decide +kernel
theorem dX2_gatherIdle_59 : decode cX2_gatherIdle 59 = .ok (.dup2, 1) := by decide +kernel
theorem dX2_gatherIdle_60 : decode cX2_gatherIdle 60 = .ok (.iaload, 1) := by decide +kernel
theorem dX2_gatherIdle_61 : decode cX2_gatherIdle 61 = .ok (.aload_n 0, 1) := by decide +kernel
theorem dX2_gatherIdle_62 : decode cX2_gatherIdle 62 = .ok (.getfield 28, 3) := by decide +kernel
theorem dX2_gatherIdle_65 : decode cX2_gatherIdle 65 = .ok (.iload_n 1, 1) := by decide +kernel
theorem dX2_gatherIdle_66 : decode cX2_gatherIdle 66 = .ok (.iaload, 1) := by decide +kernel
theorem dX2_gatherIdle_67 : decode cX2_gatherIdle 67 = .ok (.iadd, 1) := by decide +kernel
theorem dX2_gatherIdle_68 : decode cX2_gatherIdle 68 = .ok (.iastore, 1) := by decide +kernel
theorem dX2_gatherIdle_69 : decode cX2_gatherIdle 69 = .ok (.goto 54, 3) := by decide +kernel
theorem dX2_gatherIdle_72 : decode cX2_gatherIdle 72 = .ok (.aload_n 0, 1) := by decide +kernel
theorem dX2_gatherIdle_73 : decode cX2_gatherIdle 73 = .ok (.iload_n 1, 1) := by decide +kernel
theorem dX2_gatherIdle_74 : decode cX2_gatherIdle 74 = .ok (.invokevirtual 158, 3) := by decide +kernel
theorem dX2_gatherIdle_77 : decode cX2_gatherIdle 77 = .ok (.istore_n 2, 1) := by decide +kernel
theorem dX2_gatherIdle_78 : decode cX2_gatherIdle 78 = .ok (.aload_n 0, 1) := by decide +kernel
theorem dX2_gatherIdle_79 : decode cX2_gatherIdle 79 = .ok (.getfield 39, 3) := by decide +kernel
theorem dX2_gatherIdle_82 : decode cX2_gatherIdle 82 = .ok (.iload_n 1, 1) := by decide +kernel
theorem dX2_gatherIdle_83 : decode cX2_gatherIdle 83 = .ok (.iload_n 2, 1) := by decide +kernel
theorem dX2_gatherIdle_84 : decode cX2_gatherIdle 84 = .ok (.iastore, 1) := by decide +kernel
theorem dX2_gatherIdle_85 : decode cX2_gatherIdle 85 = .ok (.iload_n 2, 1) := by decide +kernel
theorem dX2_gatherIdle_86 : decode cX2_gatherIdle 86 = .ok (.iconst (-1), 1) := by decide +kernel
theorem dX2_gatherIdle_87 : decode cX2_gatherIdle 87 = .ok (.if_icmp .ne 21, 3) := by decide +kernel
theorem dX2_gatherIdle_90 : decode cX2_gatherIdle 90 = .ok (.aload_n 0, 1) := by decide +kernel
theorem dX2_gatherIdle_91 : decode cX2_gatherIdle 91 = .ok (.dup, 1) := by decide +kernel
theorem dX2_gatherIdle_92 : decode cX2_gatherIdle 92 = .ok (.getfield 70, 3) := by decide +kernel
theorem dX2_gatherIdle_95 : decode cX2_gatherIdle 95 = .ok (.aload_n 0, 1) := by decide +kernel
theorem dX2_gatherIdle_96 : decode cX2_gatherIdle 96 = .ok (.getfield 28, 3) := by decide +kernel
theorem dX2_gatherIdle_99 : decode cX2_gatherIdle 99 = .ok (.iload_n 1, 1) := by decide +kernel
theorem dX2_gatherIdle_100 : decode cX2_gatherIdle 100 = .ok (.iaload, 1) := by decide +kernel
theorem dX2_gatherIdle_101 : decode cX2_gatherIdle 101 = .ok (.iadd, 1) := by decide +kernel
theorem dX2_gatherIdle_102 : decode cX2_gatherIdle 102 = .ok (.putfield 70, 3) := by decide +kernel
theorem dX2_gatherIdle_105 : decode cX2_gatherIdle 105 = .ok (.goto 18, 3) := by decide +kernel
theorem dX2_gatherIdle_108 : decode cX2_gatherIdle 108 = .ok (.aload_n 0, 1) := by decide +kernel
theorem dX2_gatherIdle_109 : decode cX2_gatherIdle 109 = .ok (.getfield 42, 3) := by decide +kernel
theorem dX2_gatherIdle_112 : decode cX2_gatherIdle 112 = .ok (.iload_n 2, 1) := by decide +kernel
theorem dX2_gatherIdle_113 : decode cX2_gatherIdle 113 = .ok (.dup2, 1) := by decide +kernel
theorem dX2_gatherIdle_114 : decode cX2_gatherIdle 114 = .ok (.iaload, 1) := by decide +kernel
theorem dX2_gatherIdle_115 : decode cX2_gatherIdle 115 = .ok (.aload_n 0, 1) := by decide +kernel
theorem dX2_gatherIdle_116 : decode cX2_gatherIdle 116 = .ok (.getfield 28, 3) := by decide +kernel
theorem dX2_gatherIdle_119 : decode cX2_gatherIdle 119 = .ok (.iload_n 1, 1) := by decide +kernel
theorem dX2_gatherIdle_120 : decode cX2_gatherIdle 120 = .ok (.iaload, 1) := by decide +kernel
theorem dX2_gatherIdle_121 : decode cX2_gatherIdle 121 = .ok (.iadd, 1) := by decide +kernel
theorem dX2_gatherIdle_122 : decode cX2_gatherIdle 122 = .ok (.iastore, 1) := by decide +kernel
theorem dX2_gatherIdle_123 : decode cX2_gatherIdle 123 = .ok (.iinc 1 1, 3) := by decide +kernel
theorem dX2_gatherIdle_126 : decode cX2_gatherIdle 126 = .ok (.goto (-98), 3) := by decide +kernel
theorem dX2_gatherIdle_129 : decode cX2_gatherIdle 129 = .ok (.return_, 1) := by decide +kernel
theorem dX2_heirOf_0 : decode cX2_heirOf 0 = .ok (.aload_n 0, 1) := by decide +kernel
theorem dX2_heirOf_1 : decode cX2_heirOf 1 = .ok (.getfield 62, 3) := by decide +kernel
theorem dX2_heirOf_4 : decode cX2_heirOf 4 = .ok (.getfield 105, 3) := by decide +kernel
theorem dX2_heirOf_7 : decode cX2_heirOf 7 = .ok (.iload_n 1, 1) := by decide +kernel
theorem dX2_heirOf_8 : decode cX2_heirOf 8 = .ok (.iaload, 1) := by decide +kernel
theorem dX2_heirOf_9 : decode cX2_heirOf 9 = .ok (.istore_n 2, 1) := by decide +kernel
theorem dX2_heirOf_10 : decode cX2_heirOf 10 = .ok (.iload_n 1, 1) := by decide +kernel
theorem dX2_heirOf_11 : decode cX2_heirOf 11 = .ok (.iconst 1, 1) := by decide +kernel
theorem dX2_heirOf_12 : decode cX2_heirOf 12 = .ok (.isub, 1) := by decide +kernel
theorem dX2_heirOf_13 : decode cX2_heirOf 13 = .ok (.istore_n 3, 1) := by decide +kernel
theorem dX2_heirOf_14 : decode cX2_heirOf 14 = .ok (.iload_n 3, 1) := by decide +kernel
theorem dX2_heirOf_15 : decode cX2_heirOf 15 = .ok (.ifCond .lt 32, 3) := by decide +kernel
theorem dX2_heirOf_18 : decode cX2_heirOf 18 = .ok (.aload_n 0, 1) := by decide +kernel
theorem dX2_heirOf_19 : decode cX2_heirOf 19 = .ok (.getfield 62, 3) := by decide +kernel
theorem dX2_heirOf_22 : decode cX2_heirOf 22 = .ok (.getfield 105, 3) := by decide +kernel
theorem dX2_heirOf_25 : decode cX2_heirOf 25 = .ok (.iload_n 3, 1) := by decide +kernel
theorem dX2_heirOf_26 : decode cX2_heirOf 26 = .ok (.iaload, 1) := by decide +kernel
theorem dX2_heirOf_27 : decode cX2_heirOf 27 = .ok (.iload_n 2, 1) := by decide +kernel
theorem dX2_heirOf_28 : decode cX2_heirOf 28 = .ok (.if_icmp .ne 13, 3) := by decide +kernel
theorem dX2_heirOf_31 : decode cX2_heirOf 31 = .ok (.aload_n 0, 1) := by decide +kernel
theorem dX2_heirOf_32 : decode cX2_heirOf 32 = .ok (.iload_n 3, 1) := by decide +kernel
theorem dX2_heirOf_33 : decode cX2_heirOf 33 = .ok (.invokevirtual 154, 3) := by decide +kernel
theorem dX2_heirOf_36 : decode cX2_heirOf 36 = .ok (.ifCond .ne 5, 3) := by decide +kernel
theorem dX2_heirOf_39 : decode cX2_heirOf 39 = .ok (.iload_n 3, 1) := by decide +kernel
theorem dX2_heirOf_40 : decode cX2_heirOf 40 = .ok (.ireturn, 1) := by decide +kernel
theorem dX2_heirOf_41 : decode cX2_heirOf 41 = .ok (.iinc 3 (-1), 3) := by decide +kernel
theorem dX2_heirOf_44 : decode cX2_heirOf 44 = .ok (.goto (-30), 3) := by decide +kernel
theorem dX2_heirOf_47 : decode cX2_heirOf 47 = .ok (.iload_n 1, 1) := by decide +kernel
theorem dX2_heirOf_48 : decode cX2_heirOf 48 = .ok (.iconst 1, 1) := by decide +kernel
theorem dX2_heirOf_49 : decode cX2_heirOf 49 = .ok (.iadd, 1) := by decide +kernel
theorem dX2_heirOf_50 : decode cX2_heirOf 50 = .ok (.istore_n 3, 1) := by decide +kernel
theorem dX2_heirOf_51 : decode cX2_heirOf 51 = .ok (.iload_n 3, 1) := by decide +kernel
theorem dX2_heirOf_52 : decode cX2_heirOf 52 = .ok (.aload_n 0, 1) := by decide +kernel
theorem dX2_heirOf_53 : decode cX2_heirOf 53 = .ok (.getfield 62, 3) := by decide +kernel
theorem dX2_heirOf_56 : decode cX2_heirOf 56 = .ok (.getfield 73, 3) := by decide +kernel
theorem dX2_heirOf_59 : decode cX2_heirOf 59 = .ok (.if_icmp .ge 32, 3) := by decide +kernel
theorem dX2_heirOf_62 : decode cX2_heirOf 62 = .ok (.aload_n 0, 1) := by decide +kernel
theorem dX2_heirOf_63 : decode cX2_heirOf 63 = .ok (.getfield 62, 3) := by decide +kernel
theorem dX2_heirOf_66 : decode cX2_heirOf 66 = .ok (.getfield 105, 3) := by decide +kernel
theorem dX2_heirOf_69 : decode cX2_heirOf 69 = .ok (.iload_n 3, 1) := by decide +kernel
theorem dX2_heirOf_70 : decode cX2_heirOf 70 = .ok (.iaload, 1) := by decide +kernel
theorem dX2_heirOf_71 : decode cX2_heirOf 71 = .ok (.iload_n 2, 1) := by decide +kernel
theorem dX2_heirOf_72 : decode cX2_heirOf 72 = .ok (.if_icmp .ne 13, 3) := by decide +kernel
theorem dX2_heirOf_75 : decode cX2_heirOf 75 = .ok (.aload_n 0, 1) := by decide +kernel
theorem dX2_heirOf_76 : decode cX2_heirOf 76 = .ok (.iload_n 3, 1) := by decide +kernel
theorem dX2_heirOf_77 : decode cX2_heirOf 77 = .ok (.invokevirtual 154, 3) := by decide +kernel
theorem dX2_heirOf_80 : decode cX2_heirOf 80 = .ok (.ifCond .ne 5, 3) := by decide +kernel
theorem dX2_heirOf_83 : decode cX2_heirOf 83 = .ok (.iload_n 3, 1) := by decide +kernel
theorem dX2_heirOf_84 : decode cX2_heirOf 84 = .ok (.ireturn, 1) := by decide +kernel
theorem dX2_heirOf_85 : decode cX2_heirOf 85 = .ok (.iinc 3 1, 3) := by decide +kernel
theorem dX2_heirOf_88 : decode cX2_heirOf 88 = .ok (.goto (-37), 3) := by decide +kernel
theorem dX2_heirOf_91 : decode cX2_heirOf 91 = .ok (.iconst (-1), 1) := by decide +kernel
theorem dX2_heirOf_92 : decode cX2_heirOf 92 = .ok (.ireturn, 1) := by decide +kernel
theorem dX2_partTrip_0 : decode cX2_partTrip 0 = .ok (.aload_n 0, 1) := by decide +kernel
theorem dX2_partTrip_1 : decode cX2_partTrip 1 = .ok (.iload_n 1, 1) := by decide +kernel
theorem dX2_partTrip_2 : decode cX2_partTrip 2 = .ok (.invokevirtual 154, 3) := by decide +kernel
theorem dX2_partTrip_5 : decode cX2_partTrip 5 = .ok (.istore_n 2, 1) := by decide +kernel
theorem dX2_partTrip_6 : decode cX2_partTrip 6 = .ok (.iload_n 2, 1) := by decide +kernel
theorem dX2_partTrip_7 : decode cX2_partTrip 7 = .ok (.ifCond .ne 54, 3) := by decide +kernel
theorem dX2_partTrip_10 : decode cX2_partTrip 10 = .ok (.aload_n 0, 1) := by decide +kernel
theorem dX2_partTrip_11 : decode cX2_partTrip 11 = .ok (.getfield 12, 3) := by decide +kernel
theorem dX2_partTrip_14 : decode cX2_partTrip 14 = .ok (.invokevirtual 135, 3) := by decide +kernel
theorem dX2_partTrip_17 : decode cX2_partTrip 17 = .ok (.iconst 0, 1) := by decide +kernel
theorem dX2_partTrip_18 : decode cX2_partTrip 18 = .ok (.istore_n 3, 1) := by decide +kernel
theorem dX2_partTrip_19 : decode cX2_partTrip 19 = .ok (.iload_n 3, 1) := by decide +kernel
theorem dX2_partTrip_20 : decode cX2_partTrip 20 = .ok (.aload_n 0, 1) := by decide +kernel
theorem dX2_partTrip_21 : decode cX2_partTrip 21 = .ok (.getfield 60, 3) := by decide +kernel
theorem dX2_partTrip_24 : decode cX2_partTrip 24 = .ok (.if_icmp .ge 24, 3) := by decide +kernel
theorem dX2_partTrip_27 : decode cX2_partTrip 27 = .ok (.aload_n 0, 1) := by decide +kernel
theorem dX2_partTrip_28 : decode cX2_partTrip 28 = .ok (.getfield 12, 3) := by decide +kernel
theorem dX2_partTrip_31 : decode cX2_partTrip 31 = .ok (.aload_n 0, 1) := by decide +kernel
theorem dX2_partTrip_32 : decode cX2_partTrip 32 = .ok (.getfield 33, 3) := by decide +kernel
theorem dX2_partTrip_35 : decode cX2_partTrip 35 = .ok (.iload_n 1, 1) := by decide +kernel
theorem dX2_partTrip_36 : decode cX2_partTrip 36 = .ok (.aaload, 1) := by decide +kernel
theorem dX2_partTrip_37 : decode cX2_partTrip 37 = .ok (.iload_n 3, 1) := by decide +kernel
theorem dX2_partTrip_38 : decode cX2_partTrip 38 = .ok (.iaload, 1) := by decide +kernel
theorem dX2_partTrip_39 : decode cX2_partTrip 39 = .ok (.invokevirtual 142, 3) := by decide +kernel
theorem dX2_partTrip_42 : decode cX2_partTrip 42 = .ok (.iinc 3 1, 3) := by decide +kernel
theorem dX2_partTrip_45 : decode cX2_partTrip 45 = .ok (.goto (-26), 3) := by decide +kernel
theorem dX2_partTrip_48 : decode cX2_partTrip 48 = .ok (.aload_n 0, 1) := by decide +kernel
theorem dX2_partTrip_49 : decode cX2_partTrip 49 = .ok (.getfield 12, 3) := by decide +kernel
theorem dX2_partTrip_52 : decode cX2_partTrip 52 = .ok (.aload_n 0, 1) := by decide +kernel
theorem dX2_partTrip_53 : decode cX2_partTrip 53 = .ok (.getfield 42, 3) := by decide +kernel
theorem dX2_partTrip_56 : decode cX2_partTrip 56 = .ok (.iload_n 1, 1) := by decide +kernel
theorem dX2_partTrip_57 : decode cX2_partTrip 57 = .ok (.iaload, 1) := by decide +kernel
theorem dX2_partTrip_58 : decode cX2_partTrip 58 = .ok (.invokevirtual 148, 3) := by decide +kernel
theorem dX2_partTrip_61 : decode cX2_partTrip 61 = .ok (.iconst 0, 1) := by decide +kernel
theorem dX2_partTrip_62 : decode cX2_partTrip 62 = .ok (.istore_n 3, 1) := by decide +kernel
theorem dX2_partTrip_63 : decode cX2_partTrip 63 = .ok (.iload_n 3, 1) := by decide +kernel
theorem dX2_partTrip_64 : decode cX2_partTrip 64 = .ok (.aload_n 0, 1) := by decide +kernel
theorem dX2_partTrip_65 : decode cX2_partTrip 65 = .ok (.getfield 60, 3) := by decide +kernel
theorem dX2_partTrip_68 : decode cX2_partTrip 68 = .ok (.if_icmp .ge 51, 3) := by decide +kernel
theorem dX2_partTrip_71 : decode cX2_partTrip 71 = .ok (.aload_n 0, 1) := by decide +kernel
theorem dX2_partTrip_72 : decode cX2_partTrip 72 = .ok (.getfield 45, 3) := by decide +kernel
theorem dX2_partTrip_75 : decode cX2_partTrip 75 = .ok (.iload_n 1, 1) := by decide +kernel
theorem dX2_partTrip_76 : decode cX2_partTrip 76 = .ok (.aaload, 1) := by decide +kernel
theorem dX2_partTrip_77 : decode cX2_partTrip 77 = .ok (.iload_n 3, 1) := by decide +kernel
theorem dX2_partTrip_78 : decode cX2_partTrip 78 = .ok (.iload_n 2, 1) := by decide +kernel
theorem dX2_partTrip_79 : decode cX2_partTrip 79 = .ok (.ifCond .eq 7, 3) := by decide +kernel
theorem dX2_partTrip_82 : decode cX2_partTrip 82 = .ok (.iconst 0, 1) := by decide +kernel
theorem dX2_partTrip_83 : decode cX2_partTrip 83 = .ok (.goto 12, 3) := by decide +kernel
theorem dX2_partTrip_86 : decode cX2_partTrip 86 = .ok (.aload_n 0, 1) := by decide +kernel
theorem dX2_partTrip_87 : decode cX2_partTrip 87 = .ok (.getfield 12, 3) := by decide +kernel
theorem dX2_partTrip_90 : decode cX2_partTrip 90 = .ok (.getfield 151, 3) := by decide +kernel
theorem dX2_partTrip_93 : decode cX2_partTrip 93 = .ok (.iload_n 3, 1) := by decide +kernel
theorem dX2_partTrip_94 : decode cX2_partTrip 94 = .ok (.iaload, 1) := by decide +kernel
theorem dX2_partTrip_95 : decode cX2_partTrip 95 = .ok (.iastore, 1) := by decide +kernel
theorem dX2_partTrip_96 : decode cX2_partTrip 96 = .ok (.aload_n 0, 1) := by decide +kernel
theorem dX2_partTrip_97 : decode cX2_partTrip 97 = .ok (.getfield 51, 3) := by decide +kernel
theorem dX2_partTrip_100 : decode cX2_partTrip 100 = .ok (.iload_n 3, 1) := by decide +kernel
theorem dX2_partTrip_101 : decode cX2_partTrip 101 = .ok (.dup2, 1) := by decide +kernel
theorem dX2_partTrip_102 : decode cX2_partTrip 102 = .ok (.iaload, 1) := by decide +kernel
theorem dX2_partTrip_103 : decode cX2_partTrip 103 = .ok (.aload_n 0, 1) := by decide +kernel
theorem dX2_partTrip_104 : decode cX2_partTrip 104 = .ok (.getfield 45, 3) := by decide +kernel
theorem dX2_partTrip_107 : decode cX2_partTrip 107 = .ok (.iload_n 1, 1) := by decide +kernel
theorem dX2_partTrip_108 : decode cX2_partTrip 108 = .ok (.aaload, 1) := by decide +kernel
theorem dX2_partTrip_109 : decode cX2_partTrip 109 = .ok (.iload_n 3, 1) := by decide +kernel
theorem dX2_partTrip_110 : decode cX2_partTrip 110 = .ok (.iaload, 1) := by decide +kernel
theorem dX2_partTrip_111 : decode cX2_partTrip 111 = .ok (.iadd, 1) := by decide +kernel
theorem dX2_partTrip_112 : decode cX2_partTrip 112 = .ok (.iastore, 1) := by decide +kernel
theorem dX2_partTrip_113 : decode cX2_partTrip 113 = .ok (.iinc 3 1, 3) := by decide +kernel
theorem dX2_partTrip_116 : decode cX2_partTrip 116 = .ok (.goto (-53), 3) := by decide +kernel
theorem dX2_partTrip_119 : decode cX2_partTrip 119 = .ok (.return_, 1) := by decide +kernel
theorem dX2_partOpen_0 : decode cX2_partOpen 0 = .ok (.aload_n 0, 1) := by decide +kernel
theorem dX2_partOpen_1 : decode cX2_partOpen 1 = .ok (.getfield 12, 3) := by decide +kernel
theorem dX2_partOpen_4 : decode cX2_partOpen 4 = .ok (.invokevirtual 135, 3) := by decide +kernel
theorem dX2_partOpen_7 : decode cX2_partOpen 7 = .ok (.iconst 0, 1) := by decide +kernel
theorem dX2_partOpen_8 : decode cX2_partOpen 8 = .ok (.istore_n 1, 1) := by decide +kernel
theorem dX2_partOpen_9 : decode cX2_partOpen 9 = .ok (.iload_n 1, 1) := by decide +kernel
theorem dX2_partOpen_10 : decode cX2_partOpen 10 = .ok (.aload_n 0, 1) := by decide +kernel
theorem dX2_partOpen_11 : decode cX2_partOpen 11 = .ok (.getfield 60, 3) := by decide +kernel
theorem dX2_partOpen_14 : decode cX2_partOpen 14 = .ok (.if_icmp .ge 55, 3) := by decide +kernel
theorem dX2_partOpen_17 : decode cX2_partOpen 17 = .ok (.aload_n 0, 1) := by decide +kernel
theorem dX2_partOpen_18 : decode cX2_partOpen 18 = .ok (.getfield 22, 3) := by decide +kernel
theorem dX2_partOpen_21 : decode cX2_partOpen 21 = .ok (.iload_n 1, 1) := by decide +kernel
theorem dX2_partOpen_22 : decode cX2_partOpen 22 = .ok (.iaload, 1) := by decide +kernel
theorem dX2_partOpen_23 : decode cX2_partOpen 23 = .ok (.istore_n 2, 1) := by decide +kernel
theorem dX2_partOpen_24 : decode cX2_partOpen 24 = .ok (.aload_n 0, 1) := by decide +kernel
theorem dX2_partOpen_25 : decode cX2_partOpen 25 = .ok (.getfield 12, 3) := by decide +kernel
theorem dX2_partOpen_28 : decode cX2_partOpen 28 = .ok (.aload_n 0, 1) := by decide +kernel
theorem dX2_partOpen_29 : decode cX2_partOpen 29 = .ok (.getfield 18, 3) := by decide +kernel
theorem dX2_partOpen_32 : decode cX2_partOpen 32 = .ok (.iload_n 1, 1) := by decide +kernel
theorem dX2_partOpen_33 : decode cX2_partOpen 33 = .ok (.iaload, 1) := by decide +kernel
theorem dX2_partOpen_34 : decode cX2_partOpen 34 = .ok (.aload_n 0, 1) := by decide +kernel
theorem dX2_partOpen_35 : decode cX2_partOpen 35 = .ok (.getfield 62, 3) := by decide +kernel
theorem dX2_partOpen_38 : decode cX2_partOpen 38 = .ok (.aload_n 0, 1) := by decide +kernel
theorem dX2_partOpen_39 : decode cX2_partOpen 39 = .ok (.getfield 62, 3) := by decide +kernel
theorem dX2_partOpen_42 : decode cX2_partOpen 42 = .ok (.getfield 161, 3) := by decide +kernel
theorem dX2_partOpen_45 : decode cX2_partOpen 45 = .ok (.iload_n 2, 1) := by decide +kernel
theorem dX2_partOpen_46 : decode cX2_partOpen 46 = .ok (.iaload, 1) := by decide +kernel
theorem dX2_partOpen_47 : decode cX2_partOpen 47 = .ok (.aload_n 0, 1) := by decide +kernel
theorem dX2_partOpen_48 : decode cX2_partOpen 48 = .ok (.getfield 62, 3) := by decide +kernel
theorem dX2_partOpen_51 : decode cX2_partOpen 51 = .ok (.getfield 164, 3) := by decide +kernel
theorem dX2_partOpen_54 : decode cX2_partOpen 54 = .ok (.iload_n 2, 1) := by decide +kernel
theorem dX2_partOpen_55 : decode cX2_partOpen 55 = .ok (.iaload, 1) := by decide +kernel
theorem dX2_partOpen_56 : decode cX2_partOpen 56 = .ok (.invokevirtual 122, 3) := by decide +kernel
theorem dX2_partOpen_59 : decode cX2_partOpen 59 = .ok (.imul, 1) := by decide +kernel
theorem dX2_partOpen_60 : decode cX2_partOpen 60 = .ok (.invokevirtual 142, 3) := by decide +kernel
theorem dX2_partOpen_63 : decode cX2_partOpen 63 = .ok (.iinc 1 1, 3) := by decide +kernel
theorem dX2_partOpen_66 : decode cX2_partOpen 66 = .ok (.goto (-57), 3) := by decide +kernel
theorem dX2_partOpen_69 : decode cX2_partOpen 69 = .ok (.aload_n 0, 1) := by decide +kernel
theorem dX2_partOpen_70 : decode cX2_partOpen 70 = .ok (.getfield 12, 3) := by decide +kernel
theorem dX2_partOpen_73 : decode cX2_partOpen 73 = .ok (.aload_n 0, 1) := by decide +kernel
theorem dX2_partOpen_74 : decode cX2_partOpen 74 = .ok (.getfield 70, 3) := by decide +kernel
theorem dX2_partOpen_77 : decode cX2_partOpen 77 = .ok (.invokevirtual 148, 3) := by decide +kernel
theorem dX2_partOpen_80 : decode cX2_partOpen 80 = .ok (.iconst 0, 1) := by decide +kernel
theorem dX2_partOpen_81 : decode cX2_partOpen 81 = .ok (.istore_n 1, 1) := by decide +kernel
theorem dX2_partOpen_82 : decode cX2_partOpen 82 = .ok (.iload_n 1, 1) := by decide +kernel
theorem dX2_partOpen_83 : decode cX2_partOpen 83 = .ok (.aload_n 0, 1) := by decide +kernel
theorem dX2_partOpen_84 : decode cX2_partOpen 84 = .ok (.getfield 60, 3) := by decide +kernel
theorem dX2_partOpen_87 : decode cX2_partOpen 87 = .ok (.if_icmp .ge 39, 3) := by decide +kernel
theorem dX2_partOpen_90 : decode cX2_partOpen 90 = .ok (.aload_n 0, 1) := by decide +kernel
theorem dX2_partOpen_91 : decode cX2_partOpen 91 = .ok (.getfield 48, 3) := by decide +kernel
theorem dX2_partOpen_94 : decode cX2_partOpen 94 = .ok (.iload_n 1, 1) := by decide +kernel
theorem dX2_partOpen_95 : decode cX2_partOpen 95 = .ok (.aload_n 0, 1) := by decide +kernel
theorem dX2_partOpen_96 : decode cX2_partOpen 96 = .ok (.getfield 12, 3) := by decide +kernel
theorem dX2_partOpen_99 : decode cX2_partOpen 99 = .ok (.getfield 151, 3) := by decide +kernel
theorem dX2_partOpen_102 : decode cX2_partOpen 102 = .ok (.iload_n 1, 1) := by decide +kernel
theorem dX2_partOpen_103 : decode cX2_partOpen 103 = .ok (.iaload, 1) := by decide +kernel
theorem dX2_partOpen_104 : decode cX2_partOpen 104 = .ok (.iastore, 1) := by decide +kernel
theorem dX2_partOpen_105 : decode cX2_partOpen 105 = .ok (.aload_n 0, 1) := by decide +kernel
theorem dX2_partOpen_106 : decode cX2_partOpen 106 = .ok (.getfield 51, 3) := by decide +kernel
theorem dX2_partOpen_109 : decode cX2_partOpen 109 = .ok (.iload_n 1, 1) := by decide +kernel
theorem dX2_partOpen_110 : decode cX2_partOpen 110 = .ok (.dup2, 1) := by decide +kernel
theorem dX2_partOpen_111 : decode cX2_partOpen 111 = .ok (.iaload, 1) := by decide +kernel
theorem dX2_partOpen_112 : decode cX2_partOpen 112 = .ok (.aload_n 0, 1) := by decide +kernel
theorem dX2_partOpen_113 : decode cX2_partOpen 113 = .ok (.getfield 48, 3) := by decide +kernel
theorem dX2_partOpen_116 : decode cX2_partOpen 116 = .ok (.iload_n 1, 1) := by decide +kernel
theorem dX2_partOpen_117 : decode cX2_partOpen 117 = .ok (.iaload, 1) := by decide +kernel
theorem dX2_partOpen_118 : decode cX2_partOpen 118 = .ok (.iadd, 1) := by decide +kernel
theorem dX2_partOpen_119 : decode cX2_partOpen 119 = .ok (.iastore, 1) := by decide +kernel
theorem dX2_partOpen_120 : decode cX2_partOpen 120 = .ok (.iinc 1 1, 3) := by decide +kernel
theorem dX2_partOpen_123 : decode cX2_partOpen 123 = .ok (.goto (-41), 3) := by decide +kernel
theorem dX2_partOpen_126 : decode cX2_partOpen 126 = .ok (.return_, 1) := by decide +kernel
theorem dX3_init_0 : decode cX3_init 0 = .ok (.aload_n 0, 1) := by decide +kernel
theorem dX3_init_1 : decode cX3_init 1 = .ok (.invokespecial 3, 3) := by decide +kernel
theorem dX3_init_4 : decode cX3_init 4 = .ok (.aload_n 0, 1) := by decide +kernel
theorem dX3_init_5 : decode cX3_init 5 = .ok (.bipush 16, 2) := by decide +kernel
theorem dX3_init_7 : decode cX3_init 7 = .ok (.newarray .int, 2) := by decide +kernel
theorem dX3_init_9 : decode cX3_init 9 = .ok (.putfield 9, 3) := by decide +kernel
theorem dX3_init_12 : decode cX3_init 12 = .ok (.aload_n 0, 1) := by decide +kernel
theorem dX3_init_13 : decode cX3_init 13 = .ok (.bipush 16, 2) := by decide +kernel
theorem dX3_init_15 : decode cX3_init 15 = .ok (.newarray .int, 2) := by decide +kernel
theorem dX3_init_17 : decode cX3_init 17 = .ok (.putfield 15, 3) := by decide +kernel
theorem dX3_init_20 : decode cX3_init 20 = .ok (.aload_n 0, 1) := by decide +kernel
theorem dX3_init_21 : decode cX3_init 21 = .ok (.bipush 16, 2) := by decide +kernel
theorem dX3_init_23 : decode cX3_init 23 = .ok (.newarray .long, 2) := by decide +kernel
theorem dX3_init_25 : decode cX3_init 25 = .ok (.putfield 18, 3) := by decide +kernel
theorem dX3_init_28 : decode cX3_init 28 = .ok (.return_, 1) := by decide +kernel
theorem dX3_begin_0 : decode cX3_begin 0 = .ok (.aload_n 0, 1) := by decide +kernel
theorem dX3_begin_1 : decode cX3_begin 1 = .ok (.iconst 0, 1) := by decide +kernel
theorem dX3_begin_2 : decode cX3_begin 2 = .ok (.putfield 22, 3) := by decide +kernel
theorem dX3_begin_5 : decode cX3_begin 5 = .ok (.return_, 1) := by decide +kernel
theorem dX3_add_0 : decode cX3_add 0 = .ok (.aload_n 0, 1) := by decide +kernel
theorem dX3_add_1 : decode cX3_add 1 = .ok (.getfield 22, 3) := by decide +kernel
theorem dX3_add_4 : decode cX3_add 4 = .ok (.bipush 16, 2) := by decide +kernel
theorem dX3_add_6 : decode cX3_add 6 = .ok (.if_icmp .ge 23, 3) := by decide +kernel
theorem dX3_add_9 : decode cX3_add 9 = .ok (.aload_n 0, 1) := by decide +kernel
theorem dX3_add_10 : decode cX3_add 10 = .ok (.getfield 15, 3) := by decide +kernel
theorem dX3_add_13 : decode cX3_add 13 = .ok (.aload_n 0, 1) := by decide +kernel
theorem dX3_add_14 : decode cX3_add 14 = .ok (.getfield 22, 3) := by decide +kernel
theorem dX3_add_17 : decode cX3_add 17 = .ok (.iload_n 1, 1) := by decide +kernel
theorem dX3_add_18 : decode cX3_add 18 = .ok (.iastore, 1) := by decide +kernel
theorem dX3_add_19 : decode cX3_add 19 = .ok (.aload_n 0, 1) := by decide +kernel
theorem dX3_add_20 : decode cX3_add 20 = .ok (.dup, 1) := by decide +kernel
theorem dX3_add_21 : decode cX3_add 21 = .ok (.getfield 22, 3) := by decide +kernel
theorem dX3_add_24 : decode cX3_add 24 = .ok (.iconst 1, 1) := by decide +kernel
theorem dX3_add_25 : decode cX3_add 25 = .ok (.iadd, 1) := by decide +kernel
theorem dX3_add_26 : decode cX3_add 26 = .ok (.putfield 22, 3) := by decide +kernel
theorem dX3_add_29 : decode cX3_add 29 = .ok (.return_, 1) := by decide +kernel
theorem dX3_divide_0 : decode cX3_divide 0 = .ok (.lconst 0, 1) := by decide +kernel
theorem dX3_divide_1 : decode cX3_divide 1 = .ok (.lstore_n 2, 1) := by decide +kernel
theorem dX3_divide_2 : decode cX3_divide 2 = .ok (.iconst 0, 1) := by decide +kernel
theorem dX3_divide_3 : decode cX3_divide 3 = .ok (.istore 4, 2) := by decide +kernel
theorem dX3_divide_5 : decode cX3_divide 5 = .ok (.iload 4, 2) := by decide +kernel
theorem dX3_divide_7 : decode cX3_divide 7 = .ok (.aload_n 0, 1) := by decide +kernel
theorem dX3_divide_8 : decode cX3_divide 8 = .ok (.getfield 22, 3) := by decide +kernel
theorem dX3_divide_11 : decode cX3_divide 11 = .ok (.if_icmp .ge 28, 3) := by decide +kernel
theorem dX3_divide_14 : decode cX3_divide 14 = .ok (.lload_n 2, 1) := by decide +kernel
theorem dX3_divide_15 : decode cX3_divide 15 = .ok (.aload_n 0, 1) := by decide +kernel
theorem dX3_divide_16 : decode cX3_divide 16 = .ok (.getfield 15, 3) := by decide +kernel
theorem dX3_divide_19 : decode cX3_divide 19 = .ok (.iload 4, 2) := by decide +kernel
theorem dX3_divide_21 : decode cX3_divide 21 = .ok (.iaload, 1) := by decide +kernel
theorem dX3_divide_22 : decode cX3_divide 22 = .ok (.i2l, 1) := by decide +kernel
theorem dX3_divide_23 : decode cX3_divide 23 = .ok (.ladd, 1) := by decide +kernel
theorem dX3_divide_24 : decode cX3_divide 24 = .ok (.lstore_n 2, 1) := by decide +kernel
theorem dX3_divide_25 : decode cX3_divide 25 = .ok (.aload_n 0, 1) := by decide +kernel
theorem dX3_divide_26 : decode cX3_divide 26 = .ok (.getfield 9, 3) := by decide +kernel
theorem dX3_divide_29 : decode cX3_divide 29 = .ok (.iload 4, 2) := by decide +kernel
theorem dX3_divide_31 : decode cX3_divide 31 = .ok (.iconst 0, 1) := by decide +kernel
theorem dX3_divide_32 : decode cX3_divide 32 = .ok (.iastore, 1) := by decide +kernel
theorem dX3_divide_33 : decode cX3_divide 33 = .ok (.iinc 4 1, 3) := by decide +kernel
theorem dX3_divide_36 : decode cX3_divide 36 = .ok (.goto (-31), 3) := by decide +kernel
theorem dX3_divide_39 : decode cX3_divide 39 = .ok (.lload_n 2, 1) := by decide +kernel
theorem dX3_divide_40 : decode cX3_divide 40 = .ok (.lconst 0, 1) := by decide +kernel
theorem dX3_divide_41 : decode cX3_divide 41 = .ok (.lcmp, 1) := by decide +kernel
theorem dX3_divide_42 : decode cX3_divide 42 = .ok (.ifCond .gt 11, 3) := by decide +kernel
theorem dX3_divide_45 : decode cX3_divide 45 = .ok (.aload_n 0, 1) := by decide +kernel
theorem dX3_divide_46 : decode cX3_divide 46 = .ok (.getfield 9, 3) := by decide +kernel
theorem dX3_divide_49 : decode cX3_divide 49 = .ok (.iconst 0, 1) := by decide +kernel
theorem dX3_divide_50 : decode cX3_divide 50 = .ok (.iload_n 1, 1) := by decide +kernel
theorem dX3_divide_51 : decode cX3_divide 51 = .ok (.iastore, 1) := by decide +kernel
theorem dX3_divide_52 : decode cX3_divide 52 = .ok (.return_, 1) := by decide +kernel
theorem dX3_divide_53 : decode cX3_divide 53 = .ok (.iload_n 1, 1) := by decide +kernel
theorem dX3_divide_54 : decode cX3_divide 54 = .ok (.istore 4, 2) := by decide +kernel
theorem dX3_divide_56 : decode cX3_divide 56 = .ok (.iconst 0, 1) := by decide +kernel
theorem dX3_divide_57 : decode cX3_divide 57 = .ok (.istore 5, 2) := by decide +kernel
theorem dX3_divide_59 : decode cX3_divide 59 = .ok (.iload 5, 2) := by decide +kernel
theorem dX3_divide_61 : decode cX3_divide 61 = .ok (.aload_n 0, 1) := by decide +kernel
theorem dX3_divide_62 : decode cX3_divide 62 = .ok (.getfield 22, 3) := by decide +kernel
theorem dX3_divide_65 : decode cX3_divide 65 = .ok (.if_icmp .ge 57, 3) := by decide +kernel
theorem dX3_divide_68 : decode cX3_divide 68 = .ok (.iload_n 1, 1) := by decide +kernel
theorem dX3_divide_69 : decode cX3_divide 69 = .ok (.i2l, 1) := by decide +kernel
theorem dX3_divide_70 : decode cX3_divide 70 = .ok (.aload_n 0, 1) := by decide +kernel
theorem dX3_divide_71 : decode cX3_divide 71 = .ok (.getfield 15, 3) := by decide +kernel
theorem dX3_divide_74 : decode cX3_divide 74 = .ok (.iload 5, 2) := by decide +kernel
theorem dX3_divide_76 : decode cX3_divide 76 = .ok (.iaload, 1) := by decide +kernel
theorem dX3_divide_77 : decode cX3_divide 77 = .ok (.i2l, 1) := by decide +kernel
theorem dX3_divide_78 : decode cX3_divide 78 = .ok (.lmul, 1) := by decide +kernel
theorem dX3_divide_79 : decode cX3_divide 79 = .ok (.lstore 6, 2) := by decide +kernel
theorem dX3_divide_81 : decode cX3_divide 81 = .ok (.aload_n 0, 1) := by decide +kernel
theorem dX3_divide_82 : decode cX3_divide 82 = .ok (.getfield 9, 3) := by decide +kernel
theorem dX3_divide_85 : decode cX3_divide 85 = .ok (.iload 5, 2) := by decide +kernel
theorem dX3_divide_87 : decode cX3_divide 87 = .ok (.lload 6, 2) := by decide +kernel
theorem dX3_divide_89 : decode cX3_divide 89 = .ok (.lload_n 2, 1) := by decide +kernel
theorem dX3_divide_90 : decode cX3_divide 90 = .ok (.ldiv, 1) := by decide +kernel
theorem dX3_divide_91 : decode cX3_divide 91 = .ok (.l2i, 1) := by decide +kernel
theorem dX3_divide_92 : decode cX3_divide 92 = .ok (.iastore, 1) := by decide +kernel
theorem dX3_divide_93 : decode cX3_divide 93 = .ok (.aload_n 0, 1) := by decide +kernel
theorem dX3_divide_94 : decode cX3_divide 94 = .ok (.getfield 18, 3) := by decide +kernel
theorem dX3_divide_97 : decode cX3_divide 97 = .ok (.iload 5, 2) := by decide +kernel
theorem dX3_divide_99 : decode cX3_divide 99 = .ok (.lload 6, 2) := by decide +kernel
theorem dX3_divide_101 : decode cX3_divide 101 = .ok (.lload_n 2, 1) := by decide +kernel
theorem dX3_divide_102 : decode cX3_divide 102 = .ok (.lrem, 1) := by decide +kernel
theorem dX3_divide_103 : decode cX3_divide 103 = .ok (.lastore, 1) := by decide +kernel
theorem dX3_divide_104 : decode cX3_divide 104 = .ok (.iload 4, 2) := by decide +kernel
theorem dX3_divide_106 : decode cX3_divide 106 = .ok (.aload_n 0, 1) := by decide +kernel
theorem dX3_divide_107 : decode cX3_divide 107 = .ok (.getfield 9, 3) := by decide +kernel
theorem dX3_divide_110 : decode cX3_divide 110 = .ok (.iload 5, 2) := by decide +kernel
theorem dX3_divide_112 : decode cX3_divide 112 = .ok (.iaload, 1) := by decide +kernel
theorem dX3_divide_113 : decode cX3_divide 113 = .ok (.isub, 1) := by decide +kernel
theorem dX3_divide_114 : decode cX3_divide 114 = .ok (.istore 4, 2) := by decide +kernel
theorem dX3_divide_116 : decode cX3_divide 116 = .ok (.iinc 5 1, 3) := by decide +kernel
theorem dX3_divide_119 : decode cX3_divide 119 = .ok (.goto (-60), 3) := by decide +kernel
theorem dX3_divide_122 : decode cX3_divide 122 = .ok (.iconst 0, 1) := by decide +kernel
theorem dX3_divide_123 : decode cX3_divide 123 = .ok (.istore 5, 2) := by decide +kernel
theorem dX3_divide_125 : decode cX3_divide 125 = .ok (.iload 5, 2) := by decide +kernel
theorem dX3_divide_127 : decode cX3_divide 127 = .ok (.iload 4, 2) := by decide +kernel
theorem dX3_divide_129 : decode cX3_divide 129 = .ok (.if_icmp .ge 22, 3) := by decide +kernel
theorem dX3_divide_132 : decode cX3_divide 132 = .ok (.iload 5, 2) := by decide +kernel
theorem dX3_divide_134 : decode cX3_divide 134 = .ok (.aload_n 0, 1) := by decide +kernel
theorem dX3_divide_135 : decode cX3_divide 135 = .ok (.getfield 22, 3) := by decide +kernel
theorem dX3_divide_138 : decode cX3_divide 138 = .ok (.if_icmp .ge 13, 3) := by decide +kernel
theorem dX3_divide_141 : decode cX3_divide 141 = .ok (.aload_n 0, 1) := by decide +kernel
theorem dX3_divide_142 : decode cX3_divide 142 = .ok (.invokevirtual 26, 3) := by decide +kernel
theorem dX3_divide_145 : decode cX3_divide 145 = .ok (.iinc 5 1, 3) := by decide +kernel
theorem dX3_divide_148 : decode cX3_divide 148 = .ok (.goto (-23), 3) := by decide +kernel
theorem dX3_divide_151 : decode cX3_divide 151 = .ok (.return_, 1) := by decide +kernel
theorem dX3_giveOne_0 : decode cX3_giveOne 0 = .ok (.iconst 0, 1) := by decide +kernel
theorem dX3_giveOne_1 : decode cX3_giveOne 1 = .ok (.istore_n 1, 1) := by decide +kernel
theorem dX3_giveOne_2 : decode cX3_giveOne 2 = .ok (.iconst 1, 1) := by decide +kernel
theorem dX3_giveOne_3 : decode cX3_giveOne 3 = .ok (.istore_n 2, 1) := by decide +kernel
theorem dX3_giveOne_4 : decode cX3_giveOne 4 = .ok (.iload_n 2, 1) := by decide +kernel
theorem dX3_giveOne_5 : decode cX3_giveOne 5 = .ok (.aload_n 0, 1) := by decide +kernel
theorem dX3_giveOne_6 : decode cX3_giveOne 6 = .ok (.getfield 22, 3) := by decide +kernel
theorem dX3_giveOne_9 : decode cX3_giveOne 9 = .ok (.if_icmp .ge 27, 3) := by decide +kernel
theorem dX3_giveOne_12 : decode cX3_giveOne 12 = .ok (.aload_n 0, 1) := by decide +kernel
theorem dX3_giveOne_13 : decode cX3_giveOne 13 = .ok (.getfield 18, 3) := by decide +kernel
theorem dX3_giveOne_16 : decode cX3_giveOne 16 = .ok (.iload_n 2, 1) := by decide +kernel
theorem dX3_giveOne_17 : decode cX3_giveOne 17 = .ok (.laload, 1) := by decide +kernel
theorem dX3_giveOne_18 : decode cX3_giveOne 18 = .ok (.aload_n 0, 1) := by decide +kernel
theorem dX3_giveOne_19 : decode cX3_giveOne 19 = .ok (.getfield 18, 3) := by decide +kernel
theorem dX3_giveOne_22 : decode cX3_giveOne 22 = .ok (.iload_n 1, 1) := by decide +kernel
theorem dX3_giveOne_23 : decode cX3_giveOne 23 = .ok (.laload, 1) := by decide +kernel
theorem dX3_giveOne_24 : decode cX3_giveOne 24 = .ok (.lcmp, 1) := by decide +kernel
theorem dX3_giveOne_25 : decode cX3_giveOne 25 = .ok (.ifCond .le 5, 3) := by decide +kernel
theorem dX3_giveOne_28 : decode cX3_giveOne 28 = .ok (.iload_n 2, 1) := by decide +kernel
theorem dX3_giveOne_29 : decode cX3_giveOne 29 = .ok (.istore_n 1, 1) := by decide +kernel
theorem dX3_giveOne_30 : decode cX3_giveOne 30 = .ok (.iinc 2 1, 3) := by decide +kernel
theorem dX3_giveOne_33 : decode cX3_giveOne 33 = .ok (.goto (-29), 3) := by decide +kernel
theorem dX3_giveOne_36 : decode cX3_giveOne 36 = .ok (.aload_n 0, 1) := by decide +kernel
theorem dX3_giveOne_37 : decode cX3_giveOne 37 = .ok (.getfield 9, 3) := by decide +kernel
theorem dX3_giveOne_40 : decode cX3_giveOne 40 = .ok (.iload_n 1, 1) := by decide +kernel
theorem dX3_giveOne_41 : decode cX3_giveOne 41 = .ok (.dup2, 1) := by decide +kernel
theorem dX3_giveOne_42 : decode cX3_giveOne 42 = .ok (.iaload, 1) := by decide +kernel
theorem dX3_giveOne_43 : decode cX3_giveOne 43 = .ok (.iconst 1, 1) := by decide +kernel
theorem dX3_giveOne_44 : decode cX3_giveOne 44 = .ok (.iadd, 1) := by decide +kernel
theorem dX3_giveOne_45 : decode cX3_giveOne 45 = .ok (.iastore, 1) := by decide +kernel
theorem dX3_giveOne_46 : decode cX3_giveOne 46 = .ok (.aload_n 0, 1) := by decide +kernel
theorem dX3_giveOne_47 : decode cX3_giveOne 47 = .ok (.getfield 18, 3) := by decide +kernel
theorem dX3_giveOne_50 : decode cX3_giveOne 50 = .ok (.iload_n 1, 1) := by decide +kernel
theorem dX3_giveOne_51 : decode cX3_giveOne 51 = .ok (.ldc2_w 29, 3) := by decide +kernel
theorem dX3_giveOne_54 : decode cX3_giveOne 54 = .ok (.lastore, 1) := by decide +kernel
theorem dX3_giveOne_55 : decode cX3_giveOne 55 = .ok (.return_, 1) := by decide +kernel
theorem dX4_init_0 : decode cX4_init 0 = .ok (.aload_n 0, 1) := by decide +kernel
theorem dX4_init_1 : decode cX4_init 1 = .ok (.invokespecial 3, 3) := by decide +kernel
theorem dX4_init_4 : decode cX4_init 4 = .ok (.aload_n 0, 1) := by decide +kernel
theorem dX4_init_5 : decode cX4_init 5 = .ok (.iconst 3, 1) := by decide +kernel
theorem dX4_init_6 : decode cX4_init 6 = .ok (.newarray .int, 2) := by decide +kernel
theorem dX4_init_8 : decode cX4_init 8 = .ok (.putfield 9, 3) := by decide +kernel
theorem dX4_init_11 : decode cX4_init 11 = .ok (.aload_n 0, 1) := by decide +kernel
theorem dX4_init_12 : decode cX4_init 12 = .ok (.new 15, 3) := by decide +kernel
theorem dX4_init_15 : decode cX4_init 15 = .ok (.dup, 1) := by decide +kernel
theorem dX4_init_16 : decode cX4_init 16 = .ok (.aload_n 1, 1) := by decide +kernel
theorem dX4_init_17 : decode cX4_init 17 = .ok (.invokespecial 17, 3) := by decide +kernel
theorem dX4_init_20 : decode cX4_init 20 = .ok (.putfield 20, 3) := by decide +kernel
theorem dX4_init_23 : decode cX4_init 23 = .ok (.return_, 1) := by decide +kernel
theorem dX4_read_0 : decode cX4_read 0 = .ok (.aload_n 0, 1) := by decide +kernel
theorem dX4_read_1 : decode cX4_read 1 = .ok (.aload_n 1, 1) := by decide +kernel
theorem dX4_read_2 : decode cX4_read 2 = .ok (.putfield 24, 3) := by decide +kernel
theorem dX4_read_5 : decode cX4_read 5 = .ok (.aload_n 0, 1) := by decide +kernel
theorem dX4_read_6 : decode cX4_read 6 = .ok (.getfield 24, 3) := by decide +kernel
theorem dX4_read_9 : decode cX4_read 9 = .ok (.invokevirtual 28, 3) := by decide +kernel
theorem dX4_read_12 : decode cX4_read 12 = .ok (.aload_n 0, 1) := by decide +kernel
theorem dX4_read_13 : decode cX4_read 13 = .ok (.iconst 0, 1) := by decide +kernel
theorem dX4_read_14 : decode cX4_read 14 = .ok (.putfield 33, 3) := by decide +kernel
theorem dX4_read_17 : decode cX4_read 17 = .ok (.aload_n 0, 1) := by decide +kernel
theorem dX4_read_18 : decode cX4_read 18 = .ok (.iconst 0, 1) := by decide +kernel
theorem dX4_read_19 : decode cX4_read 19 = .ok (.putfield 37, 3) := by decide +kernel
theorem dX4_read_22 : decode cX4_read 22 = .ok (.aload_n 0, 1) := by decide +kernel
theorem dX4_read_23 : decode cX4_read 23 = .ok (.iconst 0, 1) := by decide +kernel
theorem dX4_read_24 : decode cX4_read 24 = .ok (.putfield 40, 3) := by decide +kernel
theorem dX4_read_27 : decode cX4_read 27 = .ok (.aload_n 0, 1) := by decide +kernel
theorem dX4_read_28 : decode cX4_read 28 = .ok (.iconst (-1), 1) := by decide +kernel
theorem dX4_read_29 : decode cX4_read 29 = .ok (.putfield 43, 3) := by decide +kernel
theorem dX4_read_32 : decode cX4_read 32 = .ok (.aload_n 0, 1) := by decide +kernel
theorem dX4_read_33 : decode cX4_read 33 = .ok (.getfield 20, 3) := by decide +kernel
theorem dX4_read_36 : decode cX4_read 36 = .ok (.invokevirtual 46, 3) := by decide +kernel
theorem dX4_read_39 : decode cX4_read 39 = .ok (.iconst 0, 1) := by decide +kernel
theorem dX4_read_40 : decode cX4_read 40 = .ok (.istore_n 2, 1) := by decide +kernel
theorem dX4_read_41 : decode cX4_read 41 = .ok (.iload_n 2, 1) := by decide +kernel
theorem dX4_read_42 : decode cX4_read 42 = .ok (.sipush 840, 3) := by decide +kernel
theorem dX4_read_45 : decode cX4_read 45 = .ok (.if_icmp .gt 38, 3) := by decide +kernel
theorem dX4_read_48 : decode cX4_read 48 = .ok (.aload_n 0, 1) := by decide +kernel
theorem dX4_read_49 : decode cX4_read 49 = .ok (.getfield 20, 3) := by decide +kernel
theorem dX4_read_52 : decode cX4_read 52 = .ok (.invokevirtual 49, 3) := by decide +kernel
theorem dX4_read_55 : decode cX4_read 55 = .ok (.aload_n 0, 1) := by decide +kernel
theorem dX4_read_56 : decode cX4_read 56 = .ok (.getfield 20, 3) := by decide +kernel
theorem dX4_read_59 : decode cX4_read 59 = .ok (.getfield 52, 3) := by decide +kernel
theorem dX4_read_62 : decode cX4_read 62 = .ok (.ifCond .ne 6, 3) := by decide +kernel
theorem dX4_read_65 : decode cX4_read 65 = .ok (.goto 18, 3) := by decide +kernel
theorem dX4_read_68 : decode cX4_read 68 = .ok (.aload_n 0, 1) := by decide +kernel
theorem dX4_read_69 : decode cX4_read 69 = .ok (.invokevirtual 55, 3) := by decide +kernel
theorem dX4_read_72 : decode cX4_read 72 = .ok (.ifCond .ne 5, 3) := by decide +kernel
theorem dX4_read_75 : decode cX4_read 75 = .ok (.iconst 0, 1) := by decide +kernel
theorem dX4_read_76 : decode cX4_read 76 = .ok (.ireturn, 1) := by decide +kernel
theorem dX4_read_77 : decode cX4_read 77 = .ok (.iinc 2 1, 3) := by decide +kernel
theorem dX4_read_80 : decode cX4_read 80 = .ok (.goto (-39), 3) := by decide +kernel
theorem dX4_read_83 : decode cX4_read 83 = .ok (.aload_n 0, 1) := by decide +kernel
theorem dX4_read_84 : decode cX4_read 84 = .ok (.getfield 43, 3) := by decide +kernel
theorem dX4_read_87 : decode cX4_read 87 = .ok (.iconst (-1), 1) := by decide +kernel
theorem dX4_read_88 : decode cX4_read 88 = .ok (.if_icmp .ne 17, 3) := by decide +kernel
theorem dX4_read_91 : decode cX4_read 91 = .ok (.aload_n 0, 1) := by decide +kernel
theorem dX4_read_92 : decode cX4_read 92 = .ok (.getfield 20, 3) := by decide +kernel
theorem dX4_read_95 : decode cX4_read 95 = .ok (.invokevirtual 59, 3) := by decide +kernel
theorem dX4_read_98 : decode cX4_read 98 = .ok (.ifCond .ne 7, 3) := by decide +kernel
theorem dX4_read_101 : decode cX4_read 101 = .ok (.iconst 1, 1) := by decide +kernel
theorem dX4_read_102 : decode cX4_read 102 = .ok (.goto 4, 3) := by decide +kernel
theorem dX4_read_105 : decode cX4_read 105 = .ok (.iconst 0, 1) := by decide +kernel
theorem dX4_read_106 : decode cX4_read 106 = .ok (.istore_n 2, 1) := by decide +kernel
theorem dX4_read_107 : decode cX4_read 107 = .ok (.iload_n 2, 1) := by decide +kernel
theorem dX4_read_108 : decode cX4_read 108 = .ok (.ifCond .ne 11, 3) := by decide +kernel
theorem dX4_read_111 : decode cX4_read 111 = .ok (.aload_n 0, 1) := by decide +kernel
theorem dX4_read_112 : decode cX4_read 112 = .ok (.iconst 1, 1) := by decide +kernel
theorem dX4_read_113 : decode cX4_read 113 = .ok (.invokevirtual 62, 3) := by decide +kernel
theorem dX4_read_116 : decode cX4_read 116 = .ok (.ifCond .eq 7, 3) := by decide +kernel
theorem dX4_read_119 : decode cX4_read 119 = .ok (.iconst 1, 1) := by decide +kernel
theorem dX4_read_120 : decode cX4_read 120 = .ok (.goto 4, 3) := by decide +kernel
theorem dX4_read_123 : decode cX4_read 123 = .ok (.iconst 0, 1) := by decide +kernel
theorem dX4_read_124 : decode cX4_read 124 = .ok (.ireturn, 1) := by decide +kernel
theorem dX4_refuse_0 : decode cX4_refuse 0 = .ok (.aload_n 0, 1) := by decide +kernel
theorem dX4_refuse_1 : decode cX4_refuse 1 = .ok (.iload_n 1, 1) := by decide +kernel
theorem dX4_refuse_2 : decode cX4_refuse 2 = .ok (.putfield 37, 3) := by decide +kernel
theorem dX4_refuse_5 : decode cX4_refuse 5 = .ok (.aload_n 0, 1) := by decide +kernel
theorem dX4_refuse_6 : decode cX4_refuse 6 = .ok (.aload_n 0, 1) := by decide +kernel
theorem dX4_refuse_7 : decode cX4_refuse 7 = .ok (.getfield 20, 3) := by decide +kernel
theorem dX4_refuse_10 : decode cX4_refuse 10 = .ok (.getfield 66, 3) := by decide +kernel
theorem dX4_refuse_13 : decode cX4_refuse 13 = .ok (.putfield 40, 3) := by decide +kernel
theorem dX4_refuse_16 : decode cX4_refuse 16 = .ok (.iconst 0, 1) := by decide +kernel
theorem dX4_refuse_17 : decode cX4_refuse 17 = .ok (.ireturn, 1) := by decide +kernel
theorem dX4_takeToken_0 : decode cX4_takeToken 0 = .ok (.aload_n 0, 1) := by decide +kernel
theorem dX4_takeToken_1 : decode cX4_takeToken 1 = .ok (.getfield 43, 3) := by decide +kernel
theorem dX4_takeToken_4 : decode cX4_takeToken 4 = .ok (.iconst (-1), 1) := by decide +kernel
theorem dX4_takeToken_5 : decode cX4_takeToken 5 = .ok (.if_icmp .ne 8, 3) := by decide +kernel
theorem dX4_takeToken_8 : decode cX4_takeToken 8 = .ok (.aload_n 0, 1) := by decide +kernel
theorem dX4_takeToken_9 : decode cX4_takeToken 9 = .ok (.invokevirtual 69, 3) := by decide +kernel
theorem dX4_takeToken_12 : decode cX4_takeToken 12 = .ok (.ireturn, 1) := by decide +kernel
theorem dX4_takeToken_13 : decode cX4_takeToken 13 = .ok (.aload_n 0, 1) := by decide +kernel
theorem dX4_takeToken_14 : decode cX4_takeToken 14 = .ok (.getfield 72, 3) := by decide +kernel
theorem dX4_takeToken_17 : decode cX4_takeToken 17 = .ok (.aload_n 0, 1) := by decide +kernel
theorem dX4_takeToken_18 : decode cX4_takeToken 18 = .ok (.getfield 75, 3) := by decide +kernel
theorem dX4_takeToken_21 : decode cX4_takeToken 21 = .ok (.if_icmp .ge 8, 3) := by decide +kernel
theorem dX4_takeToken_24 : decode cX4_takeToken 24 = .ok (.aload_n 0, 1) := by decide +kernel
theorem dX4_takeToken_25 : decode cX4_takeToken 25 = .ok (.invokevirtual 78, 3) := by decide +kernel
theorem dX4_takeToken_28 : decode cX4_takeToken 28 = .ok (.ireturn, 1) := by decide +kernel
theorem dX4_takeToken_29 : decode cX4_takeToken 29 = .ok (.aload_n 0, 1) := by decide +kernel
theorem dX4_takeToken_30 : decode cX4_takeToken 30 = .ok (.getfield 43, 3) := by decide +kernel
theorem dX4_takeToken_33 : decode cX4_takeToken 33 = .ok (.bipush 9, 2) := by decide +kernel
theorem dX4_takeToken_35 : decode cX4_takeToken 35 = .ok (.if_icmp .ne 8, 3) := by decide +kernel
theorem dX4_takeToken_38 : decode cX4_takeToken 38 = .ok (.aload_n 0, 1) := by decide +kernel
theorem dX4_takeToken_39 : decode cX4_takeToken 39 = .ok (.invokevirtual 81, 3) := by decide +kernel
theorem dX4_takeToken_42 : decode cX4_takeToken 42 = .ok (.ireturn, 1) := by decide +kernel
theorem dX4_takeToken_43 : decode cX4_takeToken 43 = .ok (.aload_n 0, 1) := by decide +kernel
theorem dX4_takeToken_44 : decode cX4_takeToken 44 = .ok (.getfield 20, 3) := by decide +kernel
theorem dX4_takeToken_47 : decode cX4_takeToken 47 = .ok (.getfield 52, 3) := by decide +kernel
theorem dX4_takeToken_50 : decode cX4_takeToken 50 = .ok (.iconst 3, 1) := by decide +kernel
theorem dX4_takeToken_51 : decode cX4_takeToken 51 = .ok (.if_icmp .ne 10, 3) := by decide +kernel
theorem dX4_takeToken_54 : decode cX4_takeToken 54 = .ok (.aload_n 0, 1) := by decide +kernel
theorem dX4_takeToken_55 : decode cX4_takeToken 55 = .ok (.invokevirtual 84, 3) := by decide +kernel
theorem dX4_takeToken_58 : decode cX4_takeToken 58 = .ok (.goto 8, 3) := by decide +kernel
theorem dX4_takeToken_61 : decode cX4_takeToken 61 = .ok (.aload_n 0, 1) := by decide +kernel
theorem dX4_takeToken_62 : decode cX4_takeToken 62 = .ok (.iconst 1, 1) := by decide +kernel
theorem dX4_takeToken_63 : decode cX4_takeToken 63 = .ok (.invokevirtual 62, 3) := by decide +kernel
theorem dX4_takeToken_66 : decode cX4_takeToken 66 = .ok (.ireturn, 1) := by decide +kernel
theorem dX4_beginLine_0 : decode cX4_beginLine 0 = .ok (.aload_n 0, 1) := by decide +kernel
theorem dX4_beginLine_1 : decode cX4_beginLine 1 = .ok (.getfield 20, 3) := by decide +kernel
theorem dX4_beginLine_4 : decode cX4_beginLine 4 = .ok (.getfield 52, 3) := by decide +kernel
theorem dX4_beginLine_7 : decode cX4_beginLine 7 = .ok (.istore_n 1, 1) := by decide +kernel
theorem dX4_beginLine_8 : decode cX4_beginLine 8 = .ok (.iload_n 1, 1) := by decide +kernel
theorem dX4_beginLine_9 : decode cX4_beginLine 9 = .ok (.iconst 5, 1) := by decide +kernel
theorem dX4_beginLine_10 : decode cX4_beginLine 10 = .ok (.if_icmp .ne 7, 3) := by decide +kernel
theorem dX4_beginLine_13 : decode cX4_beginLine 13 = .ok (.iconst 1, 1) := by decide +kernel
theorem dX4_beginLine_14 : decode cX4_beginLine 14 = .ok (.goto 4, 3) := by decide +kernel
theorem dX4_beginLine_17 : decode cX4_beginLine 17 = .ok (.iconst 0, 1) := by decide +kernel
theorem dX4_beginLine_18 : decode cX4_beginLine 18 = .ok (.aload_n 0, 1) := by decide +kernel
theorem dX4_beginLine_19 : decode cX4_beginLine 19 = .ok (.getfield 33, 3) := by decide +kernel
theorem dX4_beginLine_22 : decode cX4_beginLine 22 = .ok (.ifCond .ne 7, 3) := by decide +kernel
theorem dX4_beginLine_25 : decode cX4_beginLine 25 = .ok (.iconst 1, 1) := by decide +kernel
theorem dX4_beginLine_26 : decode cX4_beginLine 26 = .ok (.goto 4, 3) := by decide +kernel
theorem dX4_beginLine_29 : decode cX4_beginLine 29 = .ok (.iconst 0, 1) := by decide +kernel
theorem dX4_beginLine_30 : decode cX4_beginLine 30 = .ok (.if_icmp .eq 9, 3) := by decide +kernel
theorem dX4_beginLine_33 : decode cX4_beginLine 33 = .ok (.aload_n 0, 1) := by decide +kernel
theorem dX4_beginLine_34 : decode cX4_beginLine 34 = .ok (.iconst 1, 1) := by decide +kernel
theorem dX4_beginLine_35 : decode cX4_beginLine 35 = .ok (.invokevirtual 62, 3) := by decide +kernel
theorem dX4_beginLine_38 : decode cX4_beginLine 38 = .ok (.ireturn, 1) := by decide +kernel
theorem dX4_beginLine_39 : decode cX4_beginLine 39 = .ok (.iload_n 1, 1) := by decide +kernel
theorem dX4_beginLine_40 : decode cX4_beginLine 40 = .ok (.tableswitch 139 5 9 #[36, 44, 68, 91, 115], 36) := by decide +kernel
theorem dX4_beginLine_76 : decode cX4_beginLine 76 = .ok (.aload_n 0, 1) := by decide +kernel
theorem dX4_beginLine_77 : decode cX4_beginLine 77 = .ok (.iload_n 1, 1) := by decide +kernel
theorem dX4_beginLine_78 : decode cX4_beginLine 78 = .ok (.iconst 1, 1) := by decide +kernel
theorem dX4_beginLine_79 : decode cX4_beginLine 79 = .ok (.iconst 1, 1) := by decide +kernel
theorem dX4_beginLine_80 : decode cX4_beginLine 80 = .ok (.invokevirtual 87, 3) := by decide +kernel
theorem dX4_beginLine_83 : decode cX4_beginLine 83 = .ok (.ireturn, 1) := by decide +kernel
theorem dX4_beginLine_84 : decode cX4_beginLine 84 = .ok (.aload_n 0, 1) := by decide +kernel
theorem dX4_beginLine_85 : decode cX4_beginLine 85 = .ok (.iload_n 1, 1) := by decide +kernel
theorem dX4_beginLine_86 : decode cX4_beginLine 86 = .ok (.iconst 2, 1) := by decide +kernel
theorem dX4_beginLine_87 : decode cX4_beginLine 87 = .ok (.aload_n 0, 1) := by decide +kernel
theorem dX4_beginLine_88 : decode cX4_beginLine 88 = .ok (.getfield 24, 3) := by decide +kernel
theorem dX4_beginLine_91 : decode cX4_beginLine 91 = .ok (.getfield 91, 3) := by decide +kernel
theorem dX4_beginLine_94 : decode cX4_beginLine 94 = .ok (.bipush 12, 2) := by decide +kernel
theorem dX4_beginLine_96 : decode cX4_beginLine 96 = .ok (.if_icmp .ge 7, 3) := by decide +kernel
theorem dX4_beginLine_99 : decode cX4_beginLine 99 = .ok (.iconst 1, 1) := by decide +kernel
theorem dX4_beginLine_100 : decode cX4_beginLine 100 = .ok (.goto 4, 3) := by decide +kernel
theorem dX4_beginLine_103 : decode cX4_beginLine 103 = .ok (.iconst 0, 1) := by decide +kernel
theorem dX4_beginLine_104 : decode cX4_beginLine 104 = .ok (.invokevirtual 87, 3) := by decide +kernel
theorem dX4_beginLine_107 : decode cX4_beginLine 107 = .ok (.ireturn, 1) := by decide +kernel
theorem dX4_beginLine_108 : decode cX4_beginLine 108 = .ok (.aload_n 0, 1) := by decide +kernel
theorem dX4_beginLine_109 : decode cX4_beginLine 109 = .ok (.iload_n 1, 1) := by decide +kernel
theorem dX4_beginLine_110 : decode cX4_beginLine 110 = .ok (.iconst 2, 1) := by decide +kernel
theorem dX4_beginLine_111 : decode cX4_beginLine 111 = .ok (.aload_n 0, 1) := by decide +kernel
theorem dX4_beginLine_112 : decode cX4_beginLine 112 = .ok (.getfield 24, 3) := by decide +kernel
theorem dX4_beginLine_115 : decode cX4_beginLine 115 = .ok (.getfield 94, 3) := by decide +kernel
theorem dX4_beginLine_118 : decode cX4_beginLine 118 = .ok (.iconst 4, 1) := by decide +kernel
theorem dX4_beginLine_119 : decode cX4_beginLine 119 = .ok (.if_icmp .ge 7, 3) := by decide +kernel
theorem dX4_beginLine_122 : decode cX4_beginLine 122 = .ok (.iconst 1, 1) := by decide +kernel
theorem dX4_beginLine_123 : decode cX4_beginLine 123 = .ok (.goto 4, 3) := by decide +kernel
theorem dX4_beginLine_126 : decode cX4_beginLine 126 = .ok (.iconst 0, 1) := by decide +kernel
theorem dX4_beginLine_127 : decode cX4_beginLine 127 = .ok (.invokevirtual 87, 3) := by decide +kernel
theorem dX4_beginLine_130 : decode cX4_beginLine 130 = .ok (.ireturn, 1) := by decide +kernel
theorem dX4_beginLine_131 : decode cX4_beginLine 131 = .ok (.aload_n 0, 1) := by decide +kernel
theorem dX4_beginLine_132 : decode cX4_beginLine 132 = .ok (.iload_n 1, 1) := by decide +kernel
theorem dX4_beginLine_133 : decode cX4_beginLine 133 = .ok (.iconst 3, 1) := by decide +kernel
theorem dX4_beginLine_134 : decode cX4_beginLine 134 = .ok (.aload_n 0, 1) := by decide +kernel
theorem dX4_beginLine_135 : decode cX4_beginLine 135 = .ok (.getfield 24, 3) := by decide +kernel
theorem dX4_beginLine_138 : decode cX4_beginLine 138 = .ok (.getfield 97, 3) := by decide +kernel
theorem dX4_beginLine_141 : decode cX4_beginLine 141 = .ok (.bipush 16, 2) := by decide +kernel
theorem dX4_beginLine_143 : decode cX4_beginLine 143 = .ok (.if_icmp .ge 7, 3) := by decide +kernel
theorem dX4_beginLine_146 : decode cX4_beginLine 146 = .ok (.iconst 1, 1) := by decide +kernel
theorem dX4_beginLine_147 : decode cX4_beginLine 147 = .ok (.goto 4, 3) := by decide +kernel
theorem dX4_beginLine_150 : decode cX4_beginLine 150 = .ok (.iconst 0, 1) := by decide +kernel
theorem dX4_beginLine_151 : decode cX4_beginLine 151 = .ok (.invokevirtual 87, 3) := by decide +kernel
theorem dX4_beginLine_154 : decode cX4_beginLine 154 = .ok (.ireturn, 1) := by decide +kernel
theorem dX4_beginLine_155 : decode cX4_beginLine 155 = .ok (.aload_n 0, 1) := by decide +kernel
theorem dX4_beginLine_156 : decode cX4_beginLine 156 = .ok (.iload_n 1, 1) := by decide +kernel
theorem dX4_beginLine_157 : decode cX4_beginLine 157 = .ok (.iconst 3, 1) := by decide +kernel
theorem dX4_beginLine_158 : decode cX4_beginLine 158 = .ok (.aload_n 0, 1) := by decide +kernel
theorem dX4_beginLine_159 : decode cX4_beginLine 159 = .ok (.getfield 24, 3) := by decide +kernel
theorem dX4_beginLine_162 : decode cX4_beginLine 162 = .ok (.getfield 100, 3) := by decide +kernel
theorem dX4_beginLine_165 : decode cX4_beginLine 165 = .ok (.bipush 16, 2) := by decide +kernel
theorem dX4_beginLine_167 : decode cX4_beginLine 167 = .ok (.if_icmp .ge 7, 3) := by decide +kernel
theorem dX4_beginLine_170 : decode cX4_beginLine 170 = .ok (.iconst 1, 1) := by decide +kernel
theorem dX4_beginLine_171 : decode cX4_beginLine 171 = .ok (.goto 4, 3) := by decide +kernel
theorem dX4_beginLine_174 : decode cX4_beginLine 174 = .ok (.iconst 0, 1) := by decide +kernel
theorem dX4_beginLine_175 : decode cX4_beginLine 175 = .ok (.invokevirtual 87, 3) := by decide +kernel
theorem dX4_beginLine_178 : decode cX4_beginLine 178 = .ok (.ireturn, 1) := by decide +kernel
theorem dX4_beginLine_179 : decode cX4_beginLine 179 = .ok (.aload_n 0, 1) := by decide +kernel
theorem dX4_beginLine_180 : decode cX4_beginLine 180 = .ok (.iconst 1, 1) := by decide +kernel
theorem dX4_beginLine_181 : decode cX4_beginLine 181 = .ok (.invokevirtual 62, 3) := by decide +kernel
theorem dX4_beginLine_184 : decode cX4_beginLine 184 = .ok (.ireturn, 1) := by decide +kernel
theorem dX4_beginLineOf_0 : decode cX4_beginLineOf 0 = .ok (.iload_n 3, 1) := by decide +kernel
theorem dX4_beginLineOf_1 : decode cX4_beginLineOf 1 = .ok (.ifCond .ne 9, 3) := by decide +kernel
theorem dX4_beginLineOf_4 : decode cX4_beginLineOf 4 = .ok (.aload_n 0, 1) := by decide +kernel
theorem dX4_beginLineOf_5 : decode cX4_beginLineOf 5 = .ok (.iconst 4, 1) := by decide +kernel
theorem dX4_beginLineOf_6 : decode cX4_beginLineOf 6 = .ok (.invokevirtual 62, 3) := by decide +kernel
theorem dX4_beginLineOf_9 : decode cX4_beginLineOf 9 = .ok (.ireturn, 1) := by decide +kernel
theorem dX4_beginLineOf_10 : decode cX4_beginLineOf 10 = .ok (.aload_n 0, 1) := by decide +kernel
theorem dX4_beginLineOf_11 : decode cX4_beginLineOf 11 = .ok (.iload_n 1, 1) := by decide +kernel
theorem dX4_beginLineOf_12 : decode cX4_beginLineOf 12 = .ok (.putfield 43, 3) := by decide +kernel
theorem dX4_beginLineOf_15 : decode cX4_beginLineOf 15 = .ok (.aload_n 0, 1) := by decide +kernel
theorem dX4_beginLineOf_16 : decode cX4_beginLineOf 16 = .ok (.iload_n 2, 1) := by decide +kernel
theorem dX4_beginLineOf_17 : decode cX4_beginLineOf 17 = .ok (.putfield 75, 3) := by decide +kernel
theorem dX4_beginLineOf_20 : decode cX4_beginLineOf 20 = .ok (.aload_n 0, 1) := by decide +kernel
theorem dX4_beginLineOf_21 : decode cX4_beginLineOf 21 = .ok (.iconst 0, 1) := by decide +kernel
theorem dX4_beginLineOf_22 : decode cX4_beginLineOf 22 = .ok (.putfield 72, 3) := by decide +kernel
theorem dX4_beginLineOf_25 : decode cX4_beginLineOf 25 = .ok (.aload_n 0, 1) := by decide +kernel
theorem dX4_beginLineOf_26 : decode cX4_beginLineOf 26 = .ok (.iconst (-1), 1) := by decide +kernel
theorem dX4_beginLineOf_27 : decode cX4_beginLineOf 27 = .ok (.putfield 103, 3) := by decide +kernel
theorem dX4_beginLineOf_30 : decode cX4_beginLineOf 30 = .ok (.aload_n 0, 1) := by decide +kernel
theorem dX4_beginLineOf_31 : decode cX4_beginLineOf 31 = .ok (.iconst 0, 1) := by decide +kernel
theorem dX4_beginLineOf_32 : decode cX4_beginLineOf 32 = .ok (.putfield 106, 3) := by decide +kernel
theorem dX4_beginLineOf_35 : decode cX4_beginLineOf 35 = .ok (.aload_n 0, 1) := by decide +kernel
theorem dX4_beginLineOf_36 : decode cX4_beginLineOf 36 = .ok (.iconst 0, 1) := by decide +kernel
theorem dX4_beginLineOf_37 : decode cX4_beginLineOf 37 = .ok (.putfield 109, 3) := by decide +kernel
theorem dX4_beginLineOf_40 : decode cX4_beginLineOf 40 = .ok (.iconst 1, 1) := by decide +kernel
theorem dX4_beginLineOf_41 : decode cX4_beginLineOf 41 = .ok (.ireturn, 1) := by decide +kernel
theorem dX4_takeField_0 : decode cX4_takeField 0 = .ok (.aload_n 0, 1) := by decide +kernel
theorem dX4_takeField_1 : decode cX4_takeField 1 = .ok (.getfield 43, 3) := by decide +kernel
theorem dX4_takeField_4 : decode cX4_takeField 4 = .ok (.tableswitch 76 5 8 #[32, 41, 49, 71], 32) := by decide +kernel
theorem dX4_takeField_36 : decode cX4_takeField 36 = .ok (.aload_n 0, 1) := by decide +kernel
theorem dX4_takeField_37 : decode cX4_takeField 37 = .ok (.iconst 0, 1) := by decide +kernel
theorem dX4_takeField_38 : decode cX4_takeField 38 = .ok (.sipush 999, 3) := by decide +kernel
theorem dX4_takeField_41 : decode cX4_takeField 41 = .ok (.invokevirtual 112, 3) := by decide +kernel
theorem dX4_takeField_44 : decode cX4_takeField 44 = .ok (.ireturn, 1) := by decide +kernel
theorem dX4_takeField_45 : decode cX4_takeField 45 = .ok (.aload_n 0, 1) := by decide +kernel
theorem dX4_takeField_46 : decode cX4_takeField 46 = .ok (.iconst 0, 1) := by decide +kernel
theorem dX4_takeField_47 : decode cX4_takeField 47 = .ok (.bipush 99, 2) := by decide +kernel
theorem dX4_takeField_49 : decode cX4_takeField 49 = .ok (.invokevirtual 112, 3) := by decide +kernel
theorem dX4_takeField_52 : decode cX4_takeField 52 = .ok (.ireturn, 1) := by decide +kernel
theorem dX4_takeField_53 : decode cX4_takeField 53 = .ok (.aload_n 0, 1) := by decide +kernel
theorem dX4_takeField_54 : decode cX4_takeField 54 = .ok (.iconst 0, 1) := by decide +kernel
theorem dX4_takeField_55 : decode cX4_takeField 55 = .ok (.aload_n 0, 1) := by decide +kernel
theorem dX4_takeField_56 : decode cX4_takeField 56 = .ok (.getfield 72, 3) := by decide +kernel
theorem dX4_takeField_59 : decode cX4_takeField 59 = .ok (.ifCond .ne 9, 3) := by decide +kernel
theorem dX4_takeField_62 : decode cX4_takeField 62 = .ok (.sipush 999, 3) := by decide +kernel
theorem dX4_takeField_65 : decode cX4_takeField 65 = .ok (.goto 6, 3) := by decide +kernel
theorem dX4_takeField_68 : decode cX4_takeField 68 = .ok (.sipush 9999, 3) := by decide +kernel
theorem dX4_takeField_71 : decode cX4_takeField 71 = .ok (.invokevirtual 112, 3) := by decide +kernel
theorem dX4_takeField_74 : decode cX4_takeField 74 = .ok (.ireturn, 1) := by decide +kernel
theorem dX4_takeField_75 : decode cX4_takeField 75 = .ok (.aload_n 0, 1) := by decide +kernel
theorem dX4_takeField_76 : decode cX4_takeField 76 = .ok (.invokevirtual 116, 3) := by decide +kernel
theorem dX4_takeField_79 : decode cX4_takeField 79 = .ok (.ireturn, 1) := by decide +kernel
theorem dX4_takeField_80 : decode cX4_takeField 80 = .ok (.aload_n 0, 1) := by decide +kernel
theorem dX4_takeField_81 : decode cX4_takeField 81 = .ok (.invokevirtual 119, 3) := by decide +kernel
theorem dX4_takeField_84 : decode cX4_takeField 84 = .ok (.ireturn, 1) := by decide +kernel
theorem dX4_takeFieldOfLoad_0 : decode cX4_takeFieldOfLoad 0 = .ok (.aload_n 0, 1) := by decide +kernel
theorem dX4_takeFieldOfLoad_1 : decode cX4_takeFieldOfLoad 1 = .ok (.getfield 72, 3) := by decide +kernel
theorem dX4_takeFieldOfLoad_4 : decode cX4_takeFieldOfLoad 4 = .ok (.ifCond .ne 11, 3) := by decide +kernel
theorem dX4_takeFieldOfLoad_7 : decode cX4_takeFieldOfLoad 7 = .ok (.aload_n 0, 1) := by decide +kernel
theorem dX4_takeFieldOfLoad_8 : decode cX4_takeFieldOfLoad 8 = .ok (.iconst 1, 1) := by decide +kernel
theorem dX4_takeFieldOfLoad_9 : decode cX4_takeFieldOfLoad 9 = .ok (.bipush 99, 2) := by decide +kernel
theorem dX4_takeFieldOfLoad_11 : decode cX4_takeFieldOfLoad 11 = .ok (.invokevirtual 112, 3) := by decide +kernel
theorem dX4_takeFieldOfLoad_14 : decode cX4_takeFieldOfLoad 14 = .ok (.ireturn, 1) := by decide +kernel
theorem dX4_takeFieldOfLoad_15 : decode cX4_takeFieldOfLoad 15 = .ok (.aload_n 0, 1) := by decide +kernel
theorem dX4_takeFieldOfLoad_16 : decode cX4_takeFieldOfLoad 16 = .ok (.aload_n 0, 1) := by decide +kernel
theorem dX4_takeFieldOfLoad_17 : decode cX4_takeFieldOfLoad 17 = .ok (.getfield 24, 3) := by decide +kernel
theorem dX4_takeFieldOfLoad_20 : decode cX4_takeFieldOfLoad 20 = .ok (.getfield 91, 3) := by decide +kernel
theorem dX4_takeFieldOfLoad_23 : decode cX4_takeFieldOfLoad 23 = .ok (.invokevirtual 122, 3) := by decide +kernel
theorem dX4_takeFieldOfLoad_26 : decode cX4_takeFieldOfLoad 26 = .ok (.ifCond .ne 5, 3) := by decide +kernel
theorem dX4_takeFieldOfLoad_29 : decode cX4_takeFieldOfLoad 29 = .ok (.iconst 0, 1) := by decide +kernel
theorem dX4_takeFieldOfLoad_30 : decode cX4_takeFieldOfLoad 30 = .ok (.ireturn, 1) := by decide +kernel
theorem dX4_takeFieldOfLoad_31 : decode cX4_takeFieldOfLoad 31 = .ok (.aload_n 0, 1) := by decide +kernel
theorem dX4_takeFieldOfLoad_32 : decode cX4_takeFieldOfLoad 32 = .ok (.getfield 72, 3) := by decide +kernel
theorem dX4_takeFieldOfLoad_35 : decode cX4_takeFieldOfLoad 35 = .ok (.iconst 3, 1) := by decide +kernel
theorem dX4_takeFieldOfLoad_36 : decode cX4_takeFieldOfLoad 36 = .ok (.if_icmp .ne 22, 3) := by decide +kernel
theorem dX4_takeFieldOfLoad_39 : decode cX4_takeFieldOfLoad 39 = .ok (.aload_n 0, 1) := by decide +kernel
theorem dX4_takeFieldOfLoad_40 : decode cX4_takeFieldOfLoad 40 = .ok (.getfield 9, 3) := by decide +kernel
theorem dX4_takeFieldOfLoad_43 : decode cX4_takeFieldOfLoad 43 = .ok (.iconst 1, 1) := by decide +kernel
theorem dX4_takeFieldOfLoad_44 : decode cX4_takeFieldOfLoad 44 = .ok (.iaload, 1) := by decide +kernel
theorem dX4_takeFieldOfLoad_45 : decode cX4_takeFieldOfLoad 45 = .ok (.aload_n 0, 1) := by decide +kernel
theorem dX4_takeFieldOfLoad_46 : decode cX4_takeFieldOfLoad 46 = .ok (.getfield 9, 3) := by decide +kernel
theorem dX4_takeFieldOfLoad_49 : decode cX4_takeFieldOfLoad 49 = .ok (.iconst 2, 1) := by decide +kernel
theorem dX4_takeFieldOfLoad_50 : decode cX4_takeFieldOfLoad 50 = .ok (.iaload, 1) := by decide +kernel
theorem dX4_takeFieldOfLoad_51 : decode cX4_takeFieldOfLoad 51 = .ok (.if_icmp .ne 7, 3) := by decide +kernel
theorem dX4_takeFieldOfLoad_54 : decode cX4_takeFieldOfLoad 54 = .ok (.iconst 1, 1) := by decide +kernel
theorem dX4_takeFieldOfLoad_55 : decode cX4_takeFieldOfLoad 55 = .ok (.goto 4, 3) := by decide +kernel
theorem dX4_takeFieldOfLoad_58 : decode cX4_takeFieldOfLoad 58 = .ok (.iconst 0, 1) := by decide +kernel
theorem dX4_takeFieldOfLoad_59 : decode cX4_takeFieldOfLoad 59 = .ok (.istore_n 1, 1) := by decide +kernel
theorem dX4_takeFieldOfLoad_60 : decode cX4_takeFieldOfLoad 60 = .ok (.iload_n 1, 1) := by decide +kernel
theorem dX4_takeFieldOfLoad_61 : decode cX4_takeFieldOfLoad 61 = .ok (.ifCond .eq 11, 3) := by decide +kernel
theorem dX4_takeFieldOfLoad_64 : decode cX4_takeFieldOfLoad 64 = .ok (.aload_n 0, 1) := by decide +kernel
theorem dX4_takeFieldOfLoad_65 : decode cX4_takeFieldOfLoad 65 = .ok (.iconst 3, 1) := by decide +kernel
theorem dX4_takeFieldOfLoad_66 : decode cX4_takeFieldOfLoad 66 = .ok (.invokevirtual 62, 3) := by decide +kernel
theorem dX4_takeFieldOfLoad_69 : decode cX4_takeFieldOfLoad 69 = .ok (.ifCond .eq 7, 3) := by decide +kernel
theorem dX4_takeFieldOfLoad_72 : decode cX4_takeFieldOfLoad 72 = .ok (.iconst 1, 1) := by decide +kernel
theorem dX4_takeFieldOfLoad_73 : decode cX4_takeFieldOfLoad 73 = .ok (.goto 4, 3) := by decide +kernel
theorem dX4_takeFieldOfLoad_76 : decode cX4_takeFieldOfLoad 76 = .ok (.iconst 0, 1) := by decide +kernel
theorem dX4_takeFieldOfLoad_77 : decode cX4_takeFieldOfLoad 77 = .ok (.ireturn, 1) := by decide +kernel
theorem dX4_takeFieldOfTrip_0 : decode cX4_takeFieldOfTrip 0 = .ok (.aload_n 0, 1) := by decide +kernel
theorem dX4_takeFieldOfTrip_1 : decode cX4_takeFieldOfTrip 1 = .ok (.getfield 72, 3) := by decide +kernel
theorem dX4_takeFieldOfTrip_4 : decode cX4_takeFieldOfTrip 4 = .ok (.ifCond .ne 15, 3) := by decide +kernel
theorem dX4_takeFieldOfTrip_7 : decode cX4_takeFieldOfTrip 7 = .ok (.aload_n 0, 1) := by decide +kernel
theorem dX4_takeFieldOfTrip_8 : decode cX4_takeFieldOfTrip 8 = .ok (.aload_n 0, 1) := by decide +kernel
theorem dX4_takeFieldOfTrip_9 : decode cX4_takeFieldOfTrip 9 = .ok (.getfield 24, 3) := by decide +kernel
theorem dX4_takeFieldOfTrip_12 : decode cX4_takeFieldOfTrip 12 = .ok (.getfield 94, 3) := by decide +kernel
theorem dX4_takeFieldOfTrip_15 : decode cX4_takeFieldOfTrip 15 = .ok (.invokevirtual 122, 3) := by decide +kernel
theorem dX4_takeFieldOfTrip_18 : decode cX4_takeFieldOfTrip 18 = .ok (.ireturn, 1) := by decide +kernel
theorem dX4_takeFieldOfTrip_19 : decode cX4_takeFieldOfTrip 19 = .ok (.aload_n 0, 1) := by decide +kernel
theorem dX4_takeFieldOfTrip_20 : decode cX4_takeFieldOfTrip 20 = .ok (.getfield 72, 3) := by decide +kernel
theorem dX4_takeFieldOfTrip_23 : decode cX4_takeFieldOfTrip 23 = .ok (.iconst 1, 1) := by decide +kernel
theorem dX4_takeFieldOfTrip_24 : decode cX4_takeFieldOfTrip 24 = .ok (.if_icmp .ne 32, 3) := by decide +kernel
theorem dX4_takeFieldOfTrip_27 : decode cX4_takeFieldOfTrip 27 = .ok (.aload_n 0, 1) := by decide +kernel
theorem dX4_takeFieldOfTrip_28 : decode cX4_takeFieldOfTrip 28 = .ok (.getfield 20, 3) := by decide +kernel
theorem dX4_takeFieldOfTrip_31 : decode cX4_takeFieldOfTrip 31 = .ok (.getfield 52, 3) := by decide +kernel
theorem dX4_takeFieldOfTrip_34 : decode cX4_takeFieldOfTrip 34 = .ok (.bipush 10, 2) := by decide +kernel
theorem dX4_takeFieldOfTrip_36 : decode cX4_takeFieldOfTrip 36 = .ok (.if_icmp .ne 11, 3) := by decide +kernel
theorem dX4_takeFieldOfTrip_39 : decode cX4_takeFieldOfTrip 39 = .ok (.aload_n 0, 1) := by decide +kernel
theorem dX4_takeFieldOfTrip_40 : decode cX4_takeFieldOfTrip 40 = .ok (.iconst (-1), 1) := by decide +kernel
theorem dX4_takeFieldOfTrip_41 : decode cX4_takeFieldOfTrip 41 = .ok (.invokevirtual 125, 3) := by decide +kernel
theorem dX4_takeFieldOfTrip_44 : decode cX4_takeFieldOfTrip 44 = .ok (.goto 11, 3) := by decide +kernel
theorem dX4_takeFieldOfTrip_47 : decode cX4_takeFieldOfTrip 47 = .ok (.aload_n 0, 1) := by decide +kernel
theorem dX4_takeFieldOfTrip_48 : decode cX4_takeFieldOfTrip 48 = .ok (.iconst 0, 1) := by decide +kernel
theorem dX4_takeFieldOfTrip_49 : decode cX4_takeFieldOfTrip 49 = .ok (.sipush 9999, 3) := by decide +kernel
theorem dX4_takeFieldOfTrip_52 : decode cX4_takeFieldOfTrip 52 = .ok (.invokevirtual 112, 3) := by decide +kernel
theorem dX4_takeFieldOfTrip_55 : decode cX4_takeFieldOfTrip 55 = .ok (.ireturn, 1) := by decide +kernel
theorem dX4_takeFieldOfTrip_56 : decode cX4_takeFieldOfTrip 56 = .ok (.aload_n 0, 1) := by decide +kernel
theorem dX4_takeFieldOfTrip_57 : decode cX4_takeFieldOfTrip 57 = .ok (.aload_n 0, 1) := by decide +kernel
theorem dX4_takeFieldOfTrip_58 : decode cX4_takeFieldOfTrip 58 = .ok (.getfield 24, 3) := by decide +kernel
theorem dX4_takeFieldOfTrip_61 : decode cX4_takeFieldOfTrip 61 = .ok (.getfield 91, 3) := by decide +kernel
theorem dX4_takeFieldOfTrip_64 : decode cX4_takeFieldOfTrip 64 = .ok (.invokevirtual 122, 3) := by decide +kernel
theorem dX4_takeFieldOfTrip_67 : decode cX4_takeFieldOfTrip 67 = .ok (.ifCond .ne 5, 3) := by decide +kernel
theorem dX4_takeFieldOfTrip_70 : decode cX4_takeFieldOfTrip 70 = .ok (.iconst 0, 1) := by decide +kernel
theorem dX4_takeFieldOfTrip_71 : decode cX4_takeFieldOfTrip 71 = .ok (.ireturn, 1) := by decide +kernel
theorem dX4_takeFieldOfTrip_72 : decode cX4_takeFieldOfTrip 72 = .ok (.aload_n 0, 1) := by decide +kernel
theorem dX4_takeFieldOfTrip_73 : decode cX4_takeFieldOfTrip 73 = .ok (.getfield 24, 3) := by decide +kernel
theorem dX4_takeFieldOfTrip_76 : decode cX4_takeFieldOfTrip 76 = .ok (.aload_n 0, 1) := by decide +kernel
theorem dX4_takeFieldOfTrip_77 : decode cX4_takeFieldOfTrip 77 = .ok (.getfield 9, 3) := by decide +kernel
theorem dX4_takeFieldOfTrip_80 : decode cX4_takeFieldOfTrip 80 = .ok (.iconst 0, 1) := by decide +kernel
theorem dX4_takeFieldOfTrip_81 : decode cX4_takeFieldOfTrip 81 = .ok (.iaload, 1) := by decide +kernel
theorem dX4_takeFieldOfTrip_82 : decode cX4_takeFieldOfTrip 82 = .ok (.aload_n 0, 1) := by decide +kernel
theorem dX4_takeFieldOfTrip_83 : decode cX4_takeFieldOfTrip 83 = .ok (.getfield 9, 3) := by decide +kernel
theorem dX4_takeFieldOfTrip_86 : decode cX4_takeFieldOfTrip 86 = .ok (.iconst 1, 1) := by decide +kernel
theorem dX4_takeFieldOfTrip_87 : decode cX4_takeFieldOfTrip 87 = .ok (.iaload, 1) := by decide +kernel
theorem dX4_takeFieldOfTrip_88 : decode cX4_takeFieldOfTrip 88 = .ok (.aload_n 0, 1) := by decide +kernel
theorem dX4_takeFieldOfTrip_89 : decode cX4_takeFieldOfTrip 89 = .ok (.getfield 9, 3) := by decide +kernel
theorem dX4_takeFieldOfTrip_92 : decode cX4_takeFieldOfTrip 92 = .ok (.iconst 2, 1) := by decide +kernel
theorem dX4_takeFieldOfTrip_93 : decode cX4_takeFieldOfTrip 93 = .ok (.iaload, 1) := by decide +kernel
theorem dX4_takeFieldOfTrip_94 : decode cX4_takeFieldOfTrip 94 = .ok (.invokevirtual 128, 3) := by decide +kernel
theorem dX4_takeFieldOfTrip_97 : decode cX4_takeFieldOfTrip 97 = .ok (.iconst 1, 1) := by decide +kernel
theorem dX4_takeFieldOfTrip_98 : decode cX4_takeFieldOfTrip 98 = .ok (.ireturn, 1) := by decide +kernel
theorem dX4_takeNumber_0 : decode cX4_takeNumber 0 = .ok (.aload_n 0, 1) := by decide +kernel
theorem dX4_takeNumber_1 : decode cX4_takeNumber 1 = .ok (.getfield 20, 3) := by decide +kernel
theorem dX4_takeNumber_4 : decode cX4_takeNumber 4 = .ok (.getfield 52, 3) := by decide +kernel
theorem dX4_takeNumber_7 : decode cX4_takeNumber 7 = .ok (.iconst 2, 1) := by decide +kernel
theorem dX4_takeNumber_8 : decode cX4_takeNumber 8 = .ok (.if_icmp .eq 9, 3) := by decide +kernel
theorem dX4_takeNumber_11 : decode cX4_takeNumber 11 = .ok (.aload_n 0, 1) := by decide +kernel
theorem dX4_takeNumber_12 : decode cX4_takeNumber 12 = .ok (.iconst 1, 1) := by decide +kernel
theorem dX4_takeNumber_13 : decode cX4_takeNumber 13 = .ok (.invokevirtual 62, 3) := by decide +kernel
theorem dX4_takeNumber_16 : decode cX4_takeNumber 16 = .ok (.ireturn, 1) := by decide +kernel
theorem dX4_takeNumber_17 : decode cX4_takeNumber 17 = .ok (.aload_n 0, 1) := by decide +kernel
theorem dX4_takeNumber_18 : decode cX4_takeNumber 18 = .ok (.getfield 20, 3) := by decide +kernel
theorem dX4_takeNumber_21 : decode cX4_takeNumber 21 = .ok (.getfield 132, 3) := by decide +kernel
theorem dX4_takeNumber_24 : decode cX4_takeNumber 24 = .ok (.iload_n 1, 1) := by decide +kernel
theorem dX4_takeNumber_25 : decode cX4_takeNumber 25 = .ok (.if_icmp .lt 14, 3) := by decide +kernel
theorem dX4_takeNumber_28 : decode cX4_takeNumber 28 = .ok (.aload_n 0, 1) := by decide +kernel
theorem dX4_takeNumber_29 : decode cX4_takeNumber 29 = .ok (.getfield 20, 3) := by decide +kernel
theorem dX4_takeNumber_32 : decode cX4_takeNumber 32 = .ok (.getfield 132, 3) := by decide +kernel
theorem dX4_takeNumber_35 : decode cX4_takeNumber 35 = .ok (.iload_n 2, 1) := by decide +kernel
theorem dX4_takeNumber_36 : decode cX4_takeNumber 36 = .ok (.if_icmp .le 9, 3) := by decide +kernel
theorem dX4_takeNumber_39 : decode cX4_takeNumber 39 = .ok (.aload_n 0, 1) := by decide +kernel
theorem dX4_takeNumber_40 : decode cX4_takeNumber 40 = .ok (.iconst 2, 1) := by decide +kernel
theorem dX4_takeNumber_41 : decode cX4_takeNumber 41 = .ok (.invokevirtual 62, 3) := by decide +kernel
theorem dX4_takeNumber_44 : decode cX4_takeNumber 44 = .ok (.ireturn, 1) := by decide +kernel
theorem dX4_takeNumber_45 : decode cX4_takeNumber 45 = .ok (.aload_n 0, 1) := by decide +kernel
theorem dX4_takeNumber_46 : decode cX4_takeNumber 46 = .ok (.aload_n 0, 1) := by decide +kernel
theorem dX4_takeNumber_47 : decode cX4_takeNumber 47 = .ok (.getfield 20, 3) := by decide +kernel
theorem dX4_takeNumber_50 : decode cX4_takeNumber 50 = .ok (.getfield 132, 3) := by decide +kernel
theorem dX4_takeNumber_53 : decode cX4_takeNumber 53 = .ok (.invokevirtual 125, 3) := by decide +kernel
theorem dX4_takeNumber_56 : decode cX4_takeNumber 56 = .ok (.ireturn, 1) := by decide +kernel
theorem dX4_takeNumberTold_0 : decode cX4_takeNumberTold 0 = .ok (.aload_n 0, 1) := by decide +kernel
theorem dX4_takeNumberTold_1 : decode cX4_takeNumberTold 1 = .ok (.iload_n 1, 1) := by decide +kernel
theorem dX4_takeNumberTold_2 : decode cX4_takeNumberTold 2 = .ok (.invokevirtual 135, 3) := by decide +kernel
theorem dX4_takeNumberTold_5 : decode cX4_takeNumberTold 5 = .ok (.ifCond .eq 21, 3) := by decide +kernel
theorem dX4_takeNumberTold_8 : decode cX4_takeNumberTold 8 = .ok (.aload_n 0, 1) := by decide +kernel
theorem dX4_takeNumberTold_9 : decode cX4_takeNumberTold 9 = .ok (.aload_n 0, 1) := by decide +kernel
theorem dX4_takeNumberTold_10 : decode cX4_takeNumberTold 10 = .ok (.getfield 20, 3) := by decide +kernel
theorem dX4_takeNumberTold_13 : decode cX4_takeNumberTold 13 = .ok (.getfield 132, 3) := by decide +kernel
theorem dX4_takeNumberTold_16 : decode cX4_takeNumberTold 16 = .ok (.invokevirtual 125, 3) := by decide +kernel
theorem dX4_takeNumberTold_19 : decode cX4_takeNumberTold 19 = .ok (.ifCond .eq 7, 3) := by decide +kernel
theorem dX4_takeNumberTold_22 : decode cX4_takeNumberTold 22 = .ok (.iconst 1, 1) := by decide +kernel
theorem dX4_takeNumberTold_23 : decode cX4_takeNumberTold 23 = .ok (.goto 4, 3) := by decide +kernel
theorem dX4_takeNumberTold_26 : decode cX4_takeNumberTold 26 = .ok (.iconst 0, 1) := by decide +kernel
theorem dX4_takeNumberTold_27 : decode cX4_takeNumberTold 27 = .ok (.ireturn, 1) := by decide +kernel
theorem dX4_isNumberTold_0 : decode cX4_isNumberTold 0 = .ok (.aload_n 0, 1) := by decide +kernel
theorem dX4_isNumberTold_1 : decode cX4_isNumberTold 1 = .ok (.getfield 20, 3) := by decide +kernel
theorem dX4_isNumberTold_4 : decode cX4_isNumberTold 4 = .ok (.getfield 52, 3) := by decide +kernel
theorem dX4_isNumberTold_7 : decode cX4_isNumberTold 7 = .ok (.iconst 2, 1) := by decide +kernel
theorem dX4_isNumberTold_8 : decode cX4_isNumberTold 8 = .ok (.if_icmp .eq 9, 3) := by decide +kernel
theorem dX4_isNumberTold_11 : decode cX4_isNumberTold 11 = .ok (.aload_n 0, 1) := by decide +kernel
theorem dX4_isNumberTold_12 : decode cX4_isNumberTold 12 = .ok (.iconst 1, 1) := by decide +kernel
theorem dX4_isNumberTold_13 : decode cX4_isNumberTold 13 = .ok (.invokevirtual 62, 3) := by decide +kernel
theorem dX4_isNumberTold_16 : decode cX4_isNumberTold 16 = .ok (.ireturn, 1) := by decide +kernel
theorem dX4_isNumberTold_17 : decode cX4_isNumberTold 17 = .ok (.aload_n 0, 1) := by decide +kernel
theorem dX4_isNumberTold_18 : decode cX4_isNumberTold 18 = .ok (.getfield 20, 3) := by decide +kernel
theorem dX4_isNumberTold_21 : decode cX4_isNumberTold 21 = .ok (.getfield 132, 3) := by decide +kernel
theorem dX4_isNumberTold_24 : decode cX4_isNumberTold 24 = .ok (.iload_n 1, 1) := by decide +kernel
theorem dX4_isNumberTold_25 : decode cX4_isNumberTold 25 = .ok (.if_icmp .lt 11, 3) := by decide +kernel
theorem dX4_isNumberTold_28 : decode cX4_isNumberTold 28 = .ok (.aload_n 0, 1) := by decide +kernel
theorem dX4_isNumberTold_29 : decode cX4_isNumberTold 29 = .ok (.iconst 3, 1) := by decide +kernel
theorem dX4_isNumberTold_30 : decode cX4_isNumberTold 30 = .ok (.invokevirtual 62, 3) := by decide +kernel
theorem dX4_isNumberTold_33 : decode cX4_isNumberTold 33 = .ok (.ifCond .eq 7, 3) := by decide +kernel
theorem dX4_isNumberTold_36 : decode cX4_isNumberTold 36 = .ok (.iconst 1, 1) := by decide +kernel
theorem dX4_isNumberTold_37 : decode cX4_isNumberTold 37 = .ok (.goto 4, 3) := by decide +kernel
theorem dX4_isNumberTold_40 : decode cX4_isNumberTold 40 = .ok (.iconst 0, 1) := by decide +kernel
theorem dX4_isNumberTold_41 : decode cX4_isNumberTold 41 = .ok (.ireturn, 1) := by decide +kernel
theorem dX4_keepField_0 : decode cX4_keepField 0 = .ok (.aload_n 0, 1) := by decide +kernel
theorem dX4_keepField_1 : decode cX4_keepField 1 = .ok (.getfield 72, 3) := by decide +kernel
theorem dX4_keepField_4 : decode cX4_keepField 4 = .ok (.iconst 3, 1) := by decide +kernel
theorem dX4_keepField_5 : decode cX4_keepField 5 = .ok (.if_icmp .ge 23, 3) := by decide +kernel
theorem dX4_keepField_8 : decode cX4_keepField 8 = .ok (.aload_n 0, 1) := by decide +kernel
theorem dX4_keepField_9 : decode cX4_keepField 9 = .ok (.getfield 9, 3) := by decide +kernel
theorem dX4_keepField_12 : decode cX4_keepField 12 = .ok (.aload_n 0, 1) := by decide +kernel
theorem dX4_keepField_13 : decode cX4_keepField 13 = .ok (.getfield 72, 3) := by decide +kernel
theorem dX4_keepField_16 : decode cX4_keepField 16 = .ok (.iload_n 1, 1) := by decide +kernel
theorem dX4_keepField_17 : decode cX4_keepField 17 = .ok (.iastore, 1) := by decide +kernel
theorem dX4_keepField_18 : decode cX4_keepField 18 = .ok (.aload_n 0, 1) := by decide +kernel
theorem dX4_keepField_19 : decode cX4_keepField 19 = .ok (.dup, 1) := by decide +kernel
theorem dX4_keepField_20 : decode cX4_keepField 20 = .ok (.getfield 72, 3) := by decide +kernel
theorem dX4_keepField_23 : decode cX4_keepField 23 = .ok (.iconst 1, 1) := by decide +kernel
theorem dX4_keepField_24 : decode cX4_keepField 24 = .ok (.iadd, 1) := by decide +kernel
theorem dX4_keepField_25 : decode cX4_keepField 25 = .ok (.putfield 72, 3) := by decide +kernel
theorem dX4_keepField_28 : decode cX4_keepField 28 = .ok (.iconst 1, 1) := by decide +kernel
theorem dX4_keepField_29 : decode cX4_keepField 29 = .ok (.ireturn, 1) := by decide +kernel
theorem dX4_takeStep_0 : decode cX4_takeStep 0 = .ok (.aload_n 0, 1) := by decide +kernel
theorem dX4_takeStep_1 : decode cX4_takeStep 1 = .ok (.getfield 103, 3) := by decide +kernel
theorem dX4_takeStep_4 : decode cX4_takeStep 4 = .ok (.iconst (-1), 1) := by decide +kernel
theorem dX4_takeStep_5 : decode cX4_takeStep 5 = .ok (.if_icmp .eq 8, 3) := by decide +kernel
theorem dX4_takeStep_8 : decode cX4_takeStep 8 = .ok (.aload_n 0, 1) := by decide +kernel
theorem dX4_takeStep_9 : decode cX4_takeStep 9 = .ok (.invokevirtual 138, 3) := by decide +kernel
theorem dX4_takeStep_12 : decode cX4_takeStep 12 = .ok (.ireturn, 1) := by decide +kernel
theorem dX4_takeStep_13 : decode cX4_takeStep 13 = .ok (.aload_n 0, 1) := by decide +kernel
theorem dX4_takeStep_14 : decode cX4_takeStep 14 = .ok (.getfield 20, 3) := by decide +kernel
theorem dX4_takeStep_17 : decode cX4_takeStep 17 = .ok (.getfield 52, 3) := by decide +kernel
theorem dX4_takeStep_20 : decode cX4_takeStep 20 = .ok (.lookupswitch 77 #[(3, 57), (11, 44), (12, 44), (13, 44)], 44) := by decide +kernel
theorem dX4_takeStep_64 : decode cX4_takeStep 64 = .ok (.aload_n 0, 1) := by decide +kernel
theorem dX4_takeStep_65 : decode cX4_takeStep 65 = .ok (.aload_n 0, 1) := by decide +kernel
theorem dX4_takeStep_66 : decode cX4_takeStep 66 = .ok (.getfield 20, 3) := by decide +kernel
theorem dX4_takeStep_69 : decode cX4_takeStep 69 = .ok (.getfield 52, 3) := by decide +kernel
theorem dX4_takeStep_72 : decode cX4_takeStep 72 = .ok (.putfield 103, 3) := by decide +kernel
theorem dX4_takeStep_75 : decode cX4_takeStep 75 = .ok (.iconst 1, 1) := by decide +kernel
theorem dX4_takeStep_76 : decode cX4_takeStep 76 = .ok (.ireturn, 1) := by decide +kernel
theorem dX4_takeStep_77 : decode cX4_takeStep 77 = .ok (.aload_n 0, 1) := by decide +kernel
theorem dX4_takeStep_78 : decode cX4_takeStep 78 = .ok (.getfield 106, 3) := by decide +kernel
theorem dX4_takeStep_81 : decode cX4_takeStep 81 = .ok (.ifCond .ne 10, 3) := by decide +kernel
theorem dX4_takeStep_84 : decode cX4_takeStep 84 = .ok (.aload_n 0, 1) := by decide +kernel
theorem dX4_takeStep_85 : decode cX4_takeStep 85 = .ok (.invokevirtual 84, 3) := by decide +kernel
theorem dX4_takeStep_88 : decode cX4_takeStep 88 = .ok (.goto 8, 3) := by decide +kernel
theorem dX4_takeStep_91 : decode cX4_takeStep 91 = .ok (.aload_n 0, 1) := by decide +kernel
theorem dX4_takeStep_92 : decode cX4_takeStep 92 = .ok (.iconst 3, 1) := by decide +kernel
theorem dX4_takeStep_93 : decode cX4_takeStep 93 = .ok (.invokevirtual 62, 3) := by decide +kernel
theorem dX4_takeStep_96 : decode cX4_takeStep 96 = .ok (.ireturn, 1) := by decide +kernel
theorem dX4_takeStep_97 : decode cX4_takeStep 97 = .ok (.aload_n 0, 1) := by decide +kernel
theorem dX4_takeStep_98 : decode cX4_takeStep 98 = .ok (.iconst 1, 1) := by decide +kernel
theorem dX4_takeStep_99 : decode cX4_takeStep 99 = .ok (.invokevirtual 62, 3) := by decide +kernel
theorem dX4_takeStep_102 : decode cX4_takeStep 102 = .ok (.ireturn, 1) := by decide +kernel
theorem dX4_takeNumberOfStep_0 : decode cX4_takeNumberOfStep 0 = .ok (.aload_n 0, 1) := by decide +kernel
theorem dX4_takeNumberOfStep_1 : decode cX4_takeNumberOfStep 1 = .ok (.aload_n 0, 1) := by decide +kernel
theorem dX4_takeNumberOfStep_2 : decode cX4_takeNumberOfStep 2 = .ok (.getfield 103, 3) := by decide +kernel
theorem dX4_takeNumberOfStep_5 : decode cX4_takeNumberOfStep 5 = .ok (.bipush 11, 2) := by decide +kernel
theorem dX4_takeNumberOfStep_7 : decode cX4_takeNumberOfStep 7 = .ok (.if_icmp .ne 13, 3) := by decide +kernel
theorem dX4_takeNumberOfStep_10 : decode cX4_takeNumberOfStep 10 = .ok (.aload_n 0, 1) := by decide +kernel
theorem dX4_takeNumberOfStep_11 : decode cX4_takeNumberOfStep 11 = .ok (.getfield 24, 3) := by decide +kernel
theorem dX4_takeNumberOfStep_14 : decode cX4_takeNumberOfStep 14 = .ok (.getfield 91, 3) := by decide +kernel
theorem dX4_takeNumberOfStep_17 : decode cX4_takeNumberOfStep 17 = .ok (.goto 10, 3) := by decide +kernel
theorem dX4_takeNumberOfStep_20 : decode cX4_takeNumberOfStep 20 = .ok (.aload_n 0, 1) := by decide +kernel
theorem dX4_takeNumberOfStep_21 : decode cX4_takeNumberOfStep 21 = .ok (.getfield 24, 3) := by decide +kernel
theorem dX4_takeNumberOfStep_24 : decode cX4_takeNumberOfStep 24 = .ok (.getfield 97, 3) := by decide +kernel
theorem dX4_takeNumberOfStep_27 : decode cX4_takeNumberOfStep 27 = .ok (.invokevirtual 135, 3) := by decide +kernel
theorem dX4_takeNumberOfStep_30 : decode cX4_takeNumberOfStep 30 = .ok (.ifCond .ne 5, 3) := by decide +kernel
theorem dX4_takeNumberOfStep_33 : decode cX4_takeNumberOfStep 33 = .ok (.iconst 0, 1) := by decide +kernel
theorem dX4_takeNumberOfStep_34 : decode cX4_takeNumberOfStep 34 = .ok (.ireturn, 1) := by decide +kernel
theorem dX4_takeNumberOfStep_35 : decode cX4_takeNumberOfStep 35 = .ok (.aload_n 0, 1) := by decide +kernel
theorem dX4_takeNumberOfStep_36 : decode cX4_takeNumberOfStep 36 = .ok (.getfield 20, 3) := by decide +kernel
theorem dX4_takeNumberOfStep_39 : decode cX4_takeNumberOfStep 39 = .ok (.getfield 132, 3) := by decide +kernel
theorem dX4_takeNumberOfStep_42 : decode cX4_takeNumberOfStep 42 = .ok (.istore_n 1, 1) := by decide +kernel
theorem dX4_takeNumberOfStep_43 : decode cX4_takeNumberOfStep 43 = .ok (.aload_n 0, 1) := by decide +kernel
theorem dX4_takeNumberOfStep_44 : decode cX4_takeNumberOfStep 44 = .ok (.getfield 103, 3) := by decide +kernel
theorem dX4_takeNumberOfStep_47 : decode cX4_takeNumberOfStep 47 = .ok (.bipush 12, 2) := by decide +kernel
theorem dX4_takeNumberOfStep_49 : decode cX4_takeNumberOfStep 49 = .ok (.if_icmp .ne 47, 3) := by decide +kernel
theorem dX4_takeNumberOfStep_52 : decode cX4_takeNumberOfStep 52 = .ok (.aload_n 0, 1) := by decide +kernel
theorem dX4_takeNumberOfStep_53 : decode cX4_takeNumberOfStep 53 = .ok (.getfield 109, 3) := by decide +kernel
theorem dX4_takeNumberOfStep_56 : decode cX4_takeNumberOfStep 56 = .ok (.iload_n 1, 1) := by decide +kernel
theorem dX4_takeNumberOfStep_57 : decode cX4_takeNumberOfStep 57 = .ok (.ishr, 1) := by decide +kernel
theorem dX4_takeNumberOfStep_58 : decode cX4_takeNumberOfStep 58 = .ok (.iconst 1, 1) := by decide +kernel
theorem dX4_takeNumberOfStep_59 : decode cX4_takeNumberOfStep 59 = .ok (.iand, 1) := by decide +kernel
theorem dX4_takeNumberOfStep_60 : decode cX4_takeNumberOfStep 60 = .ok (.ifCond .eq 9, 3) := by decide +kernel
theorem dX4_takeNumberOfStep_63 : decode cX4_takeNumberOfStep 63 = .ok (.aload_n 0, 1) := by decide +kernel
theorem dX4_takeNumberOfStep_64 : decode cX4_takeNumberOfStep 64 = .ok (.iconst 3, 1) := by decide +kernel
theorem dX4_takeNumberOfStep_65 : decode cX4_takeNumberOfStep 65 = .ok (.invokevirtual 62, 3) := by decide +kernel
theorem dX4_takeNumberOfStep_68 : decode cX4_takeNumberOfStep 68 = .ok (.ireturn, 1) := by decide +kernel
theorem dX4_takeNumberOfStep_69 : decode cX4_takeNumberOfStep 69 = .ok (.aload_n 0, 1) := by decide +kernel
theorem dX4_takeNumberOfStep_70 : decode cX4_takeNumberOfStep 70 = .ok (.dup, 1) := by decide +kernel
theorem dX4_takeNumberOfStep_71 : decode cX4_takeNumberOfStep 71 = .ok (.getfield 106, 3) := by decide +kernel
theorem dX4_takeNumberOfStep_74 : decode cX4_takeNumberOfStep 74 = .ok (.iconst 1, 1) := by decide +kernel
theorem dX4_takeNumberOfStep_75 : decode cX4_takeNumberOfStep 75 = .ok (.iload_n 1, 1) := by decide +kernel
theorem dX4_takeNumberOfStep_76 : decode cX4_takeNumberOfStep 76 = .ok (.ishl, 1) := by decide +kernel
theorem dX4_takeNumberOfStep_77 : decode cX4_takeNumberOfStep 77 = .ok (.ior, 1) := by decide +kernel
theorem dX4_takeNumberOfStep_78 : decode cX4_takeNumberOfStep 78 = .ok (.putfield 106, 3) := by decide +kernel
theorem dX4_takeNumberOfStep_81 : decode cX4_takeNumberOfStep 81 = .ok (.aload_n 0, 1) := by decide +kernel
theorem dX4_takeNumberOfStep_82 : decode cX4_takeNumberOfStep 82 = .ok (.dup, 1) := by decide +kernel
theorem dX4_takeNumberOfStep_83 : decode cX4_takeNumberOfStep 83 = .ok (.getfield 109, 3) := by decide +kernel
theorem dX4_takeNumberOfStep_86 : decode cX4_takeNumberOfStep 86 = .ok (.iconst 1, 1) := by decide +kernel
theorem dX4_takeNumberOfStep_87 : decode cX4_takeNumberOfStep 87 = .ok (.iload_n 1, 1) := by decide +kernel
theorem dX4_takeNumberOfStep_88 : decode cX4_takeNumberOfStep 88 = .ok (.ishl, 1) := by decide +kernel
theorem dX4_takeNumberOfStep_89 : decode cX4_takeNumberOfStep 89 = .ok (.ior, 1) := by decide +kernel
theorem dX4_takeNumberOfStep_90 : decode cX4_takeNumberOfStep 90 = .ok (.putfield 109, 3) := by decide +kernel
theorem dX4_takeNumberOfStep_93 : decode cX4_takeNumberOfStep 93 = .ok (.goto 43, 3) := by decide +kernel
theorem dX4_takeNumberOfStep_96 : decode cX4_takeNumberOfStep 96 = .ok (.aload_n 0, 1) := by decide +kernel
theorem dX4_takeNumberOfStep_97 : decode cX4_takeNumberOfStep 97 = .ok (.getfield 103, 3) := by decide +kernel
theorem dX4_takeNumberOfStep_100 : decode cX4_takeNumberOfStep 100 = .ok (.bipush 13, 2) := by decide +kernel
theorem dX4_takeNumberOfStep_102 : decode cX4_takeNumberOfStep 102 = .ok (.if_icmp .ne 34, 3) := by decide +kernel
theorem dX4_takeNumberOfStep_105 : decode cX4_takeNumberOfStep 105 = .ok (.aload_n 0, 1) := by decide +kernel
theorem dX4_takeNumberOfStep_106 : decode cX4_takeNumberOfStep 106 = .ok (.getfield 106, 3) := by decide +kernel
theorem dX4_takeNumberOfStep_109 : decode cX4_takeNumberOfStep 109 = .ok (.iload_n 1, 1) := by decide +kernel
theorem dX4_takeNumberOfStep_110 : decode cX4_takeNumberOfStep 110 = .ok (.ishr, 1) := by decide +kernel
theorem dX4_takeNumberOfStep_111 : decode cX4_takeNumberOfStep 111 = .ok (.iconst 1, 1) := by decide +kernel
theorem dX4_takeNumberOfStep_112 : decode cX4_takeNumberOfStep 112 = .ok (.iand, 1) := by decide +kernel
theorem dX4_takeNumberOfStep_113 : decode cX4_takeNumberOfStep 113 = .ok (.ifCond .ne 9, 3) := by decide +kernel
theorem dX4_takeNumberOfStep_116 : decode cX4_takeNumberOfStep 116 = .ok (.aload_n 0, 1) := by decide +kernel
theorem dX4_takeNumberOfStep_117 : decode cX4_takeNumberOfStep 117 = .ok (.iconst 3, 1) := by decide +kernel
theorem dX4_takeNumberOfStep_118 : decode cX4_takeNumberOfStep 118 = .ok (.invokevirtual 62, 3) := by decide +kernel
theorem dX4_takeNumberOfStep_121 : decode cX4_takeNumberOfStep 121 = .ok (.ireturn, 1) := by decide +kernel
theorem dX4_takeNumberOfStep_122 : decode cX4_takeNumberOfStep 122 = .ok (.aload_n 0, 1) := by decide +kernel
theorem dX4_takeNumberOfStep_123 : decode cX4_takeNumberOfStep 123 = .ok (.dup, 1) := by decide +kernel
theorem dX4_takeNumberOfStep_124 : decode cX4_takeNumberOfStep 124 = .ok (.getfield 106, 3) := by decide +kernel
theorem dX4_takeNumberOfStep_127 : decode cX4_takeNumberOfStep 127 = .ok (.iconst 1, 1) := by decide +kernel
theorem dX4_takeNumberOfStep_128 : decode cX4_takeNumberOfStep 128 = .ok (.iload_n 1, 1) := by decide +kernel
theorem dX4_takeNumberOfStep_129 : decode cX4_takeNumberOfStep 129 = .ok (.ishl, 1) := by decide +kernel
theorem dX4_takeNumberOfStep_130 : decode cX4_takeNumberOfStep 130 = .ok (.iconst (-1), 1) := by decide +kernel
theorem dX4_takeNumberOfStep_131 : decode cX4_takeNumberOfStep 131 = .ok (.ixor, 1) := by decide +kernel
theorem dX4_takeNumberOfStep_132 : decode cX4_takeNumberOfStep 132 = .ok (.iand, 1) := by decide +kernel
theorem dX4_takeNumberOfStep_133 : decode cX4_takeNumberOfStep 133 = .ok (.putfield 106, 3) := by decide +kernel
theorem dX4_takeNumberOfStep_136 : decode cX4_takeNumberOfStep 136 = .ok (.aload_n 0, 1) := by decide +kernel
theorem dX4_takeNumberOfStep_137 : decode cX4_takeNumberOfStep 137 = .ok (.getfield 24, 3) := by decide +kernel
theorem dX4_takeNumberOfStep_140 : decode cX4_takeNumberOfStep 140 = .ok (.aload_n 0, 1) := by decide +kernel
theorem dX4_takeNumberOfStep_141 : decode cX4_takeNumberOfStep 141 = .ok (.getfield 103, 3) := by decide +kernel
theorem dX4_takeNumberOfStep_144 : decode cX4_takeNumberOfStep 144 = .ok (.iload_n 1, 1) := by decide +kernel
theorem dX4_takeNumberOfStep_145 : decode cX4_takeNumberOfStep 145 = .ok (.invokevirtual 141, 3) := by decide +kernel
theorem dX4_takeNumberOfStep_148 : decode cX4_takeNumberOfStep 148 = .ok (.aload_n 0, 1) := by decide +kernel
theorem dX4_takeNumberOfStep_149 : decode cX4_takeNumberOfStep 149 = .ok (.iconst (-1), 1) := by decide +kernel
theorem dX4_takeNumberOfStep_150 : decode cX4_takeNumberOfStep 150 = .ok (.putfield 103, 3) := by decide +kernel
theorem dX4_takeNumberOfStep_153 : decode cX4_takeNumberOfStep 153 = .ok (.iconst 1, 1) := by decide +kernel
theorem dX4_takeNumberOfStep_154 : decode cX4_takeNumberOfStep 154 = .ok (.ireturn, 1) := by decide +kernel
theorem dX4_endLine_0 : decode cX4_endLine 0 = .ok (.aload_n 0, 1) := by decide +kernel
theorem dX4_endLine_1 : decode cX4_endLine 1 = .ok (.getfield 43, 3) := by decide +kernel
theorem dX4_endLine_4 : decode cX4_endLine 4 = .ok (.tableswitch 120 5 8 #[32, 48, 70, 92], 32) := by decide +kernel
theorem dX4_endLine_36 : decode cX4_endLine 36 = .ok (.aload_n 0, 1) := by decide +kernel
theorem dX4_endLine_37 : decode cX4_endLine 37 = .ok (.getfield 24, 3) := by decide +kernel
theorem dX4_endLine_40 : decode cX4_endLine 40 = .ok (.aload_n 0, 1) := by decide +kernel
theorem dX4_endLine_41 : decode cX4_endLine 41 = .ok (.getfield 9, 3) := by decide +kernel
theorem dX4_endLine_44 : decode cX4_endLine 44 = .ok (.iconst 0, 1) := by decide +kernel
theorem dX4_endLine_45 : decode cX4_endLine 45 = .ok (.iaload, 1) := by decide +kernel
theorem dX4_endLine_46 : decode cX4_endLine 46 = .ok (.putfield 145, 3) := by decide +kernel
theorem dX4_endLine_49 : decode cX4_endLine 49 = .ok (.goto 75, 3) := by decide +kernel
theorem dX4_endLine_52 : decode cX4_endLine 52 = .ok (.aload_n 0, 1) := by decide +kernel
theorem dX4_endLine_53 : decode cX4_endLine 53 = .ok (.getfield 24, 3) := by decide +kernel
theorem dX4_endLine_56 : decode cX4_endLine 56 = .ok (.aload_n 0, 1) := by decide +kernel
theorem dX4_endLine_57 : decode cX4_endLine 57 = .ok (.getfield 9, 3) := by decide +kernel
theorem dX4_endLine_60 : decode cX4_endLine 60 = .ok (.iconst 0, 1) := by decide +kernel
theorem dX4_endLine_61 : decode cX4_endLine 61 = .ok (.iaload, 1) := by decide +kernel
theorem dX4_endLine_62 : decode cX4_endLine 62 = .ok (.aload_n 0, 1) := by decide +kernel
theorem dX4_endLine_63 : decode cX4_endLine 63 = .ok (.getfield 9, 3) := by decide +kernel
theorem dX4_endLine_66 : decode cX4_endLine 66 = .ok (.iconst 1, 1) := by decide +kernel
theorem dX4_endLine_67 : decode cX4_endLine 67 = .ok (.iaload, 1) := by decide +kernel
theorem dX4_endLine_68 : decode cX4_endLine 68 = .ok (.invokevirtual 148, 3) := by decide +kernel
theorem dX4_endLine_71 : decode cX4_endLine 71 = .ok (.goto 53, 3) := by decide +kernel
theorem dX4_endLine_74 : decode cX4_endLine 74 = .ok (.aload_n 0, 1) := by decide +kernel
theorem dX4_endLine_75 : decode cX4_endLine 75 = .ok (.getfield 24, 3) := by decide +kernel
theorem dX4_endLine_78 : decode cX4_endLine 78 = .ok (.aload_n 0, 1) := by decide +kernel
theorem dX4_endLine_79 : decode cX4_endLine 79 = .ok (.getfield 9, 3) := by decide +kernel
theorem dX4_endLine_82 : decode cX4_endLine 82 = .ok (.iconst 0, 1) := by decide +kernel
theorem dX4_endLine_83 : decode cX4_endLine 83 = .ok (.iaload, 1) := by decide +kernel
theorem dX4_endLine_84 : decode cX4_endLine 84 = .ok (.aload_n 0, 1) := by decide +kernel
theorem dX4_endLine_85 : decode cX4_endLine 85 = .ok (.getfield 9, 3) := by decide +kernel
theorem dX4_endLine_88 : decode cX4_endLine 88 = .ok (.iconst 1, 1) := by decide +kernel
theorem dX4_endLine_89 : decode cX4_endLine 89 = .ok (.iaload, 1) := by decide +kernel
theorem dX4_endLine_90 : decode cX4_endLine 90 = .ok (.invokevirtual 151, 3) := by decide +kernel
theorem dX4_endLine_93 : decode cX4_endLine 93 = .ok (.goto 31, 3) := by decide +kernel
theorem dX4_endLine_96 : decode cX4_endLine 96 = .ok (.aload_n 0, 1) := by decide +kernel
theorem dX4_endLine_97 : decode cX4_endLine 97 = .ok (.getfield 24, 3) := by decide +kernel
theorem dX4_endLine_100 : decode cX4_endLine 100 = .ok (.aload_n 0, 1) := by decide +kernel
theorem dX4_endLine_101 : decode cX4_endLine 101 = .ok (.getfield 9, 3) := by decide +kernel
theorem dX4_endLine_104 : decode cX4_endLine 104 = .ok (.iconst 0, 1) := by decide +kernel
theorem dX4_endLine_105 : decode cX4_endLine 105 = .ok (.iaload, 1) := by decide +kernel
theorem dX4_endLine_106 : decode cX4_endLine 106 = .ok (.aload_n 0, 1) := by decide +kernel
theorem dX4_endLine_107 : decode cX4_endLine 107 = .ok (.getfield 9, 3) := by decide +kernel
theorem dX4_endLine_110 : decode cX4_endLine 110 = .ok (.iconst 1, 1) := by decide +kernel
theorem dX4_endLine_111 : decode cX4_endLine 111 = .ok (.iaload, 1) := by decide +kernel
theorem dX4_endLine_112 : decode cX4_endLine 112 = .ok (.aload_n 0, 1) := by decide +kernel
theorem dX4_endLine_113 : decode cX4_endLine 113 = .ok (.getfield 9, 3) := by decide +kernel
theorem dX4_endLine_116 : decode cX4_endLine 116 = .ok (.iconst 2, 1) := by decide +kernel
theorem dX4_endLine_117 : decode cX4_endLine 117 = .ok (.iaload, 1) := by decide +kernel
theorem dX4_endLine_118 : decode cX4_endLine 118 = .ok (.invokevirtual 154, 3) := by decide +kernel
theorem dX4_endLine_121 : decode cX4_endLine 121 = .ok (.goto 3, 3) := by decide +kernel
theorem dX4_endLine_124 : decode cX4_endLine 124 = .ok (.aload_n 0, 1) := by decide +kernel
theorem dX4_endLine_125 : decode cX4_endLine 125 = .ok (.iconst (-1), 1) := by decide +kernel
theorem dX4_endLine_126 : decode cX4_endLine 126 = .ok (.putfield 43, 3) := by decide +kernel
theorem dX4_endLine_129 : decode cX4_endLine 129 = .ok (.aload_n 0, 1) := by decide +kernel
theorem dX4_endLine_130 : decode cX4_endLine 130 = .ok (.dup, 1) := by decide +kernel
theorem dX4_endLine_131 : decode cX4_endLine 131 = .ok (.getfield 33, 3) := by decide +kernel
theorem dX4_endLine_134 : decode cX4_endLine 134 = .ok (.iconst 1, 1) := by decide +kernel
theorem dX4_endLine_135 : decode cX4_endLine 135 = .ok (.iadd, 1) := by decide +kernel
theorem dX4_endLine_136 : decode cX4_endLine 136 = .ok (.putfield 33, 3) := by decide +kernel
theorem dX4_endLine_139 : decode cX4_endLine 139 = .ok (.iconst 1, 1) := by decide +kernel
theorem dX4_endLine_140 : decode cX4_endLine 140 = .ok (.ireturn, 1) := by decide +kernel
theorem dX5_init_0 : decode cX5_init 0 = .ok (.aload_n 0, 1) := by decide +kernel
theorem dX5_init_1 : decode cX5_init 1 = .ok (.invokespecial 3, 3) := by decide +kernel
theorem dX5_init_4 : decode cX5_init 4 = .ok (.aload_n 0, 1) := by decide +kernel
theorem dX5_init_5 : decode cX5_init 5 = .ok (.bipush 16, 2) := by decide +kernel
theorem dX5_init_7 : decode cX5_init 7 = .ok (.newarray .int, 2) := by decide +kernel
theorem dX5_init_9 : decode cX5_init 9 = .ok (.putfield 9, 3) := by decide +kernel
theorem dX5_init_12 : decode cX5_init 12 = .ok (.aload_n 0, 1) := by decide +kernel
theorem dX5_init_13 : decode cX5_init 13 = .ok (.bipush 16, 2) := by decide +kernel
theorem dX5_init_15 : decode cX5_init 15 = .ok (.newarray .int, 2) := by decide +kernel
theorem dX5_init_17 : decode cX5_init 17 = .ok (.putfield 15, 3) := by decide +kernel
theorem dX5_init_20 : decode cX5_init 20 = .ok (.aload_n 0, 1) := by decide +kernel
theorem dX5_init_21 : decode cX5_init 21 = .ok (.bipush 16, 2) := by decide +kernel
theorem dX5_init_23 : decode cX5_init 23 = .ok (.newarray .int, 2) := by decide +kernel
theorem dX5_init_25 : decode cX5_init 25 = .ok (.putfield 18, 3) := by decide +kernel
theorem dX5_init_28 : decode cX5_init 28 = .ok (.aload_n 0, 1) := by decide +kernel
theorem dX5_init_29 : decode cX5_init 29 = .ok (.bipush 16, 2) := by decide +kernel
theorem dX5_init_31 : decode cX5_init 31 = .ok (.newarray .int, 2) := by decide +kernel
theorem dX5_init_33 : decode cX5_init 33 = .ok (.putfield 21, 3) := by decide +kernel
theorem dX5_init_36 : decode cX5_init 36 = .ok (.aload_n 0, 1) := by decide +kernel
theorem dX5_init_37 : decode cX5_init 37 = .ok (.bipush 16, 2) := by decide +kernel
theorem dX5_init_39 : decode cX5_init 39 = .ok (.bipush 16, 2) := by decide +kernel
theorem dX5_init_41 : decode cX5_init 41 = .ok (.multianewarray 24 2, 4) := by decide +kernel
theorem dX5_init_45 : decode cX5_init 45 = .ok (.putfield 26, 3) := by decide +kernel
theorem dX5_init_48 : decode cX5_init 48 = .ok (.aload_n 0, 1) := by decide +kernel
theorem dX5_init_49 : decode cX5_init 49 = .ok (.bipush 16, 2) := by decide +kernel
theorem dX5_init_51 : decode cX5_init 51 = .ok (.bipush 16, 2) := by decide +kernel
theorem dX5_init_53 : decode cX5_init 53 = .ok (.multianewarray 24 2, 4) := by decide +kernel
theorem dX5_init_57 : decode cX5_init 57 = .ok (.putfield 29, 3) := by decide +kernel
theorem dX5_init_60 : decode cX5_init 60 = .ok (.aload_n 0, 1) := by decide +kernel
theorem dX5_init_61 : decode cX5_init 61 = .ok (.bipush 12, 2) := by decide +kernel
theorem dX5_init_63 : decode cX5_init 63 = .ok (.bipush 12, 2) := by decide +kernel
theorem dX5_init_65 : decode cX5_init 65 = .ok (.multianewarray 24 2, 4) := by decide +kernel
theorem dX5_init_69 : decode cX5_init 69 = .ok (.putfield 32, 3) := by decide +kernel
theorem dX5_init_72 : decode cX5_init 72 = .ok (.aload_n 0, 1) := by decide +kernel
theorem dX5_init_73 : decode cX5_init 73 = .ok (.bipush 16, 2) := by decide +kernel
theorem dX5_init_75 : decode cX5_init 75 = .ok (.bipush 12, 2) := by decide +kernel
theorem dX5_init_77 : decode cX5_init 77 = .ok (.multianewarray 24 2, 4) := by decide +kernel
theorem dX5_init_81 : decode cX5_init 81 = .ok (.putfield 35, 3) := by decide +kernel
theorem dX5_init_84 : decode cX5_init 84 = .ok (.aload_n 0, 1) := by decide +kernel
theorem dX5_init_85 : decode cX5_init 85 = .ok (.bipush 16, 2) := by decide +kernel
theorem dX5_init_87 : decode cX5_init 87 = .ok (.newarray .int, 2) := by decide +kernel
theorem dX5_init_89 : decode cX5_init 89 = .ok (.putfield 38, 3) := by decide +kernel
theorem dX5_init_92 : decode cX5_init 92 = .ok (.aload_n 0, 1) := by decide +kernel
theorem dX5_init_93 : decode cX5_init 93 = .ok (.bipush 16, 2) := by decide +kernel
theorem dX5_init_95 : decode cX5_init 95 = .ok (.newarray .int, 2) := by decide +kernel
theorem dX5_init_97 : decode cX5_init 97 = .ok (.putfield 41, 3) := by decide +kernel
theorem dX5_init_100 : decode cX5_init 100 = .ok (.aload_n 0, 1) := by decide +kernel
theorem dX5_init_101 : decode cX5_init 101 = .ok (.bipush 16, 2) := by decide +kernel
theorem dX5_init_103 : decode cX5_init 103 = .ok (.newarray .int, 2) := by decide +kernel
theorem dX5_init_105 : decode cX5_init 105 = .ok (.putfield 44, 3) := by decide +kernel
theorem dX5_init_108 : decode cX5_init 108 = .ok (.aload_n 0, 1) := by decide +kernel
theorem dX5_init_109 : decode cX5_init 109 = .ok (.sipush 288, 3) := by decide +kernel
theorem dX5_init_112 : decode cX5_init 112 = .ok (.newarray .int, 2) := by decide +kernel
theorem dX5_init_114 : decode cX5_init 114 = .ok (.putfield 47, 3) := by decide +kernel
theorem dX5_init_117 : decode cX5_init 117 = .ok (.aload_n 0, 1) := by decide +kernel
theorem dX5_init_118 : decode cX5_init 118 = .ok (.sipush 288, 3) := by decide +kernel
theorem dX5_init_121 : decode cX5_init 121 = .ok (.newarray .int, 2) := by decide +kernel
theorem dX5_init_123 : decode cX5_init 123 = .ok (.putfield 50, 3) := by decide +kernel
theorem dX5_init_126 : decode cX5_init 126 = .ok (.aload_n 0, 1) := by decide +kernel
theorem dX5_init_127 : decode cX5_init 127 = .ok (.sipush 288, 3) := by decide +kernel
theorem dX5_init_130 : decode cX5_init 130 = .ok (.newarray .int, 2) := by decide +kernel
theorem dX5_init_132 : decode cX5_init 132 = .ok (.putfield 53, 3) := by decide +kernel
theorem dX5_init_135 : decode cX5_init 135 = .ok (.return_, 1) := by decide +kernel
theorem dX5_survey_0 : decode cX5_survey 0 = .ok (.aload_n 0, 1) := by decide +kernel
theorem dX5_survey_1 : decode cX5_survey 1 = .ok (.aload_n 1, 1) := by decide +kernel
theorem dX5_survey_2 : decode cX5_survey 2 = .ok (.putfield 56, 3) := by decide +kernel
theorem dX5_survey_5 : decode cX5_survey 5 = .ok (.aload_n 0, 1) := by decide +kernel
theorem dX5_survey_6 : decode cX5_survey 6 = .ok (.invokevirtual 60, 3) := by decide +kernel
theorem dX5_survey_9 : decode cX5_survey 9 = .ok (.iconst 0, 1) := by decide +kernel
theorem dX5_survey_10 : decode cX5_survey 10 = .ok (.istore_n 2, 1) := by decide +kernel
theorem dX5_survey_11 : decode cX5_survey 11 = .ok (.iload_n 2, 1) := by decide +kernel
theorem dX5_survey_12 : decode cX5_survey 12 = .ok (.aload_n 0, 1) := by decide +kernel
theorem dX5_survey_13 : decode cX5_survey 13 = .ok (.getfield 56, 3) := by decide +kernel
theorem dX5_survey_16 : decode cX5_survey 16 = .ok (.getfield 63, 3) := by decide +kernel
theorem dX5_survey_19 : decode cX5_survey 19 = .ok (.if_icmp .ge 14, 3) := by decide +kernel
theorem dX5_survey_22 : decode cX5_survey 22 = .ok (.aload_n 0, 1) := by decide +kernel
theorem dX5_survey_23 : decode cX5_survey 23 = .ok (.iload_n 2, 1) := by decide +kernel
theorem dX5_survey_24 : decode cX5_survey 24 = .ok (.invokevirtual 69, 3) := by decide +kernel
theorem dX5_survey_27 : decode cX5_survey 27 = .ok (.iinc 2 1, 3) := by decide +kernel
theorem dX5_survey_30 : decode cX5_survey 30 = .ok (.goto (-19), 3) := by decide +kernel
theorem dX5_survey_33 : decode cX5_survey 33 = .ok (.iconst 0, 1) := by decide +kernel
theorem dX5_survey_34 : decode cX5_survey 34 = .ok (.istore_n 2, 1) := by decide +kernel
theorem dX5_survey_35 : decode cX5_survey 35 = .ok (.iload_n 2, 1) := by decide +kernel
theorem dX5_survey_36 : decode cX5_survey 36 = .ok (.aload_n 0, 1) := by decide +kernel
theorem dX5_survey_37 : decode cX5_survey 37 = .ok (.getfield 56, 3) := by decide +kernel
theorem dX5_survey_40 : decode cX5_survey 40 = .ok (.getfield 73, 3) := by decide +kernel
theorem dX5_survey_43 : decode cX5_survey 43 = .ok (.if_icmp .ge 14, 3) := by decide +kernel
theorem dX5_survey_46 : decode cX5_survey 46 = .ok (.aload_n 0, 1) := by decide +kernel
theorem dX5_survey_47 : decode cX5_survey 47 = .ok (.iload_n 2, 1) := by decide +kernel
theorem dX5_survey_48 : decode cX5_survey 48 = .ok (.invokevirtual 76, 3) := by decide +kernel
theorem dX5_survey_51 : decode cX5_survey 51 = .ok (.iinc 2 1, 3) := by decide +kernel
theorem dX5_survey_54 : decode cX5_survey 54 = .ok (.goto (-19), 3) := by decide +kernel
theorem dX5_survey_57 : decode cX5_survey 57 = .ok (.iconst 0, 1) := by decide +kernel
theorem dX5_survey_58 : decode cX5_survey 58 = .ok (.istore_n 2, 1) := by decide +kernel
theorem dX5_survey_59 : decode cX5_survey 59 = .ok (.iload_n 2, 1) := by decide +kernel
theorem dX5_survey_60 : decode cX5_survey 60 = .ok (.aload_n 0, 1) := by decide +kernel
theorem dX5_survey_61 : decode cX5_survey 61 = .ok (.getfield 56, 3) := by decide +kernel
theorem dX5_survey_64 : decode cX5_survey 64 = .ok (.getfield 79, 3) := by decide +kernel
theorem dX5_survey_67 : decode cX5_survey 67 = .ok (.if_icmp .ge 14, 3) := by decide +kernel
theorem dX5_survey_70 : decode cX5_survey 70 = .ok (.aload_n 0, 1) := by decide +kernel
theorem dX5_survey_71 : decode cX5_survey 71 = .ok (.iload_n 2, 1) := by decide +kernel
theorem dX5_survey_72 : decode cX5_survey 72 = .ok (.invokevirtual 82, 3) := by decide +kernel
theorem dX5_survey_75 : decode cX5_survey 75 = .ok (.iinc 2 1, 3) := by decide +kernel
theorem dX5_survey_78 : decode cX5_survey 78 = .ok (.goto (-19), 3) := by decide +kernel
theorem dX5_survey_81 : decode cX5_survey 81 = .ok (.return_, 1) := by decide +kernel
theorem dX5_clear_0 : decode cX5_clear 0 = .ok (.aload_n 0, 1) := by decide +kernel
theorem dX5_clear_1 : decode cX5_clear 1 = .ok (.iconst 0, 1) := by decide +kernel
theorem dX5_clear_2 : decode cX5_clear 2 = .ok (.putfield 85, 3) := by decide +kernel
theorem dX5_clear_5 : decode cX5_clear 5 = .ok (.iconst 0, 1) := by decide +kernel
theorem dX5_clear_6 : decode cX5_clear 6 = .ok (.istore_n 1, 1) := by decide +kernel
theorem dX5_clear_7 : decode cX5_clear 7 = .ok (.iload_n 1, 1) := by decide +kernel
theorem dX5_clear_8 : decode cX5_clear 8 = .ok (.bipush 16, 2) := by decide +kernel
theorem dX5_clear_10 : decode cX5_clear 10 = .ok (.if_icmp .ge 37, 3) := by decide +kernel
theorem dX5_clear_13 : decode cX5_clear 13 = .ok (.aload_n 0, 1) := by decide +kernel
theorem dX5_clear_14 : decode cX5_clear 14 = .ok (.getfield 9, 3) := by decide +kernel
theorem dX5_clear_17 : decode cX5_clear 17 = .ok (.iload_n 1, 1) := by decide +kernel
theorem dX5_clear_18 : decode cX5_clear 18 = .ok (.iconst 0, 1) := by decide +kernel
theorem dX5_clear_19 : decode cX5_clear 19 = .ok (.iastore, 1) := by decide +kernel
theorem dX5_clear_20 : decode cX5_clear 20 = .ok (.aload_n 0, 1) := by decide +kernel
theorem dX5_clear_21 : decode cX5_clear 21 = .ok (.getfield 15, 3) := by decide +kernel
theorem dX5_clear_24 : decode cX5_clear 24 = .ok (.iload_n 1, 1) := by decide +kernel
theorem dX5_clear_25 : decode cX5_clear 25 = .ok (.iconst 0, 1) := by decide +kernel
theorem dX5_clear_26 : decode cX5_clear 26 = .ok (.iastore, 1) := by decide +kernel
theorem dX5_clear_27 : decode cX5_clear 27 = .ok (.aload_n 0, 1) := by decide +kernel
theorem dX5_clear_28 : decode cX5_clear 28 = .ok (.getfield 18, 3) := by decide +kernel
theorem dX5_clear_31 : decode cX5_clear 31 = .ok (.iload_n 1, 1) := by decide +kernel
theorem dX5_clear_32 : decode cX5_clear 32 = .ok (.iconst 0, 1) := by decide +kernel
theorem dX5_clear_33 : decode cX5_clear 33 = .ok (.iastore, 1) := by decide +kernel
theorem dX5_clear_34 : decode cX5_clear 34 = .ok (.aload_n 0, 1) := by decide +kernel
theorem dX5_clear_35 : decode cX5_clear 35 = .ok (.getfield 21, 3) := by decide +kernel
theorem dX5_clear_38 : decode cX5_clear 38 = .ok (.iload_n 1, 1) := by decide +kernel
theorem dX5_clear_39 : decode cX5_clear 39 = .ok (.iconst 0, 1) := by decide +kernel
theorem dX5_clear_40 : decode cX5_clear 40 = .ok (.iastore, 1) := by decide +kernel
theorem dX5_clear_41 : decode cX5_clear 41 = .ok (.iinc 1 1, 3) := by decide +kernel
theorem dX5_clear_44 : decode cX5_clear 44 = .ok (.goto (-37), 3) := by decide +kernel
theorem dX5_clear_47 : decode cX5_clear 47 = .ok (.iconst 0, 1) := by decide +kernel
theorem dX5_clear_48 : decode cX5_clear 48 = .ok (.istore_n 1, 1) := by decide +kernel
theorem dX5_clear_49 : decode cX5_clear 49 = .ok (.iload_n 1, 1) := by decide +kernel
theorem dX5_clear_50 : decode cX5_clear 50 = .ok (.bipush 16, 2) := by decide +kernel
theorem dX5_clear_52 : decode cX5_clear 52 = .ok (.if_icmp .ge 53, 3) := by decide +kernel
theorem dX5_clear_55 : decode cX5_clear 55 = .ok (.aload_n 0, 1) := by decide +kernel
theorem dX5_clear_56 : decode cX5_clear 56 = .ok (.getfield 38, 3) := by decide +kernel
theorem dX5_clear_59 : decode cX5_clear 59 = .ok (.iload_n 1, 1) := by decide +kernel
theorem dX5_clear_60 : decode cX5_clear 60 = .ok (.iconst 0, 1) := by decide +kernel
theorem dX5_clear_61 : decode cX5_clear 61 = .ok (.iastore, 1) := by decide +kernel
theorem dX5_clear_62 : decode cX5_clear 62 = .ok (.aload_n 0, 1) := by decide +kernel
theorem dX5_clear_63 : decode cX5_clear 63 = .ok (.getfield 41, 3) := by decide +kernel
theorem dX5_clear_66 : decode cX5_clear 66 = .ok (.iload_n 1, 1) := by decide +kernel
theorem dX5_clear_67 : decode cX5_clear 67 = .ok (.iconst 0, 1) := by decide +kernel
theorem dX5_clear_68 : decode cX5_clear 68 = .ok (.iastore, 1) := by decide +kernel
theorem dX5_clear_69 : decode cX5_clear 69 = .ok (.aload_n 0, 1) := by decide +kernel
theorem dX5_clear_70 : decode cX5_clear 70 = .ok (.getfield 44, 3) := by decide +kernel
theorem dX5_clear_73 : decode cX5_clear 73 = .ok (.iload_n 1, 1) := by decide +kernel
theorem dX5_clear_74 : decode cX5_clear 74 = .ok (.iconst 0, 1) := by decide +kernel
theorem dX5_clear_75 : decode cX5_clear 75 = .ok (.iastore, 1) := by decide +kernel
theorem dX5_clear_76 : decode cX5_clear 76 = .ok (.iconst 0, 1) := by decide +kernel
theorem dX5_clear_77 : decode cX5_clear 77 = .ok (.istore_n 2, 1) := by decide +kernel
theorem dX5_clear_78 : decode cX5_clear 78 = .ok (.iload_n 2, 1) := by decide +kernel
theorem dX5_clear_79 : decode cX5_clear 79 = .ok (.bipush 12, 2) := by decide +kernel
theorem dX5_clear_81 : decode cX5_clear 81 = .ok (.if_icmp .ge 18, 3) := by decide +kernel
theorem dX5_clear_84 : decode cX5_clear 84 = .ok (.aload_n 0, 1) := by decide +kernel
theorem dX5_clear_85 : decode cX5_clear 85 = .ok (.getfield 35, 3) := by decide +kernel
theorem dX5_clear_88 : decode cX5_clear 88 = .ok (.iload_n 1, 1) := by decide +kernel
theorem dX5_clear_89 : decode cX5_clear 89 = .ok (.aaload, 1) := by decide +kernel
theorem dX5_clear_90 : decode cX5_clear 90 = .ok (.iload_n 2, 1) := by decide +kernel
theorem dX5_clear_91 : decode cX5_clear 91 = .ok (.iconst 0, 1) := by decide +kernel
theorem dX5_clear_92 : decode cX5_clear 92 = .ok (.iastore, 1) := by decide +kernel
theorem dX5_clear_93 : decode cX5_clear 93 = .ok (.iinc 2 1, 3) := by decide +kernel
theorem dX5_clear_96 : decode cX5_clear 96 = .ok (.goto (-18), 3) := by decide +kernel
theorem dX5_clear_99 : decode cX5_clear 99 = .ok (.iinc 1 1, 3) := by decide +kernel
theorem dX5_clear_102 : decode cX5_clear 102 = .ok (.goto (-53), 3) := by decide +kernel
theorem dX5_clear_105 : decode cX5_clear 105 = .ok (.iconst 0, 1) := by decide +kernel
theorem dX5_clear_106 : decode cX5_clear 106 = .ok (.istore_n 1, 1) := by decide +kernel
theorem dX5_clear_107 : decode cX5_clear 107 = .ok (.iload_n 1, 1) := by decide +kernel
theorem dX5_clear_108 : decode cX5_clear 108 = .ok (.bipush 12, 2) := by decide +kernel
theorem dX5_clear_110 : decode cX5_clear 110 = .ok (.if_icmp .ge 32, 3) := by decide +kernel
theorem dX5_clear_113 : decode cX5_clear 113 = .ok (.iconst 0, 1) := by decide +kernel
theorem dX5_clear_114 : decode cX5_clear 114 = .ok (.istore_n 2, 1) := by decide +kernel
theorem dX5_clear_115 : decode cX5_clear 115 = .ok (.iload_n 2, 1) := by decide +kernel
theorem dX5_clear_116 : decode cX5_clear 116 = .ok (.bipush 12, 2) := by decide +kernel
theorem dX5_clear_118 : decode cX5_clear 118 = .ok (.if_icmp .ge 18, 3) := by decide +kernel
theorem dX5_clear_121 : decode cX5_clear 121 = .ok (.aload_n 0, 1) := by decide +kernel
theorem dX5_clear_122 : decode cX5_clear 122 = .ok (.getfield 32, 3) := by decide +kernel
theorem dX5_clear_125 : decode cX5_clear 125 = .ok (.iload_n 1, 1) := by decide +kernel
theorem dX5_clear_126 : decode cX5_clear 126 = .ok (.aaload, 1) := by decide +kernel
theorem dX5_clear_127 : decode cX5_clear 127 = .ok (.iload_n 2, 1) := by decide +kernel
theorem dX5_clear_128 : decode cX5_clear 128 = .ok (.iconst 0, 1) := by decide +kernel
theorem dX5_clear_129 : decode cX5_clear 129 = .ok (.iastore, 1) := by decide +kernel
theorem dX5_clear_130 : decode cX5_clear 130 = .ok (.iinc 2 1, 3) := by decide +kernel
theorem dX5_clear_133 : decode cX5_clear 133 = .ok (.goto (-18), 3) := by decide +kernel
theorem dX5_clear_136 : decode cX5_clear 136 = .ok (.iinc 1 1, 3) := by decide +kernel
theorem dX5_clear_139 : decode cX5_clear 139 = .ok (.goto (-32), 3) := by decide +kernel
theorem dX5_clear_142 : decode cX5_clear 142 = .ok (.return_, 1) := by decide +kernel
theorem dX5_drive_0 : decode cX5_drive 0 = .ok (.aload_n 0, 1) := by decide +kernel
theorem dX5_drive_1 : decode cX5_drive 1 = .ok (.getfield 56, 3) := by decide +kernel
theorem dX5_drive_4 : decode cX5_drive 4 = .ok (.getfield 88, 3) := by decide +kernel
theorem dX5_drive_7 : decode cX5_drive 7 = .ok (.iload_n 1, 1) := by decide +kernel
theorem dX5_drive_8 : decode cX5_drive 8 = .ok (.iaload, 1) := by decide +kernel
theorem dX5_drive_9 : decode cX5_drive 9 = .ok (.istore_n 2, 1) := by decide +kernel
theorem dX5_drive_10 : decode cX5_drive 10 = .ok (.iconst 0, 1) := by decide +kernel
theorem dX5_drive_11 : decode cX5_drive 11 = .ok (.istore_n 3, 1) := by decide +kernel
theorem dX5_drive_12 : decode cX5_drive 12 = .ok (.aload_n 0, 1) := by decide +kernel
theorem dX5_drive_13 : decode cX5_drive 13 = .ok (.getfield 56, 3) := by decide +kernel
theorem dX5_drive_16 : decode cX5_drive 16 = .ok (.iload_n 1, 1) := by decide +kernel
theorem dX5_drive_17 : decode cX5_drive 17 = .ok (.invokevirtual 91, 3) := by decide +kernel
theorem dX5_drive_20 : decode cX5_drive 20 = .ok (.istore 4, 2) := by decide +kernel
theorem dX5_drive_22 : decode cX5_drive 22 = .ok (.iload 4, 2) := by decide +kernel
theorem dX5_drive_24 : decode cX5_drive 24 = .ok (.aload_n 0, 1) := by decide +kernel
theorem dX5_drive_25 : decode cX5_drive 25 = .ok (.getfield 56, 3) := by decide +kernel
theorem dX5_drive_28 : decode cX5_drive 28 = .ok (.getfield 95, 3) := by decide +kernel
theorem dX5_drive_31 : decode cX5_drive 31 = .ok (.iload_n 1, 1) := by decide +kernel
theorem dX5_drive_32 : decode cX5_drive 32 = .ok (.iaload, 1) := by decide +kernel
theorem dX5_drive_33 : decode cX5_drive 33 = .ok (.if_icmp .ge 114, 3) := by decide +kernel
theorem dX5_drive_36 : decode cX5_drive 36 = .ok (.aload_n 0, 1) := by decide +kernel
theorem dX5_drive_37 : decode cX5_drive 37 = .ok (.getfield 56, 3) := by decide +kernel
theorem dX5_drive_40 : decode cX5_drive 40 = .ok (.getfield 98, 3) := by decide +kernel
theorem dX5_drive_43 : decode cX5_drive 43 = .ok (.iload 4, 2) := by decide +kernel
theorem dX5_drive_45 : decode cX5_drive 45 = .ok (.iaload, 1) := by decide +kernel
theorem dX5_drive_46 : decode cX5_drive 46 = .ok (.istore 5, 2) := by decide +kernel
theorem dX5_drive_48 : decode cX5_drive 48 = .ok (.aload_n 0, 1) := by decide +kernel
theorem dX5_drive_49 : decode cX5_drive 49 = .ok (.getfield 56, 3) := by decide +kernel
theorem dX5_drive_52 : decode cX5_drive 52 = .ok (.getfield 101, 3) := by decide +kernel
theorem dX5_drive_55 : decode cX5_drive 55 = .ok (.iload 4, 2) := by decide +kernel
theorem dX5_drive_57 : decode cX5_drive 57 = .ok (.iaload, 1) := by decide +kernel
theorem dX5_drive_58 : decode cX5_drive 58 = .ok (.istore 6, 2) := by decide +kernel
theorem dX5_drive_60 : decode cX5_drive 60 = .ok (.iload 6, 2) := by decide +kernel
theorem dX5_drive_62 : decode cX5_drive 62 = .ok (.bipush 11, 2) := by decide +kernel
theorem dX5_drive_64 : decode cX5_drive 64 = .ok (.if_icmp .ne 18, 3) := by decide +kernel
theorem dX5_drive_67 : decode cX5_drive 67 = .ok (.aload_n 0, 1) := by decide +kernel
theorem dX5_drive_68 : decode cX5_drive 68 = .ok (.iload_n 1, 1) := by decide +kernel
theorem dX5_drive_69 : decode cX5_drive 69 = .ok (.iload_n 3, 1) := by decide +kernel
theorem dX5_drive_70 : decode cX5_drive 70 = .ok (.iload_n 2, 1) := by decide +kernel
theorem dX5_drive_71 : decode cX5_drive 71 = .ok (.iload 5, 2) := by decide +kernel
theorem dX5_drive_73 : decode cX5_drive 73 = .ok (.invokevirtual 104, 3) := by decide +kernel
theorem dX5_drive_76 : decode cX5_drive 76 = .ok (.iload 5, 2) := by decide +kernel
theorem dX5_drive_78 : decode cX5_drive 78 = .ok (.istore_n 2, 1) := by decide +kernel
theorem dX5_drive_79 : decode cX5_drive 79 = .ok (.goto 62, 3) := by decide +kernel
theorem dX5_drive_82 : decode cX5_drive 82 = .ok (.iload 6, 2) := by decide +kernel
theorem dX5_drive_84 : decode cX5_drive 84 = .ok (.bipush 12, 2) := by decide +kernel
theorem dX5_drive_86 : decode cX5_drive 86 = .ok (.if_icmp .ne 36, 3) := by decide +kernel
theorem dX5_drive_89 : decode cX5_drive 89 = .ok (.iload_n 3, 1) := by decide +kernel
theorem dX5_drive_90 : decode cX5_drive 90 = .ok (.iconst 1, 1) := by decide +kernel
theorem dX5_drive_91 : decode cX5_drive 91 = .ok (.iload 5, 2) := by decide +kernel
theorem dX5_drive_93 : decode cX5_drive 93 = .ok (.ishl, 1) := by decide +kernel
theorem dX5_drive_94 : decode cX5_drive 94 = .ok (.ior, 1) := by decide +kernel
theorem dX5_drive_95 : decode cX5_drive 95 = .ok (.istore_n 3, 1) := by decide +kernel
theorem dX5_drive_96 : decode cX5_drive 96 = .ok (.aload_n 0, 1) := by decide +kernel
theorem dX5_drive_97 : decode cX5_drive 97 = .ok (.getfield 21, 3) := by decide +kernel
theorem dX5_drive_100 : decode cX5_drive 100 = .ok (.iload_n 1, 1) := by decide +kernel
theorem dX5_drive_101 : decode cX5_drive 101 = .ok (.dup2, 1) := by decide +kernel
theorem dX5_drive_102 : decode cX5_drive 102 = .ok (.iaload, 1) := by decide +kernel
theorem dX5_drive_103 : decode cX5_drive 103 = .ok (.iconst 1, 1) := by decide +kernel
theorem dX5_drive_104 : decode cX5_drive 104 = .ok (.iload 5, 2) := by decide +kernel
theorem dX5_drive_106 : decode cX5_drive 106 = .ok (.ishl, 1) := by decide +kernel
theorem dX5_drive_107 : decode cX5_drive 107 = .ok (.ior, 1) := by decide +kernel
theorem dX5_drive_108 : decode cX5_drive 108 = .ok (.iastore, 1) := by decide +kernel
theorem dX5_drive_109 : decode cX5_drive 109 = .ok (.aload_n 0, 1) := by decide +kernel
theorem dX5_drive_110 : decode cX5_drive 110 = .ok (.getfield 26, 3) := by decide +kernel
theorem dX5_drive_113 : decode cX5_drive 113 = .ok (.iload_n 1, 1) := by decide +kernel
theorem dX5_drive_114 : decode cX5_drive 114 = .ok (.aaload, 1) := by decide +kernel
theorem dX5_drive_115 : decode cX5_drive 115 = .ok (.iload 5, 2) := by decide +kernel
theorem dX5_drive_117 : decode cX5_drive 117 = .ok (.iload_n 2, 1) := by decide +kernel
theorem dX5_drive_118 : decode cX5_drive 118 = .ok (.iastore, 1) := by decide +kernel
theorem dX5_drive_119 : decode cX5_drive 119 = .ok (.goto 22, 3) := by decide +kernel
theorem dX5_drive_122 : decode cX5_drive 122 = .ok (.iload_n 3, 1) := by decide +kernel
theorem dX5_drive_123 : decode cX5_drive 123 = .ok (.iconst 1, 1) := by decide +kernel
theorem dX5_drive_124 : decode cX5_drive 124 = .ok (.iload 5, 2) := by decide +kernel
theorem dX5_drive_126 : decode cX5_drive 126 = .ok (.ishl, 1) := by decide +kernel
theorem dX5_drive_127 : decode cX5_drive 127 = .ok (.iconst (-1), 1) := by decide +kernel
theorem dX5_drive_128 : decode cX5_drive 128 = .ok (.ixor, 1) := by decide +kernel
theorem dX5_drive_129 : decode cX5_drive 129 = .ok (.iand, 1) := by decide +kernel
theorem dX5_drive_130 : decode cX5_drive 130 = .ok (.istore_n 3, 1) := by decide +kernel
theorem dX5_drive_131 : decode cX5_drive 131 = .ok (.aload_n 0, 1) := by decide +kernel
theorem dX5_drive_132 : decode cX5_drive 132 = .ok (.getfield 29, 3) := by decide +kernel
theorem dX5_drive_135 : decode cX5_drive 135 = .ok (.iload_n 1, 1) := by decide +kernel
theorem dX5_drive_136 : decode cX5_drive 136 = .ok (.aaload, 1) := by decide +kernel
theorem dX5_drive_137 : decode cX5_drive 137 = .ok (.iload 5, 2) := by decide +kernel
theorem dX5_drive_139 : decode cX5_drive 139 = .ok (.iload_n 2, 1) := by decide +kernel
theorem dX5_drive_140 : decode cX5_drive 140 = .ok (.iastore, 1) := by decide +kernel
theorem dX5_drive_141 : decode cX5_drive 141 = .ok (.iinc 4 1, 3) := by decide +kernel
theorem dX5_drive_144 : decode cX5_drive 144 = .ok (.goto (-122), 3) := by decide +kernel
theorem dX5_drive_147 : decode cX5_drive 147 = .ok (.aload_n 0, 1) := by decide +kernel
theorem dX5_drive_148 : decode cX5_drive 148 = .ok (.getfield 18, 3) := by decide +kernel
theorem dX5_drive_151 : decode cX5_drive 151 = .ok (.iload_n 1, 1) := by decide +kernel
theorem dX5_drive_152 : decode cX5_drive 152 = .ok (.iload_n 2, 1) := by decide +kernel
theorem dX5_drive_153 : decode cX5_drive 153 = .ok (.iastore, 1) := by decide +kernel
theorem dX5_drive_154 : decode cX5_drive 154 = .ok (.return_, 1) := by decide +kernel
theorem dX5_driveLeg_0 : decode cX5_driveLeg 0 = .ok (.aload_n 0, 1) := by decide +kernel
theorem dX5_driveLeg_1 : decode cX5_driveLeg 1 = .ok (.getfield 56, 3) := by decide +kernel
theorem dX5_driveLeg_4 : decode cX5_driveLeg 4 = .ok (.iload_n 3, 1) := by decide +kernel
theorem dX5_driveLeg_5 : decode cX5_driveLeg 5 = .ok (.iload 4, 2) := by decide +kernel
theorem dX5_driveLeg_7 : decode cX5_driveLeg 7 = .ok (.invokevirtual 108, 3) := by decide +kernel
theorem dX5_driveLeg_10 : decode cX5_driveLeg 10 = .ok (.istore 5, 2) := by decide +kernel
theorem dX5_driveLeg_12 : decode cX5_driveLeg 12 = .ok (.aload_n 0, 1) := by decide +kernel
theorem dX5_driveLeg_13 : decode cX5_driveLeg 13 = .ok (.getfield 9, 3) := by decide +kernel
theorem dX5_driveLeg_16 : decode cX5_driveLeg 16 = .ok (.iload_n 1, 1) := by decide +kernel
theorem dX5_driveLeg_17 : decode cX5_driveLeg 17 = .ok (.dup2, 1) := by decide +kernel
theorem dX5_driveLeg_18 : decode cX5_driveLeg 18 = .ok (.iaload, 1) := by decide +kernel
theorem dX5_driveLeg_19 : decode cX5_driveLeg 19 = .ok (.iload 5, 2) := by decide +kernel
theorem dX5_driveLeg_21 : decode cX5_driveLeg 21 = .ok (.iadd, 1) := by decide +kernel
theorem dX5_driveLeg_22 : decode cX5_driveLeg 22 = .ok (.iastore, 1) := by decide +kernel
theorem dX5_driveLeg_23 : decode cX5_driveLeg 23 = .ok (.iload_n 2, 1) := by decide +kernel
theorem dX5_driveLeg_24 : decode cX5_driveLeg 24 = .ok (.ifCond .ne 14, 3) := by decide +kernel
theorem dX5_driveLeg_27 : decode cX5_driveLeg 27 = .ok (.aload_n 0, 1) := by decide +kernel
theorem dX5_driveLeg_28 : decode cX5_driveLeg 28 = .ok (.getfield 15, 3) := by decide +kernel
theorem dX5_driveLeg_31 : decode cX5_driveLeg 31 = .ok (.iload_n 1, 1) := by decide +kernel
theorem dX5_driveLeg_32 : decode cX5_driveLeg 32 = .ok (.dup2, 1) := by decide +kernel
theorem dX5_driveLeg_33 : decode cX5_driveLeg 33 = .ok (.iaload, 1) := by decide +kernel
theorem dX5_driveLeg_34 : decode cX5_driveLeg 34 = .ok (.iload 5, 2) := by decide +kernel
theorem dX5_driveLeg_36 : decode cX5_driveLeg 36 = .ok (.iadd, 1) := by decide +kernel
theorem dX5_driveLeg_37 : decode cX5_driveLeg 37 = .ok (.iastore, 1) := by decide +kernel
theorem dX5_driveLeg_38 : decode cX5_driveLeg 38 = .ok (.iconst 0, 1) := by decide +kernel
theorem dX5_driveLeg_39 : decode cX5_driveLeg 39 = .ok (.istore 6, 2) := by decide +kernel
theorem dX5_driveLeg_41 : decode cX5_driveLeg 41 = .ok (.iload 6, 2) := by decide +kernel
theorem dX5_driveLeg_43 : decode cX5_driveLeg 43 = .ok (.aload_n 0, 1) := by decide +kernel
theorem dX5_driveLeg_44 : decode cX5_driveLeg 44 = .ok (.getfield 56, 3) := by decide +kernel
theorem dX5_driveLeg_47 : decode cX5_driveLeg 47 = .ok (.getfield 79, 3) := by decide +kernel
theorem dX5_driveLeg_50 : decode cX5_driveLeg 50 = .ok (.if_icmp .ge 30, 3) := by decide +kernel
theorem dX5_driveLeg_53 : decode cX5_driveLeg 53 = .ok (.iload_n 2, 1) := by decide +kernel
theorem dX5_driveLeg_54 : decode cX5_driveLeg 54 = .ok (.iload 6, 2) := by decide +kernel
theorem dX5_driveLeg_56 : decode cX5_driveLeg 56 = .ok (.ishr, 1) := by decide +kernel
theorem dX5_driveLeg_57 : decode cX5_driveLeg 57 = .ok (.iconst 1, 1) := by decide +kernel
theorem dX5_driveLeg_58 : decode cX5_driveLeg 58 = .ok (.iand, 1) := by decide +kernel
theorem dX5_driveLeg_59 : decode cX5_driveLeg 59 = .ok (.ifCond .eq 15, 3) := by decide +kernel
theorem dX5_driveLeg_62 : decode cX5_driveLeg 62 = .ok (.aload_n 0, 1) := by decide +kernel
theorem dX5_driveLeg_63 : decode cX5_driveLeg 63 = .ok (.getfield 38, 3) := by decide +kernel
theorem dX5_driveLeg_66 : decode cX5_driveLeg 66 = .ok (.iload 6, 2) := by decide +kernel
theorem dX5_driveLeg_68 : decode cX5_driveLeg 68 = .ok (.dup2, 1) := by decide +kernel
theorem dX5_driveLeg_69 : decode cX5_driveLeg 69 = .ok (.iaload, 1) := by decide +kernel
theorem dX5_driveLeg_70 : decode cX5_driveLeg 70 = .ok (.iload 5, 2) := by decide +kernel
theorem dX5_driveLeg_72 : decode cX5_driveLeg 72 = .ok (.iadd, 1) := by decide +kernel
theorem dX5_driveLeg_73 : decode cX5_driveLeg 73 = .ok (.iastore, 1) := by decide +kernel
theorem dX5_driveLeg_74 : decode cX5_driveLeg 74 = .ok (.iinc 6 1, 3) := by decide +kernel
theorem dX5_driveLeg_77 : decode cX5_driveLeg 77 = .ok (.goto (-36), 3) := by decide +kernel
theorem dX5_driveLeg_80 : decode cX5_driveLeg 80 = .ok (.iload_n 3, 1) := by decide +kernel
theorem dX5_driveLeg_81 : decode cX5_driveLeg 81 = .ok (.iload 4, 2) := by decide +kernel
theorem dX5_driveLeg_83 : decode cX5_driveLeg 83 = .ok (.if_icmp .eq 16, 3) := by decide +kernel
theorem dX5_driveLeg_86 : decode cX5_driveLeg 86 = .ok (.aload_n 0, 1) := by decide +kernel
theorem dX5_driveLeg_87 : decode cX5_driveLeg 87 = .ok (.getfield 32, 3) := by decide +kernel
theorem dX5_driveLeg_90 : decode cX5_driveLeg 90 = .ok (.iload_n 3, 1) := by decide +kernel
theorem dX5_driveLeg_91 : decode cX5_driveLeg 91 = .ok (.aaload, 1) := by decide +kernel
theorem dX5_driveLeg_92 : decode cX5_driveLeg 92 = .ok (.iload 4, 2) := by decide +kernel
theorem dX5_driveLeg_94 : decode cX5_driveLeg 94 = .ok (.dup2, 1) := by decide +kernel
theorem dX5_driveLeg_95 : decode cX5_driveLeg 95 = .ok (.iaload, 1) := by decide +kernel
theorem dX5_driveLeg_96 : decode cX5_driveLeg 96 = .ok (.iconst 1, 1) := by decide +kernel
theorem dX5_driveLeg_97 : decode cX5_driveLeg 97 = .ok (.iadd, 1) := by decide +kernel
theorem dX5_driveLeg_98 : decode cX5_driveLeg 98 = .ok (.iastore, 1) := by decide +kernel
theorem dX5_driveLeg_99 : decode cX5_driveLeg 99 = .ok (.return_, 1) := by decide +kernel
theorem dX5_findGapsOfTruck_0 : decode cX5_findGapsOfTruck 0 = .ok (.iconst (-1), 1) := by decide +kernel
theorem dX5_findGapsOfTruck_1 : decode cX5_findGapsOfTruck 1 = .ok (.istore_n 2, 1) := by decide +kernel
theorem dX5_findGapsOfTruck_2 : decode cX5_findGapsOfTruck 2 = .ok (.iconst 0, 1) := by decide +kernel
theorem dX5_findGapsOfTruck_3 : decode cX5_findGapsOfTruck 3 = .ok (.istore_n 3, 1) := by decide +kernel
theorem dX5_findGapsOfTruck_4 : decode cX5_findGapsOfTruck 4 = .ok (.iload_n 3, 1) := by decide +kernel
theorem dX5_findGapsOfTruck_5 : decode cX5_findGapsOfTruck 5 = .ok (.aload_n 0, 1) := by decide +kernel
theorem dX5_findGapsOfTruck_6 : decode cX5_findGapsOfTruck 6 = .ok (.getfield 56, 3) := by decide +kernel
theorem dX5_findGapsOfTruck_9 : decode cX5_findGapsOfTruck 9 = .ok (.getfield 63, 3) := by decide +kernel
theorem dX5_findGapsOfTruck_12 : decode cX5_findGapsOfTruck 12 = .ok (.if_icmp .ge 65, 3) := by decide +kernel
theorem dX5_findGapsOfTruck_15 : decode cX5_findGapsOfTruck 15 = .ok (.aload_n 0, 1) := by decide +kernel
theorem dX5_findGapsOfTruck_16 : decode cX5_findGapsOfTruck 16 = .ok (.getfield 56, 3) := by decide +kernel
theorem dX5_findGapsOfTruck_19 : decode cX5_findGapsOfTruck 19 = .ok (.getfield 112, 3) := by decide +kernel
theorem dX5_findGapsOfTruck_22 : decode cX5_findGapsOfTruck 22 = .ok (.iload_n 3, 1) := by decide +kernel
theorem dX5_findGapsOfTruck_23 : decode cX5_findGapsOfTruck 23 = .ok (.iaload, 1) := by decide +kernel
theorem dX5_findGapsOfTruck_24 : decode cX5_findGapsOfTruck 24 = .ok (.iload_n 1, 1) := by decide +kernel
theorem dX5_findGapsOfTruck_25 : decode cX5_findGapsOfTruck 25 = .ok (.if_icmp .eq 6, 3) := by decide +kernel
theorem dX5_findGapsOfTruck_28 : decode cX5_findGapsOfTruck 28 = .ok (.goto 43, 3) := by decide +kernel
theorem dX5_findGapsOfTruck_31 : decode cX5_findGapsOfTruck 31 = .ok (.iload_n 2, 1) := by decide +kernel
theorem dX5_findGapsOfTruck_32 : decode cX5_findGapsOfTruck 32 = .ok (.iconst (-1), 1) := by decide +kernel
theorem dX5_findGapsOfTruck_33 : decode cX5_findGapsOfTruck 33 = .ok (.if_icmp .eq 31, 3) := by decide +kernel
theorem dX5_findGapsOfTruck_36 : decode cX5_findGapsOfTruck 36 = .ok (.iload_n 2, 1) := by decide +kernel
theorem dX5_findGapsOfTruck_37 : decode cX5_findGapsOfTruck 37 = .ok (.aload_n 0, 1) := by decide +kernel
theorem dX5_findGapsOfTruck_38 : decode cX5_findGapsOfTruck 38 = .ok (.getfield 56, 3) := by decide +kernel
theorem dX5_findGapsOfTruck_41 : decode cX5_findGapsOfTruck 41 = .ok (.getfield 88, 3) := by decide +kernel
theorem dX5_findGapsOfTruck_44 : decode cX5_findGapsOfTruck 44 = .ok (.iload_n 3, 1) := by decide +kernel
theorem dX5_findGapsOfTruck_45 : decode cX5_findGapsOfTruck 45 = .ok (.iaload, 1) := by decide +kernel
theorem dX5_findGapsOfTruck_46 : decode cX5_findGapsOfTruck 46 = .ok (.if_icmp .eq 18, 3) := by decide +kernel
theorem dX5_findGapsOfTruck_49 : decode cX5_findGapsOfTruck 49 = .ok (.aload_n 0, 1) := by decide +kernel
theorem dX5_findGapsOfTruck_50 : decode cX5_findGapsOfTruck 50 = .ok (.iload_n 1, 1) := by decide +kernel
theorem dX5_findGapsOfTruck_51 : decode cX5_findGapsOfTruck 51 = .ok (.iload_n 2, 1) := by decide +kernel
theorem dX5_findGapsOfTruck_52 : decode cX5_findGapsOfTruck 52 = .ok (.aload_n 0, 1) := by decide +kernel
theorem dX5_findGapsOfTruck_53 : decode cX5_findGapsOfTruck 53 = .ok (.getfield 56, 3) := by decide +kernel
theorem dX5_findGapsOfTruck_56 : decode cX5_findGapsOfTruck 56 = .ok (.getfield 88, 3) := by decide +kernel
theorem dX5_findGapsOfTruck_59 : decode cX5_findGapsOfTruck 59 = .ok (.iload_n 3, 1) := by decide +kernel
theorem dX5_findGapsOfTruck_60 : decode cX5_findGapsOfTruck 60 = .ok (.iaload, 1) := by decide +kernel
theorem dX5_findGapsOfTruck_61 : decode cX5_findGapsOfTruck 61 = .ok (.invokevirtual 115, 3) := by decide +kernel
theorem dX5_findGapsOfTruck_64 : decode cX5_findGapsOfTruck 64 = .ok (.aload_n 0, 1) := by decide +kernel
theorem dX5_findGapsOfTruck_65 : decode cX5_findGapsOfTruck 65 = .ok (.getfield 18, 3) := by decide +kernel
theorem dX5_findGapsOfTruck_68 : decode cX5_findGapsOfTruck 68 = .ok (.iload_n 3, 1) := by decide +kernel
theorem dX5_findGapsOfTruck_69 : decode cX5_findGapsOfTruck 69 = .ok (.iaload, 1) := by decide +kernel
theorem dX5_findGapsOfTruck_70 : decode cX5_findGapsOfTruck 70 = .ok (.istore_n 2, 1) := by decide +kernel
theorem dX5_findGapsOfTruck_71 : decode cX5_findGapsOfTruck 71 = .ok (.iinc 3 1, 3) := by decide +kernel
theorem dX5_findGapsOfTruck_74 : decode cX5_findGapsOfTruck 74 = .ok (.goto (-70), 3) := by decide +kernel
theorem dX5_findGapsOfTruck_77 : decode cX5_findGapsOfTruck 77 = .ok (.return_, 1) := by decide +kernel
theorem dX5_followLoad_0 : decode cX5_followLoad 0 = .ok (.aload_n 0, 1) := by decide +kernel
theorem dX5_followLoad_1 : decode cX5_followLoad 1 = .ok (.getfield 56, 3) := by decide +kernel
theorem dX5_followLoad_4 : decode cX5_followLoad 4 = .ok (.getfield 119, 3) := by decide +kernel
theorem dX5_followLoad_7 : decode cX5_followLoad 7 = .ok (.iload_n 1, 1) := by decide +kernel
theorem dX5_followLoad_8 : decode cX5_followLoad 8 = .ok (.iaload, 1) := by decide +kernel
theorem dX5_followLoad_9 : decode cX5_followLoad 9 = .ok (.istore_n 2, 1) := by decide +kernel
theorem dX5_followLoad_10 : decode cX5_followLoad 10 = .ok (.iconst 0, 1) := by decide +kernel
theorem dX5_followLoad_11 : decode cX5_followLoad 11 = .ok (.istore_n 3, 1) := by decide +kernel
theorem dX5_followLoad_12 : decode cX5_followLoad 12 = .ok (.iconst 0, 1) := by decide +kernel
theorem dX5_followLoad_13 : decode cX5_followLoad 13 = .ok (.istore 4, 2) := by decide +kernel
theorem dX5_followLoad_15 : decode cX5_followLoad 15 = .ok (.iload 4, 2) := by decide +kernel
theorem dX5_followLoad_17 : decode cX5_followLoad 17 = .ok (.aload_n 0, 1) := by decide +kernel
theorem dX5_followLoad_18 : decode cX5_followLoad 18 = .ok (.getfield 56, 3) := by decide +kernel
theorem dX5_followLoad_21 : decode cX5_followLoad 21 = .ok (.getfield 63, 3) := by decide +kernel
theorem dX5_followLoad_24 : decode cX5_followLoad 24 = .ok (.if_icmp .ge 82, 3) := by decide +kernel
theorem dX5_followLoad_27 : decode cX5_followLoad 27 = .ok (.aload_n 0, 1) := by decide +kernel
theorem dX5_followLoad_28 : decode cX5_followLoad 28 = .ok (.getfield 21, 3) := by decide +kernel
theorem dX5_followLoad_31 : decode cX5_followLoad 31 = .ok (.iload 4, 2) := by decide +kernel
theorem dX5_followLoad_33 : decode cX5_followLoad 33 = .ok (.iaload, 1) := by decide +kernel
theorem dX5_followLoad_34 : decode cX5_followLoad 34 = .ok (.iload_n 1, 1) := by decide +kernel
theorem dX5_followLoad_35 : decode cX5_followLoad 35 = .ok (.ishr, 1) := by decide +kernel
theorem dX5_followLoad_36 : decode cX5_followLoad 36 = .ok (.iconst 1, 1) := by decide +kernel
theorem dX5_followLoad_37 : decode cX5_followLoad 37 = .ok (.iand, 1) := by decide +kernel
theorem dX5_followLoad_38 : decode cX5_followLoad 38 = .ok (.ifCond .ne 6, 3) := by decide +kernel
theorem dX5_followLoad_41 : decode cX5_followLoad 41 = .ok (.goto 59, 3) := by decide +kernel
theorem dX5_followLoad_44 : decode cX5_followLoad 44 = .ok (.aload_n 0, 1) := by decide +kernel
theorem dX5_followLoad_45 : decode cX5_followLoad 45 = .ok (.getfield 26, 3) := by decide +kernel
theorem dX5_followLoad_48 : decode cX5_followLoad 48 = .ok (.iload 4, 2) := by decide +kernel
theorem dX5_followLoad_50 : decode cX5_followLoad 50 = .ok (.aaload, 1) := by decide +kernel
theorem dX5_followLoad_51 : decode cX5_followLoad 51 = .ok (.iload_n 1, 1) := by decide +kernel
theorem dX5_followLoad_52 : decode cX5_followLoad 52 = .ok (.iaload, 1) := by decide +kernel
theorem dX5_followLoad_53 : decode cX5_followLoad 53 = .ok (.istore 5, 2) := by decide +kernel
theorem dX5_followLoad_55 : decode cX5_followLoad 55 = .ok (.iload 5, 2) := by decide +kernel
theorem dX5_followLoad_57 : decode cX5_followLoad 57 = .ok (.iload_n 2, 1) := by decide +kernel
theorem dX5_followLoad_58 : decode cX5_followLoad 58 = .ok (.if_icmp .eq 14, 3) := by decide +kernel
theorem dX5_followLoad_61 : decode cX5_followLoad 61 = .ok (.aload_n 0, 1) := by decide +kernel
theorem dX5_followLoad_62 : decode cX5_followLoad 62 = .ok (.iload_n 1, 1) := by decide +kernel
theorem dX5_followLoad_63 : decode cX5_followLoad 63 = .ok (.iload_n 2, 1) := by decide +kernel
theorem dX5_followLoad_64 : decode cX5_followLoad 64 = .ok (.iload 5, 2) := by decide +kernel
theorem dX5_followLoad_66 : decode cX5_followLoad 66 = .ok (.invokevirtual 122, 3) := by decide +kernel
theorem dX5_followLoad_69 : decode cX5_followLoad 69 = .ok (.goto 19, 3) := by decide +kernel
theorem dX5_followLoad_72 : decode cX5_followLoad 72 = .ok (.iload_n 3, 1) := by decide +kernel
theorem dX5_followLoad_73 : decode cX5_followLoad 73 = .ok (.ifCond .eq 15, 3) := by decide +kernel
theorem dX5_followLoad_76 : decode cX5_followLoad 76 = .ok (.aload_n 0, 1) := by decide +kernel
theorem dX5_followLoad_77 : decode cX5_followLoad 77 = .ok (.getfield 35, 3) := by decide +kernel
theorem dX5_followLoad_80 : decode cX5_followLoad 80 = .ok (.iload_n 1, 1) := by decide +kernel
theorem dX5_followLoad_81 : decode cX5_followLoad 81 = .ok (.aaload, 1) := by decide +kernel
theorem dX5_followLoad_82 : decode cX5_followLoad 82 = .ok (.iload_n 2, 1) := by decide +kernel
theorem dX5_followLoad_83 : decode cX5_followLoad 83 = .ok (.dup2, 1) := by decide +kernel
theorem dX5_followLoad_84 : decode cX5_followLoad 84 = .ok (.iaload, 1) := by decide +kernel
theorem dX5_followLoad_85 : decode cX5_followLoad 85 = .ok (.iconst 1, 1) := by decide +kernel
theorem dX5_followLoad_86 : decode cX5_followLoad 86 = .ok (.iadd, 1) := by decide +kernel
theorem dX5_followLoad_87 : decode cX5_followLoad 87 = .ok (.iastore, 1) := by decide +kernel
theorem dX5_followLoad_88 : decode cX5_followLoad 88 = .ok (.aload_n 0, 1) := by decide +kernel
theorem dX5_followLoad_89 : decode cX5_followLoad 89 = .ok (.getfield 29, 3) := by decide +kernel
theorem dX5_followLoad_92 : decode cX5_followLoad 92 = .ok (.iload 4, 2) := by decide +kernel
theorem dX5_followLoad_94 : decode cX5_followLoad 94 = .ok (.aaload, 1) := by decide +kernel
theorem dX5_followLoad_95 : decode cX5_followLoad 95 = .ok (.iload_n 1, 1) := by decide +kernel
theorem dX5_followLoad_96 : decode cX5_followLoad 96 = .ok (.iaload, 1) := by decide +kernel
theorem dX5_followLoad_97 : decode cX5_followLoad 97 = .ok (.istore_n 2, 1) := by decide +kernel
theorem dX5_followLoad_98 : decode cX5_followLoad 98 = .ok (.iconst 1, 1) := by decide +kernel
theorem dX5_followLoad_99 : decode cX5_followLoad 99 = .ok (.istore_n 3, 1) := by decide +kernel
theorem dX5_followLoad_100 : decode cX5_followLoad 100 = .ok (.iinc 4 1, 3) := by decide +kernel
theorem dX5_followLoad_103 : decode cX5_followLoad 103 = .ok (.goto (-88), 3) := by decide +kernel
theorem dX5_followLoad_106 : decode cX5_followLoad 106 = .ok (.iload_n 2, 1) := by decide +kernel
theorem dX5_followLoad_107 : decode cX5_followLoad 107 = .ok (.aload_n 0, 1) := by decide +kernel
theorem dX5_followLoad_108 : decode cX5_followLoad 108 = .ok (.getfield 56, 3) := by decide +kernel
theorem dX5_followLoad_111 : decode cX5_followLoad 111 = .ok (.getfield 125, 3) := by decide +kernel
theorem dX5_followLoad_114 : decode cX5_followLoad 114 = .ok (.iload_n 1, 1) := by decide +kernel
theorem dX5_followLoad_115 : decode cX5_followLoad 115 = .ok (.iaload, 1) := by decide +kernel
theorem dX5_followLoad_116 : decode cX5_followLoad 116 = .ok (.if_icmp .eq 18, 3) := by decide +kernel
theorem dX5_followLoad_119 : decode cX5_followLoad 119 = .ok (.aload_n 0, 1) := by decide +kernel
theorem dX5_followLoad_120 : decode cX5_followLoad 120 = .ok (.iload_n 1, 1) := by decide +kernel
theorem dX5_followLoad_121 : decode cX5_followLoad 121 = .ok (.iload_n 2, 1) := by decide +kernel
theorem dX5_followLoad_122 : decode cX5_followLoad 122 = .ok (.aload_n 0, 1) := by decide +kernel
theorem dX5_followLoad_123 : decode cX5_followLoad 123 = .ok (.getfield 56, 3) := by decide +kernel
theorem dX5_followLoad_126 : decode cX5_followLoad 126 = .ok (.getfield 125, 3) := by decide +kernel
theorem dX5_followLoad_129 : decode cX5_followLoad 129 = .ok (.iload_n 1, 1) := by decide +kernel
theorem dX5_followLoad_130 : decode cX5_followLoad 130 = .ok (.iaload, 1) := by decide +kernel
theorem dX5_followLoad_131 : decode cX5_followLoad 131 = .ok (.invokevirtual 122, 3) := by decide +kernel
theorem dX5_followLoad_134 : decode cX5_followLoad 134 = .ok (.return_, 1) := by decide +kernel
theorem dX5_addGapOfLoad_0 : decode cX5_addGapOfLoad 0 = .ok (.aload_n 0, 1) := by decide +kernel
theorem dX5_addGapOfLoad_1 : decode cX5_addGapOfLoad 1 = .ok (.bipush 100, 2) := by decide +kernel
theorem dX5_addGapOfLoad_3 : decode cX5_addGapOfLoad 3 = .ok (.iload_n 1, 1) := by decide +kernel
theorem dX5_addGapOfLoad_4 : decode cX5_addGapOfLoad 4 = .ok (.iadd, 1) := by decide +kernel
theorem dX5_addGapOfLoad_5 : decode cX5_addGapOfLoad 5 = .ok (.iload_n 2, 1) := by decide +kernel
theorem dX5_addGapOfLoad_6 : decode cX5_addGapOfLoad 6 = .ok (.iload_n 3, 1) := by decide +kernel
theorem dX5_addGapOfLoad_7 : decode cX5_addGapOfLoad 7 = .ok (.invokevirtual 115, 3) := by decide +kernel
theorem dX5_addGapOfLoad_10 : decode cX5_addGapOfLoad 10 = .ok (.aload_n 0, 1) := by decide +kernel
theorem dX5_addGapOfLoad_11 : decode cX5_addGapOfLoad 11 = .ok (.getfield 41, 3) := by decide +kernel
theorem dX5_addGapOfLoad_14 : decode cX5_addGapOfLoad 14 = .ok (.iload_n 1, 1) := by decide +kernel
theorem dX5_addGapOfLoad_15 : decode cX5_addGapOfLoad 15 = .ok (.dup2, 1) := by decide +kernel
theorem dX5_addGapOfLoad_16 : decode cX5_addGapOfLoad 16 = .ok (.iaload, 1) := by decide +kernel
theorem dX5_addGapOfLoad_17 : decode cX5_addGapOfLoad 17 = .ok (.iconst 1, 1) := by decide +kernel
theorem dX5_addGapOfLoad_18 : decode cX5_addGapOfLoad 18 = .ok (.iadd, 1) := by decide +kernel
theorem dX5_addGapOfLoad_19 : decode cX5_addGapOfLoad 19 = .ok (.iastore, 1) := by decide +kernel
theorem dX5_addGapOfLoad_20 : decode cX5_addGapOfLoad 20 = .ok (.aload_n 0, 1) := by decide +kernel
theorem dX5_addGapOfLoad_21 : decode cX5_addGapOfLoad 21 = .ok (.getfield 44, 3) := by decide +kernel
theorem dX5_addGapOfLoad_24 : decode cX5_addGapOfLoad 24 = .ok (.iload_n 1, 1) := by decide +kernel
theorem dX5_addGapOfLoad_25 : decode cX5_addGapOfLoad 25 = .ok (.dup2, 1) := by decide +kernel
theorem dX5_addGapOfLoad_26 : decode cX5_addGapOfLoad 26 = .ok (.iaload, 1) := by decide +kernel
theorem dX5_addGapOfLoad_27 : decode cX5_addGapOfLoad 27 = .ok (.aload_n 0, 1) := by decide +kernel
theorem dX5_addGapOfLoad_28 : decode cX5_addGapOfLoad 28 = .ok (.getfield 56, 3) := by decide +kernel
theorem dX5_addGapOfLoad_31 : decode cX5_addGapOfLoad 31 = .ok (.iload_n 2, 1) := by decide +kernel
theorem dX5_addGapOfLoad_32 : decode cX5_addGapOfLoad 32 = .ok (.iload_n 3, 1) := by decide +kernel
theorem dX5_addGapOfLoad_33 : decode cX5_addGapOfLoad 33 = .ok (.invokevirtual 108, 3) := by decide +kernel
theorem dX5_addGapOfLoad_36 : decode cX5_addGapOfLoad 36 = .ok (.iadd, 1) := by decide +kernel
theorem dX5_addGapOfLoad_37 : decode cX5_addGapOfLoad 37 = .ok (.iastore, 1) := by decide +kernel
theorem dX5_addGapOfLoad_38 : decode cX5_addGapOfLoad 38 = .ok (.return_, 1) := by decide +kernel
theorem dX5_addGap_0 : decode cX5_addGap 0 = .ok (.aload_n 0, 1) := by decide +kernel
theorem dX5_addGap_1 : decode cX5_addGap 1 = .ok (.getfield 85, 3) := by decide +kernel
theorem dX5_addGap_4 : decode cX5_addGap 4 = .ok (.sipush 288, 3) := by decide +kernel
theorem dX5_addGap_7 : decode cX5_addGap 7 = .ok (.if_icmp .ge 43, 3) := by decide +kernel
theorem dX5_addGap_10 : decode cX5_addGap 10 = .ok (.aload_n 0, 1) := by decide +kernel
theorem dX5_addGap_11 : decode cX5_addGap 11 = .ok (.getfield 47, 3) := by decide +kernel
theorem dX5_addGap_14 : decode cX5_addGap 14 = .ok (.aload_n 0, 1) := by decide +kernel
theorem dX5_addGap_15 : decode cX5_addGap 15 = .ok (.getfield 85, 3) := by decide +kernel
theorem dX5_addGap_18 : decode cX5_addGap 18 = .ok (.iload_n 1, 1) := by decide +kernel
theorem dX5_addGap_19 : decode cX5_addGap 19 = .ok (.iastore, 1) := by decide +kernel
theorem dX5_addGap_20 : decode cX5_addGap 20 = .ok (.aload_n 0, 1) := by decide +kernel
theorem dX5_addGap_21 : decode cX5_addGap 21 = .ok (.getfield 50, 3) := by decide +kernel
theorem dX5_addGap_24 : decode cX5_addGap 24 = .ok (.aload_n 0, 1) := by decide +kernel
theorem dX5_addGap_25 : decode cX5_addGap 25 = .ok (.getfield 85, 3) := by decide +kernel
theorem dX5_addGap_28 : decode cX5_addGap 28 = .ok (.iload_n 2, 1) := by decide +kernel
theorem dX5_addGap_29 : decode cX5_addGap 29 = .ok (.iastore, 1) := by decide +kernel
theorem dX5_addGap_30 : decode cX5_addGap 30 = .ok (.aload_n 0, 1) := by decide +kernel
theorem dX5_addGap_31 : decode cX5_addGap 31 = .ok (.getfield 53, 3) := by decide +kernel
theorem dX5_addGap_34 : decode cX5_addGap 34 = .ok (.aload_n 0, 1) := by decide +kernel
theorem dX5_addGap_35 : decode cX5_addGap 35 = .ok (.getfield 85, 3) := by decide +kernel
theorem dX5_addGap_38 : decode cX5_addGap 38 = .ok (.iload_n 3, 1) := by decide +kernel
theorem dX5_addGap_39 : decode cX5_addGap 39 = .ok (.iastore, 1) := by decide +kernel
theorem dX5_addGap_40 : decode cX5_addGap 40 = .ok (.aload_n 0, 1) := by decide +kernel
theorem dX5_addGap_41 : decode cX5_addGap 41 = .ok (.dup, 1) := by decide +kernel
theorem dX5_addGap_42 : decode cX5_addGap 42 = .ok (.getfield 85, 3) := by decide +kernel
theorem dX5_addGap_45 : decode cX5_addGap 45 = .ok (.iconst 1, 1) := by decide +kernel
theorem dX5_addGap_46 : decode cX5_addGap 46 = .ok (.iadd, 1) := by decide +kernel
theorem dX5_addGap_47 : decode cX5_addGap 47 = .ok (.putfield 85, 3) := by decide +kernel
theorem dX5_addGap_50 : decode cX5_addGap 50 = .ok (.return_, 1) := by decide +kernel
theorem dX6_init_0 : decode cX6_init 0 = .ok (.aload_n 0, 1) := by decide +kernel
theorem dX6_init_1 : decode cX6_init 1 = .ok (.invokespecial 3, 3) := by decide +kernel
theorem dX6_init_4 : decode cX6_init 4 = .ok (.aload_n 0, 1) := by decide +kernel
theorem dX6_init_5 : decode cX6_init 5 = .ok (.aload_n 1, 1) := by decide +kernel
theorem dX6_init_6 : decode cX6_init 6 = .ok (.putfield 9, 3) := by decide +kernel
theorem dX6_init_9 : decode cX6_init 9 = .ok (.return_, 1) := by decide +kernel
theorem dX6_begin_0 : decode cX6_begin 0 = .ok (.aload_n 0, 1) := by decide +kernel
theorem dX6_begin_1 : decode cX6_begin 1 = .ok (.iconst 0, 1) := by decide +kernel
theorem dX6_begin_2 : decode cX6_begin 2 = .ok (.putfield 15, 3) := by decide +kernel
theorem dX6_begin_5 : decode cX6_begin 5 = .ok (.aload_n 0, 1) := by decide +kernel
theorem dX6_begin_6 : decode cX6_begin 6 = .ok (.aload_n 0, 1) := by decide +kernel
theorem dX6_begin_7 : decode cX6_begin 7 = .ok (.getfield 9, 3) := by decide +kernel
theorem dX6_begin_10 : decode cX6_begin 10 = .ok (.getfield 19, 3) := by decide +kernel
theorem dX6_begin_13 : decode cX6_begin 13 = .ok (.sipush 800, 3) := by decide +kernel
theorem dX6_begin_16 : decode cX6_begin 16 = .ok (.invokestatic 24, 3) := by decide +kernel
theorem dX6_begin_19 : decode cX6_begin 19 = .ok (.putfield 30, 3) := by decide +kernel
theorem dX6_begin_22 : decode cX6_begin 22 = .ok (.return_, 1) := by decide +kernel
theorem dX6_hasTooMany_0 : decode cX6_hasTooMany 0 = .ok (.aload_n 0, 1) := by decide +kernel
theorem dX6_hasTooMany_1 : decode cX6_hasTooMany 1 = .ok (.getfield 9, 3) := by decide +kernel
theorem dX6_hasTooMany_4 : decode cX6_hasTooMany 4 = .ok (.getfield 19, 3) := by decide +kernel
theorem dX6_hasTooMany_7 : decode cX6_hasTooMany 7 = .ok (.sipush 800, 3) := by decide +kernel
theorem dX6_hasTooMany_10 : decode cX6_hasTooMany 10 = .ok (.if_icmp .le 7, 3) := by decide +kernel
theorem dX6_hasTooMany_13 : decode cX6_hasTooMany 13 = .ok (.iconst 1, 1) := by decide +kernel
theorem dX6_hasTooMany_14 : decode cX6_hasTooMany 14 = .ok (.goto 4, 3) := by decide +kernel
theorem dX6_hasTooMany_17 : decode cX6_hasTooMany 17 = .ok (.iconst 0, 1) := by decide +kernel
theorem dX6_hasTooMany_18 : decode cX6_hasTooMany 18 = .ok (.ireturn, 1) := by decide +kernel
theorem dX6_next_0 : decode cX6_next 0 = .ok (.aload_n 0, 1) := by decide +kernel
theorem dX6_next_1 : decode cX6_next 1 = .ok (.getfield 15, 3) := by decide +kernel
theorem dX6_next_4 : decode cX6_next 4 = .ok (.aload_n 0, 1) := by decide +kernel
theorem dX6_next_5 : decode cX6_next 5 = .ok (.getfield 30, 3) := by decide +kernel
theorem dX6_next_8 : decode cX6_next 8 = .ok (.if_icmp .ge 33, 3) := by decide +kernel
theorem dX6_next_11 : decode cX6_next 11 = .ok (.aload_n 0, 1) := by decide +kernel
theorem dX6_next_12 : decode cX6_next 12 = .ok (.getfield 9, 3) := by decide +kernel
theorem dX6_next_15 : decode cX6_next 15 = .ok (.aload_n 0, 1) := by decide +kernel
theorem dX6_next_16 : decode cX6_next 16 = .ok (.getfield 15, 3) := by decide +kernel
theorem dX6_next_19 : decode cX6_next 19 = .ok (.invokevirtual 33, 3) := by decide +kernel
theorem dX6_next_22 : decode cX6_next 22 = .ok (.invokestatic 37, 3) := by decide +kernel
theorem dX6_next_25 : decode cX6_next 25 = .ok (.ifCond .eq 16, 3) := by decide +kernel
theorem dX6_next_28 : decode cX6_next 28 = .ok (.aload_n 0, 1) := by decide +kernel
theorem dX6_next_29 : decode cX6_next 29 = .ok (.dup, 1) := by decide +kernel
theorem dX6_next_30 : decode cX6_next 30 = .ok (.getfield 15, 3) := by decide +kernel
theorem dX6_next_33 : decode cX6_next 33 = .ok (.iconst 1, 1) := by decide +kernel
theorem dX6_next_34 : decode cX6_next 34 = .ok (.iadd, 1) := by decide +kernel
theorem dX6_next_35 : decode cX6_next 35 = .ok (.putfield 15, 3) := by decide +kernel
theorem dX6_next_38 : decode cX6_next 38 = .ok (.goto (-38), 3) := by decide +kernel
theorem dX6_next_41 : decode cX6_next 41 = .ok (.aload_n 0, 1) := by decide +kernel
theorem dX6_next_42 : decode cX6_next 42 = .ok (.getfield 15, 3) := by decide +kernel
theorem dX6_next_45 : decode cX6_next 45 = .ok (.aload_n 0, 1) := by decide +kernel
theorem dX6_next_46 : decode cX6_next 46 = .ok (.getfield 30, 3) := by decide +kernel
theorem dX6_next_49 : decode cX6_next 49 = .ok (.if_icmp .lt 17, 3) := by decide +kernel
theorem dX6_next_52 : decode cX6_next 52 = .ok (.aload_n 0, 1) := by decide +kernel
theorem dX6_next_53 : decode cX6_next 53 = .ok (.aload_n 0, 1) := by decide +kernel
theorem dX6_next_54 : decode cX6_next 54 = .ok (.getfield 30, 3) := by decide +kernel
theorem dX6_next_57 : decode cX6_next 57 = .ok (.putfield 41, 3) := by decide +kernel
theorem dX6_next_60 : decode cX6_next 60 = .ok (.aload_n 0, 1) := by decide +kernel
theorem dX6_next_61 : decode cX6_next 61 = .ok (.iconst 0, 1) := by decide +kernel
theorem dX6_next_62 : decode cX6_next 62 = .ok (.putfield 44, 3) := by decide +kernel
theorem dX6_next_65 : decode cX6_next 65 = .ok (.return_, 1) := by decide +kernel
theorem dX6_next_66 : decode cX6_next 66 = .ok (.aload_n 0, 1) := by decide +kernel
theorem dX6_next_67 : decode cX6_next 67 = .ok (.aload_n 0, 1) := by decide +kernel
theorem dX6_next_68 : decode cX6_next 68 = .ok (.getfield 15, 3) := by decide +kernel
theorem dX6_next_71 : decode cX6_next 71 = .ok (.putfield 41, 3) := by decide +kernel
theorem dX6_next_74 : decode cX6_next 74 = .ok (.aload_n 0, 1) := by decide +kernel
theorem dX6_next_75 : decode cX6_next 75 = .ok (.getfield 9, 3) := by decide +kernel
theorem dX6_next_78 : decode cX6_next 78 = .ok (.aload_n 0, 1) := by decide +kernel
theorem dX6_next_79 : decode cX6_next 79 = .ok (.getfield 15, 3) := by decide +kernel
theorem dX6_next_82 : decode cX6_next 82 = .ok (.invokevirtual 33, 3) := by decide +kernel
theorem dX6_next_85 : decode cX6_next 85 = .ok (.bipush 59, 2) := by decide +kernel
theorem dX6_next_87 : decode cX6_next 87 = .ok (.if_icmp .ne 19, 3) := by decide +kernel
theorem dX6_next_90 : decode cX6_next 90 = .ok (.aload_n 0, 1) := by decide +kernel
theorem dX6_next_91 : decode cX6_next 91 = .ok (.dup, 1) := by decide +kernel
theorem dX6_next_92 : decode cX6_next 92 = .ok (.getfield 15, 3) := by decide +kernel
theorem dX6_next_95 : decode cX6_next 95 = .ok (.iconst 1, 1) := by decide +kernel
theorem dX6_next_96 : decode cX6_next 96 = .ok (.iadd, 1) := by decide +kernel
theorem dX6_next_97 : decode cX6_next 97 = .ok (.putfield 15, 3) := by decide +kernel
theorem dX6_next_100 : decode cX6_next 100 = .ok (.aload_n 0, 1) := by decide +kernel
theorem dX6_next_101 : decode cX6_next 101 = .ok (.iconst 3, 1) := by decide +kernel
theorem dX6_next_102 : decode cX6_next 102 = .ok (.putfield 44, 3) := by decide +kernel
theorem dX6_next_105 : decode cX6_next 105 = .ok (.return_, 1) := by decide +kernel
theorem dX6_next_106 : decode cX6_next 106 = .ok (.aload_n 0, 1) := by decide +kernel
theorem dX6_next_107 : decode cX6_next 107 = .ok (.aload_n 0, 1) := by decide +kernel
theorem dX6_next_108 : decode cX6_next 108 = .ok (.invokevirtual 47, 3) := by decide +kernel
theorem dX6_next_111 : decode cX6_next 111 = .ok (.putfield 44, 3) := by decide +kernel
theorem dX6_next_114 : decode cX6_next 114 = .ok (.return_, 1) := by decide +kernel
theorem dX6_readRun_0 : decode cX6_readRun 0 = .ok (.iconst 0, 1) := by decide +kernel
theorem dX6_readRun_1 : decode cX6_readRun 1 = .ok (.istore_n 1, 1) := by decide +kernel
theorem dX6_readRun_2 : decode cX6_readRun 2 = .ok (.iconst 0, 1) := by decide +kernel
theorem dX6_readRun_3 : decode cX6_readRun 3 = .ok (.istore_n 2, 1) := by decide +kernel
theorem dX6_readRun_4 : decode cX6_readRun 4 = .ok (.aload_n 0, 1) := by decide +kernel
theorem dX6_readRun_5 : decode cX6_readRun 5 = .ok (.iconst 0, 1) := by decide +kernel
theorem dX6_readRun_6 : decode cX6_readRun 6 = .ok (.putfield 51, 3) := by decide +kernel
theorem dX6_readRun_9 : decode cX6_readRun 9 = .ok (.aload_n 0, 1) := by decide +kernel
theorem dX6_readRun_10 : decode cX6_readRun 10 = .ok (.getfield 15, 3) := by decide +kernel
theorem dX6_readRun_13 : decode cX6_readRun 13 = .ok (.aload_n 0, 1) := by decide +kernel
theorem dX6_readRun_14 : decode cX6_readRun 14 = .ok (.getfield 9, 3) := by decide +kernel
theorem dX6_readRun_17 : decode cX6_readRun 17 = .ok (.getfield 19, 3) := by decide +kernel
theorem dX6_readRun_20 : decode cX6_readRun 20 = .ok (.if_icmp .ge 67, 3) := by decide +kernel
theorem dX6_readRun_23 : decode cX6_readRun 23 = .ok (.aload_n 0, 1) := by decide +kernel
theorem dX6_readRun_24 : decode cX6_readRun 24 = .ok (.getfield 9, 3) := by decide +kernel
theorem dX6_readRun_27 : decode cX6_readRun 27 = .ok (.aload_n 0, 1) := by decide +kernel
theorem dX6_readRun_28 : decode cX6_readRun 28 = .ok (.getfield 15, 3) := by decide +kernel
theorem dX6_readRun_31 : decode cX6_readRun 31 = .ok (.invokevirtual 33, 3) := by decide +kernel
theorem dX6_readRun_34 : decode cX6_readRun 34 = .ok (.istore_n 3, 1) := by decide +kernel
theorem dX6_readRun_35 : decode cX6_readRun 35 = .ok (.iload_n 3, 1) := by decide +kernel
theorem dX6_readRun_36 : decode cX6_readRun 36 = .ok (.invokestatic 54, 3) := by decide +kernel
theorem dX6_readRun_39 : decode cX6_readRun 39 = .ok (.ifCond .eq 9, 3) := by decide +kernel
theorem dX6_readRun_42 : decode cX6_readRun 42 = .ok (.iinc 1 1, 3) := by decide +kernel
theorem dX6_readRun_45 : decode cX6_readRun 45 = .ok (.goto 29, 3) := by decide +kernel
theorem dX6_readRun_48 : decode cX6_readRun 48 = .ok (.iload_n 3, 1) := by decide +kernel
theorem dX6_readRun_49 : decode cX6_readRun 49 = .ok (.invokestatic 57, 3) := by decide +kernel
theorem dX6_readRun_52 : decode cX6_readRun 52 = .ok (.ifCond .eq 35, 3) := by decide +kernel
theorem dX6_readRun_55 : decode cX6_readRun 55 = .ok (.iinc 2 1, 3) := by decide +kernel
theorem dX6_readRun_58 : decode cX6_readRun 58 = .ok (.aload_n 0, 1) := by decide +kernel
theorem dX6_readRun_59 : decode cX6_readRun 59 = .ok (.aload_n 0, 1) := by decide +kernel
theorem dX6_readRun_60 : decode cX6_readRun 60 = .ok (.getfield 51, 3) := by decide +kernel
theorem dX6_readRun_63 : decode cX6_readRun 63 = .ok (.bipush 10, 2) := by decide +kernel
theorem dX6_readRun_65 : decode cX6_readRun 65 = .ok (.imul, 1) := by decide +kernel
theorem dX6_readRun_66 : decode cX6_readRun 66 = .ok (.iload_n 3, 1) := by decide +kernel
theorem dX6_readRun_67 : decode cX6_readRun 67 = .ok (.bipush 48, 2) := by decide +kernel
theorem dX6_readRun_69 : decode cX6_readRun 69 = .ok (.isub, 1) := by decide +kernel
theorem dX6_readRun_70 : decode cX6_readRun 70 = .ok (.iadd, 1) := by decide +kernel
theorem dX6_readRun_71 : decode cX6_readRun 71 = .ok (.putfield 51, 3) := by decide +kernel
theorem dX6_readRun_74 : decode cX6_readRun 74 = .ok (.aload_n 0, 1) := by decide +kernel
theorem dX6_readRun_75 : decode cX6_readRun 75 = .ok (.dup, 1) := by decide +kernel
theorem dX6_readRun_76 : decode cX6_readRun 76 = .ok (.getfield 15, 3) := by decide +kernel
theorem dX6_readRun_79 : decode cX6_readRun 79 = .ok (.iconst 1, 1) := by decide +kernel
theorem dX6_readRun_80 : decode cX6_readRun 80 = .ok (.iadd, 1) := by decide +kernel
theorem dX6_readRun_81 : decode cX6_readRun 81 = .ok (.putfield 15, 3) := by decide +kernel
theorem dX6_readRun_84 : decode cX6_readRun 84 = .ok (.goto (-75), 3) := by decide +kernel
theorem dX6_readRun_87 : decode cX6_readRun 87 = .ok (.iload_n 1, 1) := by decide +kernel
theorem dX6_readRun_88 : decode cX6_readRun 88 = .ok (.ifCond .ne 19, 3) := by decide +kernel
theorem dX6_readRun_91 : decode cX6_readRun 91 = .ok (.iload_n 2, 1) := by decide +kernel
theorem dX6_readRun_92 : decode cX6_readRun 92 = .ok (.iconst 1, 1) := by decide +kernel
theorem dX6_readRun_93 : decode cX6_readRun 93 = .ok (.if_icmp .lt 12, 3) := by decide +kernel
theorem dX6_readRun_96 : decode cX6_readRun 96 = .ok (.iload_n 2, 1) := by decide +kernel
theorem dX6_readRun_97 : decode cX6_readRun 97 = .ok (.iconst 4, 1) := by decide +kernel
theorem dX6_readRun_98 : decode cX6_readRun 98 = .ok (.if_icmp .gt 7, 3) := by decide +kernel
theorem dX6_readRun_101 : decode cX6_readRun 101 = .ok (.iconst 2, 1) := by decide +kernel
theorem dX6_readRun_102 : decode cX6_readRun 102 = .ok (.goto 4, 3) := by decide +kernel
theorem dX6_readRun_105 : decode cX6_readRun 105 = .ok (.iconst 1, 1) := by decide +kernel
theorem dX6_readRun_106 : decode cX6_readRun 106 = .ok (.ireturn, 1) := by decide +kernel
theorem dX6_readRun_107 : decode cX6_readRun 107 = .ok (.iload_n 2, 1) := by decide +kernel
theorem dX6_readRun_108 : decode cX6_readRun 108 = .ok (.ifCond .ne 10, 3) := by decide +kernel
theorem dX6_readRun_111 : decode cX6_readRun 111 = .ok (.aload_n 0, 1) := by decide +kernel
theorem dX6_readRun_112 : decode cX6_readRun 112 = .ok (.invokevirtual 60, 3) := by decide +kernel
theorem dX6_readRun_115 : decode cX6_readRun 115 = .ok (.goto 4, 3) := by decide +kernel
theorem dX6_readRun_118 : decode cX6_readRun 118 = .ok (.iconst 1, 1) := by decide +kernel
theorem dX6_readRun_119 : decode cX6_readRun 119 = .ok (.ireturn, 1) := by decide +kernel
theorem dX6_wordKind_0 : decode cX6_wordKind 0 = .ok (.aload_n 0, 1) := by decide +kernel
theorem dX6_wordKind_1 : decode cX6_wordKind 1 = .ok (.ldc 63, 2) := by decide +kernel
theorem dX6_wordKind_3 : decode cX6_wordKind 3 = .ok (.invokevirtual 65, 3) := by decide +kernel
theorem dX6_wordKind_6 : decode cX6_wordKind 6 = .ok (.ifCond .eq 6, 3) := by decide +kernel
theorem dX6_wordKind_9 : decode cX6_wordKind 9 = .ok (.bipush 11, 2) := by decide +kernel
theorem dX6_wordKind_11 : decode cX6_wordKind 11 = .ok (.ireturn, 1) := by decide +kernel
theorem dX6_wordKind_12 : decode cX6_wordKind 12 = .ok (.aload_n 0, 1) := by decide +kernel
theorem dX6_wordKind_13 : decode cX6_wordKind 13 = .ok (.ldc 69, 2) := by decide +kernel
theorem dX6_wordKind_15 : decode cX6_wordKind 15 = .ok (.invokevirtual 65, 3) := by decide +kernel
theorem dX6_wordKind_18 : decode cX6_wordKind 18 = .ok (.ifCond .eq 6, 3) := by decide +kernel
theorem dX6_wordKind_21 : decode cX6_wordKind 21 = .ok (.bipush 12, 2) := by decide +kernel
theorem dX6_wordKind_23 : decode cX6_wordKind 23 = .ok (.ireturn, 1) := by decide +kernel
theorem dX6_wordKind_24 : decode cX6_wordKind 24 = .ok (.aload_n 0, 1) := by decide +kernel
theorem dX6_wordKind_25 : decode cX6_wordKind 25 = .ok (.ldc 71, 2) := by decide +kernel
theorem dX6_wordKind_27 : decode cX6_wordKind 27 = .ok (.invokevirtual 65, 3) := by decide +kernel
theorem dX6_wordKind_30 : decode cX6_wordKind 30 = .ok (.ifCond .eq 6, 3) := by decide +kernel
theorem dX6_wordKind_33 : decode cX6_wordKind 33 = .ok (.bipush 13, 2) := by decide +kernel
theorem dX6_wordKind_35 : decode cX6_wordKind 35 = .ok (.ireturn, 1) := by decide +kernel
theorem dX6_wordKind_36 : decode cX6_wordKind 36 = .ok (.aload_n 0, 1) := by decide +kernel
theorem dX6_wordKind_37 : decode cX6_wordKind 37 = .ok (.ldc 73, 2) := by decide +kernel
theorem dX6_wordKind_39 : decode cX6_wordKind 39 = .ok (.invokevirtual 65, 3) := by decide +kernel
theorem dX6_wordKind_42 : decode cX6_wordKind 42 = .ok (.ifCond .eq 6, 3) := by decide +kernel
theorem dX6_wordKind_45 : decode cX6_wordKind 45 = .ok (.bipush 10, 2) := by decide +kernel
theorem dX6_wordKind_47 : decode cX6_wordKind 47 = .ok (.ireturn, 1) := by decide +kernel
theorem dX6_wordKind_48 : decode cX6_wordKind 48 = .ok (.aload_n 0, 1) := by decide +kernel
theorem dX6_wordKind_49 : decode cX6_wordKind 49 = .ok (.ldc 75, 2) := by decide +kernel
theorem dX6_wordKind_51 : decode cX6_wordKind 51 = .ok (.invokevirtual 65, 3) := by decide +kernel
theorem dX6_wordKind_54 : decode cX6_wordKind 54 = .ok (.ifCond .eq 5, 3) := by decide +kernel
theorem dX6_wordKind_57 : decode cX6_wordKind 57 = .ok (.iconst 5, 1) := by decide +kernel
theorem dX6_wordKind_58 : decode cX6_wordKind 58 = .ok (.ireturn, 1) := by decide +kernel
theorem dX6_wordKind_59 : decode cX6_wordKind 59 = .ok (.aload_n 0, 1) := by decide +kernel
theorem dX6_wordKind_60 : decode cX6_wordKind 60 = .ok (.ldc 77, 2) := by decide +kernel
theorem dX6_wordKind_62 : decode cX6_wordKind 62 = .ok (.invokevirtual 65, 3) := by decide +kernel
theorem dX6_wordKind_65 : decode cX6_wordKind 65 = .ok (.ifCond .eq 6, 3) := by decide +kernel
theorem dX6_wordKind_68 : decode cX6_wordKind 68 = .ok (.bipush 6, 2) := by decide +kernel
theorem dX6_wordKind_70 : decode cX6_wordKind 70 = .ok (.ireturn, 1) := by decide +kernel
theorem dX6_wordKind_71 : decode cX6_wordKind 71 = .ok (.aload_n 0, 1) := by decide +kernel
theorem dX6_wordKind_72 : decode cX6_wordKind 72 = .ok (.ldc 79, 2) := by decide +kernel
theorem dX6_wordKind_74 : decode cX6_wordKind 74 = .ok (.invokevirtual 65, 3) := by decide +kernel
theorem dX6_wordKind_77 : decode cX6_wordKind 77 = .ok (.ifCond .eq 6, 3) := by decide +kernel
theorem dX6_wordKind_80 : decode cX6_wordKind 80 = .ok (.bipush 7, 2) := by decide +kernel
theorem dX6_wordKind_82 : decode cX6_wordKind 82 = .ok (.ireturn, 1) := by decide +kernel
theorem dX6_wordKind_83 : decode cX6_wordKind 83 = .ok (.aload_n 0, 1) := by decide +kernel
theorem dX6_wordKind_84 : decode cX6_wordKind 84 = .ok (.ldc 81, 2) := by decide +kernel
theorem dX6_wordKind_86 : decode cX6_wordKind 86 = .ok (.invokevirtual 65, 3) := by decide +kernel
theorem dX6_wordKind_89 : decode cX6_wordKind 89 = .ok (.ifCond .eq 6, 3) := by decide +kernel
theorem dX6_wordKind_92 : decode cX6_wordKind 92 = .ok (.bipush 8, 2) := by decide +kernel
theorem dX6_wordKind_94 : decode cX6_wordKind 94 = .ok (.ireturn, 1) := by decide +kernel
theorem dX6_wordKind_95 : decode cX6_wordKind 95 = .ok (.aload_n 0, 1) := by decide +kernel
theorem dX6_wordKind_96 : decode cX6_wordKind 96 = .ok (.ldc 83, 2) := by decide +kernel
theorem dX6_wordKind_98 : decode cX6_wordKind 98 = .ok (.invokevirtual 65, 3) := by decide +kernel
theorem dX6_wordKind_101 : decode cX6_wordKind 101 = .ok (.ifCond .eq 8, 3) := by decide +kernel
theorem dX6_wordKind_104 : decode cX6_wordKind 104 = .ok (.bipush 9, 2) := by decide +kernel
theorem dX6_wordKind_106 : decode cX6_wordKind 106 = .ok (.goto 4, 3) := by decide +kernel
theorem dX6_wordKind_109 : decode cX6_wordKind 109 = .ok (.iconst 4, 1) := by decide +kernel
theorem dX6_wordKind_110 : decode cX6_wordKind 110 = .ok (.ireturn, 1) := by decide +kernel
theorem dX6_spells_0 : decode cX6_spells 0 = .ok (.aload_n 0, 1) := by decide +kernel
theorem dX6_spells_1 : decode cX6_spells 1 = .ok (.getfield 15, 3) := by decide +kernel
theorem dX6_spells_4 : decode cX6_spells 4 = .ok (.aload_n 0, 1) := by decide +kernel
theorem dX6_spells_5 : decode cX6_spells 5 = .ok (.getfield 41, 3) := by decide +kernel
theorem dX6_spells_8 : decode cX6_spells 8 = .ok (.isub, 1) := by decide +kernel
theorem dX6_spells_9 : decode cX6_spells 9 = .ok (.aload_n 1, 1) := by decide +kernel
theorem dX6_spells_10 : decode cX6_spells 10 = .ok (.invokevirtual 85, 3) := by decide +kernel
theorem dX6_spells_13 : decode cX6_spells 13 = .ok (.if_icmp .eq 5, 3) := by decide +kernel
theorem dX6_spells_16 : decode cX6_spells 16 = .ok (.iconst 0, 1) := by decide +kernel
theorem dX6_spells_17 : decode cX6_spells 17 = .ok (.ireturn, 1) := by decide +kernel
theorem dX6_spells_18 : decode cX6_spells 18 = .ok (.iconst 0, 1) := by decide +kernel
theorem dX6_spells_19 : decode cX6_spells 19 = .ok (.istore_n 2, 1) := by decide +kernel
theorem dX6_spells_20 : decode cX6_spells 20 = .ok (.iload_n 2, 1) := by decide +kernel
theorem dX6_spells_21 : decode cX6_spells 21 = .ok (.aload_n 1, 1) := by decide +kernel
theorem dX6_spells_22 : decode cX6_spells 22 = .ok (.invokevirtual 85, 3) := by decide +kernel
theorem dX6_spells_25 : decode cX6_spells 25 = .ok (.if_icmp .ge 32, 3) := by decide +kernel
theorem dX6_spells_28 : decode cX6_spells 28 = .ok (.aload_n 0, 1) := by decide +kernel
theorem dX6_spells_29 : decode cX6_spells 29 = .ok (.getfield 9, 3) := by decide +kernel
theorem dX6_spells_32 : decode cX6_spells 32 = .ok (.aload_n 0, 1) := by decide +kernel
theorem dX6_spells_33 : decode cX6_spells 33 = .ok (.getfield 41, 3) := by decide +kernel
theorem dX6_spells_36 : decode cX6_spells 36 = .ok (.iload_n 2, 1) := by decide +kernel
theorem dX6_spells_37 : decode cX6_spells 37 = .ok (.iadd, 1) := by decide +kernel
theorem dX6_spells_38 : decode cX6_spells 38 = .ok (.invokevirtual 33, 3) := by decide +kernel
theorem dX6_spells_41 : decode cX6_spells 41 = .ok (.aload_n 1, 1) := by decide +kernel
theorem dX6_spells_42 : decode cX6_spells 42 = .ok (.iload_n 2, 1) := by decide +kernel
theorem dX6_spells_43 : decode cX6_spells 43 = .ok (.invokevirtual 90, 3) := by decide +kernel
theorem dX6_spells_46 : decode cX6_spells 46 = .ok (.if_icmp .eq 5, 3) := by decide +kernel
theorem dX6_spells_49 : decode cX6_spells 49 = .ok (.iconst 0, 1) := by decide +kernel
theorem dX6_spells_50 : decode cX6_spells 50 = .ok (.ireturn, 1) := by decide +kernel
theorem dX6_spells_51 : decode cX6_spells 51 = .ok (.iinc 2 1, 3) := by decide +kernel
theorem dX6_spells_54 : decode cX6_spells 54 = .ok (.goto (-34), 3) := by decide +kernel
theorem dX6_spells_57 : decode cX6_spells 57 = .ok (.iconst 1, 1) := by decide +kernel
theorem dX6_spells_58 : decode cX6_spells 58 = .ok (.ireturn, 1) := by decide +kernel
theorem dX6_isBlank_0 : decode cX6_isBlank 0 = .ok (.iload_n 0, 1) := by decide +kernel
theorem dX6_isBlank_1 : decode cX6_isBlank 1 = .ok (.bipush 32, 2) := by decide +kernel
theorem dX6_isBlank_3 : decode cX6_isBlank 3 = .ok (.if_icmp .eq 9, 3) := by decide +kernel
theorem dX6_isBlank_6 : decode cX6_isBlank 6 = .ok (.iload_n 0, 1) := by decide +kernel
theorem dX6_isBlank_7 : decode cX6_isBlank 7 = .ok (.bipush 10, 2) := by decide +kernel
theorem dX6_isBlank_9 : decode cX6_isBlank 9 = .ok (.if_icmp .ne 7, 3) := by decide +kernel
theorem dX6_isBlank_12 : decode cX6_isBlank 12 = .ok (.iconst 1, 1) := by decide +kernel
theorem dX6_isBlank_13 : decode cX6_isBlank 13 = .ok (.goto 4, 3) := by decide +kernel
theorem dX6_isBlank_16 : decode cX6_isBlank 16 = .ok (.iconst 0, 1) := by decide +kernel
theorem dX6_isBlank_17 : decode cX6_isBlank 17 = .ok (.ireturn, 1) := by decide +kernel
theorem dX6_isLetter_0 : decode cX6_isLetter 0 = .ok (.iload_n 0, 1) := by decide +kernel
theorem dX6_isLetter_1 : decode cX6_isLetter 1 = .ok (.bipush 97, 2) := by decide +kernel
theorem dX6_isLetter_3 : decode cX6_isLetter 3 = .ok (.if_icmp .lt 13, 3) := by decide +kernel
theorem dX6_isLetter_6 : decode cX6_isLetter 6 = .ok (.iload_n 0, 1) := by decide +kernel
theorem dX6_isLetter_7 : decode cX6_isLetter 7 = .ok (.bipush 122, 2) := by decide +kernel
theorem dX6_isLetter_9 : decode cX6_isLetter 9 = .ok (.if_icmp .gt 7, 3) := by decide +kernel
theorem dX6_isLetter_12 : decode cX6_isLetter 12 = .ok (.iconst 1, 1) := by decide +kernel
theorem dX6_isLetter_13 : decode cX6_isLetter 13 = .ok (.goto 4, 3) := by decide +kernel
theorem dX6_isLetter_16 : decode cX6_isLetter 16 = .ok (.iconst 0, 1) := by decide +kernel
theorem dX6_isLetter_17 : decode cX6_isLetter 17 = .ok (.ireturn, 1) := by decide +kernel
theorem dX6_isDigit_0 : decode cX6_isDigit 0 = .ok (.iload_n 0, 1) := by decide +kernel
theorem dX6_isDigit_1 : decode cX6_isDigit 1 = .ok (.bipush 48, 2) := by decide +kernel
theorem dX6_isDigit_3 : decode cX6_isDigit 3 = .ok (.if_icmp .lt 13, 3) := by decide +kernel
theorem dX6_isDigit_6 : decode cX6_isDigit 6 = .ok (.iload_n 0, 1) := by decide +kernel
theorem dX6_isDigit_7 : decode cX6_isDigit 7 = .ok (.bipush 57, 2) := by decide +kernel
theorem dX6_isDigit_9 : decode cX6_isDigit 9 = .ok (.if_icmp .gt 7, 3) := by decide +kernel
theorem dX6_isDigit_12 : decode cX6_isDigit 12 = .ok (.iconst 1, 1) := by decide +kernel
theorem dX6_isDigit_13 : decode cX6_isDigit 13 = .ok (.goto 4, 3) := by decide +kernel
theorem dX6_isDigit_16 : decode cX6_isDigit 16 = .ok (.iconst 0, 1) := by decide +kernel
theorem dX6_isDigit_17 : decode cX6_isDigit 17 = .ok (.ireturn, 1) := by decide +kernel
theorem dX7_init_0 : decode cX7_init 0 = .ok (.aload_n 0, 1) := by decide +kernel
theorem dX7_init_1 : decode cX7_init 1 = .ok (.invokespecial 3, 3) := by decide +kernel
theorem dX7_init_4 : decode cX7_init 4 = .ok (.aload_n 0, 1) := by decide +kernel
theorem dX7_init_5 : decode cX7_init 5 = .ok (.sipush 840, 3) := by decide +kernel
theorem dX7_init_8 : decode cX7_init 8 = .ok (.newarray .byte, 2) := by decide +kernel
theorem dX7_init_10 : decode cX7_init 10 = .ok (.putfield 9, 3) := by decide +kernel
theorem dX7_init_13 : decode cX7_init 13 = .ok (.return_, 1) := by decide +kernel
theorem dX7_addNumber_0 : decode cX7_addNumber 0 = .ok (.aload_n 0, 1) := by decide +kernel
theorem dX7_addNumber_1 : decode cX7_addNumber 1 = .ok (.iload_n 1, 1) := by decide +kernel
theorem dX7_addNumber_2 : decode cX7_addNumber 2 = .ok (.bipush 24, 2) := by decide +kernel
theorem dX7_addNumber_4 : decode cX7_addNumber 4 = .ok (.iushr, 1) := by decide +kernel
theorem dX7_addNumber_5 : decode cX7_addNumber 5 = .ok (.invokevirtual 15, 3) := by decide +kernel
theorem dX7_addNumber_8 : decode cX7_addNumber 8 = .ok (.aload_n 0, 1) := by decide +kernel
theorem dX7_addNumber_9 : decode cX7_addNumber 9 = .ok (.iload_n 1, 1) := by decide +kernel
theorem dX7_addNumber_10 : decode cX7_addNumber 10 = .ok (.bipush 16, 2) := by decide +kernel
theorem dX7_addNumber_12 : decode cX7_addNumber 12 = .ok (.iushr, 1) := by decide +kernel
theorem dX7_addNumber_13 : decode cX7_addNumber 13 = .ok (.invokevirtual 15, 3) := by decide +kernel
theorem dX7_addNumber_16 : decode cX7_addNumber 16 = .ok (.aload_n 0, 1) := by decide +kernel
theorem dX7_addNumber_17 : decode cX7_addNumber 17 = .ok (.iload_n 1, 1) := by decide +kernel
theorem dX7_addNumber_18 : decode cX7_addNumber 18 = .ok (.bipush 8, 2) := by decide +kernel
theorem dX7_addNumber_20 : decode cX7_addNumber 20 = .ok (.iushr, 1) := by decide +kernel
theorem dX7_addNumber_21 : decode cX7_addNumber 21 = .ok (.invokevirtual 15, 3) := by decide +kernel
theorem dX7_addNumber_24 : decode cX7_addNumber 24 = .ok (.aload_n 0, 1) := by decide +kernel
theorem dX7_addNumber_25 : decode cX7_addNumber 25 = .ok (.iload_n 1, 1) := by decide +kernel
theorem dX7_addNumber_26 : decode cX7_addNumber 26 = .ok (.invokevirtual 15, 3) := by decide +kernel
theorem dX7_addNumber_29 : decode cX7_addNumber 29 = .ok (.return_, 1) := by decide +kernel
theorem dX7_addByte_0 : decode cX7_addByte 0 = .ok (.aload_n 0, 1) := by decide +kernel
theorem dX7_addByte_1 : decode cX7_addByte 1 = .ok (.getfield 19, 3) := by decide +kernel
theorem dX7_addByte_4 : decode cX7_addByte 4 = .ok (.ifCond .lt 36, 3) := by decide +kernel
theorem dX7_addByte_7 : decode cX7_addByte 7 = .ok (.aload_n 0, 1) := by decide +kernel
theorem dX7_addByte_8 : decode cX7_addByte 8 = .ok (.getfield 19, 3) := by decide +kernel
theorem dX7_addByte_11 : decode cX7_addByte 11 = .ok (.aload_n 0, 1) := by decide +kernel
theorem dX7_addByte_12 : decode cX7_addByte 12 = .ok (.getfield 9, 3) := by decide +kernel
theorem dX7_addByte_15 : decode cX7_addByte 15 = .ok (.arraylength, 1) := by decide +kernel
theorem dX7_addByte_16 : decode cX7_addByte 16 = .ok (.if_icmp .ge 24, 3) := by decide +kernel
theorem dX7_addByte_19 : decode cX7_addByte 19 = .ok (.aload_n 0, 1) := by decide +kernel
theorem dX7_addByte_20 : decode cX7_addByte 20 = .ok (.getfield 9, 3) := by decide +kernel
theorem dX7_addByte_23 : decode cX7_addByte 23 = .ok (.aload_n 0, 1) := by decide +kernel
theorem dX7_addByte_24 : decode cX7_addByte 24 = .ok (.getfield 19, 3) := by decide +kernel
theorem dX7_addByte_27 : decode cX7_addByte 27 = .ok (.iload_n 1, 1) := by decide +kernel
theorem dX7_addByte_28 : decode cX7_addByte 28 = .ok (.i2b, 1) := by decide +kernel
theorem dX7_addByte_29 : decode cX7_addByte 29 = .ok (.bastore, 1) := by decide +kernel
theorem dX7_addByte_30 : decode cX7_addByte 30 = .ok (.aload_n 0, 1) := by decide +kernel
theorem dX7_addByte_31 : decode cX7_addByte 31 = .ok (.dup, 1) := by decide +kernel
theorem dX7_addByte_32 : decode cX7_addByte 32 = .ok (.getfield 19, 3) := by decide +kernel
theorem dX7_addByte_35 : decode cX7_addByte 35 = .ok (.iconst 1, 1) := by decide +kernel
theorem dX7_addByte_36 : decode cX7_addByte 36 = .ok (.iadd, 1) := by decide +kernel
theorem dX7_addByte_37 : decode cX7_addByte 37 = .ok (.putfield 19, 3) := by decide +kernel
theorem dX7_addByte_40 : decode cX7_addByte 40 = .ok (.return_, 1) := by decide +kernel
theorem dX7_byteAt_0 : decode cX7_byteAt 0 = .ok (.iload_n 1, 1) := by decide +kernel
theorem dX7_byteAt_1 : decode cX7_byteAt 1 = .ok (.ifCond .lt 20, 3) := by decide +kernel
theorem dX7_byteAt_4 : decode cX7_byteAt 4 = .ok (.iload_n 1, 1) := by decide +kernel
theorem dX7_byteAt_5 : decode cX7_byteAt 5 = .ok (.aload_n 0, 1) := by decide +kernel
theorem dX7_byteAt_6 : decode cX7_byteAt 6 = .ok (.getfield 19, 3) := by decide +kernel
theorem dX7_byteAt_9 : decode cX7_byteAt 9 = .ok (.if_icmp .ge 12, 3) := by decide +kernel
theorem dX7_byteAt_12 : decode cX7_byteAt 12 = .ok (.iload_n 1, 1) := by decide +kernel
theorem dX7_byteAt_13 : decode cX7_byteAt 13 = .ok (.aload_n 0, 1) := by decide +kernel
theorem dX7_byteAt_14 : decode cX7_byteAt 14 = .ok (.getfield 9, 3) := by decide +kernel
theorem dX7_byteAt_17 : decode cX7_byteAt 17 = .ok (.arraylength, 1) := by decide +kernel
theorem dX7_byteAt_18 : decode cX7_byteAt 18 = .ok (.if_icmp .lt 5, 3) := by decide +kernel
theorem dX7_byteAt_21 : decode cX7_byteAt 21 = .ok (.iconst 0, 1) := by decide +kernel
theorem dX7_byteAt_22 : decode cX7_byteAt 22 = .ok (.ireturn, 1) := by decide +kernel
theorem dX7_byteAt_23 : decode cX7_byteAt 23 = .ok (.aload_n 0, 1) := by decide +kernel
theorem dX7_byteAt_24 : decode cX7_byteAt 24 = .ok (.getfield 9, 3) := by decide +kernel
theorem dX7_byteAt_27 : decode cX7_byteAt 27 = .ok (.iload_n 1, 1) := by decide +kernel
theorem dX7_byteAt_28 : decode cX7_byteAt 28 = .ok (.baload, 1) := by decide +kernel
theorem dX7_byteAt_29 : decode cX7_byteAt 29 = .ok (.sipush 255, 3) := by decide +kernel
theorem dX7_byteAt_32 : decode cX7_byteAt 32 = .ok (.iand, 1) := by decide +kernel
theorem dX7_byteAt_33 : decode cX7_byteAt 33 = .ok (.ireturn, 1) := by decide +kernel
theorem dJ0_length_8abf5_0 : decode cJ0_length_8abf5 0 = .ok (.aload_n 0, 1) := by decide +kernel
theorem dJ0_length_8abf5_1 : decode cJ0_length_8abf5 1 = .ok (.getfield 9, 3) := by decide +kernel
theorem dJ0_length_8abf5_4 : decode cJ0_length_8abf5 4 = .ok (.arraylength, 1) := by decide +kernel
theorem dJ0_length_8abf5_5 : decode cJ0_length_8abf5 5 = .ok (.aload_n 0, 1) := by decide +kernel
theorem dJ0_length_8abf5_6 : decode cJ0_length_8abf5 6 = .ok (.invokevirtual 335, 3) := by decide +kernel
theorem dJ0_length_8abf5_9 : decode cJ0_length_8abf5 9 = .ok (.ishr, 1) := by decide +kernel
theorem dJ0_length_8abf5_10 : decode cJ0_length_8abf5 10 = .ok (.ireturn, 1) := by decide +kernel
theorem dJ0_charAt_5068e_0 : decode cJ0_charAt_5068e 0 = .ok (.aload_n 0, 1) := by decide +kernel
theorem dJ0_charAt_5068e_1 : decode cJ0_charAt_5068e 1 = .ok (.invokevirtual 492, 3) := by decide +kernel
theorem dJ0_charAt_5068e_4 : decode cJ0_charAt_5068e 4 = .ok (.ifCond .eq 12, 3) := by decide +kernel
theorem dJ0_charAt_5068e_7 : decode cJ0_charAt_5068e 7 = .ok (.aload_n 0, 1) := by decide +kernel
theorem dJ0_charAt_5068e_8 : decode cJ0_charAt_5068e 8 = .ok (.getfield 9, 3) := by decide +kernel
theorem dJ0_charAt_5068e_11 : decode cJ0_charAt_5068e 11 = .ok (.iload_n 1, 1) := by decide +kernel
theorem dJ0_charAt_5068e_12 : decode cJ0_charAt_5068e 12 = .ok (.invokestatic 495, 3) := by decide +kernel
theorem dJ0_charAt_5068e_15 : decode cJ0_charAt_5068e 15 = .ok (.ireturn, 1) := by decide +kernel
theorem dJ0_charAt_5068e_16 : decode cJ0_charAt_5068e 16 = .ok (.aload_n 0, 1) := by decide +kernel
theorem dJ0_charAt_5068e_17 : decode cJ0_charAt_5068e 17 = .ok (.getfield 9, 3) := by decide +kernel
theorem dJ0_charAt_5068e_20 : decode cJ0_charAt_5068e 20 = .ok (.iload_n 1, 1) := by decide +kernel
theorem dJ0_charAt_5068e_21 : decode cJ0_charAt_5068e 21 = .ok (.invokestatic 498, 3) := by decide +kernel
theorem dJ0_charAt_5068e_24 : decode cJ0_charAt_5068e 24 = .ok (.ireturn, 1) := by decide +kernel
theorem dJ0_coder_7d493_0 : decode cJ0_coder_7d493 0 = .ok (.getstatic 38, 3) := by decide +kernel
theorem dJ0_coder_7d493_3 : decode cJ0_coder_7d493 3 = .ok (.ifCond .eq 10, 3) := by decide +kernel
theorem dJ0_coder_7d493_6 : decode cJ0_coder_7d493 6 = .ok (.aload_n 0, 1) := by decide +kernel
theorem dJ0_coder_7d493_7 : decode cJ0_coder_7d493 7 = .ok (.getfield 15, 3) := by decide +kernel
theorem dJ0_coder_7d493_10 : decode cJ0_coder_7d493 10 = .ok (.goto 4, 3) := by decide +kernel
theorem dJ0_coder_7d493_13 : decode cJ0_coder_7d493 13 = .ok (.iconst 1, 1) := by decide +kernel
theorem dJ0_coder_7d493_14 : decode cJ0_coder_7d493 14 = .ok (.ireturn, 1) := by decide +kernel
theorem dJ0_isLatin1_aae02_0 : decode cJ0_isLatin1_aae02 0 = .ok (.getstatic 38, 3) := by decide +kernel
theorem dJ0_isLatin1_aae02_3 : decode cJ0_isLatin1_aae02 3 = .ok (.ifCond .eq 14, 3) := by decide +kernel
theorem dJ0_isLatin1_aae02_6 : decode cJ0_isLatin1_aae02 6 = .ok (.aload_n 0, 1) := by decide +kernel
theorem dJ0_isLatin1_aae02_7 : decode cJ0_isLatin1_aae02 7 = .ok (.getfield 15, 3) := by decide +kernel
theorem dJ0_isLatin1_aae02_10 : decode cJ0_isLatin1_aae02 10 = .ok (.ifCond .ne 7, 3) := by decide +kernel
theorem dJ0_isLatin1_aae02_13 : decode cJ0_isLatin1_aae02 13 = .ok (.iconst 1, 1) := by decide +kernel
theorem dJ0_isLatin1_aae02_14 : decode cJ0_isLatin1_aae02 14 = .ok (.goto 4, 3) := by decide +kernel
theorem dJ0_isLatin1_aae02_17 : decode cJ0_isLatin1_aae02 17 = .ok (.iconst 0, 1) := by decide +kernel
theorem dJ0_isLatin1_aae02_18 : decode cJ0_isLatin1_aae02 18 = .ok (.ireturn, 1) := by decide +kernel
theorem dJ0_checkIndex_df160_0 : decode cJ0_checkIndex_df160 0 = .ok (.iload_n 0, 1) := by decide +kernel
theorem dJ0_checkIndex_df160_1 : decode cJ0_checkIndex_df160 1 = .ok (.iload_n 1, 1) := by decide +kernel
theorem dJ0_checkIndex_df160_2 : decode cJ0_checkIndex_df160 2 = .ok (.getstatic 1053, 3) := by decide +kernel
theorem dJ0_checkIndex_df160_5 : decode cJ0_checkIndex_df160 5 = .ok (.invokestatic 1059, 3) := by decide +kernel
theorem dJ0_checkIndex_df160_8 : decode cJ0_checkIndex_df160 8 = .ok (.pop, 1) := by decide +kernel
theorem dJ0_checkIndex_df160_9 : decode cJ0_checkIndex_df160 9 = .ok (.return_, 1) := by decide +kernel
theorem dJ1_charAt_3b067_0 : decode cJ1_charAt_3b067 0 = .ok (.iload_n 1, 1) := by decide +kernel
theorem dJ1_charAt_3b067_1 : decode cJ1_charAt_3b067 1 = .ok (.aload_n 0, 1) := by decide +kernel
theorem dJ1_charAt_3b067_2 : decode cJ1_charAt_3b067 2 = .ok (.arraylength, 1) := by decide +kernel
theorem dJ1_charAt_3b067_3 : decode cJ1_charAt_3b067 3 = .ok (.invokestatic 9, 3) := by decide +kernel
theorem dJ1_charAt_3b067_6 : decode cJ1_charAt_3b067 6 = .ok (.aload_n 0, 1) := by decide +kernel
theorem dJ1_charAt_3b067_7 : decode cJ1_charAt_3b067 7 = .ok (.iload_n 1, 1) := by decide +kernel
theorem dJ1_charAt_3b067_8 : decode cJ1_charAt_3b067 8 = .ok (.baload, 1) := by decide +kernel
theorem dJ1_charAt_3b067_9 : decode cJ1_charAt_3b067 9 = .ok (.sipush 255, 3) := by decide +kernel
theorem dJ1_charAt_3b067_12 : decode cJ1_charAt_3b067 12 = .ok (.iand, 1) := by decide +kernel
theorem dJ1_charAt_3b067_13 : decode cJ1_charAt_3b067 13 = .ok (.i2c, 1) := by decide +kernel
theorem dJ1_charAt_3b067_14 : decode cJ1_charAt_3b067 14 = .ok (.ireturn, 1) := by decide +kernel
theorem dJ3_checkIndex_8e157_0 : decode cJ3_checkIndex_8e157 0 = .ok (.iload_n 0, 1) := by decide +kernel
theorem dJ3_checkIndex_8e157_1 : decode cJ3_checkIndex_8e157 1 = .ok (.ifCond .lt 8, 3) := by decide +kernel
theorem dJ3_checkIndex_8e157_4 : decode cJ3_checkIndex_8e157 4 = .ok (.iload_n 0, 1) := by decide +kernel
theorem dJ3_checkIndex_8e157_5 : decode cJ3_checkIndex_8e157 5 = .ok (.iload_n 1, 1) := by decide +kernel
theorem dJ3_checkIndex_8e157_6 : decode cJ3_checkIndex_8e157 6 = .ok (.if_icmp .lt 10, 3) := by decide +kernel
theorem dJ3_checkIndex_8e157_9 : decode cJ3_checkIndex_8e157 9 = .ok (.aload_n 2, 1) := by decide +kernel
theorem dJ3_checkIndex_8e157_10 : decode cJ3_checkIndex_8e157 10 = .ok (.iload_n 0, 1) := by decide +kernel
theorem dJ3_checkIndex_8e157_11 : decode cJ3_checkIndex_8e157 11 = .ok (.iload_n 1, 1) := by decide +kernel
theorem dJ3_checkIndex_8e157_12 : decode cJ3_checkIndex_8e157 12 = .ok (.invokestatic 95, 3) := by decide +kernel
theorem dJ3_checkIndex_8e157_15 : decode cJ3_checkIndex_8e157 15 = .ok (.athrow, 1) := by decide +kernel
theorem dJ3_checkIndex_8e157_16 : decode cJ3_checkIndex_8e157 16 = .ok (.iload_n 0, 1) := by decide +kernel
theorem dJ3_checkIndex_8e157_17 : decode cJ3_checkIndex_8e157 17 = .ok (.ireturn, 1) := by decide +kernel
