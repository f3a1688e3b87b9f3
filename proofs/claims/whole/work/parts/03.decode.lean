theorem d_DefectDrive_init_0 : decode b_DefectDrive_init 0 = .ok (.aload_n 0, 1) := by decide +kernel
theorem d_DefectDrive_init_1 : decode b_DefectDrive_init 1 = .ok (.invokespecial 3, 3) := by decide +kernel
theorem d_DefectDrive_init_4 : decode b_DefectDrive_init 4 = .ok (.aload_n 0, 1) := by decide +kernel
theorem d_DefectDrive_init_5 : decode b_DefectDrive_init 5 = .ok (.new 9, 3) := by decide +kernel
theorem d_DefectDrive_init_8 : decode b_DefectDrive_init 8 = .ok (.dup, 1) := by decide +kernel
theorem d_DefectDrive_init_9 : decode b_DefectDrive_init 9 = .ok (.invokespecial 11, 3) := by decide +kernel
theorem d_DefectDrive_init_12 : decode b_DefectDrive_init 12 = .ok (.putfield 12, 3) := by decide +kernel
theorem d_DefectDrive_init_15 : decode b_DefectDrive_init 15 = .ok (.aload_n 0, 1) := by decide +kernel
theorem d_DefectDrive_init_16 : decode b_DefectDrive_init 16 = .ok (.new 16, 3) := by decide +kernel
theorem d_DefectDrive_init_19 : decode b_DefectDrive_init 19 = .ok (.dup, 1) := by decide +kernel
theorem d_DefectDrive_init_20 : decode b_DefectDrive_init 20 = .ok (.invokespecial 18, 3) := by decide +kernel
theorem d_DefectDrive_init_23 : decode b_DefectDrive_init 23 = .ok (.putfield 19, 3) := by decide +kernel
theorem d_DefectDrive_init_26 : decode b_DefectDrive_init 26 = .ok (.aload_n 0, 1) := by decide +kernel
theorem d_DefectDrive_init_27 : decode b_DefectDrive_init 27 = .ok (.new 23, 3) := by decide +kernel
theorem d_DefectDrive_init_30 : decode b_DefectDrive_init 30 = .ok (.dup, 1) := by decide +kernel
theorem d_DefectDrive_init_31 : decode b_DefectDrive_init 31 = .ok (.invokespecial 25, 3) := by decide +kernel
theorem d_DefectDrive_init_34 : decode b_DefectDrive_init 34 = .ok (.putfield 26, 3) := by decide +kernel
theorem d_DefectDrive_init_37 : decode b_DefectDrive_init 37 = .ok (.aload_n 0, 1) := by decide +kernel
theorem d_DefectDrive_init_38 : decode b_DefectDrive_init 38 = .ok (.new 30, 3) := by decide +kernel
theorem d_DefectDrive_init_41 : decode b_DefectDrive_init 41 = .ok (.dup, 1) := by decide +kernel
theorem d_DefectDrive_init_42 : decode b_DefectDrive_init 42 = .ok (.invokespecial 32, 3) := by decide +kernel
theorem d_DefectDrive_init_45 : decode b_DefectDrive_init 45 = .ok (.putfield 33, 3) := by decide +kernel
theorem d_DefectDrive_init_48 : decode b_DefectDrive_init 48 = .ok (.aload_n 0, 1) := by decide +kernel
theorem d_DefectDrive_init_49 : decode b_DefectDrive_init 49 = .ok (.new 30, 3) := by decide +kernel
theorem d_DefectDrive_init_52 : decode b_DefectDrive_init 52 = .ok (.dup, 1) := by decide +kernel
theorem d_DefectDrive_init_53 : decode b_DefectDrive_init 53 = .ok (.invokespecial 32, 3) := by decide +kernel
theorem d_DefectDrive_init_56 : decode b_DefectDrive_init 56 = .ok (.putfield 37, 3) := by decide +kernel
theorem d_DefectDrive_init_59 : decode b_DefectDrive_init 59 = .ok (.aload_n 0, 1) := by decide +kernel
theorem d_DefectDrive_init_60 : decode b_DefectDrive_init 60 = .ok (.new 30, 3) := by decide +kernel
theorem d_DefectDrive_init_63 : decode b_DefectDrive_init 63 = .ok (.dup, 1) := by decide +kernel
theorem d_DefectDrive_init_64 : decode b_DefectDrive_init 64 = .ok (.invokespecial 32, 3) := by decide +kernel
theorem d_DefectDrive_init_67 : decode b_DefectDrive_init 67 = .ok (.putfield 40, 3) := by decide +kernel
theorem d_DefectDrive_init_70 : decode b_DefectDrive_init 70 = .ok (.aload_n 0, 1) := by decide +kernel
theorem d_DefectDrive_init_71 : decode b_DefectDrive_init 71 = .ok (.new 30, 3) := by decide +kernel
theorem d_DefectDrive_init_74 : decode b_DefectDrive_init 74 = .ok (.dup, 1) := by decide +kernel
theorem d_DefectDrive_init_75 : decode b_DefectDrive_init 75 = .ok (.invokespecial 32, 3) := by decide +kernel
theorem d_DefectDrive_init_78 : decode b_DefectDrive_init 78 = .ok (.putfield 43, 3) := by decide +kernel
theorem d_DefectDrive_init_81 : decode b_DefectDrive_init 81 = .ok (.aload_n 0, 1) := by decide +kernel
theorem d_DefectDrive_init_82 : decode b_DefectDrive_init 82 = .ok (.aload_n 0, 1) := by decide +kernel
theorem d_DefectDrive_init_83 : decode b_DefectDrive_init 83 = .ok (.getfield 33, 3) := by decide +kernel
theorem d_DefectDrive_init_86 : decode b_DefectDrive_init 86 = .ok (.putfield 46, 3) := by decide +kernel
theorem d_DefectDrive_init_89 : decode b_DefectDrive_init 89 = .ok (.aload_n 0, 1) := by decide +kernel
theorem d_DefectDrive_init_90 : decode b_DefectDrive_init 90 = .ok (.sipush 192, 3) := by decide +kernel
theorem d_DefectDrive_init_93 : decode b_DefectDrive_init 93 = .ok (.newarray .boolean, 2) := by decide +kernel
theorem d_DefectDrive_init_95 : decode b_DefectDrive_init 95 = .ok (.putfield 49, 3) := by decide +kernel
theorem d_DefectDrive_init_98 : decode b_DefectDrive_init 98 = .ok (.return_, 1) := by decide +kernel
theorem d_Power_init_0 : decode b_Power_init 0 = .ok (.aload_n 0, 1) := by decide +kernel
theorem d_Power_init_1 : decode b_Power_init 1 = .ok (.invokespecial 3, 3) := by decide +kernel
theorem d_Power_init_4 : decode b_Power_init 4 = .ok (.aload_n 0, 1) := by decide +kernel
theorem d_Power_init_5 : decode b_Power_init 5 = .ok (.iconst (-1), 1) := by decide +kernel
theorem d_Power_init_6 : decode b_Power_init 6 = .ok (.putfield 9, 3) := by decide +kernel
theorem d_Power_init_9 : decode b_Power_init 9 = .ok (.return_, 1) := by decide +kernel
theorem d_Surface_init_0 : decode b_Surface_init 0 = .ok (.aload_n 0, 1) := by decide +kernel
theorem d_Surface_init_1 : decode b_Surface_init 1 = .ok (.invokespecial 3, 3) := by decide +kernel
theorem d_Surface_init_4 : decode b_Surface_init 4 = .ok (.aload_n 0, 1) := by decide +kernel
theorem d_Surface_init_5 : decode b_Surface_init 5 = .ok (.sipush 192, 3) := by decide +kernel
theorem d_Surface_init_8 : decode b_Surface_init 8 = .ok (.newarray .int, 2) := by decide +kernel
theorem d_Surface_init_10 : decode b_Surface_init 10 = .ok (.putfield 9, 3) := by decide +kernel
theorem d_Surface_init_13 : decode b_Surface_init 13 = .ok (.aload_n 0, 1) := by decide +kernel
theorem d_Surface_init_14 : decode b_Surface_init 14 = .ok (.sipush 384, 3) := by decide +kernel
theorem d_Surface_init_17 : decode b_Surface_init 17 = .ok (.newarray .int, 2) := by decide +kernel
theorem d_Surface_init_19 : decode b_Surface_init 19 = .ok (.putfield 15, 3) := by decide +kernel
theorem d_Surface_init_22 : decode b_Surface_init 22 = .ok (.aload_n 0, 1) := by decide +kernel
theorem d_Surface_init_23 : decode b_Surface_init 23 = .ok (.sipush 384, 3) := by decide +kernel
theorem d_Surface_init_26 : decode b_Surface_init 26 = .ok (.newarray .boolean, 2) := by decide +kernel
theorem d_Surface_init_28 : decode b_Surface_init 28 = .ok (.putfield 18, 3) := by decide +kernel
theorem d_Surface_init_31 : decode b_Surface_init 31 = .ok (.return_, 1) := by decide +kernel
theorem d_SectorMap_init_0 : decode b_SectorMap_init 0 = .ok (.aload_n 0, 1) := by decide +kernel
theorem d_SectorMap_init_1 : decode b_SectorMap_init 1 = .ok (.invokespecial 3, 3) := by decide +kernel
theorem d_SectorMap_init_4 : decode b_SectorMap_init 4 = .ok (.aload_n 0, 1) := by decide +kernel
theorem d_SectorMap_init_5 : decode b_SectorMap_init 5 = .ok (.sipush 143, 3) := by decide +kernel
theorem d_SectorMap_init_8 : decode b_SectorMap_init 8 = .ok (.newarray .int, 2) := by decide +kernel
theorem d_SectorMap_init_10 : decode b_SectorMap_init 10 = .ok (.putfield 9, 3) := by decide +kernel
theorem d_SectorMap_init_13 : decode b_SectorMap_init 13 = .ok (.aload_n 0, 1) := by decide +kernel
theorem d_SectorMap_init_14 : decode b_SectorMap_init 14 = .ok (.sipush 143, 3) := by decide +kernel
theorem d_SectorMap_init_17 : decode b_SectorMap_init 17 = .ok (.newarray .int, 2) := by decide +kernel
theorem d_SectorMap_init_19 : decode b_SectorMap_init 19 = .ok (.putfield 15, 3) := by decide +kernel
theorem d_SectorMap_init_22 : decode b_SectorMap_init 22 = .ok (.aload_n 0, 1) := by decide +kernel
theorem d_SectorMap_init_23 : decode b_SectorMap_init 23 = .ok (.sipush 192, 3) := by decide +kernel
theorem d_SectorMap_init_26 : decode b_SectorMap_init 26 = .ok (.newarray .int, 2) := by decide +kernel
theorem d_SectorMap_init_28 : decode b_SectorMap_init 28 = .ok (.putfield 18, 3) := by decide +kernel
theorem d_SectorMap_init_31 : decode b_SectorMap_init 31 = .ok (.aload_n 0, 1) := by decide +kernel
theorem d_SectorMap_init_32 : decode b_SectorMap_init 32 = .ok (.sipush 192, 3) := by decide +kernel
theorem d_SectorMap_init_35 : decode b_SectorMap_init 35 = .ok (.newarray .boolean, 2) := by decide +kernel
theorem d_SectorMap_init_37 : decode b_SectorMap_init 37 = .ok (.putfield 21, 3) := by decide +kernel
theorem d_SectorMap_init_40 : decode b_SectorMap_init 40 = .ok (.aload_n 0, 1) := by decide +kernel
theorem d_SectorMap_init_41 : decode b_SectorMap_init 41 = .ok (.getfield 18, 3) := by decide +kernel
theorem d_SectorMap_init_44 : decode b_SectorMap_init 44 = .ok (.iconst (-1), 1) := by decide +kernel
theorem d_SectorMap_init_45 : decode b_SectorMap_init 45 = .ok (.invokestatic 25, 3) := by decide +kernel
theorem d_SectorMap_init_48 : decode b_SectorMap_init 48 = .ok (.return_, 1) := by decide +kernel
theorem d_Lists_init_0 : decode b_Lists_init 0 = .ok (.aload_n 0, 1) := by decide +kernel
theorem d_Lists_init_1 : decode b_Lists_init 1 = .ok (.invokespecial 3, 3) := by decide +kernel
theorem d_Lists_init_4 : decode b_Lists_init 4 = .ok (.aload_n 0, 1) := by decide +kernel
theorem d_Lists_init_5 : decode b_Lists_init 5 = .ok (.bipush 48, 2) := by decide +kernel
theorem d_Lists_init_7 : decode b_Lists_init 7 = .ok (.newarray .int, 2) := by decide +kernel
theorem d_Lists_init_9 : decode b_Lists_init 9 = .ok (.putfield 9, 3) := by decide +kernel
theorem d_Lists_init_12 : decode b_Lists_init 12 = .ok (.aload_n 0, 1) := by decide +kernel
theorem d_Lists_init_13 : decode b_Lists_init 13 = .ok (.bipush 48, 2) := by decide +kernel
theorem d_Lists_init_15 : decode b_Lists_init 15 = .ok (.newarray .int, 2) := by decide +kernel
theorem d_Lists_init_17 : decode b_Lists_init 17 = .ok (.putfield 15, 3) := by decide +kernel
theorem d_Lists_init_20 : decode b_Lists_init 20 = .ok (.return_, 1) := by decide +kernel
theorem d_DefectDrive_start_0 : decode b_DefectDrive_start 0 = .ok (.aload_n 0, 1) := by decide +kernel
theorem d_DefectDrive_start_1 : decode b_DefectDrive_start 1 = .ok (.getfield 12, 3) := by decide +kernel
theorem d_DefectDrive_start_4 : decode b_DefectDrive_start 4 = .ok (.iconst 0, 1) := by decide +kernel
theorem d_DefectDrive_start_5 : decode b_DefectDrive_start 5 = .ok (.putfield 78, 3) := by decide +kernel
theorem d_DefectDrive_start_8 : decode b_DefectDrive_start 8 = .ok (.aload_n 0, 1) := by decide +kernel
theorem d_DefectDrive_start_9 : decode b_DefectDrive_start 9 = .ok (.getfield 12, 3) := by decide +kernel
theorem d_DefectDrive_start_12 : decode b_DefectDrive_start 12 = .ok (.iconst (-1), 1) := by decide +kernel
theorem d_DefectDrive_start_13 : decode b_DefectDrive_start 13 = .ok (.putfield 146, 3) := by decide +kernel
theorem d_DefectDrive_start_16 : decode b_DefectDrive_start 16 = .ok (.aload_n 0, 1) := by decide +kernel
theorem d_DefectDrive_start_17 : decode b_DefectDrive_start 17 = .ok (.getfield 33, 3) := by decide +kernel
theorem d_DefectDrive_start_20 : decode b_DefectDrive_start 20 = .ok (.astore_n 1, 1) := by decide +kernel
theorem d_DefectDrive_start_21 : decode b_DefectDrive_start 21 = .ok (.aload_n 0, 1) := by decide +kernel
theorem d_DefectDrive_start_22 : decode b_DefectDrive_start 22 = .ok (.getfield 37, 3) := by decide +kernel
theorem d_DefectDrive_start_25 : decode b_DefectDrive_start 25 = .ok (.getfield 149, 3) := by decide +kernel
theorem d_DefectDrive_start_28 : decode b_DefectDrive_start 28 = .ok (.ifCond .eq 8, 3) := by decide +kernel
theorem d_DefectDrive_start_31 : decode b_DefectDrive_start 31 = .ok (.aload_n 0, 1) := by decide +kernel
theorem d_DefectDrive_start_32 : decode b_DefectDrive_start 32 = .ok (.getfield 37, 3) := by decide +kernel
theorem d_DefectDrive_start_35 : decode b_DefectDrive_start 35 = .ok (.astore_n 1, 1) := by decide +kernel
theorem d_DefectDrive_start_36 : decode b_DefectDrive_start 36 = .ok (.aload_n 0, 1) := by decide +kernel
theorem d_DefectDrive_start_37 : decode b_DefectDrive_start 37 = .ok (.getfield 40, 3) := by decide +kernel
theorem d_DefectDrive_start_40 : decode b_DefectDrive_start 40 = .ok (.getfield 149, 3) := by decide +kernel
theorem d_DefectDrive_start_43 : decode b_DefectDrive_start 43 = .ok (.ifCond .eq 22, 3) := by decide +kernel
theorem d_DefectDrive_start_46 : decode b_DefectDrive_start 46 = .ok (.aload_n 0, 1) := by decide +kernel
theorem d_DefectDrive_start_47 : decode b_DefectDrive_start 47 = .ok (.getfield 40, 3) := by decide +kernel
theorem d_DefectDrive_start_50 : decode b_DefectDrive_start 50 = .ok (.getfield 152, 3) := by decide +kernel
theorem d_DefectDrive_start_53 : decode b_DefectDrive_start 53 = .ok (.aload_n 1, 1) := by decide +kernel
theorem d_DefectDrive_start_54 : decode b_DefectDrive_start 54 = .ok (.getfield 152, 3) := by decide +kernel
theorem d_DefectDrive_start_57 : decode b_DefectDrive_start 57 = .ok (.if_icmp .le 8, 3) := by decide +kernel
theorem d_DefectDrive_start_60 : decode b_DefectDrive_start 60 = .ok (.aload_n 0, 1) := by decide +kernel
theorem d_DefectDrive_start_61 : decode b_DefectDrive_start 61 = .ok (.getfield 40, 3) := by decide +kernel
theorem d_DefectDrive_start_64 : decode b_DefectDrive_start 64 = .ok (.astore_n 1, 1) := by decide +kernel
theorem d_DefectDrive_start_65 : decode b_DefectDrive_start 65 = .ok (.aload_n 0, 1) := by decide +kernel
theorem d_DefectDrive_start_66 : decode b_DefectDrive_start 66 = .ok (.aload_n 1, 1) := by decide +kernel
theorem d_DefectDrive_start_67 : decode b_DefectDrive_start 67 = .ok (.invokevirtual 155, 3) := by decide +kernel
theorem d_DefectDrive_start_70 : decode b_DefectDrive_start 70 = .ok (.aload_n 0, 1) := by decide +kernel
theorem d_DefectDrive_start_71 : decode b_DefectDrive_start 71 = .ok (.getfield 46, 3) := by decide +kernel
theorem d_DefectDrive_start_74 : decode b_DefectDrive_start 74 = .ok (.getfield 152, 3) := by decide +kernel
theorem d_DefectDrive_start_77 : decode b_DefectDrive_start 77 = .ok (.ireturn, 1) := by decide +kernel
theorem d_DefectDrive_bringIntoForce_0 : decode b_DefectDrive_bringIntoForce 0 = .ok (.aload_n 0, 1) := by decide +kernel
theorem d_DefectDrive_bringIntoForce_1 : decode b_DefectDrive_bringIntoForce 1 = .ok (.aload_n 1, 1) := by decide +kernel
theorem d_DefectDrive_bringIntoForce_2 : decode b_DefectDrive_bringIntoForce 2 = .ok (.putfield 46, 3) := by decide +kernel
theorem d_DefectDrive_bringIntoForce_5 : decode b_DefectDrive_bringIntoForce 5 = .ok (.aload_n 0, 1) := by decide +kernel
theorem d_DefectDrive_bringIntoForce_6 : decode b_DefectDrive_bringIntoForce 6 = .ok (.getfield 26, 3) := by decide +kernel
theorem d_DefectDrive_bringIntoForce_9 : decode b_DefectDrive_bringIntoForce 9 = .ok (.aload_n 1, 1) := by decide +kernel
theorem d_DefectDrive_bringIntoForce_10 : decode b_DefectDrive_bringIntoForce 10 = .ok (.invokevirtual 220, 3) := by decide +kernel
theorem d_DefectDrive_bringIntoForce_13 : decode b_DefectDrive_bringIntoForce 13 = .ok (.return_, 1) := by decide +kernel
theorem d_SectorMap_follow_0 : decode b_SectorMap_follow 0 = .ok (.aload_n 0, 1) := by decide +kernel
theorem d_SectorMap_follow_1 : decode b_SectorMap_follow 1 = .ok (.invokevirtual 35, 3) := by decide +kernel
theorem d_SectorMap_follow_4 : decode b_SectorMap_follow 4 = .ok (.aload_n 1, 1) := by decide +kernel
theorem d_SectorMap_follow_5 : decode b_SectorMap_follow 5 = .ok (.getfield 38, 3) := by decide +kernel
theorem d_SectorMap_follow_8 : decode b_SectorMap_follow 8 = .ok (.ifCond .ne 4, 3) := by decide +kernel
theorem d_SectorMap_follow_11 : decode b_SectorMap_follow 11 = .ok (.return_, 1) := by decide +kernel
theorem d_SectorMap_follow_12 : decode b_SectorMap_follow 12 = .ok (.iconst 0, 1) := by decide +kernel
theorem d_SectorMap_follow_13 : decode b_SectorMap_follow 13 = .ok (.istore_n 2, 1) := by decide +kernel
theorem d_SectorMap_follow_14 : decode b_SectorMap_follow 14 = .ok (.iload_n 2, 1) := by decide +kernel
theorem d_SectorMap_follow_15 : decode b_SectorMap_follow 15 = .ok (.aload_n 1, 1) := by decide +kernel
theorem d_SectorMap_follow_16 : decode b_SectorMap_follow 16 = .ok (.getfield 43, 3) := by decide +kernel
theorem d_SectorMap_follow_19 : decode b_SectorMap_follow 19 = .ok (.if_icmp .ge 21, 3) := by decide +kernel
theorem d_SectorMap_follow_22 : decode b_SectorMap_follow 22 = .ok (.aload_n 0, 1) := by decide +kernel
theorem d_SectorMap_follow_23 : decode b_SectorMap_follow 23 = .ok (.getfield 21, 3) := by decide +kernel
theorem d_SectorMap_follow_26 : decode b_SectorMap_follow 26 = .ok (.aload_n 1, 1) := by decide +kernel
theorem d_SectorMap_follow_27 : decode b_SectorMap_follow 27 = .ok (.getfield 46, 3) := by decide +kernel
theorem d_SectorMap_follow_30 : decode b_SectorMap_follow 30 = .ok (.iload_n 2, 1) := by decide +kernel
theorem d_SectorMap_follow_31 : decode b_SectorMap_follow 31 = .ok (.iaload, 1) := by decide +kernel
theorem d_SectorMap_follow_32 : decode b_SectorMap_follow 32 = .ok (.iconst 1, 1) := by decide +kernel
theorem d_SectorMap_follow_33 : decode b_SectorMap_follow 33 = .ok (.bastore, 1) := by decide +kernel
theorem d_SectorMap_follow_34 : decode b_SectorMap_follow 34 = .ok (.iinc 2 1, 3) := by decide +kernel
theorem d_SectorMap_follow_37 : decode b_SectorMap_follow 37 = .ok (.goto (-23), 3) := by decide +kernel
theorem d_SectorMap_follow_40 : decode b_SectorMap_follow 40 = .ok (.aload_n 0, 1) := by decide +kernel
theorem d_SectorMap_follow_41 : decode b_SectorMap_follow 41 = .ok (.invokevirtual 49, 3) := by decide +kernel
theorem d_SectorMap_follow_44 : decode b_SectorMap_follow 44 = .ok (.aload_n 1, 1) := by decide +kernel
theorem d_SectorMap_follow_45 : decode b_SectorMap_follow 45 = .ok (.getfield 43, 3) := by decide +kernel
theorem d_SectorMap_follow_48 : decode b_SectorMap_follow 48 = .ok (.istore_n 2, 1) := by decide +kernel
theorem d_SectorMap_follow_49 : decode b_SectorMap_follow 49 = .ok (.iload_n 2, 1) := by decide +kernel
theorem d_SectorMap_follow_50 : decode b_SectorMap_follow 50 = .ok (.aload_n 1, 1) := by decide +kernel
theorem d_SectorMap_follow_51 : decode b_SectorMap_follow 51 = .ok (.invokevirtual 52, 3) := by decide +kernel
theorem d_SectorMap_follow_54 : decode b_SectorMap_follow 54 = .ok (.if_icmp .ge 25, 3) := by decide +kernel
theorem d_SectorMap_follow_57 : decode b_SectorMap_follow 57 = .ok (.aload_n 0, 1) := by decide +kernel
theorem d_SectorMap_follow_58 : decode b_SectorMap_follow 58 = .ok (.aload_n 1, 1) := by decide +kernel
theorem d_SectorMap_follow_59 : decode b_SectorMap_follow 59 = .ok (.getfield 46, 3) := by decide +kernel
theorem d_SectorMap_follow_62 : decode b_SectorMap_follow 62 = .ok (.iload_n 2, 1) := by decide +kernel
theorem d_SectorMap_follow_63 : decode b_SectorMap_follow 63 = .ok (.iaload, 1) := by decide +kernel
theorem d_SectorMap_follow_64 : decode b_SectorMap_follow 64 = .ok (.aload_n 1, 1) := by decide +kernel
theorem d_SectorMap_follow_65 : decode b_SectorMap_follow 65 = .ok (.getfield 56, 3) := by decide +kernel
theorem d_SectorMap_follow_68 : decode b_SectorMap_follow 68 = .ok (.iload_n 2, 1) := by decide +kernel
theorem d_SectorMap_follow_69 : decode b_SectorMap_follow 69 = .ok (.iaload, 1) := by decide +kernel
theorem d_SectorMap_follow_70 : decode b_SectorMap_follow 70 = .ok (.invokevirtual 59, 3) := by decide +kernel
theorem d_SectorMap_follow_73 : decode b_SectorMap_follow 73 = .ok (.iinc 2 1, 3) := by decide +kernel
theorem d_SectorMap_follow_76 : decode b_SectorMap_follow 76 = .ok (.goto (-27), 3) := by decide +kernel
theorem d_SectorMap_follow_79 : decode b_SectorMap_follow 79 = .ok (.return_, 1) := by decide +kernel
theorem d_SectorMap_forget_0 : decode b_SectorMap_forget 0 = .ok (.aload_n 0, 1) := by decide +kernel
theorem d_SectorMap_forget_1 : decode b_SectorMap_forget 1 = .ok (.iconst 0, 1) := by decide +kernel
theorem d_SectorMap_forget_2 : decode b_SectorMap_forget 2 = .ok (.putfield 31, 3) := by decide +kernel
theorem d_SectorMap_forget_5 : decode b_SectorMap_forget 5 = .ok (.iconst 0, 1) := by decide +kernel
theorem d_SectorMap_forget_6 : decode b_SectorMap_forget 6 = .ok (.istore_n 1, 1) := by decide +kernel
theorem d_SectorMap_forget_7 : decode b_SectorMap_forget 7 = .ok (.iload_n 1, 1) := by decide +kernel
theorem d_SectorMap_forget_8 : decode b_SectorMap_forget 8 = .ok (.sipush 192, 3) := by decide +kernel
theorem d_SectorMap_forget_11 : decode b_SectorMap_forget 11 = .ok (.if_icmp .ge 23, 3) := by decide +kernel
theorem d_SectorMap_forget_14 : decode b_SectorMap_forget 14 = .ok (.aload_n 0, 1) := by decide +kernel
theorem d_SectorMap_forget_15 : decode b_SectorMap_forget 15 = .ok (.getfield 18, 3) := by decide +kernel
theorem d_SectorMap_forget_18 : decode b_SectorMap_forget 18 = .ok (.iload_n 1, 1) := by decide +kernel
theorem d_SectorMap_forget_19 : decode b_SectorMap_forget 19 = .ok (.iconst (-1), 1) := by decide +kernel
theorem d_SectorMap_forget_20 : decode b_SectorMap_forget 20 = .ok (.iastore, 1) := by decide +kernel
theorem d_SectorMap_forget_21 : decode b_SectorMap_forget 21 = .ok (.aload_n 0, 1) := by decide +kernel
theorem d_SectorMap_forget_22 : decode b_SectorMap_forget 22 = .ok (.getfield 21, 3) := by decide +kernel
theorem d_SectorMap_forget_25 : decode b_SectorMap_forget 25 = .ok (.iload_n 1, 1) := by decide +kernel
theorem d_SectorMap_forget_26 : decode b_SectorMap_forget 26 = .ok (.iconst 0, 1) := by decide +kernel
theorem d_SectorMap_forget_27 : decode b_SectorMap_forget 27 = .ok (.bastore, 1) := by decide +kernel
theorem d_SectorMap_forget_28 : decode b_SectorMap_forget 28 = .ok (.iinc 1 1, 3) := by decide +kernel
theorem d_SectorMap_forget_31 : decode b_SectorMap_forget 31 = .ok (.goto (-24), 3) := by decide +kernel
theorem d_SectorMap_forget_34 : decode b_SectorMap_forget 34 = .ok (.return_, 1) := by decide +kernel
theorem d_SectorMap_numberSectors_0 : decode b_SectorMap_numberSectors 0 = .ok (.bipush 16, 2) := by decide +kernel
theorem d_SectorMap_numberSectors_2 : decode b_SectorMap_numberSectors 2 = .ok (.istore_n 1, 1) := by decide +kernel
theorem d_SectorMap_numberSectors_3 : decode b_SectorMap_numberSectors 3 = .ok (.iload_n 1, 1) := by decide +kernel
theorem d_SectorMap_numberSectors_4 : decode b_SectorMap_numberSectors 4 = .ok (.sipush 192, 3) := by decide +kernel
theorem d_SectorMap_numberSectors_7 : decode b_SectorMap_numberSectors 7 = .ok (.if_icmp .ge 75, 3) := by decide +kernel
theorem d_SectorMap_numberSectors_10 : decode b_SectorMap_numberSectors 10 = .ok (.iload_n 1, 1) := by decide +kernel
theorem d_SectorMap_numberSectors_11 : decode b_SectorMap_numberSectors 11 = .ok (.invokestatic 63, 3) := by decide +kernel
theorem d_SectorMap_numberSectors_14 : decode b_SectorMap_numberSectors 14 = .ok (.ifCond .ne 62, 3) := by decide +kernel
theorem d_SectorMap_numberSectors_17 : decode b_SectorMap_numberSectors 17 = .ok (.aload_n 0, 1) := by decide +kernel
theorem d_SectorMap_numberSectors_18 : decode b_SectorMap_numberSectors 18 = .ok (.getfield 21, 3) := by decide +kernel
theorem d_SectorMap_numberSectors_21 : decode b_SectorMap_numberSectors 21 = .ok (.iload_n 1, 1) := by decide +kernel
theorem d_SectorMap_numberSectors_22 : decode b_SectorMap_numberSectors 22 = .ok (.baload, 1) := by decide +kernel
theorem d_SectorMap_numberSectors_23 : decode b_SectorMap_numberSectors 23 = .ok (.ifCond .ne 53, 3) := by decide +kernel
theorem d_SectorMap_numberSectors_26 : decode b_SectorMap_numberSectors 26 = .ok (.aload_n 0, 1) := by decide +kernel
theorem d_SectorMap_numberSectors_27 : decode b_SectorMap_numberSectors 27 = .ok (.getfield 31, 3) := by decide +kernel
theorem d_SectorMap_numberSectors_30 : decode b_SectorMap_numberSectors 30 = .ok (.sipush 143, 3) := by decide +kernel
theorem d_SectorMap_numberSectors_33 : decode b_SectorMap_numberSectors 33 = .ok (.if_icmp .ge 43, 3) := by decide +kernel
theorem d_SectorMap_numberSectors_36 : decode b_SectorMap_numberSectors 36 = .ok (.aload_n 0, 1) := by decide +kernel
theorem d_SectorMap_numberSectors_37 : decode b_SectorMap_numberSectors 37 = .ok (.getfield 9, 3) := by decide +kernel
theorem d_SectorMap_numberSectors_40 : decode b_SectorMap_numberSectors 40 = .ok (.aload_n 0, 1) := by decide +kernel
theorem d_SectorMap_numberSectors_41 : decode b_SectorMap_numberSectors 41 = .ok (.getfield 31, 3) := by decide +kernel
theorem d_SectorMap_numberSectors_44 : decode b_SectorMap_numberSectors 44 = .ok (.iload_n 1, 1) := by decide +kernel
theorem d_SectorMap_numberSectors_45 : decode b_SectorMap_numberSectors 45 = .ok (.iastore, 1) := by decide +kernel
theorem d_SectorMap_numberSectors_46 : decode b_SectorMap_numberSectors 46 = .ok (.aload_n 0, 1) := by decide +kernel
theorem d_SectorMap_numberSectors_47 : decode b_SectorMap_numberSectors 47 = .ok (.getfield 15, 3) := by decide +kernel
theorem d_SectorMap_numberSectors_50 : decode b_SectorMap_numberSectors 50 = .ok (.aload_n 0, 1) := by decide +kernel
theorem d_SectorMap_numberSectors_51 : decode b_SectorMap_numberSectors 51 = .ok (.getfield 31, 3) := by decide +kernel
theorem d_SectorMap_numberSectors_54 : decode b_SectorMap_numberSectors 54 = .ok (.iload_n 1, 1) := by decide +kernel
theorem d_SectorMap_numberSectors_55 : decode b_SectorMap_numberSectors 55 = .ok (.iastore, 1) := by decide +kernel
theorem d_SectorMap_numberSectors_56 : decode b_SectorMap_numberSectors 56 = .ok (.aload_n 0, 1) := by decide +kernel
theorem d_SectorMap_numberSectors_57 : decode b_SectorMap_numberSectors 57 = .ok (.getfield 18, 3) := by decide +kernel
theorem d_SectorMap_numberSectors_60 : decode b_SectorMap_numberSectors 60 = .ok (.iload_n 1, 1) := by decide +kernel
theorem d_SectorMap_numberSectors_61 : decode b_SectorMap_numberSectors 61 = .ok (.aload_n 0, 1) := by decide +kernel
theorem d_SectorMap_numberSectors_62 : decode b_SectorMap_numberSectors 62 = .ok (.getfield 31, 3) := by decide +kernel
theorem d_SectorMap_numberSectors_65 : decode b_SectorMap_numberSectors 65 = .ok (.iastore, 1) := by decide +kernel
theorem d_SectorMap_numberSectors_66 : decode b_SectorMap_numberSectors 66 = .ok (.aload_n 0, 1) := by decide +kernel
theorem d_SectorMap_numberSectors_67 : decode b_SectorMap_numberSectors 67 = .ok (.dup, 1) := by decide +kernel
theorem d_SectorMap_numberSectors_68 : decode b_SectorMap_numberSectors 68 = .ok (.getfield 31, 3) := by decide +kernel
theorem d_SectorMap_numberSectors_71 : decode b_SectorMap_numberSectors 71 = .ok (.iconst 1, 1) := by decide +kernel
theorem d_SectorMap_numberSectors_72 : decode b_SectorMap_numberSectors 72 = .ok (.iadd, 1) := by decide +kernel
theorem d_SectorMap_numberSectors_73 : decode b_SectorMap_numberSectors 73 = .ok (.putfield 31, 3) := by decide +kernel
theorem d_SectorMap_numberSectors_76 : decode b_SectorMap_numberSectors 76 = .ok (.iinc 1 1, 3) := by decide +kernel
theorem d_SectorMap_numberSectors_79 : decode b_SectorMap_numberSectors 79 = .ok (.goto (-76), 3) := by decide +kernel
theorem d_SectorMap_numberSectors_82 : decode b_SectorMap_numberSectors 82 = .ok (.return_, 1) := by decide +kernel
theorem d_DefectDrive_isSpare_0 : decode b_DefectDrive_isSpare 0 = .ok (.iload_n 0, 1) := by decide +kernel
theorem d_DefectDrive_isSpare_1 : decode b_DefectDrive_isSpare 1 = .ok (.bipush 16, 2) := by decide +kernel
theorem d_DefectDrive_isSpare_3 : decode b_DefectDrive_isSpare 3 = .ok (.if_icmp .lt 16, 3) := by decide +kernel
theorem d_DefectDrive_isSpare_6 : decode b_DefectDrive_isSpare 6 = .ok (.iload_n 0, 1) := by decide +kernel
theorem d_DefectDrive_isSpare_7 : decode b_DefectDrive_isSpare 7 = .ok (.bipush 16, 2) := by decide +kernel
theorem d_DefectDrive_isSpare_9 : decode b_DefectDrive_isSpare 9 = .ok (.irem, 1) := by decide +kernel
theorem d_DefectDrive_isSpare_10 : decode b_DefectDrive_isSpare 10 = .ok (.bipush 13, 2) := by decide +kernel
theorem d_DefectDrive_isSpare_12 : decode b_DefectDrive_isSpare 12 = .ok (.if_icmp .lt 7, 3) := by decide +kernel
theorem d_DefectDrive_isSpare_15 : decode b_DefectDrive_isSpare 15 = .ok (.iconst 1, 1) := by decide +kernel
theorem d_DefectDrive_isSpare_16 : decode b_DefectDrive_isSpare 16 = .ok (.goto 4, 3) := by decide +kernel
theorem d_DefectDrive_isSpare_19 : decode b_DefectDrive_isSpare 19 = .ok (.iconst 0, 1) := by decide +kernel
theorem d_DefectDrive_isSpare_20 : decode b_DefectDrive_isSpare 20 = .ok (.ireturn, 1) := by decide +kernel
theorem d_Lists_entries_0 : decode b_Lists_entries 0 = .ok (.aload_n 0, 1) := by decide +kernel
theorem d_Lists_entries_1 : decode b_Lists_entries 1 = .ok (.getfield 18, 3) := by decide +kernel
theorem d_Lists_entries_4 : decode b_Lists_entries 4 = .ok (.aload_n 0, 1) := by decide +kernel
theorem d_Lists_entries_5 : decode b_Lists_entries 5 = .ok (.getfield 22, 3) := by decide +kernel
theorem d_Lists_entries_8 : decode b_Lists_entries 8 = .ok (.iadd, 1) := by decide +kernel
theorem d_Lists_entries_9 : decode b_Lists_entries 9 = .ok (.ireturn, 1) := by decide +kernel
theorem d_SectorMap_redirect_0 : decode b_SectorMap_redirect 0 = .ok (.aload_n 0, 1) := by decide +kernel
theorem d_SectorMap_redirect_1 : decode b_SectorMap_redirect 1 = .ok (.getfield 18, 3) := by decide +kernel
theorem d_SectorMap_redirect_4 : decode b_SectorMap_redirect 4 = .ok (.iload_n 1, 1) := by decide +kernel
theorem d_SectorMap_redirect_5 : decode b_SectorMap_redirect 5 = .ok (.iaload, 1) := by decide +kernel
theorem d_SectorMap_redirect_6 : decode b_SectorMap_redirect 6 = .ok (.istore_n 3, 1) := by decide +kernel
theorem d_SectorMap_redirect_7 : decode b_SectorMap_redirect 7 = .ok (.iload_n 3, 1) := by decide +kernel
theorem d_SectorMap_redirect_8 : decode b_SectorMap_redirect 8 = .ok (.iconst (-1), 1) := by decide +kernel
theorem d_SectorMap_redirect_9 : decode b_SectorMap_redirect 9 = .ok (.if_icmp .eq 24, 3) := by decide +kernel
theorem d_SectorMap_redirect_12 : decode b_SectorMap_redirect 12 = .ok (.aload_n 0, 1) := by decide +kernel
theorem d_SectorMap_redirect_13 : decode b_SectorMap_redirect 13 = .ok (.getfield 15, 3) := by decide +kernel
theorem d_SectorMap_redirect_16 : decode b_SectorMap_redirect 16 = .ok (.iload_n 3, 1) := by decide +kernel
theorem d_SectorMap_redirect_17 : decode b_SectorMap_redirect 17 = .ok (.iload_n 2, 1) := by decide +kernel
theorem d_SectorMap_redirect_18 : decode b_SectorMap_redirect 18 = .ok (.iastore, 1) := by decide +kernel
theorem d_SectorMap_redirect_19 : decode b_SectorMap_redirect 19 = .ok (.aload_n 0, 1) := by decide +kernel
theorem d_SectorMap_redirect_20 : decode b_SectorMap_redirect 20 = .ok (.getfield 18, 3) := by decide +kernel
theorem d_SectorMap_redirect_23 : decode b_SectorMap_redirect 23 = .ok (.iload_n 1, 1) := by decide +kernel
theorem d_SectorMap_redirect_24 : decode b_SectorMap_redirect 24 = .ok (.iconst (-1), 1) := by decide +kernel
theorem d_SectorMap_redirect_25 : decode b_SectorMap_redirect 25 = .ok (.iastore, 1) := by decide +kernel
theorem d_SectorMap_redirect_26 : decode b_SectorMap_redirect 26 = .ok (.aload_n 0, 1) := by decide +kernel
theorem d_SectorMap_redirect_27 : decode b_SectorMap_redirect 27 = .ok (.getfield 18, 3) := by decide +kernel
theorem d_SectorMap_redirect_30 : decode b_SectorMap_redirect 30 = .ok (.iload_n 2, 1) := by decide +kernel
theorem d_SectorMap_redirect_31 : decode b_SectorMap_redirect 31 = .ok (.iload_n 3, 1) := by decide +kernel
theorem d_SectorMap_redirect_32 : decode b_SectorMap_redirect 32 = .ok (.iastore, 1) := by decide +kernel
theorem d_SectorMap_redirect_33 : decode b_SectorMap_redirect 33 = .ok (.return_, 1) := by decide +kernel
theorem d_DefectDrive_told_0 : decode b_DefectDrive_told 0 = .ok (.iload_n 1, 1) := by decide +kernel
theorem d_DefectDrive_told_1 : decode b_DefectDrive_told 1 = .ok (.tableswitch 116 0 7 #[47, 55, 63, 71, 79, 87, 103, 108], 47) := by decide +kernel
theorem d_DefectDrive_told_48 : decode b_DefectDrive_told 48 = .ok (.aload_n 0, 1) := by decide +kernel
theorem d_DefectDrive_told_49 : decode b_DefectDrive_told 49 = .ok (.getfield 26, 3) := by decide +kernel
theorem d_DefectDrive_told_52 : decode b_DefectDrive_told 52 = .ok (.getfield 91, 3) := by decide +kernel
theorem d_DefectDrive_told_55 : decode b_DefectDrive_told 55 = .ok (.ireturn, 1) := by decide +kernel
theorem d_DefectDrive_told_56 : decode b_DefectDrive_told 56 = .ok (.aload_n 0, 1) := by decide +kernel
theorem d_DefectDrive_told_57 : decode b_DefectDrive_told 57 = .ok (.getfield 46, 3) := by decide +kernel
theorem d_DefectDrive_told_60 : decode b_DefectDrive_told 60 = .ok (.getfield 152, 3) := by decide +kernel
theorem d_DefectDrive_told_63 : decode b_DefectDrive_told 63 = .ok (.ireturn, 1) := by decide +kernel
theorem d_DefectDrive_told_64 : decode b_DefectDrive_told 64 = .ok (.aload_n 0, 1) := by decide +kernel
theorem d_DefectDrive_told_65 : decode b_DefectDrive_told 65 = .ok (.getfield 46, 3) := by decide +kernel
theorem d_DefectDrive_told_68 : decode b_DefectDrive_told 68 = .ok (.getfield 165, 3) := by decide +kernel
theorem d_DefectDrive_told_71 : decode b_DefectDrive_told 71 = .ok (.ireturn, 1) := by decide +kernel
theorem d_DefectDrive_told_72 : decode b_DefectDrive_told 72 = .ok (.aload_n 0, 1) := by decide +kernel
theorem d_DefectDrive_told_73 : decode b_DefectDrive_told 73 = .ok (.getfield 46, 3) := by decide +kernel
theorem d_DefectDrive_told_76 : decode b_DefectDrive_told 76 = .ok (.getfield 168, 3) := by decide +kernel
theorem d_DefectDrive_told_79 : decode b_DefectDrive_told 79 = .ok (.ireturn, 1) := by decide +kernel
theorem d_DefectDrive_told_80 : decode b_DefectDrive_told 80 = .ok (.aload_n 0, 1) := by decide +kernel
theorem d_DefectDrive_told_81 : decode b_DefectDrive_told 81 = .ok (.getfield 12, 3) := by decide +kernel
theorem d_DefectDrive_told_84 : decode b_DefectDrive_told 84 = .ok (.getfield 180, 3) := by decide +kernel
theorem d_DefectDrive_told_87 : decode b_DefectDrive_told 87 = .ok (.ireturn, 1) := by decide +kernel
theorem d_DefectDrive_told_88 : decode b_DefectDrive_told 88 = .ok (.aload_n 0, 1) := by decide +kernel
theorem d_DefectDrive_told_89 : decode b_DefectDrive_told 89 = .ok (.getfield 12, 3) := by decide +kernel
theorem d_DefectDrive_told_92 : decode b_DefectDrive_told 92 = .ok (.getfield 78, 3) := by decide +kernel
theorem d_DefectDrive_told_95 : decode b_DefectDrive_told 95 = .ok (.ifCond .eq 7, 3) := by decide +kernel
theorem d_DefectDrive_told_98 : decode b_DefectDrive_told 98 = .ok (.iconst 1, 1) := by decide +kernel
theorem d_DefectDrive_told_99 : decode b_DefectDrive_told 99 = .ok (.goto 4, 3) := by decide +kernel
theorem d_DefectDrive_told_102 : decode b_DefectDrive_told 102 = .ok (.iconst 0, 1) := by decide +kernel
theorem d_DefectDrive_told_103 : decode b_DefectDrive_told 103 = .ok (.ireturn, 1) := by decide +kernel
theorem d_DefectDrive_told_104 : decode b_DefectDrive_told 104 = .ok (.aload_n 0, 1) := by decide +kernel
theorem d_DefectDrive_told_105 : decode b_DefectDrive_told 105 = .ok (.getfield 70, 3) := by decide +kernel
theorem d_DefectDrive_told_108 : decode b_DefectDrive_told 108 = .ok (.ireturn, 1) := by decide +kernel
theorem d_DefectDrive_told_109 : decode b_DefectDrive_told 109 = .ok (.aload_n 0, 1) := by decide +kernel
theorem d_DefectDrive_told_110 : decode b_DefectDrive_told 110 = .ok (.getfield 12, 3) := by decide +kernel
theorem d_DefectDrive_told_113 : decode b_DefectDrive_told 113 = .ok (.getfield 146, 3) := by decide +kernel
theorem d_DefectDrive_told_116 : decode b_DefectDrive_told 116 = .ok (.ireturn, 1) := by decide +kernel
theorem d_DefectDrive_told_117 : decode b_DefectDrive_told 117 = .ok (.iconst (-1), 1) := by decide +kernel
theorem d_DefectDrive_told_118 : decode b_DefectDrive_told 118 = .ok (.ireturn, 1) := by decide +kernel
theorem d_DefectDrive_factory_0 : decode b_DefectDrive_factory 0 = .ok (.iload_n 1, 1) := by decide +kernel
theorem d_DefectDrive_factory_1 : decode b_DefectDrive_factory 1 = .ok (.invokestatic 53, 3) := by decide +kernel
theorem d_DefectDrive_factory_4 : decode b_DefectDrive_factory 4 = .ok (.ifCond .ne 11, 3) := by decide +kernel
theorem d_DefectDrive_factory_7 : decode b_DefectDrive_factory 7 = .ok (.new 57, 3) := by decide +kernel
theorem d_DefectDrive_factory_10 : decode b_DefectDrive_factory 10 = .ok (.dup, 1) := by decide +kernel
theorem d_DefectDrive_factory_11 : decode b_DefectDrive_factory 11 = .ok (.invokespecial 59, 3) := by decide +kernel
theorem d_DefectDrive_factory_14 : decode b_DefectDrive_factory 14 = .ok (.athrow, 1) := by decide +kernel
theorem d_DefectDrive_factory_15 : decode b_DefectDrive_factory 15 = .ok (.iload_n 1, 1) := by decide +kernel
theorem d_DefectDrive_factory_16 : decode b_DefectDrive_factory 16 = .ok (.bipush 16, 2) := by decide +kernel
theorem d_DefectDrive_factory_18 : decode b_DefectDrive_factory 18 = .ok (.if_icmp .lt 12, 3) := by decide +kernel
theorem d_DefectDrive_factory_21 : decode b_DefectDrive_factory 21 = .ok (.aload_n 0, 1) := by decide +kernel
theorem d_DefectDrive_factory_22 : decode b_DefectDrive_factory 22 = .ok (.getfield 49, 3) := by decide +kernel
theorem d_DefectDrive_factory_25 : decode b_DefectDrive_factory 25 = .ok (.iload_n 1, 1) := by decide +kernel
theorem d_DefectDrive_factory_26 : decode b_DefectDrive_factory 26 = .ok (.baload, 1) := by decide +kernel
theorem d_DefectDrive_factory_27 : decode b_DefectDrive_factory 27 = .ok (.ifCond .eq 11, 3) := by decide +kernel
theorem d_DefectDrive_factory_30 : decode b_DefectDrive_factory 30 = .ok (.new 60, 3) := by decide +kernel
theorem d_DefectDrive_factory_33 : decode b_DefectDrive_factory 33 = .ok (.dup, 1) := by decide +kernel
theorem d_DefectDrive_factory_34 : decode b_DefectDrive_factory 34 = .ok (.invokespecial 62, 3) := by decide +kernel
theorem d_DefectDrive_factory_37 : decode b_DefectDrive_factory 37 = .ok (.athrow, 1) := by decide +kernel
theorem d_DefectDrive_factory_38 : decode b_DefectDrive_factory 38 = .ok (.aload_n 0, 1) := by decide +kernel
theorem d_DefectDrive_factory_39 : decode b_DefectDrive_factory 39 = .ok (.getfield 63, 3) := by decide +kernel
theorem d_DefectDrive_factory_42 : decode b_DefectDrive_factory 42 = .ok (.ifCond .eq 11, 3) := by decide +kernel
theorem d_DefectDrive_factory_45 : decode b_DefectDrive_factory 45 = .ok (.new 67, 3) := by decide +kernel
theorem d_DefectDrive_factory_48 : decode b_DefectDrive_factory 48 = .ok (.dup, 1) := by decide +kernel
theorem d_DefectDrive_factory_49 : decode b_DefectDrive_factory 49 = .ok (.invokespecial 69, 3) := by decide +kernel
theorem d_DefectDrive_factory_52 : decode b_DefectDrive_factory 52 = .ok (.athrow, 1) := by decide +kernel
theorem d_DefectDrive_factory_53 : decode b_DefectDrive_factory 53 = .ok (.aload_n 0, 1) := by decide +kernel
theorem d_DefectDrive_factory_54 : decode b_DefectDrive_factory 54 = .ok (.getfield 49, 3) := by decide +kernel
theorem d_DefectDrive_factory_57 : decode b_DefectDrive_factory 57 = .ok (.iload_n 1, 1) := by decide +kernel
theorem d_DefectDrive_factory_58 : decode b_DefectDrive_factory 58 = .ok (.iconst 1, 1) := by decide +kernel
theorem d_DefectDrive_factory_59 : decode b_DefectDrive_factory 59 = .ok (.bastore, 1) := by decide +kernel
theorem d_DefectDrive_factory_60 : decode b_DefectDrive_factory 60 = .ok (.aload_n 0, 1) := by decide +kernel
theorem d_DefectDrive_factory_61 : decode b_DefectDrive_factory 61 = .ok (.dup, 1) := by decide +kernel
theorem d_DefectDrive_factory_62 : decode b_DefectDrive_factory 62 = .ok (.getfield 70, 3) := by decide +kernel
theorem d_DefectDrive_factory_65 : decode b_DefectDrive_factory 65 = .ok (.iconst 1, 1) := by decide +kernel
theorem d_DefectDrive_factory_66 : decode b_DefectDrive_factory 66 = .ok (.iadd, 1) := by decide +kernel
theorem d_DefectDrive_factory_67 : decode b_DefectDrive_factory 67 = .ok (.putfield 70, 3) := by decide +kernel
theorem d_DefectDrive_factory_70 : decode b_DefectDrive_factory 70 = .ok (.aload_n 0, 1) := by decide +kernel
theorem d_DefectDrive_factory_71 : decode b_DefectDrive_factory 71 = .ok (.getfield 70, 3) := by decide +kernel
theorem d_DefectDrive_factory_74 : decode b_DefectDrive_factory 74 = .ok (.ireturn, 1) := by decide +kernel
theorem d_DefectDrive_isSector_0 : decode b_DefectDrive_isSector 0 = .ok (.iload_n 0, 1) := by decide +kernel
theorem d_DefectDrive_isSector_1 : decode b_DefectDrive_isSector 1 = .ok (.ifCond .lt 14, 3) := by decide +kernel
theorem d_DefectDrive_isSector_4 : decode b_DefectDrive_isSector 4 = .ok (.iload_n 0, 1) := by decide +kernel
theorem d_DefectDrive_isSector_5 : decode b_DefectDrive_isSector 5 = .ok (.sipush 192, 3) := by decide +kernel
theorem d_DefectDrive_isSector_8 : decode b_DefectDrive_isSector 8 = .ok (.if_icmp .ge 7, 3) := by decide +kernel
theorem d_DefectDrive_isSector_11 : decode b_DefectDrive_isSector 11 = .ok (.iconst 1, 1) := by decide +kernel
theorem d_DefectDrive_isSector_12 : decode b_DefectDrive_isSector 12 = .ok (.goto 4, 3) := by decide +kernel
theorem d_DefectDrive_isSector_15 : decode b_DefectDrive_isSector 15 = .ok (.iconst 0, 1) := by decide +kernel
theorem d_DefectDrive_isSector_16 : decode b_DefectDrive_isSector 16 = .ok (.ireturn, 1) := by decide +kernel
theorem d_DefectDrive_format_0 : decode b_DefectDrive_format 0 = .ok (.aload_n 0, 1) := by decide +kernel
theorem d_DefectDrive_format_1 : decode b_DefectDrive_format 1 = .ok (.invokevirtual 74, 3) := by decide +kernel
theorem d_DefectDrive_format_4 : decode b_DefectDrive_format 4 = .ok (.bipush 48, 2) := by decide +kernel
theorem d_DefectDrive_format_6 : decode b_DefectDrive_format 6 = .ok (.if_icmp .le 11, 3) := by decide +kernel
theorem d_DefectDrive_format_9 : decode b_DefectDrive_format 9 = .ok (.new 67, 3) := by decide +kernel
theorem d_DefectDrive_format_12 : decode b_DefectDrive_format 12 = .ok (.dup, 1) := by decide +kernel
theorem d_DefectDrive_format_13 : decode b_DefectDrive_format 13 = .ok (.invokespecial 69, 3) := by decide +kernel
theorem d_DefectDrive_format_16 : decode b_DefectDrive_format 16 = .ok (.athrow, 1) := by decide +kernel
theorem d_DefectDrive_format_17 : decode b_DefectDrive_format 17 = .ok (.aload_n 0, 1) := by decide +kernel
theorem d_DefectDrive_format_18 : decode b_DefectDrive_format 18 = .ok (.getfield 12, 3) := by decide +kernel
theorem d_DefectDrive_format_21 : decode b_DefectDrive_format 21 = .ok (.getfield 78, 3) := by decide +kernel
theorem d_DefectDrive_format_24 : decode b_DefectDrive_format 24 = .ok (.ifCond .eq 6, 3) := by decide +kernel
theorem d_DefectDrive_format_27 : decode b_DefectDrive_format 27 = .ok (.bipush (-5), 2) := by decide +kernel
theorem d_DefectDrive_format_29 : decode b_DefectDrive_format 29 = .ok (.ireturn, 1) := by decide +kernel
theorem d_DefectDrive_format_30 : decode b_DefectDrive_format 30 = .ok (.aload_n 0, 1) := by decide +kernel
theorem d_DefectDrive_format_31 : decode b_DefectDrive_format 31 = .ok (.invokevirtual 81, 3) := by decide +kernel
theorem d_DefectDrive_format_34 : decode b_DefectDrive_format 34 = .ok (.ifCond .ne 6, 3) := by decide +kernel
theorem d_DefectDrive_format_37 : decode b_DefectDrive_format 37 = .ok (.bipush (-5), 2) := by decide +kernel
theorem d_DefectDrive_format_39 : decode b_DefectDrive_format 39 = .ok (.ireturn, 1) := by decide +kernel
theorem d_DefectDrive_format_40 : decode b_DefectDrive_format 40 = .ok (.aload_n 0, 1) := by decide +kernel
theorem d_DefectDrive_format_41 : decode b_DefectDrive_format 41 = .ok (.invokevirtual 85, 3) := by decide +kernel
theorem d_DefectDrive_format_44 : decode b_DefectDrive_format 44 = .ok (.aload_n 0, 1) := by decide +kernel
theorem d_DefectDrive_format_45 : decode b_DefectDrive_format 45 = .ok (.invokevirtual 88, 3) := by decide +kernel
theorem d_DefectDrive_format_48 : decode b_DefectDrive_format 48 = .ok (.ifCond .ne 6, 3) := by decide +kernel
theorem d_DefectDrive_format_51 : decode b_DefectDrive_format 51 = .ok (.bipush (-5), 2) := by decide +kernel
theorem d_DefectDrive_format_53 : decode b_DefectDrive_format 53 = .ok (.ireturn, 1) := by decide +kernel
theorem d_DefectDrive_format_54 : decode b_DefectDrive_format 54 = .ok (.aload_n 0, 1) := by decide +kernel
theorem d_DefectDrive_format_55 : decode b_DefectDrive_format 55 = .ok (.iconst 1, 1) := by decide +kernel
theorem d_DefectDrive_format_56 : decode b_DefectDrive_format 56 = .ok (.putfield 63, 3) := by decide +kernel
theorem d_DefectDrive_format_59 : decode b_DefectDrive_format 59 = .ok (.aload_n 0, 1) := by decide +kernel
theorem d_DefectDrive_format_60 : decode b_DefectDrive_format 60 = .ok (.getfield 26, 3) := by decide +kernel
theorem d_DefectDrive_format_63 : decode b_DefectDrive_format 63 = .ok (.getfield 91, 3) := by decide +kernel
theorem d_DefectDrive_format_66 : decode b_DefectDrive_format 66 = .ok (.ireturn, 1) := by decide +kernel
theorem d_DefectDrive_countSlipped_0 : decode b_DefectDrive_countSlipped 0 = .ok (.iconst 0, 1) := by decide +kernel
theorem d_DefectDrive_countSlipped_1 : decode b_DefectDrive_countSlipped 1 = .ok (.istore_n 1, 1) := by decide +kernel
theorem d_DefectDrive_countSlipped_2 : decode b_DefectDrive_countSlipped 2 = .ok (.bipush 16, 2) := by decide +kernel
theorem d_DefectDrive_countSlipped_4 : decode b_DefectDrive_countSlipped 4 = .ok (.istore_n 2, 1) := by decide +kernel
theorem d_DefectDrive_countSlipped_5 : decode b_DefectDrive_countSlipped 5 = .ok (.iload_n 2, 1) := by decide +kernel
theorem d_DefectDrive_countSlipped_6 : decode b_DefectDrive_countSlipped 6 = .ok (.sipush 192, 3) := by decide +kernel
theorem d_DefectDrive_countSlipped_9 : decode b_DefectDrive_countSlipped 9 = .ok (.if_icmp .ge 20, 3) := by decide +kernel
theorem d_DefectDrive_countSlipped_12 : decode b_DefectDrive_countSlipped 12 = .ok (.aload_n 0, 1) := by decide +kernel
theorem d_DefectDrive_countSlipped_13 : decode b_DefectDrive_countSlipped 13 = .ok (.iload_n 2, 1) := by decide +kernel
theorem d_DefectDrive_countSlipped_14 : decode b_DefectDrive_countSlipped 14 = .ok (.invokevirtual 186, 3) := by decide +kernel
theorem d_DefectDrive_countSlipped_17 : decode b_DefectDrive_countSlipped 17 = .ok (.ifCond .eq 6, 3) := by decide +kernel
theorem d_DefectDrive_countSlipped_20 : decode b_DefectDrive_countSlipped 20 = .ok (.iinc 1 1, 3) := by decide +kernel
theorem d_DefectDrive_countSlipped_23 : decode b_DefectDrive_countSlipped 23 = .ok (.iinc 2 1, 3) := by decide +kernel
theorem d_DefectDrive_countSlipped_26 : decode b_DefectDrive_countSlipped 26 = .ok (.goto (-21), 3) := by decide +kernel
theorem d_DefectDrive_countSlipped_29 : decode b_DefectDrive_countSlipped 29 = .ok (.iload_n 1, 1) := by decide +kernel
theorem d_DefectDrive_countSlipped_30 : decode b_DefectDrive_countSlipped 30 = .ok (.ireturn, 1) := by decide +kernel
theorem d_DefectDrive_isSlipped_0 : decode b_DefectDrive_isSlipped 0 = .ok (.aload_n 0, 1) := by decide +kernel
theorem d_DefectDrive_isSlipped_1 : decode b_DefectDrive_isSlipped 1 = .ok (.getfield 49, 3) := by decide +kernel
theorem d_DefectDrive_isSlipped_4 : decode b_DefectDrive_isSlipped 4 = .ok (.iload_n 1, 1) := by decide +kernel
theorem d_DefectDrive_isSlipped_5 : decode b_DefectDrive_isSlipped 5 = .ok (.baload, 1) := by decide +kernel
theorem d_DefectDrive_isSlipped_6 : decode b_DefectDrive_isSlipped 6 = .ok (.ifCond .ne 27, 3) := by decide +kernel
theorem d_DefectDrive_isSlipped_9 : decode b_DefectDrive_isSlipped 9 = .ok (.aload_n 0, 1) := by decide +kernel
theorem d_DefectDrive_isSlipped_10 : decode b_DefectDrive_isSlipped 10 = .ok (.getfield 19, 3) := by decide +kernel
theorem d_DefectDrive_isSlipped_13 : decode b_DefectDrive_isSlipped 13 = .ok (.getfield 104, 3) := by decide +kernel
theorem d_DefectDrive_isSlipped_16 : decode b_DefectDrive_isSlipped 16 = .ok (.iload_n 1, 1) := by decide +kernel
theorem d_DefectDrive_isSlipped_17 : decode b_DefectDrive_isSlipped 17 = .ok (.iaload, 1) := by decide +kernel
theorem d_DefectDrive_isSlipped_18 : decode b_DefectDrive_isSlipped 18 = .ok (.ifCond .ne 15, 3) := by decide +kernel
theorem d_DefectDrive_isSlipped_21 : decode b_DefectDrive_isSlipped 21 = .ok (.aload_n 0, 1) := by decide +kernel
theorem d_DefectDrive_isSlipped_22 : decode b_DefectDrive_isSlipped 22 = .ok (.getfield 46, 3) := by decide +kernel
theorem d_DefectDrive_isSlipped_25 : decode b_DefectDrive_isSlipped 25 = .ok (.iload_n 1, 1) := by decide +kernel
theorem d_DefectDrive_isSlipped_26 : decode b_DefectDrive_isSlipped 26 = .ok (.invokevirtual 183, 3) := by decide +kernel
theorem d_DefectDrive_isSlipped_29 : decode b_DefectDrive_isSlipped 29 = .ok (.iconst (-1), 1) := by decide +kernel
theorem d_DefectDrive_isSlipped_30 : decode b_DefectDrive_isSlipped 30 = .ok (.if_icmp .eq 7, 3) := by decide +kernel
theorem d_DefectDrive_isSlipped_33 : decode b_DefectDrive_isSlipped 33 = .ok (.iconst 1, 1) := by decide +kernel
theorem d_DefectDrive_isSlipped_34 : decode b_DefectDrive_isSlipped 34 = .ok (.goto 4, 3) := by decide +kernel
theorem d_DefectDrive_isSlipped_37 : decode b_DefectDrive_isSlipped 37 = .ok (.iconst 0, 1) := by decide +kernel
theorem d_DefectDrive_isSlipped_38 : decode b_DefectDrive_isSlipped 38 = .ok (.ireturn, 1) := by decide +kernel
theorem d_Lists_pairOf_0 : decode b_Lists_pairOf 0 = .ok (.iconst 0, 1) := by decide +kernel
theorem d_Lists_pairOf_1 : decode b_Lists_pairOf 1 = .ok (.istore_n 2, 1) := by decide +kernel
theorem d_Lists_pairOf_2 : decode b_Lists_pairOf 2 = .ok (.iload_n 2, 1) := by decide +kernel
theorem d_Lists_pairOf_3 : decode b_Lists_pairOf 3 = .ok (.aload_n 0, 1) := by decide +kernel
theorem d_Lists_pairOf_4 : decode b_Lists_pairOf 4 = .ok (.getfield 22, 3) := by decide +kernel
theorem d_Lists_pairOf_7 : decode b_Lists_pairOf 7 = .ok (.if_icmp .ge 26, 3) := by decide +kernel
theorem d_Lists_pairOf_10 : decode b_Lists_pairOf 10 = .ok (.aload_n 0, 1) := by decide +kernel
theorem d_Lists_pairOf_11 : decode b_Lists_pairOf 11 = .ok (.getfield 9, 3) := by decide +kernel
theorem d_Lists_pairOf_14 : decode b_Lists_pairOf 14 = .ok (.aload_n 0, 1) := by decide +kernel
theorem d_Lists_pairOf_15 : decode b_Lists_pairOf 15 = .ok (.getfield 18, 3) := by decide +kernel
theorem d_Lists_pairOf_18 : decode b_Lists_pairOf 18 = .ok (.iload_n 2, 1) := by decide +kernel
theorem d_Lists_pairOf_19 : decode b_Lists_pairOf 19 = .ok (.iadd, 1) := by decide +kernel
theorem d_Lists_pairOf_20 : decode b_Lists_pairOf 20 = .ok (.iaload, 1) := by decide +kernel
theorem d_Lists_pairOf_21 : decode b_Lists_pairOf 21 = .ok (.iload_n 1, 1) := by decide +kernel
theorem d_Lists_pairOf_22 : decode b_Lists_pairOf 22 = .ok (.if_icmp .ne 5, 3) := by decide +kernel
theorem d_Lists_pairOf_25 : decode b_Lists_pairOf 25 = .ok (.iload_n 2, 1) := by decide +kernel
theorem d_Lists_pairOf_26 : decode b_Lists_pairOf 26 = .ok (.ireturn, 1) := by decide +kernel
theorem d_Lists_pairOf_27 : decode b_Lists_pairOf 27 = .ok (.iinc 2 1, 3) := by decide +kernel
theorem d_Lists_pairOf_30 : decode b_Lists_pairOf 30 = .ok (.goto (-28), 3) := by decide +kernel
theorem d_Lists_pairOf_33 : decode b_Lists_pairOf 33 = .ok (.iconst (-1), 1) := by decide +kernel
theorem d_Lists_pairOf_34 : decode b_Lists_pairOf 34 = .ok (.ireturn, 1) := by decide +kernel
theorem d_DefectDrive_wipeGoodSectors_0 : decode b_DefectDrive_wipeGoodSectors 0 = .ok (.bipush 16, 2) := by decide +kernel
theorem d_DefectDrive_wipeGoodSectors_2 : decode b_DefectDrive_wipeGoodSectors 2 = .ok (.istore_n 1, 1) := by decide +kernel
theorem d_DefectDrive_wipeGoodSectors_3 : decode b_DefectDrive_wipeGoodSectors 3 = .ok (.iload_n 1, 1) := by decide +kernel
theorem d_DefectDrive_wipeGoodSectors_4 : decode b_DefectDrive_wipeGoodSectors 4 = .ok (.sipush 192, 3) := by decide +kernel
theorem d_DefectDrive_wipeGoodSectors_7 : decode b_DefectDrive_wipeGoodSectors 7 = .ok (.if_icmp .ge 41, 3) := by decide +kernel
theorem d_DefectDrive_wipeGoodSectors_10 : decode b_DefectDrive_wipeGoodSectors 10 = .ok (.aload_n 0, 1) := by decide +kernel
theorem d_DefectDrive_wipeGoodSectors_11 : decode b_DefectDrive_wipeGoodSectors 11 = .ok (.getfield 19, 3) := by decide +kernel
theorem d_DefectDrive_wipeGoodSectors_14 : decode b_DefectDrive_wipeGoodSectors 14 = .ok (.getfield 104, 3) := by decide +kernel
theorem d_DefectDrive_wipeGoodSectors_17 : decode b_DefectDrive_wipeGoodSectors 17 = .ok (.iload_n 1, 1) := by decide +kernel
theorem d_DefectDrive_wipeGoodSectors_18 : decode b_DefectDrive_wipeGoodSectors 18 = .ok (.iaload, 1) := by decide +kernel
theorem d_DefectDrive_wipeGoodSectors_19 : decode b_DefectDrive_wipeGoodSectors 19 = .ok (.ifCond .ne 23, 3) := by decide +kernel
theorem d_DefectDrive_wipeGoodSectors_22 : decode b_DefectDrive_wipeGoodSectors 22 = .ok (.aload_n 0, 1) := by decide +kernel
theorem d_DefectDrive_wipeGoodSectors_23 : decode b_DefectDrive_wipeGoodSectors 23 = .ok (.getfield 12, 3) := by decide +kernel
theorem d_DefectDrive_wipeGoodSectors_26 : decode b_DefectDrive_wipeGoodSectors 26 = .ok (.invokevirtual 107, 3) := by decide +kernel
theorem d_DefectDrive_wipeGoodSectors_29 : decode b_DefectDrive_wipeGoodSectors 29 = .ok (.ifCond .ne 5, 3) := by decide +kernel
theorem d_DefectDrive_wipeGoodSectors_32 : decode b_DefectDrive_wipeGoodSectors 32 = .ok (.iconst 0, 1) := by decide +kernel
theorem d_DefectDrive_wipeGoodSectors_33 : decode b_DefectDrive_wipeGoodSectors 33 = .ok (.ireturn, 1) := by decide +kernel
theorem d_DefectDrive_wipeGoodSectors_34 : decode b_DefectDrive_wipeGoodSectors 34 = .ok (.aload_n 0, 1) := by decide +kernel
theorem d_DefectDrive_wipeGoodSectors_35 : decode b_DefectDrive_wipeGoodSectors 35 = .ok (.getfield 19, 3) := by decide +kernel
theorem d_DefectDrive_wipeGoodSectors_38 : decode b_DefectDrive_wipeGoodSectors 38 = .ok (.iload_n 1, 1) := by decide +kernel
theorem d_DefectDrive_wipeGoodSectors_39 : decode b_DefectDrive_wipeGoodSectors 39 = .ok (.invokevirtual 196, 3) := by decide +kernel
theorem d_DefectDrive_wipeGoodSectors_42 : decode b_DefectDrive_wipeGoodSectors 42 = .ok (.iinc 1 1, 3) := by decide +kernel
theorem d_DefectDrive_wipeGoodSectors_45 : decode b_DefectDrive_wipeGoodSectors 45 = .ok (.goto (-42), 3) := by decide +kernel
theorem d_DefectDrive_wipeGoodSectors_48 : decode b_DefectDrive_wipeGoodSectors 48 = .ok (.iconst 1, 1) := by decide +kernel
theorem d_DefectDrive_wipeGoodSectors_49 : decode b_DefectDrive_wipeGoodSectors 49 = .ok (.ireturn, 1) := by decide +kernel
theorem d_Power_lastsForOneWrite_0 : decode b_Power_lastsForOneWrite 0 = .ok (.aload_n 0, 1) := by decide +kernel
theorem d_Power_lastsForOneWrite_1 : decode b_Power_lastsForOneWrite 1 = .ok (.getfield 9, 3) := by decide +kernel
theorem d_Power_lastsForOneWrite_4 : decode b_Power_lastsForOneWrite 4 = .ok (.ifCond .ne 10, 3) := by decide +kernel
theorem d_Power_lastsForOneWrite_7 : decode b_Power_lastsForOneWrite 7 = .ok (.aload_n 0, 1) := by decide +kernel
theorem d_Power_lastsForOneWrite_8 : decode b_Power_lastsForOneWrite 8 = .ok (.iconst 1, 1) := by decide +kernel
theorem d_Power_lastsForOneWrite_9 : decode b_Power_lastsForOneWrite 9 = .ok (.putfield 15, 3) := by decide +kernel
theorem d_Power_lastsForOneWrite_12 : decode b_Power_lastsForOneWrite 12 = .ok (.iconst 0, 1) := by decide +kernel
theorem d_Power_lastsForOneWrite_13 : decode b_Power_lastsForOneWrite 13 = .ok (.ireturn, 1) := by decide +kernel
theorem d_Power_lastsForOneWrite_14 : decode b_Power_lastsForOneWrite 14 = .ok (.aload_n 0, 1) := by decide +kernel
theorem d_Power_lastsForOneWrite_15 : decode b_Power_lastsForOneWrite 15 = .ok (.getfield 9, 3) := by decide +kernel
theorem d_Power_lastsForOneWrite_18 : decode b_Power_lastsForOneWrite 18 = .ok (.iconst (-1), 1) := by decide +kernel
theorem d_Power_lastsForOneWrite_19 : decode b_Power_lastsForOneWrite 19 = .ok (.if_icmp .eq 13, 3) := by decide +kernel
theorem d_Power_lastsForOneWrite_22 : decode b_Power_lastsForOneWrite 22 = .ok (.aload_n 0, 1) := by decide +kernel
theorem d_Power_lastsForOneWrite_23 : decode b_Power_lastsForOneWrite 23 = .ok (.dup, 1) := by decide +kernel
theorem d_Power_lastsForOneWrite_24 : decode b_Power_lastsForOneWrite 24 = .ok (.getfield 9, 3) := by decide +kernel
theorem d_Power_lastsForOneWrite_27 : decode b_Power_lastsForOneWrite 27 = .ok (.iconst 1, 1) := by decide +kernel
theorem d_Power_lastsForOneWrite_28 : decode b_Power_lastsForOneWrite 28 = .ok (.isub, 1) := by decide +kernel
theorem d_Power_lastsForOneWrite_29 : decode b_Power_lastsForOneWrite 29 = .ok (.putfield 9, 3) := by decide +kernel
theorem d_Power_lastsForOneWrite_32 : decode b_Power_lastsForOneWrite 32 = .ok (.aload_n 0, 1) := by decide +kernel
theorem d_Power_lastsForOneWrite_33 : decode b_Power_lastsForOneWrite 33 = .ok (.dup, 1) := by decide +kernel
theorem d_Power_lastsForOneWrite_34 : decode b_Power_lastsForOneWrite 34 = .ok (.getfield 19, 3) := by decide +kernel
theorem d_Power_lastsForOneWrite_37 : decode b_Power_lastsForOneWrite 37 = .ok (.iconst 1, 1) := by decide +kernel
theorem d_Power_lastsForOneWrite_38 : decode b_Power_lastsForOneWrite 38 = .ok (.iadd, 1) := by decide +kernel
theorem d_Power_lastsForOneWrite_39 : decode b_Power_lastsForOneWrite 39 = .ok (.putfield 19, 3) := by decide +kernel
theorem d_Power_lastsForOneWrite_42 : decode b_Power_lastsForOneWrite 42 = .ok (.iconst 1, 1) := by decide +kernel
theorem d_Power_lastsForOneWrite_43 : decode b_Power_lastsForOneWrite 43 = .ok (.ireturn, 1) := by decide +kernel
theorem d_Surface_wipe_0 : decode b_Surface_wipe 0 = .ok (.iconst 0, 1) := by decide +kernel
theorem d_Surface_wipe_1 : decode b_Surface_wipe 1 = .ok (.istore_n 2, 1) := by decide +kernel
theorem d_Surface_wipe_2 : decode b_Surface_wipe 2 = .ok (.iload_n 2, 1) := by decide +kernel
theorem d_Surface_wipe_3 : decode b_Surface_wipe 3 = .ok (.iconst 2, 1) := by decide +kernel
theorem d_Surface_wipe_4 : decode b_Surface_wipe 4 = .ok (.if_icmp .ge 16, 3) := by decide +kernel
theorem d_Surface_wipe_7 : decode b_Surface_wipe 7 = .ok (.aload_n 0, 1) := by decide +kernel
theorem d_Surface_wipe_8 : decode b_Surface_wipe 8 = .ok (.iload_n 1, 1) := by decide +kernel
theorem d_Surface_wipe_9 : decode b_Surface_wipe 9 = .ok (.iload_n 2, 1) := by decide +kernel
theorem d_Surface_wipe_10 : decode b_Surface_wipe 10 = .ok (.iconst 0, 1) := by decide +kernel
theorem d_Surface_wipe_11 : decode b_Surface_wipe 11 = .ok (.invokevirtual 22, 3) := by decide +kernel
theorem d_Surface_wipe_14 : decode b_Surface_wipe 14 = .ok (.iinc 2 1, 3) := by decide +kernel
theorem d_Surface_wipe_17 : decode b_Surface_wipe 17 = .ok (.goto (-15), 3) := by decide +kernel
theorem d_Surface_wipe_20 : decode b_Surface_wipe 20 = .ok (.return_, 1) := by decide +kernel
theorem d_Surface_put_0 : decode b_Surface_put 0 = .ok (.aload_n 0, 1) := by decide +kernel
theorem d_Surface_put_1 : decode b_Surface_put 1 = .ok (.getfield 15, 3) := by decide +kernel
theorem d_Surface_put_4 : decode b_Surface_put 4 = .ok (.iload_n 1, 1) := by decide +kernel
theorem d_Surface_put_5 : decode b_Surface_put 5 = .ok (.iconst 2, 1) := by decide +kernel
theorem d_Surface_put_6 : decode b_Surface_put 6 = .ok (.imul, 1) := by decide +kernel
theorem d_Surface_put_7 : decode b_Surface_put 7 = .ok (.iload_n 2, 1) := by decide +kernel
theorem d_Surface_put_8 : decode b_Surface_put 8 = .ok (.iadd, 1) := by decide +kernel
theorem d_Surface_put_9 : decode b_Surface_put 9 = .ok (.iload_n 3, 1) := by decide +kernel
theorem d_Surface_put_10 : decode b_Surface_put 10 = .ok (.iastore, 1) := by decide +kernel
theorem d_Surface_put_11 : decode b_Surface_put 11 = .ok (.aload_n 0, 1) := by decide +kernel
theorem d_Surface_put_12 : decode b_Surface_put 12 = .ok (.getfield 18, 3) := by decide +kernel
theorem d_Surface_put_15 : decode b_Surface_put 15 = .ok (.iload_n 1, 1) := by decide +kernel
theorem d_Surface_put_16 : decode b_Surface_put 16 = .ok (.iconst 2, 1) := by decide +kernel
theorem d_Surface_put_17 : decode b_Surface_put 17 = .ok (.imul, 1) := by decide +kernel
theorem d_Surface_put_18 : decode b_Surface_put 18 = .ok (.iload_n 2, 1) := by decide +kernel
theorem d_Surface_put_19 : decode b_Surface_put 19 = .ok (.iadd, 1) := by decide +kernel
theorem d_Surface_put_20 : decode b_Surface_put 20 = .ok (.iconst 0, 1) := by decide +kernel
theorem d_Surface_put_21 : decode b_Surface_put 21 = .ok (.bastore, 1) := by decide +kernel
theorem d_Surface_put_22 : decode b_Surface_put 22 = .ok (.return_, 1) := by decide +kernel
theorem d_DefectDrive_draftSlipped_0 : decode b_DefectDrive_draftSlipped 0 = .ok (.aload_n 0, 1) := by decide +kernel
theorem d_DefectDrive_draftSlipped_1 : decode b_DefectDrive_draftSlipped 1 = .ok (.getfield 43, 3) := by decide +kernel
theorem d_DefectDrive_draftSlipped_4 : decode b_DefectDrive_draftSlipped 4 = .ok (.aload_n 0, 1) := by decide +kernel
theorem d_DefectDrive_draftSlipped_5 : decode b_DefectDrive_draftSlipped 5 = .ok (.getfield 46, 3) := by decide +kernel
theorem d_DefectDrive_draftSlipped_8 : decode b_DefectDrive_draftSlipped 8 = .ok (.getfield 152, 3) := by decide +kernel
theorem d_DefectDrive_draftSlipped_11 : decode b_DefectDrive_draftSlipped 11 = .ok (.iconst 1, 1) := by decide +kernel
theorem d_DefectDrive_draftSlipped_12 : decode b_DefectDrive_draftSlipped 12 = .ok (.iadd, 1) := by decide +kernel
theorem d_DefectDrive_draftSlipped_13 : decode b_DefectDrive_draftSlipped 13 = .ok (.invokevirtual 189, 3) := by decide +kernel
theorem d_DefectDrive_draftSlipped_16 : decode b_DefectDrive_draftSlipped 16 = .ok (.bipush 16, 2) := by decide +kernel
theorem d_DefectDrive_draftSlipped_18 : decode b_DefectDrive_draftSlipped 18 = .ok (.istore_n 1, 1) := by decide +kernel
theorem d_DefectDrive_draftSlipped_19 : decode b_DefectDrive_draftSlipped 19 = .ok (.iload_n 1, 1) := by decide +kernel
theorem d_DefectDrive_draftSlipped_20 : decode b_DefectDrive_draftSlipped 20 = .ok (.sipush 192, 3) := by decide +kernel
theorem d_DefectDrive_draftSlipped_23 : decode b_DefectDrive_draftSlipped 23 = .ok (.if_icmp .ge 25, 3) := by decide +kernel
theorem d_DefectDrive_draftSlipped_26 : decode b_DefectDrive_draftSlipped 26 = .ok (.aload_n 0, 1) := by decide +kernel
theorem d_DefectDrive_draftSlipped_27 : decode b_DefectDrive_draftSlipped 27 = .ok (.iload_n 1, 1) := by decide +kernel
theorem d_DefectDrive_draftSlipped_28 : decode b_DefectDrive_draftSlipped 28 = .ok (.invokevirtual 186, 3) := by decide +kernel
theorem d_DefectDrive_draftSlipped_31 : decode b_DefectDrive_draftSlipped 31 = .ok (.ifCond .eq 11, 3) := by decide +kernel
theorem d_DefectDrive_draftSlipped_34 : decode b_DefectDrive_draftSlipped 34 = .ok (.aload_n 0, 1) := by decide +kernel
theorem d_DefectDrive_draftSlipped_35 : decode b_DefectDrive_draftSlipped 35 = .ok (.getfield 43, 3) := by decide +kernel
theorem d_DefectDrive_draftSlipped_38 : decode b_DefectDrive_draftSlipped 38 = .ok (.iload_n 1, 1) := by decide +kernel
theorem d_DefectDrive_draftSlipped_39 : decode b_DefectDrive_draftSlipped 39 = .ok (.invokevirtual 193, 3) := by decide +kernel
theorem d_DefectDrive_draftSlipped_42 : decode b_DefectDrive_draftSlipped 42 = .ok (.iinc 1 1, 3) := by decide +kernel
theorem d_DefectDrive_draftSlipped_45 : decode b_DefectDrive_draftSlipped 45 = .ok (.goto (-26), 3) := by decide +kernel
theorem d_DefectDrive_draftSlipped_48 : decode b_DefectDrive_draftSlipped 48 = .ok (.return_, 1) := by decide +kernel
theorem d_Lists_becomeEmpty_0 : decode b_Lists_becomeEmpty 0 = .ok (.aload_n 0, 1) := by decide +kernel
theorem d_Lists_becomeEmpty_1 : decode b_Lists_becomeEmpty 1 = .ok (.iload_n 1, 1) := by decide +kernel
theorem d_Lists_becomeEmpty_2 : decode b_Lists_becomeEmpty 2 = .ok (.putfield 33, 3) := by decide +kernel
theorem d_Lists_becomeEmpty_5 : decode b_Lists_becomeEmpty 5 = .ok (.aload_n 0, 1) := by decide +kernel
theorem d_Lists_becomeEmpty_6 : decode b_Lists_becomeEmpty 6 = .ok (.iconst 0, 1) := by decide +kernel
theorem d_Lists_becomeEmpty_7 : decode b_Lists_becomeEmpty 7 = .ok (.putfield 18, 3) := by decide +kernel
theorem d_Lists_becomeEmpty_10 : decode b_Lists_becomeEmpty 10 = .ok (.aload_n 0, 1) := by decide +kernel
theorem d_Lists_becomeEmpty_11 : decode b_Lists_becomeEmpty 11 = .ok (.iconst 0, 1) := by decide +kernel
theorem d_Lists_becomeEmpty_12 : decode b_Lists_becomeEmpty 12 = .ok (.putfield 22, 3) := by decide +kernel
theorem d_Lists_becomeEmpty_15 : decode b_Lists_becomeEmpty 15 = .ok (.return_, 1) := by decide +kernel
theorem d_Lists_addPrimary_0 : decode b_Lists_addPrimary 0 = .ok (.aload_n 0, 1) := by decide +kernel
theorem d_Lists_addPrimary_1 : decode b_Lists_addPrimary 1 = .ok (.invokevirtual 29, 3) := by decide +kernel
theorem d_Lists_addPrimary_4 : decode b_Lists_addPrimary 4 = .ok (.bipush 48, 2) := by decide +kernel
theorem d_Lists_addPrimary_6 : decode b_Lists_addPrimary 6 = .ok (.if_icmp .ge 33, 3) := by decide +kernel
theorem d_Lists_addPrimary_9 : decode b_Lists_addPrimary 9 = .ok (.aload_n 0, 1) := by decide +kernel
theorem d_Lists_addPrimary_10 : decode b_Lists_addPrimary 10 = .ok (.getfield 9, 3) := by decide +kernel
theorem d_Lists_addPrimary_13 : decode b_Lists_addPrimary 13 = .ok (.aload_n 0, 1) := by decide +kernel
theorem d_Lists_addPrimary_14 : decode b_Lists_addPrimary 14 = .ok (.getfield 18, 3) := by decide +kernel
theorem d_Lists_addPrimary_17 : decode b_Lists_addPrimary 17 = .ok (.iload_n 1, 1) := by decide +kernel
theorem d_Lists_addPrimary_18 : decode b_Lists_addPrimary 18 = .ok (.iastore, 1) := by decide +kernel
theorem d_Lists_addPrimary_19 : decode b_Lists_addPrimary 19 = .ok (.aload_n 0, 1) := by decide +kernel
theorem d_Lists_addPrimary_20 : decode b_Lists_addPrimary 20 = .ok (.getfield 15, 3) := by decide +kernel
theorem d_Lists_addPrimary_23 : decode b_Lists_addPrimary 23 = .ok (.aload_n 0, 1) := by decide +kernel
theorem d_Lists_addPrimary_24 : decode b_Lists_addPrimary 24 = .ok (.getfield 18, 3) := by decide +kernel
theorem d_Lists_addPrimary_27 : decode b_Lists_addPrimary 27 = .ok (.iconst (-1), 1) := by decide +kernel
theorem d_Lists_addPrimary_28 : decode b_Lists_addPrimary 28 = .ok (.iastore, 1) := by decide +kernel
theorem d_Lists_addPrimary_29 : decode b_Lists_addPrimary 29 = .ok (.aload_n 0, 1) := by decide +kernel
theorem d_Lists_addPrimary_30 : decode b_Lists_addPrimary 30 = .ok (.dup, 1) := by decide +kernel
theorem d_Lists_addPrimary_31 : decode b_Lists_addPrimary 31 = .ok (.getfield 18, 3) := by decide +kernel
theorem d_Lists_addPrimary_34 : decode b_Lists_addPrimary 34 = .ok (.iconst 1, 1) := by decide +kernel
theorem d_Lists_addPrimary_35 : decode b_Lists_addPrimary 35 = .ok (.iadd, 1) := by decide +kernel
theorem d_Lists_addPrimary_36 : decode b_Lists_addPrimary 36 = .ok (.putfield 18, 3) := by decide +kernel
theorem d_Lists_addPrimary_39 : decode b_Lists_addPrimary 39 = .ok (.return_, 1) := by decide +kernel
theorem d_DefectDrive_writeDraft_0 : decode b_DefectDrive_writeDraft 0 = .ok (.aload_n 0, 1) := by decide +kernel
theorem d_DefectDrive_writeDraft_1 : decode b_DefectDrive_writeDraft 1 = .ok (.getfield 43, 3) := by decide +kernel
theorem d_DefectDrive_writeDraft_4 : decode b_DefectDrive_writeDraft 4 = .ok (.getfield 152, 3) := by decide +kernel
theorem d_DefectDrive_writeDraft_7 : decode b_DefectDrive_writeDraft 7 = .ok (.iconst 1, 1) := by decide +kernel
theorem d_DefectDrive_writeDraft_8 : decode b_DefectDrive_writeDraft 8 = .ok (.iand, 1) := by decide +kernel
theorem d_DefectDrive_writeDraft_9 : decode b_DefectDrive_writeDraft 9 = .ok (.iconst 1, 1) := by decide +kernel
theorem d_DefectDrive_writeDraft_10 : decode b_DefectDrive_writeDraft 10 = .ok (.if_icmp .ne 10, 3) := by decide +kernel
theorem d_DefectDrive_writeDraft_13 : decode b_DefectDrive_writeDraft 13 = .ok (.aload_n 0, 1) := by decide +kernel
theorem d_DefectDrive_writeDraft_14 : decode b_DefectDrive_writeDraft 14 = .ok (.getfield 37, 3) := by decide +kernel
theorem d_DefectDrive_writeDraft_17 : decode b_DefectDrive_writeDraft 17 = .ok (.goto 7, 3) := by decide +kernel
theorem d_DefectDrive_writeDraft_20 : decode b_DefectDrive_writeDraft 20 = .ok (.aload_n 0, 1) := by decide +kernel
theorem d_DefectDrive_writeDraft_21 : decode b_DefectDrive_writeDraft 21 = .ok (.getfield 40, 3) := by decide +kernel
theorem d_DefectDrive_writeDraft_24 : decode b_DefectDrive_writeDraft 24 = .ok (.astore_n 1, 1) := by decide +kernel
theorem d_DefectDrive_writeDraft_25 : decode b_DefectDrive_writeDraft 25 = .ok (.aload_n 0, 1) := by decide +kernel
theorem d_DefectDrive_writeDraft_26 : decode b_DefectDrive_writeDraft 26 = .ok (.getfield 12, 3) := by decide +kernel
theorem d_DefectDrive_writeDraft_29 : decode b_DefectDrive_writeDraft 29 = .ok (.invokevirtual 107, 3) := by decide +kernel
theorem d_DefectDrive_writeDraft_32 : decode b_DefectDrive_writeDraft 32 = .ok (.ifCond .ne 5, 3) := by decide +kernel
theorem d_DefectDrive_writeDraft_35 : decode b_DefectDrive_writeDraft 35 = .ok (.iconst 0, 1) := by decide +kernel
theorem d_DefectDrive_writeDraft_36 : decode b_DefectDrive_writeDraft 36 = .ok (.ireturn, 1) := by decide +kernel
theorem d_DefectDrive_writeDraft_37 : decode b_DefectDrive_writeDraft 37 = .ok (.aload_n 1, 1) := by decide +kernel
theorem d_DefectDrive_writeDraft_38 : decode b_DefectDrive_writeDraft 38 = .ok (.aload_n 0, 1) := by decide +kernel
theorem d_DefectDrive_writeDraft_39 : decode b_DefectDrive_writeDraft 39 = .ok (.getfield 43, 3) := by decide +kernel
theorem d_DefectDrive_writeDraft_42 : decode b_DefectDrive_writeDraft 42 = .ok (.invokevirtual 210, 3) := by decide +kernel
theorem d_DefectDrive_writeDraft_45 : decode b_DefectDrive_writeDraft 45 = .ok (.iconst 0, 1) := by decide +kernel
theorem d_DefectDrive_writeDraft_46 : decode b_DefectDrive_writeDraft 46 = .ok (.istore_n 2, 1) := by decide +kernel
theorem d_DefectDrive_writeDraft_47 : decode b_DefectDrive_writeDraft 47 = .ok (.iload_n 2, 1) := by decide +kernel
theorem d_DefectDrive_writeDraft_48 : decode b_DefectDrive_writeDraft 48 = .ok (.aload_n 0, 1) := by decide +kernel
theorem d_DefectDrive_writeDraft_49 : decode b_DefectDrive_writeDraft 49 = .ok (.getfield 43, 3) := by decide +kernel
theorem d_DefectDrive_writeDraft_52 : decode b_DefectDrive_writeDraft 52 = .ok (.invokevirtual 213, 3) := by decide +kernel
theorem d_DefectDrive_writeDraft_55 : decode b_DefectDrive_writeDraft 55 = .ok (.if_icmp .ge 30, 3) := by decide +kernel
theorem d_DefectDrive_writeDraft_58 : decode b_DefectDrive_writeDraft 58 = .ok (.aload_n 0, 1) := by decide +kernel
theorem d_DefectDrive_writeDraft_59 : decode b_DefectDrive_writeDraft 59 = .ok (.getfield 12, 3) := by decide +kernel
theorem d_DefectDrive_writeDraft_62 : decode b_DefectDrive_writeDraft 62 = .ok (.invokevirtual 107, 3) := by decide +kernel
theorem d_DefectDrive_writeDraft_65 : decode b_DefectDrive_writeDraft 65 = .ok (.ifCond .ne 5, 3) := by decide +kernel
theorem d_DefectDrive_writeDraft_68 : decode b_DefectDrive_writeDraft 68 = .ok (.iconst 0, 1) := by decide +kernel
theorem d_DefectDrive_writeDraft_69 : decode b_DefectDrive_writeDraft 69 = .ok (.ireturn, 1) := by decide +kernel
theorem d_DefectDrive_writeDraft_70 : decode b_DefectDrive_writeDraft 70 = .ok (.aload_n 1, 1) := by decide +kernel
theorem d_DefectDrive_writeDraft_71 : decode b_DefectDrive_writeDraft 71 = .ok (.aload_n 0, 1) := by decide +kernel
theorem d_DefectDrive_writeDraft_72 : decode b_DefectDrive_writeDraft 72 = .ok (.getfield 43, 3) := by decide +kernel
theorem d_DefectDrive_writeDraft_75 : decode b_DefectDrive_writeDraft 75 = .ok (.iload_n 2, 1) := by decide +kernel
theorem d_DefectDrive_writeDraft_76 : decode b_DefectDrive_writeDraft 76 = .ok (.invokevirtual 216, 3) := by decide +kernel
theorem d_DefectDrive_writeDraft_79 : decode b_DefectDrive_writeDraft 79 = .ok (.iinc 2 8, 3) := by decide +kernel
theorem d_DefectDrive_writeDraft_82 : decode b_DefectDrive_writeDraft 82 = .ok (.goto (-35), 3) := by decide +kernel
theorem d_DefectDrive_writeDraft_85 : decode b_DefectDrive_writeDraft 85 = .ok (.aload_n 0, 1) := by decide +kernel
theorem d_DefectDrive_writeDraft_86 : decode b_DefectDrive_writeDraft 86 = .ok (.getfield 12, 3) := by decide +kernel
theorem d_DefectDrive_writeDraft_89 : decode b_DefectDrive_writeDraft 89 = .ok (.invokevirtual 107, 3) := by decide +kernel
theorem d_DefectDrive_writeDraft_92 : decode b_DefectDrive_writeDraft 92 = .ok (.ifCond .ne 5, 3) := by decide +kernel
theorem d_DefectDrive_writeDraft_95 : decode b_DefectDrive_writeDraft 95 = .ok (.iconst 0, 1) := by decide +kernel
theorem d_DefectDrive_writeDraft_96 : decode b_DefectDrive_writeDraft 96 = .ok (.ireturn, 1) := by decide +kernel
theorem d_DefectDrive_writeDraft_97 : decode b_DefectDrive_writeDraft 97 = .ok (.aload_n 1, 1) := by decide +kernel
theorem d_DefectDrive_writeDraft_98 : decode b_DefectDrive_writeDraft 98 = .ok (.iconst 1, 1) := by decide +kernel
theorem d_DefectDrive_writeDraft_99 : decode b_DefectDrive_writeDraft 99 = .ok (.putfield 149, 3) := by decide +kernel
theorem d_DefectDrive_writeDraft_102 : decode b_DefectDrive_writeDraft 102 = .ok (.aload_n 0, 1) := by decide +kernel
theorem d_DefectDrive_writeDraft_103 : decode b_DefectDrive_writeDraft 103 = .ok (.aload_n 1, 1) := by decide +kernel
theorem d_DefectDrive_writeDraft_104 : decode b_DefectDrive_writeDraft 104 = .ok (.invokevirtual 155, 3) := by decide +kernel
theorem d_DefectDrive_writeDraft_107 : decode b_DefectDrive_writeDraft 107 = .ok (.iconst 1, 1) := by decide +kernel
theorem d_DefectDrive_writeDraft_108 : decode b_DefectDrive_writeDraft 108 = .ok (.ireturn, 1) := by decide +kernel
theorem d_Lists_begin_0 : decode b_Lists_begin 0 = .ok (.aload_n 0, 1) := by decide +kernel
theorem d_Lists_begin_1 : decode b_Lists_begin 1 = .ok (.iconst 0, 1) := by decide +kernel
theorem d_Lists_begin_2 : decode b_Lists_begin 2 = .ok (.putfield 42, 3) := by decide +kernel
theorem d_Lists_begin_5 : decode b_Lists_begin 5 = .ok (.aload_n 0, 1) := by decide +kernel
theorem d_Lists_begin_6 : decode b_Lists_begin 6 = .ok (.aload_n 1, 1) := by decide +kernel
theorem d_Lists_begin_7 : decode b_Lists_begin 7 = .ok (.getfield 33, 3) := by decide +kernel
theorem d_Lists_begin_10 : decode b_Lists_begin 10 = .ok (.putfield 33, 3) := by decide +kernel
theorem d_Lists_begin_13 : decode b_Lists_begin 13 = .ok (.aload_n 0, 1) := by decide +kernel
theorem d_Lists_begin_14 : decode b_Lists_begin 14 = .ok (.aload_n 1, 1) := by decide +kernel
theorem d_Lists_begin_15 : decode b_Lists_begin 15 = .ok (.getfield 18, 3) := by decide +kernel
theorem d_Lists_begin_18 : decode b_Lists_begin 18 = .ok (.putfield 18, 3) := by decide +kernel
theorem d_Lists_begin_21 : decode b_Lists_begin 21 = .ok (.aload_n 0, 1) := by decide +kernel
theorem d_Lists_begin_22 : decode b_Lists_begin 22 = .ok (.aload_n 1, 1) := by decide +kernel
theorem d_Lists_begin_23 : decode b_Lists_begin 23 = .ok (.getfield 22, 3) := by decide +kernel
theorem d_Lists_begin_26 : decode b_Lists_begin 26 = .ok (.putfield 22, 3) := by decide +kernel
theorem d_Lists_begin_29 : decode b_Lists_begin 29 = .ok (.return_, 1) := by decide +kernel
theorem d_Lists_takePart_0 : decode b_Lists_takePart 0 = .ok (.iload_n 2, 1) := by decide +kernel
theorem d_Lists_takePart_1 : decode b_Lists_takePart 1 = .ok (.bipush 8, 2) := by decide +kernel
theorem d_Lists_takePart_3 : decode b_Lists_takePart 3 = .ok (.iadd, 1) := by decide +kernel
theorem d_Lists_takePart_4 : decode b_Lists_takePart 4 = .ok (.aload_n 1, 1) := by decide +kernel
theorem d_Lists_takePart_5 : decode b_Lists_takePart 5 = .ok (.invokevirtual 29, 3) := by decide +kernel
theorem d_Lists_takePart_8 : decode b_Lists_takePart 8 = .ok (.invokestatic 46, 3) := by decide +kernel
theorem d_Lists_takePart_11 : decode b_Lists_takePart 11 = .ok (.istore_n 3, 1) := by decide +kernel
theorem d_Lists_takePart_12 : decode b_Lists_takePart 12 = .ok (.iload_n 2, 1) := by decide +kernel
theorem d_Lists_takePart_13 : decode b_Lists_takePart 13 = .ok (.istore 4, 2) := by decide +kernel
theorem d_Lists_takePart_15 : decode b_Lists_takePart 15 = .ok (.iload 4, 2) := by decide +kernel
theorem d_Lists_takePart_17 : decode b_Lists_takePart 17 = .ok (.iload_n 3, 1) := by decide +kernel
theorem d_Lists_takePart_18 : decode b_Lists_takePart 18 = .ok (.if_icmp .ge 37, 3) := by decide +kernel
theorem d_Lists_takePart_21 : decode b_Lists_takePart 21 = .ok (.aload_n 0, 1) := by decide +kernel
theorem d_Lists_takePart_22 : decode b_Lists_takePart 22 = .ok (.getfield 9, 3) := by decide +kernel
theorem d_Lists_takePart_25 : decode b_Lists_takePart 25 = .ok (.iload 4, 2) := by decide +kernel
theorem d_Lists_takePart_27 : decode b_Lists_takePart 27 = .ok (.aload_n 1, 1) := by decide +kernel
theorem d_Lists_takePart_28 : decode b_Lists_takePart 28 = .ok (.getfield 9, 3) := by decide +kernel
theorem d_Lists_takePart_31 : decode b_Lists_takePart 31 = .ok (.iload 4, 2) := by decide +kernel
theorem d_Lists_takePart_33 : decode b_Lists_takePart 33 = .ok (.iaload, 1) := by decide +kernel
theorem d_Lists_takePart_34 : decode b_Lists_takePart 34 = .ok (.iastore, 1) := by decide +kernel
theorem d_Lists_takePart_35 : decode b_Lists_takePart 35 = .ok (.aload_n 0, 1) := by decide +kernel
theorem d_Lists_takePart_36 : decode b_Lists_takePart 36 = .ok (.getfield 15, 3) := by decide +kernel
theorem d_Lists_takePart_39 : decode b_Lists_takePart 39 = .ok (.iload 4, 2) := by decide +kernel
theorem d_Lists_takePart_41 : decode b_Lists_takePart 41 = .ok (.aload_n 1, 1) := by decide +kernel
theorem d_Lists_takePart_42 : decode b_Lists_takePart 42 = .ok (.getfield 15, 3) := by decide +kernel
theorem d_Lists_takePart_45 : decode b_Lists_takePart 45 = .ok (.iload 4, 2) := by decide +kernel
theorem d_Lists_takePart_47 : decode b_Lists_takePart 47 = .ok (.iaload, 1) := by decide +kernel
theorem d_Lists_takePart_48 : decode b_Lists_takePart 48 = .ok (.iastore, 1) := by decide +kernel
theorem d_Lists_takePart_49 : decode b_Lists_takePart 49 = .ok (.iinc 4 1, 3) := by decide +kernel
theorem d_Lists_takePart_52 : decode b_Lists_takePart 52 = .ok (.goto (-37), 3) := by decide +kernel
theorem d_Lists_takePart_55 : decode b_Lists_takePart 55 = .ok (.return_, 1) := by decide +kernel
theorem d_DefectDrive_write_0 : decode b_DefectDrive_write 0 = .ok (.aload_n 0, 1) := by decide +kernel
theorem d_DefectDrive_write_1 : decode b_DefectDrive_write 1 = .ok (.getfield 26, 3) := by decide +kernel
theorem d_DefectDrive_write_4 : decode b_DefectDrive_write 4 = .ok (.iload_n 1, 1) := by decide +kernel
theorem d_DefectDrive_write_5 : decode b_DefectDrive_write 5 = .ok (.invokevirtual 94, 3) := by decide +kernel
theorem d_DefectDrive_write_8 : decode b_DefectDrive_write 8 = .ok (.ifCond .eq 10, 3) := by decide +kernel
theorem d_DefectDrive_write_11 : decode b_DefectDrive_write 11 = .ok (.iload_n 2, 1) := by decide +kernel
theorem d_DefectDrive_write_12 : decode b_DefectDrive_write 12 = .ok (.invokestatic 97, 3) := by decide +kernel
theorem d_DefectDrive_write_15 : decode b_DefectDrive_write 15 = .ok (.ifCond .ne 11, 3) := by decide +kernel
theorem d_DefectDrive_write_18 : decode b_DefectDrive_write 18 = .ok (.new 57, 3) := by decide +kernel
theorem d_DefectDrive_write_21 : decode b_DefectDrive_write 21 = .ok (.dup, 1) := by decide +kernel
theorem d_DefectDrive_write_22 : decode b_DefectDrive_write 22 = .ok (.invokespecial 59, 3) := by decide +kernel
theorem d_DefectDrive_write_25 : decode b_DefectDrive_write 25 = .ok (.athrow, 1) := by decide +kernel
theorem d_DefectDrive_write_26 : decode b_DefectDrive_write 26 = .ok (.aload_n 0, 1) := by decide +kernel
theorem d_DefectDrive_write_27 : decode b_DefectDrive_write 27 = .ok (.getfield 12, 3) := by decide +kernel
theorem d_DefectDrive_write_30 : decode b_DefectDrive_write 30 = .ok (.getfield 78, 3) := by decide +kernel
theorem d_DefectDrive_write_33 : decode b_DefectDrive_write 33 = .ok (.ifCond .eq 6, 3) := by decide +kernel
theorem d_DefectDrive_write_36 : decode b_DefectDrive_write 36 = .ok (.bipush (-5), 2) := by decide +kernel
theorem d_DefectDrive_write_38 : decode b_DefectDrive_write 38 = .ok (.ireturn, 1) := by decide +kernel
theorem d_DefectDrive_write_39 : decode b_DefectDrive_write 39 = .ok (.aload_n 0, 1) := by decide +kernel
theorem d_DefectDrive_write_40 : decode b_DefectDrive_write 40 = .ok (.getfield 26, 3) := by decide +kernel
theorem d_DefectDrive_write_43 : decode b_DefectDrive_write 43 = .ok (.getfield 100, 3) := by decide +kernel
theorem d_DefectDrive_write_46 : decode b_DefectDrive_write 46 = .ok (.iload_n 1, 1) := by decide +kernel
theorem d_DefectDrive_write_47 : decode b_DefectDrive_write 47 = .ok (.iaload, 1) := by decide +kernel
theorem d_DefectDrive_write_48 : decode b_DefectDrive_write 48 = .ok (.istore 4, 2) := by decide +kernel
theorem d_DefectDrive_write_50 : decode b_DefectDrive_write 50 = .ok (.aload_n 0, 1) := by decide +kernel
theorem d_DefectDrive_write_51 : decode b_DefectDrive_write 51 = .ok (.getfield 19, 3) := by decide +kernel
theorem d_DefectDrive_write_54 : decode b_DefectDrive_write 54 = .ok (.getfield 104, 3) := by decide +kernel
theorem d_DefectDrive_write_57 : decode b_DefectDrive_write 57 = .ok (.iload 4, 2) := by decide +kernel
theorem d_DefectDrive_write_59 : decode b_DefectDrive_write 59 = .ok (.iaload, 1) := by decide +kernel
theorem d_DefectDrive_write_60 : decode b_DefectDrive_write 60 = .ok (.ifCond .eq 5, 3) := by decide +kernel
theorem d_DefectDrive_write_63 : decode b_DefectDrive_write 63 = .ok (.iconst 1, 1) := by decide +kernel
theorem d_DefectDrive_write_64 : decode b_DefectDrive_write 64 = .ok (.ireturn, 1) := by decide +kernel
theorem d_DefectDrive_write_65 : decode b_DefectDrive_write 65 = .ok (.aload_n 0, 1) := by decide +kernel
theorem d_DefectDrive_write_66 : decode b_DefectDrive_write 66 = .ok (.getfield 12, 3) := by decide +kernel
theorem d_DefectDrive_write_69 : decode b_DefectDrive_write 69 = .ok (.invokevirtual 107, 3) := by decide +kernel
theorem d_DefectDrive_write_72 : decode b_DefectDrive_write 72 = .ok (.ifCond .ne 6, 3) := by decide +kernel
theorem d_DefectDrive_write_75 : decode b_DefectDrive_write 75 = .ok (.bipush (-5), 2) := by decide +kernel
theorem d_DefectDrive_write_77 : decode b_DefectDrive_write 77 = .ok (.ireturn, 1) := by decide +kernel
theorem d_DefectDrive_write_78 : decode b_DefectDrive_write 78 = .ok (.aload_n 0, 1) := by decide +kernel
theorem d_DefectDrive_write_79 : decode b_DefectDrive_write 79 = .ok (.getfield 19, 3) := by decide +kernel
theorem d_DefectDrive_write_82 : decode b_DefectDrive_write 82 = .ok (.iload 4, 2) := by decide +kernel
theorem d_DefectDrive_write_84 : decode b_DefectDrive_write 84 = .ok (.iload_n 2, 1) := by decide +kernel
theorem d_DefectDrive_write_85 : decode b_DefectDrive_write 85 = .ok (.iload_n 3, 1) := by decide +kernel
theorem d_DefectDrive_write_86 : decode b_DefectDrive_write 86 = .ok (.invokevirtual 110, 3) := by decide +kernel
theorem d_DefectDrive_write_89 : decode b_DefectDrive_write 89 = .ok (.iconst 0, 1) := by decide +kernel
theorem d_DefectDrive_write_90 : decode b_DefectDrive_write 90 = .ok (.ireturn, 1) := by decide +kernel
theorem d_SectorMap_holds_0 : decode b_SectorMap_holds 0 = .ok (.iload_n 1, 1) := by decide +kernel
theorem d_SectorMap_holds_1 : decode b_SectorMap_holds 1 = .ok (.ifCond .lt 15, 3) := by decide +kernel
theorem d_SectorMap_holds_4 : decode b_SectorMap_holds 4 = .ok (.iload_n 1, 1) := by decide +kernel
theorem d_SectorMap_holds_5 : decode b_SectorMap_holds 5 = .ok (.aload_n 0, 1) := by decide +kernel
theorem d_SectorMap_holds_6 : decode b_SectorMap_holds 6 = .ok (.getfield 31, 3) := by decide +kernel
theorem d_SectorMap_holds_9 : decode b_SectorMap_holds 9 = .ok (.if_icmp .ge 7, 3) := by decide +kernel
theorem d_SectorMap_holds_12 : decode b_SectorMap_holds 12 = .ok (.iconst 1, 1) := by decide +kernel
theorem d_SectorMap_holds_13 : decode b_SectorMap_holds 13 = .ok (.goto 4, 3) := by decide +kernel
theorem d_SectorMap_holds_16 : decode b_SectorMap_holds 16 = .ok (.iconst 0, 1) := by decide +kernel
theorem d_SectorMap_holds_17 : decode b_SectorMap_holds 17 = .ok (.ireturn, 1) := by decide +kernel
theorem d_DefectDrive_isWord_0 : decode b_DefectDrive_isWord 0 = .ok (.iload_n 0, 1) := by decide +kernel
theorem d_DefectDrive_isWord_1 : decode b_DefectDrive_isWord 1 = .ok (.ifCond .lt 12, 3) := by decide +kernel
theorem d_DefectDrive_isWord_4 : decode b_DefectDrive_isWord 4 = .ok (.iload_n 0, 1) := by decide +kernel
theorem d_DefectDrive_isWord_5 : decode b_DefectDrive_isWord 5 = .ok (.iconst 2, 1) := by decide +kernel
theorem d_DefectDrive_isWord_6 : decode b_DefectDrive_isWord 6 = .ok (.if_icmp .ge 7, 3) := by decide +kernel
theorem d_DefectDrive_isWord_9 : decode b_DefectDrive_isWord 9 = .ok (.iconst 1, 1) := by decide +kernel
theorem d_DefectDrive_isWord_10 : decode b_DefectDrive_isWord 10 = .ok (.goto 4, 3) := by decide +kernel
theorem d_DefectDrive_isWord_13 : decode b_DefectDrive_isWord 13 = .ok (.iconst 0, 1) := by decide +kernel
theorem d_DefectDrive_isWord_14 : decode b_DefectDrive_isWord 14 = .ok (.ireturn, 1) := by decide +kernel
theorem d_DefectDrive_read_0 : decode b_DefectDrive_read 0 = .ok (.aload_n 0, 1) := by decide +kernel
theorem d_DefectDrive_read_1 : decode b_DefectDrive_read 1 = .ok (.getfield 26, 3) := by decide +kernel
theorem d_DefectDrive_read_4 : decode b_DefectDrive_read 4 = .ok (.iload_n 1, 1) := by decide +kernel
theorem d_DefectDrive_read_5 : decode b_DefectDrive_read 5 = .ok (.invokevirtual 94, 3) := by decide +kernel
theorem d_DefectDrive_read_8 : decode b_DefectDrive_read 8 = .ok (.ifCond .eq 10, 3) := by decide +kernel
theorem d_DefectDrive_read_11 : decode b_DefectDrive_read 11 = .ok (.iload_n 2, 1) := by decide +kernel
theorem d_DefectDrive_read_12 : decode b_DefectDrive_read 12 = .ok (.invokestatic 97, 3) := by decide +kernel
theorem d_DefectDrive_read_15 : decode b_DefectDrive_read 15 = .ok (.ifCond .ne 11, 3) := by decide +kernel
theorem d_DefectDrive_read_18 : decode b_DefectDrive_read 18 = .ok (.new 57, 3) := by decide +kernel
theorem d_DefectDrive_read_21 : decode b_DefectDrive_read 21 = .ok (.dup, 1) := by decide +kernel
theorem d_DefectDrive_read_22 : decode b_DefectDrive_read 22 = .ok (.invokespecial 59, 3) := by decide +kernel
theorem d_DefectDrive_read_25 : decode b_DefectDrive_read 25 = .ok (.athrow, 1) := by decide +kernel
theorem d_DefectDrive_read_26 : decode b_DefectDrive_read 26 = .ok (.aload_n 0, 1) := by decide +kernel
theorem d_DefectDrive_read_27 : decode b_DefectDrive_read 27 = .ok (.getfield 12, 3) := by decide +kernel
theorem d_DefectDrive_read_30 : decode b_DefectDrive_read 30 = .ok (.getfield 78, 3) := by decide +kernel
theorem d_DefectDrive_read_33 : decode b_DefectDrive_read 33 = .ok (.ifCond .eq 11, 3) := by decide +kernel
theorem d_DefectDrive_read_36 : decode b_DefectDrive_read 36 = .ok (.new 114, 3) := by decide +kernel
theorem d_DefectDrive_read_39 : decode b_DefectDrive_read 39 = .ok (.dup, 1) := by decide +kernel
theorem d_DefectDrive_read_40 : decode b_DefectDrive_read 40 = .ok (.invokespecial 116, 3) := by decide +kernel
theorem d_DefectDrive_read_43 : decode b_DefectDrive_read 43 = .ok (.athrow, 1) := by decide +kernel
theorem d_DefectDrive_read_44 : decode b_DefectDrive_read 44 = .ok (.aload_n 0, 1) := by decide +kernel
theorem d_DefectDrive_read_45 : decode b_DefectDrive_read 45 = .ok (.getfield 26, 3) := by decide +kernel
theorem d_DefectDrive_read_48 : decode b_DefectDrive_read 48 = .ok (.getfield 100, 3) := by decide +kernel
theorem d_DefectDrive_read_51 : decode b_DefectDrive_read 51 = .ok (.iload_n 1, 1) := by decide +kernel
theorem d_DefectDrive_read_52 : decode b_DefectDrive_read 52 = .ok (.iaload, 1) := by decide +kernel
theorem d_DefectDrive_read_53 : decode b_DefectDrive_read 53 = .ok (.istore_n 3, 1) := by decide +kernel
theorem d_DefectDrive_read_54 : decode b_DefectDrive_read 54 = .ok (.aload_n 0, 1) := by decide +kernel
theorem d_DefectDrive_read_55 : decode b_DefectDrive_read 55 = .ok (.getfield 19, 3) := by decide +kernel
theorem d_DefectDrive_read_58 : decode b_DefectDrive_read 58 = .ok (.getfield 104, 3) := by decide +kernel
theorem d_DefectDrive_read_61 : decode b_DefectDrive_read 61 = .ok (.iload_n 3, 1) := by decide +kernel
theorem d_DefectDrive_read_62 : decode b_DefectDrive_read 62 = .ok (.iaload, 1) := by decide +kernel
theorem d_DefectDrive_read_63 : decode b_DefectDrive_read 63 = .ok (.iconst 2, 1) := by decide +kernel
theorem d_DefectDrive_read_64 : decode b_DefectDrive_read 64 = .ok (.if_icmp .ne 11, 3) := by decide +kernel
theorem d_DefectDrive_read_67 : decode b_DefectDrive_read 67 = .ok (.new 67, 3) := by decide +kernel
theorem d_DefectDrive_read_70 : decode b_DefectDrive_read 70 = .ok (.dup, 1) := by decide +kernel
theorem d_DefectDrive_read_71 : decode b_DefectDrive_read 71 = .ok (.invokespecial 69, 3) := by decide +kernel
theorem d_DefectDrive_read_74 : decode b_DefectDrive_read 74 = .ok (.athrow, 1) := by decide +kernel
theorem d_DefectDrive_read_75 : decode b_DefectDrive_read 75 = .ok (.aload_n 0, 1) := by decide +kernel
theorem d_DefectDrive_read_76 : decode b_DefectDrive_read 76 = .ok (.getfield 19, 3) := by decide +kernel
theorem d_DefectDrive_read_79 : decode b_DefectDrive_read 79 = .ok (.iload_n 3, 1) := by decide +kernel
theorem d_DefectDrive_read_80 : decode b_DefectDrive_read 80 = .ok (.iload_n 2, 1) := by decide +kernel
theorem d_DefectDrive_read_81 : decode b_DefectDrive_read 81 = .ok (.invokevirtual 117, 3) := by decide +kernel
theorem d_DefectDrive_read_84 : decode b_DefectDrive_read 84 = .ok (.ifCond .eq 11, 3) := by decide +kernel
theorem d_DefectDrive_read_87 : decode b_DefectDrive_read 87 = .ok (.new 121, 3) := by decide +kernel
theorem d_DefectDrive_read_90 : decode b_DefectDrive_read 90 = .ok (.dup, 1) := by decide +kernel
theorem d_DefectDrive_read_91 : decode b_DefectDrive_read 91 = .ok (.invokespecial 123, 3) := by decide +kernel
theorem d_DefectDrive_read_94 : decode b_DefectDrive_read 94 = .ok (.athrow, 1) := by decide +kernel
theorem d_DefectDrive_read_95 : decode b_DefectDrive_read 95 = .ok (.aload_n 0, 1) := by decide +kernel
theorem d_DefectDrive_read_96 : decode b_DefectDrive_read 96 = .ok (.getfield 19, 3) := by decide +kernel
theorem d_DefectDrive_read_99 : decode b_DefectDrive_read 99 = .ok (.iload_n 3, 1) := by decide +kernel
theorem d_DefectDrive_read_100 : decode b_DefectDrive_read 100 = .ok (.iload_n 2, 1) := by decide +kernel
theorem d_DefectDrive_read_101 : decode b_DefectDrive_read 101 = .ok (.invokevirtual 124, 3) := by decide +kernel
theorem d_DefectDrive_read_104 : decode b_DefectDrive_read 104 = .ok (.ireturn, 1) := by decide +kernel
theorem d_Surface_isLost_0 : decode b_Surface_isLost 0 = .ok (.aload_n 0, 1) := by decide +kernel
theorem d_Surface_isLost_1 : decode b_Surface_isLost 1 = .ok (.getfield 18, 3) := by decide +kernel
theorem d_Surface_isLost_4 : decode b_Surface_isLost 4 = .ok (.iload_n 1, 1) := by decide +kernel
theorem d_Surface_isLost_5 : decode b_Surface_isLost 5 = .ok (.iconst 2, 1) := by decide +kernel
theorem d_Surface_isLost_6 : decode b_Surface_isLost 6 = .ok (.imul, 1) := by decide +kernel
theorem d_Surface_isLost_7 : decode b_Surface_isLost 7 = .ok (.iload_n 2, 1) := by decide +kernel
theorem d_Surface_isLost_8 : decode b_Surface_isLost 8 = .ok (.iadd, 1) := by decide +kernel
theorem d_Surface_isLost_9 : decode b_Surface_isLost 9 = .ok (.baload, 1) := by decide +kernel
theorem d_Surface_isLost_10 : decode b_Surface_isLost 10 = .ok (.ireturn, 1) := by decide +kernel
theorem d_Surface_wordOf_0 : decode b_Surface_wordOf 0 = .ok (.aload_n 0, 1) := by decide +kernel
theorem d_Surface_wordOf_1 : decode b_Surface_wordOf 1 = .ok (.getfield 15, 3) := by decide +kernel
theorem d_Surface_wordOf_4 : decode b_Surface_wordOf 4 = .ok (.iload_n 1, 1) := by decide +kernel
theorem d_Surface_wordOf_5 : decode b_Surface_wordOf 5 = .ok (.iconst 2, 1) := by decide +kernel
theorem d_Surface_wordOf_6 : decode b_Surface_wordOf 6 = .ok (.imul, 1) := by decide +kernel
theorem d_Surface_wordOf_7 : decode b_Surface_wordOf 7 = .ok (.iload_n 2, 1) := by decide +kernel
theorem d_Surface_wordOf_8 : decode b_Surface_wordOf 8 = .ok (.iadd, 1) := by decide +kernel
theorem d_Surface_wordOf_9 : decode b_Surface_wordOf 9 = .ok (.iaload, 1) := by decide +kernel
theorem d_Surface_wordOf_10 : decode b_Surface_wordOf 10 = .ok (.ireturn, 1) := by decide +kernel
theorem d_DefectDrive_reassign_0 : decode b_DefectDrive_reassign 0 = .ok (.aload_n 0, 1) := by decide +kernel
theorem d_DefectDrive_reassign_1 : decode b_DefectDrive_reassign 1 = .ok (.getfield 26, 3) := by decide +kernel
theorem d_DefectDrive_reassign_4 : decode b_DefectDrive_reassign 4 = .ok (.iload_n 1, 1) := by decide +kernel
theorem d_DefectDrive_reassign_5 : decode b_DefectDrive_reassign 5 = .ok (.invokevirtual 94, 3) := by decide +kernel
theorem d_DefectDrive_reassign_8 : decode b_DefectDrive_reassign 8 = .ok (.ifCond .ne 11, 3) := by decide +kernel
theorem d_DefectDrive_reassign_11 : decode b_DefectDrive_reassign 11 = .ok (.new 57, 3) := by decide +kernel
theorem d_DefectDrive_reassign_14 : decode b_DefectDrive_reassign 14 = .ok (.dup, 1) := by decide +kernel
theorem d_DefectDrive_reassign_15 : decode b_DefectDrive_reassign 15 = .ok (.invokespecial 59, 3) := by decide +kernel
theorem d_DefectDrive_reassign_18 : decode b_DefectDrive_reassign 18 = .ok (.athrow, 1) := by decide +kernel
theorem d_DefectDrive_reassign_19 : decode b_DefectDrive_reassign 19 = .ok (.aload_n 0, 1) := by decide +kernel
theorem d_DefectDrive_reassign_20 : decode b_DefectDrive_reassign 20 = .ok (.getfield 12, 3) := by decide +kernel
theorem d_DefectDrive_reassign_23 : decode b_DefectDrive_reassign 23 = .ok (.getfield 78, 3) := by decide +kernel
theorem d_DefectDrive_reassign_26 : decode b_DefectDrive_reassign 26 = .ok (.ifCond .eq 6, 3) := by decide +kernel
theorem d_DefectDrive_reassign_29 : decode b_DefectDrive_reassign 29 = .ok (.bipush (-5), 2) := by decide +kernel
theorem d_DefectDrive_reassign_31 : decode b_DefectDrive_reassign 31 = .ok (.ireturn, 1) := by decide +kernel
theorem d_DefectDrive_reassign_32 : decode b_DefectDrive_reassign 32 = .ok (.aload_n 0, 1) := by decide +kernel
theorem d_DefectDrive_reassign_33 : decode b_DefectDrive_reassign 33 = .ok (.getfield 26, 3) := by decide +kernel
theorem d_DefectDrive_reassign_36 : decode b_DefectDrive_reassign 36 = .ok (.getfield 100, 3) := by decide +kernel
theorem d_DefectDrive_reassign_39 : decode b_DefectDrive_reassign 39 = .ok (.iload_n 1, 1) := by decide +kernel
theorem d_DefectDrive_reassign_40 : decode b_DefectDrive_reassign 40 = .ok (.iaload, 1) := by decide +kernel
theorem d_DefectDrive_reassign_41 : decode b_DefectDrive_reassign 41 = .ok (.istore_n 2, 1) := by decide +kernel
theorem d_DefectDrive_reassign_42 : decode b_DefectDrive_reassign 42 = .ok (.aload_n 0, 1) := by decide +kernel
theorem d_DefectDrive_reassign_43 : decode b_DefectDrive_reassign 43 = .ok (.getfield 19, 3) := by decide +kernel
theorem d_DefectDrive_reassign_46 : decode b_DefectDrive_reassign 46 = .ok (.getfield 104, 3) := by decide +kernel
theorem d_DefectDrive_reassign_49 : decode b_DefectDrive_reassign 49 = .ok (.iload_n 2, 1) := by decide +kernel
theorem d_DefectDrive_reassign_50 : decode b_DefectDrive_reassign 50 = .ok (.iaload, 1) := by decide +kernel
theorem d_DefectDrive_reassign_51 : decode b_DefectDrive_reassign 51 = .ok (.istore_n 3, 1) := by decide +kernel
theorem d_DefectDrive_reassign_52 : decode b_DefectDrive_reassign 52 = .ok (.iload_n 3, 1) := by decide +kernel
theorem d_DefectDrive_reassign_53 : decode b_DefectDrive_reassign 53 = .ok (.ifCond .ne 5, 3) := by decide +kernel
theorem d_DefectDrive_reassign_56 : decode b_DefectDrive_reassign 56 = .ok (.iconst 2, 1) := by decide +kernel
theorem d_DefectDrive_reassign_57 : decode b_DefectDrive_reassign 57 = .ok (.ireturn, 1) := by decide +kernel
theorem d_DefectDrive_reassign_58 : decode b_DefectDrive_reassign 58 = .ok (.aload_n 0, 1) := by decide +kernel
theorem d_DefectDrive_reassign_59 : decode b_DefectDrive_reassign 59 = .ok (.getfield 26, 3) := by decide +kernel
theorem d_DefectDrive_reassign_62 : decode b_DefectDrive_reassign 62 = .ok (.getfield 128, 3) := by decide +kernel
theorem d_DefectDrive_reassign_65 : decode b_DefectDrive_reassign 65 = .ok (.iload_n 1, 1) := by decide +kernel
theorem d_DefectDrive_reassign_66 : decode b_DefectDrive_reassign 66 = .ok (.iaload, 1) := by decide +kernel
theorem d_DefectDrive_reassign_67 : decode b_DefectDrive_reassign 67 = .ok (.istore 4, 2) := by decide +kernel
theorem d_DefectDrive_reassign_69 : decode b_DefectDrive_reassign 69 = .ok (.aload_n 0, 1) := by decide +kernel
theorem d_DefectDrive_reassign_70 : decode b_DefectDrive_reassign 70 = .ok (.iload_n 2, 1) := by decide +kernel
theorem d_DefectDrive_reassign_71 : decode b_DefectDrive_reassign 71 = .ok (.invokevirtual 131, 3) := by decide +kernel
theorem d_DefectDrive_reassign_74 : decode b_DefectDrive_reassign 74 = .ok (.istore 5, 2) := by decide +kernel
theorem d_DefectDrive_reassign_76 : decode b_DefectDrive_reassign 76 = .ok (.iload 5, 2) := by decide +kernel
theorem d_DefectDrive_reassign_78 : decode b_DefectDrive_reassign 78 = .ok (.iconst (-1), 1) := by decide +kernel
theorem d_DefectDrive_reassign_79 : decode b_DefectDrive_reassign 79 = .ok (.if_icmp .eq 15, 3) := by decide +kernel
theorem d_DefectDrive_reassign_82 : decode b_DefectDrive_reassign 82 = .ok (.aload_n 0, 1) := by decide +kernel
theorem d_DefectDrive_reassign_83 : decode b_DefectDrive_reassign 83 = .ok (.getfield 46, 3) := by decide +kernel
theorem d_DefectDrive_reassign_86 : decode b_DefectDrive_reassign 86 = .ok (.iload 4, 2) := by decide +kernel
theorem d_DefectDrive_reassign_88 : decode b_DefectDrive_reassign 88 = .ok (.invokevirtual 135, 3) := by decide +kernel
theorem d_DefectDrive_reassign_91 : decode b_DefectDrive_reassign 91 = .ok (.ifCond .ne 5, 3) := by decide +kernel
theorem d_DefectDrive_reassign_94 : decode b_DefectDrive_reassign 94 = .ok (.iconst 3, 1) := by decide +kernel
theorem d_DefectDrive_reassign_95 : decode b_DefectDrive_reassign 95 = .ok (.ireturn, 1) := by decide +kernel
theorem d_DefectDrive_reassign_96 : decode b_DefectDrive_reassign 96 = .ok (.aload_n 0, 1) := by decide +kernel
theorem d_DefectDrive_reassign_97 : decode b_DefectDrive_reassign 97 = .ok (.getfield 12, 3) := by decide +kernel
theorem d_DefectDrive_reassign_100 : decode b_DefectDrive_reassign 100 = .ok (.invokevirtual 107, 3) := by decide +kernel
theorem d_DefectDrive_reassign_103 : decode b_DefectDrive_reassign 103 = .ok (.ifCond .ne 6, 3) := by decide +kernel
theorem d_DefectDrive_reassign_106 : decode b_DefectDrive_reassign 106 = .ok (.bipush (-5), 2) := by decide +kernel
theorem d_DefectDrive_reassign_108 : decode b_DefectDrive_reassign 108 = .ok (.ireturn, 1) := by decide +kernel
theorem d_DefectDrive_reassign_109 : decode b_DefectDrive_reassign 109 = .ok (.aload_n 0, 1) := by decide +kernel
theorem d_DefectDrive_reassign_110 : decode b_DefectDrive_reassign 110 = .ok (.getfield 19, 3) := by decide +kernel
theorem d_DefectDrive_reassign_113 : decode b_DefectDrive_reassign 113 = .ok (.iload_n 2, 1) := by decide +kernel
theorem d_DefectDrive_reassign_114 : decode b_DefectDrive_reassign 114 = .ok (.iload 5, 2) := by decide +kernel
theorem d_DefectDrive_reassign_116 : decode b_DefectDrive_reassign 116 = .ok (.invokevirtual 138, 3) := by decide +kernel
theorem d_DefectDrive_reassign_119 : decode b_DefectDrive_reassign 119 = .ok (.aload_n 0, 1) := by decide +kernel
theorem d_DefectDrive_reassign_120 : decode b_DefectDrive_reassign 120 = .ok (.getfield 43, 3) := by decide +kernel
theorem d_DefectDrive_reassign_123 : decode b_DefectDrive_reassign 123 = .ok (.aload_n 0, 1) := by decide +kernel
theorem d_DefectDrive_reassign_124 : decode b_DefectDrive_reassign 124 = .ok (.getfield 46, 3) := by decide +kernel
theorem d_DefectDrive_reassign_127 : decode b_DefectDrive_reassign 127 = .ok (.iload 4, 2) := by decide +kernel
theorem d_DefectDrive_reassign_129 : decode b_DefectDrive_reassign 129 = .ok (.iload 5, 2) := by decide +kernel
theorem d_DefectDrive_reassign_131 : decode b_DefectDrive_reassign 131 = .ok (.invokevirtual 142, 3) := by decide +kernel
theorem d_DefectDrive_reassign_134 : decode b_DefectDrive_reassign 134 = .ok (.aload_n 0, 1) := by decide +kernel
theorem d_DefectDrive_reassign_135 : decode b_DefectDrive_reassign 135 = .ok (.invokevirtual 88, 3) := by decide +kernel
theorem d_DefectDrive_reassign_138 : decode b_DefectDrive_reassign 138 = .ok (.ifCond .ne 6, 3) := by decide +kernel
theorem d_DefectDrive_reassign_141 : decode b_DefectDrive_reassign 141 = .ok (.bipush (-5), 2) := by decide +kernel
theorem d_DefectDrive_reassign_143 : decode b_DefectDrive_reassign 143 = .ok (.ireturn, 1) := by decide +kernel
theorem d_DefectDrive_reassign_144 : decode b_DefectDrive_reassign 144 = .ok (.iload_n 3, 1) := by decide +kernel
theorem d_DefectDrive_reassign_145 : decode b_DefectDrive_reassign 145 = .ok (.iconst 2, 1) := by decide +kernel
theorem d_DefectDrive_reassign_146 : decode b_DefectDrive_reassign 146 = .ok (.if_icmp .ne 7, 3) := by decide +kernel
theorem d_DefectDrive_reassign_149 : decode b_DefectDrive_reassign 149 = .ok (.iconst 1, 1) := by decide +kernel
theorem d_DefectDrive_reassign_150 : decode b_DefectDrive_reassign 150 = .ok (.goto 4, 3) := by decide +kernel
theorem d_DefectDrive_reassign_153 : decode b_DefectDrive_reassign 153 = .ok (.iconst 0, 1) := by decide +kernel
theorem d_DefectDrive_reassign_154 : decode b_DefectDrive_reassign 154 = .ok (.ireturn, 1) := by decide +kernel
theorem d_DefectDrive_nearestFreeSpare_0 : decode b_DefectDrive_nearestFreeSpare 0 = .ok (.iconst (-1), 1) := by decide +kernel
theorem d_DefectDrive_nearestFreeSpare_1 : decode b_DefectDrive_nearestFreeSpare 1 = .ok (.istore_n 2, 1) := by decide +kernel
theorem d_DefectDrive_nearestFreeSpare_2 : decode b_DefectDrive_nearestFreeSpare 2 = .ok (.bipush 12, 2) := by decide +kernel
theorem d_DefectDrive_nearestFreeSpare_4 : decode b_DefectDrive_nearestFreeSpare 4 = .ok (.istore_n 3, 1) := by decide +kernel
theorem d_DefectDrive_nearestFreeSpare_5 : decode b_DefectDrive_nearestFreeSpare 5 = .ok (.bipush 16, 2) := by decide +kernel
theorem d_DefectDrive_nearestFreeSpare_7 : decode b_DefectDrive_nearestFreeSpare 7 = .ok (.istore 4, 2) := by decide +kernel
theorem d_DefectDrive_nearestFreeSpare_9 : decode b_DefectDrive_nearestFreeSpare 9 = .ok (.iload 4, 2) := by decide +kernel
theorem d_DefectDrive_nearestFreeSpare_11 : decode b_DefectDrive_nearestFreeSpare 11 = .ok (.sipush 192, 3) := by decide +kernel
theorem d_DefectDrive_nearestFreeSpare_14 : decode b_DefectDrive_nearestFreeSpare 14 = .ok (.if_icmp .ge 45, 3) := by decide +kernel
theorem d_DefectDrive_nearestFreeSpare_17 : decode b_DefectDrive_nearestFreeSpare 17 = .ok (.iload 4, 2) := by decide +kernel
theorem d_DefectDrive_nearestFreeSpare_19 : decode b_DefectDrive_nearestFreeSpare 19 = .ok (.invokestatic 177, 3) := by decide +kernel
theorem d_DefectDrive_nearestFreeSpare_22 : decode b_DefectDrive_nearestFreeSpare 22 = .ok (.iload_n 1, 1) := by decide +kernel
theorem d_DefectDrive_nearestFreeSpare_23 : decode b_DefectDrive_nearestFreeSpare 23 = .ok (.invokestatic 177, 3) := by decide +kernel
theorem d_DefectDrive_nearestFreeSpare_26 : decode b_DefectDrive_nearestFreeSpare 26 = .ok (.isub, 1) := by decide +kernel
theorem d_DefectDrive_nearestFreeSpare_27 : decode b_DefectDrive_nearestFreeSpare 27 = .ok (.invokestatic 205, 3) := by decide +kernel
theorem d_DefectDrive_nearestFreeSpare_30 : decode b_DefectDrive_nearestFreeSpare 30 = .ok (.istore 5, 2) := by decide +kernel
theorem d_DefectDrive_nearestFreeSpare_32 : decode b_DefectDrive_nearestFreeSpare 32 = .ok (.iload 5, 2) := by decide +kernel
theorem d_DefectDrive_nearestFreeSpare_34 : decode b_DefectDrive_nearestFreeSpare 34 = .ok (.iload_n 3, 1) := by decide +kernel
theorem d_DefectDrive_nearestFreeSpare_35 : decode b_DefectDrive_nearestFreeSpare 35 = .ok (.if_icmp .ge 18, 3) := by decide +kernel
theorem d_DefectDrive_nearestFreeSpare_38 : decode b_DefectDrive_nearestFreeSpare 38 = .ok (.aload_n 0, 1) := by decide +kernel
theorem d_DefectDrive_nearestFreeSpare_39 : decode b_DefectDrive_nearestFreeSpare 39 = .ok (.iload 4, 2) := by decide +kernel
theorem d_DefectDrive_nearestFreeSpare_41 : decode b_DefectDrive_nearestFreeSpare 41 = .ok (.invokevirtual 162, 3) := by decide +kernel
theorem d_DefectDrive_nearestFreeSpare_44 : decode b_DefectDrive_nearestFreeSpare 44 = .ok (.ifCond .eq 9, 3) := by decide +kernel
theorem d_DefectDrive_nearestFreeSpare_47 : decode b_DefectDrive_nearestFreeSpare 47 = .ok (.iload 4, 2) := by decide +kernel
theorem d_DefectDrive_nearestFreeSpare_49 : decode b_DefectDrive_nearestFreeSpare 49 = .ok (.istore_n 2, 1) := by decide +kernel
theorem d_DefectDrive_nearestFreeSpare_50 : decode b_DefectDrive_nearestFreeSpare 50 = .ok (.iload 5, 2) := by decide +kernel
theorem d_DefectDrive_nearestFreeSpare_52 : decode b_DefectDrive_nearestFreeSpare 52 = .ok (.istore_n 3, 1) := by decide +kernel
theorem d_DefectDrive_nearestFreeSpare_53 : decode b_DefectDrive_nearestFreeSpare 53 = .ok (.iinc 4 1, 3) := by decide +kernel
theorem d_DefectDrive_nearestFreeSpare_56 : decode b_DefectDrive_nearestFreeSpare 56 = .ok (.goto (-47), 3) := by decide +kernel
theorem d_DefectDrive_nearestFreeSpare_59 : decode b_DefectDrive_nearestFreeSpare 59 = .ok (.iload_n 2, 1) := by decide +kernel
theorem d_DefectDrive_nearestFreeSpare_60 : decode b_DefectDrive_nearestFreeSpare 60 = .ok (.ireturn, 1) := by decide +kernel
theorem d_DefectDrive_cylinderOf_0 : decode b_DefectDrive_cylinderOf 0 = .ok (.iload_n 0, 1) := by decide +kernel
theorem d_DefectDrive_cylinderOf_1 : decode b_DefectDrive_cylinderOf 1 = .ok (.bipush 16, 2) := by decide +kernel
theorem d_DefectDrive_cylinderOf_3 : decode b_DefectDrive_cylinderOf 3 = .ok (.idiv, 1) := by decide +kernel
theorem d_DefectDrive_cylinderOf_4 : decode b_DefectDrive_cylinderOf 4 = .ok (.ireturn, 1) := by decide +kernel
theorem d_DefectDrive_isFreeSpare_0 : decode b_DefectDrive_isFreeSpare 0 = .ok (.iload_n 1, 1) := by decide +kernel
theorem d_DefectDrive_isFreeSpare_1 : decode b_DefectDrive_isFreeSpare 1 = .ok (.invokestatic 199, 3) := by decide +kernel
theorem d_DefectDrive_isFreeSpare_4 : decode b_DefectDrive_isFreeSpare 4 = .ok (.ifCond .eq 44, 3) := by decide +kernel
theorem d_DefectDrive_isFreeSpare_7 : decode b_DefectDrive_isFreeSpare 7 = .ok (.aload_n 0, 1) := by decide +kernel
theorem d_DefectDrive_isFreeSpare_8 : decode b_DefectDrive_isFreeSpare 8 = .ok (.getfield 19, 3) := by decide +kernel
theorem d_DefectDrive_isFreeSpare_11 : decode b_DefectDrive_isFreeSpare 11 = .ok (.getfield 104, 3) := by decide +kernel
theorem d_DefectDrive_isFreeSpare_14 : decode b_DefectDrive_isFreeSpare 14 = .ok (.iload_n 1, 1) := by decide +kernel
theorem d_DefectDrive_isFreeSpare_15 : decode b_DefectDrive_isFreeSpare 15 = .ok (.iaload, 1) := by decide +kernel
theorem d_DefectDrive_isFreeSpare_16 : decode b_DefectDrive_isFreeSpare 16 = .ok (.ifCond .ne 32, 3) := by decide +kernel
theorem d_DefectDrive_isFreeSpare_19 : decode b_DefectDrive_isFreeSpare 19 = .ok (.aload_n 0, 1) := by decide +kernel
theorem d_DefectDrive_isFreeSpare_20 : decode b_DefectDrive_isFreeSpare 20 = .ok (.getfield 26, 3) := by decide +kernel
theorem d_DefectDrive_isFreeSpare_23 : decode b_DefectDrive_isFreeSpare 23 = .ok (.getfield 202, 3) := by decide +kernel
theorem d_DefectDrive_isFreeSpare_26 : decode b_DefectDrive_isFreeSpare 26 = .ok (.iload_n 1, 1) := by decide +kernel
theorem d_DefectDrive_isFreeSpare_27 : decode b_DefectDrive_isFreeSpare 27 = .ok (.baload, 1) := by decide +kernel
theorem d_DefectDrive_isFreeSpare_28 : decode b_DefectDrive_isFreeSpare 28 = .ok (.ifCond .ne 20, 3) := by decide +kernel
theorem d_DefectDrive_isFreeSpare_31 : decode b_DefectDrive_isFreeSpare 31 = .ok (.aload_n 0, 1) := by decide +kernel
theorem d_DefectDrive_isFreeSpare_32 : decode b_DefectDrive_isFreeSpare 32 = .ok (.getfield 26, 3) := by decide +kernel
theorem d_DefectDrive_isFreeSpare_35 : decode b_DefectDrive_isFreeSpare 35 = .ok (.getfield 159, 3) := by decide +kernel
theorem d_DefectDrive_isFreeSpare_38 : decode b_DefectDrive_isFreeSpare 38 = .ok (.iload_n 1, 1) := by decide +kernel
theorem d_DefectDrive_isFreeSpare_39 : decode b_DefectDrive_isFreeSpare 39 = .ok (.iaload, 1) := by decide +kernel
theorem d_DefectDrive_isFreeSpare_40 : decode b_DefectDrive_isFreeSpare 40 = .ok (.iconst (-1), 1) := by decide +kernel
theorem d_DefectDrive_isFreeSpare_41 : decode b_DefectDrive_isFreeSpare 41 = .ok (.if_icmp .ne 7, 3) := by decide +kernel
theorem d_DefectDrive_isFreeSpare_44 : decode b_DefectDrive_isFreeSpare 44 = .ok (.iconst 1, 1) := by decide +kernel
theorem d_DefectDrive_isFreeSpare_45 : decode b_DefectDrive_isFreeSpare 45 = .ok (.goto 4, 3) := by decide +kernel
theorem d_DefectDrive_isFreeSpare_48 : decode b_DefectDrive_isFreeSpare 48 = .ok (.iconst 0, 1) := by decide +kernel
theorem d_DefectDrive_isFreeSpare_49 : decode b_DefectDrive_isFreeSpare 49 = .ok (.ireturn, 1) := by decide +kernel
theorem d_Lists_hasRoomForPairOf_0 : decode b_Lists_hasRoomForPairOf 0 = .ok (.aload_n 0, 1) := by decide +kernel
theorem d_Lists_hasRoomForPairOf_1 : decode b_Lists_hasRoomForPairOf 1 = .ok (.iload_n 1, 1) := by decide +kernel
theorem d_Lists_hasRoomForPairOf_2 : decode b_Lists_hasRoomForPairOf 2 = .ok (.invokevirtual 25, 3) := by decide +kernel
theorem d_Lists_hasRoomForPairOf_5 : decode b_Lists_hasRoomForPairOf 5 = .ok (.iconst (-1), 1) := by decide +kernel
theorem d_Lists_hasRoomForPairOf_6 : decode b_Lists_hasRoomForPairOf 6 = .ok (.if_icmp .ne 21, 3) := by decide +kernel
theorem d_Lists_hasRoomForPairOf_9 : decode b_Lists_hasRoomForPairOf 9 = .ok (.aload_n 0, 1) := by decide +kernel
theorem d_Lists_hasRoomForPairOf_10 : decode b_Lists_hasRoomForPairOf 10 = .ok (.getfield 22, 3) := by decide +kernel
theorem d_Lists_hasRoomForPairOf_13 : decode b_Lists_hasRoomForPairOf 13 = .ok (.bipush 20, 2) := by decide +kernel
theorem d_Lists_hasRoomForPairOf_15 : decode b_Lists_hasRoomForPairOf 15 = .ok (.if_icmp .ge 16, 3) := by decide +kernel
theorem d_Lists_hasRoomForPairOf_18 : decode b_Lists_hasRoomForPairOf 18 = .ok (.aload_n 0, 1) := by decide +kernel
theorem d_Lists_hasRoomForPairOf_19 : decode b_Lists_hasRoomForPairOf 19 = .ok (.invokevirtual 29, 3) := by decide +kernel
theorem d_Lists_hasRoomForPairOf_22 : decode b_Lists_hasRoomForPairOf 22 = .ok (.bipush 48, 2) := by decide +kernel
theorem d_Lists_hasRoomForPairOf_24 : decode b_Lists_hasRoomForPairOf 24 = .ok (.if_icmp .ge 7, 3) := by decide +kernel
theorem d_Lists_hasRoomForPairOf_27 : decode b_Lists_hasRoomForPairOf 27 = .ok (.iconst 1, 1) := by decide +kernel
theorem d_Lists_hasRoomForPairOf_28 : decode b_Lists_hasRoomForPairOf 28 = .ok (.goto 4, 3) := by decide +kernel
theorem d_Lists_hasRoomForPairOf_31 : decode b_Lists_hasRoomForPairOf 31 = .ok (.iconst 0, 1) := by decide +kernel
theorem d_Lists_hasRoomForPairOf_32 : decode b_Lists_hasRoomForPairOf 32 = .ok (.ireturn, 1) := by decide +kernel
theorem d_Surface_move_0 : decode b_Surface_move 0 = .ok (.iconst 0, 1) := by decide +kernel
theorem d_Surface_move_1 : decode b_Surface_move 1 = .ok (.istore_n 3, 1) := by decide +kernel
theorem d_Surface_move_2 : decode b_Surface_move 2 = .ok (.iload_n 3, 1) := by decide +kernel
theorem d_Surface_move_3 : decode b_Surface_move 3 = .ok (.iconst 2, 1) := by decide +kernel
theorem d_Surface_move_4 : decode b_Surface_move 4 = .ok (.if_icmp .ge 67, 3) := by decide +kernel
theorem d_Surface_move_7 : decode b_Surface_move 7 = .ok (.aload_n 0, 1) := by decide +kernel
theorem d_Surface_move_8 : decode b_Surface_move 8 = .ok (.getfield 15, 3) := by decide +kernel
theorem d_Surface_move_11 : decode b_Surface_move 11 = .ok (.iload_n 2, 1) := by decide +kernel
theorem d_Surface_move_12 : decode b_Surface_move 12 = .ok (.iconst 2, 1) := by decide +kernel
theorem d_Surface_move_13 : decode b_Surface_move 13 = .ok (.imul, 1) := by decide +kernel
theorem d_Surface_move_14 : decode b_Surface_move 14 = .ok (.iload_n 3, 1) := by decide +kernel
theorem d_Surface_move_15 : decode b_Surface_move 15 = .ok (.iadd, 1) := by decide +kernel
theorem d_Surface_move_16 : decode b_Surface_move 16 = .ok (.aload_n 0, 1) := by decide +kernel
theorem d_Surface_move_17 : decode b_Surface_move 17 = .ok (.getfield 15, 3) := by decide +kernel
theorem d_Surface_move_20 : decode b_Surface_move 20 = .ok (.iload_n 1, 1) := by decide +kernel
theorem d_Surface_move_21 : decode b_Surface_move 21 = .ok (.iconst 2, 1) := by decide +kernel
theorem d_Surface_move_22 : decode b_Surface_move 22 = .ok (.imul, 1) := by decide +kernel
theorem d_Surface_move_23 : decode b_Surface_move 23 = .ok (.iload_n 3, 1) := by decide +kernel
theorem d_Surface_move_24 : decode b_Surface_move 24 = .ok (.iadd, 1) := by decide +kernel
theorem d_Surface_move_25 : decode b_Surface_move 25 = .ok (.iaload, 1) := by decide +kernel
theorem d_Surface_move_26 : decode b_Surface_move 26 = .ok (.iastore, 1) := by decide +kernel
theorem d_Surface_move_27 : decode b_Surface_move 27 = .ok (.aload_n 0, 1) := by decide +kernel
theorem d_Surface_move_28 : decode b_Surface_move 28 = .ok (.getfield 18, 3) := by decide +kernel
theorem d_Surface_move_31 : decode b_Surface_move 31 = .ok (.iload_n 2, 1) := by decide +kernel
theorem d_Surface_move_32 : decode b_Surface_move 32 = .ok (.iconst 2, 1) := by decide +kernel
theorem d_Surface_move_33 : decode b_Surface_move 33 = .ok (.imul, 1) := by decide +kernel
theorem d_Surface_move_34 : decode b_Surface_move 34 = .ok (.iload_n 3, 1) := by decide +kernel
theorem d_Surface_move_35 : decode b_Surface_move 35 = .ok (.iadd, 1) := by decide +kernel
theorem d_Surface_move_36 : decode b_Surface_move 36 = .ok (.aload_n 0, 1) := by decide +kernel
theorem d_Surface_move_37 : decode b_Surface_move 37 = .ok (.getfield 9, 3) := by decide +kernel
theorem d_Surface_move_40 : decode b_Surface_move 40 = .ok (.iload_n 1, 1) := by decide +kernel
theorem d_Surface_move_41 : decode b_Surface_move 41 = .ok (.iaload, 1) := by decide +kernel
theorem d_Surface_move_42 : decode b_Surface_move 42 = .ok (.iconst 2, 1) := by decide +kernel
theorem d_Surface_move_43 : decode b_Surface_move 43 = .ok (.if_icmp .eq 16, 3) := by decide +kernel
theorem d_Surface_move_46 : decode b_Surface_move 46 = .ok (.aload_n 0, 1) := by decide +kernel
theorem d_Surface_move_47 : decode b_Surface_move 47 = .ok (.getfield 18, 3) := by decide +kernel
theorem d_Surface_move_50 : decode b_Surface_move 50 = .ok (.iload_n 1, 1) := by decide +kernel
theorem d_Surface_move_51 : decode b_Surface_move 51 = .ok (.iconst 2, 1) := by decide +kernel
theorem d_Surface_move_52 : decode b_Surface_move 52 = .ok (.imul, 1) := by decide +kernel
theorem d_Surface_move_53 : decode b_Surface_move 53 = .ok (.iload_n 3, 1) := by decide +kernel
theorem d_Surface_move_54 : decode b_Surface_move 54 = .ok (.iadd, 1) := by decide +kernel
theorem d_Surface_move_55 : decode b_Surface_move 55 = .ok (.baload, 1) := by decide +kernel
theorem d_Surface_move_56 : decode b_Surface_move 56 = .ok (.ifCond .eq 7, 3) := by decide +kernel
theorem d_Surface_move_59 : decode b_Surface_move 59 = .ok (.iconst 1, 1) := by decide +kernel
theorem d_Surface_move_60 : decode b_Surface_move 60 = .ok (.goto 4, 3) := by decide +kernel
theorem d_Surface_move_63 : decode b_Surface_move 63 = .ok (.iconst 0, 1) := by decide +kernel
theorem d_Surface_move_64 : decode b_Surface_move 64 = .ok (.bastore, 1) := by decide +kernel
theorem d_Surface_move_65 : decode b_Surface_move 65 = .ok (.iinc 3 1, 3) := by decide +kernel
theorem d_Surface_move_68 : decode b_Surface_move 68 = .ok (.goto (-66), 3) := by decide +kernel
theorem d_Surface_move_71 : decode b_Surface_move 71 = .ok (.return_, 1) := by decide +kernel
theorem d_Lists_becomeWithPair_0 : decode b_Lists_becomeWithPair 0 = .ok (.aload_n 0, 1) := by decide +kernel
theorem d_Lists_becomeWithPair_1 : decode b_Lists_becomeWithPair 1 = .ok (.aload_n 1, 1) := by decide +kernel
theorem d_Lists_becomeWithPair_2 : decode b_Lists_becomeWithPair 2 = .ok (.getfield 33, 3) := by decide +kernel
theorem d_Lists_becomeWithPair_5 : decode b_Lists_becomeWithPair 5 = .ok (.iconst 1, 1) := by decide +kernel
theorem d_Lists_becomeWithPair_6 : decode b_Lists_becomeWithPair 6 = .ok (.iadd, 1) := by decide +kernel
theorem d_Lists_becomeWithPair_7 : decode b_Lists_becomeWithPair 7 = .ok (.putfield 33, 3) := by decide +kernel
theorem d_Lists_becomeWithPair_10 : decode b_Lists_becomeWithPair 10 = .ok (.aload_n 0, 1) := by decide +kernel
theorem d_Lists_becomeWithPair_11 : decode b_Lists_becomeWithPair 11 = .ok (.aload_n 1, 1) := by decide +kernel
theorem d_Lists_becomeWithPair_12 : decode b_Lists_becomeWithPair 12 = .ok (.getfield 18, 3) := by decide +kernel
theorem d_Lists_becomeWithPair_15 : decode b_Lists_becomeWithPair 15 = .ok (.putfield 18, 3) := by decide +kernel
theorem d_Lists_becomeWithPair_18 : decode b_Lists_becomeWithPair 18 = .ok (.aload_n 0, 1) := by decide +kernel
theorem d_Lists_becomeWithPair_19 : decode b_Lists_becomeWithPair 19 = .ok (.aload_n 1, 1) := by decide +kernel
theorem d_Lists_becomeWithPair_20 : decode b_Lists_becomeWithPair 20 = .ok (.getfield 22, 3) := by decide +kernel
theorem d_Lists_becomeWithPair_23 : decode b_Lists_becomeWithPair 23 = .ok (.putfield 22, 3) := by decide +kernel
theorem d_Lists_becomeWithPair_26 : decode b_Lists_becomeWithPair 26 = .ok (.aload_n 1, 1) := by decide +kernel
theorem d_Lists_becomeWithPair_27 : decode b_Lists_becomeWithPair 27 = .ok (.getfield 9, 3) := by decide +kernel
theorem d_Lists_becomeWithPair_30 : decode b_Lists_becomeWithPair 30 = .ok (.iconst 0, 1) := by decide +kernel
theorem d_Lists_becomeWithPair_31 : decode b_Lists_becomeWithPair 31 = .ok (.aload_n 0, 1) := by decide +kernel
theorem d_Lists_becomeWithPair_32 : decode b_Lists_becomeWithPair 32 = .ok (.getfield 9, 3) := by decide +kernel
theorem d_Lists_becomeWithPair_35 : decode b_Lists_becomeWithPair 35 = .ok (.iconst 0, 1) := by decide +kernel
theorem d_Lists_becomeWithPair_36 : decode b_Lists_becomeWithPair 36 = .ok (.bipush 48, 2) := by decide +kernel
theorem d_Lists_becomeWithPair_38 : decode b_Lists_becomeWithPair 38 = .ok (.invokestatic 36, 3) := by decide +kernel
theorem d_Lists_becomeWithPair_41 : decode b_Lists_becomeWithPair 41 = .ok (.aload_n 1, 1) := by decide +kernel
theorem d_Lists_becomeWithPair_42 : decode b_Lists_becomeWithPair 42 = .ok (.getfield 15, 3) := by decide +kernel
theorem d_Lists_becomeWithPair_45 : decode b_Lists_becomeWithPair 45 = .ok (.iconst 0, 1) := by decide +kernel
theorem d_Lists_becomeWithPair_46 : decode b_Lists_becomeWithPair 46 = .ok (.aload_n 0, 1) := by decide +kernel
theorem d_Lists_becomeWithPair_47 : decode b_Lists_becomeWithPair 47 = .ok (.getfield 15, 3) := by decide +kernel
theorem d_Lists_becomeWithPair_50 : decode b_Lists_becomeWithPair 50 = .ok (.iconst 0, 1) := by decide +kernel
theorem d_Lists_becomeWithPair_51 : decode b_Lists_becomeWithPair 51 = .ok (.bipush 48, 2) := by decide +kernel
theorem d_Lists_becomeWithPair_53 : decode b_Lists_becomeWithPair 53 = .ok (.invokestatic 36, 3) := by decide +kernel
theorem d_Lists_becomeWithPair_56 : decode b_Lists_becomeWithPair 56 = .ok (.aload_n 0, 1) := by decide +kernel
theorem d_Lists_becomeWithPair_57 : decode b_Lists_becomeWithPair 57 = .ok (.iload_n 2, 1) := by decide +kernel
theorem d_Lists_becomeWithPair_58 : decode b_Lists_becomeWithPair 58 = .ok (.invokevirtual 25, 3) := by decide +kernel
theorem d_Lists_becomeWithPair_61 : decode b_Lists_becomeWithPair 61 = .ok (.istore 4, 2) := by decide +kernel
theorem d_Lists_becomeWithPair_63 : decode b_Lists_becomeWithPair 63 = .ok (.iload 4, 2) := by decide +kernel
theorem d_Lists_becomeWithPair_65 : decode b_Lists_becomeWithPair 65 = .ok (.iconst (-1), 1) := by decide +kernel
theorem d_Lists_becomeWithPair_66 : decode b_Lists_becomeWithPair 66 = .ok (.if_icmp .eq 19, 3) := by decide +kernel
theorem d_Lists_becomeWithPair_69 : decode b_Lists_becomeWithPair 69 = .ok (.aload_n 0, 1) := by decide +kernel
theorem d_Lists_becomeWithPair_70 : decode b_Lists_becomeWithPair 70 = .ok (.getfield 15, 3) := by decide +kernel
theorem d_Lists_becomeWithPair_73 : decode b_Lists_becomeWithPair 73 = .ok (.aload_n 0, 1) := by decide +kernel
theorem d_Lists_becomeWithPair_74 : decode b_Lists_becomeWithPair 74 = .ok (.getfield 18, 3) := by decide +kernel
theorem d_Lists_becomeWithPair_77 : decode b_Lists_becomeWithPair 77 = .ok (.iload 4, 2) := by decide +kernel
theorem d_Lists_becomeWithPair_79 : decode b_Lists_becomeWithPair 79 = .ok (.iadd, 1) := by decide +kernel
theorem d_Lists_becomeWithPair_80 : decode b_Lists_becomeWithPair 80 = .ok (.iload_n 3, 1) := by decide +kernel
theorem d_Lists_becomeWithPair_81 : decode b_Lists_becomeWithPair 81 = .ok (.iastore, 1) := by decide +kernel
theorem d_Lists_becomeWithPair_82 : decode b_Lists_becomeWithPair 82 = .ok (.goto 42, 3) := by decide +kernel
theorem d_Lists_becomeWithPair_85 : decode b_Lists_becomeWithPair 85 = .ok (.aload_n 0, 1) := by decide +kernel
theorem d_Lists_becomeWithPair_86 : decode b_Lists_becomeWithPair 86 = .ok (.invokevirtual 29, 3) := by decide +kernel
theorem d_Lists_becomeWithPair_89 : decode b_Lists_becomeWithPair 89 = .ok (.bipush 48, 2) := by decide +kernel
theorem d_Lists_becomeWithPair_91 : decode b_Lists_becomeWithPair 91 = .ok (.if_icmp .ge 33, 3) := by decide +kernel
theorem d_Lists_becomeWithPair_94 : decode b_Lists_becomeWithPair 94 = .ok (.aload_n 0, 1) := by decide +kernel
theorem d_Lists_becomeWithPair_95 : decode b_Lists_becomeWithPair 95 = .ok (.getfield 9, 3) := by decide +kernel
theorem d_Lists_becomeWithPair_98 : decode b_Lists_becomeWithPair 98 = .ok (.aload_n 0, 1) := by decide +kernel
theorem d_Lists_becomeWithPair_99 : decode b_Lists_becomeWithPair 99 = .ok (.invokevirtual 29, 3) := by decide +kernel
theorem d_Lists_becomeWithPair_102 : decode b_Lists_becomeWithPair 102 = .ok (.iload_n 2, 1) := by decide +kernel
theorem d_Lists_becomeWithPair_103 : decode b_Lists_becomeWithPair 103 = .ok (.iastore, 1) := by decide +kernel
theorem d_Lists_becomeWithPair_104 : decode b_Lists_becomeWithPair 104 = .ok (.aload_n 0, 1) := by decide +kernel
theorem d_Lists_becomeWithPair_105 : decode b_Lists_becomeWithPair 105 = .ok (.getfield 15, 3) := by decide +kernel
theorem d_Lists_becomeWithPair_108 : decode b_Lists_becomeWithPair 108 = .ok (.aload_n 0, 1) := by decide +kernel
theorem d_Lists_becomeWithPair_109 : decode b_Lists_becomeWithPair 109 = .ok (.invokevirtual 29, 3) := by decide +kernel
theorem d_Lists_becomeWithPair_112 : decode b_Lists_becomeWithPair 112 = .ok (.iload_n 3, 1) := by decide +kernel
theorem d_Lists_becomeWithPair_113 : decode b_Lists_becomeWithPair 113 = .ok (.iastore, 1) := by decide +kernel
theorem d_Lists_becomeWithPair_114 : decode b_Lists_becomeWithPair 114 = .ok (.aload_n 0, 1) := by decide +kernel
theorem d_Lists_becomeWithPair_115 : decode b_Lists_becomeWithPair 115 = .ok (.dup, 1) := by decide +kernel
theorem d_Lists_becomeWithPair_116 : decode b_Lists_becomeWithPair 116 = .ok (.getfield 22, 3) := by decide +kernel
theorem d_Lists_becomeWithPair_119 : decode b_Lists_becomeWithPair 119 = .ok (.iconst 1, 1) := by decide +kernel
theorem d_Lists_becomeWithPair_120 : decode b_Lists_becomeWithPair 120 = .ok (.iadd, 1) := by decide +kernel
theorem d_Lists_becomeWithPair_121 : decode b_Lists_becomeWithPair 121 = .ok (.putfield 22, 3) := by decide +kernel
theorem d_Lists_becomeWithPair_124 : decode b_Lists_becomeWithPair 124 = .ok (.return_, 1) := by decide +kernel
theorem d_DefectDrive_spoil_0 : decode b_DefectDrive_spoil 0 = .ok (.iload_n 1, 1) := by decide +kernel
theorem d_DefectDrive_spoil_1 : decode b_DefectDrive_spoil 1 = .ok (.invokestatic 53, 3) := by decide +kernel
theorem d_DefectDrive_spoil_4 : decode b_DefectDrive_spoil 4 = .ok (.ifCond .ne 11, 3) := by decide +kernel
theorem d_DefectDrive_spoil_7 : decode b_DefectDrive_spoil 7 = .ok (.new 57, 3) := by decide +kernel
theorem d_DefectDrive_spoil_10 : decode b_DefectDrive_spoil 10 = .ok (.dup, 1) := by decide +kernel
theorem d_DefectDrive_spoil_11 : decode b_DefectDrive_spoil 11 = .ok (.invokespecial 59, 3) := by decide +kernel
theorem d_DefectDrive_spoil_14 : decode b_DefectDrive_spoil 14 = .ok (.athrow, 1) := by decide +kernel
theorem d_DefectDrive_spoil_15 : decode b_DefectDrive_spoil 15 = .ok (.iload_n 1, 1) := by decide +kernel
theorem d_DefectDrive_spoil_16 : decode b_DefectDrive_spoil 16 = .ok (.bipush 16, 2) := by decide +kernel
theorem d_DefectDrive_spoil_18 : decode b_DefectDrive_spoil 18 = .ok (.if_icmp .ge 11, 3) := by decide +kernel
theorem d_DefectDrive_spoil_21 : decode b_DefectDrive_spoil 21 = .ok (.new 60, 3) := by decide +kernel
theorem d_DefectDrive_spoil_24 : decode b_DefectDrive_spoil 24 = .ok (.dup, 1) := by decide +kernel
theorem d_DefectDrive_spoil_25 : decode b_DefectDrive_spoil 25 = .ok (.invokespecial 62, 3) := by decide +kernel
theorem d_DefectDrive_spoil_28 : decode b_DefectDrive_spoil 28 = .ok (.athrow, 1) := by decide +kernel
theorem d_DefectDrive_spoil_29 : decode b_DefectDrive_spoil 29 = .ok (.aload_n 0, 1) := by decide +kernel
theorem d_DefectDrive_spoil_30 : decode b_DefectDrive_spoil 30 = .ok (.getfield 19, 3) := by decide +kernel
theorem d_DefectDrive_spoil_33 : decode b_DefectDrive_spoil 33 = .ok (.getfield 104, 3) := by decide +kernel
theorem d_DefectDrive_spoil_36 : decode b_DefectDrive_spoil 36 = .ok (.iload_n 1, 1) := by decide +kernel
theorem d_DefectDrive_spoil_37 : decode b_DefectDrive_spoil 37 = .ok (.iaload, 1) := by decide +kernel
theorem d_DefectDrive_spoil_38 : decode b_DefectDrive_spoil 38 = .ok (.istore_n 3, 1) := by decide +kernel
theorem d_DefectDrive_spoil_39 : decode b_DefectDrive_spoil 39 = .ok (.iload_n 2, 1) := by decide +kernel
theorem d_DefectDrive_spoil_40 : decode b_DefectDrive_spoil 40 = .ok (.ifCond .ne 16, 3) := by decide +kernel
theorem d_DefectDrive_spoil_43 : decode b_DefectDrive_spoil 43 = .ok (.aload_n 0, 1) := by decide +kernel
theorem d_DefectDrive_spoil_44 : decode b_DefectDrive_spoil 44 = .ok (.getfield 19, 3) := by decide +kernel
theorem d_DefectDrive_spoil_47 : decode b_DefectDrive_spoil 47 = .ok (.getfield 104, 3) := by decide +kernel
theorem d_DefectDrive_spoil_50 : decode b_DefectDrive_spoil 50 = .ok (.iload_n 1, 1) := by decide +kernel
theorem d_DefectDrive_spoil_51 : decode b_DefectDrive_spoil 51 = .ok (.iconst 2, 1) := by decide +kernel
theorem d_DefectDrive_spoil_52 : decode b_DefectDrive_spoil 52 = .ok (.iastore, 1) := by decide +kernel
theorem d_DefectDrive_spoil_53 : decode b_DefectDrive_spoil 53 = .ok (.goto 17, 3) := by decide +kernel
theorem d_DefectDrive_spoil_56 : decode b_DefectDrive_spoil 56 = .ok (.iload_n 3, 1) := by decide +kernel
theorem d_DefectDrive_spoil_57 : decode b_DefectDrive_spoil 57 = .ok (.ifCond .ne 13, 3) := by decide +kernel
theorem d_DefectDrive_spoil_60 : decode b_DefectDrive_spoil 60 = .ok (.aload_n 0, 1) := by decide +kernel
theorem d_DefectDrive_spoil_61 : decode b_DefectDrive_spoil 61 = .ok (.getfield 19, 3) := by decide +kernel
theorem d_DefectDrive_spoil_64 : decode b_DefectDrive_spoil 64 = .ok (.getfield 104, 3) := by decide +kernel
theorem d_DefectDrive_spoil_67 : decode b_DefectDrive_spoil 67 = .ok (.iload_n 1, 1) := by decide +kernel
theorem d_DefectDrive_spoil_68 : decode b_DefectDrive_spoil 68 = .ok (.iconst 1, 1) := by decide +kernel
theorem d_DefectDrive_spoil_69 : decode b_DefectDrive_spoil 69 = .ok (.iastore, 1) := by decide +kernel
theorem d_DefectDrive_spoil_70 : decode b_DefectDrive_spoil 70 = .ok (.iload_n 3, 1) := by decide +kernel
theorem d_DefectDrive_spoil_71 : decode b_DefectDrive_spoil 71 = .ok (.ireturn, 1) := by decide +kernel
theorem d_DefectDrive_cutAfter_0 : decode b_DefectDrive_cutAfter 0 = .ok (.iload_n 1, 1) := by decide +kernel
theorem d_DefectDrive_cutAfter_1 : decode b_DefectDrive_cutAfter 1 = .ok (.iconst (-1), 1) := by decide +kernel
theorem d_DefectDrive_cutAfter_2 : decode b_DefectDrive_cutAfter 2 = .ok (.if_icmp .ge 11, 3) := by decide +kernel
theorem d_DefectDrive_cutAfter_5 : decode b_DefectDrive_cutAfter 5 = .ok (.new 60, 3) := by decide +kernel
theorem d_DefectDrive_cutAfter_8 : decode b_DefectDrive_cutAfter 8 = .ok (.dup, 1) := by decide +kernel
theorem d_DefectDrive_cutAfter_9 : decode b_DefectDrive_cutAfter 9 = .ok (.invokespecial 62, 3) := by decide +kernel
theorem d_DefectDrive_cutAfter_12 : decode b_DefectDrive_cutAfter 12 = .ok (.athrow, 1) := by decide +kernel
theorem d_DefectDrive_cutAfter_13 : decode b_DefectDrive_cutAfter 13 = .ok (.aload_n 0, 1) := by decide +kernel
theorem d_DefectDrive_cutAfter_14 : decode b_DefectDrive_cutAfter 14 = .ok (.getfield 12, 3) := by decide +kernel
theorem d_DefectDrive_cutAfter_17 : decode b_DefectDrive_cutAfter 17 = .ok (.iload_n 1, 1) := by decide +kernel
theorem d_DefectDrive_cutAfter_18 : decode b_DefectDrive_cutAfter 18 = .ok (.putfield 146, 3) := by decide +kernel
theorem d_DefectDrive_cutAfter_21 : decode b_DefectDrive_cutAfter 21 = .ok (.iload_n 1, 1) := by decide +kernel
theorem d_DefectDrive_cutAfter_22 : decode b_DefectDrive_cutAfter 22 = .ok (.ireturn, 1) := by decide +kernel
theorem d_DefectDrive_physical_0 : decode b_DefectDrive_physical 0 = .ok (.aload_n 0, 1) := by decide +kernel
theorem d_DefectDrive_physical_1 : decode b_DefectDrive_physical 1 = .ok (.getfield 26, 3) := by decide +kernel
theorem d_DefectDrive_physical_4 : decode b_DefectDrive_physical 4 = .ok (.iload_n 1, 1) := by decide +kernel
theorem d_DefectDrive_physical_5 : decode b_DefectDrive_physical 5 = .ok (.invokevirtual 94, 3) := by decide +kernel
theorem d_DefectDrive_physical_8 : decode b_DefectDrive_physical 8 = .ok (.ifCond .ne 11, 3) := by decide +kernel
theorem d_DefectDrive_physical_11 : decode b_DefectDrive_physical 11 = .ok (.new 57, 3) := by decide +kernel
theorem d_DefectDrive_physical_14 : decode b_DefectDrive_physical 14 = .ok (.dup, 1) := by decide +kernel
theorem d_DefectDrive_physical_15 : decode b_DefectDrive_physical 15 = .ok (.invokespecial 59, 3) := by decide +kernel
theorem d_DefectDrive_physical_18 : decode b_DefectDrive_physical 18 = .ok (.athrow, 1) := by decide +kernel
theorem d_DefectDrive_physical_19 : decode b_DefectDrive_physical 19 = .ok (.aload_n 0, 1) := by decide +kernel
theorem d_DefectDrive_physical_20 : decode b_DefectDrive_physical 20 = .ok (.getfield 26, 3) := by decide +kernel
theorem d_DefectDrive_physical_23 : decode b_DefectDrive_physical 23 = .ok (.getfield 100, 3) := by decide +kernel
theorem d_DefectDrive_physical_26 : decode b_DefectDrive_physical 26 = .ok (.iload_n 1, 1) := by decide +kernel
theorem d_DefectDrive_physical_27 : decode b_DefectDrive_physical 27 = .ok (.iaload, 1) := by decide +kernel
theorem d_DefectDrive_physical_28 : decode b_DefectDrive_physical 28 = .ok (.ireturn, 1) := by decide +kernel
theorem d_DefectDrive_logical_0 : decode b_DefectDrive_logical 0 = .ok (.iload_n 1, 1) := by decide +kernel
theorem d_DefectDrive_logical_1 : decode b_DefectDrive_logical 1 = .ok (.invokestatic 53, 3) := by decide +kernel
theorem d_DefectDrive_logical_4 : decode b_DefectDrive_logical 4 = .ok (.ifCond .ne 11, 3) := by decide +kernel
theorem d_DefectDrive_logical_7 : decode b_DefectDrive_logical 7 = .ok (.new 57, 3) := by decide +kernel
theorem d_DefectDrive_logical_10 : decode b_DefectDrive_logical 10 = .ok (.dup, 1) := by decide +kernel
theorem d_DefectDrive_logical_11 : decode b_DefectDrive_logical 11 = .ok (.invokespecial 59, 3) := by decide +kernel
theorem d_DefectDrive_logical_14 : decode b_DefectDrive_logical 14 = .ok (.athrow, 1) := by decide +kernel
theorem d_DefectDrive_logical_15 : decode b_DefectDrive_logical 15 = .ok (.aload_n 0, 1) := by decide +kernel
theorem d_DefectDrive_logical_16 : decode b_DefectDrive_logical 16 = .ok (.getfield 26, 3) := by decide +kernel
theorem d_DefectDrive_logical_19 : decode b_DefectDrive_logical 19 = .ok (.getfield 159, 3) := by decide +kernel
theorem d_DefectDrive_logical_22 : decode b_DefectDrive_logical 22 = .ok (.iload_n 1, 1) := by decide +kernel
theorem d_DefectDrive_logical_23 : decode b_DefectDrive_logical 23 = .ok (.iaload, 1) := by decide +kernel
theorem d_DefectDrive_logical_24 : decode b_DefectDrive_logical 24 = .ok (.ireturn, 1) := by decide +kernel
theorem d_DefectDrive_spares_0 : decode b_DefectDrive_spares 0 = .ok (.iload_n 1, 1) := by decide +kernel
theorem d_DefectDrive_spares_1 : decode b_DefectDrive_spares 1 = .ok (.iconst 1, 1) := by decide +kernel
theorem d_DefectDrive_spares_2 : decode b_DefectDrive_spares 2 = .ok (.if_icmp .lt 9, 3) := by decide +kernel
theorem d_DefectDrive_spares_5 : decode b_DefectDrive_spares 5 = .ok (.iload_n 1, 1) := by decide +kernel
theorem d_DefectDrive_spares_6 : decode b_DefectDrive_spares 6 = .ok (.bipush 12, 2) := by decide +kernel
theorem d_DefectDrive_spares_8 : decode b_DefectDrive_spares 8 = .ok (.if_icmp .lt 11, 3) := by decide +kernel
theorem d_DefectDrive_spares_11 : decode b_DefectDrive_spares 11 = .ok (.new 57, 3) := by decide +kernel
theorem d_DefectDrive_spares_14 : decode b_DefectDrive_spares 14 = .ok (.dup, 1) := by decide +kernel
theorem d_DefectDrive_spares_15 : decode b_DefectDrive_spares 15 = .ok (.invokespecial 59, 3) := by decide +kernel
theorem d_DefectDrive_spares_18 : decode b_DefectDrive_spares 18 = .ok (.athrow, 1) := by decide +kernel
theorem d_DefectDrive_spares_19 : decode b_DefectDrive_spares 19 = .ok (.iload_n 1, 1) := by decide +kernel
theorem d_DefectDrive_spares_20 : decode b_DefectDrive_spares 20 = .ok (.bipush 16, 2) := by decide +kernel
theorem d_DefectDrive_spares_22 : decode b_DefectDrive_spares 22 = .ok (.imul, 1) := by decide +kernel
theorem d_DefectDrive_spares_23 : decode b_DefectDrive_spares 23 = .ok (.bipush 13, 2) := by decide +kernel
theorem d_DefectDrive_spares_25 : decode b_DefectDrive_spares 25 = .ok (.iadd, 1) := by decide +kernel
theorem d_DefectDrive_spares_26 : decode b_DefectDrive_spares 26 = .ok (.istore_n 2, 1) := by decide +kernel
theorem d_DefectDrive_spares_27 : decode b_DefectDrive_spares 27 = .ok (.iload_n 1, 1) := by decide +kernel
theorem d_DefectDrive_spares_28 : decode b_DefectDrive_spares 28 = .ok (.iconst 1, 1) := by decide +kernel
theorem d_DefectDrive_spares_29 : decode b_DefectDrive_spares 29 = .ok (.iadd, 1) := by decide +kernel
theorem d_DefectDrive_spares_30 : decode b_DefectDrive_spares 30 = .ok (.bipush 16, 2) := by decide +kernel
theorem d_DefectDrive_spares_32 : decode b_DefectDrive_spares 32 = .ok (.imul, 1) := by decide +kernel
theorem d_DefectDrive_spares_33 : decode b_DefectDrive_spares 33 = .ok (.istore_n 3, 1) := by decide +kernel
theorem d_DefectDrive_spares_34 : decode b_DefectDrive_spares 34 = .ok (.iconst 0, 1) := by decide +kernel
theorem d_DefectDrive_spares_35 : decode b_DefectDrive_spares 35 = .ok (.istore 4, 2) := by decide +kernel
theorem d_DefectDrive_spares_37 : decode b_DefectDrive_spares 37 = .ok (.iload_n 2, 1) := by decide +kernel
theorem d_DefectDrive_spares_38 : decode b_DefectDrive_spares 38 = .ok (.istore 5, 2) := by decide +kernel
theorem d_DefectDrive_spares_40 : decode b_DefectDrive_spares 40 = .ok (.iload 5, 2) := by decide +kernel
theorem d_DefectDrive_spares_42 : decode b_DefectDrive_spares 42 = .ok (.iload_n 3, 1) := by decide +kernel
theorem d_DefectDrive_spares_43 : decode b_DefectDrive_spares 43 = .ok (.if_icmp .ge 21, 3) := by decide +kernel
theorem d_DefectDrive_spares_46 : decode b_DefectDrive_spares 46 = .ok (.aload_n 0, 1) := by decide +kernel
theorem d_DefectDrive_spares_47 : decode b_DefectDrive_spares 47 = .ok (.iload 5, 2) := by decide +kernel
theorem d_DefectDrive_spares_49 : decode b_DefectDrive_spares 49 = .ok (.invokevirtual 162, 3) := by decide +kernel
theorem d_DefectDrive_spares_52 : decode b_DefectDrive_spares 52 = .ok (.ifCond .eq 6, 3) := by decide +kernel
theorem d_DefectDrive_spares_55 : decode b_DefectDrive_spares 55 = .ok (.iinc 4 1, 3) := by decide +kernel
theorem d_DefectDrive_spares_58 : decode b_DefectDrive_spares 58 = .ok (.iinc 5 1, 3) := by decide +kernel
theorem d_DefectDrive_spares_61 : decode b_DefectDrive_spares 61 = .ok (.goto (-21), 3) := by decide +kernel
theorem d_DefectDrive_spares_64 : decode b_DefectDrive_spares 64 = .ok (.iload 4, 2) := by decide +kernel
theorem d_DefectDrive_spares_66 : decode b_DefectDrive_spares 66 = .ok (.ireturn, 1) := by decide +kernel
theorem d_DefectDrive_grown_0 : decode b_DefectDrive_grown 0 = .ok (.iload_n 1, 1) := by decide +kernel
theorem d_DefectDrive_grown_1 : decode b_DefectDrive_grown 1 = .ok (.ifCond .lt 14, 3) := by decide +kernel
theorem d_DefectDrive_grown_4 : decode b_DefectDrive_grown 4 = .ok (.iload_n 1, 1) := by decide +kernel
theorem d_DefectDrive_grown_5 : decode b_DefectDrive_grown 5 = .ok (.aload_n 0, 1) := by decide +kernel
theorem d_DefectDrive_grown_6 : decode b_DefectDrive_grown 6 = .ok (.getfield 46, 3) := by decide +kernel
theorem d_DefectDrive_grown_9 : decode b_DefectDrive_grown 9 = .ok (.getfield 165, 3) := by decide +kernel
theorem d_DefectDrive_grown_12 : decode b_DefectDrive_grown 12 = .ok (.if_icmp .lt 11, 3) := by decide +kernel
theorem d_DefectDrive_grown_15 : decode b_DefectDrive_grown 15 = .ok (.new 57, 3) := by decide +kernel
theorem d_DefectDrive_grown_18 : decode b_DefectDrive_grown 18 = .ok (.dup, 1) := by decide +kernel
theorem d_DefectDrive_grown_19 : decode b_DefectDrive_grown 19 = .ok (.invokespecial 59, 3) := by decide +kernel
theorem d_DefectDrive_grown_22 : decode b_DefectDrive_grown 22 = .ok (.athrow, 1) := by decide +kernel
theorem d_DefectDrive_grown_23 : decode b_DefectDrive_grown 23 = .ok (.aload_n 0, 1) := by decide +kernel
theorem d_DefectDrive_grown_24 : decode b_DefectDrive_grown 24 = .ok (.getfield 46, 3) := by decide +kernel
theorem d_DefectDrive_grown_27 : decode b_DefectDrive_grown 27 = .ok (.getfield 168, 3) := by decide +kernel
theorem d_DefectDrive_grown_30 : decode b_DefectDrive_grown 30 = .ok (.iload_n 1, 1) := by decide +kernel
theorem d_DefectDrive_grown_31 : decode b_DefectDrive_grown 31 = .ok (.iadd, 1) := by decide +kernel
theorem d_DefectDrive_grown_32 : decode b_DefectDrive_grown 32 = .ok (.istore_n 3, 1) := by decide +kernel
theorem d_DefectDrive_grown_33 : decode b_DefectDrive_grown 33 = .ok (.iload_n 2, 1) := by decide +kernel
theorem d_DefectDrive_grown_34 : decode b_DefectDrive_grown 34 = .ok (.ifCond .eq 15, 3) := by decide +kernel
theorem d_DefectDrive_grown_37 : decode b_DefectDrive_grown 37 = .ok (.aload_n 0, 1) := by decide +kernel
theorem d_DefectDrive_grown_38 : decode b_DefectDrive_grown 38 = .ok (.getfield 46, 3) := by decide +kernel
theorem d_DefectDrive_grown_41 : decode b_DefectDrive_grown 41 = .ok (.getfield 171, 3) := by decide +kernel
theorem d_DefectDrive_grown_44 : decode b_DefectDrive_grown 44 = .ok (.iload_n 3, 1) := by decide +kernel
theorem d_DefectDrive_grown_45 : decode b_DefectDrive_grown 45 = .ok (.iaload, 1) := by decide +kernel
theorem d_DefectDrive_grown_46 : decode b_DefectDrive_grown 46 = .ok (.goto 12, 3) := by decide +kernel
theorem d_DefectDrive_grown_49 : decode b_DefectDrive_grown 49 = .ok (.aload_n 0, 1) := by decide +kernel
theorem d_DefectDrive_grown_50 : decode b_DefectDrive_grown 50 = .ok (.getfield 46, 3) := by decide +kernel
theorem d_DefectDrive_grown_53 : decode b_DefectDrive_grown 53 = .ok (.getfield 174, 3) := by decide +kernel
theorem d_DefectDrive_grown_56 : decode b_DefectDrive_grown 56 = .ok (.iload_n 3, 1) := by decide +kernel
theorem d_DefectDrive_grown_57 : decode b_DefectDrive_grown 57 = .ok (.iaload, 1) := by decide +kernel
theorem d_DefectDrive_grown_58 : decode b_DefectDrive_grown 58 = .ok (.ireturn, 1) := by decide +kernel
theorem d_DefectDrive_primary_0 : decode b_DefectDrive_primary 0 = .ok (.iload_n 1, 1) := by decide +kernel
theorem d_DefectDrive_primary_1 : decode b_DefectDrive_primary 1 = .ok (.ifCond .lt 14, 3) := by decide +kernel
theorem d_DefectDrive_primary_4 : decode b_DefectDrive_primary 4 = .ok (.iload_n 1, 1) := by decide +kernel
theorem d_DefectDrive_primary_5 : decode b_DefectDrive_primary 5 = .ok (.aload_n 0, 1) := by decide +kernel
theorem d_DefectDrive_primary_6 : decode b_DefectDrive_primary 6 = .ok (.getfield 46, 3) := by decide +kernel
theorem d_DefectDrive_primary_9 : decode b_DefectDrive_primary 9 = .ok (.getfield 168, 3) := by decide +kernel
theorem d_DefectDrive_primary_12 : decode b_DefectDrive_primary 12 = .ok (.if_icmp .lt 11, 3) := by decide +kernel
theorem d_DefectDrive_primary_15 : decode b_DefectDrive_primary 15 = .ok (.new 57, 3) := by decide +kernel
theorem d_DefectDrive_primary_18 : decode b_DefectDrive_primary 18 = .ok (.dup, 1) := by decide +kernel
theorem d_DefectDrive_primary_19 : decode b_DefectDrive_primary 19 = .ok (.invokespecial 59, 3) := by decide +kernel
theorem d_DefectDrive_primary_22 : decode b_DefectDrive_primary 22 = .ok (.athrow, 1) := by decide +kernel
theorem d_DefectDrive_primary_23 : decode b_DefectDrive_primary 23 = .ok (.aload_n 0, 1) := by decide +kernel
theorem d_DefectDrive_primary_24 : decode b_DefectDrive_primary 24 = .ok (.getfield 46, 3) := by decide +kernel
theorem d_DefectDrive_primary_27 : decode b_DefectDrive_primary 27 = .ok (.getfield 174, 3) := by decide +kernel
theorem d_DefectDrive_primary_30 : decode b_DefectDrive_primary 30 = .ok (.iload_n 1, 1) := by decide +kernel
theorem d_DefectDrive_primary_31 : decode b_DefectDrive_primary 31 = .ok (.iaload, 1) := by decide +kernel
theorem d_DefectDrive_primary_32 : decode b_DefectDrive_primary 32 = .ok (.ireturn, 1) := by decide +kernel
theorem d_DefectDrive_seeks_0 : decode b_DefectDrive_seeks 0 = .ok (.iload_n 2, 1) := by decide +kernel
theorem d_DefectDrive_seeks_1 : decode b_DefectDrive_seeks 1 = .ok (.iconst 1, 1) := by decide +kernel
theorem d_DefectDrive_seeks_2 : decode b_DefectDrive_seeks 2 = .ok (.if_icmp .lt 27, 3) := by decide +kernel
theorem d_DefectDrive_seeks_5 : decode b_DefectDrive_seeks 5 = .ok (.aload_n 0, 1) := by decide +kernel
theorem d_DefectDrive_seeks_6 : decode b_DefectDrive_seeks 6 = .ok (.getfield 26, 3) := by decide +kernel
theorem d_DefectDrive_seeks_9 : decode b_DefectDrive_seeks 9 = .ok (.iload_n 1, 1) := by decide +kernel
theorem d_DefectDrive_seeks_10 : decode b_DefectDrive_seeks 10 = .ok (.invokevirtual 94, 3) := by decide +kernel
theorem d_DefectDrive_seeks_13 : decode b_DefectDrive_seeks 13 = .ok (.ifCond .eq 16, 3) := by decide +kernel
theorem d_DefectDrive_seeks_16 : decode b_DefectDrive_seeks 16 = .ok (.iload_n 2, 1) := by decide +kernel
theorem d_DefectDrive_seeks_17 : decode b_DefectDrive_seeks 17 = .ok (.aload_n 0, 1) := by decide +kernel
theorem d_DefectDrive_seeks_18 : decode b_DefectDrive_seeks 18 = .ok (.getfield 26, 3) := by decide +kernel
theorem d_DefectDrive_seeks_21 : decode b_DefectDrive_seeks 21 = .ok (.getfield 91, 3) := by decide +kernel
theorem d_DefectDrive_seeks_24 : decode b_DefectDrive_seeks 24 = .ok (.iload_n 1, 1) := by decide +kernel
theorem d_DefectDrive_seeks_25 : decode b_DefectDrive_seeks 25 = .ok (.isub, 1) := by decide +kernel
theorem d_DefectDrive_seeks_26 : decode b_DefectDrive_seeks 26 = .ok (.if_icmp .le 11, 3) := by decide +kernel
theorem d_DefectDrive_seeks_29 : decode b_DefectDrive_seeks 29 = .ok (.new 57, 3) := by decide +kernel
theorem d_DefectDrive_seeks_32 : decode b_DefectDrive_seeks 32 = .ok (.dup, 1) := by decide +kernel
theorem d_DefectDrive_seeks_33 : decode b_DefectDrive_seeks 33 = .ok (.invokespecial 59, 3) := by decide +kernel
theorem d_DefectDrive_seeks_36 : decode b_DefectDrive_seeks 36 = .ok (.athrow, 1) := by decide +kernel
theorem d_DefectDrive_seeks_37 : decode b_DefectDrive_seeks 37 = .ok (.iconst 0, 1) := by decide +kernel
theorem d_DefectDrive_seeks_38 : decode b_DefectDrive_seeks 38 = .ok (.istore_n 3, 1) := by decide +kernel
theorem d_DefectDrive_seeks_39 : decode b_DefectDrive_seeks 39 = .ok (.iload_n 1, 1) := by decide +kernel
theorem d_DefectDrive_seeks_40 : decode b_DefectDrive_seeks 40 = .ok (.iconst 1, 1) := by decide +kernel
theorem d_DefectDrive_seeks_41 : decode b_DefectDrive_seeks 41 = .ok (.iadd, 1) := by decide +kernel
theorem d_DefectDrive_seeks_42 : decode b_DefectDrive_seeks 42 = .ok (.istore 4, 2) := by decide +kernel
theorem d_DefectDrive_seeks_44 : decode b_DefectDrive_seeks 44 = .ok (.iload 4, 2) := by decide +kernel
theorem d_DefectDrive_seeks_46 : decode b_DefectDrive_seeks 46 = .ok (.iload_n 1, 1) := by decide +kernel
theorem d_DefectDrive_seeks_47 : decode b_DefectDrive_seeks 47 = .ok (.iload_n 2, 1) := by decide +kernel
theorem d_DefectDrive_seeks_48 : decode b_DefectDrive_seeks 48 = .ok (.iadd, 1) := by decide +kernel
theorem d_DefectDrive_seeks_49 : decode b_DefectDrive_seeks 49 = .ok (.if_icmp .ge 43, 3) := by decide +kernel
theorem d_DefectDrive_seeks_52 : decode b_DefectDrive_seeks 52 = .ok (.aload_n 0, 1) := by decide +kernel
theorem d_DefectDrive_seeks_53 : decode b_DefectDrive_seeks 53 = .ok (.getfield 26, 3) := by decide +kernel
theorem d_DefectDrive_seeks_56 : decode b_DefectDrive_seeks 56 = .ok (.getfield 100, 3) := by decide +kernel
theorem d_DefectDrive_seeks_59 : decode b_DefectDrive_seeks 59 = .ok (.iload 4, 2) := by decide +kernel
theorem d_DefectDrive_seeks_61 : decode b_DefectDrive_seeks 61 = .ok (.iconst 1, 1) := by decide +kernel
theorem d_DefectDrive_seeks_62 : decode b_DefectDrive_seeks 62 = .ok (.isub, 1) := by decide +kernel
theorem d_DefectDrive_seeks_63 : decode b_DefectDrive_seeks 63 = .ok (.iaload, 1) := by decide +kernel
theorem d_DefectDrive_seeks_64 : decode b_DefectDrive_seeks 64 = .ok (.invokestatic 177, 3) := by decide +kernel
theorem d_DefectDrive_seeks_67 : decode b_DefectDrive_seeks 67 = .ok (.aload_n 0, 1) := by decide +kernel
theorem d_DefectDrive_seeks_68 : decode b_DefectDrive_seeks 68 = .ok (.getfield 26, 3) := by decide +kernel
theorem d_DefectDrive_seeks_71 : decode b_DefectDrive_seeks 71 = .ok (.getfield 100, 3) := by decide +kernel
theorem d_DefectDrive_seeks_74 : decode b_DefectDrive_seeks 74 = .ok (.iload 4, 2) := by decide +kernel
theorem d_DefectDrive_seeks_76 : decode b_DefectDrive_seeks 76 = .ok (.iaload, 1) := by decide +kernel
theorem d_DefectDrive_seeks_77 : decode b_DefectDrive_seeks 77 = .ok (.invokestatic 177, 3) := by decide +kernel
theorem d_DefectDrive_seeks_80 : decode b_DefectDrive_seeks 80 = .ok (.if_icmp .eq 6, 3) := by decide +kernel
theorem d_DefectDrive_seeks_83 : decode b_DefectDrive_seeks 83 = .ok (.iinc 3 1, 3) := by decide +kernel
theorem d_DefectDrive_seeks_86 : decode b_DefectDrive_seeks 86 = .ok (.iinc 4 1, 3) := by decide +kernel
theorem d_DefectDrive_seeks_89 : decode b_DefectDrive_seeks 89 = .ok (.goto (-45), 3) := by decide +kernel
theorem d_DefectDrive_seeks_92 : decode b_DefectDrive_seeks 92 = .ok (.iload_n 3, 1) := by decide +kernel
theorem d_DefectDrive_seeks_93 : decode b_DefectDrive_seeks 93 = .ok (.ireturn, 1) := by decide +kernel
theorem d_DefectDrive_state_0 : decode b_DefectDrive_state 0 = .ok (.iload_n 1, 1) := by decide +kernel
theorem d_DefectDrive_state_1 : decode b_DefectDrive_state 1 = .ok (.invokestatic 53, 3) := by decide +kernel
theorem d_DefectDrive_state_4 : decode b_DefectDrive_state 4 = .ok (.ifCond .ne 11, 3) := by decide +kernel
theorem d_DefectDrive_state_7 : decode b_DefectDrive_state 7 = .ok (.new 57, 3) := by decide +kernel
theorem d_DefectDrive_state_10 : decode b_DefectDrive_state 10 = .ok (.dup, 1) := by decide +kernel
theorem d_DefectDrive_state_11 : decode b_DefectDrive_state 11 = .ok (.invokespecial 59, 3) := by decide +kernel
theorem d_DefectDrive_state_14 : decode b_DefectDrive_state 14 = .ok (.athrow, 1) := by decide +kernel
theorem d_DefectDrive_state_15 : decode b_DefectDrive_state 15 = .ok (.aload_n 0, 1) := by decide +kernel
theorem d_DefectDrive_state_16 : decode b_DefectDrive_state 16 = .ok (.getfield 19, 3) := by decide +kernel
theorem d_DefectDrive_state_19 : decode b_DefectDrive_state 19 = .ok (.getfield 104, 3) := by decide +kernel
theorem d_DefectDrive_state_22 : decode b_DefectDrive_state 22 = .ok (.iload_n 1, 1) := by decide +kernel
theorem d_DefectDrive_state_23 : decode b_DefectDrive_state 23 = .ok (.iaload, 1) := by decide +kernel
theorem d_DefectDrive_state_24 : decode b_DefectDrive_state 24 = .ok (.ireturn, 1) := by decide +kernel
theorem d_Arrays_fill_0 : decode b_Arrays_fill 0 = .ok (.iconst 0, 1) := by decide +kernel
theorem d_Arrays_fill_1 : decode b_Arrays_fill 1 = .ok (.istore_n 2, 1) := by decide +kernel
theorem d_Arrays_fill_2 : decode b_Arrays_fill 2 = .ok (.aload_n 0, 1) := by decide +kernel
theorem d_Arrays_fill_3 : decode b_Arrays_fill 3 = .ok (.arraylength, 1) := by decide +kernel
theorem d_Arrays_fill_4 : decode b_Arrays_fill 4 = .ok (.istore_n 3, 1) := by decide +kernel
theorem d_Arrays_fill_5 : decode b_Arrays_fill 5 = .ok (.iload_n 2, 1) := by decide +kernel
theorem d_Arrays_fill_6 : decode b_Arrays_fill 6 = .ok (.iload_n 3, 1) := by decide +kernel
theorem d_Arrays_fill_7 : decode b_Arrays_fill 7 = .ok (.if_icmp .ge 13, 3) := by decide +kernel
theorem d_Arrays_fill_10 : decode b_Arrays_fill 10 = .ok (.aload_n 0, 1) := by decide +kernel
theorem d_Arrays_fill_11 : decode b_Arrays_fill 11 = .ok (.iload_n 2, 1) := by decide +kernel
theorem d_Arrays_fill_12 : decode b_Arrays_fill 12 = .ok (.iload_n 1, 1) := by decide +kernel
theorem d_Arrays_fill_13 : decode b_Arrays_fill 13 = .ok (.iastore, 1) := by decide +kernel
theorem d_Arrays_fill_14 : decode b_Arrays_fill 14 = .ok (.iinc 2 1, 3) := by decide +kernel
theorem d_Arrays_fill_17 : decode b_Arrays_fill 17 = .ok (.goto (-12), 3) := by decide +kernel
theorem d_Arrays_fill_20 : decode b_Arrays_fill 20 = .ok (.return_, 1) := by decide +kernel
