theorem dX11_init_0 : decode cX11_init 0 = .ok (.aload_n 0, 1) := by decide +kernel
theorem dX11_init_1 : decode cX11_init 1 = .ok (.invokespecial 1, 3) := by decide +kernel
theorem dX11_init_4 : decode cX11_init 4 = .ok (.aload_n 0, 1) := by decide +kernel
theorem dX11_init_5 : decode cX11_init 5 = .ok (.new 7, 3) := by decide +kernel
theorem dX11_init_8 : decode cX11_init 8 = .ok (.dup, 1) := by decide +kernel
theorem dX11_init_9 : decode cX11_init 9 = .ok (.invokespecial 9, 3) := by decide +kernel
theorem dX11_init_12 : decode cX11_init 12 = .ok (.putfield 10, 3) := by decide +kernel
theorem dX11_init_15 : decode cX11_init 15 = .ok (.aload_n 0, 1) := by decide +kernel
theorem dX11_init_16 : decode cX11_init 16 = .ok (.iconst 2, 1) := by decide +kernel
theorem dX11_init_17 : decode cX11_init 17 = .ok (.anewarray 7, 3) := by decide +kernel
theorem dX11_init_20 : decode cX11_init 20 = .ok (.dup, 1) := by decide +kernel
theorem dX11_init_21 : decode cX11_init 21 = .ok (.iconst 0, 1) := by decide +kernel
theorem dX11_init_22 : decode cX11_init 22 = .ok (.new 7, 3) := by decide +kernel
theorem dX11_init_25 : decode cX11_init 25 = .ok (.dup, 1) := by decide +kernel
theorem dX11_init_26 : decode cX11_init 26 = .ok (.invokespecial 9, 3) := by decide +kernel
theorem dX11_init_29 : decode cX11_init 29 = .ok (.aastore, 1) := by decide +kernel
theorem dX11_init_30 : decode cX11_init 30 = .ok (.dup, 1) := by decide +kernel
theorem dX11_init_31 : decode cX11_init 31 = .ok (.iconst 1, 1) := by decide +kernel
theorem dX11_init_32 : decode cX11_init 32 = .ok (.new 7, 3) := by decide +kernel
theorem dX11_init_35 : decode cX11_init 35 = .ok (.dup, 1) := by decide +kernel
theorem dX11_init_36 : decode cX11_init 36 = .ok (.invokespecial 9, 3) := by decide +kernel
theorem dX11_init_39 : decode cX11_init 39 = .ok (.aastore, 1) := by decide +kernel
theorem dX11_init_40 : decode cX11_init 40 = .ok (.putfield 16, 3) := by decide +kernel
theorem dX11_init_43 : decode cX11_init 43 = .ok (.aload_n 0, 1) := by decide +kernel
theorem dX11_init_44 : decode cX11_init 44 = .ok (.iconst 2, 1) := by decide +kernel
theorem dX11_init_45 : decode cX11_init 45 = .ok (.newarray .boolean, 2) := by decide +kernel
theorem dX11_init_47 : decode cX11_init 47 = .ok (.putfield 20, 3) := by decide +kernel
theorem dX11_init_50 : decode cX11_init 50 = .ok (.aload_n 0, 1) := by decide +kernel
theorem dX11_init_51 : decode cX11_init 51 = .ok (.new 24, 3) := by decide +kernel
theorem dX11_init_54 : decode cX11_init 54 = .ok (.dup, 1) := by decide +kernel
theorem dX11_init_55 : decode cX11_init 55 = .ok (.invokespecial 26, 3) := by decide +kernel
theorem dX11_init_58 : decode cX11_init 58 = .ok (.putfield 27, 3) := by decide +kernel
theorem dX11_init_61 : decode cX11_init 61 = .ok (.aload_n 0, 1) := by decide +kernel
theorem dX11_init_62 : decode cX11_init 62 = .ok (.new 31, 3) := by decide +kernel
theorem dX11_init_65 : decode cX11_init 65 = .ok (.dup, 1) := by decide +kernel
theorem dX11_init_66 : decode cX11_init 66 = .ok (.invokespecial 33, 3) := by decide +kernel
theorem dX11_init_69 : decode cX11_init 69 = .ok (.putfield 34, 3) := by decide +kernel
theorem dX11_init_72 : decode cX11_init 72 = .ok (.aload_n 0, 1) := by decide +kernel
theorem dX11_init_73 : decode cX11_init 73 = .ok (.new 38, 3) := by decide +kernel
theorem dX11_init_76 : decode cX11_init 76 = .ok (.dup, 1) := by decide +kernel
theorem dX11_init_77 : decode cX11_init 77 = .ok (.invokespecial 40, 3) := by decide +kernel
theorem dX11_init_80 : decode cX11_init 80 = .ok (.putfield 41, 3) := by decide +kernel
theorem dX11_init_83 : decode cX11_init 83 = .ok (.aload_n 0, 1) := by decide +kernel
theorem dX11_init_84 : decode cX11_init 84 = .ok (.new 45, 3) := by decide +kernel
theorem dX11_init_87 : decode cX11_init 87 = .ok (.dup, 1) := by decide +kernel
theorem dX11_init_88 : decode cX11_init 88 = .ok (.invokespecial 47, 3) := by decide +kernel
theorem dX11_init_91 : decode cX11_init 91 = .ok (.putfield 48, 3) := by decide +kernel
theorem dX11_init_94 : decode cX11_init 94 = .ok (.aload_n 0, 1) := by decide +kernel
theorem dX11_init_95 : decode cX11_init 95 = .ok (.bipush 6, 2) := by decide +kernel
theorem dX11_init_97 : decode cX11_init 97 = .ok (.newarray .long, 2) := by decide +kernel
theorem dX11_init_99 : decode cX11_init 99 = .ok (.putfield 52, 3) := by decide +kernel
theorem dX11_init_102 : decode cX11_init 102 = .ok (.aload_n 0, 1) := by decide +kernel
theorem dX11_init_103 : decode cX11_init 103 = .ok (.lconst 0, 1) := by decide +kernel
theorem dX11_init_104 : decode cX11_init 104 = .ok (.putfield 56, 3) := by decide +kernel
theorem dX11_init_107 : decode cX11_init 107 = .ok (.aload_n 0, 1) := by decide +kernel
theorem dX11_init_108 : decode cX11_init 108 = .ok (.lconst 1, 1) := by decide +kernel
theorem dX11_init_109 : decode cX11_init 109 = .ok (.putfield 60, 3) := by decide +kernel
theorem dX11_init_112 : decode cX11_init 112 = .ok (.return_, 1) := by decide +kernel
theorem dX11_house_0 : decode cX11_house 0 = .ok (.aload_n 0, 1) := by decide +kernel
theorem dX11_house_1 : decode cX11_house 1 = .ok (.getfield 10, 3) := by decide +kernel
theorem dX11_house_4 : decode cX11_house 4 = .ok (.getfield 63, 3) := by decide +kernel
theorem dX11_house_7 : decode cX11_house 7 = .ok (.getfield 66, 3) := by decide +kernel
theorem dX11_house_10 : decode cX11_house 10 = .ok (.istore_n 1, 1) := by decide +kernel
theorem dX11_house_11 : decode cX11_house 11 = .ok (.aload_n 0, 1) := by decide +kernel
theorem dX11_house_12 : decode cX11_house 12 = .ok (.getfield 10, 3) := by decide +kernel
theorem dX11_house_15 : decode cX11_house 15 = .ok (.getfield 63, 3) := by decide +kernel
theorem dX11_house_18 : decode cX11_house 18 = .ok (.invokevirtual 70, 3) := by decide +kernel
theorem dX11_house_21 : decode cX11_house 21 = .ok (.aload_n 0, 1) := by decide +kernel
theorem dX11_house_22 : decode cX11_house 22 = .ok (.getfield 10, 3) := by decide +kernel
theorem dX11_house_25 : decode cX11_house 25 = .ok (.invokevirtual 73, 3) := by decide +kernel
theorem dX11_house_28 : decode cX11_house 28 = .ok (.iload_n 1, 1) := by decide +kernel
theorem dX11_house_29 : decode cX11_house 29 = .ok (.ireturn, 1) := by decide +kernel
theorem dX11_stair_0 : decode cX11_stair 0 = .ok (.iload_n 1, 1) := by decide +kernel
theorem dX11_stair_1 : decode cX11_stair 1 = .ok (.invokestatic 76, 3) := by decide +kernel
theorem dX11_stair_4 : decode cX11_stair 4 = .ok (.ifCond .eq 24, 3) := by decide +kernel
theorem dX11_stair_7 : decode cX11_stair 7 = .ok (.iload_n 2, 1) := by decide +kernel
theorem dX11_stair_8 : decode cX11_stair 8 = .ok (.invokestatic 76, 3) := by decide +kernel
theorem dX11_stair_11 : decode cX11_stair 11 = .ok (.ifCond .eq 17, 3) := by decide +kernel
theorem dX11_stair_14 : decode cX11_stair 14 = .ok (.iload_n 1, 1) := by decide +kernel
theorem dX11_stair_15 : decode cX11_stair 15 = .ok (.iload_n 2, 1) := by decide +kernel
theorem dX11_stair_16 : decode cX11_stair 16 = .ok (.if_icmp .eq 12, 3) := by decide +kernel
theorem dX11_stair_19 : decode cX11_stair 19 = .ok (.iload_n 3, 1) := by decide +kernel
theorem dX11_stair_20 : decode cX11_stair 20 = .ok (.bipush 9, 2) := by decide +kernel
theorem dX11_stair_22 : decode cX11_stair 22 = .ok (.invokestatic 80, 3) := by decide +kernel
theorem dX11_stair_25 : decode cX11_stair 25 = .ok (.ifCond .ne 10, 3) := by decide +kernel
theorem dX11_stair_28 : decode cX11_stair 28 = .ok (.aload_n 0, 1) := by decide +kernel
theorem dX11_stair_29 : decode cX11_stair 29 = .ok (.bipush (-10), 2) := by decide +kernel
theorem dX11_stair_31 : decode cX11_stair 31 = .ok (.invokevirtual 84, 3) := by decide +kernel
theorem dX11_stair_34 : decode cX11_stair 34 = .ok (.ireturn, 1) := by decide +kernel
theorem dX11_stair_35 : decode cX11_stair 35 = .ok (.aload_n 0, 1) := by decide +kernel
theorem dX11_stair_36 : decode cX11_stair 36 = .ok (.getfield 10, 3) := by decide +kernel
theorem dX11_stair_39 : decode cX11_stair 39 = .ok (.getfield 63, 3) := by decide +kernel
theorem dX11_stair_42 : decode cX11_stair 42 = .ok (.iload_n 1, 1) := by decide +kernel
theorem dX11_stair_43 : decode cX11_stair 43 = .ok (.iload_n 2, 1) := by decide +kernel
theorem dX11_stair_44 : decode cX11_stair 44 = .ok (.iload_n 3, 1) := by decide +kernel
theorem dX11_stair_45 : decode cX11_stair 45 = .ok (.invokevirtual 88, 3) := by decide +kernel
theorem dX11_stair_48 : decode cX11_stair 48 = .ok (.ireturn, 1) := by decide +kernel
theorem dX11_sleeper_0 : decode cX11_sleeper 0 = .ok (.iload_n 1, 1) := by decide +kernel
theorem dX11_sleeper_1 : decode cX11_sleeper 1 = .ok (.iconst 5, 1) := by decide +kernel
theorem dX11_sleeper_2 : decode cX11_sleeper 2 = .ok (.invokestatic 80, 3) := by decide +kernel
theorem dX11_sleeper_5 : decode cX11_sleeper 5 = .ok (.ifCond .eq 19, 3) := by decide +kernel
theorem dX11_sleeper_8 : decode cX11_sleeper 8 = .ok (.iload_n 2, 1) := by decide +kernel
theorem dX11_sleeper_9 : decode cX11_sleeper 9 = .ok (.invokestatic 76, 3) := by decide +kernel
theorem dX11_sleeper_12 : decode cX11_sleeper 12 = .ok (.ifCond .eq 12, 3) := by decide +kernel
theorem dX11_sleeper_15 : decode cX11_sleeper 15 = .ok (.iload_n 3, 1) := by decide +kernel
theorem dX11_sleeper_16 : decode cX11_sleeper 16 = .ok (.bipush 9, 2) := by decide +kernel
theorem dX11_sleeper_18 : decode cX11_sleeper 18 = .ok (.invokestatic 80, 3) := by decide +kernel
theorem dX11_sleeper_21 : decode cX11_sleeper 21 = .ok (.ifCond .ne 10, 3) := by decide +kernel
theorem dX11_sleeper_24 : decode cX11_sleeper 24 = .ok (.aload_n 0, 1) := by decide +kernel
theorem dX11_sleeper_25 : decode cX11_sleeper 25 = .ok (.bipush (-2), 2) := by decide +kernel
theorem dX11_sleeper_27 : decode cX11_sleeper 27 = .ok (.invokevirtual 84, 3) := by decide +kernel
theorem dX11_sleeper_30 : decode cX11_sleeper 30 = .ok (.ireturn, 1) := by decide +kernel
theorem dX11_sleeper_31 : decode cX11_sleeper 31 = .ok (.aload_n 0, 1) := by decide +kernel
theorem dX11_sleeper_32 : decode cX11_sleeper 32 = .ok (.getfield 10, 3) := by decide +kernel
theorem dX11_sleeper_35 : decode cX11_sleeper 35 = .ok (.getfield 63, 3) := by decide +kernel
theorem dX11_sleeper_38 : decode cX11_sleeper 38 = .ok (.getfield 66, 3) := by decide +kernel
theorem dX11_sleeper_41 : decode cX11_sleeper 41 = .ok (.iconst 5, 1) := by decide +kernel
theorem dX11_sleeper_42 : decode cX11_sleeper 42 = .ok (.if_icmp .lt 8, 3) := by decide +kernel
theorem dX11_sleeper_45 : decode cX11_sleeper 45 = .ok (.aload_n 0, 1) := by decide +kernel
theorem dX11_sleeper_46 : decode cX11_sleeper 46 = .ok (.invokevirtual 92, 3) := by decide +kernel
theorem dX11_sleeper_49 : decode cX11_sleeper 49 = .ok (.ireturn, 1) := by decide +kernel
theorem dX11_sleeper_50 : decode cX11_sleeper 50 = .ok (.aload_n 0, 1) := by decide +kernel
theorem dX11_sleeper_51 : decode cX11_sleeper 51 = .ok (.getfield 10, 3) := by decide +kernel
theorem dX11_sleeper_54 : decode cX11_sleeper 54 = .ok (.iconst 0, 1) := by decide +kernel
theorem dX11_sleeper_55 : decode cX11_sleeper 55 = .ok (.putfield 96, 3) := by decide +kernel
theorem dX11_sleeper_58 : decode cX11_sleeper 58 = .ok (.aload_n 0, 1) := by decide +kernel
theorem dX11_sleeper_59 : decode cX11_sleeper 59 = .ok (.getfield 10, 3) := by decide +kernel
theorem dX11_sleeper_62 : decode cX11_sleeper 62 = .ok (.getfield 63, 3) := by decide +kernel
theorem dX11_sleeper_65 : decode cX11_sleeper 65 = .ok (.iload_n 1, 1) := by decide +kernel
theorem dX11_sleeper_66 : decode cX11_sleeper 66 = .ok (.iload_n 2, 1) := by decide +kernel
theorem dX11_sleeper_67 : decode cX11_sleeper 67 = .ok (.iload_n 3, 1) := by decide +kernel
theorem dX11_sleeper_68 : decode cX11_sleeper 68 = .ok (.invokevirtual 99, 3) := by decide +kernel
theorem dX11_sleeper_71 : decode cX11_sleeper 71 = .ok (.ireturn, 1) := by decide +kernel
theorem dX11_thing_0 : decode cX11_thing 0 = .ok (.iload_n 1, 1) := by decide +kernel
theorem dX11_thing_1 : decode cX11_thing 1 = .ok (.invokestatic 76, 3) := by decide +kernel
theorem dX11_thing_4 : decode cX11_thing 4 = .ok (.ifCond .ne 10, 3) := by decide +kernel
theorem dX11_thing_7 : decode cX11_thing 7 = .ok (.aload_n 0, 1) := by decide +kernel
theorem dX11_thing_8 : decode cX11_thing 8 = .ok (.bipush (-2), 2) := by decide +kernel
theorem dX11_thing_10 : decode cX11_thing 10 = .ok (.invokevirtual 84, 3) := by decide +kernel
theorem dX11_thing_13 : decode cX11_thing 13 = .ok (.ireturn, 1) := by decide +kernel
theorem dX11_thing_14 : decode cX11_thing 14 = .ok (.aload_n 0, 1) := by decide +kernel
theorem dX11_thing_15 : decode cX11_thing 15 = .ok (.getfield 10, 3) := by decide +kernel
theorem dX11_thing_18 : decode cX11_thing 18 = .ok (.getfield 63, 3) := by decide +kernel
theorem dX11_thing_21 : decode cX11_thing 21 = .ok (.getfield 102, 3) := by decide +kernel
theorem dX11_thing_24 : decode cX11_thing 24 = .ok (.iconst 5, 1) := by decide +kernel
theorem dX11_thing_25 : decode cX11_thing 25 = .ok (.if_icmp .lt 8, 3) := by decide +kernel
theorem dX11_thing_28 : decode cX11_thing 28 = .ok (.aload_n 0, 1) := by decide +kernel
theorem dX11_thing_29 : decode cX11_thing 29 = .ok (.invokevirtual 92, 3) := by decide +kernel
theorem dX11_thing_32 : decode cX11_thing 32 = .ok (.ireturn, 1) := by decide +kernel
theorem dX11_thing_33 : decode cX11_thing 33 = .ok (.aload_n 0, 1) := by decide +kernel
theorem dX11_thing_34 : decode cX11_thing 34 = .ok (.getfield 10, 3) := by decide +kernel
theorem dX11_thing_37 : decode cX11_thing 37 = .ok (.getfield 63, 3) := by decide +kernel
theorem dX11_thing_40 : decode cX11_thing 40 = .ok (.iload_n 1, 1) := by decide +kernel
theorem dX11_thing_41 : decode cX11_thing 41 = .ok (.invokevirtual 105, 3) := by decide +kernel
theorem dX11_thing_44 : decode cX11_thing 44 = .ok (.ireturn, 1) := by decide +kernel
theorem dX11_owner_0 : decode cX11_owner 0 = .ok (.aload_n 0, 1) := by decide +kernel
theorem dX11_owner_1 : decode cX11_owner 1 = .ok (.getfield 10, 3) := by decide +kernel
theorem dX11_owner_4 : decode cX11_owner 4 = .ok (.getfield 63, 3) := by decide +kernel
theorem dX11_owner_7 : decode cX11_owner 7 = .ok (.astore_n 3, 1) := by decide +kernel
theorem dX11_owner_8 : decode cX11_owner 8 = .ok (.aload_n 0, 1) := by decide +kernel
theorem dX11_owner_9 : decode cX11_owner 9 = .ok (.iload_n 1, 1) := by decide +kernel
theorem dX11_owner_10 : decode cX11_owner 10 = .ok (.invokevirtual 108, 3) := by decide +kernel
theorem dX11_owner_13 : decode cX11_owner 13 = .ok (.ifCond .eq 19, 3) := by decide +kernel
theorem dX11_owner_16 : decode cX11_owner 16 = .ok (.iload_n 2, 1) := by decide +kernel
theorem dX11_owner_17 : decode cX11_owner 17 = .ok (.invokestatic 111, 3) := by decide +kernel
theorem dX11_owner_20 : decode cX11_owner 20 = .ok (.ifCond .eq 12, 3) := by decide +kernel
theorem dX11_owner_23 : decode cX11_owner 23 = .ok (.aload_n 3, 1) := by decide +kernel
theorem dX11_owner_24 : decode cX11_owner 24 = .ok (.iload_n 1, 1) := by decide +kernel
theorem dX11_owner_25 : decode cX11_owner 25 = .ok (.invokevirtual 114, 3) := by decide +kernel
theorem dX11_owner_28 : decode cX11_owner 28 = .ok (.iload_n 2, 1) := by decide +kernel
theorem dX11_owner_29 : decode cX11_owner 29 = .ok (.if_icmp .ne 10, 3) := by decide +kernel
theorem dX11_owner_32 : decode cX11_owner 32 = .ok (.aload_n 0, 1) := by decide +kernel
theorem dX11_owner_33 : decode cX11_owner 33 = .ok (.bipush (-2), 2) := by decide +kernel
theorem dX11_owner_35 : decode cX11_owner 35 = .ok (.invokevirtual 84, 3) := by decide +kernel
theorem dX11_owner_38 : decode cX11_owner 38 = .ok (.ireturn, 1) := by decide +kernel
theorem dX11_owner_39 : decode cX11_owner 39 = .ok (.aload_n 3, 1) := by decide +kernel
theorem dX11_owner_40 : decode cX11_owner 40 = .ok (.getfield 117, 3) := by decide +kernel
theorem dX11_owner_43 : decode cX11_owner 43 = .ok (.iload_n 1, 1) := by decide +kernel
theorem dX11_owner_44 : decode cX11_owner 44 = .ok (.iaload, 1) := by decide +kernel
theorem dX11_owner_45 : decode cX11_owner 45 = .ok (.iconst 4, 1) := by decide +kernel
theorem dX11_owner_46 : decode cX11_owner 46 = .ok (.if_icmp .lt 8, 3) := by decide +kernel
theorem dX11_owner_49 : decode cX11_owner 49 = .ok (.aload_n 0, 1) := by decide +kernel
theorem dX11_owner_50 : decode cX11_owner 50 = .ok (.invokevirtual 92, 3) := by decide +kernel
theorem dX11_owner_53 : decode cX11_owner 53 = .ok (.ireturn, 1) := by decide +kernel
theorem dX11_owner_54 : decode cX11_owner 54 = .ok (.aload_n 3, 1) := by decide +kernel
theorem dX11_owner_55 : decode cX11_owner 55 = .ok (.iload_n 1, 1) := by decide +kernel
theorem dX11_owner_56 : decode cX11_owner 56 = .ok (.iload_n 2, 1) := by decide +kernel
theorem dX11_owner_57 : decode cX11_owner 57 = .ok (.invokevirtual 121, 3) := by decide +kernel
theorem dX11_owner_60 : decode cX11_owner 60 = .ok (.ireturn, 1) := by decide +kernel
theorem dX11_type_0 : decode cX11_type 0 = .ok (.iload_n 1, 1) := by decide +kernel
theorem dX11_type_1 : decode cX11_type 1 = .ok (.bipush 127, 2) := by decide +kernel
theorem dX11_type_3 : decode cX11_type 3 = .ok (.invokestatic 80, 3) := by decide +kernel
theorem dX11_type_6 : decode cX11_type 6 = .ok (.ifCond .ne 10, 3) := by decide +kernel
theorem dX11_type_9 : decode cX11_type 9 = .ok (.aload_n 0, 1) := by decide +kernel
theorem dX11_type_10 : decode cX11_type 10 = .ok (.bipush (-2), 2) := by decide +kernel
theorem dX11_type_12 : decode cX11_type 12 = .ok (.invokevirtual 84, 3) := by decide +kernel
theorem dX11_type_15 : decode cX11_type 15 = .ok (.ireturn, 1) := by decide +kernel
theorem dX11_type_16 : decode cX11_type 16 = .ok (.aload_n 0, 1) := by decide +kernel
theorem dX11_type_17 : decode cX11_type 17 = .ok (.getfield 27, 3) := by decide +kernel
theorem dX11_type_20 : decode cX11_type 20 = .ok (.getfield 125, 3) := by decide +kernel
theorem dX11_type_23 : decode cX11_type 23 = .ok (.sipush 150, 3) := by decide +kernel
theorem dX11_type_26 : decode cX11_type 26 = .ok (.if_icmp .lt 8, 3) := by decide +kernel
theorem dX11_type_29 : decode cX11_type 29 = .ok (.aload_n 0, 1) := by decide +kernel
theorem dX11_type_30 : decode cX11_type 30 = .ok (.invokevirtual 92, 3) := by decide +kernel
theorem dX11_type_33 : decode cX11_type 33 = .ok (.ireturn, 1) := by decide +kernel
theorem dX11_type_34 : decode cX11_type 34 = .ok (.aload_n 0, 1) := by decide +kernel
theorem dX11_type_35 : decode cX11_type 35 = .ok (.getfield 27, 3) := by decide +kernel
theorem dX11_type_38 : decode cX11_type 38 = .ok (.iload_n 1, 1) := by decide +kernel
theorem dX11_type_39 : decode cX11_type 39 = .ok (.invokevirtual 128, 3) := by decide +kernel
theorem dX11_type_42 : decode cX11_type 42 = .ok (.ireturn, 1) := by decide +kernel
theorem dX11_clear_0 : decode cX11_clear 0 = .ok (.aload_n 0, 1) := by decide +kernel
theorem dX11_clear_1 : decode cX11_clear 1 = .ok (.getfield 27, 3) := by decide +kernel
theorem dX11_clear_4 : decode cX11_clear 4 = .ok (.getfield 125, 3) := by decide +kernel
theorem dX11_clear_7 : decode cX11_clear 7 = .ok (.istore_n 1, 1) := by decide +kernel
theorem dX11_clear_8 : decode cX11_clear 8 = .ok (.aload_n 0, 1) := by decide +kernel
theorem dX11_clear_9 : decode cX11_clear 9 = .ok (.getfield 27, 3) := by decide +kernel
theorem dX11_clear_12 : decode cX11_clear 12 = .ok (.iconst 0, 1) := by decide +kernel
theorem dX11_clear_13 : decode cX11_clear 13 = .ok (.putfield 125, 3) := by decide +kernel
theorem dX11_clear_16 : decode cX11_clear 16 = .ok (.iload_n 1, 1) := by decide +kernel
theorem dX11_clear_17 : decode cX11_clear 17 = .ok (.ireturn, 1) := by decide +kernel
theorem dX11_read_0 : decode cX11_read 0 = .ok (.aload_n 0, 1) := by decide +kernel
theorem dX11_read_1 : decode cX11_read 1 = .ok (.getfield 27, 3) := by decide +kernel
theorem dX11_read_4 : decode cX11_read 4 = .ok (.aload_n 0, 1) := by decide +kernel
theorem dX11_read_5 : decode cX11_read 5 = .ok (.getfield 34, 3) := by decide +kernel
theorem dX11_read_8 : decode cX11_read 8 = .ok (.invokevirtual 131, 3) := by decide +kernel
theorem dX11_read_11 : decode cX11_read 11 = .ok (.istore_n 1, 1) := by decide +kernel
theorem dX11_read_12 : decode cX11_read 12 = .ok (.iload_n 1, 1) := by decide +kernel
theorem dX11_read_13 : decode cX11_read 13 = .ok (.ifCond .le 24, 3) := by decide +kernel
theorem dX11_read_16 : decode cX11_read 16 = .ok (.aload_n 0, 1) := by decide +kernel
theorem dX11_read_17 : decode cX11_read 17 = .ok (.getfield 10, 3) := by decide +kernel
theorem dX11_read_20 : decode cX11_read 20 = .ok (.getfield 63, 3) := by decide +kernel
theorem dX11_read_23 : decode cX11_read 23 = .ok (.aload_n 0, 1) := by decide +kernel
theorem dX11_read_24 : decode cX11_read 24 = .ok (.getfield 34, 3) := by decide +kernel
theorem dX11_read_27 : decode cX11_read 27 = .ok (.invokevirtual 135, 3) := by decide +kernel
theorem dX11_read_30 : decode cX11_read 30 = .ok (.aload_n 0, 1) := by decide +kernel
theorem dX11_read_31 : decode cX11_read 31 = .ok (.getfield 10, 3) := by decide +kernel
theorem dX11_read_34 : decode cX11_read 34 = .ok (.invokevirtual 73, 3) := by decide +kernel
theorem dX11_read_37 : decode cX11_read 37 = .ok (.iload_n 1, 1) := by decide +kernel
theorem dX11_read_38 : decode cX11_read 38 = .ok (.ireturn, 1) := by decide +kernel
theorem dX11_step_0 : decode cX11_step 0 = .ok (.iload_n 1, 1) := by decide +kernel
theorem dX11_step_1 : decode cX11_step 1 = .ok (.invokestatic 111, 3) := by decide +kernel
theorem dX11_step_4 : decode cX11_step 4 = .ok (.ifCond .eq 10, 3) := by decide +kernel
theorem dX11_step_7 : decode cX11_step 7 = .ok (.iload_n 2, 1) := by decide +kernel
theorem dX11_step_8 : decode cX11_step 8 = .ok (.invokestatic 76, 3) := by decide +kernel
theorem dX11_step_11 : decode cX11_step 11 = .ok (.ifCond .ne 10, 3) := by decide +kernel
theorem dX11_step_14 : decode cX11_step 14 = .ok (.aload_n 0, 1) := by decide +kernel
theorem dX11_step_15 : decode cX11_step 15 = .ok (.bipush (-2), 2) := by decide +kernel
theorem dX11_step_17 : decode cX11_step 17 = .ok (.invokevirtual 84, 3) := by decide +kernel
theorem dX11_step_20 : decode cX11_step 20 = .ok (.ireturn, 1) := by decide +kernel
theorem dX11_step_21 : decode cX11_step 21 = .ok (.aload_n 0, 1) := by decide +kernel
theorem dX11_step_22 : decode cX11_step 22 = .ok (.getfield 10, 3) := by decide +kernel
theorem dX11_step_25 : decode cX11_step 25 = .ok (.getfield 63, 3) := by decide +kernel
theorem dX11_step_28 : decode cX11_step 28 = .ok (.getfield 139, 3) := by decide +kernel
theorem dX11_step_31 : decode cX11_step 31 = .ok (.aload_n 0, 1) := by decide +kernel
theorem dX11_step_32 : decode cX11_step 32 = .ok (.getfield 10, 3) := by decide +kernel
theorem dX11_step_35 : decode cX11_step 35 = .ok (.getfield 142, 3) := by decide +kernel
theorem dX11_step_38 : decode cX11_step 38 = .ok (.iload_n 1, 1) := by decide +kernel
theorem dX11_step_39 : decode cX11_step 39 = .ok (.iaload, 1) := by decide +kernel
theorem dX11_step_40 : decode cX11_step 40 = .ok (.iload_n 2, 1) := by decide +kernel
theorem dX11_step_41 : decode cX11_step 41 = .ok (.invokestatic 145, 3) := by decide +kernel
theorem dX11_step_44 : decode cX11_step 44 = .ok (.iaload, 1) := by decide +kernel
theorem dX11_step_45 : decode cX11_step 45 = .ok (.istore_n 3, 1) := by decide +kernel
theorem dX11_step_46 : decode cX11_step 46 = .ok (.iload_n 3, 1) := by decide +kernel
theorem dX11_step_47 : decode cX11_step 47 = .ok (.ifCond .ge 8, 3) := by decide +kernel
theorem dX11_step_50 : decode cX11_step 50 = .ok (.aload_n 0, 1) := by decide +kernel
theorem dX11_step_51 : decode cX11_step 51 = .ok (.invokevirtual 148, 3) := by decide +kernel
theorem dX11_step_54 : decode cX11_step 54 = .ok (.ireturn, 1) := by decide +kernel
theorem dX11_step_55 : decode cX11_step 55 = .ok (.aload_n 0, 1) := by decide +kernel
theorem dX11_step_56 : decode cX11_step 56 = .ok (.getfield 10, 3) := by decide +kernel
theorem dX11_step_59 : decode cX11_step 59 = .ok (.iload_n 1, 1) := by decide +kernel
theorem dX11_step_60 : decode cX11_step 60 = .ok (.iload_n 2, 1) := by decide +kernel
theorem dX11_step_61 : decode cX11_step 61 = .ok (.iload_n 3, 1) := by decide +kernel
theorem dX11_step_62 : decode cX11_step 62 = .ok (.invokevirtual 151, 3) := by decide +kernel
theorem dX11_step_65 : decode cX11_step 65 = .ok (.ireturn, 1) := by decide +kernel
theorem dX11_waits_0 : decode cX11_waits 0 = .ok (.iload_n 1, 1) := by decide +kernel
theorem dX11_waits_1 : decode cX11_waits 1 = .ok (.iconst 1, 1) := by decide +kernel
theorem dX11_waits_2 : decode cX11_waits 2 = .ok (.if_icmp .lt 9, 3) := by decide +kernel
theorem dX11_waits_5 : decode cX11_waits 5 = .ok (.iload_n 1, 1) := by decide +kernel
theorem dX11_waits_6 : decode cX11_waits 6 = .ok (.bipush 59, 2) := by decide +kernel
theorem dX11_waits_8 : decode cX11_waits 8 = .ok (.if_icmp .le 10, 3) := by decide +kernel
theorem dX11_waits_11 : decode cX11_waits 11 = .ok (.aload_n 0, 1) := by decide +kernel
theorem dX11_waits_12 : decode cX11_waits 12 = .ok (.bipush (-2), 2) := by decide +kernel
theorem dX11_waits_14 : decode cX11_waits 14 = .ok (.invokevirtual 84, 3) := by decide +kernel
theorem dX11_waits_17 : decode cX11_waits 17 = .ok (.ireturn, 1) := by decide +kernel
theorem dX11_waits_18 : decode cX11_waits 18 = .ok (.aload_n 0, 1) := by decide +kernel
theorem dX11_waits_19 : decode cX11_waits 19 = .ok (.getfield 10, 3) := by decide +kernel
theorem dX11_waits_22 : decode cX11_waits 22 = .ok (.invokevirtual 154, 3) := by decide +kernel
theorem dX11_waits_25 : decode cX11_waits 25 = .ok (.aload_n 0, 1) := by decide +kernel
theorem dX11_waits_26 : decode cX11_waits 26 = .ok (.getfield 10, 3) := by decide +kernel
theorem dX11_waits_29 : decode cX11_waits 29 = .ok (.aload_n 0, 1) := by decide +kernel
theorem dX11_waits_30 : decode cX11_waits 30 = .ok (.getfield 10, 3) := by decide +kernel
theorem dX11_waits_33 : decode cX11_waits 33 = .ok (.getfield 157, 3) := by decide +kernel
theorem dX11_waits_36 : decode cX11_waits 36 = .ok (.iload_n 1, 1) := by decide +kernel
theorem dX11_waits_37 : decode cX11_waits 37 = .ok (.iadd, 1) := by decide +kernel
theorem dX11_waits_38 : decode cX11_waits 38 = .ok (.bipush 59, 2) := by decide +kernel
theorem dX11_waits_40 : decode cX11_waits 40 = .ok (.invokestatic 160, 3) := by decide +kernel
theorem dX11_waits_43 : decode cX11_waits 43 = .ok (.putfield 157, 3) := by decide +kernel
theorem dX11_waits_46 : decode cX11_waits 46 = .ok (.aload_n 0, 1) := by decide +kernel
theorem dX11_waits_47 : decode cX11_waits 47 = .ok (.getfield 10, 3) := by decide +kernel
theorem dX11_waits_50 : decode cX11_waits 50 = .ok (.getfield 157, 3) := by decide +kernel
theorem dX11_waits_53 : decode cX11_waits 53 = .ok (.ireturn, 1) := by decide +kernel
theorem dX11_undo_0 : decode cX11_undo 0 = .ok (.aload_n 0, 1) := by decide +kernel
theorem dX11_undo_1 : decode cX11_undo 1 = .ok (.getfield 10, 3) := by decide +kernel
theorem dX11_undo_4 : decode cX11_undo 4 = .ok (.getfield 96, 3) := by decide +kernel
theorem dX11_undo_7 : decode cX11_undo 7 = .ok (.ifCond .gt 8, 3) := by decide +kernel
theorem dX11_undo_10 : decode cX11_undo 10 = .ok (.aload_n 0, 1) := by decide +kernel
theorem dX11_undo_11 : decode cX11_undo 11 = .ok (.invokevirtual 148, 3) := by decide +kernel
theorem dX11_undo_14 : decode cX11_undo 14 = .ok (.ireturn, 1) := by decide +kernel
theorem dX11_undo_15 : decode cX11_undo 15 = .ok (.aload_n 0, 1) := by decide +kernel
theorem dX11_undo_16 : decode cX11_undo 16 = .ok (.getfield 10, 3) := by decide +kernel
theorem dX11_undo_19 : decode cX11_undo 19 = .ok (.invokevirtual 165, 3) := by decide +kernel
theorem dX11_undo_22 : decode cX11_undo 22 = .ok (.ireturn, 1) := by decide +kernel
theorem dX11_of_0 : decode cX11_of 0 = .ok (.aload_n 0, 1) := by decide +kernel
theorem dX11_of_1 : decode cX11_of 1 = .ok (.iload_n 1, 1) := by decide +kernel
theorem dX11_of_2 : decode cX11_of 2 = .ok (.invokevirtual 168, 3) := by decide +kernel
theorem dX11_of_5 : decode cX11_of 5 = .ok (.ifCond .ne 10, 3) := by decide +kernel
theorem dX11_of_8 : decode cX11_of 8 = .ok (.aload_n 0, 1) := by decide +kernel
theorem dX11_of_9 : decode cX11_of 9 = .ok (.bipush (-2), 2) := by decide +kernel
theorem dX11_of_11 : decode cX11_of 11 = .ok (.invokevirtual 84, 3) := by decide +kernel
theorem dX11_of_14 : decode cX11_of 14 = .ok (.ireturn, 1) := by decide +kernel
theorem dX11_of_15 : decode cX11_of 15 = .ok (.iload_n 2, 1) := by decide +kernel
theorem dX11_of_16 : decode cX11_of 16 = .ok (.tableswitch 83 0 3 #[32, 45, 58, 71], 32) := by decide +kernel
theorem dX11_of_48 : decode cX11_of 48 = .ok (.aload_n 0, 1) := by decide +kernel
theorem dX11_of_49 : decode cX11_of 49 = .ok (.getfield 10, 3) := by decide +kernel
theorem dX11_of_52 : decode cX11_of 52 = .ok (.getfield 63, 3) := by decide +kernel
theorem dX11_of_55 : decode cX11_of 55 = .ok (.getfield 171, 3) := by decide +kernel
theorem dX11_of_58 : decode cX11_of 58 = .ok (.iload_n 1, 1) := by decide +kernel
theorem dX11_of_59 : decode cX11_of 59 = .ok (.iaload, 1) := by decide +kernel
theorem dX11_of_60 : decode cX11_of 60 = .ok (.ireturn, 1) := by decide +kernel
theorem dX11_of_61 : decode cX11_of 61 = .ok (.aload_n 0, 1) := by decide +kernel
theorem dX11_of_62 : decode cX11_of 62 = .ok (.getfield 10, 3) := by decide +kernel
theorem dX11_of_65 : decode cX11_of 65 = .ok (.getfield 63, 3) := by decide +kernel
theorem dX11_of_68 : decode cX11_of 68 = .ok (.getfield 174, 3) := by decide +kernel
theorem dX11_of_71 : decode cX11_of 71 = .ok (.iload_n 1, 1) := by decide +kernel
theorem dX11_of_72 : decode cX11_of 72 = .ok (.iaload, 1) := by decide +kernel
theorem dX11_of_73 : decode cX11_of 73 = .ok (.ireturn, 1) := by decide +kernel
theorem dX11_of_74 : decode cX11_of 74 = .ok (.aload_n 0, 1) := by decide +kernel
theorem dX11_of_75 : decode cX11_of 75 = .ok (.getfield 10, 3) := by decide +kernel
theorem dX11_of_78 : decode cX11_of 78 = .ok (.getfield 63, 3) := by decide +kernel
theorem dX11_of_81 : decode cX11_of 81 = .ok (.getfield 177, 3) := by decide +kernel
theorem dX11_of_84 : decode cX11_of 84 = .ok (.iload_n 1, 1) := by decide +kernel
theorem dX11_of_85 : decode cX11_of 85 = .ok (.iaload, 1) := by decide +kernel
theorem dX11_of_86 : decode cX11_of 86 = .ok (.ireturn, 1) := by decide +kernel
theorem dX11_of_87 : decode cX11_of 87 = .ok (.aload_n 0, 1) := by decide +kernel
theorem dX11_of_88 : decode cX11_of 88 = .ok (.getfield 10, 3) := by decide +kernel
theorem dX11_of_91 : decode cX11_of 91 = .ok (.getfield 180, 3) := by decide +kernel
theorem dX11_of_94 : decode cX11_of 94 = .ok (.iload_n 1, 1) := by decide +kernel
theorem dX11_of_95 : decode cX11_of 95 = .ok (.invokestatic 183, 3) := by decide +kernel
theorem dX11_of_98 : decode cX11_of 98 = .ok (.ireturn, 1) := by decide +kernel
theorem dX11_of_99 : decode cX11_of 99 = .ok (.aload_n 0, 1) := by decide +kernel
theorem dX11_of_100 : decode cX11_of 100 = .ok (.bipush (-2), 2) := by decide +kernel
theorem dX11_of_102 : decode cX11_of 102 = .ok (.invokevirtual 84, 3) := by decide +kernel
theorem dX11_of_105 : decode cX11_of 105 = .ok (.ireturn, 1) := by decide +kernel
theorem dX11_where_0 : decode cX11_where 0 = .ok (.iload_n 1, 1) := by decide +kernel
theorem dX11_where_1 : decode cX11_where 1 = .ok (.invokestatic 111, 3) := by decide +kernel
theorem dX11_where_4 : decode cX11_where 4 = .ok (.ifCond .eq 15, 3) := by decide +kernel
theorem dX11_where_7 : decode cX11_where 7 = .ok (.aload_n 0, 1) := by decide +kernel
theorem dX11_where_8 : decode cX11_where 8 = .ok (.getfield 10, 3) := by decide +kernel
theorem dX11_where_11 : decode cX11_where 11 = .ok (.getfield 142, 3) := by decide +kernel
theorem dX11_where_14 : decode cX11_where 14 = .ok (.iload_n 1, 1) := by decide +kernel
theorem dX11_where_15 : decode cX11_where 15 = .ok (.iaload, 1) := by decide +kernel
theorem dX11_where_16 : decode cX11_where 16 = .ok (.goto 9, 3) := by decide +kernel
theorem dX11_where_19 : decode cX11_where 19 = .ok (.aload_n 0, 1) := by decide +kernel
theorem dX11_where_20 : decode cX11_where 20 = .ok (.bipush (-2), 2) := by decide +kernel
theorem dX11_where_22 : decode cX11_where 22 = .ok (.invokevirtual 84, 3) := by decide +kernel
theorem dX11_where_25 : decode cX11_where 25 = .ok (.ireturn, 1) := by decide +kernel
theorem dX11_far_0 : decode cX11_far 0 = .ok (.iload_n 1, 1) := by decide +kernel
theorem dX11_far_1 : decode cX11_far 1 = .ok (.invokestatic 76, 3) := by decide +kernel
theorem dX11_far_4 : decode cX11_far 4 = .ok (.ifCond .eq 10, 3) := by decide +kernel
theorem dX11_far_7 : decode cX11_far 7 = .ok (.iload_n 2, 1) := by decide +kernel
theorem dX11_far_8 : decode cX11_far 8 = .ok (.invokestatic 76, 3) := by decide +kernel
theorem dX11_far_11 : decode cX11_far 11 = .ok (.ifCond .ne 10, 3) := by decide +kernel
theorem dX11_far_14 : decode cX11_far 14 = .ok (.aload_n 0, 1) := by decide +kernel
theorem dX11_far_15 : decode cX11_far 15 = .ok (.bipush (-2), 2) := by decide +kernel
theorem dX11_far_17 : decode cX11_far 17 = .ok (.invokevirtual 84, 3) := by decide +kernel
theorem dX11_far_20 : decode cX11_far 20 = .ok (.ireturn, 1) := by decide +kernel
theorem dX11_far_21 : decode cX11_far 21 = .ok (.aload_n 0, 1) := by decide +kernel
theorem dX11_far_22 : decode cX11_far 22 = .ok (.getfield 10, 3) := by decide +kernel
theorem dX11_far_25 : decode cX11_far 25 = .ok (.getfield 63, 3) := by decide +kernel
theorem dX11_far_28 : decode cX11_far 28 = .ok (.getfield 186, 3) := by decide +kernel
theorem dX11_far_31 : decode cX11_far 31 = .ok (.iload_n 1, 1) := by decide +kernel
theorem dX11_far_32 : decode cX11_far 32 = .ok (.iload_n 2, 1) := by decide +kernel
theorem dX11_far_33 : decode cX11_far 33 = .ok (.invokestatic 145, 3) := by decide +kernel
theorem dX11_far_36 : decode cX11_far 36 = .ok (.iaload, 1) := by decide +kernel
theorem dX11_far_37 : decode cX11_far 37 = .ok (.istore_n 3, 1) := by decide +kernel
theorem dX11_far_38 : decode cX11_far 38 = .ok (.iload_n 3, 1) := by decide +kernel
theorem dX11_far_39 : decode cX11_far 39 = .ok (.bipush 100, 2) := by decide +kernel
theorem dX11_far_41 : decode cX11_far 41 = .ok (.if_icmp .lt 7, 3) := by decide +kernel
theorem dX11_far_44 : decode cX11_far 44 = .ok (.iconst (-1), 1) := by decide +kernel
theorem dX11_far_45 : decode cX11_far 45 = .ok (.goto 4, 3) := by decide +kernel
theorem dX11_far_48 : decode cX11_far 48 = .ok (.iload_n 3, 1) := by decide +kernel
theorem dX11_far_49 : decode cX11_far 49 = .ok (.ireturn, 1) := by decide +kernel
theorem dX11_wakes_0 : decode cX11_wakes 0 = .ok (.iload_n 1, 1) := by decide +kernel
theorem dX11_wakes_1 : decode cX11_wakes 1 = .ok (.bipush 30, 2) := by decide +kernel
theorem dX11_wakes_3 : decode cX11_wakes 3 = .ok (.invokestatic 80, 3) := by decide +kernel
theorem dX11_wakes_6 : decode cX11_wakes 6 = .ok (.ifCond .eq 19, 3) := by decide +kernel
theorem dX11_wakes_9 : decode cX11_wakes 9 = .ok (.iload_n 2, 1) := by decide +kernel
theorem dX11_wakes_10 : decode cX11_wakes 10 = .ok (.invokestatic 76, 3) := by decide +kernel
theorem dX11_wakes_13 : decode cX11_wakes 13 = .ok (.ifCond .eq 12, 3) := by decide +kernel
theorem dX11_wakes_16 : decode cX11_wakes 16 = .ok (.iload_n 3, 1) := by decide +kernel
theorem dX11_wakes_17 : decode cX11_wakes 17 = .ok (.bipush 59, 2) := by decide +kernel
theorem dX11_wakes_19 : decode cX11_wakes 19 = .ok (.invokestatic 80, 3) := by decide +kernel
theorem dX11_wakes_22 : decode cX11_wakes 22 = .ok (.ifCond .ne 10, 3) := by decide +kernel
theorem dX11_wakes_25 : decode cX11_wakes 25 = .ok (.aload_n 0, 1) := by decide +kernel
theorem dX11_wakes_26 : decode cX11_wakes 26 = .ok (.bipush (-2), 2) := by decide +kernel
theorem dX11_wakes_28 : decode cX11_wakes 28 = .ok (.invokevirtual 84, 3) := by decide +kernel
theorem dX11_wakes_31 : decode cX11_wakes 31 = .ok (.ireturn, 1) := by decide +kernel
theorem dX11_wakes_32 : decode cX11_wakes 32 = .ok (.aload_n 0, 1) := by decide +kernel
theorem dX11_wakes_33 : decode cX11_wakes 33 = .ok (.getfield 10, 3) := by decide +kernel
theorem dX11_wakes_36 : decode cX11_wakes 36 = .ok (.getfield 63, 3) := by decide +kernel
theorem dX11_wakes_39 : decode cX11_wakes 39 = .ok (.iload_n 1, 1) := by decide +kernel
theorem dX11_wakes_40 : decode cX11_wakes 40 = .ok (.iload_n 2, 1) := by decide +kernel
theorem dX11_wakes_41 : decode cX11_wakes 41 = .ok (.iload_n 3, 1) := by decide +kernel
theorem dX11_wakes_42 : decode cX11_wakes 42 = .ok (.invokevirtual 189, 3) := by decide +kernel
theorem dX11_wakes_45 : decode cX11_wakes 45 = .ok (.ireturn, 1) := by decide +kernel
theorem dX11_loud_0 : decode cX11_loud 0 = .ok (.iload_n 1, 1) := by decide +kernel
theorem dX11_loud_1 : decode cX11_loud 1 = .ok (.invokestatic 76, 3) := by decide +kernel
theorem dX11_loud_4 : decode cX11_loud 4 = .ok (.ifCond .eq 12, 3) := by decide +kernel
theorem dX11_loud_7 : decode cX11_loud 7 = .ok (.iload_n 2, 1) := by decide +kernel
theorem dX11_loud_8 : decode cX11_loud 8 = .ok (.bipush 59, 2) := by decide +kernel
theorem dX11_loud_10 : decode cX11_loud 10 = .ok (.invokestatic 80, 3) := by decide +kernel
theorem dX11_loud_13 : decode cX11_loud 13 = .ok (.ifCond .ne 10, 3) := by decide +kernel
theorem dX11_loud_16 : decode cX11_loud 16 = .ok (.aload_n 0, 1) := by decide +kernel
theorem dX11_loud_17 : decode cX11_loud 17 = .ok (.bipush (-2), 2) := by decide +kernel
theorem dX11_loud_19 : decode cX11_loud 19 = .ok (.invokevirtual 84, 3) := by decide +kernel
theorem dX11_loud_22 : decode cX11_loud 22 = .ok (.ireturn, 1) := by decide +kernel
theorem dX11_loud_23 : decode cX11_loud 23 = .ok (.aload_n 0, 1) := by decide +kernel
theorem dX11_loud_24 : decode cX11_loud 24 = .ok (.getfield 10, 3) := by decide +kernel
theorem dX11_loud_27 : decode cX11_loud 27 = .ok (.getfield 63, 3) := by decide +kernel
theorem dX11_loud_30 : decode cX11_loud 30 = .ok (.iload_n 1, 1) := by decide +kernel
theorem dX11_loud_31 : decode cX11_loud 31 = .ok (.iload_n 2, 1) := by decide +kernel
theorem dX11_loud_32 : decode cX11_loud 32 = .ok (.invokevirtual 192, 3) := by decide +kernel
theorem dX11_loud_35 : decode cX11_loud 35 = .ok (.ireturn, 1) := by decide +kernel
theorem dX11_way_0 : decode cX11_way 0 = .ok (.iload_n 1, 1) := by decide +kernel
theorem dX11_way_1 : decode cX11_way 1 = .ok (.invokestatic 76, 3) := by decide +kernel
theorem dX11_way_4 : decode cX11_way 4 = .ok (.ifCond .eq 28, 3) := by decide +kernel
theorem dX11_way_7 : decode cX11_way 7 = .ok (.iload_n 2, 1) := by decide +kernel
theorem dX11_way_8 : decode cX11_way 8 = .ok (.invokestatic 76, 3) := by decide +kernel
theorem dX11_way_11 : decode cX11_way 11 = .ok (.ifCond .eq 21, 3) := by decide +kernel
theorem dX11_way_14 : decode cX11_way 14 = .ok (.iload_n 3, 1) := by decide +kernel
theorem dX11_way_15 : decode cX11_way 15 = .ok (.bipush 59, 2) := by decide +kernel
theorem dX11_way_17 : decode cX11_way 17 = .ok (.invokestatic 80, 3) := by decide +kernel
theorem dX11_way_20 : decode cX11_way 20 = .ok (.ifCond .eq 12, 3) := by decide +kernel
theorem dX11_way_23 : decode cX11_way 23 = .ok (.iload 4, 2) := by decide +kernel
theorem dX11_way_25 : decode cX11_way 25 = .ok (.iconst 1, 1) := by decide +kernel
theorem dX11_way_26 : decode cX11_way 26 = .ok (.invokestatic 80, 3) := by decide +kernel
theorem dX11_way_29 : decode cX11_way 29 = .ok (.ifCond .ne 10, 3) := by decide +kernel
theorem dX11_way_32 : decode cX11_way 32 = .ok (.aload_n 0, 1) := by decide +kernel
theorem dX11_way_33 : decode cX11_way 33 = .ok (.bipush (-2), 2) := by decide +kernel
theorem dX11_way_35 : decode cX11_way 35 = .ok (.invokevirtual 84, 3) := by decide +kernel
theorem dX11_way_38 : decode cX11_way 38 = .ok (.ireturn, 1) := by decide +kernel
theorem dX11_way_39 : decode cX11_way 39 = .ok (.aload_n 0, 1) := by decide +kernel
theorem dX11_way_40 : decode cX11_way 40 = .ok (.getfield 41, 3) := by decide +kernel
theorem dX11_way_43 : decode cX11_way 43 = .ok (.aload_n 0, 1) := by decide +kernel
theorem dX11_way_44 : decode cX11_way 44 = .ok (.getfield 10, 3) := by decide +kernel
theorem dX11_way_47 : decode cX11_way 47 = .ok (.getfield 63, 3) := by decide +kernel
theorem dX11_way_50 : decode cX11_way 50 = .ok (.iload_n 1, 1) := by decide +kernel
theorem dX11_way_51 : decode cX11_way 51 = .ok (.iload_n 2, 1) := by decide +kernel
theorem dX11_way_52 : decode cX11_way 52 = .ok (.iload_n 3, 1) := by decide +kernel
theorem dX11_way_53 : decode cX11_way 53 = .ok (.invokevirtual 195, 3) := by decide +kernel
theorem dX11_way_56 : decode cX11_way 56 = .ok (.istore 5, 2) := by decide +kernel
theorem dX11_way_58 : decode cX11_way 58 = .ok (.iload 4, 2) := by decide +kernel
theorem dX11_way_60 : decode cX11_way 60 = .ok (.ifCond .eq 9, 3) := by decide +kernel
theorem dX11_way_63 : decode cX11_way 63 = .ok (.iload 5, 2) := by decide +kernel
theorem dX11_way_65 : decode cX11_way 65 = .ok (.iconst (-1), 1) := by decide +kernel
theorem dX11_way_66 : decode cX11_way 66 = .ok (.if_icmp .ne 6, 3) := by decide +kernel
theorem dX11_way_69 : decode cX11_way 69 = .ok (.iload 5, 2) := by decide +kernel
theorem dX11_way_71 : decode cX11_way 71 = .ok (.ireturn, 1) := by decide +kernel
theorem dX11_way_72 : decode cX11_way 72 = .ok (.aload_n 0, 1) := by decide +kernel
theorem dX11_way_73 : decode cX11_way 73 = .ok (.getfield 41, 3) := by decide +kernel
theorem dX11_way_76 : decode cX11_way 76 = .ok (.aload_n 0, 1) := by decide +kernel
theorem dX11_way_77 : decode cX11_way 77 = .ok (.getfield 10, 3) := by decide +kernel
theorem dX11_way_80 : decode cX11_way 80 = .ok (.getfield 63, 3) := by decide +kernel
theorem dX11_way_83 : decode cX11_way 83 = .ok (.iload_n 1, 1) := by decide +kernel
theorem dX11_way_84 : decode cX11_way 84 = .ok (.iload_n 2, 1) := by decide +kernel
theorem dX11_way_85 : decode cX11_way 85 = .ok (.iload_n 3, 1) := by decide +kernel
theorem dX11_way_86 : decode cX11_way 86 = .ok (.iload 5, 2) := by decide +kernel
theorem dX11_way_88 : decode cX11_way 88 = .ok (.invokevirtual 199, 3) := by decide +kernel
theorem dX11_way_91 : decode cX11_way 91 = .ok (.ireturn, 1) := by decide +kernel
theorem dX11_softest_0 : decode cX11_softest 0 = .ok (.iload_n 1, 1) := by decide +kernel
theorem dX11_softest_1 : decode cX11_softest 1 = .ok (.invokestatic 76, 3) := by decide +kernel
theorem dX11_softest_4 : decode cX11_softest 4 = .ok (.ifCond .eq 10, 3) := by decide +kernel
theorem dX11_softest_7 : decode cX11_softest 7 = .ok (.iload_n 2, 1) := by decide +kernel
theorem dX11_softest_8 : decode cX11_softest 8 = .ok (.invokestatic 76, 3) := by decide +kernel
theorem dX11_softest_11 : decode cX11_softest 11 = .ok (.ifCond .ne 10, 3) := by decide +kernel
theorem dX11_softest_14 : decode cX11_softest 14 = .ok (.aload_n 0, 1) := by decide +kernel
theorem dX11_softest_15 : decode cX11_softest 15 = .ok (.bipush (-2), 2) := by decide +kernel
theorem dX11_softest_17 : decode cX11_softest 17 = .ok (.invokevirtual 84, 3) := by decide +kernel
theorem dX11_softest_20 : decode cX11_softest 20 = .ok (.ireturn, 1) := by decide +kernel
theorem dX11_softest_21 : decode cX11_softest 21 = .ok (.aload_n 0, 1) := by decide +kernel
theorem dX11_softest_22 : decode cX11_softest 22 = .ok (.getfield 41, 3) := by decide +kernel
theorem dX11_softest_25 : decode cX11_softest 25 = .ok (.aload_n 0, 1) := by decide +kernel
theorem dX11_softest_26 : decode cX11_softest 26 = .ok (.getfield 10, 3) := by decide +kernel
theorem dX11_softest_29 : decode cX11_softest 29 = .ok (.getfield 63, 3) := by decide +kernel
theorem dX11_softest_32 : decode cX11_softest 32 = .ok (.iload_n 1, 1) := by decide +kernel
theorem dX11_softest_33 : decode cX11_softest 33 = .ok (.iload_n 2, 1) := by decide +kernel
theorem dX11_softest_34 : decode cX11_softest 34 = .ok (.invokevirtual 203, 3) := by decide +kernel
theorem dX11_softest_37 : decode cX11_softest 37 = .ok (.ireturn, 1) := by decide +kernel
theorem dX11_schedule_0 : decode cX11_schedule 0 = .ok (.iload_n 1, 1) := by decide +kernel
theorem dX11_schedule_1 : decode cX11_schedule 1 = .ok (.invokestatic 76, 3) := by decide +kernel
theorem dX11_schedule_4 : decode cX11_schedule 4 = .ok (.ifCond .eq 10, 3) := by decide +kernel
theorem dX11_schedule_7 : decode cX11_schedule 7 = .ok (.iload_n 2, 1) := by decide +kernel
theorem dX11_schedule_8 : decode cX11_schedule 8 = .ok (.invokestatic 76, 3) := by decide +kernel
theorem dX11_schedule_11 : decode cX11_schedule 11 = .ok (.ifCond .ne 10, 3) := by decide +kernel
theorem dX11_schedule_14 : decode cX11_schedule 14 = .ok (.aload_n 0, 1) := by decide +kernel
theorem dX11_schedule_15 : decode cX11_schedule 15 = .ok (.bipush (-2), 2) := by decide +kernel
theorem dX11_schedule_17 : decode cX11_schedule 17 = .ok (.invokevirtual 84, 3) := by decide +kernel
theorem dX11_schedule_20 : decode cX11_schedule 20 = .ok (.ireturn, 1) := by decide +kernel
theorem dX11_schedule_21 : decode cX11_schedule 21 = .ok (.aload_n 0, 1) := by decide +kernel
theorem dX11_schedule_22 : decode cX11_schedule 22 = .ok (.getfield 41, 3) := by decide +kernel
theorem dX11_schedule_25 : decode cX11_schedule 25 = .ok (.aload_n 0, 1) := by decide +kernel
theorem dX11_schedule_26 : decode cX11_schedule 26 = .ok (.getfield 10, 3) := by decide +kernel
theorem dX11_schedule_29 : decode cX11_schedule 29 = .ok (.getfield 63, 3) := by decide +kernel
theorem dX11_schedule_32 : decode cX11_schedule 32 = .ok (.iload_n 1, 1) := by decide +kernel
theorem dX11_schedule_33 : decode cX11_schedule 33 = .ok (.iload_n 2, 1) := by decide +kernel
theorem dX11_schedule_34 : decode cX11_schedule 34 = .ok (.invokevirtual 207, 3) := by decide +kernel
theorem dX11_schedule_37 : decode cX11_schedule 37 = .ok (.ireturn, 1) := by decide +kernel
theorem dX11_owed_0 : decode cX11_owed 0 = .ok (.iload_n 1, 1) := by decide +kernel
theorem dX11_owed_1 : decode cX11_owed 1 = .ok (.invokestatic 111, 3) := by decide +kernel
theorem dX11_owed_4 : decode cX11_owed 4 = .ok (.ifCond .ne 10, 3) := by decide +kernel
theorem dX11_owed_7 : decode cX11_owed 7 = .ok (.aload_n 0, 1) := by decide +kernel
theorem dX11_owed_8 : decode cX11_owed 8 = .ok (.bipush (-2), 2) := by decide +kernel
theorem dX11_owed_10 : decode cX11_owed 10 = .ok (.invokevirtual 84, 3) := by decide +kernel
theorem dX11_owed_13 : decode cX11_owed 13 = .ok (.ireturn, 1) := by decide +kernel
theorem dX11_owed_14 : decode cX11_owed 14 = .ok (.iconst 0, 1) := by decide +kernel
theorem dX11_owed_15 : decode cX11_owed 15 = .ok (.istore_n 2, 1) := by decide +kernel
theorem dX11_owed_16 : decode cX11_owed 16 = .ok (.iconst 0, 1) := by decide +kernel
theorem dX11_owed_17 : decode cX11_owed 17 = .ok (.istore_n 3, 1) := by decide +kernel
theorem dX11_owed_18 : decode cX11_owed 18 = .ok (.iload_n 3, 1) := by decide +kernel
theorem dX11_owed_19 : decode cX11_owed 19 = .ok (.aload_n 0, 1) := by decide +kernel
theorem dX11_owed_20 : decode cX11_owed 20 = .ok (.getfield 10, 3) := by decide +kernel
theorem dX11_owed_23 : decode cX11_owed 23 = .ok (.getfield 63, 3) := by decide +kernel
theorem dX11_owed_26 : decode cX11_owed 26 = .ok (.getfield 102, 3) := by decide +kernel
theorem dX11_owed_29 : decode cX11_owed 29 = .ok (.if_icmp .ge 30, 3) := by decide +kernel
theorem dX11_owed_32 : decode cX11_owed 32 = .ok (.aload_n 0, 1) := by decide +kernel
theorem dX11_owed_33 : decode cX11_owed 33 = .ok (.getfield 10, 3) := by decide +kernel
theorem dX11_owed_36 : decode cX11_owed 36 = .ok (.getfield 63, 3) := by decide +kernel
theorem dX11_owed_39 : decode cX11_owed 39 = .ok (.iload_n 3, 1) := by decide +kernel
theorem dX11_owed_40 : decode cX11_owed 40 = .ok (.iload_n 1, 1) := by decide +kernel
theorem dX11_owed_41 : decode cX11_owed 41 = .ok (.invokevirtual 210, 3) := by decide +kernel
theorem dX11_owed_44 : decode cX11_owed 44 = .ok (.ifCond .eq 9, 3) := by decide +kernel
theorem dX11_owed_47 : decode cX11_owed 47 = .ok (.iload_n 2, 1) := by decide +kernel
theorem dX11_owed_48 : decode cX11_owed 48 = .ok (.iconst 1, 1) := by decide +kernel
theorem dX11_owed_49 : decode cX11_owed 49 = .ok (.iload_n 3, 1) := by decide +kernel
theorem dX11_owed_50 : decode cX11_owed 50 = .ok (.ishl, 1) := by decide +kernel
theorem dX11_owed_51 : decode cX11_owed 51 = .ok (.ior, 1) := by decide +kernel
theorem dX11_owed_52 : decode cX11_owed 52 = .ok (.istore_n 2, 1) := by decide +kernel
theorem dX11_owed_53 : decode cX11_owed 53 = .ok (.iinc 3 1, 3) := by decide +kernel
theorem dX11_owed_56 : decode cX11_owed 56 = .ok (.goto (-38), 3) := by decide +kernel
theorem dX11_owed_59 : decode cX11_owed 59 = .ok (.iload_n 2, 1) := by decide +kernel
theorem dX11_owed_60 : decode cX11_owed 60 = .ok (.ireturn, 1) := by decide +kernel
theorem dX11_took_0 : decode cX11_took 0 = .ok (.aload_n 0, 1) := by decide +kernel
theorem dX11_took_1 : decode cX11_took 1 = .ok (.iload_n 1, 1) := by decide +kernel
theorem dX11_took_2 : decode cX11_took 2 = .ok (.invokevirtual 108, 3) := by decide +kernel
theorem dX11_took_5 : decode cX11_took 5 = .ok (.ifCond .eq 17, 3) := by decide +kernel
theorem dX11_took_8 : decode cX11_took 8 = .ok (.aload_n 0, 1) := by decide +kernel
theorem dX11_took_9 : decode cX11_took 9 = .ok (.getfield 10, 3) := by decide +kernel
theorem dX11_took_12 : decode cX11_took 12 = .ok (.getfield 63, 3) := by decide +kernel
theorem dX11_took_15 : decode cX11_took 15 = .ok (.iload_n 1, 1) := by decide +kernel
theorem dX11_took_16 : decode cX11_took 16 = .ok (.invokevirtual 114, 3) := by decide +kernel
theorem dX11_took_19 : decode cX11_took 19 = .ok (.goto 9, 3) := by decide +kernel
theorem dX11_took_22 : decode cX11_took 22 = .ok (.aload_n 0, 1) := by decide +kernel
theorem dX11_took_23 : decode cX11_took 23 = .ok (.bipush (-2), 2) := by decide +kernel
theorem dX11_took_25 : decode cX11_took 25 = .ok (.invokevirtual 84, 3) := by decide +kernel
theorem dX11_took_28 : decode cX11_took 28 = .ok (.ireturn, 1) := by decide +kernel
theorem dX11_canNot_0 : decode cX11_canNot 0 = .ok (.aload_n 0, 1) := by decide +kernel
theorem dX11_canNot_1 : decode cX11_canNot 1 = .ok (.getfield 41, 3) := by decide +kernel
theorem dX11_canNot_4 : decode cX11_canNot 4 = .ok (.aload_n 0, 1) := by decide +kernel
theorem dX11_canNot_5 : decode cX11_canNot 5 = .ok (.getfield 10, 3) := by decide +kernel
theorem dX11_canNot_8 : decode cX11_canNot 8 = .ok (.getfield 63, 3) := by decide +kernel
theorem dX11_canNot_11 : decode cX11_canNot 11 = .ok (.invokevirtual 213, 3) := by decide +kernel
theorem dX11_canNot_14 : decode cX11_canNot 14 = .ok (.istore_n 1, 1) := by decide +kernel
theorem dX11_canNot_15 : decode cX11_canNot 15 = .ok (.iconst 0, 1) := by decide +kernel
theorem dX11_canNot_16 : decode cX11_canNot 16 = .ok (.istore_n 2, 1) := by decide +kernel
theorem dX11_canNot_17 : decode cX11_canNot 17 = .ok (.iconst 0, 1) := by decide +kernel
theorem dX11_canNot_18 : decode cX11_canNot 18 = .ok (.istore_n 3, 1) := by decide +kernel
theorem dX11_canNot_19 : decode cX11_canNot 19 = .ok (.iload_n 3, 1) := by decide +kernel
theorem dX11_canNot_20 : decode cX11_canNot 20 = .ok (.aload_n 0, 1) := by decide +kernel
theorem dX11_canNot_21 : decode cX11_canNot 21 = .ok (.getfield 10, 3) := by decide +kernel
theorem dX11_canNot_24 : decode cX11_canNot 24 = .ok (.getfield 63, 3) := by decide +kernel
theorem dX11_canNot_27 : decode cX11_canNot 27 = .ok (.getfield 102, 3) := by decide +kernel
theorem dX11_canNot_30 : decode cX11_canNot 30 = .ok (.if_icmp .ge 34, 3) := by decide +kernel
theorem dX11_canNot_33 : decode cX11_canNot 33 = .ok (.iload_n 1, 1) := by decide +kernel
theorem dX11_canNot_34 : decode cX11_canNot 34 = .ok (.aload_n 0, 1) := by decide +kernel
theorem dX11_canNot_35 : decode cX11_canNot 35 = .ok (.getfield 10, 3) := by decide +kernel
theorem dX11_canNot_38 : decode cX11_canNot 38 = .ok (.getfield 63, 3) := by decide +kernel
theorem dX11_canNot_41 : decode cX11_canNot 41 = .ok (.getfield 216, 3) := by decide +kernel
theorem dX11_canNot_44 : decode cX11_canNot 44 = .ok (.iload_n 3, 1) := by decide +kernel
theorem dX11_canNot_45 : decode cX11_canNot 45 = .ok (.iaload, 1) := by decide +kernel
theorem dX11_canNot_46 : decode cX11_canNot 46 = .ok (.invokestatic 183, 3) := by decide +kernel
theorem dX11_canNot_49 : decode cX11_canNot 49 = .ok (.ifCond .ne 9, 3) := by decide +kernel
theorem dX11_canNot_52 : decode cX11_canNot 52 = .ok (.iload_n 2, 1) := by decide +kernel
theorem dX11_canNot_53 : decode cX11_canNot 53 = .ok (.iconst 1, 1) := by decide +kernel
theorem dX11_canNot_54 : decode cX11_canNot 54 = .ok (.iload_n 3, 1) := by decide +kernel
theorem dX11_canNot_55 : decode cX11_canNot 55 = .ok (.ishl, 1) := by decide +kernel
theorem dX11_canNot_56 : decode cX11_canNot 56 = .ok (.ior, 1) := by decide +kernel
theorem dX11_canNot_57 : decode cX11_canNot 57 = .ok (.istore_n 2, 1) := by decide +kernel
theorem dX11_canNot_58 : decode cX11_canNot 58 = .ok (.iinc 3 1, 3) := by decide +kernel
theorem dX11_canNot_61 : decode cX11_canNot 61 = .ok (.goto (-42), 3) := by decide +kernel
theorem dX11_canNot_64 : decode cX11_canNot 64 = .ok (.iload_n 2, 1) := by decide +kernel
theorem dX11_canNot_65 : decode cX11_canNot 65 = .ok (.ireturn, 1) := by decide +kernel
theorem dX11_heard_0 : decode cX11_heard 0 = .ok (.aload_n 0, 1) := by decide +kernel
theorem dX11_heard_1 : decode cX11_heard 1 = .ok (.iload_n 1, 1) := by decide +kernel
theorem dX11_heard_2 : decode cX11_heard 2 = .ok (.invokevirtual 168, 3) := by decide +kernel
theorem dX11_heard_5 : decode cX11_heard 5 = .ok (.ifCond .eq 20, 3) := by decide +kernel
theorem dX11_heard_8 : decode cX11_heard 8 = .ok (.iload_n 2, 1) := by decide +kernel
theorem dX11_heard_9 : decode cX11_heard 9 = .ok (.bipush 12, 2) := by decide +kernel
theorem dX11_heard_11 : decode cX11_heard 11 = .ok (.invokestatic 80, 3) := by decide +kernel
theorem dX11_heard_14 : decode cX11_heard 14 = .ok (.ifCond .eq 11, 3) := by decide +kernel
theorem dX11_heard_17 : decode cX11_heard 17 = .ok (.iload_n 3, 1) := by decide +kernel
theorem dX11_heard_18 : decode cX11_heard 18 = .ok (.iconst 1, 1) := by decide +kernel
theorem dX11_heard_19 : decode cX11_heard 19 = .ok (.invokestatic 80, 3) := by decide +kernel
theorem dX11_heard_22 : decode cX11_heard 22 = .ok (.ifCond .ne 10, 3) := by decide +kernel
theorem dX11_heard_25 : decode cX11_heard 25 = .ok (.aload_n 0, 1) := by decide +kernel
theorem dX11_heard_26 : decode cX11_heard 26 = .ok (.bipush (-2), 2) := by decide +kernel
theorem dX11_heard_28 : decode cX11_heard 28 = .ok (.invokevirtual 84, 3) := by decide +kernel
theorem dX11_heard_31 : decode cX11_heard 31 = .ok (.ireturn, 1) := by decide +kernel
theorem dX11_heard_32 : decode cX11_heard 32 = .ok (.aload_n 0, 1) := by decide +kernel
theorem dX11_heard_33 : decode cX11_heard 33 = .ok (.getfield 10, 3) := by decide +kernel
theorem dX11_heard_36 : decode cX11_heard 36 = .ok (.getfield 219, 3) := by decide +kernel
theorem dX11_heard_39 : decode cX11_heard 39 = .ok (.bipush 6, 2) := by decide +kernel
theorem dX11_heard_41 : decode cX11_heard 41 = .ok (.if_icmp .lt 8, 3) := by decide +kernel
theorem dX11_heard_44 : decode cX11_heard 44 = .ok (.aload_n 0, 1) := by decide +kernel
theorem dX11_heard_45 : decode cX11_heard 45 = .ok (.invokevirtual 92, 3) := by decide +kernel
theorem dX11_heard_48 : decode cX11_heard 48 = .ok (.ireturn, 1) := by decide +kernel
theorem dX11_heard_49 : decode cX11_heard 49 = .ok (.aload_n 0, 1) := by decide +kernel
theorem dX11_heard_50 : decode cX11_heard 50 = .ok (.getfield 10, 3) := by decide +kernel
theorem dX11_heard_53 : decode cX11_heard 53 = .ok (.iload_n 1, 1) := by decide +kernel
theorem dX11_heard_54 : decode cX11_heard 54 = .ok (.iload_n 2, 1) := by decide +kernel
theorem dX11_heard_55 : decode cX11_heard 55 = .ok (.iload_n 3, 1) := by decide +kernel
theorem dX11_heard_56 : decode cX11_heard 56 = .ok (.invokevirtual 222, 3) := by decide +kernel
theorem dX11_heard_59 : decode cX11_heard 59 = .ok (.ireturn, 1) := by decide +kernel
theorem dX11_forget_0 : decode cX11_forget 0 = .ok (.aload_n 0, 1) := by decide +kernel
theorem dX11_forget_1 : decode cX11_forget 1 = .ok (.getfield 10, 3) := by decide +kernel
theorem dX11_forget_4 : decode cX11_forget 4 = .ok (.getfield 219, 3) := by decide +kernel
theorem dX11_forget_7 : decode cX11_forget 7 = .ok (.istore_n 1, 1) := by decide +kernel
theorem dX11_forget_8 : decode cX11_forget 8 = .ok (.aload_n 0, 1) := by decide +kernel
theorem dX11_forget_9 : decode cX11_forget 9 = .ok (.getfield 10, 3) := by decide +kernel
theorem dX11_forget_12 : decode cX11_forget 12 = .ok (.iconst 0, 1) := by decide +kernel
theorem dX11_forget_13 : decode cX11_forget 13 = .ok (.putfield 219, 3) := by decide +kernel
theorem dX11_forget_16 : decode cX11_forget 16 = .ok (.iload_n 1, 1) := by decide +kernel
theorem dX11_forget_17 : decode cX11_forget 17 = .ok (.ireturn, 1) := by decide +kernel
theorem dX11_may_0 : decode cX11_may 0 = .ok (.iload_n 1, 1) := by decide +kernel
theorem dX11_may_1 : decode cX11_may 1 = .ok (.bipush 12, 2) := by decide +kernel
theorem dX11_may_3 : decode cX11_may 3 = .ok (.invokestatic 80, 3) := by decide +kernel
theorem dX11_may_6 : decode cX11_may 6 = .ok (.ifCond .ne 10, 3) := by decide +kernel
theorem dX11_may_9 : decode cX11_may 9 = .ok (.aload_n 0, 1) := by decide +kernel
theorem dX11_may_10 : decode cX11_may 10 = .ok (.bipush (-2), 2) := by decide +kernel
theorem dX11_may_12 : decode cX11_may 12 = .ok (.invokevirtual 84, 3) := by decide +kernel
theorem dX11_may_15 : decode cX11_may 15 = .ok (.ireturn, 1) := by decide +kernel
theorem dX11_may_16 : decode cX11_may 16 = .ok (.aload_n 0, 1) := by decide +kernel
theorem dX11_may_17 : decode cX11_may 17 = .ok (.getfield 48, 3) := by decide +kernel
theorem dX11_may_20 : decode cX11_may 20 = .ok (.aload_n 0, 1) := by decide +kernel
theorem dX11_may_21 : decode cX11_may 21 = .ok (.getfield 10, 3) := by decide +kernel
theorem dX11_may_24 : decode cX11_may 24 = .ok (.invokevirtual 225, 3) := by decide +kernel
theorem dX11_may_27 : decode cX11_may 27 = .ok (.aload_n 0, 1) := by decide +kernel
theorem dX11_may_28 : decode cX11_may 28 = .ok (.getfield 48, 3) := by decide +kernel
theorem dX11_may_31 : decode cX11_may 31 = .ok (.iload_n 1, 1) := by decide +kernel
theorem dX11_may_32 : decode cX11_may 32 = .ok (.invokevirtual 229, 3) := by decide +kernel
theorem dX11_may_35 : decode cX11_may 35 = .ok (.ireturn, 1) := by decide +kernel
theorem dX11_ways_0 : decode cX11_ways 0 = .ok (.aload_n 0, 1) := by decide +kernel
theorem dX11_ways_1 : decode cX11_ways 1 = .ok (.getfield 48, 3) := by decide +kernel
theorem dX11_ways_4 : decode cX11_ways 4 = .ok (.aload_n 0, 1) := by decide +kernel
theorem dX11_ways_5 : decode cX11_ways 5 = .ok (.getfield 10, 3) := by decide +kernel
theorem dX11_ways_8 : decode cX11_ways 8 = .ok (.invokevirtual 225, 3) := by decide +kernel
theorem dX11_ways_11 : decode cX11_ways 11 = .ok (.aload_n 0, 1) := by decide +kernel
theorem dX11_ways_12 : decode cX11_ways 12 = .ok (.getfield 48, 3) := by decide +kernel
theorem dX11_ways_15 : decode cX11_ways 15 = .ok (.invokevirtual 232, 3) := by decide +kernel
theorem dX11_ways_18 : decode cX11_ways 18 = .ok (.lreturn, 1) := by decide +kernel
theorem dX11_listen_0 : decode cX11_listen 0 = .ok (.iload_n 1, 1) := by decide +kernel
theorem dX11_listen_1 : decode cX11_listen 1 = .ok (.bipush 11, 2) := by decide +kernel
theorem dX11_listen_3 : decode cX11_listen 3 = .ok (.invokestatic 80, 3) := by decide +kernel
theorem dX11_listen_6 : decode cX11_listen 6 = .ok (.ifCond .ne 10, 3) := by decide +kernel
theorem dX11_listen_9 : decode cX11_listen 9 = .ok (.aload_n 0, 1) := by decide +kernel
theorem dX11_listen_10 : decode cX11_listen 10 = .ok (.bipush (-2), 2) := by decide +kernel
theorem dX11_listen_12 : decode cX11_listen 12 = .ok (.invokevirtual 84, 3) := by decide +kernel
theorem dX11_listen_15 : decode cX11_listen 15 = .ok (.ireturn, 1) := by decide +kernel
theorem dX11_listen_16 : decode cX11_listen 16 = .ok (.aload_n 0, 1) := by decide +kernel
theorem dX11_listen_17 : decode cX11_listen 17 = .ok (.getfield 48, 3) := by decide +kernel
theorem dX11_listen_20 : decode cX11_listen 20 = .ok (.aload_n 0, 1) := by decide +kernel
theorem dX11_listen_21 : decode cX11_listen 21 = .ok (.getfield 10, 3) := by decide +kernel
theorem dX11_listen_24 : decode cX11_listen 24 = .ok (.invokevirtual 225, 3) := by decide +kernel
theorem dX11_listen_27 : decode cX11_listen 27 = .ok (.aload_n 0, 1) := by decide +kernel
theorem dX11_listen_28 : decode cX11_listen 28 = .ok (.getfield 48, 3) := by decide +kernel
theorem dX11_listen_31 : decode cX11_listen 31 = .ok (.aload_n 0, 1) := by decide +kernel
theorem dX11_listen_32 : decode cX11_listen 32 = .ok (.getfield 10, 3) := by decide +kernel
theorem dX11_listen_35 : decode cX11_listen 35 = .ok (.getfield 63, 3) := by decide +kernel
theorem dX11_listen_38 : decode cX11_listen 38 = .ok (.iload_n 1, 1) := by decide +kernel
theorem dX11_listen_39 : decode cX11_listen 39 = .ok (.invokevirtual 236, 3) := by decide +kernel
theorem dX11_listen_42 : decode cX11_listen 42 = .ok (.ireturn, 1) := by decide +kernel
theorem dX11_clocks_0 : decode cX11_clocks 0 = .ok (.iload_n 1, 1) := by decide +kernel
theorem dX11_clocks_1 : decode cX11_clocks 1 = .ok (.invokestatic 76, 3) := by decide +kernel
theorem dX11_clocks_4 : decode cX11_clocks 4 = .ok (.ifCond .eq 20, 3) := by decide +kernel
theorem dX11_clocks_7 : decode cX11_clocks 7 = .ok (.iload_n 2, 1) := by decide +kernel
theorem dX11_clocks_8 : decode cX11_clocks 8 = .ok (.bipush 10, 2) := by decide +kernel
theorem dX11_clocks_10 : decode cX11_clocks 10 = .ok (.invokestatic 80, 3) := by decide +kernel
theorem dX11_clocks_13 : decode cX11_clocks 13 = .ok (.ifCond .eq 11, 3) := by decide +kernel
theorem dX11_clocks_16 : decode cX11_clocks 16 = .ok (.iload_n 3, 1) := by decide +kernel
theorem dX11_clocks_17 : decode cX11_clocks 17 = .ok (.iconst 5, 1) := by decide +kernel
theorem dX11_clocks_18 : decode cX11_clocks 18 = .ok (.invokestatic 80, 3) := by decide +kernel
theorem dX11_clocks_21 : decode cX11_clocks 21 = .ok (.ifCond .ne 10, 3) := by decide +kernel
theorem dX11_clocks_24 : decode cX11_clocks 24 = .ok (.aload_n 0, 1) := by decide +kernel
theorem dX11_clocks_25 : decode cX11_clocks 25 = .ok (.bipush (-2), 2) := by decide +kernel
theorem dX11_clocks_27 : decode cX11_clocks 27 = .ok (.invokevirtual 84, 3) := by decide +kernel
theorem dX11_clocks_30 : decode cX11_clocks 30 = .ok (.ireturn, 1) := by decide +kernel
theorem dX11_clocks_31 : decode cX11_clocks 31 = .ok (.aload_n 0, 1) := by decide +kernel
theorem dX11_clocks_32 : decode cX11_clocks 32 = .ok (.getfield 10, 3) := by decide +kernel
theorem dX11_clocks_35 : decode cX11_clocks 35 = .ok (.getfield 180, 3) := by decide +kernel
theorem dX11_clocks_38 : decode cX11_clocks 38 = .ok (.aload_n 0, 1) := by decide +kernel
theorem dX11_clocks_39 : decode cX11_clocks 39 = .ok (.getfield 10, 3) := by decide +kernel
theorem dX11_clocks_42 : decode cX11_clocks 42 = .ok (.getfield 63, 3) := by decide +kernel
theorem dX11_clocks_45 : decode cX11_clocks 45 = .ok (.bipush 9, 2) := by decide +kernel
theorem dX11_clocks_47 : decode cX11_clocks 47 = .ok (.iload_n 1, 1) := by decide +kernel
theorem dX11_clocks_48 : decode cX11_clocks 48 = .ok (.aload_n 0, 1) := by decide +kernel
theorem dX11_clocks_49 : decode cX11_clocks 49 = .ok (.getfield 10, 3) := by decide +kernel
theorem dX11_clocks_52 : decode cX11_clocks 52 = .ok (.getfield 157, 3) := by decide +kernel
theorem dX11_clocks_55 : decode cX11_clocks 55 = .ok (.invokevirtual 189, 3) := by decide +kernel
theorem dX11_clocks_58 : decode cX11_clocks 58 = .ok (.ior, 1) := by decide +kernel
theorem dX11_clocks_59 : decode cX11_clocks 59 = .ok (.istore 4, 2) := by decide +kernel
theorem dX11_clocks_61 : decode cX11_clocks 61 = .ok (.aload_n 0, 1) := by decide +kernel
theorem dX11_clocks_62 : decode cX11_clocks 62 = .ok (.iload 4, 2) := by decide +kernel
theorem dX11_clocks_64 : decode cX11_clocks 64 = .ok (.iload_n 2, 1) := by decide +kernel
theorem dX11_clocks_65 : decode cX11_clocks 65 = .ok (.invokevirtual 240, 3) := by decide +kernel
theorem dX11_clocks_68 : decode cX11_clocks 68 = .ok (.lconst 0, 1) := by decide +kernel
theorem dX11_clocks_69 : decode cX11_clocks 69 = .ok (.lstore 5, 2) := by decide +kernel
theorem dX11_clocks_71 : decode cX11_clocks 71 = .ok (.iconst 0, 1) := by decide +kernel
theorem dX11_clocks_72 : decode cX11_clocks 72 = .ok (.istore 7, 2) := by decide +kernel
theorem dX11_clocks_74 : decode cX11_clocks 74 = .ok (.iload 7, 2) := by decide +kernel
theorem dX11_clocks_76 : decode cX11_clocks 76 = .ok (.iload_n 3, 1) := by decide +kernel
theorem dX11_clocks_77 : decode cX11_clocks 77 = .ok (.if_icmp .gt 21, 3) := by decide +kernel
theorem dX11_clocks_80 : decode cX11_clocks 80 = .ok (.lload 5, 2) := by decide +kernel
theorem dX11_clocks_82 : decode cX11_clocks 82 = .ok (.aload_n 0, 1) := by decide +kernel
theorem dX11_clocks_83 : decode cX11_clocks 83 = .ok (.getfield 52, 3) := by decide +kernel
theorem dX11_clocks_86 : decode cX11_clocks 86 = .ok (.iload 7, 2) := by decide +kernel
theorem dX11_clocks_88 : decode cX11_clocks 88 = .ok (.laload, 1) := by decide +kernel
theorem dX11_clocks_89 : decode cX11_clocks 89 = .ok (.ladd, 1) := by decide +kernel
theorem dX11_clocks_90 : decode cX11_clocks 90 = .ok (.lstore 5, 2) := by decide +kernel
theorem dX11_clocks_92 : decode cX11_clocks 92 = .ok (.iinc 7 1, 3) := by decide +kernel
theorem dX11_clocks_95 : decode cX11_clocks 95 = .ok (.goto (-21), 3) := by decide +kernel
theorem dX11_clocks_98 : decode cX11_clocks 98 = .ok (.lconst 1, 1) := by decide +kernel
theorem dX11_clocks_99 : decode cX11_clocks 99 = .ok (.lstore 7, 2) := by decide +kernel
theorem dX11_clocks_101 : decode cX11_clocks 101 = .ok (.iload 4, 2) := by decide +kernel
theorem dX11_clocks_103 : decode cX11_clocks 103 = .ok (.invokestatic 244, 3) := by decide +kernel
theorem dX11_clocks_106 : decode cX11_clocks 106 = .ok (.istore 9, 2) := by decide +kernel
theorem dX11_clocks_108 : decode cX11_clocks 108 = .ok (.iload 9, 2) := by decide +kernel
theorem dX11_clocks_110 : decode cX11_clocks 110 = .ok (.aload_n 0, 1) := by decide +kernel
theorem dX11_clocks_111 : decode cX11_clocks 111 = .ok (.getfield 10, 3) := by decide +kernel
theorem dX11_clocks_114 : decode cX11_clocks 114 = .ok (.getfield 63, 3) := by decide +kernel
theorem dX11_clocks_117 : decode cX11_clocks 117 = .ok (.getfield 66, 3) := by decide +kernel
theorem dX11_clocks_120 : decode cX11_clocks 120 = .ok (.if_icmp .ge 17, 3) := by decide +kernel
theorem dX11_clocks_123 : decode cX11_clocks 123 = .ok (.lload 7, 2) := by decide +kernel
theorem dX11_clocks_125 : decode cX11_clocks 125 = .ok (.ldc2_w 249, 3) := by decide +kernel
theorem dX11_clocks_128 : decode cX11_clocks 128 = .ok (.lmul, 1) := by decide +kernel
theorem dX11_clocks_129 : decode cX11_clocks 129 = .ok (.lstore 7, 2) := by decide +kernel
theorem dX11_clocks_131 : decode cX11_clocks 131 = .ok (.iinc 9 1, 3) := by decide +kernel
theorem dX11_clocks_134 : decode cX11_clocks 134 = .ok (.goto (-26), 3) := by decide +kernel
theorem dX11_clocks_137 : decode cX11_clocks 137 = .ok (.aload_n 0, 1) := by decide +kernel
theorem dX11_clocks_138 : decode cX11_clocks 138 = .ok (.lload 5, 2) := by decide +kernel
theorem dX11_clocks_140 : decode cX11_clocks 140 = .ok (.lload 7, 2) := by decide +kernel
theorem dX11_clocks_142 : decode cX11_clocks 142 = .ok (.invokevirtual 251, 3) := by decide +kernel
theorem dX11_clocks_145 : decode cX11_clocks 145 = .ok (.iconst 1, 1) := by decide +kernel
theorem dX11_clocks_146 : decode cX11_clocks 146 = .ok (.ireturn, 1) := by decide +kernel
theorem dX11_nights_0 : decode cX11_nights 0 = .ok (.iload_n 1, 1) := by decide +kernel
theorem dX11_nights_1 : decode cX11_nights 1 = .ok (.ldc 255, 2) := by decide +kernel
theorem dX11_nights_3 : decode cX11_nights 3 = .ok (.invokestatic 80, 3) := by decide +kernel
theorem dX11_nights_6 : decode cX11_nights 6 = .ok (.ifCond .eq 12, 3) := by decide +kernel
theorem dX11_nights_9 : decode cX11_nights 9 = .ok (.iload_n 2, 1) := by decide +kernel
theorem dX11_nights_10 : decode cX11_nights 10 = .ok (.bipush 59, 2) := by decide +kernel
theorem dX11_nights_12 : decode cX11_nights 12 = .ok (.invokestatic 80, 3) := by decide +kernel
theorem dX11_nights_15 : decode cX11_nights 15 = .ok (.ifCond .ne 10, 3) := by decide +kernel
theorem dX11_nights_18 : decode cX11_nights 18 = .ok (.aload_n 0, 1) := by decide +kernel
theorem dX11_nights_19 : decode cX11_nights 19 = .ok (.bipush (-2), 2) := by decide +kernel
theorem dX11_nights_21 : decode cX11_nights 21 = .ok (.invokevirtual 84, 3) := by decide +kernel
theorem dX11_nights_24 : decode cX11_nights 24 = .ok (.ireturn, 1) := by decide +kernel
theorem dX11_nights_25 : decode cX11_nights 25 = .ok (.aload_n 0, 1) := by decide +kernel
theorem dX11_nights_26 : decode cX11_nights 26 = .ok (.getfield 10, 3) := by decide +kernel
theorem dX11_nights_29 : decode cX11_nights 29 = .ok (.iload_n 1, 1) := by decide +kernel
theorem dX11_nights_30 : decode cX11_nights 30 = .ok (.iload_n 2, 1) := by decide +kernel
theorem dX11_nights_31 : decode cX11_nights 31 = .ok (.invokevirtual 256, 3) := by decide +kernel
theorem dX11_nights_34 : decode cX11_nights 34 = .ok (.ireturn, 1) := by decide +kernel
theorem dX11_part_0 : decode cX11_part 0 = .ok (.iload_n 1, 1) := by decide +kernel
theorem dX11_part_1 : decode cX11_part 1 = .ok (.iconst 1, 1) := by decide +kernel
theorem dX11_part_2 : decode cX11_part 2 = .ok (.invokestatic 80, 3) := by decide +kernel
theorem dX11_part_5 : decode cX11_part 5 = .ok (.ifCond .ne 11, 3) := by decide +kernel
theorem dX11_part_8 : decode cX11_part 8 = .ok (.aload_n 0, 1) := by decide +kernel
theorem dX11_part_9 : decode cX11_part 9 = .ok (.bipush (-2), 2) := by decide +kernel
theorem dX11_part_11 : decode cX11_part 11 = .ok (.invokevirtual 84, 3) := by decide +kernel
theorem dX11_part_14 : decode cX11_part 14 = .ok (.i2l, 1) := by decide +kernel
theorem dX11_part_15 : decode cX11_part 15 = .ok (.lreturn, 1) := by decide +kernel
theorem dX11_part_16 : decode cX11_part 16 = .ok (.iload_n 1, 1) := by decide +kernel
theorem dX11_part_17 : decode cX11_part 17 = .ok (.ifCond .ne 10, 3) := by decide +kernel
theorem dX11_part_20 : decode cX11_part 20 = .ok (.aload_n 0, 1) := by decide +kernel
theorem dX11_part_21 : decode cX11_part 21 = .ok (.getfield 56, 3) := by decide +kernel
theorem dX11_part_24 : decode cX11_part 24 = .ok (.goto 7, 3) := by decide +kernel
theorem dX11_part_27 : decode cX11_part 27 = .ok (.aload_n 0, 1) := by decide +kernel
theorem dX11_part_28 : decode cX11_part 28 = .ok (.getfield 60, 3) := by decide +kernel
theorem dX11_part_31 : decode cX11_part 31 = .ok (.lreturn, 1) := by decide +kernel
theorem dX11_image_0 : decode cX11_image 0 = .ok (.iload_n 1, 1) := by decide +kernel
theorem dX11_image_1 : decode cX11_image 1 = .ok (.iconst 1, 1) := by decide +kernel
theorem dX11_image_2 : decode cX11_image 2 = .ok (.invokestatic 80, 3) := by decide +kernel
theorem dX11_image_5 : decode cX11_image 5 = .ok (.ifCond .ne 10, 3) := by decide +kernel
theorem dX11_image_8 : decode cX11_image 8 = .ok (.aload_n 0, 1) := by decide +kernel
theorem dX11_image_9 : decode cX11_image 9 = .ok (.bipush (-2), 2) := by decide +kernel
theorem dX11_image_11 : decode cX11_image 11 = .ok (.invokevirtual 84, 3) := by decide +kernel
theorem dX11_image_14 : decode cX11_image 14 = .ok (.ireturn, 1) := by decide +kernel
theorem dX11_image_15 : decode cX11_image 15 = .ok (.aload_n 0, 1) := by decide +kernel
theorem dX11_image_16 : decode cX11_image 16 = .ok (.getfield 16, 3) := by decide +kernel
theorem dX11_image_19 : decode cX11_image 19 = .ok (.iload_n 1, 1) := by decide +kernel
theorem dX11_image_20 : decode cX11_image 20 = .ok (.aaload, 1) := by decide +kernel
theorem dX11_image_21 : decode cX11_image 21 = .ok (.aload_n 0, 1) := by decide +kernel
theorem dX11_image_22 : decode cX11_image 22 = .ok (.getfield 10, 3) := by decide +kernel
theorem dX11_image_25 : decode cX11_image 25 = .ok (.invokevirtual 259, 3) := by decide +kernel
theorem dX11_image_28 : decode cX11_image 28 = .ok (.aload_n 0, 1) := by decide +kernel
theorem dX11_image_29 : decode cX11_image 29 = .ok (.getfield 20, 3) := by decide +kernel
theorem dX11_image_32 : decode cX11_image 32 = .ok (.iload_n 1, 1) := by decide +kernel
theorem dX11_image_33 : decode cX11_image 33 = .ok (.iconst 1, 1) := by decide +kernel
theorem dX11_image_34 : decode cX11_image 34 = .ok (.bastore, 1) := by decide +kernel
theorem dX11_image_35 : decode cX11_image 35 = .ok (.iconst 1, 1) := by decide +kernel
theorem dX11_image_36 : decode cX11_image 36 = .ok (.ireturn, 1) := by decide +kernel
theorem dX11_from_0 : decode cX11_from 0 = .ok (.iload_n 1, 1) := by decide +kernel
theorem dX11_from_1 : decode cX11_from 1 = .ok (.iconst 1, 1) := by decide +kernel
theorem dX11_from_2 : decode cX11_from 2 = .ok (.invokestatic 80, 3) := by decide +kernel
theorem dX11_from_5 : decode cX11_from 5 = .ok (.ifCond .ne 10, 3) := by decide +kernel
theorem dX11_from_8 : decode cX11_from 8 = .ok (.aload_n 0, 1) := by decide +kernel
theorem dX11_from_9 : decode cX11_from 9 = .ok (.bipush (-2), 2) := by decide +kernel
theorem dX11_from_11 : decode cX11_from 11 = .ok (.invokevirtual 84, 3) := by decide +kernel
theorem dX11_from_14 : decode cX11_from 14 = .ok (.ireturn, 1) := by decide +kernel
theorem dX11_from_15 : decode cX11_from 15 = .ok (.aload_n 0, 1) := by decide +kernel
theorem dX11_from_16 : decode cX11_from 16 = .ok (.getfield 20, 3) := by decide +kernel
theorem dX11_from_19 : decode cX11_from 19 = .ok (.iload_n 1, 1) := by decide +kernel
theorem dX11_from_20 : decode cX11_from 20 = .ok (.baload, 1) := by decide +kernel
theorem dX11_from_21 : decode cX11_from 21 = .ok (.ifCond .ne 8, 3) := by decide +kernel
theorem dX11_from_24 : decode cX11_from 24 = .ok (.aload_n 0, 1) := by decide +kernel
theorem dX11_from_25 : decode cX11_from 25 = .ok (.invokevirtual 148, 3) := by decide +kernel
theorem dX11_from_28 : decode cX11_from 28 = .ok (.ireturn, 1) := by decide +kernel
theorem dX11_from_29 : decode cX11_from 29 = .ok (.aload_n 0, 1) := by decide +kernel
theorem dX11_from_30 : decode cX11_from 30 = .ok (.getfield 10, 3) := by decide +kernel
theorem dX11_from_33 : decode cX11_from 33 = .ok (.aload_n 0, 1) := by decide +kernel
theorem dX11_from_34 : decode cX11_from 34 = .ok (.getfield 16, 3) := by decide +kernel
theorem dX11_from_37 : decode cX11_from 37 = .ok (.iload_n 1, 1) := by decide +kernel
theorem dX11_from_38 : decode cX11_from 38 = .ok (.aaload, 1) := by decide +kernel
theorem dX11_from_39 : decode cX11_from 39 = .ok (.invokevirtual 259, 3) := by decide +kernel
theorem dX11_from_42 : decode cX11_from 42 = .ok (.iconst 1, 1) := by decide +kernel
theorem dX11_from_43 : decode cX11_from 43 = .ok (.ireturn, 1) := by decide +kernel
theorem dX11_status_0 : decode cX11_status 0 = .ok (.iload_n 1, 1) := by decide +kernel
theorem dX11_status_1 : decode cX11_status 1 = .ok (.tableswitch 42 0 2 #[27, 32, 37], 27) := by decide +kernel
theorem dX11_status_28 : decode cX11_status 28 = .ok (.aload_n 0, 1) := by decide +kernel
theorem dX11_status_29 : decode cX11_status 29 = .ok (.getfield 261, 3) := by decide +kernel
theorem dX11_status_32 : decode cX11_status 32 = .ok (.ireturn, 1) := by decide +kernel
theorem dX11_status_33 : decode cX11_status 33 = .ok (.aload_n 0, 1) := by decide +kernel
theorem dX11_status_34 : decode cX11_status 34 = .ok (.getfield 264, 3) := by decide +kernel
theorem dX11_status_37 : decode cX11_status 37 = .ok (.ireturn, 1) := by decide +kernel
theorem dX11_status_38 : decode cX11_status 38 = .ok (.aload_n 0, 1) := by decide +kernel
theorem dX11_status_39 : decode cX11_status 39 = .ok (.getfield 267, 3) := by decide +kernel
theorem dX11_status_42 : decode cX11_status 42 = .ok (.ireturn, 1) := by decide +kernel
theorem dX11_status_43 : decode cX11_status 43 = .ok (.aload_n 0, 1) := by decide +kernel
theorem dX11_status_44 : decode cX11_status 44 = .ok (.iconst (-1), 1) := by decide +kernel
theorem dX11_status_45 : decode cX11_status 45 = .ok (.invokevirtual 84, 3) := by decide +kernel
theorem dX11_status_48 : decode cX11_status 48 = .ok (.ireturn, 1) := by decide +kernel
theorem dX11_count_0 : decode cX11_count 0 = .ok (.iload_n 1, 1) := by decide +kernel
theorem dX11_count_1 : decode cX11_count 1 = .ok (.tableswitch 108 0 6 #[43, 54, 65, 73, 84, 92, 100], 43) := by decide +kernel
theorem dX11_count_44 : decode cX11_count 44 = .ok (.aload_n 0, 1) := by decide +kernel
theorem dX11_count_45 : decode cX11_count 45 = .ok (.getfield 10, 3) := by decide +kernel
theorem dX11_count_48 : decode cX11_count 48 = .ok (.getfield 63, 3) := by decide +kernel
theorem dX11_count_51 : decode cX11_count 51 = .ok (.getfield 66, 3) := by decide +kernel
theorem dX11_count_54 : decode cX11_count 54 = .ok (.ireturn, 1) := by decide +kernel
theorem dX11_count_55 : decode cX11_count 55 = .ok (.aload_n 0, 1) := by decide +kernel
theorem dX11_count_56 : decode cX11_count 56 = .ok (.getfield 10, 3) := by decide +kernel
theorem dX11_count_59 : decode cX11_count 59 = .ok (.getfield 63, 3) := by decide +kernel
theorem dX11_count_62 : decode cX11_count 62 = .ok (.getfield 102, 3) := by decide +kernel
theorem dX11_count_65 : decode cX11_count 65 = .ok (.ireturn, 1) := by decide +kernel
theorem dX11_count_66 : decode cX11_count 66 = .ok (.aload_n 0, 1) := by decide +kernel
theorem dX11_count_67 : decode cX11_count 67 = .ok (.getfield 10, 3) := by decide +kernel
theorem dX11_count_70 : decode cX11_count 70 = .ok (.getfield 157, 3) := by decide +kernel
theorem dX11_count_73 : decode cX11_count 73 = .ok (.ireturn, 1) := by decide +kernel
theorem dX11_count_74 : decode cX11_count 74 = .ok (.aload_n 0, 1) := by decide +kernel
theorem dX11_count_75 : decode cX11_count 75 = .ok (.getfield 10, 3) := by decide +kernel
theorem dX11_count_78 : decode cX11_count 78 = .ok (.getfield 180, 3) := by decide +kernel
theorem dX11_count_81 : decode cX11_count 81 = .ok (.invokestatic 244, 3) := by decide +kernel
theorem dX11_count_84 : decode cX11_count 84 = .ok (.ireturn, 1) := by decide +kernel
theorem dX11_count_85 : decode cX11_count 85 = .ok (.aload_n 0, 1) := by decide +kernel
theorem dX11_count_86 : decode cX11_count 86 = .ok (.getfield 10, 3) := by decide +kernel
theorem dX11_count_89 : decode cX11_count 89 = .ok (.getfield 219, 3) := by decide +kernel
theorem dX11_count_92 : decode cX11_count 92 = .ok (.ireturn, 1) := by decide +kernel
theorem dX11_count_93 : decode cX11_count 93 = .ok (.aload_n 0, 1) := by decide +kernel
theorem dX11_count_94 : decode cX11_count 94 = .ok (.getfield 10, 3) := by decide +kernel
theorem dX11_count_97 : decode cX11_count 97 = .ok (.getfield 96, 3) := by decide +kernel
theorem dX11_count_100 : decode cX11_count 100 = .ok (.ireturn, 1) := by decide +kernel
theorem dX11_count_101 : decode cX11_count 101 = .ok (.aload_n 0, 1) := by decide +kernel
theorem dX11_count_102 : decode cX11_count 102 = .ok (.getfield 27, 3) := by decide +kernel
theorem dX11_count_105 : decode cX11_count 105 = .ok (.getfield 125, 3) := by decide +kernel
theorem dX11_count_108 : decode cX11_count 108 = .ok (.ireturn, 1) := by decide +kernel
theorem dX11_count_109 : decode cX11_count 109 = .ok (.aload_n 0, 1) := by decide +kernel
theorem dX11_count_110 : decode cX11_count 110 = .ok (.bipush (-2), 2) := by decide +kernel
theorem dX11_count_112 : decode cX11_count 112 = .ok (.invokevirtual 84, 3) := by decide +kernel
theorem dX11_count_115 : decode cX11_count 115 = .ok (.ireturn, 1) := by decide +kernel
theorem dX11_digest_0 : decode cX11_digest 0 = .ok (.ldc2_w 270, 3) := by decide +kernel
theorem dX11_digest_3 : decode cX11_digest 3 = .ok (.lstore_n 1, 1) := by decide +kernel
theorem dX11_digest_4 : decode cX11_digest 4 = .ok (.iconst 0, 1) := by decide +kernel
theorem dX11_digest_5 : decode cX11_digest 5 = .ok (.istore_n 3, 1) := by decide +kernel
theorem dX11_digest_6 : decode cX11_digest 6 = .ok (.iload_n 3, 1) := by decide +kernel
theorem dX11_digest_7 : decode cX11_digest 7 = .ok (.bipush 6, 2) := by decide +kernel
theorem dX11_digest_9 : decode cX11_digest 9 = .ok (.if_icmp .gt 22, 3) := by decide +kernel
theorem dX11_digest_12 : decode cX11_digest 12 = .ok (.ldc2_w 272, 3) := by decide +kernel
theorem dX11_digest_15 : decode cX11_digest 15 = .ok (.lload_n 1, 1) := by decide +kernel
theorem dX11_digest_16 : decode cX11_digest 16 = .ok (.lmul, 1) := by decide +kernel
theorem dX11_digest_17 : decode cX11_digest 17 = .ok (.aload_n 0, 1) := by decide +kernel
theorem dX11_digest_18 : decode cX11_digest 18 = .ok (.iload_n 3, 1) := by decide +kernel
theorem dX11_digest_19 : decode cX11_digest 19 = .ok (.invokevirtual 274, 3) := by decide +kernel
theorem dX11_digest_22 : decode cX11_digest 22 = .ok (.i2l, 1) := by decide +kernel
theorem dX11_digest_23 : decode cX11_digest 23 = .ok (.ladd, 1) := by decide +kernel
theorem dX11_digest_24 : decode cX11_digest 24 = .ok (.lstore_n 1, 1) := by decide +kernel
theorem dX11_digest_25 : decode cX11_digest 25 = .ok (.iinc 3 1, 3) := by decide +kernel
theorem dX11_digest_28 : decode cX11_digest 28 = .ok (.goto (-22), 3) := by decide +kernel
theorem dX11_digest_31 : decode cX11_digest 31 = .ok (.aload_n 0, 1) := by decide +kernel
theorem dX11_digest_32 : decode cX11_digest 32 = .ok (.getfield 10, 3) := by decide +kernel
theorem dX11_digest_35 : decode cX11_digest 35 = .ok (.getfield 63, 3) := by decide +kernel
theorem dX11_digest_38 : decode cX11_digest 38 = .ok (.lload_n 1, 1) := by decide +kernel
theorem dX11_digest_39 : decode cX11_digest 39 = .ok (.invokevirtual 277, 3) := by decide +kernel
theorem dX11_digest_42 : decode cX11_digest 42 = .ok (.lstore_n 1, 1) := by decide +kernel
theorem dX11_digest_43 : decode cX11_digest 43 = .ok (.aload_n 0, 1) := by decide +kernel
theorem dX11_digest_44 : decode cX11_digest 44 = .ok (.getfield 10, 3) := by decide +kernel
theorem dX11_digest_47 : decode cX11_digest 47 = .ok (.lload_n 1, 1) := by decide +kernel
theorem dX11_digest_48 : decode cX11_digest 48 = .ok (.invokevirtual 281, 3) := by decide +kernel
theorem dX11_digest_51 : decode cX11_digest 51 = .ok (.lstore_n 1, 1) := by decide +kernel
theorem dX11_digest_52 : decode cX11_digest 52 = .ok (.aload_n 0, 1) := by decide +kernel
theorem dX11_digest_53 : decode cX11_digest 53 = .ok (.getfield 10, 3) := by decide +kernel
theorem dX11_digest_56 : decode cX11_digest 56 = .ok (.getfield 63, 3) := by decide +kernel
theorem dX11_digest_59 : decode cX11_digest 59 = .ok (.lload_n 1, 1) := by decide +kernel
theorem dX11_digest_60 : decode cX11_digest 60 = .ok (.invokevirtual 284, 3) := by decide +kernel
theorem dX11_digest_63 : decode cX11_digest 63 = .ok (.lstore_n 1, 1) := by decide +kernel
theorem dX11_digest_64 : decode cX11_digest 64 = .ok (.aload_n 0, 1) := by decide +kernel
theorem dX11_digest_65 : decode cX11_digest 65 = .ok (.getfield 10, 3) := by decide +kernel
theorem dX11_digest_68 : decode cX11_digest 68 = .ok (.lload_n 1, 1) := by decide +kernel
theorem dX11_digest_69 : decode cX11_digest 69 = .ok (.invokevirtual 287, 3) := by decide +kernel
theorem dX11_digest_72 : decode cX11_digest 72 = .ok (.lstore_n 1, 1) := by decide +kernel
theorem dX11_digest_73 : decode cX11_digest 73 = .ok (.ldc2_w 272, 3) := by decide +kernel
theorem dX11_digest_76 : decode cX11_digest 76 = .ok (.lload_n 1, 1) := by decide +kernel
theorem dX11_digest_77 : decode cX11_digest 77 = .ok (.lmul, 1) := by decide +kernel
theorem dX11_digest_78 : decode cX11_digest 78 = .ok (.aload_n 0, 1) := by decide +kernel
theorem dX11_digest_79 : decode cX11_digest 79 = .ok (.getfield 56, 3) := by decide +kernel
theorem dX11_digest_82 : decode cX11_digest 82 = .ok (.ladd, 1) := by decide +kernel
theorem dX11_digest_83 : decode cX11_digest 83 = .ok (.lstore_n 1, 1) := by decide +kernel
theorem dX11_digest_84 : decode cX11_digest 84 = .ok (.ldc2_w 272, 3) := by decide +kernel
theorem dX11_digest_87 : decode cX11_digest 87 = .ok (.lload_n 1, 1) := by decide +kernel
theorem dX11_digest_88 : decode cX11_digest 88 = .ok (.lmul, 1) := by decide +kernel
theorem dX11_digest_89 : decode cX11_digest 89 = .ok (.aload_n 0, 1) := by decide +kernel
theorem dX11_digest_90 : decode cX11_digest 90 = .ok (.getfield 60, 3) := by decide +kernel
theorem dX11_digest_93 : decode cX11_digest 93 = .ok (.ladd, 1) := by decide +kernel
theorem dX11_digest_94 : decode cX11_digest 94 = .ok (.lreturn, 1) := by decide +kernel
theorem dX11_refuseBad_0 : decode cX11_refuseBad 0 = .ok (.aload_n 0, 1) := by decide +kernel
theorem dX11_refuseBad_1 : decode cX11_refuseBad 1 = .ok (.dup, 1) := by decide +kernel
theorem dX11_refuseBad_2 : decode cX11_refuseBad 2 = .ok (.getfield 261, 3) := by decide +kernel
theorem dX11_refuseBad_5 : decode cX11_refuseBad 5 = .ok (.iconst 1, 1) := by decide +kernel
theorem dX11_refuseBad_6 : decode cX11_refuseBad 6 = .ok (.iadd, 1) := by decide +kernel
theorem dX11_refuseBad_7 : decode cX11_refuseBad 7 = .ok (.putfield 261, 3) := by decide +kernel
theorem dX11_refuseBad_10 : decode cX11_refuseBad 10 = .ok (.iload_n 1, 1) := by decide +kernel
theorem dX11_refuseBad_11 : decode cX11_refuseBad 11 = .ok (.ireturn, 1) := by decide +kernel
theorem dX11_refuseNo_0 : decode cX11_refuseNo 0 = .ok (.aload_n 0, 1) := by decide +kernel
theorem dX11_refuseNo_1 : decode cX11_refuseNo 1 = .ok (.dup, 1) := by decide +kernel
theorem dX11_refuseNo_2 : decode cX11_refuseNo 2 = .ok (.getfield 264, 3) := by decide +kernel
theorem dX11_refuseNo_5 : decode cX11_refuseNo 5 = .ok (.iconst 1, 1) := by decide +kernel
theorem dX11_refuseNo_6 : decode cX11_refuseNo 6 = .ok (.iadd, 1) := by decide +kernel
theorem dX11_refuseNo_7 : decode cX11_refuseNo 7 = .ok (.putfield 264, 3) := by decide +kernel
theorem dX11_refuseNo_10 : decode cX11_refuseNo 10 = .ok (.bipush (-3), 2) := by decide +kernel
theorem dX11_refuseNo_12 : decode cX11_refuseNo 12 = .ok (.ireturn, 1) := by decide +kernel
theorem dX11_refuseFull_0 : decode cX11_refuseFull 0 = .ok (.aload_n 0, 1) := by decide +kernel
theorem dX11_refuseFull_1 : decode cX11_refuseFull 1 = .ok (.dup, 1) := by decide +kernel
theorem dX11_refuseFull_2 : decode cX11_refuseFull 2 = .ok (.getfield 267, 3) := by decide +kernel
theorem dX11_refuseFull_5 : decode cX11_refuseFull 5 = .ok (.iconst 1, 1) := by decide +kernel
theorem dX11_refuseFull_6 : decode cX11_refuseFull 6 = .ok (.iadd, 1) := by decide +kernel
theorem dX11_refuseFull_7 : decode cX11_refuseFull 7 = .ok (.putfield 267, 3) := by decide +kernel
theorem dX11_refuseFull_10 : decode cX11_refuseFull 10 = .ok (.bipush (-4), 2) := by decide +kernel
theorem dX11_refuseFull_12 : decode cX11_refuseFull 12 = .ok (.ireturn, 1) := by decide +kernel
theorem dX11_isSleeper_0 : decode cX11_isSleeper 0 = .ok (.iload_n 1, 1) := by decide +kernel
theorem dX11_isSleeper_1 : decode cX11_isSleeper 1 = .ok (.aload_n 0, 1) := by decide +kernel
theorem dX11_isSleeper_2 : decode cX11_isSleeper 2 = .ok (.getfield 10, 3) := by decide +kernel
theorem dX11_isSleeper_5 : decode cX11_isSleeper 5 = .ok (.getfield 63, 3) := by decide +kernel
theorem dX11_isSleeper_8 : decode cX11_isSleeper 8 = .ok (.getfield 66, 3) := by decide +kernel
theorem dX11_isSleeper_11 : decode cX11_isSleeper 11 = .ok (.iconst 1, 1) := by decide +kernel
theorem dX11_isSleeper_12 : decode cX11_isSleeper 12 = .ok (.isub, 1) := by decide +kernel
theorem dX11_isSleeper_13 : decode cX11_isSleeper 13 = .ok (.invokestatic 80, 3) := by decide +kernel
theorem dX11_isSleeper_16 : decode cX11_isSleeper 16 = .ok (.ireturn, 1) := by decide +kernel
theorem dX11_isThing_0 : decode cX11_isThing 0 = .ok (.iload_n 1, 1) := by decide +kernel
theorem dX11_isThing_1 : decode cX11_isThing 1 = .ok (.aload_n 0, 1) := by decide +kernel
theorem dX11_isThing_2 : decode cX11_isThing 2 = .ok (.getfield 10, 3) := by decide +kernel
theorem dX11_isThing_5 : decode cX11_isThing 5 = .ok (.getfield 63, 3) := by decide +kernel
theorem dX11_isThing_8 : decode cX11_isThing 8 = .ok (.getfield 102, 3) := by decide +kernel
theorem dX11_isThing_11 : decode cX11_isThing 11 = .ok (.iconst 1, 1) := by decide +kernel
theorem dX11_isThing_12 : decode cX11_isThing 12 = .ok (.isub, 1) := by decide +kernel
theorem dX11_isThing_13 : decode cX11_isThing 13 = .ok (.invokestatic 80, 3) := by decide +kernel
theorem dX11_isThing_16 : decode cX11_isThing 16 = .ok (.ireturn, 1) := by decide +kernel
theorem dX11_isRoom_0 : decode cX11_isRoom 0 = .ok (.iload_n 0, 1) := by decide +kernel
theorem dX11_isRoom_1 : decode cX11_isRoom 1 = .ok (.bipush 7, 2) := by decide +kernel
theorem dX11_isRoom_3 : decode cX11_isRoom 3 = .ok (.invokestatic 80, 3) := by decide +kernel
theorem dX11_isRoom_6 : decode cX11_isRoom 6 = .ok (.ireturn, 1) := by decide +kernel
theorem dX11_isPupil_0 : decode cX11_isPupil 0 = .ok (.iload_n 0, 1) := by decide +kernel
theorem dX11_isPupil_1 : decode cX11_isPupil 1 = .ok (.iconst 2, 1) := by decide +kernel
theorem dX11_isPupil_2 : decode cX11_isPupil 2 = .ok (.invokestatic 80, 3) := by decide +kernel
theorem dX11_isPupil_5 : decode cX11_isPupil 5 = .ok (.ireturn, 1) := by decide +kernel
theorem dX11_within_0 : decode cX11_within 0 = .ok (.iload_n 0, 1) := by decide +kernel
theorem dX11_within_1 : decode cX11_within 1 = .ok (.ifCond .lt 12, 3) := by decide +kernel
theorem dX11_within_4 : decode cX11_within 4 = .ok (.iload_n 0, 1) := by decide +kernel
theorem dX11_within_5 : decode cX11_within 5 = .ok (.iload_n 1, 1) := by decide +kernel
theorem dX11_within_6 : decode cX11_within 6 = .ok (.if_icmp .gt 7, 3) := by decide +kernel
theorem dX11_within_9 : decode cX11_within 9 = .ok (.iconst 1, 1) := by decide +kernel
theorem dX11_within_10 : decode cX11_within 10 = .ok (.goto 4, 3) := by decide +kernel
theorem dX11_within_13 : decode cX11_within 13 = .ok (.iconst 0, 1) := by decide +kernel
theorem dX11_within_14 : decode cX11_within 14 = .ok (.ireturn, 1) := by decide +kernel
theorem dX11_bit_0 : decode cX11_bit 0 = .ok (.iload_n 0, 1) := by decide +kernel
theorem dX11_bit_1 : decode cX11_bit 1 = .ok (.iload_n 1, 1) := by decide +kernel
theorem dX11_bit_2 : decode cX11_bit 2 = .ok (.ishr, 1) := by decide +kernel
theorem dX11_bit_3 : decode cX11_bit 3 = .ok (.iconst 1, 1) := by decide +kernel
theorem dX11_bit_4 : decode cX11_bit 4 = .ok (.iand, 1) := by decide +kernel
theorem dX11_bit_5 : decode cX11_bit 5 = .ok (.ireturn, 1) := by decide +kernel
theorem dX11_pair_0 : decode cX11_pair 0 = .ok (.iload_n 0, 1) := by decide +kernel
theorem dX11_pair_1 : decode cX11_pair 1 = .ok (.bipush 8, 2) := by decide +kernel
theorem dX11_pair_3 : decode cX11_pair 3 = .ok (.imul, 1) := by decide +kernel
theorem dX11_pair_4 : decode cX11_pair 4 = .ok (.iload_n 1, 1) := by decide +kernel
theorem dX11_pair_5 : decode cX11_pair 5 = .ok (.iadd, 1) := by decide +kernel
theorem dX11_pair_6 : decode cX11_pair 6 = .ok (.ireturn, 1) := by decide +kernel
theorem dX11_weighClocks_0 : decode cX11_weighClocks 0 = .ok (.iconst 0, 1) := by decide +kernel
theorem dX11_weighClocks_1 : decode cX11_weighClocks 1 = .ok (.istore_n 3, 1) := by decide +kernel
theorem dX11_weighClocks_2 : decode cX11_weighClocks 2 = .ok (.iload_n 3, 1) := by decide +kernel
theorem dX11_weighClocks_3 : decode cX11_weighClocks 3 = .ok (.iconst 5, 1) := by decide +kernel
theorem dX11_weighClocks_4 : decode cX11_weighClocks 4 = .ok (.if_icmp .gt 28, 3) := by decide +kernel
theorem dX11_weighClocks_7 : decode cX11_weighClocks 7 = .ok (.aload_n 0, 1) := by decide +kernel
theorem dX11_weighClocks_8 : decode cX11_weighClocks 8 = .ok (.getfield 52, 3) := by decide +kernel
theorem dX11_weighClocks_11 : decode cX11_weighClocks 11 = .ok (.iload_n 3, 1) := by decide +kernel
theorem dX11_weighClocks_12 : decode cX11_weighClocks 12 = .ok (.iload_n 3, 1) := by decide +kernel
theorem dX11_weighClocks_13 : decode cX11_weighClocks 13 = .ok (.iload_n 1, 1) := by decide +kernel
theorem dX11_weighClocks_14 : decode cX11_weighClocks 14 = .ok (.invokestatic 244, 3) := by decide +kernel
theorem dX11_weighClocks_17 : decode cX11_weighClocks 17 = .ok (.if_icmp .ne 7, 3) := by decide +kernel
theorem dX11_weighClocks_20 : decode cX11_weighClocks 20 = .ok (.lconst 1, 1) := by decide +kernel
theorem dX11_weighClocks_21 : decode cX11_weighClocks 21 = .ok (.goto 4, 3) := by decide +kernel
theorem dX11_weighClocks_24 : decode cX11_weighClocks 24 = .ok (.lconst 0, 1) := by decide +kernel
theorem dX11_weighClocks_25 : decode cX11_weighClocks 25 = .ok (.lastore, 1) := by decide +kernel
theorem dX11_weighClocks_26 : decode cX11_weighClocks 26 = .ok (.iinc 3 1, 3) := by decide +kernel
theorem dX11_weighClocks_29 : decode cX11_weighClocks 29 = .ok (.goto (-27), 3) := by decide +kernel
theorem dX11_weighClocks_32 : decode cX11_weighClocks 32 = .ok (.iconst 0, 1) := by decide +kernel
theorem dX11_weighClocks_33 : decode cX11_weighClocks 33 = .ok (.istore_n 3, 1) := by decide +kernel
theorem dX11_weighClocks_34 : decode cX11_weighClocks 34 = .ok (.iload_n 3, 1) := by decide +kernel
theorem dX11_weighClocks_35 : decode cX11_weighClocks 35 = .ok (.aload_n 0, 1) := by decide +kernel
theorem dX11_weighClocks_36 : decode cX11_weighClocks 36 = .ok (.getfield 10, 3) := by decide +kernel
theorem dX11_weighClocks_39 : decode cX11_weighClocks 39 = .ok (.getfield 63, 3) := by decide +kernel
theorem dX11_weighClocks_42 : decode cX11_weighClocks 42 = .ok (.getfield 66, 3) := by decide +kernel
theorem dX11_weighClocks_45 : decode cX11_weighClocks 45 = .ok (.if_icmp .ge 78, 3) := by decide +kernel
theorem dX11_weighClocks_48 : decode cX11_weighClocks 48 = .ok (.iload_n 1, 1) := by decide +kernel
theorem dX11_weighClocks_49 : decode cX11_weighClocks 49 = .ok (.iload_n 3, 1) := by decide +kernel
theorem dX11_weighClocks_50 : decode cX11_weighClocks 50 = .ok (.invokestatic 183, 3) := by decide +kernel
theorem dX11_weighClocks_53 : decode cX11_weighClocks 53 = .ok (.ifCond .ne 64, 3) := by decide +kernel
theorem dX11_weighClocks_56 : decode cX11_weighClocks 56 = .ok (.iconst 5, 1) := by decide +kernel
theorem dX11_weighClocks_57 : decode cX11_weighClocks 57 = .ok (.istore 4, 2) := by decide +kernel
theorem dX11_weighClocks_59 : decode cX11_weighClocks 59 = .ok (.iload 4, 2) := by decide +kernel
theorem dX11_weighClocks_61 : decode cX11_weighClocks 61 = .ok (.ifCond .le 42, 3) := by decide +kernel
theorem dX11_weighClocks_64 : decode cX11_weighClocks 64 = .ok (.aload_n 0, 1) := by decide +kernel
theorem dX11_weighClocks_65 : decode cX11_weighClocks 65 = .ok (.getfield 52, 3) := by decide +kernel
theorem dX11_weighClocks_68 : decode cX11_weighClocks 68 = .ok (.iload 4, 2) := by decide +kernel
theorem dX11_weighClocks_70 : decode cX11_weighClocks 70 = .ok (.aload_n 0, 1) := by decide +kernel
theorem dX11_weighClocks_71 : decode cX11_weighClocks 71 = .ok (.getfield 52, 3) := by decide +kernel
theorem dX11_weighClocks_74 : decode cX11_weighClocks 74 = .ok (.iload 4, 2) := by decide +kernel
theorem dX11_weighClocks_76 : decode cX11_weighClocks 76 = .ok (.laload, 1) := by decide +kernel
theorem dX11_weighClocks_77 : decode cX11_weighClocks 77 = .ok (.bipush 10, 2) := by decide +kernel
theorem dX11_weighClocks_79 : decode cX11_weighClocks 79 = .ok (.iload_n 2, 1) := by decide +kernel
theorem dX11_weighClocks_80 : decode cX11_weighClocks 80 = .ok (.isub, 1) := by decide +kernel
theorem dX11_weighClocks_81 : decode cX11_weighClocks 81 = .ok (.i2l, 1) := by decide +kernel
theorem dX11_weighClocks_82 : decode cX11_weighClocks 82 = .ok (.lmul, 1) := by decide +kernel
theorem dX11_weighClocks_83 : decode cX11_weighClocks 83 = .ok (.aload_n 0, 1) := by decide +kernel
theorem dX11_weighClocks_84 : decode cX11_weighClocks 84 = .ok (.getfield 52, 3) := by decide +kernel
theorem dX11_weighClocks_87 : decode cX11_weighClocks 87 = .ok (.iload 4, 2) := by decide +kernel
theorem dX11_weighClocks_89 : decode cX11_weighClocks 89 = .ok (.iconst 1, 1) := by decide +kernel
theorem dX11_weighClocks_90 : decode cX11_weighClocks 90 = .ok (.isub, 1) := by decide +kernel
theorem dX11_weighClocks_91 : decode cX11_weighClocks 91 = .ok (.laload, 1) := by decide +kernel
theorem dX11_weighClocks_92 : decode cX11_weighClocks 92 = .ok (.iload_n 2, 1) := by decide +kernel
theorem dX11_weighClocks_93 : decode cX11_weighClocks 93 = .ok (.i2l, 1) := by decide +kernel
theorem dX11_weighClocks_94 : decode cX11_weighClocks 94 = .ok (.lmul, 1) := by decide +kernel
theorem dX11_weighClocks_95 : decode cX11_weighClocks 95 = .ok (.ladd, 1) := by decide +kernel
theorem dX11_weighClocks_96 : decode cX11_weighClocks 96 = .ok (.lastore, 1) := by decide +kernel
theorem dX11_weighClocks_97 : decode cX11_weighClocks 97 = .ok (.iinc 4 (-1), 3) := by decide +kernel
theorem dX11_weighClocks_100 : decode cX11_weighClocks 100 = .ok (.goto (-41), 3) := by decide +kernel
theorem dX11_weighClocks_103 : decode cX11_weighClocks 103 = .ok (.aload_n 0, 1) := by decide +kernel
theorem dX11_weighClocks_104 : decode cX11_weighClocks 104 = .ok (.getfield 52, 3) := by decide +kernel
theorem dX11_weighClocks_107 : decode cX11_weighClocks 107 = .ok (.iconst 0, 1) := by decide +kernel
theorem dX11_weighClocks_108 : decode cX11_weighClocks 108 = .ok (.dup2, 1) := by decide +kernel
theorem dX11_weighClocks_109 : decode cX11_weighClocks 109 = .ok (.laload, 1) := by decide +kernel
theorem dX11_weighClocks_110 : decode cX11_weighClocks 110 = .ok (.bipush 10, 2) := by decide +kernel
theorem dX11_weighClocks_112 : decode cX11_weighClocks 112 = .ok (.iload_n 2, 1) := by decide +kernel
theorem dX11_weighClocks_113 : decode cX11_weighClocks 113 = .ok (.isub, 1) := by decide +kernel
theorem dX11_weighClocks_114 : decode cX11_weighClocks 114 = .ok (.i2l, 1) := by decide +kernel
theorem dX11_weighClocks_115 : decode cX11_weighClocks 115 = .ok (.lmul, 1) := by decide +kernel
theorem dX11_weighClocks_116 : decode cX11_weighClocks 116 = .ok (.lastore, 1) := by decide +kernel
theorem dX11_weighClocks_117 : decode cX11_weighClocks 117 = .ok (.iinc 3 1, 3) := by decide +kernel
theorem dX11_weighClocks_120 : decode cX11_weighClocks 120 = .ok (.goto (-86), 3) := by decide +kernel
theorem dX11_weighClocks_123 : decode cX11_weighClocks 123 = .ok (.return_, 1) := by decide +kernel
theorem dX11_keepFraction_0 : decode cX11_keepFraction 0 = .ok (.lload_n 1, 1) := by decide +kernel
theorem dX11_keepFraction_1 : decode cX11_keepFraction 1 = .ok (.lload_n 3, 1) := by decide +kernel
theorem dX11_keepFraction_2 : decode cX11_keepFraction 2 = .ok (.invokestatic 290, 3) := by decide +kernel
theorem dX11_keepFraction_5 : decode cX11_keepFraction 5 = .ok (.lstore 5, 2) := by decide +kernel
theorem dX11_keepFraction_7 : decode cX11_keepFraction 7 = .ok (.lload 5, 2) := by decide +kernel
theorem dX11_keepFraction_9 : decode cX11_keepFraction 9 = .ok (.lconst 0, 1) := by decide +kernel
theorem dX11_keepFraction_10 : decode cX11_keepFraction 10 = .ok (.lcmp, 1) := by decide +kernel
theorem dX11_keepFraction_11 : decode cX11_keepFraction 11 = .ok (.ifCond .le 19, 3) := by decide +kernel
theorem dX11_keepFraction_14 : decode cX11_keepFraction 14 = .ok (.aload_n 0, 1) := by decide +kernel
theorem dX11_keepFraction_15 : decode cX11_keepFraction 15 = .ok (.lload_n 1, 1) := by decide +kernel
theorem dX11_keepFraction_16 : decode cX11_keepFraction 16 = .ok (.lload 5, 2) := by decide +kernel
theorem dX11_keepFraction_18 : decode cX11_keepFraction 18 = .ok (.ldiv, 1) := by decide +kernel
theorem dX11_keepFraction_19 : decode cX11_keepFraction 19 = .ok (.putfield 56, 3) := by decide +kernel
theorem dX11_keepFraction_22 : decode cX11_keepFraction 22 = .ok (.aload_n 0, 1) := by decide +kernel
theorem dX11_keepFraction_23 : decode cX11_keepFraction 23 = .ok (.lload_n 3, 1) := by decide +kernel
theorem dX11_keepFraction_24 : decode cX11_keepFraction 24 = .ok (.lload 5, 2) := by decide +kernel
theorem dX11_keepFraction_26 : decode cX11_keepFraction 26 = .ok (.ldiv, 1) := by decide +kernel
theorem dX11_keepFraction_27 : decode cX11_keepFraction 27 = .ok (.putfield 60, 3) := by decide +kernel
theorem dX11_keepFraction_30 : decode cX11_keepFraction 30 = .ok (.return_, 1) := by decide +kernel
theorem dX11_commonDivisor_0 : decode cX11_commonDivisor 0 = .ok (.lload_n 0, 1) := by decide +kernel
theorem dX11_commonDivisor_1 : decode cX11_commonDivisor 1 = .ok (.lstore 4, 2) := by decide +kernel
theorem dX11_commonDivisor_3 : decode cX11_commonDivisor 3 = .ok (.lload_n 2, 1) := by decide +kernel
theorem dX11_commonDivisor_4 : decode cX11_commonDivisor 4 = .ok (.lstore 6, 2) := by decide +kernel
theorem dX11_commonDivisor_6 : decode cX11_commonDivisor 6 = .ok (.iconst 0, 1) := by decide +kernel
theorem dX11_commonDivisor_7 : decode cX11_commonDivisor 7 = .ok (.istore 8, 2) := by decide +kernel
theorem dX11_commonDivisor_9 : decode cX11_commonDivisor 9 = .ok (.iload 8, 2) := by decide +kernel
theorem dX11_commonDivisor_11 : decode cX11_commonDivisor 11 = .ok (.bipush 100, 2) := by decide +kernel
theorem dX11_commonDivisor_13 : decode cX11_commonDivisor 13 = .ok (.if_icmp .ge 31, 3) := by decide +kernel
theorem dX11_commonDivisor_16 : decode cX11_commonDivisor 16 = .ok (.lload 6, 2) := by decide +kernel
theorem dX11_commonDivisor_18 : decode cX11_commonDivisor 18 = .ok (.lconst 0, 1) := by decide +kernel
theorem dX11_commonDivisor_19 : decode cX11_commonDivisor 19 = .ok (.lcmp, 1) := by decide +kernel
theorem dX11_commonDivisor_20 : decode cX11_commonDivisor 20 = .ok (.ifCond .eq 24, 3) := by decide +kernel
theorem dX11_commonDivisor_23 : decode cX11_commonDivisor 23 = .ok (.lload 4, 2) := by decide +kernel
theorem dX11_commonDivisor_25 : decode cX11_commonDivisor 25 = .ok (.lload 6, 2) := by decide +kernel
theorem dX11_commonDivisor_27 : decode cX11_commonDivisor 27 = .ok (.lrem, 1) := by decide +kernel
theorem dX11_commonDivisor_28 : decode cX11_commonDivisor 28 = .ok (.lstore 9, 2) := by decide +kernel
theorem dX11_commonDivisor_30 : decode cX11_commonDivisor 30 = .ok (.lload 6, 2) := by decide +kernel
theorem dX11_commonDivisor_32 : decode cX11_commonDivisor 32 = .ok (.lstore 4, 2) := by decide +kernel
theorem dX11_commonDivisor_34 : decode cX11_commonDivisor 34 = .ok (.lload 9, 2) := by decide +kernel
theorem dX11_commonDivisor_36 : decode cX11_commonDivisor 36 = .ok (.lstore 6, 2) := by decide +kernel
theorem dX11_commonDivisor_38 : decode cX11_commonDivisor 38 = .ok (.iinc 8 1, 3) := by decide +kernel
theorem dX11_commonDivisor_41 : decode cX11_commonDivisor 41 = .ok (.goto (-32), 3) := by decide +kernel
theorem dX11_commonDivisor_44 : decode cX11_commonDivisor 44 = .ok (.lload 4, 2) := by decide +kernel
theorem dX11_commonDivisor_46 : decode cX11_commonDivisor 46 = .ok (.lreturn, 1) := by decide +kernel
theorem dL_law_0 : decode cL_law 0 = .ok (.new 7, 3) := by decide +kernel
theorem dL_law_3 : decode cL_law 3 = .ok (.dup, 1) := by decide +kernel
theorem dL_law_4 : decode cL_law 4 = .ok (.invokespecial 9, 3) := by decide +kernel
theorem dL_law_7 : decode cL_law 7 = .ok (.astore_n 1, 1) := by decide +kernel
theorem dL_law_8 : decode cL_law 8 = .ok (.new 10, 3) := by decide +kernel
theorem dL_law_11 : decode cL_law 11 = .ok (.dup, 1) := by decide +kernel
theorem dL_law_12 : decode cL_law 12 = .ok (.invokespecial 12, 3) := by decide +kernel
theorem dL_law_15 : decode cL_law 15 = .ok (.astore_n 2, 1) := by decide +kernel
theorem dL_law_16 : decode cL_law 16 = .ok (.iconst 0, 1) := by decide +kernel
theorem dL_law_17 : decode cL_law 17 = .ok (.istore_n 3, 1) := by decide +kernel
theorem dL_law_18 : decode cL_law 18 = .ok (.iload_n 3, 1) := by decide +kernel
theorem dL_law_19 : decode cL_law 19 = .ok (.aload_n 0, 1) := by decide +kernel
theorem dL_law_20 : decode cL_law 20 = .ok (.arraylength, 1) := by decide +kernel
theorem dL_law_21 : decode cL_law 21 = .ok (.iconst 5, 1) := by decide +kernel
theorem dL_law_22 : decode cL_law 22 = .ok (.isub, 1) := by decide +kernel
theorem dL_law_23 : decode cL_law 23 = .ok (.if_icmp .gt 1109, 3) := by decide +kernel
theorem dL_law_26 : decode cL_law 26 = .ok (.aload_n 0, 1) := by decide +kernel
theorem dL_law_27 : decode cL_law 27 = .ok (.iload_n 3, 1) := by decide +kernel
theorem dL_law_28 : decode cL_law 28 = .ok (.iaload, 1) := by decide +kernel
theorem dL_law_29 : decode cL_law 29 = .ok (.bipush 63, 2) := by decide +kernel
theorem dL_law_31 : decode cL_law 31 = .ok (.iand, 1) := by decide +kernel
theorem dL_law_32 : decode cL_law 32 = .ok (.tableswitch 1094 0 34 #[156, 169, 212, 255, 278, 311, 334, 347, 360, 393, 416, 429, 462, 485, 518, 561, 594, 647, 680, 713, 736, 759, 772, 815, 828, 851, 865, 888, 931, 964, 988, 1011, 1034, 1057, 1080], 156) := by decide +kernel
theorem dL_law_188 : decode cL_law 188 = .ok (.aload_n 1, 1) := by decide +kernel
theorem dL_law_189 : decode cL_law 189 = .ok (.invokevirtual 13, 3) := by decide +kernel
theorem dL_law_192 : decode cL_law 192 = .ok (.aload_n 2, 1) := by decide +kernel
theorem dL_law_193 : decode cL_law 193 = .ok (.invokevirtual 17, 3) := by decide +kernel
theorem dL_law_196 : decode cL_law 196 = .ok (.if_icmp .eq 930, 3) := by decide +kernel
theorem dL_law_199 : decode cL_law 199 = .ok (.iconst 0, 1) := by decide +kernel
theorem dL_law_200 : decode cL_law 200 = .ok (.ireturn, 1) := by decide +kernel
theorem dL_law_201 : decode cL_law 201 = .ok (.aload_n 1, 1) := by decide +kernel
theorem dL_law_202 : decode cL_law 202 = .ok (.aload_n 0, 1) := by decide +kernel
theorem dL_law_203 : decode cL_law 203 = .ok (.iload_n 3, 1) := by decide +kernel
theorem dL_law_204 : decode cL_law 204 = .ok (.iconst 1, 1) := by decide +kernel
theorem dL_law_205 : decode cL_law 205 = .ok (.iadd, 1) := by decide +kernel
theorem dL_law_206 : decode cL_law 206 = .ok (.iaload, 1) := by decide +kernel
theorem dL_law_207 : decode cL_law 207 = .ok (.aload_n 0, 1) := by decide +kernel
theorem dL_law_208 : decode cL_law 208 = .ok (.iload_n 3, 1) := by decide +kernel
theorem dL_law_209 : decode cL_law 209 = .ok (.iconst 2, 1) := by decide +kernel
theorem dL_law_210 : decode cL_law 210 = .ok (.iadd, 1) := by decide +kernel
theorem dL_law_211 : decode cL_law 211 = .ok (.iaload, 1) := by decide +kernel
theorem dL_law_212 : decode cL_law 212 = .ok (.aload_n 0, 1) := by decide +kernel
theorem dL_law_213 : decode cL_law 213 = .ok (.iload_n 3, 1) := by decide +kernel
theorem dL_law_214 : decode cL_law 214 = .ok (.iconst 3, 1) := by decide +kernel
theorem dL_law_215 : decode cL_law 215 = .ok (.iadd, 1) := by decide +kernel
theorem dL_law_216 : decode cL_law 216 = .ok (.iaload, 1) := by decide +kernel
theorem dL_law_217 : decode cL_law 217 = .ok (.invokevirtual 18, 3) := by decide +kernel
theorem dL_law_220 : decode cL_law 220 = .ok (.aload_n 2, 1) := by decide +kernel
theorem dL_law_221 : decode cL_law 221 = .ok (.aload_n 0, 1) := by decide +kernel
theorem dL_law_222 : decode cL_law 222 = .ok (.iload_n 3, 1) := by decide +kernel
theorem dL_law_223 : decode cL_law 223 = .ok (.iconst 1, 1) := by decide +kernel
theorem dL_law_224 : decode cL_law 224 = .ok (.iadd, 1) := by decide +kernel
theorem dL_law_225 : decode cL_law 225 = .ok (.iaload, 1) := by decide +kernel
theorem dL_law_226 : decode cL_law 226 = .ok (.aload_n 0, 1) := by decide +kernel
theorem dL_law_227 : decode cL_law 227 = .ok (.iload_n 3, 1) := by decide +kernel
theorem dL_law_228 : decode cL_law 228 = .ok (.iconst 2, 1) := by decide +kernel
theorem dL_law_229 : decode cL_law 229 = .ok (.iadd, 1) := by decide +kernel
theorem dL_law_230 : decode cL_law 230 = .ok (.iaload, 1) := by decide +kernel
theorem dL_law_231 : decode cL_law 231 = .ok (.aload_n 0, 1) := by decide +kernel
theorem dL_law_232 : decode cL_law 232 = .ok (.iload_n 3, 1) := by decide +kernel
theorem dL_law_233 : decode cL_law 233 = .ok (.iconst 3, 1) := by decide +kernel
theorem dL_law_234 : decode cL_law 234 = .ok (.iadd, 1) := by decide +kernel
theorem dL_law_235 : decode cL_law 235 = .ok (.iaload, 1) := by decide +kernel
theorem dL_law_236 : decode cL_law 236 = .ok (.invokevirtual 22, 3) := by decide +kernel
theorem dL_law_239 : decode cL_law 239 = .ok (.if_icmp .eq 887, 3) := by decide +kernel
theorem dL_law_242 : decode cL_law 242 = .ok (.iconst 0, 1) := by decide +kernel
theorem dL_law_243 : decode cL_law 243 = .ok (.ireturn, 1) := by decide +kernel
theorem dL_law_244 : decode cL_law 244 = .ok (.aload_n 1, 1) := by decide +kernel
theorem dL_law_245 : decode cL_law 245 = .ok (.aload_n 0, 1) := by decide +kernel
theorem dL_law_246 : decode cL_law 246 = .ok (.iload_n 3, 1) := by decide +kernel
theorem dL_law_247 : decode cL_law 247 = .ok (.iconst 1, 1) := by decide +kernel
theorem dL_law_248 : decode cL_law 248 = .ok (.iadd, 1) := by decide +kernel
theorem dL_law_249 : decode cL_law 249 = .ok (.iaload, 1) := by decide +kernel
theorem dL_law_250 : decode cL_law 250 = .ok (.aload_n 0, 1) := by decide +kernel
theorem dL_law_251 : decode cL_law 251 = .ok (.iload_n 3, 1) := by decide +kernel
theorem dL_law_252 : decode cL_law 252 = .ok (.iconst 2, 1) := by decide +kernel
theorem dL_law_253 : decode cL_law 253 = .ok (.iadd, 1) := by decide +kernel
theorem dL_law_254 : decode cL_law 254 = .ok (.iaload, 1) := by decide +kernel
theorem dL_law_255 : decode cL_law 255 = .ok (.aload_n 0, 1) := by decide +kernel
theorem dL_law_256 : decode cL_law 256 = .ok (.iload_n 3, 1) := by decide +kernel
theorem dL_law_257 : decode cL_law 257 = .ok (.iconst 3, 1) := by decide +kernel
theorem dL_law_258 : decode cL_law 258 = .ok (.iadd, 1) := by decide +kernel
theorem dL_law_259 : decode cL_law 259 = .ok (.iaload, 1) := by decide +kernel
theorem dL_law_260 : decode cL_law 260 = .ok (.invokevirtual 23, 3) := by decide +kernel
theorem dL_law_263 : decode cL_law 263 = .ok (.aload_n 2, 1) := by decide +kernel
theorem dL_law_264 : decode cL_law 264 = .ok (.aload_n 0, 1) := by decide +kernel
theorem dL_law_265 : decode cL_law 265 = .ok (.iload_n 3, 1) := by decide +kernel
theorem dL_law_266 : decode cL_law 266 = .ok (.iconst 1, 1) := by decide +kernel
theorem dL_law_267 : decode cL_law 267 = .ok (.iadd, 1) := by decide +kernel
theorem dL_law_268 : decode cL_law 268 = .ok (.iaload, 1) := by decide +kernel
theorem dL_law_269 : decode cL_law 269 = .ok (.aload_n 0, 1) := by decide +kernel
theorem dL_law_270 : decode cL_law 270 = .ok (.iload_n 3, 1) := by decide +kernel
theorem dL_law_271 : decode cL_law 271 = .ok (.iconst 2, 1) := by decide +kernel
theorem dL_law_272 : decode cL_law 272 = .ok (.iadd, 1) := by decide +kernel
theorem dL_law_273 : decode cL_law 273 = .ok (.iaload, 1) := by decide +kernel
theorem dL_law_274 : decode cL_law 274 = .ok (.aload_n 0, 1) := by decide +kernel
theorem dL_law_275 : decode cL_law 275 = .ok (.iload_n 3, 1) := by decide +kernel
theorem dL_law_276 : decode cL_law 276 = .ok (.iconst 3, 1) := by decide +kernel
theorem dL_law_277 : decode cL_law 277 = .ok (.iadd, 1) := by decide +kernel
theorem dL_law_278 : decode cL_law 278 = .ok (.iaload, 1) := by decide +kernel
theorem dL_law_279 : decode cL_law 279 = .ok (.invokevirtual 26, 3) := by decide +kernel
theorem dL_law_282 : decode cL_law 282 = .ok (.if_icmp .eq 844, 3) := by decide +kernel
theorem dL_law_285 : decode cL_law 285 = .ok (.iconst 0, 1) := by decide +kernel
theorem dL_law_286 : decode cL_law 286 = .ok (.ireturn, 1) := by decide +kernel
theorem dL_law_287 : decode cL_law 287 = .ok (.aload_n 1, 1) := by decide +kernel
theorem dL_law_288 : decode cL_law 288 = .ok (.aload_n 0, 1) := by decide +kernel
theorem dL_law_289 : decode cL_law 289 = .ok (.iload_n 3, 1) := by decide +kernel
theorem dL_law_290 : decode cL_law 290 = .ok (.iconst 1, 1) := by decide +kernel
theorem dL_law_291 : decode cL_law 291 = .ok (.iadd, 1) := by decide +kernel
theorem dL_law_292 : decode cL_law 292 = .ok (.iaload, 1) := by decide +kernel
theorem dL_law_293 : decode cL_law 293 = .ok (.invokevirtual 27, 3) := by decide +kernel
theorem dL_law_296 : decode cL_law 296 = .ok (.aload_n 2, 1) := by decide +kernel
theorem dL_law_297 : decode cL_law 297 = .ok (.aload_n 0, 1) := by decide +kernel
theorem dL_law_298 : decode cL_law 298 = .ok (.iload_n 3, 1) := by decide +kernel
theorem dL_law_299 : decode cL_law 299 = .ok (.iconst 1, 1) := by decide +kernel
theorem dL_law_300 : decode cL_law 300 = .ok (.iadd, 1) := by decide +kernel
theorem dL_law_301 : decode cL_law 301 = .ok (.iaload, 1) := by decide +kernel
theorem dL_law_302 : decode cL_law 302 = .ok (.invokevirtual 31, 3) := by decide +kernel
theorem dL_law_305 : decode cL_law 305 = .ok (.if_icmp .eq 821, 3) := by decide +kernel
theorem dL_law_308 : decode cL_law 308 = .ok (.iconst 0, 1) := by decide +kernel
theorem dL_law_309 : decode cL_law 309 = .ok (.ireturn, 1) := by decide +kernel
theorem dL_law_310 : decode cL_law 310 = .ok (.aload_n 1, 1) := by decide +kernel
theorem dL_law_311 : decode cL_law 311 = .ok (.aload_n 0, 1) := by decide +kernel
theorem dL_law_312 : decode cL_law 312 = .ok (.iload_n 3, 1) := by decide +kernel
theorem dL_law_313 : decode cL_law 313 = .ok (.iconst 1, 1) := by decide +kernel
theorem dL_law_314 : decode cL_law 314 = .ok (.iadd, 1) := by decide +kernel
theorem dL_law_315 : decode cL_law 315 = .ok (.iaload, 1) := by decide +kernel
theorem dL_law_316 : decode cL_law 316 = .ok (.aload_n 0, 1) := by decide +kernel
theorem dL_law_317 : decode cL_law 317 = .ok (.iload_n 3, 1) := by decide +kernel
theorem dL_law_318 : decode cL_law 318 = .ok (.iconst 2, 1) := by decide +kernel
theorem dL_law_319 : decode cL_law 319 = .ok (.iadd, 1) := by decide +kernel
theorem dL_law_320 : decode cL_law 320 = .ok (.iaload, 1) := by decide +kernel
theorem dL_law_321 : decode cL_law 321 = .ok (.invokevirtual 32, 3) := by decide +kernel
theorem dL_law_324 : decode cL_law 324 = .ok (.aload_n 2, 1) := by decide +kernel
theorem dL_law_325 : decode cL_law 325 = .ok (.aload_n 0, 1) := by decide +kernel
theorem dL_law_326 : decode cL_law 326 = .ok (.iload_n 3, 1) := by decide +kernel
theorem dL_law_327 : decode cL_law 327 = .ok (.iconst 1, 1) := by decide +kernel
theorem dL_law_328 : decode cL_law 328 = .ok (.iadd, 1) := by decide +kernel
theorem dL_law_329 : decode cL_law 329 = .ok (.iaload, 1) := by decide +kernel
theorem dL_law_330 : decode cL_law 330 = .ok (.aload_n 0, 1) := by decide +kernel
theorem dL_law_331 : decode cL_law 331 = .ok (.iload_n 3, 1) := by decide +kernel
theorem dL_law_332 : decode cL_law 332 = .ok (.iconst 2, 1) := by decide +kernel
theorem dL_law_333 : decode cL_law 333 = .ok (.iadd, 1) := by decide +kernel
theorem dL_law_334 : decode cL_law 334 = .ok (.iaload, 1) := by decide +kernel
theorem dL_law_335 : decode cL_law 335 = .ok (.invokevirtual 36, 3) := by decide +kernel
theorem dL_law_338 : decode cL_law 338 = .ok (.if_icmp .eq 788, 3) := by decide +kernel
theorem dL_law_341 : decode cL_law 341 = .ok (.iconst 0, 1) := by decide +kernel
theorem dL_law_342 : decode cL_law 342 = .ok (.ireturn, 1) := by decide +kernel
theorem dL_law_343 : decode cL_law 343 = .ok (.aload_n 1, 1) := by decide +kernel
theorem dL_law_344 : decode cL_law 344 = .ok (.aload_n 0, 1) := by decide +kernel
theorem dL_law_345 : decode cL_law 345 = .ok (.iload_n 3, 1) := by decide +kernel
theorem dL_law_346 : decode cL_law 346 = .ok (.iconst 1, 1) := by decide +kernel
theorem dL_law_347 : decode cL_law 347 = .ok (.iadd, 1) := by decide +kernel
theorem dL_law_348 : decode cL_law 348 = .ok (.iaload, 1) := by decide +kernel
theorem dL_law_349 : decode cL_law 349 = .ok (.invokevirtual 37, 3) := by decide +kernel
theorem dL_law_352 : decode cL_law 352 = .ok (.aload_n 2, 1) := by decide +kernel
theorem dL_law_353 : decode cL_law 353 = .ok (.aload_n 0, 1) := by decide +kernel
theorem dL_law_354 : decode cL_law 354 = .ok (.iload_n 3, 1) := by decide +kernel
theorem dL_law_355 : decode cL_law 355 = .ok (.iconst 1, 1) := by decide +kernel
theorem dL_law_356 : decode cL_law 356 = .ok (.iadd, 1) := by decide +kernel
theorem dL_law_357 : decode cL_law 357 = .ok (.iaload, 1) := by decide +kernel
theorem dL_law_358 : decode cL_law 358 = .ok (.invokevirtual 40, 3) := by decide +kernel
theorem dL_law_361 : decode cL_law 361 = .ok (.if_icmp .eq 765, 3) := by decide +kernel
theorem dL_law_364 : decode cL_law 364 = .ok (.iconst 0, 1) := by decide +kernel
theorem dL_law_365 : decode cL_law 365 = .ok (.ireturn, 1) := by decide +kernel
theorem dL_law_366 : decode cL_law 366 = .ok (.aload_n 1, 1) := by decide +kernel
theorem dL_law_367 : decode cL_law 367 = .ok (.invokevirtual 41, 3) := by decide +kernel
theorem dL_law_370 : decode cL_law 370 = .ok (.aload_n 2, 1) := by decide +kernel
theorem dL_law_371 : decode cL_law 371 = .ok (.invokevirtual 44, 3) := by decide +kernel
theorem dL_law_374 : decode cL_law 374 = .ok (.if_icmp .eq 752, 3) := by decide +kernel
theorem dL_law_377 : decode cL_law 377 = .ok (.iconst 0, 1) := by decide +kernel
theorem dL_law_378 : decode cL_law 378 = .ok (.ireturn, 1) := by decide +kernel
theorem dL_law_379 : decode cL_law 379 = .ok (.aload_n 1, 1) := by decide +kernel
theorem dL_law_380 : decode cL_law 380 = .ok (.invokevirtual 45, 3) := by decide +kernel
theorem dL_law_383 : decode cL_law 383 = .ok (.aload_n 2, 1) := by decide +kernel
theorem dL_law_384 : decode cL_law 384 = .ok (.invokevirtual 48, 3) := by decide +kernel
theorem dL_law_387 : decode cL_law 387 = .ok (.if_icmp .eq 739, 3) := by decide +kernel
theorem dL_law_390 : decode cL_law 390 = .ok (.iconst 0, 1) := by decide +kernel
theorem dL_law_391 : decode cL_law 391 = .ok (.ireturn, 1) := by decide +kernel
theorem dL_law_392 : decode cL_law 392 = .ok (.aload_n 1, 1) := by decide +kernel
theorem dL_law_393 : decode cL_law 393 = .ok (.aload_n 0, 1) := by decide +kernel
theorem dL_law_394 : decode cL_law 394 = .ok (.iload_n 3, 1) := by decide +kernel
theorem dL_law_395 : decode cL_law 395 = .ok (.iconst 1, 1) := by decide +kernel
theorem dL_law_396 : decode cL_law 396 = .ok (.iadd, 1) := by decide +kernel
theorem dL_law_397 : decode cL_law 397 = .ok (.iaload, 1) := by decide +kernel
theorem dL_law_398 : decode cL_law 398 = .ok (.aload_n 0, 1) := by decide +kernel
theorem dL_law_399 : decode cL_law 399 = .ok (.iload_n 3, 1) := by decide +kernel
theorem dL_law_400 : decode cL_law 400 = .ok (.iconst 2, 1) := by decide +kernel
theorem dL_law_401 : decode cL_law 401 = .ok (.iadd, 1) := by decide +kernel
theorem dL_law_402 : decode cL_law 402 = .ok (.iaload, 1) := by decide +kernel
theorem dL_law_403 : decode cL_law 403 = .ok (.invokevirtual 49, 3) := by decide +kernel
theorem dL_law_406 : decode cL_law 406 = .ok (.aload_n 2, 1) := by decide +kernel
theorem dL_law_407 : decode cL_law 407 = .ok (.aload_n 0, 1) := by decide +kernel
theorem dL_law_408 : decode cL_law 408 = .ok (.iload_n 3, 1) := by decide +kernel
theorem dL_law_409 : decode cL_law 409 = .ok (.iconst 1, 1) := by decide +kernel
theorem dL_law_410 : decode cL_law 410 = .ok (.iadd, 1) := by decide +kernel
theorem dL_law_411 : decode cL_law 411 = .ok (.iaload, 1) := by decide +kernel
theorem dL_law_412 : decode cL_law 412 = .ok (.aload_n 0, 1) := by decide +kernel
theorem dL_law_413 : decode cL_law 413 = .ok (.iload_n 3, 1) := by decide +kernel
theorem dL_law_414 : decode cL_law 414 = .ok (.iconst 2, 1) := by decide +kernel
theorem dL_law_415 : decode cL_law 415 = .ok (.iadd, 1) := by decide +kernel
theorem dL_law_416 : decode cL_law 416 = .ok (.iaload, 1) := by decide +kernel
theorem dL_law_417 : decode cL_law 417 = .ok (.invokevirtual 52, 3) := by decide +kernel
theorem dL_law_420 : decode cL_law 420 = .ok (.if_icmp .eq 706, 3) := by decide +kernel
theorem dL_law_423 : decode cL_law 423 = .ok (.iconst 0, 1) := by decide +kernel
theorem dL_law_424 : decode cL_law 424 = .ok (.ireturn, 1) := by decide +kernel
theorem dL_law_425 : decode cL_law 425 = .ok (.aload_n 1, 1) := by decide +kernel
theorem dL_law_426 : decode cL_law 426 = .ok (.aload_n 0, 1) := by decide +kernel
theorem dL_law_427 : decode cL_law 427 = .ok (.iload_n 3, 1) := by decide +kernel
theorem dL_law_428 : decode cL_law 428 = .ok (.iconst 1, 1) := by decide +kernel
theorem dL_law_429 : decode cL_law 429 = .ok (.iadd, 1) := by decide +kernel
theorem dL_law_430 : decode cL_law 430 = .ok (.iaload, 1) := by decide +kernel
theorem dL_law_431 : decode cL_law 431 = .ok (.invokevirtual 53, 3) := by decide +kernel
theorem dL_law_434 : decode cL_law 434 = .ok (.aload_n 2, 1) := by decide +kernel
theorem dL_law_435 : decode cL_law 435 = .ok (.aload_n 0, 1) := by decide +kernel
theorem dL_law_436 : decode cL_law 436 = .ok (.iload_n 3, 1) := by decide +kernel
theorem dL_law_437 : decode cL_law 437 = .ok (.iconst 1, 1) := by decide +kernel
theorem dL_law_438 : decode cL_law 438 = .ok (.iadd, 1) := by decide +kernel
theorem dL_law_439 : decode cL_law 439 = .ok (.iaload, 1) := by decide +kernel
theorem dL_law_440 : decode cL_law 440 = .ok (.invokevirtual 56, 3) := by decide +kernel
theorem dL_law_443 : decode cL_law 443 = .ok (.if_icmp .eq 683, 3) := by decide +kernel
theorem dL_law_446 : decode cL_law 446 = .ok (.iconst 0, 1) := by decide +kernel
theorem dL_law_447 : decode cL_law 447 = .ok (.ireturn, 1) := by decide +kernel
theorem dL_law_448 : decode cL_law 448 = .ok (.aload_n 1, 1) := by decide +kernel
theorem dL_law_449 : decode cL_law 449 = .ok (.invokevirtual 57, 3) := by decide +kernel
theorem dL_law_452 : decode cL_law 452 = .ok (.aload_n 2, 1) := by decide +kernel
theorem dL_law_453 : decode cL_law 453 = .ok (.invokevirtual 60, 3) := by decide +kernel
theorem dL_law_456 : decode cL_law 456 = .ok (.if_icmp .eq 670, 3) := by decide +kernel
theorem dL_law_459 : decode cL_law 459 = .ok (.iconst 0, 1) := by decide +kernel
theorem dL_law_460 : decode cL_law 460 = .ok (.ireturn, 1) := by decide +kernel
theorem dL_law_461 : decode cL_law 461 = .ok (.aload_n 1, 1) := by decide +kernel
theorem dL_law_462 : decode cL_law 462 = .ok (.aload_n 0, 1) := by decide +kernel
theorem dL_law_463 : decode cL_law 463 = .ok (.iload_n 3, 1) := by decide +kernel
theorem dL_law_464 : decode cL_law 464 = .ok (.iconst 1, 1) := by decide +kernel
theorem dL_law_465 : decode cL_law 465 = .ok (.iadd, 1) := by decide +kernel
theorem dL_law_466 : decode cL_law 466 = .ok (.iaload, 1) := by decide +kernel
theorem dL_law_467 : decode cL_law 467 = .ok (.aload_n 0, 1) := by decide +kernel
theorem dL_law_468 : decode cL_law 468 = .ok (.iload_n 3, 1) := by decide +kernel
theorem dL_law_469 : decode cL_law 469 = .ok (.iconst 2, 1) := by decide +kernel
theorem dL_law_470 : decode cL_law 470 = .ok (.iadd, 1) := by decide +kernel
theorem dL_law_471 : decode cL_law 471 = .ok (.iaload, 1) := by decide +kernel
theorem dL_law_472 : decode cL_law 472 = .ok (.invokevirtual 61, 3) := by decide +kernel
theorem dL_law_475 : decode cL_law 475 = .ok (.aload_n 2, 1) := by decide +kernel
theorem dL_law_476 : decode cL_law 476 = .ok (.aload_n 0, 1) := by decide +kernel
theorem dL_law_477 : decode cL_law 477 = .ok (.iload_n 3, 1) := by decide +kernel
theorem dL_law_478 : decode cL_law 478 = .ok (.iconst 1, 1) := by decide +kernel
theorem dL_law_479 : decode cL_law 479 = .ok (.iadd, 1) := by decide +kernel
theorem dL_law_480 : decode cL_law 480 = .ok (.iaload, 1) := by decide +kernel
theorem dL_law_481 : decode cL_law 481 = .ok (.aload_n 0, 1) := by decide +kernel
theorem dL_law_482 : decode cL_law 482 = .ok (.iload_n 3, 1) := by decide +kernel
theorem dL_law_483 : decode cL_law 483 = .ok (.iconst 2, 1) := by decide +kernel
theorem dL_law_484 : decode cL_law 484 = .ok (.iadd, 1) := by decide +kernel
theorem dL_law_485 : decode cL_law 485 = .ok (.iaload, 1) := by decide +kernel
theorem dL_law_486 : decode cL_law 486 = .ok (.invokevirtual 64, 3) := by decide +kernel
theorem dL_law_489 : decode cL_law 489 = .ok (.if_icmp .eq 637, 3) := by decide +kernel
theorem dL_law_492 : decode cL_law 492 = .ok (.iconst 0, 1) := by decide +kernel
theorem dL_law_493 : decode cL_law 493 = .ok (.ireturn, 1) := by decide +kernel
theorem dL_law_494 : decode cL_law 494 = .ok (.aload_n 1, 1) := by decide +kernel
theorem dL_law_495 : decode cL_law 495 = .ok (.aload_n 0, 1) := by decide +kernel
theorem dL_law_496 : decode cL_law 496 = .ok (.iload_n 3, 1) := by decide +kernel
theorem dL_law_497 : decode cL_law 497 = .ok (.iconst 1, 1) := by decide +kernel
theorem dL_law_498 : decode cL_law 498 = .ok (.iadd, 1) := by decide +kernel
theorem dL_law_499 : decode cL_law 499 = .ok (.iaload, 1) := by decide +kernel
theorem dL_law_500 : decode cL_law 500 = .ok (.invokevirtual 65, 3) := by decide +kernel
theorem dL_law_503 : decode cL_law 503 = .ok (.aload_n 2, 1) := by decide +kernel
theorem dL_law_504 : decode cL_law 504 = .ok (.aload_n 0, 1) := by decide +kernel
theorem dL_law_505 : decode cL_law 505 = .ok (.iload_n 3, 1) := by decide +kernel
theorem dL_law_506 : decode cL_law 506 = .ok (.iconst 1, 1) := by decide +kernel
theorem dL_law_507 : decode cL_law 507 = .ok (.iadd, 1) := by decide +kernel
theorem dL_law_508 : decode cL_law 508 = .ok (.iaload, 1) := by decide +kernel
theorem dL_law_509 : decode cL_law 509 = .ok (.invokevirtual 68, 3) := by decide +kernel
theorem dL_law_512 : decode cL_law 512 = .ok (.if_icmp .eq 614, 3) := by decide +kernel
theorem dL_law_515 : decode cL_law 515 = .ok (.iconst 0, 1) := by decide +kernel
theorem dL_law_516 : decode cL_law 516 = .ok (.ireturn, 1) := by decide +kernel
theorem dL_law_517 : decode cL_law 517 = .ok (.aload_n 1, 1) := by decide +kernel
theorem dL_law_518 : decode cL_law 518 = .ok (.aload_n 0, 1) := by decide +kernel
theorem dL_law_519 : decode cL_law 519 = .ok (.iload_n 3, 1) := by decide +kernel
theorem dL_law_520 : decode cL_law 520 = .ok (.iconst 1, 1) := by decide +kernel
theorem dL_law_521 : decode cL_law 521 = .ok (.iadd, 1) := by decide +kernel
theorem dL_law_522 : decode cL_law 522 = .ok (.iaload, 1) := by decide +kernel
theorem dL_law_523 : decode cL_law 523 = .ok (.aload_n 0, 1) := by decide +kernel
theorem dL_law_524 : decode cL_law 524 = .ok (.iload_n 3, 1) := by decide +kernel
theorem dL_law_525 : decode cL_law 525 = .ok (.iconst 2, 1) := by decide +kernel
theorem dL_law_526 : decode cL_law 526 = .ok (.iadd, 1) := by decide +kernel
theorem dL_law_527 : decode cL_law 527 = .ok (.iaload, 1) := by decide +kernel
theorem dL_law_528 : decode cL_law 528 = .ok (.invokevirtual 69, 3) := by decide +kernel
theorem dL_law_531 : decode cL_law 531 = .ok (.aload_n 2, 1) := by decide +kernel
theorem dL_law_532 : decode cL_law 532 = .ok (.aload_n 0, 1) := by decide +kernel
theorem dL_law_533 : decode cL_law 533 = .ok (.iload_n 3, 1) := by decide +kernel
theorem dL_law_534 : decode cL_law 534 = .ok (.iconst 1, 1) := by decide +kernel
theorem dL_law_535 : decode cL_law 535 = .ok (.iadd, 1) := by decide +kernel
theorem dL_law_536 : decode cL_law 536 = .ok (.iaload, 1) := by decide +kernel
theorem dL_law_537 : decode cL_law 537 = .ok (.aload_n 0, 1) := by decide +kernel
theorem dL_law_538 : decode cL_law 538 = .ok (.iload_n 3, 1) := by decide +kernel
theorem dL_law_539 : decode cL_law 539 = .ok (.iconst 2, 1) := by decide +kernel
theorem dL_law_540 : decode cL_law 540 = .ok (.iadd, 1) := by decide +kernel
theorem dL_law_541 : decode cL_law 541 = .ok (.iaload, 1) := by decide +kernel
theorem dL_law_542 : decode cL_law 542 = .ok (.invokevirtual 72, 3) := by decide +kernel
theorem dL_law_545 : decode cL_law 545 = .ok (.if_icmp .eq 581, 3) := by decide +kernel
theorem dL_law_548 : decode cL_law 548 = .ok (.iconst 0, 1) := by decide +kernel
theorem dL_law_549 : decode cL_law 549 = .ok (.ireturn, 1) := by decide +kernel
theorem dL_law_550 : decode cL_law 550 = .ok (.aload_n 1, 1) := by decide +kernel
theorem dL_law_551 : decode cL_law 551 = .ok (.aload_n 0, 1) := by decide +kernel
theorem dL_law_552 : decode cL_law 552 = .ok (.iload_n 3, 1) := by decide +kernel
theorem dL_law_553 : decode cL_law 553 = .ok (.iconst 1, 1) := by decide +kernel
theorem dL_law_554 : decode cL_law 554 = .ok (.iadd, 1) := by decide +kernel
theorem dL_law_555 : decode cL_law 555 = .ok (.iaload, 1) := by decide +kernel
theorem dL_law_556 : decode cL_law 556 = .ok (.aload_n 0, 1) := by decide +kernel
theorem dL_law_557 : decode cL_law 557 = .ok (.iload_n 3, 1) := by decide +kernel
theorem dL_law_558 : decode cL_law 558 = .ok (.iconst 2, 1) := by decide +kernel
theorem dL_law_559 : decode cL_law 559 = .ok (.iadd, 1) := by decide +kernel
theorem dL_law_560 : decode cL_law 560 = .ok (.iaload, 1) := by decide +kernel
theorem dL_law_561 : decode cL_law 561 = .ok (.aload_n 0, 1) := by decide +kernel
theorem dL_law_562 : decode cL_law 562 = .ok (.iload_n 3, 1) := by decide +kernel
theorem dL_law_563 : decode cL_law 563 = .ok (.iconst 3, 1) := by decide +kernel
theorem dL_law_564 : decode cL_law 564 = .ok (.iadd, 1) := by decide +kernel
theorem dL_law_565 : decode cL_law 565 = .ok (.iaload, 1) := by decide +kernel
theorem dL_law_566 : decode cL_law 566 = .ok (.invokevirtual 73, 3) := by decide +kernel
theorem dL_law_569 : decode cL_law 569 = .ok (.aload_n 2, 1) := by decide +kernel
theorem dL_law_570 : decode cL_law 570 = .ok (.aload_n 0, 1) := by decide +kernel
theorem dL_law_571 : decode cL_law 571 = .ok (.iload_n 3, 1) := by decide +kernel
theorem dL_law_572 : decode cL_law 572 = .ok (.iconst 1, 1) := by decide +kernel
theorem dL_law_573 : decode cL_law 573 = .ok (.iadd, 1) := by decide +kernel
theorem dL_law_574 : decode cL_law 574 = .ok (.iaload, 1) := by decide +kernel
theorem dL_law_575 : decode cL_law 575 = .ok (.aload_n 0, 1) := by decide +kernel
theorem dL_law_576 : decode cL_law 576 = .ok (.iload_n 3, 1) := by decide +kernel
theorem dL_law_577 : decode cL_law 577 = .ok (.iconst 2, 1) := by decide +kernel
theorem dL_law_578 : decode cL_law 578 = .ok (.iadd, 1) := by decide +kernel
theorem dL_law_579 : decode cL_law 579 = .ok (.iaload, 1) := by decide +kernel
theorem dL_law_580 : decode cL_law 580 = .ok (.aload_n 0, 1) := by decide +kernel
theorem dL_law_581 : decode cL_law 581 = .ok (.iload_n 3, 1) := by decide +kernel
theorem dL_law_582 : decode cL_law 582 = .ok (.iconst 3, 1) := by decide +kernel
theorem dL_law_583 : decode cL_law 583 = .ok (.iadd, 1) := by decide +kernel
theorem dL_law_584 : decode cL_law 584 = .ok (.iaload, 1) := by decide +kernel
theorem dL_law_585 : decode cL_law 585 = .ok (.invokevirtual 76, 3) := by decide +kernel
theorem dL_law_588 : decode cL_law 588 = .ok (.if_icmp .eq 538, 3) := by decide +kernel
theorem dL_law_591 : decode cL_law 591 = .ok (.iconst 0, 1) := by decide +kernel
theorem dL_law_592 : decode cL_law 592 = .ok (.ireturn, 1) := by decide +kernel
theorem dL_law_593 : decode cL_law 593 = .ok (.aload_n 1, 1) := by decide +kernel
theorem dL_law_594 : decode cL_law 594 = .ok (.aload_n 0, 1) := by decide +kernel
theorem dL_law_595 : decode cL_law 595 = .ok (.iload_n 3, 1) := by decide +kernel
theorem dL_law_596 : decode cL_law 596 = .ok (.iconst 1, 1) := by decide +kernel
theorem dL_law_597 : decode cL_law 597 = .ok (.iadd, 1) := by decide +kernel
theorem dL_law_598 : decode cL_law 598 = .ok (.iaload, 1) := by decide +kernel
theorem dL_law_599 : decode cL_law 599 = .ok (.aload_n 0, 1) := by decide +kernel
theorem dL_law_600 : decode cL_law 600 = .ok (.iload_n 3, 1) := by decide +kernel
theorem dL_law_601 : decode cL_law 601 = .ok (.iconst 2, 1) := by decide +kernel
theorem dL_law_602 : decode cL_law 602 = .ok (.iadd, 1) := by decide +kernel
theorem dL_law_603 : decode cL_law 603 = .ok (.iaload, 1) := by decide +kernel
theorem dL_law_604 : decode cL_law 604 = .ok (.invokevirtual 77, 3) := by decide +kernel
theorem dL_law_607 : decode cL_law 607 = .ok (.aload_n 2, 1) := by decide +kernel
theorem dL_law_608 : decode cL_law 608 = .ok (.aload_n 0, 1) := by decide +kernel
theorem dL_law_609 : decode cL_law 609 = .ok (.iload_n 3, 1) := by decide +kernel
theorem dL_law_610 : decode cL_law 610 = .ok (.iconst 1, 1) := by decide +kernel
theorem dL_law_611 : decode cL_law 611 = .ok (.iadd, 1) := by decide +kernel
theorem dL_law_612 : decode cL_law 612 = .ok (.iaload, 1) := by decide +kernel
theorem dL_law_613 : decode cL_law 613 = .ok (.aload_n 0, 1) := by decide +kernel
theorem dL_law_614 : decode cL_law 614 = .ok (.iload_n 3, 1) := by decide +kernel
theorem dL_law_615 : decode cL_law 615 = .ok (.iconst 2, 1) := by decide +kernel
theorem dL_law_616 : decode cL_law 616 = .ok (.iadd, 1) := by decide +kernel
theorem dL_law_617 : decode cL_law 617 = .ok (.iaload, 1) := by decide +kernel
theorem dL_law_618 : decode cL_law 618 = .ok (.invokevirtual 80, 3) := by decide +kernel
theorem dL_law_621 : decode cL_law 621 = .ok (.if_icmp .eq 505, 3) := by decide +kernel
theorem dL_law_624 : decode cL_law 624 = .ok (.iconst 0, 1) := by decide +kernel
theorem dL_law_625 : decode cL_law 625 = .ok (.ireturn, 1) := by decide +kernel
theorem dL_law_626 : decode cL_law 626 = .ok (.aload_n 1, 1) := by decide +kernel
theorem dL_law_627 : decode cL_law 627 = .ok (.aload_n 0, 1) := by decide +kernel
theorem dL_law_628 : decode cL_law 628 = .ok (.iload_n 3, 1) := by decide +kernel
theorem dL_law_629 : decode cL_law 629 = .ok (.iconst 1, 1) := by decide +kernel
theorem dL_law_630 : decode cL_law 630 = .ok (.iadd, 1) := by decide +kernel
theorem dL_law_631 : decode cL_law 631 = .ok (.iaload, 1) := by decide +kernel
theorem dL_law_632 : decode cL_law 632 = .ok (.aload_n 0, 1) := by decide +kernel
theorem dL_law_633 : decode cL_law 633 = .ok (.iload_n 3, 1) := by decide +kernel
theorem dL_law_634 : decode cL_law 634 = .ok (.iconst 2, 1) := by decide +kernel
theorem dL_law_635 : decode cL_law 635 = .ok (.iadd, 1) := by decide +kernel
theorem dL_law_636 : decode cL_law 636 = .ok (.iaload, 1) := by decide +kernel
theorem dL_law_637 : decode cL_law 637 = .ok (.aload_n 0, 1) := by decide +kernel
theorem dL_law_638 : decode cL_law 638 = .ok (.iload_n 3, 1) := by decide +kernel
theorem dL_law_639 : decode cL_law 639 = .ok (.iconst 3, 1) := by decide +kernel
theorem dL_law_640 : decode cL_law 640 = .ok (.iadd, 1) := by decide +kernel
theorem dL_law_641 : decode cL_law 641 = .ok (.iaload, 1) := by decide +kernel
theorem dL_law_642 : decode cL_law 642 = .ok (.aload_n 0, 1) := by decide +kernel
theorem dL_law_643 : decode cL_law 643 = .ok (.iload_n 3, 1) := by decide +kernel
theorem dL_law_644 : decode cL_law 644 = .ok (.iconst 4, 1) := by decide +kernel
theorem dL_law_645 : decode cL_law 645 = .ok (.iadd, 1) := by decide +kernel
theorem dL_law_646 : decode cL_law 646 = .ok (.iaload, 1) := by decide +kernel
theorem dL_law_647 : decode cL_law 647 = .ok (.invokevirtual 81, 3) := by decide +kernel
theorem dL_law_650 : decode cL_law 650 = .ok (.aload_n 2, 1) := by decide +kernel
theorem dL_law_651 : decode cL_law 651 = .ok (.aload_n 0, 1) := by decide +kernel
theorem dL_law_652 : decode cL_law 652 = .ok (.iload_n 3, 1) := by decide +kernel
theorem dL_law_653 : decode cL_law 653 = .ok (.iconst 1, 1) := by decide +kernel
theorem dL_law_654 : decode cL_law 654 = .ok (.iadd, 1) := by decide +kernel
theorem dL_law_655 : decode cL_law 655 = .ok (.iaload, 1) := by decide +kernel
theorem dL_law_656 : decode cL_law 656 = .ok (.aload_n 0, 1) := by decide +kernel
theorem dL_law_657 : decode cL_law 657 = .ok (.iload_n 3, 1) := by decide +kernel
theorem dL_law_658 : decode cL_law 658 = .ok (.iconst 2, 1) := by decide +kernel
theorem dL_law_659 : decode cL_law 659 = .ok (.iadd, 1) := by decide +kernel
theorem dL_law_660 : decode cL_law 660 = .ok (.iaload, 1) := by decide +kernel
theorem dL_law_661 : decode cL_law 661 = .ok (.aload_n 0, 1) := by decide +kernel
theorem dL_law_662 : decode cL_law 662 = .ok (.iload_n 3, 1) := by decide +kernel
theorem dL_law_663 : decode cL_law 663 = .ok (.iconst 3, 1) := by decide +kernel
theorem dL_law_664 : decode cL_law 664 = .ok (.iadd, 1) := by decide +kernel
theorem dL_law_665 : decode cL_law 665 = .ok (.iaload, 1) := by decide +kernel
theorem dL_law_666 : decode cL_law 666 = .ok (.aload_n 0, 1) := by decide +kernel
theorem dL_law_667 : decode cL_law 667 = .ok (.iload_n 3, 1) := by decide +kernel
theorem dL_law_668 : decode cL_law 668 = .ok (.iconst 4, 1) := by decide +kernel
theorem dL_law_669 : decode cL_law 669 = .ok (.iadd, 1) := by decide +kernel
theorem dL_law_670 : decode cL_law 670 = .ok (.iaload, 1) := by decide +kernel
theorem dL_law_671 : decode cL_law 671 = .ok (.invokevirtual 85, 3) := by decide +kernel
theorem dL_law_674 : decode cL_law 674 = .ok (.if_icmp .eq 452, 3) := by decide +kernel
theorem dL_law_677 : decode cL_law 677 = .ok (.iconst 0, 1) := by decide +kernel
theorem dL_law_678 : decode cL_law 678 = .ok (.ireturn, 1) := by decide +kernel
theorem dL_law_679 : decode cL_law 679 = .ok (.aload_n 1, 1) := by decide +kernel
theorem dL_law_680 : decode cL_law 680 = .ok (.aload_n 0, 1) := by decide +kernel
theorem dL_law_681 : decode cL_law 681 = .ok (.iload_n 3, 1) := by decide +kernel
theorem dL_law_682 : decode cL_law 682 = .ok (.iconst 1, 1) := by decide +kernel
theorem dL_law_683 : decode cL_law 683 = .ok (.iadd, 1) := by decide +kernel
theorem dL_law_684 : decode cL_law 684 = .ok (.iaload, 1) := by decide +kernel
theorem dL_law_685 : decode cL_law 685 = .ok (.aload_n 0, 1) := by decide +kernel
theorem dL_law_686 : decode cL_law 686 = .ok (.iload_n 3, 1) := by decide +kernel
theorem dL_law_687 : decode cL_law 687 = .ok (.iconst 2, 1) := by decide +kernel
theorem dL_law_688 : decode cL_law 688 = .ok (.iadd, 1) := by decide +kernel
theorem dL_law_689 : decode cL_law 689 = .ok (.iaload, 1) := by decide +kernel
theorem dL_law_690 : decode cL_law 690 = .ok (.invokevirtual 86, 3) := by decide +kernel
theorem dL_law_693 : decode cL_law 693 = .ok (.aload_n 2, 1) := by decide +kernel
theorem dL_law_694 : decode cL_law 694 = .ok (.aload_n 0, 1) := by decide +kernel
theorem dL_law_695 : decode cL_law 695 = .ok (.iload_n 3, 1) := by decide +kernel
theorem dL_law_696 : decode cL_law 696 = .ok (.iconst 1, 1) := by decide +kernel
theorem dL_law_697 : decode cL_law 697 = .ok (.iadd, 1) := by decide +kernel
theorem dL_law_698 : decode cL_law 698 = .ok (.iaload, 1) := by decide +kernel
theorem dL_law_699 : decode cL_law 699 = .ok (.aload_n 0, 1) := by decide +kernel
theorem dL_law_700 : decode cL_law 700 = .ok (.iload_n 3, 1) := by decide +kernel
theorem dL_law_701 : decode cL_law 701 = .ok (.iconst 2, 1) := by decide +kernel
theorem dL_law_702 : decode cL_law 702 = .ok (.iadd, 1) := by decide +kernel
theorem dL_law_703 : decode cL_law 703 = .ok (.iaload, 1) := by decide +kernel
theorem dL_law_704 : decode cL_law 704 = .ok (.invokevirtual 89, 3) := by decide +kernel
theorem dL_law_707 : decode cL_law 707 = .ok (.if_icmp .eq 419, 3) := by decide +kernel
theorem dL_law_710 : decode cL_law 710 = .ok (.iconst 0, 1) := by decide +kernel
theorem dL_law_711 : decode cL_law 711 = .ok (.ireturn, 1) := by decide +kernel
theorem dL_law_712 : decode cL_law 712 = .ok (.aload_n 1, 1) := by decide +kernel
theorem dL_law_713 : decode cL_law 713 = .ok (.aload_n 0, 1) := by decide +kernel
theorem dL_law_714 : decode cL_law 714 = .ok (.iload_n 3, 1) := by decide +kernel
theorem dL_law_715 : decode cL_law 715 = .ok (.iconst 1, 1) := by decide +kernel
theorem dL_law_716 : decode cL_law 716 = .ok (.iadd, 1) := by decide +kernel
theorem dL_law_717 : decode cL_law 717 = .ok (.iaload, 1) := by decide +kernel
theorem dL_law_718 : decode cL_law 718 = .ok (.aload_n 0, 1) := by decide +kernel
theorem dL_law_719 : decode cL_law 719 = .ok (.iload_n 3, 1) := by decide +kernel
theorem dL_law_720 : decode cL_law 720 = .ok (.iconst 2, 1) := by decide +kernel
theorem dL_law_721 : decode cL_law 721 = .ok (.iadd, 1) := by decide +kernel
theorem dL_law_722 : decode cL_law 722 = .ok (.iaload, 1) := by decide +kernel
theorem dL_law_723 : decode cL_law 723 = .ok (.invokevirtual 90, 3) := by decide +kernel
theorem dL_law_726 : decode cL_law 726 = .ok (.aload_n 2, 1) := by decide +kernel
theorem dL_law_727 : decode cL_law 727 = .ok (.aload_n 0, 1) := by decide +kernel
theorem dL_law_728 : decode cL_law 728 = .ok (.iload_n 3, 1) := by decide +kernel
theorem dL_law_729 : decode cL_law 729 = .ok (.iconst 1, 1) := by decide +kernel
theorem dL_law_730 : decode cL_law 730 = .ok (.iadd, 1) := by decide +kernel
theorem dL_law_731 : decode cL_law 731 = .ok (.iaload, 1) := by decide +kernel
theorem dL_law_732 : decode cL_law 732 = .ok (.aload_n 0, 1) := by decide +kernel
theorem dL_law_733 : decode cL_law 733 = .ok (.iload_n 3, 1) := by decide +kernel
theorem dL_law_734 : decode cL_law 734 = .ok (.iconst 2, 1) := by decide +kernel
theorem dL_law_735 : decode cL_law 735 = .ok (.iadd, 1) := by decide +kernel
theorem dL_law_736 : decode cL_law 736 = .ok (.iaload, 1) := by decide +kernel
theorem dL_law_737 : decode cL_law 737 = .ok (.invokevirtual 93, 3) := by decide +kernel
theorem dL_law_740 : decode cL_law 740 = .ok (.if_icmp .eq 386, 3) := by decide +kernel
theorem dL_law_743 : decode cL_law 743 = .ok (.iconst 0, 1) := by decide +kernel
theorem dL_law_744 : decode cL_law 744 = .ok (.ireturn, 1) := by decide +kernel
theorem dL_law_745 : decode cL_law 745 = .ok (.aload_n 1, 1) := by decide +kernel
theorem dL_law_746 : decode cL_law 746 = .ok (.aload_n 0, 1) := by decide +kernel
theorem dL_law_747 : decode cL_law 747 = .ok (.iload_n 3, 1) := by decide +kernel
theorem dL_law_748 : decode cL_law 748 = .ok (.iconst 1, 1) := by decide +kernel
theorem dL_law_749 : decode cL_law 749 = .ok (.iadd, 1) := by decide +kernel
theorem dL_law_750 : decode cL_law 750 = .ok (.iaload, 1) := by decide +kernel
theorem dL_law_751 : decode cL_law 751 = .ok (.invokevirtual 94, 3) := by decide +kernel
theorem dL_law_754 : decode cL_law 754 = .ok (.aload_n 2, 1) := by decide +kernel
theorem dL_law_755 : decode cL_law 755 = .ok (.aload_n 0, 1) := by decide +kernel
theorem dL_law_756 : decode cL_law 756 = .ok (.iload_n 3, 1) := by decide +kernel
theorem dL_law_757 : decode cL_law 757 = .ok (.iconst 1, 1) := by decide +kernel
theorem dL_law_758 : decode cL_law 758 = .ok (.iadd, 1) := by decide +kernel
theorem dL_law_759 : decode cL_law 759 = .ok (.iaload, 1) := by decide +kernel
theorem dL_law_760 : decode cL_law 760 = .ok (.invokevirtual 97, 3) := by decide +kernel
theorem dL_law_763 : decode cL_law 763 = .ok (.if_icmp .eq 363, 3) := by decide +kernel
theorem dL_law_766 : decode cL_law 766 = .ok (.iconst 0, 1) := by decide +kernel
theorem dL_law_767 : decode cL_law 767 = .ok (.ireturn, 1) := by decide +kernel
theorem dL_law_768 : decode cL_law 768 = .ok (.aload_n 1, 1) := by decide +kernel
theorem dL_law_769 : decode cL_law 769 = .ok (.aload_n 0, 1) := by decide +kernel
theorem dL_law_770 : decode cL_law 770 = .ok (.iload_n 3, 1) := by decide +kernel
theorem dL_law_771 : decode cL_law 771 = .ok (.iconst 1, 1) := by decide +kernel
theorem dL_law_772 : decode cL_law 772 = .ok (.iadd, 1) := by decide +kernel
theorem dL_law_773 : decode cL_law 773 = .ok (.iaload, 1) := by decide +kernel
theorem dL_law_774 : decode cL_law 774 = .ok (.invokevirtual 98, 3) := by decide +kernel
theorem dL_law_777 : decode cL_law 777 = .ok (.aload_n 2, 1) := by decide +kernel
theorem dL_law_778 : decode cL_law 778 = .ok (.aload_n 0, 1) := by decide +kernel
theorem dL_law_779 : decode cL_law 779 = .ok (.iload_n 3, 1) := by decide +kernel
theorem dL_law_780 : decode cL_law 780 = .ok (.iconst 1, 1) := by decide +kernel
theorem dL_law_781 : decode cL_law 781 = .ok (.iadd, 1) := by decide +kernel
theorem dL_law_782 : decode cL_law 782 = .ok (.iaload, 1) := by decide +kernel
theorem dL_law_783 : decode cL_law 783 = .ok (.invokevirtual 101, 3) := by decide +kernel
theorem dL_law_786 : decode cL_law 786 = .ok (.if_icmp .eq 340, 3) := by decide +kernel
theorem dL_law_789 : decode cL_law 789 = .ok (.iconst 0, 1) := by decide +kernel
theorem dL_law_790 : decode cL_law 790 = .ok (.ireturn, 1) := by decide +kernel
theorem dL_law_791 : decode cL_law 791 = .ok (.aload_n 1, 1) := by decide +kernel
theorem dL_law_792 : decode cL_law 792 = .ok (.invokevirtual 102, 3) := by decide +kernel
theorem dL_law_795 : decode cL_law 795 = .ok (.aload_n 2, 1) := by decide +kernel
theorem dL_law_796 : decode cL_law 796 = .ok (.invokevirtual 105, 3) := by decide +kernel
theorem dL_law_799 : decode cL_law 799 = .ok (.if_icmp .eq 327, 3) := by decide +kernel
theorem dL_law_802 : decode cL_law 802 = .ok (.iconst 0, 1) := by decide +kernel
theorem dL_law_803 : decode cL_law 803 = .ok (.ireturn, 1) := by decide +kernel
theorem dL_law_804 : decode cL_law 804 = .ok (.aload_n 1, 1) := by decide +kernel
theorem dL_law_805 : decode cL_law 805 = .ok (.aload_n 0, 1) := by decide +kernel
theorem dL_law_806 : decode cL_law 806 = .ok (.iload_n 3, 1) := by decide +kernel
theorem dL_law_807 : decode cL_law 807 = .ok (.iconst 1, 1) := by decide +kernel
theorem dL_law_808 : decode cL_law 808 = .ok (.iadd, 1) := by decide +kernel
theorem dL_law_809 : decode cL_law 809 = .ok (.iaload, 1) := by decide +kernel
theorem dL_law_810 : decode cL_law 810 = .ok (.aload_n 0, 1) := by decide +kernel
theorem dL_law_811 : decode cL_law 811 = .ok (.iload_n 3, 1) := by decide +kernel
theorem dL_law_812 : decode cL_law 812 = .ok (.iconst 2, 1) := by decide +kernel
theorem dL_law_813 : decode cL_law 813 = .ok (.iadd, 1) := by decide +kernel
theorem dL_law_814 : decode cL_law 814 = .ok (.iaload, 1) := by decide +kernel
theorem dL_law_815 : decode cL_law 815 = .ok (.aload_n 0, 1) := by decide +kernel
theorem dL_law_816 : decode cL_law 816 = .ok (.iload_n 3, 1) := by decide +kernel
theorem dL_law_817 : decode cL_law 817 = .ok (.iconst 3, 1) := by decide +kernel
theorem dL_law_818 : decode cL_law 818 = .ok (.iadd, 1) := by decide +kernel
theorem dL_law_819 : decode cL_law 819 = .ok (.iaload, 1) := by decide +kernel
theorem dL_law_820 : decode cL_law 820 = .ok (.invokevirtual 106, 3) := by decide +kernel
theorem dL_law_823 : decode cL_law 823 = .ok (.aload_n 2, 1) := by decide +kernel
theorem dL_law_824 : decode cL_law 824 = .ok (.aload_n 0, 1) := by decide +kernel
theorem dL_law_825 : decode cL_law 825 = .ok (.iload_n 3, 1) := by decide +kernel
theorem dL_law_826 : decode cL_law 826 = .ok (.iconst 1, 1) := by decide +kernel
theorem dL_law_827 : decode cL_law 827 = .ok (.iadd, 1) := by decide +kernel
theorem dL_law_828 : decode cL_law 828 = .ok (.iaload, 1) := by decide +kernel
theorem dL_law_829 : decode cL_law 829 = .ok (.aload_n 0, 1) := by decide +kernel
theorem dL_law_830 : decode cL_law 830 = .ok (.iload_n 3, 1) := by decide +kernel
theorem dL_law_831 : decode cL_law 831 = .ok (.iconst 2, 1) := by decide +kernel
theorem dL_law_832 : decode cL_law 832 = .ok (.iadd, 1) := by decide +kernel
theorem dL_law_833 : decode cL_law 833 = .ok (.iaload, 1) := by decide +kernel
theorem dL_law_834 : decode cL_law 834 = .ok (.aload_n 0, 1) := by decide +kernel
theorem dL_law_835 : decode cL_law 835 = .ok (.iload_n 3, 1) := by decide +kernel
theorem dL_law_836 : decode cL_law 836 = .ok (.iconst 3, 1) := by decide +kernel
theorem dL_law_837 : decode cL_law 837 = .ok (.iadd, 1) := by decide +kernel
theorem dL_law_838 : decode cL_law 838 = .ok (.iaload, 1) := by decide +kernel
theorem dL_law_839 : decode cL_law 839 = .ok (.invokevirtual 109, 3) := by decide +kernel
theorem dL_law_842 : decode cL_law 842 = .ok (.if_icmp .eq 284, 3) := by decide +kernel
theorem dL_law_845 : decode cL_law 845 = .ok (.iconst 0, 1) := by decide +kernel
theorem dL_law_846 : decode cL_law 846 = .ok (.ireturn, 1) := by decide +kernel
theorem dL_law_847 : decode cL_law 847 = .ok (.aload_n 1, 1) := by decide +kernel
theorem dL_law_848 : decode cL_law 848 = .ok (.invokevirtual 110, 3) := by decide +kernel
theorem dL_law_851 : decode cL_law 851 = .ok (.aload_n 2, 1) := by decide +kernel
theorem dL_law_852 : decode cL_law 852 = .ok (.invokevirtual 113, 3) := by decide +kernel
theorem dL_law_855 : decode cL_law 855 = .ok (.if_icmp .eq 271, 3) := by decide +kernel
theorem dL_law_858 : decode cL_law 858 = .ok (.iconst 0, 1) := by decide +kernel
theorem dL_law_859 : decode cL_law 859 = .ok (.ireturn, 1) := by decide +kernel
theorem dL_law_860 : decode cL_law 860 = .ok (.aload_n 1, 1) := by decide +kernel
theorem dL_law_861 : decode cL_law 861 = .ok (.aload_n 0, 1) := by decide +kernel
theorem dL_law_862 : decode cL_law 862 = .ok (.iload_n 3, 1) := by decide +kernel
theorem dL_law_863 : decode cL_law 863 = .ok (.iconst 1, 1) := by decide +kernel
theorem dL_law_864 : decode cL_law 864 = .ok (.iadd, 1) := by decide +kernel
theorem dL_law_865 : decode cL_law 865 = .ok (.iaload, 1) := by decide +kernel
theorem dL_law_866 : decode cL_law 866 = .ok (.invokevirtual 114, 3) := by decide +kernel
theorem dL_law_869 : decode cL_law 869 = .ok (.aload_n 2, 1) := by decide +kernel
theorem dL_law_870 : decode cL_law 870 = .ok (.aload_n 0, 1) := by decide +kernel
theorem dL_law_871 : decode cL_law 871 = .ok (.iload_n 3, 1) := by decide +kernel
theorem dL_law_872 : decode cL_law 872 = .ok (.iconst 1, 1) := by decide +kernel
theorem dL_law_873 : decode cL_law 873 = .ok (.iadd, 1) := by decide +kernel
theorem dL_law_874 : decode cL_law 874 = .ok (.iaload, 1) := by decide +kernel
theorem dL_law_875 : decode cL_law 875 = .ok (.invokevirtual 117, 3) := by decide +kernel
theorem dL_law_878 : decode cL_law 878 = .ok (.if_icmp .eq 248, 3) := by decide +kernel
theorem dL_law_881 : decode cL_law 881 = .ok (.iconst 0, 1) := by decide +kernel
theorem dL_law_882 : decode cL_law 882 = .ok (.ireturn, 1) := by decide +kernel
theorem dL_law_883 : decode cL_law 883 = .ok (.aload_n 1, 1) := by decide +kernel
theorem dL_law_884 : decode cL_law 884 = .ok (.invokevirtual 118, 3) := by decide +kernel
theorem dL_law_887 : decode cL_law 887 = .ok (.aload_n 2, 1) := by decide +kernel
theorem dL_law_888 : decode cL_law 888 = .ok (.invokevirtual 122, 3) := by decide +kernel
theorem dL_law_891 : decode cL_law 891 = .ok (.lcmp, 1) := by decide +kernel
theorem dL_law_892 : decode cL_law 892 = .ok (.ifCond .eq 234, 3) := by decide +kernel
theorem dL_law_895 : decode cL_law 895 = .ok (.iconst 0, 1) := by decide +kernel
theorem dL_law_896 : decode cL_law 896 = .ok (.ireturn, 1) := by decide +kernel
theorem dL_law_897 : decode cL_law 897 = .ok (.aload_n 1, 1) := by decide +kernel
theorem dL_law_898 : decode cL_law 898 = .ok (.aload_n 0, 1) := by decide +kernel
theorem dL_law_899 : decode cL_law 899 = .ok (.iload_n 3, 1) := by decide +kernel
theorem dL_law_900 : decode cL_law 900 = .ok (.iconst 1, 1) := by decide +kernel
theorem dL_law_901 : decode cL_law 901 = .ok (.iadd, 1) := by decide +kernel
theorem dL_law_902 : decode cL_law 902 = .ok (.iaload, 1) := by decide +kernel
theorem dL_law_903 : decode cL_law 903 = .ok (.invokevirtual 123, 3) := by decide +kernel
theorem dL_law_906 : decode cL_law 906 = .ok (.aload_n 2, 1) := by decide +kernel
theorem dL_law_907 : decode cL_law 907 = .ok (.aload_n 0, 1) := by decide +kernel
theorem dL_law_908 : decode cL_law 908 = .ok (.iload_n 3, 1) := by decide +kernel
theorem dL_law_909 : decode cL_law 909 = .ok (.iconst 1, 1) := by decide +kernel
theorem dL_law_910 : decode cL_law 910 = .ok (.iadd, 1) := by decide +kernel
theorem dL_law_911 : decode cL_law 911 = .ok (.iaload, 1) := by decide +kernel
theorem dL_law_912 : decode cL_law 912 = .ok (.invokevirtual 126, 3) := by decide +kernel
theorem dL_law_915 : decode cL_law 915 = .ok (.if_icmp .eq 211, 3) := by decide +kernel
theorem dL_law_918 : decode cL_law 918 = .ok (.iconst 0, 1) := by decide +kernel
theorem dL_law_919 : decode cL_law 919 = .ok (.ireturn, 1) := by decide +kernel
theorem dL_law_920 : decode cL_law 920 = .ok (.aload_n 1, 1) := by decide +kernel
theorem dL_law_921 : decode cL_law 921 = .ok (.aload_n 0, 1) := by decide +kernel
theorem dL_law_922 : decode cL_law 922 = .ok (.iload_n 3, 1) := by decide +kernel
theorem dL_law_923 : decode cL_law 923 = .ok (.iconst 1, 1) := by decide +kernel
theorem dL_law_924 : decode cL_law 924 = .ok (.iadd, 1) := by decide +kernel
theorem dL_law_925 : decode cL_law 925 = .ok (.iaload, 1) := by decide +kernel
theorem dL_law_926 : decode cL_law 926 = .ok (.aload_n 0, 1) := by decide +kernel
theorem dL_law_927 : decode cL_law 927 = .ok (.iload_n 3, 1) := by decide +kernel
theorem dL_law_928 : decode cL_law 928 = .ok (.iconst 2, 1) := by decide +kernel
theorem dL_law_929 : decode cL_law 929 = .ok (.iadd, 1) := by decide +kernel
theorem dL_law_930 : decode cL_law 930 = .ok (.iaload, 1) := by decide +kernel
theorem dL_law_931 : decode cL_law 931 = .ok (.aload_n 0, 1) := by decide +kernel
theorem dL_law_932 : decode cL_law 932 = .ok (.iload_n 3, 1) := by decide +kernel
theorem dL_law_933 : decode cL_law 933 = .ok (.iconst 3, 1) := by decide +kernel
theorem dL_law_934 : decode cL_law 934 = .ok (.iadd, 1) := by decide +kernel
theorem dL_law_935 : decode cL_law 935 = .ok (.iaload, 1) := by decide +kernel
theorem dL_law_936 : decode cL_law 936 = .ok (.invokevirtual 127, 3) := by decide +kernel
theorem dL_law_939 : decode cL_law 939 = .ok (.aload_n 2, 1) := by decide +kernel
theorem dL_law_940 : decode cL_law 940 = .ok (.aload_n 0, 1) := by decide +kernel
theorem dL_law_941 : decode cL_law 941 = .ok (.iload_n 3, 1) := by decide +kernel
theorem dL_law_942 : decode cL_law 942 = .ok (.iconst 1, 1) := by decide +kernel
theorem dL_law_943 : decode cL_law 943 = .ok (.iadd, 1) := by decide +kernel
theorem dL_law_944 : decode cL_law 944 = .ok (.iaload, 1) := by decide +kernel
theorem dL_law_945 : decode cL_law 945 = .ok (.aload_n 0, 1) := by decide +kernel
theorem dL_law_946 : decode cL_law 946 = .ok (.iload_n 3, 1) := by decide +kernel
theorem dL_law_947 : decode cL_law 947 = .ok (.iconst 2, 1) := by decide +kernel
theorem dL_law_948 : decode cL_law 948 = .ok (.iadd, 1) := by decide +kernel
theorem dL_law_949 : decode cL_law 949 = .ok (.iaload, 1) := by decide +kernel
theorem dL_law_950 : decode cL_law 950 = .ok (.aload_n 0, 1) := by decide +kernel
theorem dL_law_951 : decode cL_law 951 = .ok (.iload_n 3, 1) := by decide +kernel
theorem dL_law_952 : decode cL_law 952 = .ok (.iconst 3, 1) := by decide +kernel
theorem dL_law_953 : decode cL_law 953 = .ok (.iadd, 1) := by decide +kernel
theorem dL_law_954 : decode cL_law 954 = .ok (.iaload, 1) := by decide +kernel
theorem dL_law_955 : decode cL_law 955 = .ok (.invokevirtual 130, 3) := by decide +kernel
theorem dL_law_958 : decode cL_law 958 = .ok (.if_icmp .eq 168, 3) := by decide +kernel
theorem dL_law_961 : decode cL_law 961 = .ok (.iconst 0, 1) := by decide +kernel
theorem dL_law_962 : decode cL_law 962 = .ok (.ireturn, 1) := by decide +kernel
theorem dL_law_963 : decode cL_law 963 = .ok (.aload_n 1, 1) := by decide +kernel
theorem dL_law_964 : decode cL_law 964 = .ok (.aload_n 0, 1) := by decide +kernel
theorem dL_law_965 : decode cL_law 965 = .ok (.iload_n 3, 1) := by decide +kernel
theorem dL_law_966 : decode cL_law 966 = .ok (.iconst 1, 1) := by decide +kernel
theorem dL_law_967 : decode cL_law 967 = .ok (.iadd, 1) := by decide +kernel
theorem dL_law_968 : decode cL_law 968 = .ok (.iaload, 1) := by decide +kernel
theorem dL_law_969 : decode cL_law 969 = .ok (.aload_n 0, 1) := by decide +kernel
theorem dL_law_970 : decode cL_law 970 = .ok (.iload_n 3, 1) := by decide +kernel
theorem dL_law_971 : decode cL_law 971 = .ok (.iconst 2, 1) := by decide +kernel
theorem dL_law_972 : decode cL_law 972 = .ok (.iadd, 1) := by decide +kernel
theorem dL_law_973 : decode cL_law 973 = .ok (.iaload, 1) := by decide +kernel
theorem dL_law_974 : decode cL_law 974 = .ok (.invokevirtual 131, 3) := by decide +kernel
theorem dL_law_977 : decode cL_law 977 = .ok (.aload_n 2, 1) := by decide +kernel
theorem dL_law_978 : decode cL_law 978 = .ok (.aload_n 0, 1) := by decide +kernel
theorem dL_law_979 : decode cL_law 979 = .ok (.iload_n 3, 1) := by decide +kernel
theorem dL_law_980 : decode cL_law 980 = .ok (.iconst 1, 1) := by decide +kernel
theorem dL_law_981 : decode cL_law 981 = .ok (.iadd, 1) := by decide +kernel
theorem dL_law_982 : decode cL_law 982 = .ok (.iaload, 1) := by decide +kernel
theorem dL_law_983 : decode cL_law 983 = .ok (.aload_n 0, 1) := by decide +kernel
theorem dL_law_984 : decode cL_law 984 = .ok (.iload_n 3, 1) := by decide +kernel
theorem dL_law_985 : decode cL_law 985 = .ok (.iconst 2, 1) := by decide +kernel
theorem dL_law_986 : decode cL_law 986 = .ok (.iadd, 1) := by decide +kernel
theorem dL_law_987 : decode cL_law 987 = .ok (.iaload, 1) := by decide +kernel
theorem dL_law_988 : decode cL_law 988 = .ok (.invokevirtual 134, 3) := by decide +kernel
theorem dL_law_991 : decode cL_law 991 = .ok (.if_icmp .eq 135, 3) := by decide +kernel
theorem dL_law_994 : decode cL_law 994 = .ok (.iconst 0, 1) := by decide +kernel
theorem dL_law_995 : decode cL_law 995 = .ok (.ireturn, 1) := by decide +kernel
theorem dL_law_996 : decode cL_law 996 = .ok (.aload_n 1, 1) := by decide +kernel
theorem dL_law_997 : decode cL_law 997 = .ok (.aload_n 0, 1) := by decide +kernel
theorem dL_law_998 : decode cL_law 998 = .ok (.iload_n 3, 1) := by decide +kernel
theorem dL_law_999 : decode cL_law 999 = .ok (.iconst 1, 1) := by decide +kernel
theorem dL_law_1000 : decode cL_law 1000 = .ok (.iadd, 1) := by decide +kernel
theorem dL_law_1001 : decode cL_law 1001 = .ok (.iaload, 1) := by decide +kernel
theorem dL_law_1002 : decode cL_law 1002 = .ok (.invokevirtual 135, 3) := by decide +kernel
theorem dL_law_1005 : decode cL_law 1005 = .ok (.aload_n 2, 1) := by decide +kernel
theorem dL_law_1006 : decode cL_law 1006 = .ok (.aload_n 0, 1) := by decide +kernel
theorem dL_law_1007 : decode cL_law 1007 = .ok (.iload_n 3, 1) := by decide +kernel
theorem dL_law_1008 : decode cL_law 1008 = .ok (.iconst 1, 1) := by decide +kernel
theorem dL_law_1009 : decode cL_law 1009 = .ok (.iadd, 1) := by decide +kernel
theorem dL_law_1010 : decode cL_law 1010 = .ok (.iaload, 1) := by decide +kernel
theorem dL_law_1011 : decode cL_law 1011 = .ok (.invokevirtual 139, 3) := by decide +kernel
theorem dL_law_1014 : decode cL_law 1014 = .ok (.lcmp, 1) := by decide +kernel
theorem dL_law_1015 : decode cL_law 1015 = .ok (.ifCond .eq 111, 3) := by decide +kernel
theorem dL_law_1018 : decode cL_law 1018 = .ok (.iconst 0, 1) := by decide +kernel
theorem dL_law_1019 : decode cL_law 1019 = .ok (.ireturn, 1) := by decide +kernel
theorem dL_law_1020 : decode cL_law 1020 = .ok (.aload_n 1, 1) := by decide +kernel
theorem dL_law_1021 : decode cL_law 1021 = .ok (.aload_n 0, 1) := by decide +kernel
theorem dL_law_1022 : decode cL_law 1022 = .ok (.iload_n 3, 1) := by decide +kernel
theorem dL_law_1023 : decode cL_law 1023 = .ok (.iconst 1, 1) := by decide +kernel
theorem dL_law_1024 : decode cL_law 1024 = .ok (.iadd, 1) := by decide +kernel
theorem dL_law_1025 : decode cL_law 1025 = .ok (.iaload, 1) := by decide +kernel
theorem dL_law_1026 : decode cL_law 1026 = .ok (.invokevirtual 140, 3) := by decide +kernel
theorem dL_law_1029 : decode cL_law 1029 = .ok (.aload_n 2, 1) := by decide +kernel
theorem dL_law_1030 : decode cL_law 1030 = .ok (.aload_n 0, 1) := by decide +kernel
theorem dL_law_1031 : decode cL_law 1031 = .ok (.iload_n 3, 1) := by decide +kernel
theorem dL_law_1032 : decode cL_law 1032 = .ok (.iconst 1, 1) := by decide +kernel
theorem dL_law_1033 : decode cL_law 1033 = .ok (.iadd, 1) := by decide +kernel
theorem dL_law_1034 : decode cL_law 1034 = .ok (.iaload, 1) := by decide +kernel
theorem dL_law_1035 : decode cL_law 1035 = .ok (.invokevirtual 143, 3) := by decide +kernel
theorem dL_law_1038 : decode cL_law 1038 = .ok (.if_icmp .eq 88, 3) := by decide +kernel
theorem dL_law_1041 : decode cL_law 1041 = .ok (.iconst 0, 1) := by decide +kernel
theorem dL_law_1042 : decode cL_law 1042 = .ok (.ireturn, 1) := by decide +kernel
theorem dL_law_1043 : decode cL_law 1043 = .ok (.aload_n 1, 1) := by decide +kernel
theorem dL_law_1044 : decode cL_law 1044 = .ok (.aload_n 0, 1) := by decide +kernel
theorem dL_law_1045 : decode cL_law 1045 = .ok (.iload_n 3, 1) := by decide +kernel
theorem dL_law_1046 : decode cL_law 1046 = .ok (.iconst 1, 1) := by decide +kernel
theorem dL_law_1047 : decode cL_law 1047 = .ok (.iadd, 1) := by decide +kernel
theorem dL_law_1048 : decode cL_law 1048 = .ok (.iaload, 1) := by decide +kernel
theorem dL_law_1049 : decode cL_law 1049 = .ok (.invokevirtual 144, 3) := by decide +kernel
theorem dL_law_1052 : decode cL_law 1052 = .ok (.aload_n 2, 1) := by decide +kernel
theorem dL_law_1053 : decode cL_law 1053 = .ok (.aload_n 0, 1) := by decide +kernel
theorem dL_law_1054 : decode cL_law 1054 = .ok (.iload_n 3, 1) := by decide +kernel
theorem dL_law_1055 : decode cL_law 1055 = .ok (.iconst 1, 1) := by decide +kernel
theorem dL_law_1056 : decode cL_law 1056 = .ok (.iadd, 1) := by decide +kernel
theorem dL_law_1057 : decode cL_law 1057 = .ok (.iaload, 1) := by decide +kernel
theorem dL_law_1058 : decode cL_law 1058 = .ok (.invokevirtual 147, 3) := by decide +kernel
theorem dL_law_1061 : decode cL_law 1061 = .ok (.if_icmp .eq 65, 3) := by decide +kernel
theorem dL_law_1064 : decode cL_law 1064 = .ok (.iconst 0, 1) := by decide +kernel
theorem dL_law_1065 : decode cL_law 1065 = .ok (.ireturn, 1) := by decide +kernel
theorem dL_law_1066 : decode cL_law 1066 = .ok (.aload_n 1, 1) := by decide +kernel
theorem dL_law_1067 : decode cL_law 1067 = .ok (.aload_n 0, 1) := by decide +kernel
theorem dL_law_1068 : decode cL_law 1068 = .ok (.iload_n 3, 1) := by decide +kernel
theorem dL_law_1069 : decode cL_law 1069 = .ok (.iconst 1, 1) := by decide +kernel
theorem dL_law_1070 : decode cL_law 1070 = .ok (.iadd, 1) := by decide +kernel
theorem dL_law_1071 : decode cL_law 1071 = .ok (.iaload, 1) := by decide +kernel
theorem dL_law_1072 : decode cL_law 1072 = .ok (.invokevirtual 148, 3) := by decide +kernel
theorem dL_law_1075 : decode cL_law 1075 = .ok (.aload_n 2, 1) := by decide +kernel
theorem dL_law_1076 : decode cL_law 1076 = .ok (.aload_n 0, 1) := by decide +kernel
theorem dL_law_1077 : decode cL_law 1077 = .ok (.iload_n 3, 1) := by decide +kernel
theorem dL_law_1078 : decode cL_law 1078 = .ok (.iconst 1, 1) := by decide +kernel
theorem dL_law_1079 : decode cL_law 1079 = .ok (.iadd, 1) := by decide +kernel
theorem dL_law_1080 : decode cL_law 1080 = .ok (.iaload, 1) := by decide +kernel
theorem dL_law_1081 : decode cL_law 1081 = .ok (.invokevirtual 151, 3) := by decide +kernel
theorem dL_law_1084 : decode cL_law 1084 = .ok (.if_icmp .eq 42, 3) := by decide +kernel
theorem dL_law_1087 : decode cL_law 1087 = .ok (.iconst 0, 1) := by decide +kernel
theorem dL_law_1088 : decode cL_law 1088 = .ok (.ireturn, 1) := by decide +kernel
theorem dL_law_1089 : decode cL_law 1089 = .ok (.aload_n 1, 1) := by decide +kernel
theorem dL_law_1090 : decode cL_law 1090 = .ok (.aload_n 0, 1) := by decide +kernel
theorem dL_law_1091 : decode cL_law 1091 = .ok (.iload_n 3, 1) := by decide +kernel
theorem dL_law_1092 : decode cL_law 1092 = .ok (.iconst 1, 1) := by decide +kernel
theorem dL_law_1093 : decode cL_law 1093 = .ok (.iadd, 1) := by decide +kernel
theorem dL_law_1094 : decode cL_law 1094 = .ok (.iaload, 1) := by decide +kernel
theorem dL_law_1095 : decode cL_law 1095 = .ok (.invokevirtual 152, 3) := by decide +kernel
theorem dL_law_1098 : decode cL_law 1098 = .ok (.aload_n 2, 1) := by decide +kernel
theorem dL_law_1099 : decode cL_law 1099 = .ok (.aload_n 0, 1) := by decide +kernel
theorem dL_law_1100 : decode cL_law 1100 = .ok (.iload_n 3, 1) := by decide +kernel
theorem dL_law_1101 : decode cL_law 1101 = .ok (.iconst 1, 1) := by decide +kernel
theorem dL_law_1102 : decode cL_law 1102 = .ok (.iadd, 1) := by decide +kernel
theorem dL_law_1103 : decode cL_law 1103 = .ok (.iaload, 1) := by decide +kernel
theorem dL_law_1104 : decode cL_law 1104 = .ok (.invokevirtual 155, 3) := by decide +kernel
theorem dL_law_1107 : decode cL_law 1107 = .ok (.if_icmp .eq 19, 3) := by decide +kernel
theorem dL_law_1110 : decode cL_law 1110 = .ok (.iconst 0, 1) := by decide +kernel
theorem dL_law_1111 : decode cL_law 1111 = .ok (.ireturn, 1) := by decide +kernel
theorem dL_law_1112 : decode cL_law 1112 = .ok (.aload_n 1, 1) := by decide +kernel
theorem dL_law_1113 : decode cL_law 1113 = .ok (.invokevirtual 156, 3) := by decide +kernel
theorem dL_law_1116 : decode cL_law 1116 = .ok (.aload_n 2, 1) := by decide +kernel
theorem dL_law_1117 : decode cL_law 1117 = .ok (.invokevirtual 159, 3) := by decide +kernel
theorem dL_law_1120 : decode cL_law 1120 = .ok (.lcmp, 1) := by decide +kernel
theorem dL_law_1121 : decode cL_law 1121 = .ok (.ifCond .eq 5, 3) := by decide +kernel
theorem dL_law_1124 : decode cL_law 1124 = .ok (.iconst 0, 1) := by decide +kernel
theorem dL_law_1125 : decode cL_law 1125 = .ok (.ireturn, 1) := by decide +kernel
theorem dL_law_1126 : decode cL_law 1126 = .ok (.iinc 3 5, 3) := by decide +kernel
theorem dL_law_1129 : decode cL_law 1129 = .ok (.goto (-1111), 3) := by decide +kernel
theorem dL_law_1132 : decode cL_law 1132 = .ok (.iconst 1, 1) := by decide +kernel
theorem dL_law_1133 : decode cL_law 1133 = .ok (.ireturn, 1) := by decide +kernel
