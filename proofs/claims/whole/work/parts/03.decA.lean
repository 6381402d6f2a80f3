theorem dX0_init_0 : decode cX0_init 0 = .ok (.aload_n 0, 1) := by decide +kernel
theorem dX0_init_1 : decode cX0_init 1 = .ok (.invokespecial 1, 3) := by decide +kernel
theorem dX0_init_4 : decode cX0_init 4 = .ok (.return_, 1) := by decide +kernel
theorem dX0_wakingNoise_0 : decode cX0_wakingNoise 0 = .ok (.iload_n 3, 1) := by decide +kernel
theorem dX0_wakingNoise_1 : decode cX0_wakingNoise 1 = .ok (.ifCond .eq 7, 3) := by decide +kernel
theorem dX0_wakingNoise_4 : decode cX0_wakingNoise 4 = .ok (.iconst 1, 1) := by decide +kernel
theorem dX0_wakingNoise_5 : decode cX0_wakingNoise 5 = .ok (.goto 10, 3) := by decide +kernel
theorem dX0_wakingNoise_8 : decode cX0_wakingNoise 8 = .ok (.aload_n 0, 1) := by decide +kernel
theorem dX0_wakingNoise_9 : decode cX0_wakingNoise 9 = .ok (.iload_n 1, 1) := by decide +kernel
theorem dX0_wakingNoise_10 : decode cX0_wakingNoise 10 = .ok (.iload_n 2, 1) := by decide +kernel
theorem dX0_wakingNoise_11 : decode cX0_wakingNoise 11 = .ok (.iload_n 3, 1) := by decide +kernel
theorem dX0_wakingNoise_12 : decode cX0_wakingNoise 12 = .ok (.invokespecial 7, 3) := by decide +kernel
theorem dX0_wakingNoise_15 : decode cX0_wakingNoise 15 = .ok (.ireturn, 1) := by decide +kernel
theorem dX1_init_0 : decode cX1_init 0 = .ok (.aload_n 0, 1) := by decide +kernel
theorem dX1_init_1 : decode cX1_init 1 = .ok (.invokespecial 3, 3) := by decide +kernel
theorem dX1_init_4 : decode cX1_init 4 = .ok (.aload_n 0, 1) := by decide +kernel
theorem dX1_init_5 : decode cX1_init 5 = .ok (.bipush 8, 2) := by decide +kernel
theorem dX1_init_7 : decode cX1_init 7 = .ok (.newarray .int, 2) := by decide +kernel
theorem dX1_init_9 : decode cX1_init 9 = .ok (.putfield 9, 3) := by decide +kernel
theorem dX1_init_12 : decode cX1_init 12 = .ok (.aload_n 0, 1) := by decide +kernel
theorem dX1_init_13 : decode cX1_init 13 = .ok (.bipush 8, 2) := by decide +kernel
theorem dX1_init_15 : decode cX1_init 15 = .ok (.newarray .int, 2) := by decide +kernel
theorem dX1_init_17 : decode cX1_init 17 = .ok (.putfield 15, 3) := by decide +kernel
theorem dX1_init_20 : decode cX1_init 20 = .ok (.aload_n 0, 1) := by decide +kernel
theorem dX1_init_21 : decode cX1_init 21 = .ok (.bipush 8, 2) := by decide +kernel
theorem dX1_init_23 : decode cX1_init 23 = .ok (.newarray .int, 2) := by decide +kernel
theorem dX1_init_25 : decode cX1_init 25 = .ok (.putfield 18, 3) := by decide +kernel
theorem dX1_init_28 : decode cX1_init 28 = .ok (.return_, 1) := by decide +kernel
theorem dX1_lookAt_0 : decode cX1_lookAt 0 = .ok (.aload_n 0, 1) := by decide +kernel
theorem dX1_lookAt_1 : decode cX1_lookAt 1 = .ok (.invokevirtual 21, 3) := by decide +kernel
theorem dX1_lookAt_4 : decode cX1_lookAt 4 = .ok (.iconst 0, 1) := by decide +kernel
theorem dX1_lookAt_5 : decode cX1_lookAt 5 = .ok (.istore_n 3, 1) := by decide +kernel
theorem dX1_lookAt_6 : decode cX1_lookAt 6 = .ok (.iload_n 3, 1) := by decide +kernel
theorem dX1_lookAt_7 : decode cX1_lookAt 7 = .ok (.bipush 8, 2) := by decide +kernel
theorem dX1_lookAt_9 : decode cX1_lookAt 9 = .ok (.if_icmp .ge 21, 3) := by decide +kernel
theorem dX1_lookAt_12 : decode cX1_lookAt 12 = .ok (.aload_n 0, 1) := by decide +kernel
theorem dX1_lookAt_13 : decode cX1_lookAt 13 = .ok (.aload_n 1, 1) := by decide +kernel
theorem dX1_lookAt_14 : decode cX1_lookAt 14 = .ok (.iload_n 3, 1) := by decide +kernel
theorem dX1_lookAt_15 : decode cX1_lookAt 15 = .ok (.aload_n 1, 1) := by decide +kernel
theorem dX1_lookAt_16 : decode cX1_lookAt 16 = .ok (.iload_n 3, 1) := by decide +kernel
theorem dX1_lookAt_17 : decode cX1_lookAt 17 = .ok (.iload_n 2, 1) := by decide +kernel
theorem dX1_lookAt_18 : decode cX1_lookAt 18 = .ok (.invokevirtual 24, 3) := by decide +kernel
theorem dX1_lookAt_21 : decode cX1_lookAt 21 = .ok (.invokevirtual 30, 3) := by decide +kernel
theorem dX1_lookAt_24 : decode cX1_lookAt 24 = .ok (.iinc 3 1, 3) := by decide +kernel
theorem dX1_lookAt_27 : decode cX1_lookAt 27 = .ok (.goto (-21), 3) := by decide +kernel
theorem dX1_lookAt_30 : decode cX1_lookAt 30 = .ok (.return_, 1) := by decide +kernel
theorem dX1_allowCreaks_0 : decode cX1_allowCreaks 0 = .ok (.aload_n 0, 1) := by decide +kernel
theorem dX1_allowCreaks_1 : decode cX1_allowCreaks 1 = .ok (.invokevirtual 21, 3) := by decide +kernel
theorem dX1_allowCreaks_4 : decode cX1_allowCreaks 4 = .ok (.iconst 0, 1) := by decide +kernel
theorem dX1_allowCreaks_5 : decode cX1_allowCreaks 5 = .ok (.istore_n 3, 1) := by decide +kernel
theorem dX1_allowCreaks_6 : decode cX1_allowCreaks 6 = .ok (.iload_n 3, 1) := by decide +kernel
theorem dX1_allowCreaks_7 : decode cX1_allowCreaks 7 = .ok (.bipush 8, 2) := by decide +kernel
theorem dX1_allowCreaks_9 : decode cX1_allowCreaks 9 = .ok (.if_icmp .ge 16, 3) := by decide +kernel
theorem dX1_allowCreaks_12 : decode cX1_allowCreaks 12 = .ok (.aload_n 0, 1) := by decide +kernel
theorem dX1_allowCreaks_13 : decode cX1_allowCreaks 13 = .ok (.aload_n 1, 1) := by decide +kernel
theorem dX1_allowCreaks_14 : decode cX1_allowCreaks 14 = .ok (.iload_n 3, 1) := by decide +kernel
theorem dX1_allowCreaks_15 : decode cX1_allowCreaks 15 = .ok (.iload_n 2, 1) := by decide +kernel
theorem dX1_allowCreaks_16 : decode cX1_allowCreaks 16 = .ok (.invokevirtual 30, 3) := by decide +kernel
theorem dX1_allowCreaks_19 : decode cX1_allowCreaks 19 = .ok (.iinc 3 1, 3) := by decide +kernel
theorem dX1_allowCreaks_22 : decode cX1_allowCreaks 22 = .ok (.goto (-16), 3) := by decide +kernel
theorem dX1_allowCreaks_25 : decode cX1_allowCreaks 25 = .ok (.return_, 1) := by decide +kernel
theorem dX1_stayOnly_0 : decode cX1_stayOnly 0 = .ok (.iconst 0, 1) := by decide +kernel
theorem dX1_stayOnly_1 : decode cX1_stayOnly 1 = .ok (.istore_n 1, 1) := by decide +kernel
theorem dX1_stayOnly_2 : decode cX1_stayOnly 2 = .ok (.iload_n 1, 1) := by decide +kernel
theorem dX1_stayOnly_3 : decode cX1_stayOnly 3 = .ok (.bipush 8, 2) := by decide +kernel
theorem dX1_stayOnly_5 : decode cX1_stayOnly 5 = .ok (.if_icmp .ge 18, 3) := by decide +kernel
theorem dX1_stayOnly_8 : decode cX1_stayOnly 8 = .ok (.aload_n 0, 1) := by decide +kernel
theorem dX1_stayOnly_9 : decode cX1_stayOnly 9 = .ok (.getfield 9, 3) := by decide +kernel
theorem dX1_stayOnly_12 : decode cX1_stayOnly 12 = .ok (.iload_n 1, 1) := by decide +kernel
theorem dX1_stayOnly_13 : decode cX1_stayOnly 13 = .ok (.iconst 1, 1) := by decide +kernel
theorem dX1_stayOnly_14 : decode cX1_stayOnly 14 = .ok (.iload_n 1, 1) := by decide +kernel
theorem dX1_stayOnly_15 : decode cX1_stayOnly 15 = .ok (.ishl, 1) := by decide +kernel
theorem dX1_stayOnly_16 : decode cX1_stayOnly 16 = .ok (.iastore, 1) := by decide +kernel
theorem dX1_stayOnly_17 : decode cX1_stayOnly 17 = .ok (.iinc 1 1, 3) := by decide +kernel
theorem dX1_stayOnly_20 : decode cX1_stayOnly 20 = .ok (.goto (-18), 3) := by decide +kernel
theorem dX1_stayOnly_23 : decode cX1_stayOnly 23 = .ok (.return_, 1) := by decide +kernel
theorem dX1_allowInto_0 : decode cX1_allowInto 0 = .ok (.iconst 0, 1) := by decide +kernel
theorem dX1_allowInto_1 : decode cX1_allowInto 1 = .ok (.istore 4, 2) := by decide +kernel
theorem dX1_allowInto_3 : decode cX1_allowInto 3 = .ok (.iload 4, 2) := by decide +kernel
theorem dX1_allowInto_5 : decode cX1_allowInto 5 = .ok (.bipush 8, 2) := by decide +kernel
theorem dX1_allowInto_7 : decode cX1_allowInto 7 = .ok (.if_icmp .ge 46, 3) := by decide +kernel
theorem dX1_allowInto_10 : decode cX1_allowInto 10 = .ok (.aload_n 1, 1) := by decide +kernel
theorem dX1_allowInto_11 : decode cX1_allowInto 11 = .ok (.getfield 34, 3) := by decide +kernel
theorem dX1_allowInto_14 : decode cX1_allowInto 14 = .ok (.iload 4, 2) := by decide +kernel
theorem dX1_allowInto_16 : decode cX1_allowInto 16 = .ok (.iload_n 2, 1) := by decide +kernel
theorem dX1_allowInto_17 : decode cX1_allowInto 17 = .ok (.invokestatic 37, 3) := by decide +kernel
theorem dX1_allowInto_20 : decode cX1_allowInto 20 = .ok (.iaload, 1) := by decide +kernel
theorem dX1_allowInto_21 : decode cX1_allowInto 21 = .ok (.istore 5, 2) := by decide +kernel
theorem dX1_allowInto_23 : decode cX1_allowInto 23 = .ok (.iload 5, 2) := by decide +kernel
theorem dX1_allowInto_25 : decode cX1_allowInto 25 = .ok (.ifCond .lt 22, 3) := by decide +kernel
theorem dX1_allowInto_28 : decode cX1_allowInto 28 = .ok (.iload 5, 2) := by decide +kernel
theorem dX1_allowInto_30 : decode cX1_allowInto 30 = .ok (.iload_n 3, 1) := by decide +kernel
theorem dX1_allowInto_31 : decode cX1_allowInto 31 = .ok (.if_icmp .gt 16, 3) := by decide +kernel
theorem dX1_allowInto_34 : decode cX1_allowInto 34 = .ok (.aload_n 0, 1) := by decide +kernel
theorem dX1_allowInto_35 : decode cX1_allowInto 35 = .ok (.getfield 9, 3) := by decide +kernel
theorem dX1_allowInto_38 : decode cX1_allowInto 38 = .ok (.iload 4, 2) := by decide +kernel
theorem dX1_allowInto_40 : decode cX1_allowInto 40 = .ok (.dup2, 1) := by decide +kernel
theorem dX1_allowInto_41 : decode cX1_allowInto 41 = .ok (.iaload, 1) := by decide +kernel
theorem dX1_allowInto_42 : decode cX1_allowInto 42 = .ok (.iconst 1, 1) := by decide +kernel
theorem dX1_allowInto_43 : decode cX1_allowInto 43 = .ok (.iload_n 2, 1) := by decide +kernel
theorem dX1_allowInto_44 : decode cX1_allowInto 44 = .ok (.ishl, 1) := by decide +kernel
theorem dX1_allowInto_45 : decode cX1_allowInto 45 = .ok (.ior, 1) := by decide +kernel
theorem dX1_allowInto_46 : decode cX1_allowInto 46 = .ok (.iastore, 1) := by decide +kernel
theorem dX1_allowInto_47 : decode cX1_allowInto 47 = .ok (.iinc 4 1, 3) := by decide +kernel
theorem dX1_allowInto_50 : decode cX1_allowInto 50 = .ok (.goto (-47), 3) := by decide +kernel
theorem dX1_allowInto_53 : decode cX1_allowInto 53 = .ok (.return_, 1) := by decide +kernel
theorem dX1_roomsAfter_0 : decode cX1_roomsAfter 0 = .ok (.iconst 0, 1) := by decide +kernel
theorem dX1_roomsAfter_1 : decode cX1_roomsAfter 1 = .ok (.istore_n 2, 1) := by decide +kernel
theorem dX1_roomsAfter_2 : decode cX1_roomsAfter 2 = .ok (.iconst 0, 1) := by decide +kernel
theorem dX1_roomsAfter_3 : decode cX1_roomsAfter 3 = .ok (.istore_n 3, 1) := by decide +kernel
theorem dX1_roomsAfter_4 : decode cX1_roomsAfter 4 = .ok (.iload_n 3, 1) := by decide +kernel
theorem dX1_roomsAfter_5 : decode cX1_roomsAfter 5 = .ok (.bipush 8, 2) := by decide +kernel
theorem dX1_roomsAfter_7 : decode cX1_roomsAfter 7 = .ok (.if_icmp .ge 27, 3) := by decide +kernel
theorem dX1_roomsAfter_10 : decode cX1_roomsAfter 10 = .ok (.iload_n 1, 1) := by decide +kernel
theorem dX1_roomsAfter_11 : decode cX1_roomsAfter 11 = .ok (.iload_n 3, 1) := by decide +kernel
theorem dX1_roomsAfter_12 : decode cX1_roomsAfter 12 = .ok (.invokestatic 40, 3) := by decide +kernel
theorem dX1_roomsAfter_15 : decode cX1_roomsAfter 15 = .ok (.iconst 1, 1) := by decide +kernel
theorem dX1_roomsAfter_16 : decode cX1_roomsAfter 16 = .ok (.if_icmp .ne 12, 3) := by decide +kernel
theorem dX1_roomsAfter_19 : decode cX1_roomsAfter 19 = .ok (.iload_n 2, 1) := by decide +kernel
theorem dX1_roomsAfter_20 : decode cX1_roomsAfter 20 = .ok (.aload_n 0, 1) := by decide +kernel
theorem dX1_roomsAfter_21 : decode cX1_roomsAfter 21 = .ok (.getfield 9, 3) := by decide +kernel
theorem dX1_roomsAfter_24 : decode cX1_roomsAfter 24 = .ok (.iload_n 3, 1) := by decide +kernel
theorem dX1_roomsAfter_25 : decode cX1_roomsAfter 25 = .ok (.iaload, 1) := by decide +kernel
theorem dX1_roomsAfter_26 : decode cX1_roomsAfter 26 = .ok (.ior, 1) := by decide +kernel
theorem dX1_roomsAfter_27 : decode cX1_roomsAfter 27 = .ok (.istore_n 2, 1) := by decide +kernel
theorem dX1_roomsAfter_28 : decode cX1_roomsAfter 28 = .ok (.iinc 3 1, 3) := by decide +kernel
theorem dX1_roomsAfter_31 : decode cX1_roomsAfter 31 = .ok (.goto (-27), 3) := by decide +kernel
theorem dX1_roomsAfter_34 : decode cX1_roomsAfter 34 = .ok (.iload_n 2, 1) := by decide +kernel
theorem dX1_roomsAfter_35 : decode cX1_roomsAfter 35 = .ok (.ireturn, 1) := by decide +kernel
theorem dX1_roomsAhead_0 : decode cX1_roomsAhead 0 = .ok (.iconst 0, 1) := by decide +kernel
theorem dX1_roomsAhead_1 : decode cX1_roomsAhead 1 = .ok (.istore_n 2, 1) := by decide +kernel
theorem dX1_roomsAhead_2 : decode cX1_roomsAhead 2 = .ok (.iconst 0, 1) := by decide +kernel
theorem dX1_roomsAhead_3 : decode cX1_roomsAhead 3 = .ok (.istore_n 3, 1) := by decide +kernel
theorem dX1_roomsAhead_4 : decode cX1_roomsAhead 4 = .ok (.iload_n 3, 1) := by decide +kernel
theorem dX1_roomsAhead_5 : decode cX1_roomsAhead 5 = .ok (.bipush 8, 2) := by decide +kernel
theorem dX1_roomsAhead_7 : decode cX1_roomsAhead 7 = .ok (.if_icmp .ge 26, 3) := by decide +kernel
theorem dX1_roomsAhead_10 : decode cX1_roomsAhead 10 = .ok (.aload_n 0, 1) := by decide +kernel
theorem dX1_roomsAhead_11 : decode cX1_roomsAhead 11 = .ok (.getfield 9, 3) := by decide +kernel
theorem dX1_roomsAhead_14 : decode cX1_roomsAhead 14 = .ok (.iload_n 3, 1) := by decide +kernel
theorem dX1_roomsAhead_15 : decode cX1_roomsAhead 15 = .ok (.iaload, 1) := by decide +kernel
theorem dX1_roomsAhead_16 : decode cX1_roomsAhead 16 = .ok (.iload_n 1, 1) := by decide +kernel
theorem dX1_roomsAhead_17 : decode cX1_roomsAhead 17 = .ok (.iand, 1) := by decide +kernel
theorem dX1_roomsAhead_18 : decode cX1_roomsAhead 18 = .ok (.ifCond .eq 9, 3) := by decide +kernel
theorem dX1_roomsAhead_21 : decode cX1_roomsAhead 21 = .ok (.iload_n 2, 1) := by decide +kernel
theorem dX1_roomsAhead_22 : decode cX1_roomsAhead 22 = .ok (.iconst 1, 1) := by decide +kernel
theorem dX1_roomsAhead_23 : decode cX1_roomsAhead 23 = .ok (.iload_n 3, 1) := by decide +kernel
theorem dX1_roomsAhead_24 : decode cX1_roomsAhead 24 = .ok (.ishl, 1) := by decide +kernel
theorem dX1_roomsAhead_25 : decode cX1_roomsAhead 25 = .ok (.ior, 1) := by decide +kernel
theorem dX1_roomsAhead_26 : decode cX1_roomsAhead 26 = .ok (.istore_n 2, 1) := by decide +kernel
theorem dX1_roomsAhead_27 : decode cX1_roomsAhead 27 = .ok (.iinc 3 1, 3) := by decide +kernel
theorem dX1_roomsAhead_30 : decode cX1_roomsAhead 30 = .ok (.goto (-26), 3) := by decide +kernel
theorem dX1_roomsAhead_33 : decode cX1_roomsAhead 33 = .ok (.iload_n 2, 1) := by decide +kernel
theorem dX1_roomsAhead_34 : decode cX1_roomsAhead 34 = .ok (.ireturn, 1) := by decide +kernel
theorem dX1_fewestMinutes_0 : decode cX1_fewestMinutes 0 = .ok (.iconst 1, 1) := by decide +kernel
theorem dX1_fewestMinutes_1 : decode cX1_fewestMinutes 1 = .ok (.iload_n 2, 1) := by decide +kernel
theorem dX1_fewestMinutes_2 : decode cX1_fewestMinutes 2 = .ok (.ishl, 1) := by decide +kernel
theorem dX1_fewestMinutes_3 : decode cX1_fewestMinutes 3 = .ok (.istore 5, 2) := by decide +kernel
theorem dX1_fewestMinutes_5 : decode cX1_fewestMinutes 5 = .ok (.iload 4, 2) := by decide +kernel
theorem dX1_fewestMinutes_7 : decode cX1_fewestMinutes 7 = .ok (.istore 6, 2) := by decide +kernel
theorem dX1_fewestMinutes_9 : decode cX1_fewestMinutes 9 = .ok (.iload 6, 2) := by decide +kernel
theorem dX1_fewestMinutes_11 : decode cX1_fewestMinutes 11 = .ok (.bipush 59, 2) := by decide +kernel
theorem dX1_fewestMinutes_13 : decode cX1_fewestMinutes 13 = .ok (.if_icmp .ge 40, 3) := by decide +kernel
theorem dX1_fewestMinutes_16 : decode cX1_fewestMinutes 16 = .ok (.iload 5, 2) := by decide +kernel
theorem dX1_fewestMinutes_18 : decode cX1_fewestMinutes 18 = .ok (.iload_n 3, 1) := by decide +kernel
theorem dX1_fewestMinutes_19 : decode cX1_fewestMinutes 19 = .ok (.invokestatic 40, 3) := by decide +kernel
theorem dX1_fewestMinutes_22 : decode cX1_fewestMinutes 22 = .ok (.iconst 1, 1) := by decide +kernel
theorem dX1_fewestMinutes_23 : decode cX1_fewestMinutes 23 = .ok (.if_icmp .ne 9, 3) := by decide +kernel
theorem dX1_fewestMinutes_26 : decode cX1_fewestMinutes 26 = .ok (.iload 6, 2) := by decide +kernel
theorem dX1_fewestMinutes_28 : decode cX1_fewestMinutes 28 = .ok (.iload 4, 2) := by decide +kernel
theorem dX1_fewestMinutes_30 : decode cX1_fewestMinutes 30 = .ok (.isub, 1) := by decide +kernel
theorem dX1_fewestMinutes_31 : decode cX1_fewestMinutes 31 = .ok (.ireturn, 1) := by decide +kernel
theorem dX1_fewestMinutes_32 : decode cX1_fewestMinutes 32 = .ok (.aload_n 0, 1) := by decide +kernel
theorem dX1_fewestMinutes_33 : decode cX1_fewestMinutes 33 = .ok (.aload_n 1, 1) := by decide +kernel
theorem dX1_fewestMinutes_34 : decode cX1_fewestMinutes 34 = .ok (.iload 6, 2) := by decide +kernel
theorem dX1_fewestMinutes_36 : decode cX1_fewestMinutes 36 = .ok (.invokevirtual 43, 3) := by decide +kernel
theorem dX1_fewestMinutes_39 : decode cX1_fewestMinutes 39 = .ok (.aload_n 0, 1) := by decide +kernel
theorem dX1_fewestMinutes_40 : decode cX1_fewestMinutes 40 = .ok (.iload 5, 2) := by decide +kernel
theorem dX1_fewestMinutes_42 : decode cX1_fewestMinutes 42 = .ok (.invokevirtual 47, 3) := by decide +kernel
theorem dX1_fewestMinutes_45 : decode cX1_fewestMinutes 45 = .ok (.istore 5, 2) := by decide +kernel
theorem dX1_fewestMinutes_47 : decode cX1_fewestMinutes 47 = .ok (.iinc 6 1, 3) := by decide +kernel
theorem dX1_fewestMinutes_50 : decode cX1_fewestMinutes 50 = .ok (.goto (-41), 3) := by decide +kernel
theorem dX1_fewestMinutes_53 : decode cX1_fewestMinutes 53 = .ok (.iload 5, 2) := by decide +kernel
theorem dX1_fewestMinutes_55 : decode cX1_fewestMinutes 55 = .ok (.iload_n 3, 1) := by decide +kernel
theorem dX1_fewestMinutes_56 : decode cX1_fewestMinutes 56 = .ok (.invokestatic 40, 3) := by decide +kernel
theorem dX1_fewestMinutes_59 : decode cX1_fewestMinutes 59 = .ok (.iconst 1, 1) := by decide +kernel
theorem dX1_fewestMinutes_60 : decode cX1_fewestMinutes 60 = .ok (.if_icmp .ne 11, 3) := by decide +kernel
theorem dX1_fewestMinutes_63 : decode cX1_fewestMinutes 63 = .ok (.bipush 59, 2) := by decide +kernel
theorem dX1_fewestMinutes_65 : decode cX1_fewestMinutes 65 = .ok (.iload 4, 2) := by decide +kernel
theorem dX1_fewestMinutes_67 : decode cX1_fewestMinutes 67 = .ok (.isub, 1) := by decide +kernel
theorem dX1_fewestMinutes_68 : decode cX1_fewestMinutes 68 = .ok (.goto 4, 3) := by decide +kernel
theorem dX1_fewestMinutes_71 : decode cX1_fewestMinutes 71 = .ok (.iconst (-1), 1) := by decide +kernel
theorem dX1_fewestMinutes_72 : decode cX1_fewestMinutes 72 = .ok (.ireturn, 1) := by decide +kernel
theorem dX1_firstRoom_0 : decode cX1_firstRoom 0 = .ok (.iload 5, 2) := by decide +kernel
theorem dX1_firstRoom_2 : decode cX1_firstRoom 2 = .ok (.ifCond .ne 5, 3) := by decide +kernel
theorem dX1_firstRoom_5 : decode cX1_firstRoom 5 = .ok (.iload_n 3, 1) := by decide +kernel
theorem dX1_firstRoom_6 : decode cX1_firstRoom 6 = .ok (.ireturn, 1) := by decide +kernel
theorem dX1_firstRoom_7 : decode cX1_firstRoom 7 = .ok (.iconst 1, 1) := by decide +kernel
theorem dX1_firstRoom_8 : decode cX1_firstRoom 8 = .ok (.iload_n 3, 1) := by decide +kernel
theorem dX1_firstRoom_9 : decode cX1_firstRoom 9 = .ok (.ishl, 1) := by decide +kernel
theorem dX1_firstRoom_10 : decode cX1_firstRoom 10 = .ok (.istore 6, 2) := by decide +kernel
theorem dX1_firstRoom_12 : decode cX1_firstRoom 12 = .ok (.iload 4, 2) := by decide +kernel
theorem dX1_firstRoom_14 : decode cX1_firstRoom 14 = .ok (.iload 5, 2) := by decide +kernel
theorem dX1_firstRoom_16 : decode cX1_firstRoom 16 = .ok (.iadd, 1) := by decide +kernel
theorem dX1_firstRoom_17 : decode cX1_firstRoom 17 = .ok (.iconst 1, 1) := by decide +kernel
theorem dX1_firstRoom_18 : decode cX1_firstRoom 18 = .ok (.isub, 1) := by decide +kernel
theorem dX1_firstRoom_19 : decode cX1_firstRoom 19 = .ok (.istore 7, 2) := by decide +kernel
theorem dX1_firstRoom_21 : decode cX1_firstRoom 21 = .ok (.iload 7, 2) := by decide +kernel
theorem dX1_firstRoom_23 : decode cX1_firstRoom 23 = .ok (.iload 4, 2) := by decide +kernel
theorem dX1_firstRoom_25 : decode cX1_firstRoom 25 = .ok (.if_icmp .le 24, 3) := by decide +kernel
theorem dX1_firstRoom_28 : decode cX1_firstRoom 28 = .ok (.aload_n 0, 1) := by decide +kernel
theorem dX1_firstRoom_29 : decode cX1_firstRoom 29 = .ok (.aload_n 1, 1) := by decide +kernel
theorem dX1_firstRoom_30 : decode cX1_firstRoom 30 = .ok (.iload 7, 2) := by decide +kernel
theorem dX1_firstRoom_32 : decode cX1_firstRoom 32 = .ok (.invokevirtual 43, 3) := by decide +kernel
theorem dX1_firstRoom_35 : decode cX1_firstRoom 35 = .ok (.aload_n 0, 1) := by decide +kernel
theorem dX1_firstRoom_36 : decode cX1_firstRoom 36 = .ok (.iload 6, 2) := by decide +kernel
theorem dX1_firstRoom_38 : decode cX1_firstRoom 38 = .ok (.invokevirtual 51, 3) := by decide +kernel
theorem dX1_firstRoom_41 : decode cX1_firstRoom 41 = .ok (.istore 6, 2) := by decide +kernel
theorem dX1_firstRoom_43 : decode cX1_firstRoom 43 = .ok (.iinc 7 (-1), 3) := by decide +kernel
theorem dX1_firstRoom_46 : decode cX1_firstRoom 46 = .ok (.goto (-25), 3) := by decide +kernel
theorem dX1_firstRoom_49 : decode cX1_firstRoom 49 = .ok (.aload_n 0, 1) := by decide +kernel
theorem dX1_firstRoom_50 : decode cX1_firstRoom 50 = .ok (.aload_n 1, 1) := by decide +kernel
theorem dX1_firstRoom_51 : decode cX1_firstRoom 51 = .ok (.iload 4, 2) := by decide +kernel
theorem dX1_firstRoom_53 : decode cX1_firstRoom 53 = .ok (.invokevirtual 43, 3) := by decide +kernel
theorem dX1_firstRoom_56 : decode cX1_firstRoom 56 = .ok (.iconst 0, 1) := by decide +kernel
theorem dX1_firstRoom_57 : decode cX1_firstRoom 57 = .ok (.istore 7, 2) := by decide +kernel
theorem dX1_firstRoom_59 : decode cX1_firstRoom 59 = .ok (.iload 7, 2) := by decide +kernel
theorem dX1_firstRoom_61 : decode cX1_firstRoom 61 = .ok (.bipush 8, 2) := by decide +kernel
theorem dX1_firstRoom_63 : decode cX1_firstRoom 63 = .ok (.if_icmp .ge 30, 3) := by decide +kernel
theorem dX1_firstRoom_66 : decode cX1_firstRoom 66 = .ok (.aload_n 0, 1) := by decide +kernel
theorem dX1_firstRoom_67 : decode cX1_firstRoom 67 = .ok (.getfield 9, 3) := by decide +kernel
theorem dX1_firstRoom_70 : decode cX1_firstRoom 70 = .ok (.iload_n 2, 1) := by decide +kernel
theorem dX1_firstRoom_71 : decode cX1_firstRoom 71 = .ok (.iaload, 1) := by decide +kernel
theorem dX1_firstRoom_72 : decode cX1_firstRoom 72 = .ok (.iload 6, 2) := by decide +kernel
theorem dX1_firstRoom_74 : decode cX1_firstRoom 74 = .ok (.iand, 1) := by decide +kernel
theorem dX1_firstRoom_75 : decode cX1_firstRoom 75 = .ok (.iload 7, 2) := by decide +kernel
theorem dX1_firstRoom_77 : decode cX1_firstRoom 77 = .ok (.invokestatic 40, 3) := by decide +kernel
theorem dX1_firstRoom_80 : decode cX1_firstRoom 80 = .ok (.iconst 1, 1) := by decide +kernel
theorem dX1_firstRoom_81 : decode cX1_firstRoom 81 = .ok (.if_icmp .ne 6, 3) := by decide +kernel
theorem dX1_firstRoom_84 : decode cX1_firstRoom 84 = .ok (.iload 7, 2) := by decide +kernel
theorem dX1_firstRoom_86 : decode cX1_firstRoom 86 = .ok (.ireturn, 1) := by decide +kernel
theorem dX1_firstRoom_87 : decode cX1_firstRoom 87 = .ok (.iinc 7 1, 3) := by decide +kernel
theorem dX1_firstRoom_90 : decode cX1_firstRoom 90 = .ok (.goto (-31), 3) := by decide +kernel
theorem dX1_firstRoom_93 : decode cX1_firstRoom 93 = .ok (.iconst (-1), 1) := by decide +kernel
theorem dX1_firstRoom_94 : decode cX1_firstRoom 94 = .ok (.ireturn, 1) := by decide +kernel
theorem dX1_reachedByDawn_0 : decode cX1_reachedByDawn 0 = .ok (.iconst 1, 1) := by decide +kernel
theorem dX1_reachedByDawn_1 : decode cX1_reachedByDawn 1 = .ok (.istore_n 2, 1) := by decide +kernel
theorem dX1_reachedByDawn_2 : decode cX1_reachedByDawn 2 = .ok (.iconst 0, 1) := by decide +kernel
theorem dX1_reachedByDawn_3 : decode cX1_reachedByDawn 3 = .ok (.istore_n 3, 1) := by decide +kernel
theorem dX1_reachedByDawn_4 : decode cX1_reachedByDawn 4 = .ok (.iload_n 3, 1) := by decide +kernel
theorem dX1_reachedByDawn_5 : decode cX1_reachedByDawn 5 = .ok (.bipush 59, 2) := by decide +kernel
theorem dX1_reachedByDawn_7 : decode cX1_reachedByDawn 7 = .ok (.if_icmp .ge 21, 3) := by decide +kernel
theorem dX1_reachedByDawn_10 : decode cX1_reachedByDawn 10 = .ok (.aload_n 0, 1) := by decide +kernel
theorem dX1_reachedByDawn_11 : decode cX1_reachedByDawn 11 = .ok (.aload_n 1, 1) := by decide +kernel
theorem dX1_reachedByDawn_12 : decode cX1_reachedByDawn 12 = .ok (.iload_n 3, 1) := by decide +kernel
theorem dX1_reachedByDawn_13 : decode cX1_reachedByDawn 13 = .ok (.invokevirtual 43, 3) := by decide +kernel
theorem dX1_reachedByDawn_16 : decode cX1_reachedByDawn 16 = .ok (.aload_n 0, 1) := by decide +kernel
theorem dX1_reachedByDawn_17 : decode cX1_reachedByDawn 17 = .ok (.iload_n 2, 1) := by decide +kernel
theorem dX1_reachedByDawn_18 : decode cX1_reachedByDawn 18 = .ok (.invokevirtual 47, 3) := by decide +kernel
theorem dX1_reachedByDawn_21 : decode cX1_reachedByDawn 21 = .ok (.istore_n 2, 1) := by decide +kernel
theorem dX1_reachedByDawn_22 : decode cX1_reachedByDawn 22 = .ok (.iinc 3 1, 3) := by decide +kernel
theorem dX1_reachedByDawn_25 : decode cX1_reachedByDawn 25 = .ok (.goto (-21), 3) := by decide +kernel
theorem dX1_reachedByDawn_28 : decode cX1_reachedByDawn 28 = .ok (.iload_n 2, 1) := by decide +kernel
theorem dX1_reachedByDawn_29 : decode cX1_reachedByDawn 29 = .ok (.ireturn, 1) := by decide +kernel
theorem dX1_leastWorstCreak_0 : decode cX1_leastWorstCreak 0 = .ok (.iconst 0, 1) := by decide +kernel
theorem dX1_leastWorstCreak_1 : decode cX1_leastWorstCreak 1 = .ok (.istore 4, 2) := by decide +kernel
theorem dX1_leastWorstCreak_3 : decode cX1_leastWorstCreak 3 = .ok (.iload 4, 2) := by decide +kernel
theorem dX1_leastWorstCreak_5 : decode cX1_leastWorstCreak 5 = .ok (.bipush 9, 2) := by decide +kernel
theorem dX1_leastWorstCreak_7 : decode cX1_leastWorstCreak 7 = .ok (.if_icmp .gt 58, 3) := by decide +kernel
theorem dX1_leastWorstCreak_10 : decode cX1_leastWorstCreak 10 = .ok (.aload_n 0, 1) := by decide +kernel
theorem dX1_leastWorstCreak_11 : decode cX1_leastWorstCreak 11 = .ok (.aload_n 1, 1) := by decide +kernel
theorem dX1_leastWorstCreak_12 : decode cX1_leastWorstCreak 12 = .ok (.iload 4, 2) := by decide +kernel
theorem dX1_leastWorstCreak_14 : decode cX1_leastWorstCreak 14 = .ok (.invokevirtual 54, 3) := by decide +kernel
theorem dX1_leastWorstCreak_17 : decode cX1_leastWorstCreak 17 = .ok (.iconst 1, 1) := by decide +kernel
theorem dX1_leastWorstCreak_18 : decode cX1_leastWorstCreak 18 = .ok (.iload_n 2, 1) := by decide +kernel
theorem dX1_leastWorstCreak_19 : decode cX1_leastWorstCreak 19 = .ok (.ishl, 1) := by decide +kernel
theorem dX1_leastWorstCreak_20 : decode cX1_leastWorstCreak 20 = .ok (.istore 5, 2) := by decide +kernel
theorem dX1_leastWorstCreak_22 : decode cX1_leastWorstCreak 22 = .ok (.iconst 1, 1) := by decide +kernel
theorem dX1_leastWorstCreak_23 : decode cX1_leastWorstCreak 23 = .ok (.istore 6, 2) := by decide +kernel
theorem dX1_leastWorstCreak_25 : decode cX1_leastWorstCreak 25 = .ok (.iload 6, 2) := by decide +kernel
theorem dX1_leastWorstCreak_27 : decode cX1_leastWorstCreak 27 = .ok (.bipush 8, 2) := by decide +kernel
theorem dX1_leastWorstCreak_29 : decode cX1_leastWorstCreak 29 = .ok (.if_icmp .ge 17, 3) := by decide +kernel
theorem dX1_leastWorstCreak_32 : decode cX1_leastWorstCreak 32 = .ok (.aload_n 0, 1) := by decide +kernel
theorem dX1_leastWorstCreak_33 : decode cX1_leastWorstCreak 33 = .ok (.iload 5, 2) := by decide +kernel
theorem dX1_leastWorstCreak_35 : decode cX1_leastWorstCreak 35 = .ok (.invokevirtual 47, 3) := by decide +kernel
theorem dX1_leastWorstCreak_38 : decode cX1_leastWorstCreak 38 = .ok (.istore 5, 2) := by decide +kernel
theorem dX1_leastWorstCreak_40 : decode cX1_leastWorstCreak 40 = .ok (.iinc 6 1, 3) := by decide +kernel
theorem dX1_leastWorstCreak_43 : decode cX1_leastWorstCreak 43 = .ok (.goto (-18), 3) := by decide +kernel
theorem dX1_leastWorstCreak_46 : decode cX1_leastWorstCreak 46 = .ok (.iload 5, 2) := by decide +kernel
theorem dX1_leastWorstCreak_48 : decode cX1_leastWorstCreak 48 = .ok (.iload_n 3, 1) := by decide +kernel
theorem dX1_leastWorstCreak_49 : decode cX1_leastWorstCreak 49 = .ok (.invokestatic 40, 3) := by decide +kernel
theorem dX1_leastWorstCreak_52 : decode cX1_leastWorstCreak 52 = .ok (.iconst 1, 1) := by decide +kernel
theorem dX1_leastWorstCreak_53 : decode cX1_leastWorstCreak 53 = .ok (.if_icmp .ne 6, 3) := by decide +kernel
theorem dX1_leastWorstCreak_56 : decode cX1_leastWorstCreak 56 = .ok (.iload 4, 2) := by decide +kernel
theorem dX1_leastWorstCreak_58 : decode cX1_leastWorstCreak 58 = .ok (.ireturn, 1) := by decide +kernel
theorem dX1_leastWorstCreak_59 : decode cX1_leastWorstCreak 59 = .ok (.iinc 4 1, 3) := by decide +kernel
theorem dX1_leastWorstCreak_62 : decode cX1_leastWorstCreak 62 = .ok (.goto (-59), 3) := by decide +kernel
theorem dX1_leastWorstCreak_65 : decode cX1_leastWorstCreak 65 = .ok (.iconst (-1), 1) := by decide +kernel
theorem dX1_leastWorstCreak_66 : decode cX1_leastWorstCreak 66 = .ok (.ireturn, 1) := by decide +kernel
theorem dX1_fewestMinutesOfTwo_0 : decode cX1_fewestMinutesOfTwo 0 = .ok (.iconst 0, 1) := by decide +kernel
theorem dX1_fewestMinutesOfTwo_1 : decode cX1_fewestMinutesOfTwo 1 = .ok (.istore 4, 2) := by decide +kernel
theorem dX1_fewestMinutesOfTwo_3 : decode cX1_fewestMinutesOfTwo 3 = .ok (.iload 4, 2) := by decide +kernel
theorem dX1_fewestMinutesOfTwo_5 : decode cX1_fewestMinutesOfTwo 5 = .ok (.bipush 8, 2) := by decide +kernel
theorem dX1_fewestMinutesOfTwo_7 : decode cX1_fewestMinutesOfTwo 7 = .ok (.if_icmp .ge 26, 3) := by decide +kernel
theorem dX1_fewestMinutesOfTwo_10 : decode cX1_fewestMinutesOfTwo 10 = .ok (.aload_n 0, 1) := by decide +kernel
theorem dX1_fewestMinutesOfTwo_11 : decode cX1_fewestMinutesOfTwo 11 = .ok (.getfield 15, 3) := by decide +kernel
theorem dX1_fewestMinutesOfTwo_14 : decode cX1_fewestMinutesOfTwo 14 = .ok (.iload 4, 2) := by decide +kernel
theorem dX1_fewestMinutesOfTwo_16 : decode cX1_fewestMinutesOfTwo 16 = .ok (.iload 4, 2) := by decide +kernel
theorem dX1_fewestMinutesOfTwo_18 : decode cX1_fewestMinutesOfTwo 18 = .ok (.ifCond .ne 7, 3) := by decide +kernel
theorem dX1_fewestMinutesOfTwo_21 : decode cX1_fewestMinutesOfTwo 21 = .ok (.iconst 1, 1) := by decide +kernel
theorem dX1_fewestMinutesOfTwo_22 : decode cX1_fewestMinutesOfTwo 22 = .ok (.goto 4, 3) := by decide +kernel
theorem dX1_fewestMinutesOfTwo_25 : decode cX1_fewestMinutesOfTwo 25 = .ok (.iconst 0, 1) := by decide +kernel
theorem dX1_fewestMinutesOfTwo_26 : decode cX1_fewestMinutesOfTwo 26 = .ok (.iastore, 1) := by decide +kernel
theorem dX1_fewestMinutesOfTwo_27 : decode cX1_fewestMinutesOfTwo 27 = .ok (.iinc 4 1, 3) := by decide +kernel
theorem dX1_fewestMinutesOfTwo_30 : decode cX1_fewestMinutesOfTwo 30 = .ok (.goto (-27), 3) := by decide +kernel
theorem dX1_fewestMinutesOfTwo_33 : decode cX1_fewestMinutesOfTwo 33 = .ok (.iconst 0, 1) := by decide +kernel
theorem dX1_fewestMinutesOfTwo_34 : decode cX1_fewestMinutesOfTwo 34 = .ok (.istore 4, 2) := by decide +kernel
theorem dX1_fewestMinutesOfTwo_36 : decode cX1_fewestMinutesOfTwo 36 = .ok (.iload 4, 2) := by decide +kernel
theorem dX1_fewestMinutesOfTwo_38 : decode cX1_fewestMinutesOfTwo 38 = .ok (.bipush 20, 2) := by decide +kernel
theorem dX1_fewestMinutesOfTwo_40 : decode cX1_fewestMinutesOfTwo 40 = .ok (.if_icmp .ge 37, 3) := by decide +kernel
theorem dX1_fewestMinutesOfTwo_43 : decode cX1_fewestMinutesOfTwo 43 = .ok (.aload_n 0, 1) := by decide +kernel
theorem dX1_fewestMinutesOfTwo_44 : decode cX1_fewestMinutesOfTwo 44 = .ok (.getfield 15, 3) := by decide +kernel
theorem dX1_fewestMinutesOfTwo_47 : decode cX1_fewestMinutesOfTwo 47 = .ok (.iload_n 2, 1) := by decide +kernel
theorem dX1_fewestMinutesOfTwo_48 : decode cX1_fewestMinutesOfTwo 48 = .ok (.iaload, 1) := by decide +kernel
theorem dX1_fewestMinutesOfTwo_49 : decode cX1_fewestMinutesOfTwo 49 = .ok (.iload_n 3, 1) := by decide +kernel
theorem dX1_fewestMinutesOfTwo_50 : decode cX1_fewestMinutesOfTwo 50 = .ok (.invokestatic 40, 3) := by decide +kernel
theorem dX1_fewestMinutesOfTwo_53 : decode cX1_fewestMinutesOfTwo 53 = .ok (.iconst 1, 1) := by decide +kernel
theorem dX1_fewestMinutesOfTwo_54 : decode cX1_fewestMinutesOfTwo 54 = .ok (.if_icmp .ne 6, 3) := by decide +kernel
theorem dX1_fewestMinutesOfTwo_57 : decode cX1_fewestMinutesOfTwo 57 = .ok (.iload 4, 2) := by decide +kernel
theorem dX1_fewestMinutesOfTwo_59 : decode cX1_fewestMinutesOfTwo 59 = .ok (.ireturn, 1) := by decide +kernel
theorem dX1_fewestMinutesOfTwo_60 : decode cX1_fewestMinutesOfTwo 60 = .ok (.aload_n 0, 1) := by decide +kernel
theorem dX1_fewestMinutesOfTwo_61 : decode cX1_fewestMinutesOfTwo 61 = .ok (.aload_n 1, 1) := by decide +kernel
theorem dX1_fewestMinutesOfTwo_62 : decode cX1_fewestMinutesOfTwo 62 = .ok (.iload 4, 2) := by decide +kernel
theorem dX1_fewestMinutesOfTwo_64 : decode cX1_fewestMinutesOfTwo 64 = .ok (.invokevirtual 43, 3) := by decide +kernel
theorem dX1_fewestMinutesOfTwo_67 : decode cX1_fewestMinutesOfTwo 67 = .ok (.aload_n 0, 1) := by decide +kernel
theorem dX1_fewestMinutesOfTwo_68 : decode cX1_fewestMinutesOfTwo 68 = .ok (.invokevirtual 57, 3) := by decide +kernel
theorem dX1_fewestMinutesOfTwo_71 : decode cX1_fewestMinutesOfTwo 71 = .ok (.iinc 4 1, 3) := by decide +kernel
theorem dX1_fewestMinutesOfTwo_74 : decode cX1_fewestMinutesOfTwo 74 = .ok (.goto (-38), 3) := by decide +kernel
theorem dX1_fewestMinutesOfTwo_77 : decode cX1_fewestMinutesOfTwo 77 = .ok (.aload_n 0, 1) := by decide +kernel
theorem dX1_fewestMinutesOfTwo_78 : decode cX1_fewestMinutesOfTwo 78 = .ok (.getfield 15, 3) := by decide +kernel
theorem dX1_fewestMinutesOfTwo_81 : decode cX1_fewestMinutesOfTwo 81 = .ok (.iload_n 2, 1) := by decide +kernel
theorem dX1_fewestMinutesOfTwo_82 : decode cX1_fewestMinutesOfTwo 82 = .ok (.iaload, 1) := by decide +kernel
theorem dX1_fewestMinutesOfTwo_83 : decode cX1_fewestMinutesOfTwo 83 = .ok (.iload_n 3, 1) := by decide +kernel
theorem dX1_fewestMinutesOfTwo_84 : decode cX1_fewestMinutesOfTwo 84 = .ok (.invokestatic 40, 3) := by decide +kernel
theorem dX1_fewestMinutesOfTwo_87 : decode cX1_fewestMinutesOfTwo 87 = .ok (.iconst 1, 1) := by decide +kernel
theorem dX1_fewestMinutesOfTwo_88 : decode cX1_fewestMinutesOfTwo 88 = .ok (.if_icmp .ne 8, 3) := by decide +kernel
theorem dX1_fewestMinutesOfTwo_91 : decode cX1_fewestMinutesOfTwo 91 = .ok (.bipush 20, 2) := by decide +kernel
theorem dX1_fewestMinutesOfTwo_93 : decode cX1_fewestMinutesOfTwo 93 = .ok (.goto 4, 3) := by decide +kernel
theorem dX1_fewestMinutesOfTwo_96 : decode cX1_fewestMinutesOfTwo 96 = .ok (.iconst (-1), 1) := by decide +kernel
theorem dX1_fewestMinutesOfTwo_97 : decode cX1_fewestMinutesOfTwo 97 = .ok (.ireturn, 1) := by decide +kernel
theorem dX1_goTogether_0 : decode cX1_goTogether 0 = .ok (.iconst 0, 1) := by decide +kernel
theorem dX1_goTogether_1 : decode cX1_goTogether 1 = .ok (.istore_n 1, 1) := by decide +kernel
theorem dX1_goTogether_2 : decode cX1_goTogether 2 = .ok (.iload_n 1, 1) := by decide +kernel
theorem dX1_goTogether_3 : decode cX1_goTogether 3 = .ok (.bipush 8, 2) := by decide +kernel
theorem dX1_goTogether_5 : decode cX1_goTogether 5 = .ok (.if_icmp .ge 69, 3) := by decide +kernel
theorem dX1_goTogether_8 : decode cX1_goTogether 8 = .ok (.iconst 0, 1) := by decide +kernel
theorem dX1_goTogether_9 : decode cX1_goTogether 9 = .ok (.istore_n 2, 1) := by decide +kernel
theorem dX1_goTogether_10 : decode cX1_goTogether 10 = .ok (.iconst 0, 1) := by decide +kernel
theorem dX1_goTogether_11 : decode cX1_goTogether 11 = .ok (.istore_n 3, 1) := by decide +kernel
theorem dX1_goTogether_12 : decode cX1_goTogether 12 = .ok (.iload_n 3, 1) := by decide +kernel
theorem dX1_goTogether_13 : decode cX1_goTogether 13 = .ok (.bipush 8, 2) := by decide +kernel
theorem dX1_goTogether_15 : decode cX1_goTogether 15 = .ok (.if_icmp .ge 32, 3) := by decide +kernel
theorem dX1_goTogether_18 : decode cX1_goTogether 18 = .ok (.aload_n 0, 1) := by decide +kernel
theorem dX1_goTogether_19 : decode cX1_goTogether 19 = .ok (.getfield 9, 3) := by decide +kernel
theorem dX1_goTogether_22 : decode cX1_goTogether 22 = .ok (.iload_n 3, 1) := by decide +kernel
theorem dX1_goTogether_23 : decode cX1_goTogether 23 = .ok (.iaload, 1) := by decide +kernel
theorem dX1_goTogether_24 : decode cX1_goTogether 24 = .ok (.iload_n 1, 1) := by decide +kernel
theorem dX1_goTogether_25 : decode cX1_goTogether 25 = .ok (.invokestatic 40, 3) := by decide +kernel
theorem dX1_goTogether_28 : decode cX1_goTogether 28 = .ok (.iconst 1, 1) := by decide +kernel
theorem dX1_goTogether_29 : decode cX1_goTogether 29 = .ok (.if_icmp .ne 12, 3) := by decide +kernel
theorem dX1_goTogether_32 : decode cX1_goTogether 32 = .ok (.iload_n 2, 1) := by decide +kernel
theorem dX1_goTogether_33 : decode cX1_goTogether 33 = .ok (.aload_n 0, 1) := by decide +kernel
theorem dX1_goTogether_34 : decode cX1_goTogether 34 = .ok (.iload_n 3, 1) := by decide +kernel
theorem dX1_goTogether_35 : decode cX1_goTogether 35 = .ok (.iload_n 1, 1) := by decide +kernel
theorem dX1_goTogether_36 : decode cX1_goTogether 36 = .ok (.invokevirtual 60, 3) := by decide +kernel
theorem dX1_goTogether_39 : decode cX1_goTogether 39 = .ok (.ior, 1) := by decide +kernel
theorem dX1_goTogether_40 : decode cX1_goTogether 40 = .ok (.istore_n 2, 1) := by decide +kernel
theorem dX1_goTogether_41 : decode cX1_goTogether 41 = .ok (.iinc 3 1, 3) := by decide +kernel
theorem dX1_goTogether_44 : decode cX1_goTogether 44 = .ok (.goto (-32), 3) := by decide +kernel
theorem dX1_goTogether_47 : decode cX1_goTogether 47 = .ok (.aload_n 0, 1) := by decide +kernel
theorem dX1_goTogether_48 : decode cX1_goTogether 48 = .ok (.getfield 18, 3) := by decide +kernel
theorem dX1_goTogether_51 : decode cX1_goTogether 51 = .ok (.iload_n 1, 1) := by decide +kernel
theorem dX1_goTogether_52 : decode cX1_goTogether 52 = .ok (.iload_n 1, 1) := by decide +kernel
theorem dX1_goTogether_53 : decode cX1_goTogether 53 = .ok (.ifCond .ne 7, 3) := by decide +kernel
theorem dX1_goTogether_56 : decode cX1_goTogether 56 = .ok (.iload_n 2, 1) := by decide +kernel
theorem dX1_goTogether_57 : decode cX1_goTogether 57 = .ok (.goto 10, 3) := by decide +kernel
theorem dX1_goTogether_60 : decode cX1_goTogether 60 = .ok (.iload_n 2, 1) := by decide +kernel
theorem dX1_goTogether_61 : decode cX1_goTogether 61 = .ok (.iconst 1, 1) := by decide +kernel
theorem dX1_goTogether_62 : decode cX1_goTogether 62 = .ok (.iload_n 1, 1) := by decide +kernel
theorem dX1_goTogether_63 : decode cX1_goTogether 63 = .ok (.ishl, 1) := by decide +kernel
theorem dX1_goTogether_64 : decode cX1_goTogether 64 = .ok (.iconst (-1), 1) := by decide +kernel
theorem dX1_goTogether_65 : decode cX1_goTogether 65 = .ok (.ixor, 1) := by decide +kernel
theorem dX1_goTogether_66 : decode cX1_goTogether 66 = .ok (.iand, 1) := by decide +kernel
theorem dX1_goTogether_67 : decode cX1_goTogether 67 = .ok (.iastore, 1) := by decide +kernel
theorem dX1_goTogether_68 : decode cX1_goTogether 68 = .ok (.iinc 1 1, 3) := by decide +kernel
theorem dX1_goTogether_71 : decode cX1_goTogether 71 = .ok (.goto (-69), 3) := by decide +kernel
theorem dX1_goTogether_74 : decode cX1_goTogether 74 = .ok (.aload_n 0, 1) := by decide +kernel
theorem dX1_goTogether_75 : decode cX1_goTogether 75 = .ok (.getfield 18, 3) := by decide +kernel
theorem dX1_goTogether_78 : decode cX1_goTogether 78 = .ok (.iconst 0, 1) := by decide +kernel
theorem dX1_goTogether_79 : decode cX1_goTogether 79 = .ok (.aload_n 0, 1) := by decide +kernel
theorem dX1_goTogether_80 : decode cX1_goTogether 80 = .ok (.getfield 15, 3) := by decide +kernel
theorem dX1_goTogether_83 : decode cX1_goTogether 83 = .ok (.iconst 0, 1) := by decide +kernel
theorem dX1_goTogether_84 : decode cX1_goTogether 84 = .ok (.bipush 8, 2) := by decide +kernel
theorem dX1_goTogether_86 : decode cX1_goTogether 86 = .ok (.invokestatic 63, 3) := by decide +kernel
theorem dX1_goTogether_89 : decode cX1_goTogether 89 = .ok (.return_, 1) := by decide +kernel
theorem dX1_secondGoes_0 : decode cX1_secondGoes 0 = .ok (.iconst 0, 1) := by decide +kernel
theorem dX1_secondGoes_1 : decode cX1_secondGoes 1 = .ok (.istore_n 3, 1) := by decide +kernel
theorem dX1_secondGoes_2 : decode cX1_secondGoes 2 = .ok (.iconst 0, 1) := by decide +kernel
theorem dX1_secondGoes_3 : decode cX1_secondGoes 3 = .ok (.istore 4, 2) := by decide +kernel
theorem dX1_secondGoes_5 : decode cX1_secondGoes 5 = .ok (.iload 4, 2) := by decide +kernel
theorem dX1_secondGoes_7 : decode cX1_secondGoes 7 = .ok (.bipush 8, 2) := by decide +kernel
theorem dX1_secondGoes_9 : decode cX1_secondGoes 9 = .ok (.if_icmp .ge 73, 3) := by decide +kernel
theorem dX1_secondGoes_12 : decode cX1_secondGoes 12 = .ok (.aload_n 0, 1) := by decide +kernel
theorem dX1_secondGoes_13 : decode cX1_secondGoes 13 = .ok (.getfield 15, 3) := by decide +kernel
theorem dX1_secondGoes_16 : decode cX1_secondGoes 16 = .ok (.iload_n 1, 1) := by decide +kernel
theorem dX1_secondGoes_17 : decode cX1_secondGoes 17 = .ok (.iaload, 1) := by decide +kernel
theorem dX1_secondGoes_18 : decode cX1_secondGoes 18 = .ok (.iload 4, 2) := by decide +kernel
theorem dX1_secondGoes_20 : decode cX1_secondGoes 20 = .ok (.invokestatic 40, 3) := by decide +kernel
theorem dX1_secondGoes_23 : decode cX1_secondGoes 23 = .ok (.iconst 1, 1) := by decide +kernel
theorem dX1_secondGoes_24 : decode cX1_secondGoes 24 = .ok (.if_icmp .ne 52, 3) := by decide +kernel
theorem dX1_secondGoes_27 : decode cX1_secondGoes 27 = .ok (.iload_n 1, 1) := by decide +kernel
theorem dX1_secondGoes_28 : decode cX1_secondGoes 28 = .ok (.iload_n 2, 1) := by decide +kernel
theorem dX1_secondGoes_29 : decode cX1_secondGoes 29 = .ok (.if_icmp .eq 13, 3) := by decide +kernel
theorem dX1_secondGoes_32 : decode cX1_secondGoes 32 = .ok (.iload 4, 2) := by decide +kernel
theorem dX1_secondGoes_34 : decode cX1_secondGoes 34 = .ok (.iload_n 2, 1) := by decide +kernel
theorem dX1_secondGoes_35 : decode cX1_secondGoes 35 = .ok (.if_icmp .ne 7, 3) := by decide +kernel
theorem dX1_secondGoes_38 : decode cX1_secondGoes 38 = .ok (.iconst 1, 1) := by decide +kernel
theorem dX1_secondGoes_39 : decode cX1_secondGoes 39 = .ok (.goto 4, 3) := by decide +kernel
theorem dX1_secondGoes_42 : decode cX1_secondGoes 42 = .ok (.iconst 0, 1) := by decide +kernel
theorem dX1_secondGoes_43 : decode cX1_secondGoes 43 = .ok (.istore 5, 2) := by decide +kernel
theorem dX1_secondGoes_45 : decode cX1_secondGoes 45 = .ok (.iload_n 3, 1) := by decide +kernel
theorem dX1_secondGoes_46 : decode cX1_secondGoes 46 = .ok (.iload 5, 2) := by decide +kernel
theorem dX1_secondGoes_48 : decode cX1_secondGoes 48 = .ok (.ifCond .eq 19, 3) := by decide +kernel
theorem dX1_secondGoes_51 : decode cX1_secondGoes 51 = .ok (.aload_n 0, 1) := by decide +kernel
theorem dX1_secondGoes_52 : decode cX1_secondGoes 52 = .ok (.getfield 9, 3) := by decide +kernel
theorem dX1_secondGoes_55 : decode cX1_secondGoes 55 = .ok (.iload 4, 2) := by decide +kernel
theorem dX1_secondGoes_57 : decode cX1_secondGoes 57 = .ok (.iaload, 1) := by decide +kernel
theorem dX1_secondGoes_58 : decode cX1_secondGoes 58 = .ok (.iconst 1, 1) := by decide +kernel
theorem dX1_secondGoes_59 : decode cX1_secondGoes 59 = .ok (.iload_n 1, 1) := by decide +kernel
theorem dX1_secondGoes_60 : decode cX1_secondGoes 60 = .ok (.ishl, 1) := by decide +kernel
theorem dX1_secondGoes_61 : decode cX1_secondGoes 61 = .ok (.iconst (-1), 1) := by decide +kernel
theorem dX1_secondGoes_62 : decode cX1_secondGoes 62 = .ok (.ixor, 1) := by decide +kernel
theorem dX1_secondGoes_63 : decode cX1_secondGoes 63 = .ok (.iand, 1) := by decide +kernel
theorem dX1_secondGoes_64 : decode cX1_secondGoes 64 = .ok (.goto 10, 3) := by decide +kernel
theorem dX1_secondGoes_67 : decode cX1_secondGoes 67 = .ok (.aload_n 0, 1) := by decide +kernel
theorem dX1_secondGoes_68 : decode cX1_secondGoes 68 = .ok (.getfield 9, 3) := by decide +kernel
theorem dX1_secondGoes_71 : decode cX1_secondGoes 71 = .ok (.iload 4, 2) := by decide +kernel
theorem dX1_secondGoes_73 : decode cX1_secondGoes 73 = .ok (.iaload, 1) := by decide +kernel
theorem dX1_secondGoes_74 : decode cX1_secondGoes 74 = .ok (.ior, 1) := by decide +kernel
theorem dX1_secondGoes_75 : decode cX1_secondGoes 75 = .ok (.istore_n 3, 1) := by decide +kernel
theorem dX1_secondGoes_76 : decode cX1_secondGoes 76 = .ok (.iinc 4 1, 3) := by decide +kernel
theorem dX1_secondGoes_79 : decode cX1_secondGoes 79 = .ok (.goto (-74), 3) := by decide +kernel
theorem dX1_secondGoes_82 : decode cX1_secondGoes 82 = .ok (.iload_n 3, 1) := by decide +kernel
theorem dX1_secondGoes_83 : decode cX1_secondGoes 83 = .ok (.ireturn, 1) := by decide +kernel
theorem dX2_init_0 : decode cX2_init 0 = .ok (.aload_n 0, 1) := by decide +kernel
theorem dX2_init_1 : decode cX2_init 1 = .ok (.invokespecial 3, 3) := by decide +kernel
theorem dX2_init_4 : decode cX2_init 4 = .ok (.aload_n 0, 1) := by decide +kernel
theorem dX2_init_5 : decode cX2_init 5 = .ok (.bipush 6, 2) := by decide +kernel
theorem dX2_init_7 : decode cX2_init 7 = .ok (.anewarray 9, 3) := by decide +kernel
theorem dX2_init_10 : decode cX2_init 10 = .ok (.dup, 1) := by decide +kernel
theorem dX2_init_11 : decode cX2_init 11 = .ok (.iconst 0, 1) := by decide +kernel
theorem dX2_init_12 : decode cX2_init 12 = .ok (.new 9, 3) := by decide +kernel
theorem dX2_init_15 : decode cX2_init 15 = .ok (.dup, 1) := by decide +kernel
theorem dX2_init_16 : decode cX2_init 16 = .ok (.invokespecial 11, 3) := by decide +kernel
theorem dX2_init_19 : decode cX2_init 19 = .ok (.aastore, 1) := by decide +kernel
theorem dX2_init_20 : decode cX2_init 20 = .ok (.dup, 1) := by decide +kernel
theorem dX2_init_21 : decode cX2_init 21 = .ok (.iconst 1, 1) := by decide +kernel
theorem dX2_init_22 : decode cX2_init 22 = .ok (.new 12, 3) := by decide +kernel
theorem dX2_init_25 : decode cX2_init 25 = .ok (.dup, 1) := by decide +kernel
theorem dX2_init_26 : decode cX2_init 26 = .ok (.invokespecial 14, 3) := by decide +kernel
theorem dX2_init_29 : decode cX2_init 29 = .ok (.aastore, 1) := by decide +kernel
theorem dX2_init_30 : decode cX2_init 30 = .ok (.dup, 1) := by decide +kernel
theorem dX2_init_31 : decode cX2_init 31 = .ok (.iconst 2, 1) := by decide +kernel
theorem dX2_init_32 : decode cX2_init 32 = .ok (.new 15, 3) := by decide +kernel
theorem dX2_init_35 : decode cX2_init 35 = .ok (.dup, 1) := by decide +kernel
theorem dX2_init_36 : decode cX2_init 36 = .ok (.invokespecial 17, 3) := by decide +kernel
theorem dX2_init_39 : decode cX2_init 39 = .ok (.aastore, 1) := by decide +kernel
theorem dX2_init_40 : decode cX2_init 40 = .ok (.dup, 1) := by decide +kernel
theorem dX2_init_41 : decode cX2_init 41 = .ok (.iconst 3, 1) := by decide +kernel
theorem dX2_init_42 : decode cX2_init 42 = .ok (.new 18, 3) := by decide +kernel
theorem dX2_init_45 : decode cX2_init 45 = .ok (.dup, 1) := by decide +kernel
theorem dX2_init_46 : decode cX2_init 46 = .ok (.invokespecial 20, 3) := by decide +kernel
theorem dX2_init_49 : decode cX2_init 49 = .ok (.aastore, 1) := by decide +kernel
theorem dX2_init_50 : decode cX2_init 50 = .ok (.dup, 1) := by decide +kernel
theorem dX2_init_51 : decode cX2_init 51 = .ok (.iconst 4, 1) := by decide +kernel
theorem dX2_init_52 : decode cX2_init 52 = .ok (.new 21, 3) := by decide +kernel
theorem dX2_init_55 : decode cX2_init 55 = .ok (.dup, 1) := by decide +kernel
theorem dX2_init_56 : decode cX2_init 56 = .ok (.invokespecial 23, 3) := by decide +kernel
theorem dX2_init_59 : decode cX2_init 59 = .ok (.aastore, 1) := by decide +kernel
theorem dX2_init_60 : decode cX2_init 60 = .ok (.dup, 1) := by decide +kernel
theorem dX2_init_61 : decode cX2_init 61 = .ok (.iconst 5, 1) := by decide +kernel
theorem dX2_init_62 : decode cX2_init 62 = .ok (.new 24, 3) := by decide +kernel
theorem dX2_init_65 : decode cX2_init 65 = .ok (.dup, 1) := by decide +kernel
theorem dX2_init_66 : decode cX2_init 66 = .ok (.invokespecial 26, 3) := by decide +kernel
theorem dX2_init_69 : decode cX2_init 69 = .ok (.aastore, 1) := by decide +kernel
theorem dX2_init_70 : decode cX2_init 70 = .ok (.putfield 27, 3) := by decide +kernel
theorem dX2_init_73 : decode cX2_init 73 = .ok (.aload_n 0, 1) := by decide +kernel
theorem dX2_init_74 : decode cX2_init 74 = .ok (.bipush 64, 2) := by decide +kernel
theorem dX2_init_76 : decode cX2_init 76 = .ok (.newarray .int, 2) := by decide +kernel
theorem dX2_init_78 : decode cX2_init 78 = .ok (.putfield 33, 3) := by decide +kernel
theorem dX2_init_81 : decode cX2_init 81 = .ok (.aload_n 0, 1) := by decide +kernel
theorem dX2_init_82 : decode cX2_init 82 = .ok (.bipush 64, 2) := by decide +kernel
theorem dX2_init_84 : decode cX2_init 84 = .ok (.newarray .int, 2) := by decide +kernel
theorem dX2_init_86 : decode cX2_init 86 = .ok (.putfield 37, 3) := by decide +kernel
theorem dX2_init_89 : decode cX2_init 89 = .ok (.aload_n 0, 1) := by decide +kernel
theorem dX2_init_90 : decode cX2_init 90 = .ok (.iconst 5, 1) := by decide +kernel
theorem dX2_init_91 : decode cX2_init 91 = .ok (.newarray .int, 2) := by decide +kernel
theorem dX2_init_93 : decode cX2_init 93 = .ok (.putfield 40, 3) := by decide +kernel
theorem dX2_init_96 : decode cX2_init 96 = .ok (.aload_n 0, 1) := by decide +kernel
theorem dX2_init_97 : decode cX2_init 97 = .ok (.iconst 5, 1) := by decide +kernel
theorem dX2_init_98 : decode cX2_init 98 = .ok (.newarray .int, 2) := by decide +kernel
theorem dX2_init_100 : decode cX2_init 100 = .ok (.putfield 43, 3) := by decide +kernel
theorem dX2_init_103 : decode cX2_init 103 = .ok (.aload_n 0, 1) := by decide +kernel
theorem dX2_init_104 : decode cX2_init 104 = .ok (.iconst 5, 1) := by decide +kernel
theorem dX2_init_105 : decode cX2_init 105 = .ok (.newarray .int, 2) := by decide +kernel
theorem dX2_init_107 : decode cX2_init 107 = .ok (.putfield 46, 3) := by decide +kernel
theorem dX2_init_110 : decode cX2_init 110 = .ok (.aload_n 0, 1) := by decide +kernel
theorem dX2_init_111 : decode cX2_init 111 = .ok (.iconst 5, 1) := by decide +kernel
theorem dX2_init_112 : decode cX2_init 112 = .ok (.newarray .int, 2) := by decide +kernel
theorem dX2_init_114 : decode cX2_init 114 = .ok (.putfield 49, 3) := by decide +kernel
theorem dX2_init_117 : decode cX2_init 117 = .ok (.aload_n 0, 1) := by decide +kernel
theorem dX2_init_118 : decode cX2_init 118 = .ok (.iconst 5, 1) := by decide +kernel
theorem dX2_init_119 : decode cX2_init 119 = .ok (.newarray .int, 2) := by decide +kernel
theorem dX2_init_121 : decode cX2_init 121 = .ok (.putfield 52, 3) := by decide +kernel
theorem dX2_init_124 : decode cX2_init 124 = .ok (.aload_n 0, 1) := by decide +kernel
theorem dX2_init_125 : decode cX2_init 125 = .ok (.bipush 20, 2) := by decide +kernel
theorem dX2_init_127 : decode cX2_init 127 = .ok (.newarray .int, 2) := by decide +kernel
theorem dX2_init_129 : decode cX2_init 129 = .ok (.putfield 55, 3) := by decide +kernel
theorem dX2_init_132 : decode cX2_init 132 = .ok (.aload_n 0, 1) := by decide +kernel
theorem dX2_init_133 : decode cX2_init 133 = .ok (.invokevirtual 58, 3) := by decide +kernel
theorem dX2_init_136 : decode cX2_init 136 = .ok (.return_, 1) := by decide +kernel
theorem dX2_empty_0 : decode cX2_empty 0 = .ok (.aload_n 0, 1) := by decide +kernel
theorem dX2_empty_1 : decode cX2_empty 1 = .ok (.iconst 0, 1) := by decide +kernel
theorem dX2_empty_2 : decode cX2_empty 2 = .ok (.putfield 61, 3) := by decide +kernel
theorem dX2_empty_5 : decode cX2_empty 5 = .ok (.aload_n 0, 1) := by decide +kernel
theorem dX2_empty_6 : decode cX2_empty 6 = .ok (.iconst 0, 1) := by decide +kernel
theorem dX2_empty_7 : decode cX2_empty 7 = .ok (.putfield 65, 3) := by decide +kernel
theorem dX2_empty_10 : decode cX2_empty 10 = .ok (.iconst 0, 1) := by decide +kernel
theorem dX2_empty_11 : decode cX2_empty 11 = .ok (.istore_n 1, 1) := by decide +kernel
theorem dX2_empty_12 : decode cX2_empty 12 = .ok (.iload_n 1, 1) := by decide +kernel
theorem dX2_empty_13 : decode cX2_empty 13 = .ok (.bipush 64, 2) := by decide +kernel
theorem dX2_empty_15 : decode cX2_empty 15 = .ok (.if_icmp .ge 16, 3) := by decide +kernel
theorem dX2_empty_18 : decode cX2_empty 18 = .ok (.aload_n 0, 1) := by decide +kernel
theorem dX2_empty_19 : decode cX2_empty 19 = .ok (.getfield 33, 3) := by decide +kernel
theorem dX2_empty_22 : decode cX2_empty 22 = .ok (.iload_n 1, 1) := by decide +kernel
theorem dX2_empty_23 : decode cX2_empty 23 = .ok (.iconst (-1), 1) := by decide +kernel
theorem dX2_empty_24 : decode cX2_empty 24 = .ok (.iastore, 1) := by decide +kernel
theorem dX2_empty_25 : decode cX2_empty 25 = .ok (.iinc 1 1, 3) := by decide +kernel
theorem dX2_empty_28 : decode cX2_empty 28 = .ok (.goto (-16), 3) := by decide +kernel
theorem dX2_empty_31 : decode cX2_empty 31 = .ok (.aload_n 0, 1) := by decide +kernel
theorem dX2_empty_32 : decode cX2_empty 32 = .ok (.invokevirtual 68, 3) := by decide +kernel
theorem dX2_empty_35 : decode cX2_empty 35 = .ok (.return_, 1) := by decide +kernel
theorem dX2_copyFrom_0 : decode cX2_copyFrom 0 = .ok (.aload_n 1, 1) := by decide +kernel
theorem dX2_copyFrom_1 : decode cX2_copyFrom 1 = .ok (.getfield 33, 3) := by decide +kernel
theorem dX2_copyFrom_4 : decode cX2_copyFrom 4 = .ok (.iconst 0, 1) := by decide +kernel
theorem dX2_copyFrom_5 : decode cX2_copyFrom 5 = .ok (.aload_n 0, 1) := by decide +kernel
theorem dX2_copyFrom_6 : decode cX2_copyFrom 6 = .ok (.getfield 33, 3) := by decide +kernel
theorem dX2_copyFrom_9 : decode cX2_copyFrom 9 = .ok (.iconst 0, 1) := by decide +kernel
theorem dX2_copyFrom_10 : decode cX2_copyFrom 10 = .ok (.bipush 64, 2) := by decide +kernel
theorem dX2_copyFrom_12 : decode cX2_copyFrom 12 = .ok (.invokestatic 71, 3) := by decide +kernel
theorem dX2_copyFrom_15 : decode cX2_copyFrom 15 = .ok (.aload_n 1, 1) := by decide +kernel
theorem dX2_copyFrom_16 : decode cX2_copyFrom 16 = .ok (.getfield 37, 3) := by decide +kernel
theorem dX2_copyFrom_19 : decode cX2_copyFrom 19 = .ok (.iconst 0, 1) := by decide +kernel
theorem dX2_copyFrom_20 : decode cX2_copyFrom 20 = .ok (.aload_n 0, 1) := by decide +kernel
theorem dX2_copyFrom_21 : decode cX2_copyFrom 21 = .ok (.getfield 37, 3) := by decide +kernel
theorem dX2_copyFrom_24 : decode cX2_copyFrom 24 = .ok (.iconst 0, 1) := by decide +kernel
theorem dX2_copyFrom_25 : decode cX2_copyFrom 25 = .ok (.bipush 64, 2) := by decide +kernel
theorem dX2_copyFrom_27 : decode cX2_copyFrom 27 = .ok (.invokestatic 71, 3) := by decide +kernel
theorem dX2_copyFrom_30 : decode cX2_copyFrom 30 = .ok (.aload_n 1, 1) := by decide +kernel
theorem dX2_copyFrom_31 : decode cX2_copyFrom 31 = .ok (.getfield 40, 3) := by decide +kernel
theorem dX2_copyFrom_34 : decode cX2_copyFrom 34 = .ok (.iconst 0, 1) := by decide +kernel
theorem dX2_copyFrom_35 : decode cX2_copyFrom 35 = .ok (.aload_n 0, 1) := by decide +kernel
theorem dX2_copyFrom_36 : decode cX2_copyFrom 36 = .ok (.getfield 40, 3) := by decide +kernel
theorem dX2_copyFrom_39 : decode cX2_copyFrom 39 = .ok (.iconst 0, 1) := by decide +kernel
theorem dX2_copyFrom_40 : decode cX2_copyFrom 40 = .ok (.iconst 5, 1) := by decide +kernel
theorem dX2_copyFrom_41 : decode cX2_copyFrom 41 = .ok (.invokestatic 71, 3) := by decide +kernel
theorem dX2_copyFrom_44 : decode cX2_copyFrom 44 = .ok (.aload_n 1, 1) := by decide +kernel
theorem dX2_copyFrom_45 : decode cX2_copyFrom 45 = .ok (.getfield 43, 3) := by decide +kernel
theorem dX2_copyFrom_48 : decode cX2_copyFrom 48 = .ok (.iconst 0, 1) := by decide +kernel
theorem dX2_copyFrom_49 : decode cX2_copyFrom 49 = .ok (.aload_n 0, 1) := by decide +kernel
theorem dX2_copyFrom_50 : decode cX2_copyFrom 50 = .ok (.getfield 43, 3) := by decide +kernel
theorem dX2_copyFrom_53 : decode cX2_copyFrom 53 = .ok (.iconst 0, 1) := by decide +kernel
theorem dX2_copyFrom_54 : decode cX2_copyFrom 54 = .ok (.iconst 5, 1) := by decide +kernel
theorem dX2_copyFrom_55 : decode cX2_copyFrom 55 = .ok (.invokestatic 71, 3) := by decide +kernel
theorem dX2_copyFrom_58 : decode cX2_copyFrom 58 = .ok (.aload_n 1, 1) := by decide +kernel
theorem dX2_copyFrom_59 : decode cX2_copyFrom 59 = .ok (.getfield 46, 3) := by decide +kernel
theorem dX2_copyFrom_62 : decode cX2_copyFrom 62 = .ok (.iconst 0, 1) := by decide +kernel
theorem dX2_copyFrom_63 : decode cX2_copyFrom 63 = .ok (.aload_n 0, 1) := by decide +kernel
theorem dX2_copyFrom_64 : decode cX2_copyFrom 64 = .ok (.getfield 46, 3) := by decide +kernel
theorem dX2_copyFrom_67 : decode cX2_copyFrom 67 = .ok (.iconst 0, 1) := by decide +kernel
theorem dX2_copyFrom_68 : decode cX2_copyFrom 68 = .ok (.iconst 5, 1) := by decide +kernel
theorem dX2_copyFrom_69 : decode cX2_copyFrom 69 = .ok (.invokestatic 71, 3) := by decide +kernel
theorem dX2_copyFrom_72 : decode cX2_copyFrom 72 = .ok (.aload_n 1, 1) := by decide +kernel
theorem dX2_copyFrom_73 : decode cX2_copyFrom 73 = .ok (.getfield 49, 3) := by decide +kernel
theorem dX2_copyFrom_76 : decode cX2_copyFrom 76 = .ok (.iconst 0, 1) := by decide +kernel
theorem dX2_copyFrom_77 : decode cX2_copyFrom 77 = .ok (.aload_n 0, 1) := by decide +kernel
theorem dX2_copyFrom_78 : decode cX2_copyFrom 78 = .ok (.getfield 49, 3) := by decide +kernel
theorem dX2_copyFrom_81 : decode cX2_copyFrom 81 = .ok (.iconst 0, 1) := by decide +kernel
theorem dX2_copyFrom_82 : decode cX2_copyFrom 82 = .ok (.iconst 5, 1) := by decide +kernel
theorem dX2_copyFrom_83 : decode cX2_copyFrom 83 = .ok (.invokestatic 71, 3) := by decide +kernel
theorem dX2_copyFrom_86 : decode cX2_copyFrom 86 = .ok (.aload_n 1, 1) := by decide +kernel
theorem dX2_copyFrom_87 : decode cX2_copyFrom 87 = .ok (.getfield 52, 3) := by decide +kernel
theorem dX2_copyFrom_90 : decode cX2_copyFrom 90 = .ok (.iconst 0, 1) := by decide +kernel
theorem dX2_copyFrom_91 : decode cX2_copyFrom 91 = .ok (.aload_n 0, 1) := by decide +kernel
theorem dX2_copyFrom_92 : decode cX2_copyFrom 92 = .ok (.getfield 52, 3) := by decide +kernel
theorem dX2_copyFrom_95 : decode cX2_copyFrom 95 = .ok (.iconst 0, 1) := by decide +kernel
theorem dX2_copyFrom_96 : decode cX2_copyFrom 96 = .ok (.iconst 5, 1) := by decide +kernel
theorem dX2_copyFrom_97 : decode cX2_copyFrom 97 = .ok (.invokestatic 71, 3) := by decide +kernel
theorem dX2_copyFrom_100 : decode cX2_copyFrom 100 = .ok (.aload_n 1, 1) := by decide +kernel
theorem dX2_copyFrom_101 : decode cX2_copyFrom 101 = .ok (.getfield 55, 3) := by decide +kernel
theorem dX2_copyFrom_104 : decode cX2_copyFrom 104 = .ok (.iconst 0, 1) := by decide +kernel
theorem dX2_copyFrom_105 : decode cX2_copyFrom 105 = .ok (.aload_n 0, 1) := by decide +kernel
theorem dX2_copyFrom_106 : decode cX2_copyFrom 106 = .ok (.getfield 55, 3) := by decide +kernel
theorem dX2_copyFrom_109 : decode cX2_copyFrom 109 = .ok (.iconst 0, 1) := by decide +kernel
theorem dX2_copyFrom_110 : decode cX2_copyFrom 110 = .ok (.bipush 20, 2) := by decide +kernel
theorem dX2_copyFrom_112 : decode cX2_copyFrom 112 = .ok (.invokestatic 71, 3) := by decide +kernel
theorem dX2_copyFrom_115 : decode cX2_copyFrom 115 = .ok (.aload_n 0, 1) := by decide +kernel
theorem dX2_copyFrom_116 : decode cX2_copyFrom 116 = .ok (.aload_n 1, 1) := by decide +kernel
theorem dX2_copyFrom_117 : decode cX2_copyFrom 117 = .ok (.getfield 61, 3) := by decide +kernel
theorem dX2_copyFrom_120 : decode cX2_copyFrom 120 = .ok (.putfield 61, 3) := by decide +kernel
theorem dX2_copyFrom_123 : decode cX2_copyFrom 123 = .ok (.aload_n 0, 1) := by decide +kernel
theorem dX2_copyFrom_124 : decode cX2_copyFrom 124 = .ok (.aload_n 1, 1) := by decide +kernel
theorem dX2_copyFrom_125 : decode cX2_copyFrom 125 = .ok (.getfield 65, 3) := by decide +kernel
theorem dX2_copyFrom_128 : decode cX2_copyFrom 128 = .ok (.putfield 65, 3) := by decide +kernel
theorem dX2_copyFrom_131 : decode cX2_copyFrom 131 = .ok (.return_, 1) := by decide +kernel
theorem dX2_addStair_0 : decode cX2_addStair 0 = .ok (.aload_n 0, 1) := by decide +kernel
theorem dX2_addStair_1 : decode cX2_addStair 1 = .ok (.getfield 33, 3) := by decide +kernel
theorem dX2_addStair_4 : decode cX2_addStair 4 = .ok (.iload_n 1, 1) := by decide +kernel
theorem dX2_addStair_5 : decode cX2_addStair 5 = .ok (.iload_n 2, 1) := by decide +kernel
theorem dX2_addStair_6 : decode cX2_addStair 6 = .ok (.invokestatic 77, 3) := by decide +kernel
theorem dX2_addStair_9 : decode cX2_addStair 9 = .ok (.iaload, 1) := by decide +kernel
theorem dX2_addStair_10 : decode cX2_addStair 10 = .ok (.istore 4, 2) := by decide +kernel
theorem dX2_addStair_12 : decode cX2_addStair 12 = .ok (.aload_n 0, 1) := by decide +kernel
theorem dX2_addStair_13 : decode cX2_addStair 13 = .ok (.getfield 33, 3) := by decide +kernel
theorem dX2_addStair_16 : decode cX2_addStair 16 = .ok (.iload_n 1, 1) := by decide +kernel
theorem dX2_addStair_17 : decode cX2_addStair 17 = .ok (.iload_n 2, 1) := by decide +kernel
theorem dX2_addStair_18 : decode cX2_addStair 18 = .ok (.invokestatic 77, 3) := by decide +kernel
theorem dX2_addStair_21 : decode cX2_addStair 21 = .ok (.iload_n 3, 1) := by decide +kernel
theorem dX2_addStair_22 : decode cX2_addStair 22 = .ok (.iastore, 1) := by decide +kernel
theorem dX2_addStair_23 : decode cX2_addStair 23 = .ok (.aload_n 0, 1) := by decide +kernel
theorem dX2_addStair_24 : decode cX2_addStair 24 = .ok (.getfield 33, 3) := by decide +kernel
theorem dX2_addStair_27 : decode cX2_addStair 27 = .ok (.iload_n 2, 1) := by decide +kernel
theorem dX2_addStair_28 : decode cX2_addStair 28 = .ok (.iload_n 1, 1) := by decide +kernel
theorem dX2_addStair_29 : decode cX2_addStair 29 = .ok (.invokestatic 77, 3) := by decide +kernel
theorem dX2_addStair_32 : decode cX2_addStair 32 = .ok (.iload_n 3, 1) := by decide +kernel
theorem dX2_addStair_33 : decode cX2_addStair 33 = .ok (.iastore, 1) := by decide +kernel
theorem dX2_addStair_34 : decode cX2_addStair 34 = .ok (.iload 4, 2) := by decide +kernel
theorem dX2_addStair_36 : decode cX2_addStair 36 = .ok (.iconst (-1), 1) := by decide +kernel
theorem dX2_addStair_37 : decode cX2_addStair 37 = .ok (.if_icmp .ne 7, 3) := by decide +kernel
theorem dX2_addStair_40 : decode cX2_addStair 40 = .ok (.aload_n 0, 1) := by decide +kernel
theorem dX2_addStair_41 : decode cX2_addStair 41 = .ok (.invokevirtual 68, 3) := by decide +kernel
theorem dX2_addStair_44 : decode cX2_addStair 44 = .ok (.iload 4, 2) := by decide +kernel
theorem dX2_addStair_46 : decode cX2_addStair 46 = .ok (.ireturn, 1) := by decide +kernel
theorem dX2_addSleeper_0 : decode cX2_addSleeper 0 = .ok (.aload_n 0, 1) := by decide +kernel
theorem dX2_addSleeper_1 : decode cX2_addSleeper 1 = .ok (.getfield 40, 3) := by decide +kernel
theorem dX2_addSleeper_4 : decode cX2_addSleeper 4 = .ok (.aload_n 0, 1) := by decide +kernel
theorem dX2_addSleeper_5 : decode cX2_addSleeper 5 = .ok (.getfield 61, 3) := by decide +kernel
theorem dX2_addSleeper_8 : decode cX2_addSleeper 8 = .ok (.iload_n 1, 1) := by decide +kernel
theorem dX2_addSleeper_9 : decode cX2_addSleeper 9 = .ok (.iastore, 1) := by decide +kernel
theorem dX2_addSleeper_10 : decode cX2_addSleeper 10 = .ok (.aload_n 0, 1) := by decide +kernel
theorem dX2_addSleeper_11 : decode cX2_addSleeper 11 = .ok (.getfield 43, 3) := by decide +kernel
theorem dX2_addSleeper_14 : decode cX2_addSleeper 14 = .ok (.aload_n 0, 1) := by decide +kernel
theorem dX2_addSleeper_15 : decode cX2_addSleeper 15 = .ok (.getfield 61, 3) := by decide +kernel
theorem dX2_addSleeper_18 : decode cX2_addSleeper 18 = .ok (.iload_n 2, 1) := by decide +kernel
theorem dX2_addSleeper_19 : decode cX2_addSleeper 19 = .ok (.iastore, 1) := by decide +kernel
theorem dX2_addSleeper_20 : decode cX2_addSleeper 20 = .ok (.aload_n 0, 1) := by decide +kernel
theorem dX2_addSleeper_21 : decode cX2_addSleeper 21 = .ok (.getfield 46, 3) := by decide +kernel
theorem dX2_addSleeper_24 : decode cX2_addSleeper 24 = .ok (.aload_n 0, 1) := by decide +kernel
theorem dX2_addSleeper_25 : decode cX2_addSleeper 25 = .ok (.getfield 61, 3) := by decide +kernel
theorem dX2_addSleeper_28 : decode cX2_addSleeper 28 = .ok (.iload_n 3, 1) := by decide +kernel
theorem dX2_addSleeper_29 : decode cX2_addSleeper 29 = .ok (.iastore, 1) := by decide +kernel
theorem dX2_addSleeper_30 : decode cX2_addSleeper 30 = .ok (.aload_n 0, 1) := by decide +kernel
theorem dX2_addSleeper_31 : decode cX2_addSleeper 31 = .ok (.dup, 1) := by decide +kernel
theorem dX2_addSleeper_32 : decode cX2_addSleeper 32 = .ok (.getfield 61, 3) := by decide +kernel
theorem dX2_addSleeper_35 : decode cX2_addSleeper 35 = .ok (.iconst 1, 1) := by decide +kernel
theorem dX2_addSleeper_36 : decode cX2_addSleeper 36 = .ok (.iadd, 1) := by decide +kernel
theorem dX2_addSleeper_37 : decode cX2_addSleeper 37 = .ok (.putfield 61, 3) := by decide +kernel
theorem dX2_addSleeper_40 : decode cX2_addSleeper 40 = .ok (.aload_n 0, 1) := by decide +kernel
theorem dX2_addSleeper_41 : decode cX2_addSleeper 41 = .ok (.getfield 61, 3) := by decide +kernel
theorem dX2_addSleeper_44 : decode cX2_addSleeper 44 = .ok (.iconst 1, 1) := by decide +kernel
theorem dX2_addSleeper_45 : decode cX2_addSleeper 45 = .ok (.isub, 1) := by decide +kernel
theorem dX2_addSleeper_46 : decode cX2_addSleeper 46 = .ok (.ireturn, 1) := by decide +kernel
theorem dX2_addThing_0 : decode cX2_addThing 0 = .ok (.aload_n 0, 1) := by decide +kernel
theorem dX2_addThing_1 : decode cX2_addThing 1 = .ok (.getfield 49, 3) := by decide +kernel
theorem dX2_addThing_4 : decode cX2_addThing 4 = .ok (.aload_n 0, 1) := by decide +kernel
theorem dX2_addThing_5 : decode cX2_addThing 5 = .ok (.getfield 65, 3) := by decide +kernel
theorem dX2_addThing_8 : decode cX2_addThing 8 = .ok (.iload_n 1, 1) := by decide +kernel
theorem dX2_addThing_9 : decode cX2_addThing 9 = .ok (.iastore, 1) := by decide +kernel
theorem dX2_addThing_10 : decode cX2_addThing 10 = .ok (.aload_n 0, 1) := by decide +kernel
theorem dX2_addThing_11 : decode cX2_addThing 11 = .ok (.getfield 52, 3) := by decide +kernel
theorem dX2_addThing_14 : decode cX2_addThing 14 = .ok (.aload_n 0, 1) := by decide +kernel
theorem dX2_addThing_15 : decode cX2_addThing 15 = .ok (.getfield 65, 3) := by decide +kernel
theorem dX2_addThing_18 : decode cX2_addThing 18 = .ok (.iconst 0, 1) := by decide +kernel
theorem dX2_addThing_19 : decode cX2_addThing 19 = .ok (.iastore, 1) := by decide +kernel
theorem dX2_addThing_20 : decode cX2_addThing 20 = .ok (.aload_n 0, 1) := by decide +kernel
theorem dX2_addThing_21 : decode cX2_addThing 21 = .ok (.dup, 1) := by decide +kernel
theorem dX2_addThing_22 : decode cX2_addThing 22 = .ok (.getfield 65, 3) := by decide +kernel
theorem dX2_addThing_25 : decode cX2_addThing 25 = .ok (.iconst 1, 1) := by decide +kernel
theorem dX2_addThing_26 : decode cX2_addThing 26 = .ok (.iadd, 1) := by decide +kernel
theorem dX2_addThing_27 : decode cX2_addThing 27 = .ok (.putfield 65, 3) := by decide +kernel
theorem dX2_addThing_30 : decode cX2_addThing 30 = .ok (.aload_n 0, 1) := by decide +kernel
theorem dX2_addThing_31 : decode cX2_addThing 31 = .ok (.getfield 65, 3) := by decide +kernel
theorem dX2_addThing_34 : decode cX2_addThing 34 = .ok (.iconst 1, 1) := by decide +kernel
theorem dX2_addThing_35 : decode cX2_addThing 35 = .ok (.isub, 1) := by decide +kernel
theorem dX2_addThing_36 : decode cX2_addThing 36 = .ok (.ireturn, 1) := by decide +kernel
theorem dX2_addOwner_0 : decode cX2_addOwner 0 = .ok (.aload_n 0, 1) := by decide +kernel
theorem dX2_addOwner_1 : decode cX2_addOwner 1 = .ok (.getfield 55, 3) := by decide +kernel
theorem dX2_addOwner_4 : decode cX2_addOwner 4 = .ok (.iload_n 1, 1) := by decide +kernel
theorem dX2_addOwner_5 : decode cX2_addOwner 5 = .ok (.iconst 4, 1) := by decide +kernel
theorem dX2_addOwner_6 : decode cX2_addOwner 6 = .ok (.imul, 1) := by decide +kernel
theorem dX2_addOwner_7 : decode cX2_addOwner 7 = .ok (.aload_n 0, 1) := by decide +kernel
theorem dX2_addOwner_8 : decode cX2_addOwner 8 = .ok (.getfield 52, 3) := by decide +kernel
theorem dX2_addOwner_11 : decode cX2_addOwner 11 = .ok (.iload_n 1, 1) := by decide +kernel
theorem dX2_addOwner_12 : decode cX2_addOwner 12 = .ok (.iaload, 1) := by decide +kernel
theorem dX2_addOwner_13 : decode cX2_addOwner 13 = .ok (.iadd, 1) := by decide +kernel
theorem dX2_addOwner_14 : decode cX2_addOwner 14 = .ok (.iload_n 2, 1) := by decide +kernel
theorem dX2_addOwner_15 : decode cX2_addOwner 15 = .ok (.iastore, 1) := by decide +kernel
theorem dX2_addOwner_16 : decode cX2_addOwner 16 = .ok (.aload_n 0, 1) := by decide +kernel
theorem dX2_addOwner_17 : decode cX2_addOwner 17 = .ok (.getfield 52, 3) := by decide +kernel
theorem dX2_addOwner_20 : decode cX2_addOwner 20 = .ok (.iload_n 1, 1) := by decide +kernel
theorem dX2_addOwner_21 : decode cX2_addOwner 21 = .ok (.dup2, 1) := by decide +kernel
theorem dX2_addOwner_22 : decode cX2_addOwner 22 = .ok (.iaload, 1) := by decide +kernel
theorem dX2_addOwner_23 : decode cX2_addOwner 23 = .ok (.iconst 1, 1) := by decide +kernel
theorem dX2_addOwner_24 : decode cX2_addOwner 24 = .ok (.iadd, 1) := by decide +kernel
theorem dX2_addOwner_25 : decode cX2_addOwner 25 = .ok (.iastore, 1) := by decide +kernel
theorem dX2_addOwner_26 : decode cX2_addOwner 26 = .ok (.aload_n 0, 1) := by decide +kernel
theorem dX2_addOwner_27 : decode cX2_addOwner 27 = .ok (.getfield 52, 3) := by decide +kernel
theorem dX2_addOwner_30 : decode cX2_addOwner 30 = .ok (.iload_n 1, 1) := by decide +kernel
theorem dX2_addOwner_31 : decode cX2_addOwner 31 = .ok (.iaload, 1) := by decide +kernel
theorem dX2_addOwner_32 : decode cX2_addOwner 32 = .ok (.ireturn, 1) := by decide +kernel
theorem dX2_lastOwner_0 : decode cX2_lastOwner 0 = .ok (.aload_n 0, 1) := by decide +kernel
theorem dX2_lastOwner_1 : decode cX2_lastOwner 1 = .ok (.getfield 52, 3) := by decide +kernel
theorem dX2_lastOwner_4 : decode cX2_lastOwner 4 = .ok (.iload_n 1, 1) := by decide +kernel
theorem dX2_lastOwner_5 : decode cX2_lastOwner 5 = .ok (.iaload, 1) := by decide +kernel
theorem dX2_lastOwner_6 : decode cX2_lastOwner 6 = .ok (.istore_n 2, 1) := by decide +kernel
theorem dX2_lastOwner_7 : decode cX2_lastOwner 7 = .ok (.iload_n 2, 1) := by decide +kernel
theorem dX2_lastOwner_8 : decode cX2_lastOwner 8 = .ok (.ifCond .ne 7, 3) := by decide +kernel
theorem dX2_lastOwner_11 : decode cX2_lastOwner 11 = .ok (.iconst (-1), 1) := by decide +kernel
theorem dX2_lastOwner_12 : decode cX2_lastOwner 12 = .ok (.goto 15, 3) := by decide +kernel
theorem dX2_lastOwner_15 : decode cX2_lastOwner 15 = .ok (.aload_n 0, 1) := by decide +kernel
theorem dX2_lastOwner_16 : decode cX2_lastOwner 16 = .ok (.getfield 55, 3) := by decide +kernel
theorem dX2_lastOwner_19 : decode cX2_lastOwner 19 = .ok (.iload_n 1, 1) := by decide +kernel
theorem dX2_lastOwner_20 : decode cX2_lastOwner 20 = .ok (.iconst 4, 1) := by decide +kernel
theorem dX2_lastOwner_21 : decode cX2_lastOwner 21 = .ok (.imul, 1) := by decide +kernel
theorem dX2_lastOwner_22 : decode cX2_lastOwner 22 = .ok (.iload_n 2, 1) := by decide +kernel
theorem dX2_lastOwner_23 : decode cX2_lastOwner 23 = .ok (.iadd, 1) := by decide +kernel
theorem dX2_lastOwner_24 : decode cX2_lastOwner 24 = .ok (.iconst 1, 1) := by decide +kernel
theorem dX2_lastOwner_25 : decode cX2_lastOwner 25 = .ok (.isub, 1) := by decide +kernel
theorem dX2_lastOwner_26 : decode cX2_lastOwner 26 = .ok (.iaload, 1) := by decide +kernel
theorem dX2_lastOwner_27 : decode cX2_lastOwner 27 = .ok (.ireturn, 1) := by decide +kernel
theorem dX2_wasTakenFrom_0 : decode cX2_wasTakenFrom 0 = .ok (.iconst 0, 1) := by decide +kernel
theorem dX2_wasTakenFrom_1 : decode cX2_wasTakenFrom 1 = .ok (.istore_n 3, 1) := by decide +kernel
theorem dX2_wasTakenFrom_2 : decode cX2_wasTakenFrom 2 = .ok (.iload_n 3, 1) := by decide +kernel
theorem dX2_wasTakenFrom_3 : decode cX2_wasTakenFrom 3 = .ok (.aload_n 0, 1) := by decide +kernel
theorem dX2_wasTakenFrom_4 : decode cX2_wasTakenFrom 4 = .ok (.getfield 52, 3) := by decide +kernel
theorem dX2_wasTakenFrom_7 : decode cX2_wasTakenFrom 7 = .ok (.iload_n 1, 1) := by decide +kernel
theorem dX2_wasTakenFrom_8 : decode cX2_wasTakenFrom 8 = .ok (.iaload, 1) := by decide +kernel
theorem dX2_wasTakenFrom_9 : decode cX2_wasTakenFrom 9 = .ok (.iconst 1, 1) := by decide +kernel
theorem dX2_wasTakenFrom_10 : decode cX2_wasTakenFrom 10 = .ok (.isub, 1) := by decide +kernel
theorem dX2_wasTakenFrom_11 : decode cX2_wasTakenFrom 11 = .ok (.if_icmp .ge 25, 3) := by decide +kernel
theorem dX2_wasTakenFrom_14 : decode cX2_wasTakenFrom 14 = .ok (.aload_n 0, 1) := by decide +kernel
theorem dX2_wasTakenFrom_15 : decode cX2_wasTakenFrom 15 = .ok (.getfield 55, 3) := by decide +kernel
theorem dX2_wasTakenFrom_18 : decode cX2_wasTakenFrom 18 = .ok (.iload_n 1, 1) := by decide +kernel
theorem dX2_wasTakenFrom_19 : decode cX2_wasTakenFrom 19 = .ok (.iconst 4, 1) := by decide +kernel
theorem dX2_wasTakenFrom_20 : decode cX2_wasTakenFrom 20 = .ok (.imul, 1) := by decide +kernel
theorem dX2_wasTakenFrom_21 : decode cX2_wasTakenFrom 21 = .ok (.iload_n 3, 1) := by decide +kernel
theorem dX2_wasTakenFrom_22 : decode cX2_wasTakenFrom 22 = .ok (.iadd, 1) := by decide +kernel
theorem dX2_wasTakenFrom_23 : decode cX2_wasTakenFrom 23 = .ok (.iaload, 1) := by decide +kernel
theorem dX2_wasTakenFrom_24 : decode cX2_wasTakenFrom 24 = .ok (.iload_n 2, 1) := by decide +kernel
theorem dX2_wasTakenFrom_25 : decode cX2_wasTakenFrom 25 = .ok (.if_icmp .ne 5, 3) := by decide +kernel
theorem dX2_wasTakenFrom_28 : decode cX2_wasTakenFrom 28 = .ok (.iconst 1, 1) := by decide +kernel
theorem dX2_wasTakenFrom_29 : decode cX2_wasTakenFrom 29 = .ok (.ireturn, 1) := by decide +kernel
theorem dX2_wasTakenFrom_30 : decode cX2_wasTakenFrom 30 = .ok (.iinc 3 1, 3) := by decide +kernel
theorem dX2_wasTakenFrom_33 : decode cX2_wasTakenFrom 33 = .ok (.goto (-31), 3) := by decide +kernel
theorem dX2_wasTakenFrom_36 : decode cX2_wasTakenFrom 36 = .ok (.iconst 0, 1) := by decide +kernel
theorem dX2_wasTakenFrom_37 : decode cX2_wasTakenFrom 37 = .ok (.ireturn, 1) := by decide +kernel
theorem dX2_measure_0 : decode cX2_measure 0 = .ok (.iconst 0, 1) := by decide +kernel
theorem dX2_measure_1 : decode cX2_measure 1 = .ok (.istore_n 1, 1) := by decide +kernel
theorem dX2_measure_2 : decode cX2_measure 2 = .ok (.iload_n 1, 1) := by decide +kernel
theorem dX2_measure_3 : decode cX2_measure 3 = .ok (.bipush 8, 2) := by decide +kernel
theorem dX2_measure_5 : decode cX2_measure 5 = .ok (.if_icmp .ge 64, 3) := by decide +kernel
theorem dX2_measure_8 : decode cX2_measure 8 = .ok (.iconst 0, 1) := by decide +kernel
theorem dX2_measure_9 : decode cX2_measure 9 = .ok (.istore_n 2, 1) := by decide +kernel
theorem dX2_measure_10 : decode cX2_measure 10 = .ok (.iload_n 2, 1) := by decide +kernel
theorem dX2_measure_11 : decode cX2_measure 11 = .ok (.bipush 8, 2) := by decide +kernel
theorem dX2_measure_13 : decode cX2_measure 13 = .ok (.if_icmp .ge 50, 3) := by decide +kernel
theorem dX2_measure_16 : decode cX2_measure 16 = .ok (.aload_n 0, 1) := by decide +kernel
theorem dX2_measure_17 : decode cX2_measure 17 = .ok (.getfield 33, 3) := by decide +kernel
theorem dX2_measure_20 : decode cX2_measure 20 = .ok (.iload_n 1, 1) := by decide +kernel
theorem dX2_measure_21 : decode cX2_measure 21 = .ok (.iload_n 2, 1) := by decide +kernel
theorem dX2_measure_22 : decode cX2_measure 22 = .ok (.invokestatic 77, 3) := by decide +kernel
theorem dX2_measure_25 : decode cX2_measure 25 = .ok (.iaload, 1) := by decide +kernel
theorem dX2_measure_26 : decode cX2_measure 26 = .ok (.iconst (-1), 1) := by decide +kernel
theorem dX2_measure_27 : decode cX2_measure 27 = .ok (.if_icmp .ne 8, 3) := by decide +kernel
theorem dX2_measure_30 : decode cX2_measure 30 = .ok (.bipush 100, 2) := by decide +kernel
theorem dX2_measure_32 : decode cX2_measure 32 = .ok (.goto 4, 3) := by decide +kernel
theorem dX2_measure_35 : decode cX2_measure 35 = .ok (.iconst 1, 1) := by decide +kernel
theorem dX2_measure_36 : decode cX2_measure 36 = .ok (.istore_n 3, 1) := by decide +kernel
theorem dX2_measure_37 : decode cX2_measure 37 = .ok (.aload_n 0, 1) := by decide +kernel
theorem dX2_measure_38 : decode cX2_measure 38 = .ok (.getfield 37, 3) := by decide +kernel
theorem dX2_measure_41 : decode cX2_measure 41 = .ok (.iload_n 1, 1) := by decide +kernel
theorem dX2_measure_42 : decode cX2_measure 42 = .ok (.iload_n 2, 1) := by decide +kernel
theorem dX2_measure_43 : decode cX2_measure 43 = .ok (.invokestatic 77, 3) := by decide +kernel
theorem dX2_measure_46 : decode cX2_measure 46 = .ok (.iload_n 1, 1) := by decide +kernel
theorem dX2_measure_47 : decode cX2_measure 47 = .ok (.iload_n 2, 1) := by decide +kernel
theorem dX2_measure_48 : decode cX2_measure 48 = .ok (.if_icmp .ne 7, 3) := by decide +kernel
theorem dX2_measure_51 : decode cX2_measure 51 = .ok (.iconst 0, 1) := by decide +kernel
theorem dX2_measure_52 : decode cX2_measure 52 = .ok (.goto 4, 3) := by decide +kernel
theorem dX2_measure_55 : decode cX2_measure 55 = .ok (.iload_n 3, 1) := by decide +kernel
theorem dX2_measure_56 : decode cX2_measure 56 = .ok (.iastore, 1) := by decide +kernel
theorem dX2_measure_57 : decode cX2_measure 57 = .ok (.iinc 2 1, 3) := by decide +kernel
theorem dX2_measure_60 : decode cX2_measure 60 = .ok (.goto (-50), 3) := by decide +kernel
theorem dX2_measure_63 : decode cX2_measure 63 = .ok (.iinc 1 1, 3) := by decide +kernel
theorem dX2_measure_66 : decode cX2_measure 66 = .ok (.goto (-64), 3) := by decide +kernel
theorem dX2_measure_69 : decode cX2_measure 69 = .ok (.iconst 0, 1) := by decide +kernel
theorem dX2_measure_70 : decode cX2_measure 70 = .ok (.istore_n 1, 1) := by decide +kernel
theorem dX2_measure_71 : decode cX2_measure 71 = .ok (.iload_n 1, 1) := by decide +kernel
theorem dX2_measure_72 : decode cX2_measure 72 = .ok (.bipush 8, 2) := by decide +kernel
theorem dX2_measure_74 : decode cX2_measure 74 = .ok (.if_icmp .ge 85, 3) := by decide +kernel
theorem dX2_measure_77 : decode cX2_measure 77 = .ok (.iconst 0, 1) := by decide +kernel
theorem dX2_measure_78 : decode cX2_measure 78 = .ok (.istore_n 2, 1) := by decide +kernel
theorem dX2_measure_79 : decode cX2_measure 79 = .ok (.iload_n 2, 1) := by decide +kernel
theorem dX2_measure_80 : decode cX2_measure 80 = .ok (.bipush 8, 2) := by decide +kernel
theorem dX2_measure_82 : decode cX2_measure 82 = .ok (.if_icmp .ge 71, 3) := by decide +kernel
theorem dX2_measure_85 : decode cX2_measure 85 = .ok (.iconst 0, 1) := by decide +kernel
theorem dX2_measure_86 : decode cX2_measure 86 = .ok (.istore_n 3, 1) := by decide +kernel
theorem dX2_measure_87 : decode cX2_measure 87 = .ok (.iload_n 3, 1) := by decide +kernel
theorem dX2_measure_88 : decode cX2_measure 88 = .ok (.bipush 8, 2) := by decide +kernel
theorem dX2_measure_90 : decode cX2_measure 90 = .ok (.if_icmp .ge 57, 3) := by decide +kernel
theorem dX2_measure_93 : decode cX2_measure 93 = .ok (.aload_n 0, 1) := by decide +kernel
theorem dX2_measure_94 : decode cX2_measure 94 = .ok (.getfield 37, 3) := by decide +kernel
theorem dX2_measure_97 : decode cX2_measure 97 = .ok (.iload_n 2, 1) := by decide +kernel
theorem dX2_measure_98 : decode cX2_measure 98 = .ok (.iload_n 1, 1) := by decide +kernel
theorem dX2_measure_99 : decode cX2_measure 99 = .ok (.invokestatic 77, 3) := by decide +kernel
theorem dX2_measure_102 : decode cX2_measure 102 = .ok (.iaload, 1) := by decide +kernel
theorem dX2_measure_103 : decode cX2_measure 103 = .ok (.aload_n 0, 1) := by decide +kernel
theorem dX2_measure_104 : decode cX2_measure 104 = .ok (.getfield 37, 3) := by decide +kernel
theorem dX2_measure_107 : decode cX2_measure 107 = .ok (.iload_n 1, 1) := by decide +kernel
theorem dX2_measure_108 : decode cX2_measure 108 = .ok (.iload_n 3, 1) := by decide +kernel
theorem dX2_measure_109 : decode cX2_measure 109 = .ok (.invokestatic 77, 3) := by decide +kernel
theorem dX2_measure_112 : decode cX2_measure 112 = .ok (.iaload, 1) := by decide +kernel
theorem dX2_measure_113 : decode cX2_measure 113 = .ok (.iadd, 1) := by decide +kernel
theorem dX2_measure_114 : decode cX2_measure 114 = .ok (.istore 4, 2) := by decide +kernel
theorem dX2_measure_116 : decode cX2_measure 116 = .ok (.aload_n 0, 1) := by decide +kernel
theorem dX2_measure_117 : decode cX2_measure 117 = .ok (.getfield 37, 3) := by decide +kernel
theorem dX2_measure_120 : decode cX2_measure 120 = .ok (.iload_n 2, 1) := by decide +kernel
theorem dX2_measure_121 : decode cX2_measure 121 = .ok (.iload_n 3, 1) := by decide +kernel
theorem dX2_measure_122 : decode cX2_measure 122 = .ok (.invokestatic 77, 3) := by decide +kernel
theorem dX2_measure_125 : decode cX2_measure 125 = .ok (.aload_n 0, 1) := by decide +kernel
theorem dX2_measure_126 : decode cX2_measure 126 = .ok (.getfield 37, 3) := by decide +kernel
theorem dX2_measure_129 : decode cX2_measure 129 = .ok (.iload_n 2, 1) := by decide +kernel
theorem dX2_measure_130 : decode cX2_measure 130 = .ok (.iload_n 3, 1) := by decide +kernel
theorem dX2_measure_131 : decode cX2_measure 131 = .ok (.invokestatic 77, 3) := by decide +kernel
theorem dX2_measure_134 : decode cX2_measure 134 = .ok (.iaload, 1) := by decide +kernel
theorem dX2_measure_135 : decode cX2_measure 135 = .ok (.iload 4, 2) := by decide +kernel
theorem dX2_measure_137 : decode cX2_measure 137 = .ok (.invokestatic 81, 3) := by decide +kernel
theorem dX2_measure_140 : decode cX2_measure 140 = .ok (.iastore, 1) := by decide +kernel
theorem dX2_measure_141 : decode cX2_measure 141 = .ok (.iinc 3 1, 3) := by decide +kernel
theorem dX2_measure_144 : decode cX2_measure 144 = .ok (.goto (-57), 3) := by decide +kernel
theorem dX2_measure_147 : decode cX2_measure 147 = .ok (.iinc 2 1, 3) := by decide +kernel
theorem dX2_measure_150 : decode cX2_measure 150 = .ok (.goto (-71), 3) := by decide +kernel
theorem dX2_measure_153 : decode cX2_measure 153 = .ok (.iinc 1 1, 3) := by decide +kernel
theorem dX2_measure_156 : decode cX2_measure 156 = .ok (.goto (-85), 3) := by decide +kernel
theorem dX2_measure_159 : decode cX2_measure 159 = .ok (.return_, 1) := by decide +kernel
theorem dX2_leastNoise_0 : decode cX2_leastNoise 0 = .ok (.aload_n 0, 1) := by decide +kernel
theorem dX2_leastNoise_1 : decode cX2_leastNoise 1 = .ok (.getfield 27, 3) := by decide +kernel
theorem dX2_leastNoise_4 : decode cX2_leastNoise 4 = .ok (.aload_n 0, 1) := by decide +kernel
theorem dX2_leastNoise_5 : decode cX2_leastNoise 5 = .ok (.getfield 40, 3) := by decide +kernel
theorem dX2_leastNoise_8 : decode cX2_leastNoise 8 = .ok (.iload_n 1, 1) := by decide +kernel
theorem dX2_leastNoise_9 : decode cX2_leastNoise 9 = .ok (.iaload, 1) := by decide +kernel
theorem dX2_leastNoise_10 : decode cX2_leastNoise 10 = .ok (.aaload, 1) := by decide +kernel
theorem dX2_leastNoise_11 : decode cX2_leastNoise 11 = .ok (.astore 4, 2) := by decide +kernel
theorem dX2_leastNoise_13 : decode cX2_leastNoise 13 = .ok (.aload 4, 2) := by decide +kernel
theorem dX2_leastNoise_15 : decode cX2_leastNoise 15 = .ok (.aload_n 0, 1) := by decide +kernel
theorem dX2_leastNoise_16 : decode cX2_leastNoise 16 = .ok (.getfield 46, 3) := by decide +kernel
theorem dX2_leastNoise_19 : decode cX2_leastNoise 19 = .ok (.iload_n 1, 1) := by decide +kernel
theorem dX2_leastNoise_20 : decode cX2_leastNoise 20 = .ok (.iaload, 1) := by decide +kernel
theorem dX2_leastNoise_21 : decode cX2_leastNoise 21 = .ok (.iload_n 3, 1) := by decide +kernel
theorem dX2_leastNoise_22 : decode cX2_leastNoise 22 = .ok (.aload_n 0, 1) := by decide +kernel
theorem dX2_leastNoise_23 : decode cX2_leastNoise 23 = .ok (.getfield 43, 3) := by decide +kernel
theorem dX2_leastNoise_26 : decode cX2_leastNoise 26 = .ok (.iload_n 1, 1) := by decide +kernel
theorem dX2_leastNoise_27 : decode cX2_leastNoise 27 = .ok (.iaload, 1) := by decide +kernel
theorem dX2_leastNoise_28 : decode cX2_leastNoise 28 = .ok (.iload_n 2, 1) := by decide +kernel
theorem dX2_leastNoise_29 : decode cX2_leastNoise 29 = .ok (.if_icmp .ne 7, 3) := by decide +kernel
theorem dX2_leastNoise_32 : decode cX2_leastNoise 32 = .ok (.iconst 1, 1) := by decide +kernel
theorem dX2_leastNoise_33 : decode cX2_leastNoise 33 = .ok (.goto 4, 3) := by decide +kernel
theorem dX2_leastNoise_36 : decode cX2_leastNoise 36 = .ok (.iconst 0, 1) := by decide +kernel
theorem dX2_leastNoise_37 : decode cX2_leastNoise 37 = .ok (.invokevirtual 86, 3) := by decide +kernel
theorem dX2_leastNoise_40 : decode cX2_leastNoise 40 = .ok (.istore 5, 2) := by decide +kernel
theorem dX2_leastNoise_42 : decode cX2_leastNoise 42 = .ok (.iload 5, 2) := by decide +kernel
theorem dX2_leastNoise_44 : decode cX2_leastNoise 44 = .ok (.iconst 2, 1) := by decide +kernel
theorem dX2_leastNoise_45 : decode cX2_leastNoise 45 = .ok (.aload_n 0, 1) := by decide +kernel
theorem dX2_leastNoise_46 : decode cX2_leastNoise 46 = .ok (.getfield 37, 3) := by decide +kernel
theorem dX2_leastNoise_49 : decode cX2_leastNoise 49 = .ok (.iload_n 2, 1) := by decide +kernel
theorem dX2_leastNoise_50 : decode cX2_leastNoise 50 = .ok (.aload_n 0, 1) := by decide +kernel
theorem dX2_leastNoise_51 : decode cX2_leastNoise 51 = .ok (.getfield 43, 3) := by decide +kernel
theorem dX2_leastNoise_54 : decode cX2_leastNoise 54 = .ok (.iload_n 1, 1) := by decide +kernel
theorem dX2_leastNoise_55 : decode cX2_leastNoise 55 = .ok (.iaload, 1) := by decide +kernel
theorem dX2_leastNoise_56 : decode cX2_leastNoise 56 = .ok (.invokestatic 77, 3) := by decide +kernel
theorem dX2_leastNoise_59 : decode cX2_leastNoise 59 = .ok (.iaload, 1) := by decide +kernel
theorem dX2_leastNoise_60 : decode cX2_leastNoise 60 = .ok (.imul, 1) := by decide +kernel
theorem dX2_leastNoise_61 : decode cX2_leastNoise 61 = .ok (.iadd, 1) := by decide +kernel
theorem dX2_leastNoise_62 : decode cX2_leastNoise 62 = .ok (.ireturn, 1) := by decide +kernel
theorem dX2_wakers_0 : decode cX2_wakers 0 = .ok (.iconst 0, 1) := by decide +kernel
theorem dX2_wakers_1 : decode cX2_wakers 1 = .ok (.istore 4, 2) := by decide +kernel
theorem dX2_wakers_3 : decode cX2_wakers 3 = .ok (.iconst 0, 1) := by decide +kernel
theorem dX2_wakers_4 : decode cX2_wakers 4 = .ok (.istore 5, 2) := by decide +kernel
theorem dX2_wakers_6 : decode cX2_wakers 6 = .ok (.iload 5, 2) := by decide +kernel
theorem dX2_wakers_8 : decode cX2_wakers 8 = .ok (.aload_n 0, 1) := by decide +kernel
theorem dX2_wakers_9 : decode cX2_wakers 9 = .ok (.getfield 61, 3) := by decide +kernel
theorem dX2_wakers_12 : decode cX2_wakers 12 = .ok (.if_icmp .ge 30, 3) := by decide +kernel
theorem dX2_wakers_15 : decode cX2_wakers 15 = .ok (.iload_n 1, 1) := by decide +kernel
theorem dX2_wakers_16 : decode cX2_wakers 16 = .ok (.aload_n 0, 1) := by decide +kernel
theorem dX2_wakers_17 : decode cX2_wakers 17 = .ok (.iload 5, 2) := by decide +kernel
theorem dX2_wakers_19 : decode cX2_wakers 19 = .ok (.iload_n 2, 1) := by decide +kernel
theorem dX2_wakers_20 : decode cX2_wakers 20 = .ok (.iload_n 3, 1) := by decide +kernel
theorem dX2_wakers_21 : decode cX2_wakers 21 = .ok (.invokevirtual 90, 3) := by decide +kernel
theorem dX2_wakers_24 : decode cX2_wakers 24 = .ok (.if_icmp .lt 12, 3) := by decide +kernel
theorem dX2_wakers_27 : decode cX2_wakers 27 = .ok (.iload 4, 2) := by decide +kernel
theorem dX2_wakers_29 : decode cX2_wakers 29 = .ok (.iconst 1, 1) := by decide +kernel
theorem dX2_wakers_30 : decode cX2_wakers 30 = .ok (.iload 5, 2) := by decide +kernel
theorem dX2_wakers_32 : decode cX2_wakers 32 = .ok (.ishl, 1) := by decide +kernel
theorem dX2_wakers_33 : decode cX2_wakers 33 = .ok (.ior, 1) := by decide +kernel
theorem dX2_wakers_34 : decode cX2_wakers 34 = .ok (.istore 4, 2) := by decide +kernel
theorem dX2_wakers_36 : decode cX2_wakers 36 = .ok (.iinc 5 1, 3) := by decide +kernel
theorem dX2_wakers_39 : decode cX2_wakers 39 = .ok (.goto (-33), 3) := by decide +kernel
theorem dX2_wakers_42 : decode cX2_wakers 42 = .ok (.iload 4, 2) := by decide +kernel
theorem dX2_wakers_44 : decode cX2_wakers 44 = .ok (.ireturn, 1) := by decide +kernel
theorem dX2_loudest_0 : decode cX2_loudest 0 = .ok (.bipush 30, 2) := by decide +kernel
theorem dX2_loudest_2 : decode cX2_loudest 2 = .ok (.istore_n 3, 1) := by decide +kernel
theorem dX2_loudest_3 : decode cX2_loudest 3 = .ok (.iconst 0, 1) := by decide +kernel
theorem dX2_loudest_4 : decode cX2_loudest 4 = .ok (.istore 4, 2) := by decide +kernel
theorem dX2_loudest_6 : decode cX2_loudest 6 = .ok (.iload 4, 2) := by decide +kernel
theorem dX2_loudest_8 : decode cX2_loudest 8 = .ok (.aload_n 0, 1) := by decide +kernel
theorem dX2_loudest_9 : decode cX2_loudest 9 = .ok (.getfield 61, 3) := by decide +kernel
theorem dX2_loudest_12 : decode cX2_loudest 12 = .ok (.if_icmp .ge 24, 3) := by decide +kernel
theorem dX2_loudest_15 : decode cX2_loudest 15 = .ok (.iload_n 3, 1) := by decide +kernel
theorem dX2_loudest_16 : decode cX2_loudest 16 = .ok (.aload_n 0, 1) := by decide +kernel
theorem dX2_loudest_17 : decode cX2_loudest 17 = .ok (.iload 4, 2) := by decide +kernel
theorem dX2_loudest_19 : decode cX2_loudest 19 = .ok (.iload_n 1, 1) := by decide +kernel
theorem dX2_loudest_20 : decode cX2_loudest 20 = .ok (.iload_n 2, 1) := by decide +kernel
theorem dX2_loudest_21 : decode cX2_loudest 21 = .ok (.invokevirtual 90, 3) := by decide +kernel
theorem dX2_loudest_24 : decode cX2_loudest 24 = .ok (.iconst 1, 1) := by decide +kernel
theorem dX2_loudest_25 : decode cX2_loudest 25 = .ok (.isub, 1) := by decide +kernel
theorem dX2_loudest_26 : decode cX2_loudest 26 = .ok (.invokestatic 81, 3) := by decide +kernel
theorem dX2_loudest_29 : decode cX2_loudest 29 = .ok (.istore_n 3, 1) := by decide +kernel
theorem dX2_loudest_30 : decode cX2_loudest 30 = .ok (.iinc 4 1, 3) := by decide +kernel
theorem dX2_loudest_33 : decode cX2_loudest 33 = .ok (.goto (-27), 3) := by decide +kernel
theorem dX2_loudest_36 : decode cX2_loudest 36 = .ok (.iload_n 3, 1) := by decide +kernel
theorem dX2_loudest_37 : decode cX2_loudest 37 = .ok (.ireturn, 1) := by decide +kernel
theorem dX2_foldStairs_0 : decode cX2_foldStairs 0 = .ok (.lload_n 1, 1) := by decide +kernel
theorem dX2_foldStairs_1 : decode cX2_foldStairs 1 = .ok (.lstore_n 3, 1) := by decide +kernel
theorem dX2_foldStairs_2 : decode cX2_foldStairs 2 = .ok (.iconst 0, 1) := by decide +kernel
theorem dX2_foldStairs_3 : decode cX2_foldStairs 3 = .ok (.istore 5, 2) := by decide +kernel
theorem dX2_foldStairs_5 : decode cX2_foldStairs 5 = .ok (.iload 5, 2) := by decide +kernel
theorem dX2_foldStairs_7 : decode cX2_foldStairs 7 = .ok (.bipush 8, 2) := by decide +kernel
theorem dX2_foldStairs_9 : decode cX2_foldStairs 9 = .ok (.if_icmp .ge 48, 3) := by decide +kernel
theorem dX2_foldStairs_12 : decode cX2_foldStairs 12 = .ok (.iload 5, 2) := by decide +kernel
theorem dX2_foldStairs_14 : decode cX2_foldStairs 14 = .ok (.iconst 1, 1) := by decide +kernel
theorem dX2_foldStairs_15 : decode cX2_foldStairs 15 = .ok (.iadd, 1) := by decide +kernel
theorem dX2_foldStairs_16 : decode cX2_foldStairs 16 = .ok (.istore 6, 2) := by decide +kernel
theorem dX2_foldStairs_18 : decode cX2_foldStairs 18 = .ok (.iload 6, 2) := by decide +kernel
theorem dX2_foldStairs_20 : decode cX2_foldStairs 20 = .ok (.bipush 8, 2) := by decide +kernel
theorem dX2_foldStairs_22 : decode cX2_foldStairs 22 = .ok (.if_icmp .ge 29, 3) := by decide +kernel
theorem dX2_foldStairs_25 : decode cX2_foldStairs 25 = .ok (.ldc2_w 94, 3) := by decide +kernel
theorem dX2_foldStairs_28 : decode cX2_foldStairs 28 = .ok (.lload_n 3, 1) := by decide +kernel
theorem dX2_foldStairs_29 : decode cX2_foldStairs 29 = .ok (.lmul, 1) := by decide +kernel
theorem dX2_foldStairs_30 : decode cX2_foldStairs 30 = .ok (.aload_n 0, 1) := by decide +kernel
theorem dX2_foldStairs_31 : decode cX2_foldStairs 31 = .ok (.getfield 33, 3) := by decide +kernel
theorem dX2_foldStairs_34 : decode cX2_foldStairs 34 = .ok (.iload 5, 2) := by decide +kernel
theorem dX2_foldStairs_36 : decode cX2_foldStairs 36 = .ok (.iload 6, 2) := by decide +kernel
theorem dX2_foldStairs_38 : decode cX2_foldStairs 38 = .ok (.invokestatic 77, 3) := by decide +kernel
theorem dX2_foldStairs_41 : decode cX2_foldStairs 41 = .ok (.iaload, 1) := by decide +kernel
theorem dX2_foldStairs_42 : decode cX2_foldStairs 42 = .ok (.i2l, 1) := by decide +kernel
theorem dX2_foldStairs_43 : decode cX2_foldStairs 43 = .ok (.ladd, 1) := by decide +kernel
theorem dX2_foldStairs_44 : decode cX2_foldStairs 44 = .ok (.lstore_n 3, 1) := by decide +kernel
theorem dX2_foldStairs_45 : decode cX2_foldStairs 45 = .ok (.iinc 6 1, 3) := by decide +kernel
theorem dX2_foldStairs_48 : decode cX2_foldStairs 48 = .ok (.goto (-30), 3) := by decide +kernel
theorem dX2_foldStairs_51 : decode cX2_foldStairs 51 = .ok (.iinc 5 1, 3) := by decide +kernel
theorem dX2_foldStairs_54 : decode cX2_foldStairs 54 = .ok (.goto (-49), 3) := by decide +kernel
theorem dX2_foldStairs_57 : decode cX2_foldStairs 57 = .ok (.lload_n 3, 1) := by decide +kernel
theorem dX2_foldStairs_58 : decode cX2_foldStairs 58 = .ok (.lreturn, 1) := by decide +kernel
theorem dX2_foldThings_0 : decode cX2_foldThings 0 = .ok (.lload_n 1, 1) := by decide +kernel
theorem dX2_foldThings_1 : decode cX2_foldThings 1 = .ok (.lstore_n 3, 1) := by decide +kernel
theorem dX2_foldThings_2 : decode cX2_foldThings 2 = .ok (.iconst 0, 1) := by decide +kernel
theorem dX2_foldThings_3 : decode cX2_foldThings 3 = .ok (.istore 5, 2) := by decide +kernel
theorem dX2_foldThings_5 : decode cX2_foldThings 5 = .ok (.iload 5, 2) := by decide +kernel
theorem dX2_foldThings_7 : decode cX2_foldThings 7 = .ok (.aload_n 0, 1) := by decide +kernel
theorem dX2_foldThings_8 : decode cX2_foldThings 8 = .ok (.getfield 65, 3) := by decide +kernel
theorem dX2_foldThings_11 : decode cX2_foldThings 11 = .ok (.if_icmp .ge 80, 3) := by decide +kernel
theorem dX2_foldThings_14 : decode cX2_foldThings 14 = .ok (.ldc2_w 94, 3) := by decide +kernel
theorem dX2_foldThings_17 : decode cX2_foldThings 17 = .ok (.lload_n 3, 1) := by decide +kernel
theorem dX2_foldThings_18 : decode cX2_foldThings 18 = .ok (.lmul, 1) := by decide +kernel
theorem dX2_foldThings_19 : decode cX2_foldThings 19 = .ok (.aload_n 0, 1) := by decide +kernel
theorem dX2_foldThings_20 : decode cX2_foldThings 20 = .ok (.getfield 49, 3) := by decide +kernel
theorem dX2_foldThings_23 : decode cX2_foldThings 23 = .ok (.iload 5, 2) := by decide +kernel
theorem dX2_foldThings_25 : decode cX2_foldThings 25 = .ok (.iaload, 1) := by decide +kernel
theorem dX2_foldThings_26 : decode cX2_foldThings 26 = .ok (.i2l, 1) := by decide +kernel
theorem dX2_foldThings_27 : decode cX2_foldThings 27 = .ok (.ladd, 1) := by decide +kernel
theorem dX2_foldThings_28 : decode cX2_foldThings 28 = .ok (.lstore_n 3, 1) := by decide +kernel
theorem dX2_foldThings_29 : decode cX2_foldThings 29 = .ok (.ldc2_w 94, 3) := by decide +kernel
theorem dX2_foldThings_32 : decode cX2_foldThings 32 = .ok (.lload_n 3, 1) := by decide +kernel
theorem dX2_foldThings_33 : decode cX2_foldThings 33 = .ok (.lmul, 1) := by decide +kernel
theorem dX2_foldThings_34 : decode cX2_foldThings 34 = .ok (.aload_n 0, 1) := by decide +kernel
theorem dX2_foldThings_35 : decode cX2_foldThings 35 = .ok (.getfield 52, 3) := by decide +kernel
theorem dX2_foldThings_38 : decode cX2_foldThings 38 = .ok (.iload 5, 2) := by decide +kernel
theorem dX2_foldThings_40 : decode cX2_foldThings 40 = .ok (.iaload, 1) := by decide +kernel
theorem dX2_foldThings_41 : decode cX2_foldThings 41 = .ok (.i2l, 1) := by decide +kernel
theorem dX2_foldThings_42 : decode cX2_foldThings 42 = .ok (.ladd, 1) := by decide +kernel
theorem dX2_foldThings_43 : decode cX2_foldThings 43 = .ok (.lstore_n 3, 1) := by decide +kernel
theorem dX2_foldThings_44 : decode cX2_foldThings 44 = .ok (.iconst 0, 1) := by decide +kernel
theorem dX2_foldThings_45 : decode cX2_foldThings 45 = .ok (.istore 6, 2) := by decide +kernel
theorem dX2_foldThings_47 : decode cX2_foldThings 47 = .ok (.iload 6, 2) := by decide +kernel
theorem dX2_foldThings_49 : decode cX2_foldThings 49 = .ok (.aload_n 0, 1) := by decide +kernel
theorem dX2_foldThings_50 : decode cX2_foldThings 50 = .ok (.getfield 52, 3) := by decide +kernel
theorem dX2_foldThings_53 : decode cX2_foldThings 53 = .ok (.iload 5, 2) := by decide +kernel
theorem dX2_foldThings_55 : decode cX2_foldThings 55 = .ok (.iaload, 1) := by decide +kernel
theorem dX2_foldThings_56 : decode cX2_foldThings 56 = .ok (.if_icmp .ge 29, 3) := by decide +kernel
theorem dX2_foldThings_59 : decode cX2_foldThings 59 = .ok (.ldc2_w 94, 3) := by decide +kernel
theorem dX2_foldThings_62 : decode cX2_foldThings 62 = .ok (.lload_n 3, 1) := by decide +kernel
theorem dX2_foldThings_63 : decode cX2_foldThings 63 = .ok (.lmul, 1) := by decide +kernel
theorem dX2_foldThings_64 : decode cX2_foldThings 64 = .ok (.aload_n 0, 1) := by decide +kernel
theorem dX2_foldThings_65 : decode cX2_foldThings 65 = .ok (.getfield 55, 3) := by decide +kernel
theorem dX2_foldThings_68 : decode cX2_foldThings 68 = .ok (.iload 5, 2) := by decide +kernel
theorem dX2_foldThings_70 : decode cX2_foldThings 70 = .ok (.iconst 4, 1) := by decide +kernel
theorem dX2_foldThings_71 : decode cX2_foldThings 71 = .ok (.imul, 1) := by decide +kernel
theorem dX2_foldThings_72 : decode cX2_foldThings 72 = .ok (.iload 6, 2) := by decide +kernel
theorem dX2_foldThings_74 : decode cX2_foldThings 74 = .ok (.iadd, 1) := by decide +kernel
theorem dX2_foldThings_75 : decode cX2_foldThings 75 = .ok (.iaload, 1) := by decide +kernel
theorem dX2_foldThings_76 : decode cX2_foldThings 76 = .ok (.i2l, 1) := by decide +kernel
theorem dX2_foldThings_77 : decode cX2_foldThings 77 = .ok (.ladd, 1) := by decide +kernel
theorem dX2_foldThings_78 : decode cX2_foldThings 78 = .ok (.lstore_n 3, 1) := by decide +kernel
theorem dX2_foldThings_79 : decode cX2_foldThings 79 = .ok (.iinc 6 1, 3) := by decide +kernel
theorem dX2_foldThings_82 : decode cX2_foldThings 82 = .ok (.goto (-35), 3) := by decide +kernel
theorem dX2_foldThings_85 : decode cX2_foldThings 85 = .ok (.iinc 5 1, 3) := by decide +kernel
theorem dX2_foldThings_88 : decode cX2_foldThings 88 = .ok (.goto (-83), 3) := by decide +kernel
theorem dX2_foldThings_91 : decode cX2_foldThings 91 = .ok (.lload_n 3, 1) := by decide +kernel
theorem dX2_foldThings_92 : decode cX2_foldThings 92 = .ok (.lreturn, 1) := by decide +kernel
theorem dX3_init_0 : decode cX3_init 0 = .ok (.aload_n 0, 1) := by decide +kernel
theorem dX3_init_1 : decode cX3_init 1 = .ok (.invokespecial 1, 3) := by decide +kernel
theorem dX3_init_4 : decode cX3_init 4 = .ok (.return_, 1) := by decide +kernel
theorem dX3_wakingNoise_0 : decode cX3_wakingNoise 0 = .ok (.aload_n 0, 1) := by decide +kernel
theorem dX3_wakingNoise_1 : decode cX3_wakingNoise 1 = .ok (.iload_n 1, 1) := by decide +kernel
theorem dX3_wakingNoise_2 : decode cX3_wakingNoise 2 = .ok (.iload_n 2, 1) := by decide +kernel
theorem dX3_wakingNoise_3 : decode cX3_wakingNoise 3 = .ok (.iload_n 3, 1) := by decide +kernel
theorem dX3_wakingNoise_4 : decode cX3_wakingNoise 4 = .ok (.invokespecial 7, 3) := by decide +kernel
theorem dX3_wakingNoise_7 : decode cX3_wakingNoise 7 = .ok (.iconst 2, 1) := by decide +kernel
theorem dX3_wakingNoise_8 : decode cX3_wakingNoise 8 = .ok (.idiv, 1) := by decide +kernel
theorem dX3_wakingNoise_9 : decode cX3_wakingNoise 9 = .ok (.ireturn, 1) := by decide +kernel
theorem dX4_init_0 : decode cX4_init 0 = .ok (.aload_n 0, 1) := by decide +kernel
theorem dX4_init_1 : decode cX4_init 1 = .ok (.invokespecial 3, 3) := by decide +kernel
theorem dX4_init_4 : decode cX4_init 4 = .ok (.aload_n 0, 1) := by decide +kernel
theorem dX4_init_5 : decode cX4_init 5 = .ok (.new 9, 3) := by decide +kernel
theorem dX4_init_8 : decode cX4_init 8 = .ok (.dup, 1) := by decide +kernel
theorem dX4_init_9 : decode cX4_init 9 = .ok (.invokespecial 11, 3) := by decide +kernel
theorem dX4_init_12 : decode cX4_init 12 = .ok (.putfield 12, 3) := by decide +kernel
theorem dX4_init_15 : decode cX4_init 15 = .ok (.aload_n 0, 1) := by decide +kernel
theorem dX4_init_16 : decode cX4_init 16 = .ok (.iconst 3, 1) := by decide +kernel
theorem dX4_init_17 : decode cX4_init 17 = .ok (.newarray .int, 2) := by decide +kernel
theorem dX4_init_19 : decode cX4_init 19 = .ok (.putfield 18, 3) := by decide +kernel
theorem dX4_init_22 : decode cX4_init 22 = .ok (.aload_n 0, 1) := by decide +kernel
theorem dX4_init_23 : decode cX4_init 23 = .ok (.iconst 3, 1) := by decide +kernel
theorem dX4_init_24 : decode cX4_init 24 = .ok (.newarray .int, 2) := by decide +kernel
theorem dX4_init_26 : decode cX4_init 26 = .ok (.putfield 22, 3) := by decide +kernel
theorem dX4_init_29 : decode cX4_init 29 = .ok (.aload_n 0, 1) := by decide +kernel
theorem dX4_init_30 : decode cX4_init 30 = .ok (.bipush 8, 2) := by decide +kernel
theorem dX4_init_32 : decode cX4_init 32 = .ok (.newarray .int, 2) := by decide +kernel
theorem dX4_init_34 : decode cX4_init 34 = .ok (.putfield 25, 3) := by decide +kernel
theorem dX4_init_37 : decode cX4_init 37 = .ok (.aload_n 0, 1) := by decide +kernel
theorem dX4_init_38 : decode cX4_init 38 = .ok (.bipush 8, 2) := by decide +kernel
theorem dX4_init_40 : decode cX4_init 40 = .ok (.newarray .int, 2) := by decide +kernel
theorem dX4_init_42 : decode cX4_init 42 = .ok (.putfield 28, 3) := by decide +kernel
theorem dX4_init_45 : decode cX4_init 45 = .ok (.aload_n 0, 1) := by decide +kernel
theorem dX4_init_46 : decode cX4_init 46 = .ok (.bipush 8, 2) := by decide +kernel
theorem dX4_init_48 : decode cX4_init 48 = .ok (.newarray .int, 2) := by decide +kernel
theorem dX4_init_50 : decode cX4_init 50 = .ok (.putfield 31, 3) := by decide +kernel
theorem dX4_init_53 : decode cX4_init 53 = .ok (.aload_n 0, 1) := by decide +kernel
theorem dX4_init_54 : decode cX4_init 54 = .ok (.bipush 6, 2) := by decide +kernel
theorem dX4_init_56 : decode cX4_init 56 = .ok (.newarray .int, 2) := by decide +kernel
theorem dX4_init_58 : decode cX4_init 58 = .ok (.putfield 34, 3) := by decide +kernel
theorem dX4_init_61 : decode cX4_init 61 = .ok (.aload_n 0, 1) := by decide +kernel
theorem dX4_init_62 : decode cX4_init 62 = .ok (.bipush 6, 2) := by decide +kernel
theorem dX4_init_64 : decode cX4_init 64 = .ok (.newarray .int, 2) := by decide +kernel
theorem dX4_init_66 : decode cX4_init 66 = .ok (.putfield 37, 3) := by decide +kernel
theorem dX4_init_69 : decode cX4_init 69 = .ok (.aload_n 0, 1) := by decide +kernel
theorem dX4_init_70 : decode cX4_init 70 = .ok (.bipush 6, 2) := by decide +kernel
theorem dX4_init_72 : decode cX4_init 72 = .ok (.newarray .int, 2) := by decide +kernel
theorem dX4_init_74 : decode cX4_init 74 = .ok (.putfield 40, 3) := by decide +kernel
theorem dX4_init_77 : decode cX4_init 77 = .ok (.return_, 1) := by decide +kernel
theorem dX4_begin_0 : decode cX4_begin 0 = .ok (.aload_n 0, 1) := by decide +kernel
theorem dX4_begin_1 : decode cX4_begin 1 = .ok (.iconst 0, 1) := by decide +kernel
theorem dX4_begin_2 : decode cX4_begin 2 = .ok (.putfield 43, 3) := by decide +kernel
theorem dX4_begin_5 : decode cX4_begin 5 = .ok (.aload_n 0, 1) := by decide +kernel
theorem dX4_begin_6 : decode cX4_begin 6 = .ok (.iconst 0, 1) := by decide +kernel
theorem dX4_begin_7 : decode cX4_begin 7 = .ok (.putfield 47, 3) := by decide +kernel
theorem dX4_begin_10 : decode cX4_begin 10 = .ok (.aload_n 0, 1) := by decide +kernel
theorem dX4_begin_11 : decode cX4_begin 11 = .ok (.iconst 0, 1) := by decide +kernel
theorem dX4_begin_12 : decode cX4_begin 12 = .ok (.putfield 50, 3) := by decide +kernel
theorem dX4_begin_15 : decode cX4_begin 15 = .ok (.aload_n 0, 1) := by decide +kernel
theorem dX4_begin_16 : decode cX4_begin 16 = .ok (.iconst 0, 1) := by decide +kernel
theorem dX4_begin_17 : decode cX4_begin 17 = .ok (.putfield 53, 3) := by decide +kernel
theorem dX4_begin_20 : decode cX4_begin 20 = .ok (.iconst 0, 1) := by decide +kernel
theorem dX4_begin_21 : decode cX4_begin 21 = .ok (.istore_n 1, 1) := by decide +kernel
theorem dX4_begin_22 : decode cX4_begin 22 = .ok (.iload_n 1, 1) := by decide +kernel
theorem dX4_begin_23 : decode cX4_begin 23 = .ok (.iconst 3, 1) := by decide +kernel
theorem dX4_begin_24 : decode cX4_begin 24 = .ok (.if_icmp .ge 16, 3) := by decide +kernel
theorem dX4_begin_27 : decode cX4_begin 27 = .ok (.aload_n 0, 1) := by decide +kernel
theorem dX4_begin_28 : decode cX4_begin 28 = .ok (.getfield 18, 3) := by decide +kernel
theorem dX4_begin_31 : decode cX4_begin 31 = .ok (.iload_n 1, 1) := by decide +kernel
theorem dX4_begin_32 : decode cX4_begin 32 = .ok (.iconst 0, 1) := by decide +kernel
theorem dX4_begin_33 : decode cX4_begin 33 = .ok (.iastore, 1) := by decide +kernel
theorem dX4_begin_34 : decode cX4_begin 34 = .ok (.iinc 1 1, 3) := by decide +kernel
theorem dX4_begin_37 : decode cX4_begin 37 = .ok (.goto (-15), 3) := by decide +kernel
theorem dX4_begin_40 : decode cX4_begin 40 = .ok (.return_, 1) := by decide +kernel
theorem dX4_copyFrom_0 : decode cX4_copyFrom 0 = .ok (.aload_n 0, 1) := by decide +kernel
theorem dX4_copyFrom_1 : decode cX4_copyFrom 1 = .ok (.getfield 12, 3) := by decide +kernel
theorem dX4_copyFrom_4 : decode cX4_copyFrom 4 = .ok (.aload_n 1, 1) := by decide +kernel
theorem dX4_copyFrom_5 : decode cX4_copyFrom 5 = .ok (.getfield 12, 3) := by decide +kernel
theorem dX4_copyFrom_8 : decode cX4_copyFrom 8 = .ok (.invokevirtual 56, 3) := by decide +kernel
theorem dX4_copyFrom_11 : decode cX4_copyFrom 11 = .ok (.aload_n 1, 1) := by decide +kernel
theorem dX4_copyFrom_12 : decode cX4_copyFrom 12 = .ok (.getfield 18, 3) := by decide +kernel
theorem dX4_copyFrom_15 : decode cX4_copyFrom 15 = .ok (.iconst 0, 1) := by decide +kernel
theorem dX4_copyFrom_16 : decode cX4_copyFrom 16 = .ok (.aload_n 0, 1) := by decide +kernel
theorem dX4_copyFrom_17 : decode cX4_copyFrom 17 = .ok (.getfield 18, 3) := by decide +kernel
theorem dX4_copyFrom_20 : decode cX4_copyFrom 20 = .ok (.iconst 0, 1) := by decide +kernel
theorem dX4_copyFrom_21 : decode cX4_copyFrom 21 = .ok (.iconst 3, 1) := by decide +kernel
theorem dX4_copyFrom_22 : decode cX4_copyFrom 22 = .ok (.invokestatic 60, 3) := by decide +kernel
theorem dX4_copyFrom_25 : decode cX4_copyFrom 25 = .ok (.aload_n 1, 1) := by decide +kernel
theorem dX4_copyFrom_26 : decode cX4_copyFrom 26 = .ok (.getfield 25, 3) := by decide +kernel
theorem dX4_copyFrom_29 : decode cX4_copyFrom 29 = .ok (.iconst 0, 1) := by decide +kernel
theorem dX4_copyFrom_30 : decode cX4_copyFrom 30 = .ok (.aload_n 0, 1) := by decide +kernel
theorem dX4_copyFrom_31 : decode cX4_copyFrom 31 = .ok (.getfield 25, 3) := by decide +kernel
theorem dX4_copyFrom_34 : decode cX4_copyFrom 34 = .ok (.iconst 0, 1) := by decide +kernel
theorem dX4_copyFrom_35 : decode cX4_copyFrom 35 = .ok (.bipush 8, 2) := by decide +kernel
theorem dX4_copyFrom_37 : decode cX4_copyFrom 37 = .ok (.invokestatic 60, 3) := by decide +kernel
theorem dX4_copyFrom_40 : decode cX4_copyFrom 40 = .ok (.aload_n 1, 1) := by decide +kernel
theorem dX4_copyFrom_41 : decode cX4_copyFrom 41 = .ok (.getfield 28, 3) := by decide +kernel
theorem dX4_copyFrom_44 : decode cX4_copyFrom 44 = .ok (.iconst 0, 1) := by decide +kernel
theorem dX4_copyFrom_45 : decode cX4_copyFrom 45 = .ok (.aload_n 0, 1) := by decide +kernel
theorem dX4_copyFrom_46 : decode cX4_copyFrom 46 = .ok (.getfield 28, 3) := by decide +kernel
theorem dX4_copyFrom_49 : decode cX4_copyFrom 49 = .ok (.iconst 0, 1) := by decide +kernel
theorem dX4_copyFrom_50 : decode cX4_copyFrom 50 = .ok (.bipush 8, 2) := by decide +kernel
theorem dX4_copyFrom_52 : decode cX4_copyFrom 52 = .ok (.invokestatic 60, 3) := by decide +kernel
theorem dX4_copyFrom_55 : decode cX4_copyFrom 55 = .ok (.aload_n 1, 1) := by decide +kernel
theorem dX4_copyFrom_56 : decode cX4_copyFrom 56 = .ok (.getfield 31, 3) := by decide +kernel
theorem dX4_copyFrom_59 : decode cX4_copyFrom 59 = .ok (.iconst 0, 1) := by decide +kernel
theorem dX4_copyFrom_60 : decode cX4_copyFrom 60 = .ok (.aload_n 0, 1) := by decide +kernel
theorem dX4_copyFrom_61 : decode cX4_copyFrom 61 = .ok (.getfield 31, 3) := by decide +kernel
theorem dX4_copyFrom_64 : decode cX4_copyFrom 64 = .ok (.iconst 0, 1) := by decide +kernel
theorem dX4_copyFrom_65 : decode cX4_copyFrom 65 = .ok (.bipush 8, 2) := by decide +kernel
theorem dX4_copyFrom_67 : decode cX4_copyFrom 67 = .ok (.invokestatic 60, 3) := by decide +kernel
theorem dX4_copyFrom_70 : decode cX4_copyFrom 70 = .ok (.aload_n 1, 1) := by decide +kernel
theorem dX4_copyFrom_71 : decode cX4_copyFrom 71 = .ok (.getfield 34, 3) := by decide +kernel
theorem dX4_copyFrom_74 : decode cX4_copyFrom 74 = .ok (.iconst 0, 1) := by decide +kernel
theorem dX4_copyFrom_75 : decode cX4_copyFrom 75 = .ok (.aload_n 0, 1) := by decide +kernel
theorem dX4_copyFrom_76 : decode cX4_copyFrom 76 = .ok (.getfield 34, 3) := by decide +kernel
theorem dX4_copyFrom_79 : decode cX4_copyFrom 79 = .ok (.iconst 0, 1) := by decide +kernel
theorem dX4_copyFrom_80 : decode cX4_copyFrom 80 = .ok (.bipush 6, 2) := by decide +kernel
theorem dX4_copyFrom_82 : decode cX4_copyFrom 82 = .ok (.invokestatic 60, 3) := by decide +kernel
theorem dX4_copyFrom_85 : decode cX4_copyFrom 85 = .ok (.aload_n 1, 1) := by decide +kernel
theorem dX4_copyFrom_86 : decode cX4_copyFrom 86 = .ok (.getfield 37, 3) := by decide +kernel
theorem dX4_copyFrom_89 : decode cX4_copyFrom 89 = .ok (.iconst 0, 1) := by decide +kernel
theorem dX4_copyFrom_90 : decode cX4_copyFrom 90 = .ok (.aload_n 0, 1) := by decide +kernel
theorem dX4_copyFrom_91 : decode cX4_copyFrom 91 = .ok (.getfield 37, 3) := by decide +kernel
theorem dX4_copyFrom_94 : decode cX4_copyFrom 94 = .ok (.iconst 0, 1) := by decide +kernel
theorem dX4_copyFrom_95 : decode cX4_copyFrom 95 = .ok (.bipush 6, 2) := by decide +kernel
theorem dX4_copyFrom_97 : decode cX4_copyFrom 97 = .ok (.invokestatic 60, 3) := by decide +kernel
theorem dX4_copyFrom_100 : decode cX4_copyFrom 100 = .ok (.aload_n 1, 1) := by decide +kernel
theorem dX4_copyFrom_101 : decode cX4_copyFrom 101 = .ok (.getfield 40, 3) := by decide +kernel
theorem dX4_copyFrom_104 : decode cX4_copyFrom 104 = .ok (.iconst 0, 1) := by decide +kernel
theorem dX4_copyFrom_105 : decode cX4_copyFrom 105 = .ok (.aload_n 0, 1) := by decide +kernel
theorem dX4_copyFrom_106 : decode cX4_copyFrom 106 = .ok (.getfield 40, 3) := by decide +kernel
theorem dX4_copyFrom_109 : decode cX4_copyFrom 109 = .ok (.iconst 0, 1) := by decide +kernel
theorem dX4_copyFrom_110 : decode cX4_copyFrom 110 = .ok (.bipush 6, 2) := by decide +kernel
theorem dX4_copyFrom_112 : decode cX4_copyFrom 112 = .ok (.invokestatic 60, 3) := by decide +kernel
theorem dX4_copyFrom_115 : decode cX4_copyFrom 115 = .ok (.aload_n 0, 1) := by decide +kernel
theorem dX4_copyFrom_116 : decode cX4_copyFrom 116 = .ok (.aload_n 1, 1) := by decide +kernel
theorem dX4_copyFrom_117 : decode cX4_copyFrom 117 = .ok (.getfield 43, 3) := by decide +kernel
theorem dX4_copyFrom_120 : decode cX4_copyFrom 120 = .ok (.putfield 43, 3) := by decide +kernel
theorem dX4_copyFrom_123 : decode cX4_copyFrom 123 = .ok (.aload_n 0, 1) := by decide +kernel
theorem dX4_copyFrom_124 : decode cX4_copyFrom 124 = .ok (.aload_n 1, 1) := by decide +kernel
theorem dX4_copyFrom_125 : decode cX4_copyFrom 125 = .ok (.getfield 47, 3) := by decide +kernel
theorem dX4_copyFrom_128 : decode cX4_copyFrom 128 = .ok (.putfield 47, 3) := by decide +kernel
theorem dX4_copyFrom_131 : decode cX4_copyFrom 131 = .ok (.aload_n 0, 1) := by decide +kernel
theorem dX4_copyFrom_132 : decode cX4_copyFrom 132 = .ok (.aload_n 1, 1) := by decide +kernel
theorem dX4_copyFrom_133 : decode cX4_copyFrom 133 = .ok (.getfield 50, 3) := by decide +kernel
theorem dX4_copyFrom_136 : decode cX4_copyFrom 136 = .ok (.putfield 50, 3) := by decide +kernel
theorem dX4_copyFrom_139 : decode cX4_copyFrom 139 = .ok (.aload_n 0, 1) := by decide +kernel
theorem dX4_copyFrom_140 : decode cX4_copyFrom 140 = .ok (.aload_n 1, 1) := by decide +kernel
theorem dX4_copyFrom_141 : decode cX4_copyFrom 141 = .ok (.getfield 53, 3) := by decide +kernel
theorem dX4_copyFrom_144 : decode cX4_copyFrom 144 = .ok (.putfield 53, 3) := by decide +kernel
theorem dX4_copyFrom_147 : decode cX4_copyFrom 147 = .ok (.return_, 1) := by decide +kernel
theorem dX4_go_0 : decode cX4_go 0 = .ok (.aload_n 0, 1) := by decide +kernel
theorem dX4_go_1 : decode cX4_go 1 = .ok (.invokevirtual 66, 3) := by decide +kernel
theorem dX4_go_4 : decode cX4_go 4 = .ok (.aload_n 0, 1) := by decide +kernel
theorem dX4_go_5 : decode cX4_go 5 = .ok (.getfield 12, 3) := by decide +kernel
theorem dX4_go_8 : decode cX4_go 8 = .ok (.iload_n 3, 1) := by decide +kernel
theorem dX4_go_9 : decode cX4_go 9 = .ok (.iload_n 2, 1) := by decide +kernel
theorem dX4_go_10 : decode cX4_go 10 = .ok (.aload_n 0, 1) := by decide +kernel
theorem dX4_go_11 : decode cX4_go 11 = .ok (.getfield 43, 3) := by decide +kernel
theorem dX4_go_14 : decode cX4_go 14 = .ok (.invokevirtual 69, 3) := by decide +kernel
theorem dX4_go_17 : decode cX4_go 17 = .ok (.istore 4, 2) := by decide +kernel
theorem dX4_go_19 : decode cX4_go 19 = .ok (.aload_n 0, 1) := by decide +kernel
theorem dX4_go_20 : decode cX4_go 20 = .ok (.getfield 18, 3) := by decide +kernel
theorem dX4_go_23 : decode cX4_go 23 = .ok (.iload_n 1, 1) := by decide +kernel
theorem dX4_go_24 : decode cX4_go 24 = .ok (.iload_n 2, 1) := by decide +kernel
theorem dX4_go_25 : decode cX4_go 25 = .ok (.iastore, 1) := by decide +kernel
theorem dX4_go_26 : decode cX4_go 26 = .ok (.aload_n 0, 1) := by decide +kernel
theorem dX4_go_27 : decode cX4_go 27 = .ok (.dup, 1) := by decide +kernel
theorem dX4_go_28 : decode cX4_go 28 = .ok (.getfield 47, 3) := by decide +kernel
theorem dX4_go_31 : decode cX4_go 31 = .ok (.iload 4, 2) := by decide +kernel
theorem dX4_go_33 : decode cX4_go 33 = .ok (.ior, 1) := by decide +kernel
theorem dX4_go_34 : decode cX4_go 34 = .ok (.putfield 47, 3) := by decide +kernel
theorem dX4_go_37 : decode cX4_go 37 = .ok (.aload_n 0, 1) := by decide +kernel
theorem dX4_go_38 : decode cX4_go 38 = .ok (.aload_n 0, 1) := by decide +kernel
theorem dX4_go_39 : decode cX4_go 39 = .ok (.getfield 43, 3) := by decide +kernel
theorem dX4_go_42 : decode cX4_go 42 = .ok (.iconst 1, 1) := by decide +kernel
theorem dX4_go_43 : decode cX4_go 43 = .ok (.iadd, 1) := by decide +kernel
theorem dX4_go_44 : decode cX4_go 44 = .ok (.bipush 59, 2) := by decide +kernel
theorem dX4_go_46 : decode cX4_go 46 = .ok (.invokestatic 73, 3) := by decide +kernel
theorem dX4_go_49 : decode cX4_go 49 = .ok (.putfield 43, 3) := by decide +kernel
theorem dX4_go_52 : decode cX4_go 52 = .ok (.iload 4, 2) := by decide +kernel
theorem dX4_go_54 : decode cX4_go 54 = .ok (.ireturn, 1) := by decide +kernel
theorem dX4_remember_0 : decode cX4_remember 0 = .ok (.aload_n 0, 1) := by decide +kernel
theorem dX4_remember_1 : decode cX4_remember 1 = .ok (.getfield 50, 3) := by decide +kernel
theorem dX4_remember_4 : decode cX4_remember 4 = .ok (.bipush 8, 2) := by decide +kernel
theorem dX4_remember_6 : decode cX4_remember 6 = .ok (.if_icmp .ne 7, 3) := by decide +kernel
theorem dX4_remember_9 : decode cX4_remember 9 = .ok (.aload_n 0, 1) := by decide +kernel
theorem dX4_remember_10 : decode cX4_remember 10 = .ok (.invokevirtual 79, 3) := by decide +kernel
theorem dX4_remember_13 : decode cX4_remember 13 = .ok (.aload_n 0, 1) := by decide +kernel
theorem dX4_remember_14 : decode cX4_remember 14 = .ok (.getfield 25, 3) := by decide +kernel
theorem dX4_remember_17 : decode cX4_remember 17 = .ok (.aload_n 0, 1) := by decide +kernel
theorem dX4_remember_18 : decode cX4_remember 18 = .ok (.getfield 50, 3) := by decide +kernel
theorem dX4_remember_21 : decode cX4_remember 21 = .ok (.aload_n 0, 1) := by decide +kernel
theorem dX4_remember_22 : decode cX4_remember 22 = .ok (.getfield 43, 3) := by decide +kernel
theorem dX4_remember_25 : decode cX4_remember 25 = .ok (.iastore, 1) := by decide +kernel
theorem dX4_remember_26 : decode cX4_remember 26 = .ok (.aload_n 0, 1) := by decide +kernel
theorem dX4_remember_27 : decode cX4_remember 27 = .ok (.getfield 28, 3) := by decide +kernel
theorem dX4_remember_30 : decode cX4_remember 30 = .ok (.aload_n 0, 1) := by decide +kernel
theorem dX4_remember_31 : decode cX4_remember 31 = .ok (.getfield 50, 3) := by decide +kernel
theorem dX4_remember_34 : decode cX4_remember 34 = .ok (.aload_n 0, 1) := by decide +kernel
theorem dX4_remember_35 : decode cX4_remember 35 = .ok (.getfield 47, 3) := by decide +kernel
theorem dX4_remember_38 : decode cX4_remember 38 = .ok (.iastore, 1) := by decide +kernel
theorem dX4_remember_39 : decode cX4_remember 39 = .ok (.iconst 0, 1) := by decide +kernel
theorem dX4_remember_40 : decode cX4_remember 40 = .ok (.istore_n 1, 1) := by decide +kernel
theorem dX4_remember_41 : decode cX4_remember 41 = .ok (.iconst 0, 1) := by decide +kernel
theorem dX4_remember_42 : decode cX4_remember 42 = .ok (.istore_n 2, 1) := by decide +kernel
theorem dX4_remember_43 : decode cX4_remember 43 = .ok (.iload_n 2, 1) := by decide +kernel
theorem dX4_remember_44 : decode cX4_remember 44 = .ok (.iconst 3, 1) := by decide +kernel
theorem dX4_remember_45 : decode cX4_remember 45 = .ok (.if_icmp .ge 21, 3) := by decide +kernel
theorem dX4_remember_48 : decode cX4_remember 48 = .ok (.iload_n 1, 1) := by decide +kernel
theorem dX4_remember_49 : decode cX4_remember 49 = .ok (.bipush 8, 2) := by decide +kernel
theorem dX4_remember_51 : decode cX4_remember 51 = .ok (.imul, 1) := by decide +kernel
theorem dX4_remember_52 : decode cX4_remember 52 = .ok (.aload_n 0, 1) := by decide +kernel
theorem dX4_remember_53 : decode cX4_remember 53 = .ok (.getfield 18, 3) := by decide +kernel
theorem dX4_remember_56 : decode cX4_remember 56 = .ok (.iload_n 2, 1) := by decide +kernel
theorem dX4_remember_57 : decode cX4_remember 57 = .ok (.iaload, 1) := by decide +kernel
theorem dX4_remember_58 : decode cX4_remember 58 = .ok (.iadd, 1) := by decide +kernel
theorem dX4_remember_59 : decode cX4_remember 59 = .ok (.istore_n 1, 1) := by decide +kernel
theorem dX4_remember_60 : decode cX4_remember 60 = .ok (.iinc 2 1, 3) := by decide +kernel
theorem dX4_remember_63 : decode cX4_remember 63 = .ok (.goto (-20), 3) := by decide +kernel
theorem dX4_remember_66 : decode cX4_remember 66 = .ok (.aload_n 0, 1) := by decide +kernel
theorem dX4_remember_67 : decode cX4_remember 67 = .ok (.getfield 31, 3) := by decide +kernel
theorem dX4_remember_70 : decode cX4_remember 70 = .ok (.aload_n 0, 1) := by decide +kernel
theorem dX4_remember_71 : decode cX4_remember 71 = .ok (.getfield 50, 3) := by decide +kernel
theorem dX4_remember_74 : decode cX4_remember 74 = .ok (.iload_n 1, 1) := by decide +kernel
theorem dX4_remember_75 : decode cX4_remember 75 = .ok (.iastore, 1) := by decide +kernel
theorem dX4_remember_76 : decode cX4_remember 76 = .ok (.aload_n 0, 1) := by decide +kernel
theorem dX4_remember_77 : decode cX4_remember 77 = .ok (.dup, 1) := by decide +kernel
theorem dX4_remember_78 : decode cX4_remember 78 = .ok (.getfield 50, 3) := by decide +kernel
theorem dX4_remember_81 : decode cX4_remember 81 = .ok (.iconst 1, 1) := by decide +kernel
theorem dX4_remember_82 : decode cX4_remember 82 = .ok (.iadd, 1) := by decide +kernel
theorem dX4_remember_83 : decode cX4_remember 83 = .ok (.putfield 50, 3) := by decide +kernel
theorem dX4_remember_86 : decode cX4_remember 86 = .ok (.return_, 1) := by decide +kernel
theorem dX4_dropOldest_0 : decode cX4_dropOldest 0 = .ok (.iconst 1, 1) := by decide +kernel
theorem dX4_dropOldest_1 : decode cX4_dropOldest 1 = .ok (.istore_n 1, 1) := by decide +kernel
theorem dX4_dropOldest_2 : decode cX4_dropOldest 2 = .ok (.iload_n 1, 1) := by decide +kernel
theorem dX4_dropOldest_3 : decode cX4_dropOldest 3 = .ok (.bipush 8, 2) := by decide +kernel
theorem dX4_dropOldest_5 : decode cX4_dropOldest 5 = .ok (.if_icmp .ge 51, 3) := by decide +kernel
theorem dX4_dropOldest_8 : decode cX4_dropOldest 8 = .ok (.aload_n 0, 1) := by decide +kernel
theorem dX4_dropOldest_9 : decode cX4_dropOldest 9 = .ok (.getfield 25, 3) := by decide +kernel
theorem dX4_dropOldest_12 : decode cX4_dropOldest 12 = .ok (.iload_n 1, 1) := by decide +kernel
theorem dX4_dropOldest_13 : decode cX4_dropOldest 13 = .ok (.iconst 1, 1) := by decide +kernel
theorem dX4_dropOldest_14 : decode cX4_dropOldest 14 = .ok (.isub, 1) := by decide +kernel
theorem dX4_dropOldest_15 : decode cX4_dropOldest 15 = .ok (.aload_n 0, 1) := by decide +kernel
theorem dX4_dropOldest_16 : decode cX4_dropOldest 16 = .ok (.getfield 25, 3) := by decide +kernel
theorem dX4_dropOldest_19 : decode cX4_dropOldest 19 = .ok (.iload_n 1, 1) := by decide +kernel
theorem dX4_dropOldest_20 : decode cX4_dropOldest 20 = .ok (.iaload, 1) := by decide +kernel
theorem dX4_dropOldest_21 : decode cX4_dropOldest 21 = .ok (.iastore, 1) := by decide +kernel
theorem dX4_dropOldest_22 : decode cX4_dropOldest 22 = .ok (.aload_n 0, 1) := by decide +kernel
theorem dX4_dropOldest_23 : decode cX4_dropOldest 23 = .ok (.getfield 28, 3) := by decide +kernel
theorem dX4_dropOldest_26 : decode cX4_dropOldest 26 = .ok (.iload_n 1, 1) := by decide +kernel
theorem dX4_dropOldest_27 : decode cX4_dropOldest 27 = .ok (.iconst 1, 1) := by decide +kernel
theorem dX4_dropOldest_28 : decode cX4_dropOldest 28 = .ok (.isub, 1) := by decide +kernel
theorem dX4_dropOldest_29 : decode cX4_dropOldest 29 = .ok (.aload_n 0, 1) := by decide +kernel
theorem dX4_dropOldest_30 : decode cX4_dropOldest 30 = .ok (.getfield 28, 3) := by decide +kernel
theorem dX4_dropOldest_33 : decode cX4_dropOldest 33 = .ok (.iload_n 1, 1) := by decide +kernel
theorem dX4_dropOldest_34 : decode cX4_dropOldest 34 = .ok (.iaload, 1) := by decide +kernel
theorem dX4_dropOldest_35 : decode cX4_dropOldest 35 = .ok (.iastore, 1) := by decide +kernel
theorem dX4_dropOldest_36 : decode cX4_dropOldest 36 = .ok (.aload_n 0, 1) := by decide +kernel
theorem dX4_dropOldest_37 : decode cX4_dropOldest 37 = .ok (.getfield 31, 3) := by decide +kernel
theorem dX4_dropOldest_40 : decode cX4_dropOldest 40 = .ok (.iload_n 1, 1) := by decide +kernel
theorem dX4_dropOldest_41 : decode cX4_dropOldest 41 = .ok (.iconst 1, 1) := by decide +kernel
theorem dX4_dropOldest_42 : decode cX4_dropOldest 42 = .ok (.isub, 1) := by decide +kernel
theorem dX4_dropOldest_43 : decode cX4_dropOldest 43 = .ok (.aload_n 0, 1) := by decide +kernel
theorem dX4_dropOldest_44 : decode cX4_dropOldest 44 = .ok (.getfield 31, 3) := by decide +kernel
theorem dX4_dropOldest_47 : decode cX4_dropOldest 47 = .ok (.iload_n 1, 1) := by decide +kernel
theorem dX4_dropOldest_48 : decode cX4_dropOldest 48 = .ok (.iaload, 1) := by decide +kernel
theorem dX4_dropOldest_49 : decode cX4_dropOldest 49 = .ok (.iastore, 1) := by decide +kernel
theorem dX4_dropOldest_50 : decode cX4_dropOldest 50 = .ok (.iinc 1 1, 3) := by decide +kernel
theorem dX4_dropOldest_53 : decode cX4_dropOldest 53 = .ok (.goto (-51), 3) := by decide +kernel
theorem dX4_dropOldest_56 : decode cX4_dropOldest 56 = .ok (.aload_n 0, 1) := by decide +kernel
theorem dX4_dropOldest_57 : decode cX4_dropOldest 57 = .ok (.bipush 7, 2) := by decide +kernel
theorem dX4_dropOldest_59 : decode cX4_dropOldest 59 = .ok (.putfield 50, 3) := by decide +kernel
theorem dX4_dropOldest_62 : decode cX4_dropOldest 62 = .ok (.return_, 1) := by decide +kernel
theorem dX4_goBack_0 : decode cX4_goBack 0 = .ok (.aload_n 0, 1) := by decide +kernel
theorem dX4_goBack_1 : decode cX4_goBack 1 = .ok (.dup, 1) := by decide +kernel
theorem dX4_goBack_2 : decode cX4_goBack 2 = .ok (.getfield 50, 3) := by decide +kernel
theorem dX4_goBack_5 : decode cX4_goBack 5 = .ok (.iconst 1, 1) := by decide +kernel
theorem dX4_goBack_6 : decode cX4_goBack 6 = .ok (.isub, 1) := by decide +kernel
theorem dX4_goBack_7 : decode cX4_goBack 7 = .ok (.putfield 50, 3) := by decide +kernel
theorem dX4_goBack_10 : decode cX4_goBack 10 = .ok (.aload_n 0, 1) := by decide +kernel
theorem dX4_goBack_11 : decode cX4_goBack 11 = .ok (.aload_n 0, 1) := by decide +kernel
theorem dX4_goBack_12 : decode cX4_goBack 12 = .ok (.getfield 25, 3) := by decide +kernel
theorem dX4_goBack_15 : decode cX4_goBack 15 = .ok (.aload_n 0, 1) := by decide +kernel
theorem dX4_goBack_16 : decode cX4_goBack 16 = .ok (.getfield 50, 3) := by decide +kernel
theorem dX4_goBack_19 : decode cX4_goBack 19 = .ok (.iaload, 1) := by decide +kernel
theorem dX4_goBack_20 : decode cX4_goBack 20 = .ok (.putfield 43, 3) := by decide +kernel
theorem dX4_goBack_23 : decode cX4_goBack 23 = .ok (.aload_n 0, 1) := by decide +kernel
theorem dX4_goBack_24 : decode cX4_goBack 24 = .ok (.aload_n 0, 1) := by decide +kernel
theorem dX4_goBack_25 : decode cX4_goBack 25 = .ok (.getfield 28, 3) := by decide +kernel
theorem dX4_goBack_28 : decode cX4_goBack 28 = .ok (.aload_n 0, 1) := by decide +kernel
theorem dX4_goBack_29 : decode cX4_goBack 29 = .ok (.getfield 50, 3) := by decide +kernel
theorem dX4_goBack_32 : decode cX4_goBack 32 = .ok (.iaload, 1) := by decide +kernel
theorem dX4_goBack_33 : decode cX4_goBack 33 = .ok (.putfield 47, 3) := by decide +kernel
theorem dX4_goBack_36 : decode cX4_goBack 36 = .ok (.aload_n 0, 1) := by decide +kernel
theorem dX4_goBack_37 : decode cX4_goBack 37 = .ok (.getfield 31, 3) := by decide +kernel
theorem dX4_goBack_40 : decode cX4_goBack 40 = .ok (.aload_n 0, 1) := by decide +kernel
theorem dX4_goBack_41 : decode cX4_goBack 41 = .ok (.getfield 50, 3) := by decide +kernel
theorem dX4_goBack_44 : decode cX4_goBack 44 = .ok (.iaload, 1) := by decide +kernel
theorem dX4_goBack_45 : decode cX4_goBack 45 = .ok (.istore_n 1, 1) := by decide +kernel
theorem dX4_goBack_46 : decode cX4_goBack 46 = .ok (.iconst 2, 1) := by decide +kernel
theorem dX4_goBack_47 : decode cX4_goBack 47 = .ok (.istore_n 2, 1) := by decide +kernel
theorem dX4_goBack_48 : decode cX4_goBack 48 = .ok (.iload_n 2, 1) := by decide +kernel
theorem dX4_goBack_49 : decode cX4_goBack 49 = .ok (.ifCond .lt 24, 3) := by decide +kernel
theorem dX4_goBack_52 : decode cX4_goBack 52 = .ok (.aload_n 0, 1) := by decide +kernel
theorem dX4_goBack_53 : decode cX4_goBack 53 = .ok (.getfield 18, 3) := by decide +kernel
theorem dX4_goBack_56 : decode cX4_goBack 56 = .ok (.iload_n 2, 1) := by decide +kernel
theorem dX4_goBack_57 : decode cX4_goBack 57 = .ok (.iload_n 1, 1) := by decide +kernel
theorem dX4_goBack_58 : decode cX4_goBack 58 = .ok (.bipush 8, 2) := by decide +kernel
theorem dX4_goBack_60 : decode cX4_goBack 60 = .ok (.irem, 1) := by decide +kernel
theorem dX4_goBack_61 : decode cX4_goBack 61 = .ok (.iastore, 1) := by decide +kernel
theorem dX4_goBack_62 : decode cX4_goBack 62 = .ok (.iload_n 1, 1) := by decide +kernel
theorem dX4_goBack_63 : decode cX4_goBack 63 = .ok (.bipush 8, 2) := by decide +kernel
theorem dX4_goBack_65 : decode cX4_goBack 65 = .ok (.idiv, 1) := by decide +kernel
theorem dX4_goBack_66 : decode cX4_goBack 66 = .ok (.istore_n 1, 1) := by decide +kernel
theorem dX4_goBack_67 : decode cX4_goBack 67 = .ok (.iinc 2 (-1), 3) := by decide +kernel
theorem dX4_goBack_70 : decode cX4_goBack 70 = .ok (.goto (-22), 3) := by decide +kernel
theorem dX4_goBack_73 : decode cX4_goBack 73 = .ok (.aload_n 0, 1) := by decide +kernel
theorem dX4_goBack_74 : decode cX4_goBack 74 = .ok (.getfield 43, 3) := by decide +kernel
theorem dX4_goBack_77 : decode cX4_goBack 77 = .ok (.ireturn, 1) := by decide +kernel
theorem dX4_addHeard_0 : decode cX4_addHeard 0 = .ok (.aload_n 0, 1) := by decide +kernel
theorem dX4_addHeard_1 : decode cX4_addHeard 1 = .ok (.getfield 34, 3) := by decide +kernel
theorem dX4_addHeard_4 : decode cX4_addHeard 4 = .ok (.aload_n 0, 1) := by decide +kernel
theorem dX4_addHeard_5 : decode cX4_addHeard 5 = .ok (.getfield 53, 3) := by decide +kernel
theorem dX4_addHeard_8 : decode cX4_addHeard 8 = .ok (.iload_n 1, 1) := by decide +kernel
theorem dX4_addHeard_9 : decode cX4_addHeard 9 = .ok (.iastore, 1) := by decide +kernel
theorem dX4_addHeard_10 : decode cX4_addHeard 10 = .ok (.aload_n 0, 1) := by decide +kernel
theorem dX4_addHeard_11 : decode cX4_addHeard 11 = .ok (.getfield 37, 3) := by decide +kernel
theorem dX4_addHeard_14 : decode cX4_addHeard 14 = .ok (.aload_n 0, 1) := by decide +kernel
theorem dX4_addHeard_15 : decode cX4_addHeard 15 = .ok (.getfield 53, 3) := by decide +kernel
theorem dX4_addHeard_18 : decode cX4_addHeard 18 = .ok (.iload_n 2, 1) := by decide +kernel
theorem dX4_addHeard_19 : decode cX4_addHeard 19 = .ok (.iastore, 1) := by decide +kernel
theorem dX4_addHeard_20 : decode cX4_addHeard 20 = .ok (.aload_n 0, 1) := by decide +kernel
theorem dX4_addHeard_21 : decode cX4_addHeard 21 = .ok (.getfield 40, 3) := by decide +kernel
theorem dX4_addHeard_24 : decode cX4_addHeard 24 = .ok (.aload_n 0, 1) := by decide +kernel
theorem dX4_addHeard_25 : decode cX4_addHeard 25 = .ok (.getfield 53, 3) := by decide +kernel
theorem dX4_addHeard_28 : decode cX4_addHeard 28 = .ok (.iload_n 3, 1) := by decide +kernel
theorem dX4_addHeard_29 : decode cX4_addHeard 29 = .ok (.iastore, 1) := by decide +kernel
theorem dX4_addHeard_30 : decode cX4_addHeard 30 = .ok (.aload_n 0, 1) := by decide +kernel
theorem dX4_addHeard_31 : decode cX4_addHeard 31 = .ok (.dup, 1) := by decide +kernel
theorem dX4_addHeard_32 : decode cX4_addHeard 32 = .ok (.getfield 53, 3) := by decide +kernel
theorem dX4_addHeard_35 : decode cX4_addHeard 35 = .ok (.iconst 1, 1) := by decide +kernel
theorem dX4_addHeard_36 : decode cX4_addHeard 36 = .ok (.iadd, 1) := by decide +kernel
theorem dX4_addHeard_37 : decode cX4_addHeard 37 = .ok (.putfield 53, 3) := by decide +kernel
theorem dX4_addHeard_40 : decode cX4_addHeard 40 = .ok (.aload_n 0, 1) := by decide +kernel
theorem dX4_addHeard_41 : decode cX4_addHeard 41 = .ok (.getfield 53, 3) := by decide +kernel
theorem dX4_addHeard_44 : decode cX4_addHeard 44 = .ok (.ireturn, 1) := by decide +kernel
theorem dX4_toldOf_0 : decode cX4_toldOf 0 = .ok (.iconst 0, 1) := by decide +kernel
theorem dX4_toldOf_1 : decode cX4_toldOf 1 = .ok (.istore_n 3, 1) := by decide +kernel
theorem dX4_toldOf_2 : decode cX4_toldOf 2 = .ok (.iconst 0, 1) := by decide +kernel
theorem dX4_toldOf_3 : decode cX4_toldOf 3 = .ok (.istore 4, 2) := by decide +kernel
theorem dX4_toldOf_5 : decode cX4_toldOf 5 = .ok (.iload 4, 2) := by decide +kernel
theorem dX4_toldOf_7 : decode cX4_toldOf 7 = .ok (.aload_n 0, 1) := by decide +kernel
theorem dX4_toldOf_8 : decode cX4_toldOf 8 = .ok (.getfield 53, 3) := by decide +kernel
theorem dX4_toldOf_11 : decode cX4_toldOf 11 = .ok (.if_icmp .ge 43, 3) := by decide +kernel
theorem dX4_toldOf_14 : decode cX4_toldOf 14 = .ok (.aload_n 0, 1) := by decide +kernel
theorem dX4_toldOf_15 : decode cX4_toldOf 15 = .ok (.getfield 37, 3) := by decide +kernel
theorem dX4_toldOf_18 : decode cX4_toldOf 18 = .ok (.iload 4, 2) := by decide +kernel
theorem dX4_toldOf_20 : decode cX4_toldOf 20 = .ok (.iaload, 1) := by decide +kernel
theorem dX4_toldOf_21 : decode cX4_toldOf 21 = .ok (.iload_n 1, 1) := by decide +kernel
theorem dX4_toldOf_22 : decode cX4_toldOf 22 = .ok (.if_icmp .ne 26, 3) := by decide +kernel
theorem dX4_toldOf_25 : decode cX4_toldOf 25 = .ok (.aload_n 0, 1) := by decide +kernel
theorem dX4_toldOf_26 : decode cX4_toldOf 26 = .ok (.getfield 40, 3) := by decide +kernel
theorem dX4_toldOf_29 : decode cX4_toldOf 29 = .ok (.iload 4, 2) := by decide +kernel
theorem dX4_toldOf_31 : decode cX4_toldOf 31 = .ok (.iaload, 1) := by decide +kernel
theorem dX4_toldOf_32 : decode cX4_toldOf 32 = .ok (.iload_n 2, 1) := by decide +kernel
theorem dX4_toldOf_33 : decode cX4_toldOf 33 = .ok (.if_icmp .ne 15, 3) := by decide +kernel
theorem dX4_toldOf_36 : decode cX4_toldOf 36 = .ok (.iload_n 3, 1) := by decide +kernel
theorem dX4_toldOf_37 : decode cX4_toldOf 37 = .ok (.iconst 1, 1) := by decide +kernel
theorem dX4_toldOf_38 : decode cX4_toldOf 38 = .ok (.aload_n 0, 1) := by decide +kernel
theorem dX4_toldOf_39 : decode cX4_toldOf 39 = .ok (.getfield 34, 3) := by decide +kernel
theorem dX4_toldOf_42 : decode cX4_toldOf 42 = .ok (.iload 4, 2) := by decide +kernel
theorem dX4_toldOf_44 : decode cX4_toldOf 44 = .ok (.iaload, 1) := by decide +kernel
theorem dX4_toldOf_45 : decode cX4_toldOf 45 = .ok (.ishl, 1) := by decide +kernel
theorem dX4_toldOf_46 : decode cX4_toldOf 46 = .ok (.ior, 1) := by decide +kernel
theorem dX4_toldOf_47 : decode cX4_toldOf 47 = .ok (.istore_n 3, 1) := by decide +kernel
theorem dX4_toldOf_48 : decode cX4_toldOf 48 = .ok (.iinc 4 1, 3) := by decide +kernel
theorem dX4_toldOf_51 : decode cX4_toldOf 51 = .ok (.goto (-46), 3) := by decide +kernel
theorem dX4_toldOf_54 : decode cX4_toldOf 54 = .ok (.iload_n 3, 1) := by decide +kernel
theorem dX4_toldOf_55 : decode cX4_toldOf 55 = .ok (.ireturn, 1) := by decide +kernel
theorem dX4_awakeAfter_0 : decode cX4_awakeAfter 0 = .ok (.aload_n 0, 1) := by decide +kernel
theorem dX4_awakeAfter_1 : decode cX4_awakeAfter 1 = .ok (.getfield 18, 3) := by decide +kernel
theorem dX4_awakeAfter_4 : decode cX4_awakeAfter 4 = .ok (.iconst 0, 1) := by decide +kernel
theorem dX4_awakeAfter_5 : decode cX4_awakeAfter 5 = .ok (.aload_n 0, 1) := by decide +kernel
theorem dX4_awakeAfter_6 : decode cX4_awakeAfter 6 = .ok (.getfield 22, 3) := by decide +kernel
theorem dX4_awakeAfter_9 : decode cX4_awakeAfter 9 = .ok (.iconst 0, 1) := by decide +kernel
theorem dX4_awakeAfter_10 : decode cX4_awakeAfter 10 = .ok (.iconst 3, 1) := by decide +kernel
theorem dX4_awakeAfter_11 : decode cX4_awakeAfter 11 = .ok (.invokestatic 60, 3) := by decide +kernel
theorem dX4_awakeAfter_14 : decode cX4_awakeAfter 14 = .ok (.iload_n 1, 1) := by decide +kernel
theorem dX4_awakeAfter_15 : decode cX4_awakeAfter 15 = .ok (.i2l, 1) := by decide +kernel
theorem dX4_awakeAfter_16 : decode cX4_awakeAfter 16 = .ok (.lstore_n 3, 1) := by decide +kernel
theorem dX4_awakeAfter_17 : decode cX4_awakeAfter 17 = .ok (.aload_n 0, 1) := by decide +kernel
theorem dX4_awakeAfter_18 : decode cX4_awakeAfter 18 = .ok (.getfield 47, 3) := by decide +kernel
theorem dX4_awakeAfter_21 : decode cX4_awakeAfter 21 = .ok (.istore 5, 2) := by decide +kernel
theorem dX4_awakeAfter_23 : decode cX4_awakeAfter 23 = .ok (.aload_n 0, 1) := by decide +kernel
theorem dX4_awakeAfter_24 : decode cX4_awakeAfter 24 = .ok (.getfield 43, 3) := by decide +kernel
theorem dX4_awakeAfter_27 : decode cX4_awakeAfter 27 = .ok (.istore 6, 2) := by decide +kernel
theorem dX4_awakeAfter_29 : decode cX4_awakeAfter 29 = .ok (.iconst 0, 1) := by decide +kernel
theorem dX4_awakeAfter_30 : decode cX4_awakeAfter 30 = .ok (.istore 7, 2) := by decide +kernel
theorem dX4_awakeAfter_32 : decode cX4_awakeAfter 32 = .ok (.iload 7, 2) := by decide +kernel
theorem dX4_awakeAfter_34 : decode cX4_awakeAfter 34 = .ok (.iload_n 2, 1) := by decide +kernel
theorem dX4_awakeAfter_35 : decode cX4_awakeAfter 35 = .ok (.if_icmp .ge 115, 3) := by decide +kernel
theorem dX4_awakeAfter_38 : decode cX4_awakeAfter 38 = .ok (.iconst 0, 1) := by decide +kernel
theorem dX4_awakeAfter_39 : decode cX4_awakeAfter 39 = .ok (.istore 8, 2) := by decide +kernel
theorem dX4_awakeAfter_41 : decode cX4_awakeAfter 41 = .ok (.iload 8, 2) := by decide +kernel
theorem dX4_awakeAfter_43 : decode cX4_awakeAfter 43 = .ok (.iconst 3, 1) := by decide +kernel
theorem dX4_awakeAfter_44 : decode cX4_awakeAfter 44 = .ok (.if_icmp .ge 89, 3) := by decide +kernel
theorem dX4_awakeAfter_47 : decode cX4_awakeAfter 47 = .ok (.lload_n 3, 1) := by decide +kernel
theorem dX4_awakeAfter_48 : decode cX4_awakeAfter 48 = .ok (.ldc2_w 82, 3) := by decide +kernel
theorem dX4_awakeAfter_51 : decode cX4_awakeAfter 51 = .ok (.lmul, 1) := by decide +kernel
theorem dX4_awakeAfter_52 : decode cX4_awakeAfter 52 = .ok (.ldc2_w 84, 3) := by decide +kernel
theorem dX4_awakeAfter_55 : decode cX4_awakeAfter 55 = .ok (.ladd, 1) := by decide +kernel
theorem dX4_awakeAfter_56 : decode cX4_awakeAfter 56 = .ok (.ldc2_w 86, 3) := by decide +kernel
theorem dX4_awakeAfter_59 : decode cX4_awakeAfter 59 = .ok (.lrem, 1) := by decide +kernel
theorem dX4_awakeAfter_60 : decode cX4_awakeAfter 60 = .ok (.lstore_n 3, 1) := by decide +kernel
theorem dX4_awakeAfter_61 : decode cX4_awakeAfter 61 = .ok (.lload_n 3, 1) := by decide +kernel
theorem dX4_awakeAfter_62 : decode cX4_awakeAfter 62 = .ok (.ldc2_w 88, 3) := by decide +kernel
theorem dX4_awakeAfter_65 : decode cX4_awakeAfter 65 = .ok (.ldiv, 1) := by decide +kernel
theorem dX4_awakeAfter_66 : decode cX4_awakeAfter 66 = .ok (.ldc2_w 90, 3) := by decide +kernel
theorem dX4_awakeAfter_69 : decode cX4_awakeAfter 69 = .ok (.lrem, 1) := by decide +kernel
theorem dX4_awakeAfter_70 : decode cX4_awakeAfter 70 = .ok (.l2i, 1) := by decide +kernel
theorem dX4_awakeAfter_71 : decode cX4_awakeAfter 71 = .ok (.istore 9, 2) := by decide +kernel
theorem dX4_awakeAfter_73 : decode cX4_awakeAfter 73 = .ok (.aload_n 0, 1) := by decide +kernel
theorem dX4_awakeAfter_74 : decode cX4_awakeAfter 74 = .ok (.getfield 12, 3) := by decide +kernel
theorem dX4_awakeAfter_77 : decode cX4_awakeAfter 77 = .ok (.getfield 92, 3) := by decide +kernel
theorem dX4_awakeAfter_80 : decode cX4_awakeAfter 80 = .ok (.aload_n 0, 1) := by decide +kernel
theorem dX4_awakeAfter_81 : decode cX4_awakeAfter 81 = .ok (.getfield 22, 3) := by decide +kernel
theorem dX4_awakeAfter_84 : decode cX4_awakeAfter 84 = .ok (.iload 8, 2) := by decide +kernel
theorem dX4_awakeAfter_86 : decode cX4_awakeAfter 86 = .ok (.iaload, 1) := by decide +kernel
theorem dX4_awakeAfter_87 : decode cX4_awakeAfter 87 = .ok (.iload 9, 2) := by decide +kernel
theorem dX4_awakeAfter_89 : decode cX4_awakeAfter 89 = .ok (.invokestatic 95, 3) := by decide +kernel
theorem dX4_awakeAfter_92 : decode cX4_awakeAfter 92 = .ok (.iaload, 1) := by decide +kernel
theorem dX4_awakeAfter_93 : decode cX4_awakeAfter 93 = .ok (.istore 10, 2) := by decide +kernel
theorem dX4_awakeAfter_95 : decode cX4_awakeAfter 95 = .ok (.iload 10, 2) := by decide +kernel
theorem dX4_awakeAfter_97 : decode cX4_awakeAfter 97 = .ok (.ifCond .lt 30, 3) := by decide +kernel
theorem dX4_awakeAfter_100 : decode cX4_awakeAfter 100 = .ok (.iload 5, 2) := by decide +kernel
theorem dX4_awakeAfter_102 : decode cX4_awakeAfter 102 = .ok (.aload_n 0, 1) := by decide +kernel
theorem dX4_awakeAfter_103 : decode cX4_awakeAfter 103 = .ok (.getfield 12, 3) := by decide +kernel
theorem dX4_awakeAfter_106 : decode cX4_awakeAfter 106 = .ok (.iload 10, 2) := by decide +kernel
theorem dX4_awakeAfter_108 : decode cX4_awakeAfter 108 = .ok (.iload 9, 2) := by decide +kernel
theorem dX4_awakeAfter_110 : decode cX4_awakeAfter 110 = .ok (.iload 6, 2) := by decide +kernel
theorem dX4_awakeAfter_112 : decode cX4_awakeAfter 112 = .ok (.invokevirtual 69, 3) := by decide +kernel
theorem dX4_awakeAfter_115 : decode cX4_awakeAfter 115 = .ok (.ior, 1) := by decide +kernel
theorem dX4_awakeAfter_116 : decode cX4_awakeAfter 116 = .ok (.istore 5, 2) := by decide +kernel
theorem dX4_awakeAfter_118 : decode cX4_awakeAfter 118 = .ok (.aload_n 0, 1) := by decide +kernel
theorem dX4_awakeAfter_119 : decode cX4_awakeAfter 119 = .ok (.getfield 22, 3) := by decide +kernel
theorem dX4_awakeAfter_122 : decode cX4_awakeAfter 122 = .ok (.iload 8, 2) := by decide +kernel
theorem dX4_awakeAfter_124 : decode cX4_awakeAfter 124 = .ok (.iload 9, 2) := by decide +kernel
theorem dX4_awakeAfter_126 : decode cX4_awakeAfter 126 = .ok (.iastore, 1) := by decide +kernel
theorem dX4_awakeAfter_127 : decode cX4_awakeAfter 127 = .ok (.iinc 8 1, 3) := by decide +kernel
theorem dX4_awakeAfter_130 : decode cX4_awakeAfter 130 = .ok (.goto (-89), 3) := by decide +kernel
theorem dX4_awakeAfter_133 : decode cX4_awakeAfter 133 = .ok (.iload 6, 2) := by decide +kernel
theorem dX4_awakeAfter_135 : decode cX4_awakeAfter 135 = .ok (.iconst 1, 1) := by decide +kernel
theorem dX4_awakeAfter_136 : decode cX4_awakeAfter 136 = .ok (.iadd, 1) := by decide +kernel
theorem dX4_awakeAfter_137 : decode cX4_awakeAfter 137 = .ok (.bipush 59, 2) := by decide +kernel
theorem dX4_awakeAfter_139 : decode cX4_awakeAfter 139 = .ok (.invokestatic 73, 3) := by decide +kernel
theorem dX4_awakeAfter_142 : decode cX4_awakeAfter 142 = .ok (.istore 6, 2) := by decide +kernel
theorem dX4_awakeAfter_144 : decode cX4_awakeAfter 144 = .ok (.iinc 7 1, 3) := by decide +kernel
theorem dX4_awakeAfter_147 : decode cX4_awakeAfter 147 = .ok (.goto (-115), 3) := by decide +kernel
theorem dX4_awakeAfter_150 : decode cX4_awakeAfter 150 = .ok (.iload 5, 2) := by decide +kernel
theorem dX4_awakeAfter_152 : decode cX4_awakeAfter 152 = .ok (.invokestatic 98, 3) := by decide +kernel
theorem dX4_awakeAfter_155 : decode cX4_awakeAfter 155 = .ok (.ireturn, 1) := by decide +kernel
theorem dX4_foldSleepersAndPupils_0 : decode cX4_foldSleepersAndPupils 0 = .ok (.lload_n 1, 1) := by decide +kernel
theorem dX4_foldSleepersAndPupils_1 : decode cX4_foldSleepersAndPupils 1 = .ok (.lstore_n 3, 1) := by decide +kernel
theorem dX4_foldSleepersAndPupils_2 : decode cX4_foldSleepersAndPupils 2 = .ok (.iconst 0, 1) := by decide +kernel
theorem dX4_foldSleepersAndPupils_3 : decode cX4_foldSleepersAndPupils 3 = .ok (.istore 5, 2) := by decide +kernel
theorem dX4_foldSleepersAndPupils_5 : decode cX4_foldSleepersAndPupils 5 = .ok (.iload 5, 2) := by decide +kernel
theorem dX4_foldSleepersAndPupils_7 : decode cX4_foldSleepersAndPupils 7 = .ok (.aload_n 0, 1) := by decide +kernel
theorem dX4_foldSleepersAndPupils_8 : decode cX4_foldSleepersAndPupils 8 = .ok (.getfield 12, 3) := by decide +kernel
theorem dX4_foldSleepersAndPupils_11 : decode cX4_foldSleepersAndPupils 11 = .ok (.getfield 104, 3) := by decide +kernel
theorem dX4_foldSleepersAndPupils_14 : decode cX4_foldSleepersAndPupils 14 = .ok (.if_icmp .ge 80, 3) := by decide +kernel
theorem dX4_foldSleepersAndPupils_17 : decode cX4_foldSleepersAndPupils 17 = .ok (.ldc2_w 107, 3) := by decide +kernel
theorem dX4_foldSleepersAndPupils_20 : decode cX4_foldSleepersAndPupils 20 = .ok (.lload_n 3, 1) := by decide +kernel
theorem dX4_foldSleepersAndPupils_21 : decode cX4_foldSleepersAndPupils 21 = .ok (.lmul, 1) := by decide +kernel
theorem dX4_foldSleepersAndPupils_22 : decode cX4_foldSleepersAndPupils 22 = .ok (.aload_n 0, 1) := by decide +kernel
theorem dX4_foldSleepersAndPupils_23 : decode cX4_foldSleepersAndPupils 23 = .ok (.getfield 12, 3) := by decide +kernel
theorem dX4_foldSleepersAndPupils_26 : decode cX4_foldSleepersAndPupils 26 = .ok (.getfield 109, 3) := by decide +kernel
theorem dX4_foldSleepersAndPupils_29 : decode cX4_foldSleepersAndPupils 29 = .ok (.iload 5, 2) := by decide +kernel
theorem dX4_foldSleepersAndPupils_31 : decode cX4_foldSleepersAndPupils 31 = .ok (.iaload, 1) := by decide +kernel
theorem dX4_foldSleepersAndPupils_32 : decode cX4_foldSleepersAndPupils 32 = .ok (.i2l, 1) := by decide +kernel
theorem dX4_foldSleepersAndPupils_33 : decode cX4_foldSleepersAndPupils 33 = .ok (.ladd, 1) := by decide +kernel
theorem dX4_foldSleepersAndPupils_34 : decode cX4_foldSleepersAndPupils 34 = .ok (.lstore_n 3, 1) := by decide +kernel
theorem dX4_foldSleepersAndPupils_35 : decode cX4_foldSleepersAndPupils 35 = .ok (.ldc2_w 107, 3) := by decide +kernel
theorem dX4_foldSleepersAndPupils_38 : decode cX4_foldSleepersAndPupils 38 = .ok (.lload_n 3, 1) := by decide +kernel
theorem dX4_foldSleepersAndPupils_39 : decode cX4_foldSleepersAndPupils 39 = .ok (.lmul, 1) := by decide +kernel
theorem dX4_foldSleepersAndPupils_40 : decode cX4_foldSleepersAndPupils 40 = .ok (.aload_n 0, 1) := by decide +kernel
theorem dX4_foldSleepersAndPupils_41 : decode cX4_foldSleepersAndPupils 41 = .ok (.getfield 12, 3) := by decide +kernel
theorem dX4_foldSleepersAndPupils_44 : decode cX4_foldSleepersAndPupils 44 = .ok (.getfield 112, 3) := by decide +kernel
theorem dX4_foldSleepersAndPupils_47 : decode cX4_foldSleepersAndPupils 47 = .ok (.iload 5, 2) := by decide +kernel
theorem dX4_foldSleepersAndPupils_49 : decode cX4_foldSleepersAndPupils 49 = .ok (.iaload, 1) := by decide +kernel
theorem dX4_foldSleepersAndPupils_50 : decode cX4_foldSleepersAndPupils 50 = .ok (.i2l, 1) := by decide +kernel
theorem dX4_foldSleepersAndPupils_51 : decode cX4_foldSleepersAndPupils 51 = .ok (.ladd, 1) := by decide +kernel
theorem dX4_foldSleepersAndPupils_52 : decode cX4_foldSleepersAndPupils 52 = .ok (.lstore_n 3, 1) := by decide +kernel
theorem dX4_foldSleepersAndPupils_53 : decode cX4_foldSleepersAndPupils 53 = .ok (.ldc2_w 107, 3) := by decide +kernel
theorem dX4_foldSleepersAndPupils_56 : decode cX4_foldSleepersAndPupils 56 = .ok (.lload_n 3, 1) := by decide +kernel
theorem dX4_foldSleepersAndPupils_57 : decode cX4_foldSleepersAndPupils 57 = .ok (.lmul, 1) := by decide +kernel
theorem dX4_foldSleepersAndPupils_58 : decode cX4_foldSleepersAndPupils 58 = .ok (.aload_n 0, 1) := by decide +kernel
theorem dX4_foldSleepersAndPupils_59 : decode cX4_foldSleepersAndPupils 59 = .ok (.getfield 12, 3) := by decide +kernel
theorem dX4_foldSleepersAndPupils_62 : decode cX4_foldSleepersAndPupils 62 = .ok (.getfield 115, 3) := by decide +kernel
theorem dX4_foldSleepersAndPupils_65 : decode cX4_foldSleepersAndPupils 65 = .ok (.iload 5, 2) := by decide +kernel
theorem dX4_foldSleepersAndPupils_67 : decode cX4_foldSleepersAndPupils 67 = .ok (.iaload, 1) := by decide +kernel
theorem dX4_foldSleepersAndPupils_68 : decode cX4_foldSleepersAndPupils 68 = .ok (.i2l, 1) := by decide +kernel
theorem dX4_foldSleepersAndPupils_69 : decode cX4_foldSleepersAndPupils 69 = .ok (.ladd, 1) := by decide +kernel
theorem dX4_foldSleepersAndPupils_70 : decode cX4_foldSleepersAndPupils 70 = .ok (.lstore_n 3, 1) := by decide +kernel
theorem dX4_foldSleepersAndPupils_71 : decode cX4_foldSleepersAndPupils 71 = .ok (.ldc2_w 107, 3) := by decide +kernel
theorem dX4_foldSleepersAndPupils_74 : decode cX4_foldSleepersAndPupils 74 = .ok (.lload_n 3, 1) := by decide +kernel
theorem dX4_foldSleepersAndPupils_75 : decode cX4_foldSleepersAndPupils 75 = .ok (.lmul, 1) := by decide +kernel
theorem dX4_foldSleepersAndPupils_76 : decode cX4_foldSleepersAndPupils 76 = .ok (.aload_n 0, 1) := by decide +kernel
theorem dX4_foldSleepersAndPupils_77 : decode cX4_foldSleepersAndPupils 77 = .ok (.getfield 47, 3) := by decide +kernel
theorem dX4_foldSleepersAndPupils_80 : decode cX4_foldSleepersAndPupils 80 = .ok (.iload 5, 2) := by decide +kernel
theorem dX4_foldSleepersAndPupils_82 : decode cX4_foldSleepersAndPupils 82 = .ok (.invokestatic 118, 3) := by decide +kernel
theorem dX4_foldSleepersAndPupils_85 : decode cX4_foldSleepersAndPupils 85 = .ok (.i2l, 1) := by decide +kernel
theorem dX4_foldSleepersAndPupils_86 : decode cX4_foldSleepersAndPupils 86 = .ok (.ladd, 1) := by decide +kernel
theorem dX4_foldSleepersAndPupils_87 : decode cX4_foldSleepersAndPupils 87 = .ok (.lstore_n 3, 1) := by decide +kernel
theorem dX4_foldSleepersAndPupils_88 : decode cX4_foldSleepersAndPupils 88 = .ok (.iinc 5 1, 3) := by decide +kernel
theorem dX4_foldSleepersAndPupils_91 : decode cX4_foldSleepersAndPupils 91 = .ok (.goto (-86), 3) := by decide +kernel
theorem dX4_foldSleepersAndPupils_94 : decode cX4_foldSleepersAndPupils 94 = .ok (.iconst 0, 1) := by decide +kernel
theorem dX4_foldSleepersAndPupils_95 : decode cX4_foldSleepersAndPupils 95 = .ok (.istore 5, 2) := by decide +kernel
theorem dX4_foldSleepersAndPupils_97 : decode cX4_foldSleepersAndPupils 97 = .ok (.iload 5, 2) := by decide +kernel
theorem dX4_foldSleepersAndPupils_99 : decode cX4_foldSleepersAndPupils 99 = .ok (.iconst 3, 1) := by decide +kernel
theorem dX4_foldSleepersAndPupils_100 : decode cX4_foldSleepersAndPupils 100 = .ok (.if_icmp .ge 24, 3) := by decide +kernel
theorem dX4_foldSleepersAndPupils_103 : decode cX4_foldSleepersAndPupils 103 = .ok (.ldc2_w 107, 3) := by decide +kernel
theorem dX4_foldSleepersAndPupils_106 : decode cX4_foldSleepersAndPupils 106 = .ok (.lload_n 3, 1) := by decide +kernel
theorem dX4_foldSleepersAndPupils_107 : decode cX4_foldSleepersAndPupils 107 = .ok (.lmul, 1) := by decide +kernel
theorem dX4_foldSleepersAndPupils_108 : decode cX4_foldSleepersAndPupils 108 = .ok (.aload_n 0, 1) := by decide +kernel
theorem dX4_foldSleepersAndPupils_109 : decode cX4_foldSleepersAndPupils 109 = .ok (.getfield 18, 3) := by decide +kernel
theorem dX4_foldSleepersAndPupils_112 : decode cX4_foldSleepersAndPupils 112 = .ok (.iload 5, 2) := by decide +kernel
theorem dX4_foldSleepersAndPupils_114 : decode cX4_foldSleepersAndPupils 114 = .ok (.iaload, 1) := by decide +kernel
theorem dX4_foldSleepersAndPupils_115 : decode cX4_foldSleepersAndPupils 115 = .ok (.i2l, 1) := by decide +kernel
theorem dX4_foldSleepersAndPupils_116 : decode cX4_foldSleepersAndPupils 116 = .ok (.ladd, 1) := by decide +kernel
theorem dX4_foldSleepersAndPupils_117 : decode cX4_foldSleepersAndPupils 117 = .ok (.lstore_n 3, 1) := by decide +kernel
theorem dX4_foldSleepersAndPupils_118 : decode cX4_foldSleepersAndPupils 118 = .ok (.iinc 5 1, 3) := by decide +kernel
theorem dX4_foldSleepersAndPupils_121 : decode cX4_foldSleepersAndPupils 121 = .ok (.goto (-24), 3) := by decide +kernel
theorem dX4_foldSleepersAndPupils_124 : decode cX4_foldSleepersAndPupils 124 = .ok (.lload_n 3, 1) := by decide +kernel
theorem dX4_foldSleepersAndPupils_125 : decode cX4_foldSleepersAndPupils 125 = .ok (.lreturn, 1) := by decide +kernel
theorem dX4_foldHeard_0 : decode cX4_foldHeard 0 = .ok (.lload_n 1, 1) := by decide +kernel
theorem dX4_foldHeard_1 : decode cX4_foldHeard 1 = .ok (.lstore_n 3, 1) := by decide +kernel
theorem dX4_foldHeard_2 : decode cX4_foldHeard 2 = .ok (.iconst 0, 1) := by decide +kernel
theorem dX4_foldHeard_3 : decode cX4_foldHeard 3 = .ok (.istore 5, 2) := by decide +kernel
theorem dX4_foldHeard_5 : decode cX4_foldHeard 5 = .ok (.iload 5, 2) := by decide +kernel
theorem dX4_foldHeard_7 : decode cX4_foldHeard 7 = .ok (.aload_n 0, 1) := by decide +kernel
theorem dX4_foldHeard_8 : decode cX4_foldHeard 8 = .ok (.getfield 53, 3) := by decide +kernel
theorem dX4_foldHeard_11 : decode cX4_foldHeard 11 = .ok (.if_icmp .ge 54, 3) := by decide +kernel
theorem dX4_foldHeard_14 : decode cX4_foldHeard 14 = .ok (.ldc2_w 107, 3) := by decide +kernel
theorem dX4_foldHeard_17 : decode cX4_foldHeard 17 = .ok (.lload_n 3, 1) := by decide +kernel
theorem dX4_foldHeard_18 : decode cX4_foldHeard 18 = .ok (.lmul, 1) := by decide +kernel
theorem dX4_foldHeard_19 : decode cX4_foldHeard 19 = .ok (.aload_n 0, 1) := by decide +kernel
theorem dX4_foldHeard_20 : decode cX4_foldHeard 20 = .ok (.getfield 34, 3) := by decide +kernel
theorem dX4_foldHeard_23 : decode cX4_foldHeard 23 = .ok (.iload 5, 2) := by decide +kernel
theorem dX4_foldHeard_25 : decode cX4_foldHeard 25 = .ok (.iaload, 1) := by decide +kernel
theorem dX4_foldHeard_26 : decode cX4_foldHeard 26 = .ok (.i2l, 1) := by decide +kernel
theorem dX4_foldHeard_27 : decode cX4_foldHeard 27 = .ok (.ladd, 1) := by decide +kernel
theorem dX4_foldHeard_28 : decode cX4_foldHeard 28 = .ok (.lstore_n 3, 1) := by decide +kernel
theorem dX4_foldHeard_29 : decode cX4_foldHeard 29 = .ok (.ldc2_w 107, 3) := by decide +kernel
theorem dX4_foldHeard_32 : decode cX4_foldHeard 32 = .ok (.lload_n 3, 1) := by decide +kernel
theorem dX4_foldHeard_33 : decode cX4_foldHeard 33 = .ok (.lmul, 1) := by decide +kernel
theorem dX4_foldHeard_34 : decode cX4_foldHeard 34 = .ok (.aload_n 0, 1) := by decide +kernel
theorem dX4_foldHeard_35 : decode cX4_foldHeard 35 = .ok (.getfield 37, 3) := by decide +kernel
theorem dX4_foldHeard_38 : decode cX4_foldHeard 38 = .ok (.iload 5, 2) := by decide +kernel
theorem dX4_foldHeard_40 : decode cX4_foldHeard 40 = .ok (.iaload, 1) := by decide +kernel
theorem dX4_foldHeard_41 : decode cX4_foldHeard 41 = .ok (.i2l, 1) := by decide +kernel
theorem dX4_foldHeard_42 : decode cX4_foldHeard 42 = .ok (.ladd, 1) := by decide +kernel
theorem dX4_foldHeard_43 : decode cX4_foldHeard 43 = .ok (.lstore_n 3, 1) := by decide +kernel
theorem dX4_foldHeard_44 : decode cX4_foldHeard 44 = .ok (.ldc2_w 107, 3) := by decide +kernel
theorem dX4_foldHeard_47 : decode cX4_foldHeard 47 = .ok (.lload_n 3, 1) := by decide +kernel
theorem dX4_foldHeard_48 : decode cX4_foldHeard 48 = .ok (.lmul, 1) := by decide +kernel
theorem dX4_foldHeard_49 : decode cX4_foldHeard 49 = .ok (.aload_n 0, 1) := by decide +kernel
theorem dX4_foldHeard_50 : decode cX4_foldHeard 50 = .ok (.getfield 40, 3) := by decide +kernel
theorem dX4_foldHeard_53 : decode cX4_foldHeard 53 = .ok (.iload 5, 2) := by decide +kernel
theorem dX4_foldHeard_55 : decode cX4_foldHeard 55 = .ok (.iaload, 1) := by decide +kernel
theorem dX4_foldHeard_56 : decode cX4_foldHeard 56 = .ok (.i2l, 1) := by decide +kernel
theorem dX4_foldHeard_57 : decode cX4_foldHeard 57 = .ok (.ladd, 1) := by decide +kernel
theorem dX4_foldHeard_58 : decode cX4_foldHeard 58 = .ok (.lstore_n 3, 1) := by decide +kernel
theorem dX4_foldHeard_59 : decode cX4_foldHeard 59 = .ok (.iinc 5 1, 3) := by decide +kernel
theorem dX4_foldHeard_62 : decode cX4_foldHeard 62 = .ok (.goto (-57), 3) := by decide +kernel
theorem dX4_foldHeard_65 : decode cX4_foldHeard 65 = .ok (.lload_n 3, 1) := by decide +kernel
theorem dX4_foldHeard_66 : decode cX4_foldHeard 66 = .ok (.lreturn, 1) := by decide +kernel
theorem dX5_init_0 : decode cX5_init 0 = .ok (.aload_n 0, 1) := by decide +kernel
theorem dX5_init_1 : decode cX5_init 1 = .ok (.invokespecial 1, 3) := by decide +kernel
theorem dX5_init_4 : decode cX5_init 4 = .ok (.return_, 1) := by decide +kernel
theorem dX5_wakingNoise_0 : decode cX5_wakingNoise 0 = .ok (.aload_n 0, 1) := by decide +kernel
theorem dX5_wakingNoise_1 : decode cX5_wakingNoise 1 = .ok (.iload_n 1, 1) := by decide +kernel
theorem dX5_wakingNoise_2 : decode cX5_wakingNoise 2 = .ok (.iload_n 2, 1) := by decide +kernel
theorem dX5_wakingNoise_3 : decode cX5_wakingNoise 3 = .ok (.iload_n 3, 1) := by decide +kernel
theorem dX5_wakingNoise_4 : decode cX5_wakingNoise 4 = .ok (.invokespecial 7, 3) := by decide +kernel
theorem dX5_wakingNoise_7 : decode cX5_wakingNoise 7 = .ok (.istore 4, 2) := by decide +kernel
theorem dX5_wakingNoise_9 : decode cX5_wakingNoise 9 = .ok (.iload_n 2, 1) := by decide +kernel
theorem dX5_wakingNoise_10 : decode cX5_wakingNoise 10 = .ok (.bipush 10, 2) := by decide +kernel
theorem dX5_wakingNoise_12 : decode cX5_wakingNoise 12 = .ok (.irem, 1) := by decide +kernel
theorem dX5_wakingNoise_13 : decode cX5_wakingNoise 13 = .ok (.ifCond .ne 10, 3) := by decide +kernel
theorem dX5_wakingNoise_16 : decode cX5_wakingNoise 16 = .ok (.iload 4, 2) := by decide +kernel
theorem dX5_wakingNoise_18 : decode cX5_wakingNoise 18 = .ok (.iconst 2, 1) := by decide +kernel
theorem dX5_wakingNoise_19 : decode cX5_wakingNoise 19 = .ok (.idiv, 1) := by decide +kernel
theorem dX5_wakingNoise_20 : decode cX5_wakingNoise 20 = .ok (.goto 7, 3) := by decide +kernel
theorem dX5_wakingNoise_23 : decode cX5_wakingNoise 23 = .ok (.iload 4, 2) := by decide +kernel
theorem dX5_wakingNoise_25 : decode cX5_wakingNoise 25 = .ok (.iconst 3, 1) := by decide +kernel
theorem dX5_wakingNoise_26 : decode cX5_wakingNoise 26 = .ok (.iadd, 1) := by decide +kernel
theorem dX5_wakingNoise_27 : decode cX5_wakingNoise 27 = .ok (.ireturn, 1) := by decide +kernel
theorem dX6_init_0 : decode cX6_init 0 = .ok (.aload_n 0, 1) := by decide +kernel
theorem dX6_init_1 : decode cX6_init 1 = .ok (.invokespecial 1, 3) := by decide +kernel
theorem dX6_init_4 : decode cX6_init 4 = .ok (.return_, 1) := by decide +kernel
theorem dX6_wakingNoise_0 : decode cX6_wakingNoise 0 = .ok (.aload_n 0, 1) := by decide +kernel
theorem dX6_wakingNoise_1 : decode cX6_wakingNoise 1 = .ok (.iload_n 1, 1) := by decide +kernel
theorem dX6_wakingNoise_2 : decode cX6_wakingNoise 2 = .ok (.iload_n 2, 1) := by decide +kernel
theorem dX6_wakingNoise_3 : decode cX6_wakingNoise 3 = .ok (.iload_n 3, 1) := by decide +kernel
theorem dX6_wakingNoise_4 : decode cX6_wakingNoise 4 = .ok (.invokespecial 7, 3) := by decide +kernel
theorem dX6_wakingNoise_7 : decode cX6_wakingNoise 7 = .ok (.istore 4, 2) := by decide +kernel
theorem dX6_wakingNoise_9 : decode cX6_wakingNoise 9 = .ok (.iload_n 2, 1) := by decide +kernel
theorem dX6_wakingNoise_10 : decode cX6_wakingNoise 10 = .ok (.bipush 30, 2) := by decide +kernel
theorem dX6_wakingNoise_12 : decode cX6_wakingNoise 12 = .ok (.if_icmp .ge 8, 3) := by decide +kernel
theorem dX6_wakingNoise_15 : decode cX6_wakingNoise 15 = .ok (.iload 4, 2) := by decide +kernel
theorem dX6_wakingNoise_17 : decode cX6_wakingNoise 17 = .ok (.goto 7, 3) := by decide +kernel
theorem dX6_wakingNoise_20 : decode cX6_wakingNoise 20 = .ok (.iconst 2, 1) := by decide +kernel
theorem dX6_wakingNoise_21 : decode cX6_wakingNoise 21 = .ok (.iload 4, 2) := by decide +kernel
theorem dX6_wakingNoise_23 : decode cX6_wakingNoise 23 = .ok (.imul, 1) := by decide +kernel
theorem dX6_wakingNoise_24 : decode cX6_wakingNoise 24 = .ok (.ireturn, 1) := by decide +kernel
theorem dX7_init_0 : decode cX7_init 0 = .ok (.aload_n 0, 1) := by decide +kernel
theorem dX7_init_1 : decode cX7_init 1 = .ok (.invokespecial 1, 3) := by decide +kernel
theorem dX7_init_4 : decode cX7_init 4 = .ok (.return_, 1) := by decide +kernel
theorem dX7_wakingNoise_0 : decode cX7_wakingNoise 0 = .ok (.iload_n 1, 1) := by decide +kernel
theorem dX7_wakingNoise_1 : decode cX7_wakingNoise 1 = .ok (.iconst 2, 1) := by decide +kernel
theorem dX7_wakingNoise_2 : decode cX7_wakingNoise 2 = .ok (.iadd, 1) := by decide +kernel
theorem dX7_wakingNoise_3 : decode cX7_wakingNoise 3 = .ok (.ireturn, 1) := by decide +kernel
theorem dX8_init_0 : decode cX8_init 0 = .ok (.aload_n 0, 1) := by decide +kernel
theorem dX8_init_1 : decode cX8_init 1 = .ok (.invokespecial 3, 3) := by decide +kernel
theorem dX8_init_4 : decode cX8_init 4 = .ok (.aload_n 0, 1) := by decide +kernel
theorem dX8_init_5 : decode cX8_init 5 = .ok (.sipush 150, 3) := by decide +kernel
theorem dX8_init_8 : decode cX8_init 8 = .ok (.newarray .byte, 2) := by decide +kernel
theorem dX8_init_10 : decode cX8_init 10 = .ok (.putfield 9, 3) := by decide +kernel
theorem dX8_init_13 : decode cX8_init 13 = .ok (.return_, 1) := by decide +kernel
theorem dX8_append_0 : decode cX8_append 0 = .ok (.aload_n 0, 1) := by decide +kernel
theorem dX8_append_1 : decode cX8_append 1 = .ok (.getfield 9, 3) := by decide +kernel
theorem dX8_append_4 : decode cX8_append 4 = .ok (.aload_n 0, 1) := by decide +kernel
theorem dX8_append_5 : decode cX8_append 5 = .ok (.getfield 15, 3) := by decide +kernel
theorem dX8_append_8 : decode cX8_append 8 = .ok (.iload_n 1, 1) := by decide +kernel
theorem dX8_append_9 : decode cX8_append 9 = .ok (.i2b, 1) := by decide +kernel
theorem dX8_append_10 : decode cX8_append 10 = .ok (.bastore, 1) := by decide +kernel
theorem dX8_append_11 : decode cX8_append 11 = .ok (.aload_n 0, 1) := by decide +kernel
theorem dX8_append_12 : decode cX8_append 12 = .ok (.dup, 1) := by decide +kernel
theorem dX8_append_13 : decode cX8_append 13 = .ok (.getfield 15, 3) := by decide +kernel
theorem dX8_append_16 : decode cX8_append 16 = .ok (.iconst 1, 1) := by decide +kernel
theorem dX8_append_17 : decode cX8_append 17 = .ok (.iadd, 1) := by decide +kernel
theorem dX8_append_18 : decode cX8_append 18 = .ok (.putfield 15, 3) := by decide +kernel
theorem dX8_append_21 : decode cX8_append 21 = .ok (.aload_n 0, 1) := by decide +kernel
theorem dX8_append_22 : decode cX8_append 22 = .ok (.getfield 15, 3) := by decide +kernel
theorem dX8_append_25 : decode cX8_append 25 = .ok (.ireturn, 1) := by decide +kernel
theorem dX8_readInto_0 : decode cX8_readInto 0 = .ok (.aload_n 1, 1) := by decide +kernel
theorem dX8_readInto_1 : decode cX8_readInto 1 = .ok (.invokevirtual 19, 3) := by decide +kernel
theorem dX8_readInto_4 : decode cX8_readInto 4 = .ok (.aload_n 0, 1) := by decide +kernel
theorem dX8_readInto_5 : decode cX8_readInto 5 = .ok (.iconst 0, 1) := by decide +kernel
theorem dX8_readInto_6 : decode cX8_readInto 6 = .ok (.putfield 24, 3) := by decide +kernel
theorem dX8_readInto_9 : decode cX8_readInto 9 = .ok (.iconst 0, 1) := by decide +kernel
theorem dX8_readInto_10 : decode cX8_readInto 10 = .ok (.istore_n 2, 1) := by decide +kernel
theorem dX8_readInto_11 : decode cX8_readInto 11 = .ok (.aload_n 0, 1) := by decide +kernel
theorem dX8_readInto_12 : decode cX8_readInto 12 = .ok (.invokevirtual 27, 3) := by decide +kernel
theorem dX8_readInto_15 : decode cX8_readInto 15 = .ok (.aload_n 0, 1) := by decide +kernel
theorem dX8_readInto_16 : decode cX8_readInto 16 = .ok (.ldc 30, 2) := by decide +kernel
theorem dX8_readInto_18 : decode cX8_readInto 18 = .ok (.invokevirtual 32, 3) := by decide +kernel
theorem dX8_readInto_21 : decode cX8_readInto 21 = .ok (.ifCond .eq 14, 3) := by decide +kernel
theorem dX8_readInto_24 : decode cX8_readInto 24 = .ok (.aload_n 0, 1) := by decide +kernel
theorem dX8_readInto_25 : decode cX8_readInto 25 = .ok (.invokevirtual 36, 3) := by decide +kernel
theorem dX8_readInto_28 : decode cX8_readInto 28 = .ok (.ifCond .eq 7, 3) := by decide +kernel
theorem dX8_readInto_31 : decode cX8_readInto 31 = .ok (.iconst 1, 1) := by decide +kernel
theorem dX8_readInto_32 : decode cX8_readInto 32 = .ok (.goto 4, 3) := by decide +kernel
theorem dX8_readInto_35 : decode cX8_readInto 35 = .ok (.iconst 0, 1) := by decide +kernel
theorem dX8_readInto_36 : decode cX8_readInto 36 = .ok (.istore_n 3, 1) := by decide +kernel
theorem dX8_readInto_37 : decode cX8_readInto 37 = .ok (.iconst 0, 1) := by decide +kernel
theorem dX8_readInto_38 : decode cX8_readInto 38 = .ok (.istore 4, 2) := by decide +kernel
theorem dX8_readInto_40 : decode cX8_readInto 40 = .ok (.iload_n 3, 1) := by decide +kernel
theorem dX8_readInto_41 : decode cX8_readInto 41 = .ok (.ifCond .eq 39, 3) := by decide +kernel
theorem dX8_readInto_44 : decode cX8_readInto 44 = .ok (.iload 4, 2) := by decide +kernel
theorem dX8_readInto_46 : decode cX8_readInto 46 = .ok (.sipush 150, 3) := by decide +kernel
theorem dX8_readInto_49 : decode cX8_readInto 49 = .ok (.if_icmp .ge 31, 3) := by decide +kernel
theorem dX8_readInto_52 : decode cX8_readInto 52 = .ok (.iinc 2 1, 3) := by decide +kernel
theorem dX8_readInto_55 : decode cX8_readInto 55 = .ok (.aload_n 0, 1) := by decide +kernel
theorem dX8_readInto_56 : decode cX8_readInto 56 = .ok (.invokevirtual 27, 3) := by decide +kernel
theorem dX8_readInto_59 : decode cX8_readInto 59 = .ok (.aload_n 0, 1) := by decide +kernel
theorem dX8_readInto_60 : decode cX8_readInto 60 = .ok (.getfield 40, 3) := by decide +kernel
theorem dX8_readInto_63 : decode cX8_readInto 63 = .ok (.ifCond .ne 5, 3) := by decide +kernel
theorem dX8_readInto_66 : decode cX8_readInto 66 = .ok (.iload_n 2, 1) := by decide +kernel
theorem dX8_readInto_67 : decode cX8_readInto 67 = .ok (.ireturn, 1) := by decide +kernel
theorem dX8_readInto_68 : decode cX8_readInto 68 = .ok (.aload_n 0, 1) := by decide +kernel
theorem dX8_readInto_69 : decode cX8_readInto 69 = .ok (.aload_n 1, 1) := by decide +kernel
theorem dX8_readInto_70 : decode cX8_readInto 70 = .ok (.invokevirtual 43, 3) := by decide +kernel
theorem dX8_readInto_73 : decode cX8_readInto 73 = .ok (.istore_n 3, 1) := by decide +kernel
theorem dX8_readInto_74 : decode cX8_readInto 74 = .ok (.iinc 4 1, 3) := by decide +kernel
theorem dX8_readInto_77 : decode cX8_readInto 77 = .ok (.goto (-37), 3) := by decide +kernel
theorem dX8_readInto_80 : decode cX8_readInto 80 = .ok (.bipush (-10), 2) := by decide +kernel
theorem dX8_readInto_82 : decode cX8_readInto 82 = .ok (.aload_n 0, 1) := by decide +kernel
theorem dX8_readInto_83 : decode cX8_readInto 83 = .ok (.getfield 47, 3) := by decide +kernel
theorem dX8_readInto_86 : decode cX8_readInto 86 = .ok (.isub, 1) := by decide +kernel
theorem dX8_readInto_87 : decode cX8_readInto 87 = .ok (.ireturn, 1) := by decide +kernel
theorem dX8_readItem_0 : decode cX8_readItem 0 = .ok (.aload_n 0, 1) := by decide +kernel
theorem dX8_readItem_1 : decode cX8_readItem 1 = .ok (.ldc 50, 2) := by decide +kernel
theorem dX8_readItem_3 : decode cX8_readItem 3 = .ok (.invokevirtual 32, 3) := by decide +kernel
theorem dX8_readItem_6 : decode cX8_readItem 6 = .ok (.ifCond .eq 9, 3) := by decide +kernel
theorem dX8_readItem_9 : decode cX8_readItem 9 = .ok (.aload_n 0, 1) := by decide +kernel
theorem dX8_readItem_10 : decode cX8_readItem 10 = .ok (.aload_n 1, 1) := by decide +kernel
theorem dX8_readItem_11 : decode cX8_readItem 11 = .ok (.invokevirtual 52, 3) := by decide +kernel
theorem dX8_readItem_14 : decode cX8_readItem 14 = .ok (.ireturn, 1) := by decide +kernel
theorem dX8_readItem_15 : decode cX8_readItem 15 = .ok (.aload_n 0, 1) := by decide +kernel
theorem dX8_readItem_16 : decode cX8_readItem 16 = .ok (.ldc 55, 2) := by decide +kernel
theorem dX8_readItem_18 : decode cX8_readItem 18 = .ok (.invokevirtual 32, 3) := by decide +kernel
theorem dX8_readItem_21 : decode cX8_readItem 21 = .ok (.ifCond .eq 9, 3) := by decide +kernel
theorem dX8_readItem_24 : decode cX8_readItem 24 = .ok (.aload_n 0, 1) := by decide +kernel
theorem dX8_readItem_25 : decode cX8_readItem 25 = .ok (.aload_n 1, 1) := by decide +kernel
theorem dX8_readItem_26 : decode cX8_readItem 26 = .ok (.invokevirtual 57, 3) := by decide +kernel
theorem dX8_readItem_29 : decode cX8_readItem 29 = .ok (.ireturn, 1) := by decide +kernel
theorem dX8_readItem_30 : decode cX8_readItem 30 = .ok (.aload_n 0, 1) := by decide +kernel
theorem dX8_readItem_31 : decode cX8_readItem 31 = .ok (.ldc 60, 2) := by decide +kernel
theorem dX8_readItem_33 : decode cX8_readItem 33 = .ok (.invokevirtual 32, 3) := by decide +kernel
theorem dX8_readItem_36 : decode cX8_readItem 36 = .ok (.ifCond .eq 15, 3) := by decide +kernel
theorem dX8_readItem_39 : decode cX8_readItem 39 = .ok (.aload_n 0, 1) := by decide +kernel
theorem dX8_readItem_40 : decode cX8_readItem 40 = .ok (.aload_n 1, 1) := by decide +kernel
theorem dX8_readItem_41 : decode cX8_readItem 41 = .ok (.invokevirtual 62, 3) := by decide +kernel
theorem dX8_readItem_44 : decode cX8_readItem 44 = .ok (.ifCond .eq 7, 3) := by decide +kernel
theorem dX8_readItem_47 : decode cX8_readItem 47 = .ok (.iconst 1, 1) := by decide +kernel
theorem dX8_readItem_48 : decode cX8_readItem 48 = .ok (.goto 4, 3) := by decide +kernel
theorem dX8_readItem_51 : decode cX8_readItem 51 = .ok (.iconst 0, 1) := by decide +kernel
theorem dX8_readItem_52 : decode cX8_readItem 52 = .ok (.ireturn, 1) := by decide +kernel
theorem dX8_readStair_0 : decode cX8_readStair 0 = .ok (.aload_n 0, 1) := by decide +kernel
theorem dX8_readStair_1 : decode cX8_readStair 1 = .ok (.bipush 7, 2) := by decide +kernel
theorem dX8_readStair_3 : decode cX8_readStair 3 = .ok (.invokevirtual 65, 3) := by decide +kernel
theorem dX8_readStair_6 : decode cX8_readStair 6 = .ok (.istore_n 2, 1) := by decide +kernel
theorem dX8_readStair_7 : decode cX8_readStair 7 = .ok (.iload_n 2, 1) := by decide +kernel
theorem dX8_readStair_8 : decode cX8_readStair 8 = .ok (.iconst (-1), 1) := by decide +kernel
theorem dX8_readStair_9 : decode cX8_readStair 9 = .ok (.if_icmp .ne 7, 3) := by decide +kernel
theorem dX8_readStair_12 : decode cX8_readStair 12 = .ok (.iconst (-1), 1) := by decide +kernel
theorem dX8_readStair_13 : decode cX8_readStair 13 = .ok (.goto 9, 3) := by decide +kernel
theorem dX8_readStair_16 : decode cX8_readStair 16 = .ok (.aload_n 0, 1) := by decide +kernel
theorem dX8_readStair_17 : decode cX8_readStair 17 = .ok (.bipush 7, 2) := by decide +kernel
theorem dX8_readStair_19 : decode cX8_readStair 19 = .ok (.invokevirtual 65, 3) := by decide +kernel
theorem dX8_readStair_22 : decode cX8_readStair 22 = .ok (.istore_n 3, 1) := by decide +kernel
theorem dX8_readStair_23 : decode cX8_readStair 23 = .ok (.iload_n 3, 1) := by decide +kernel
theorem dX8_readStair_24 : decode cX8_readStair 24 = .ok (.iconst (-1), 1) := by decide +kernel
theorem dX8_readStair_25 : decode cX8_readStair 25 = .ok (.if_icmp .eq 8, 3) := by decide +kernel
theorem dX8_readStair_28 : decode cX8_readStair 28 = .ok (.iload_n 2, 1) := by decide +kernel
theorem dX8_readStair_29 : decode cX8_readStair 29 = .ok (.iload_n 3, 1) := by decide +kernel
theorem dX8_readStair_30 : decode cX8_readStair 30 = .ok (.if_icmp .ne 7, 3) := by decide +kernel
theorem dX8_readStair_33 : decode cX8_readStair 33 = .ok (.iconst (-1), 1) := by decide +kernel
theorem dX8_readStair_34 : decode cX8_readStair 34 = .ok (.goto 9, 3) := by decide +kernel
theorem dX8_readStair_37 : decode cX8_readStair 37 = .ok (.aload_n 0, 1) := by decide +kernel
theorem dX8_readStair_38 : decode cX8_readStair 38 = .ok (.bipush 9, 2) := by decide +kernel
theorem dX8_readStair_40 : decode cX8_readStair 40 = .ok (.invokevirtual 65, 3) := by decide +kernel
theorem dX8_readStair_43 : decode cX8_readStair 43 = .ok (.istore 4, 2) := by decide +kernel
theorem dX8_readStair_45 : decode cX8_readStair 45 = .ok (.iload 4, 2) := by decide +kernel
theorem dX8_readStair_47 : decode cX8_readStair 47 = .ok (.iconst (-1), 1) := by decide +kernel
theorem dX8_readStair_48 : decode cX8_readStair 48 = .ok (.if_icmp .ne 5, 3) := by decide +kernel
theorem dX8_readStair_51 : decode cX8_readStair 51 = .ok (.iconst 0, 1) := by decide +kernel
theorem dX8_readStair_52 : decode cX8_readStair 52 = .ok (.ireturn, 1) := by decide +kernel
theorem dX8_readStair_53 : decode cX8_readStair 53 = .ok (.aload_n 1, 1) := by decide +kernel
theorem dX8_readStair_54 : decode cX8_readStair 54 = .ok (.iload_n 2, 1) := by decide +kernel
theorem dX8_readStair_55 : decode cX8_readStair 55 = .ok (.iload_n 3, 1) := by decide +kernel
theorem dX8_readStair_56 : decode cX8_readStair 56 = .ok (.iload 4, 2) := by decide +kernel
theorem dX8_readStair_58 : decode cX8_readStair 58 = .ok (.invokevirtual 69, 3) := by decide +kernel
theorem dX8_readStair_61 : decode cX8_readStair 61 = .ok (.pop, 1) := by decide +kernel
theorem dX8_readStair_62 : decode cX8_readStair 62 = .ok (.aload_n 0, 1) := by decide +kernel
theorem dX8_readStair_63 : decode cX8_readStair 63 = .ok (.invokevirtual 36, 3) := by decide +kernel
theorem dX8_readStair_66 : decode cX8_readStair 66 = .ok (.ireturn, 1) := by decide +kernel
theorem dX8_readSleeper_0 : decode cX8_readSleeper 0 = .ok (.aload_n 1, 1) := by decide +kernel
theorem dX8_readSleeper_1 : decode cX8_readSleeper 1 = .ok (.getfield 73, 3) := by decide +kernel
theorem dX8_readSleeper_4 : decode cX8_readSleeper 4 = .ok (.iconst 5, 1) := by decide +kernel
theorem dX8_readSleeper_5 : decode cX8_readSleeper 5 = .ok (.if_icmp .lt 5, 3) := by decide +kernel
theorem dX8_readSleeper_8 : decode cX8_readSleeper 8 = .ok (.iconst 0, 1) := by decide +kernel
theorem dX8_readSleeper_9 : decode cX8_readSleeper 9 = .ok (.ireturn, 1) := by decide +kernel
theorem dX8_readSleeper_10 : decode cX8_readSleeper 10 = .ok (.aload_n 0, 1) := by decide +kernel
theorem dX8_readSleeper_11 : decode cX8_readSleeper 11 = .ok (.iconst 5, 1) := by decide +kernel
theorem dX8_readSleeper_12 : decode cX8_readSleeper 12 = .ok (.invokevirtual 65, 3) := by decide +kernel
theorem dX8_readSleeper_15 : decode cX8_readSleeper 15 = .ok (.istore_n 2, 1) := by decide +kernel
theorem dX8_readSleeper_16 : decode cX8_readSleeper 16 = .ok (.iload_n 2, 1) := by decide +kernel
theorem dX8_readSleeper_17 : decode cX8_readSleeper 17 = .ok (.iconst (-1), 1) := by decide +kernel
theorem dX8_readSleeper_18 : decode cX8_readSleeper 18 = .ok (.if_icmp .ne 7, 3) := by decide +kernel
theorem dX8_readSleeper_21 : decode cX8_readSleeper 21 = .ok (.iconst (-1), 1) := by decide +kernel
theorem dX8_readSleeper_22 : decode cX8_readSleeper 22 = .ok (.goto 9, 3) := by decide +kernel
theorem dX8_readSleeper_25 : decode cX8_readSleeper 25 = .ok (.aload_n 0, 1) := by decide +kernel
theorem dX8_readSleeper_26 : decode cX8_readSleeper 26 = .ok (.bipush 7, 2) := by decide +kernel
theorem dX8_readSleeper_28 : decode cX8_readSleeper 28 = .ok (.invokevirtual 65, 3) := by decide +kernel
theorem dX8_readSleeper_31 : decode cX8_readSleeper 31 = .ok (.istore_n 3, 1) := by decide +kernel
theorem dX8_readSleeper_32 : decode cX8_readSleeper 32 = .ok (.iload_n 3, 1) := by decide +kernel
theorem dX8_readSleeper_33 : decode cX8_readSleeper 33 = .ok (.iconst (-1), 1) := by decide +kernel
theorem dX8_readSleeper_34 : decode cX8_readSleeper 34 = .ok (.if_icmp .ne 7, 3) := by decide +kernel
theorem dX8_readSleeper_37 : decode cX8_readSleeper 37 = .ok (.iconst (-1), 1) := by decide +kernel
theorem dX8_readSleeper_38 : decode cX8_readSleeper 38 = .ok (.goto 9, 3) := by decide +kernel
theorem dX8_readSleeper_41 : decode cX8_readSleeper 41 = .ok (.aload_n 0, 1) := by decide +kernel
theorem dX8_readSleeper_42 : decode cX8_readSleeper 42 = .ok (.bipush 9, 2) := by decide +kernel
theorem dX8_readSleeper_44 : decode cX8_readSleeper 44 = .ok (.invokevirtual 65, 3) := by decide +kernel
theorem dX8_readSleeper_47 : decode cX8_readSleeper 47 = .ok (.istore 4, 2) := by decide +kernel
theorem dX8_readSleeper_49 : decode cX8_readSleeper 49 = .ok (.iload 4, 2) := by decide +kernel
theorem dX8_readSleeper_51 : decode cX8_readSleeper 51 = .ok (.iconst (-1), 1) := by decide +kernel
theorem dX8_readSleeper_52 : decode cX8_readSleeper 52 = .ok (.if_icmp .ne 5, 3) := by decide +kernel
theorem dX8_readSleeper_55 : decode cX8_readSleeper 55 = .ok (.iconst 0, 1) := by decide +kernel
theorem dX8_readSleeper_56 : decode cX8_readSleeper 56 = .ok (.ireturn, 1) := by decide +kernel
theorem dX8_readSleeper_57 : decode cX8_readSleeper 57 = .ok (.aload_n 1, 1) := by decide +kernel
theorem dX8_readSleeper_58 : decode cX8_readSleeper 58 = .ok (.iload_n 2, 1) := by decide +kernel
theorem dX8_readSleeper_59 : decode cX8_readSleeper 59 = .ok (.iload_n 3, 1) := by decide +kernel
theorem dX8_readSleeper_60 : decode cX8_readSleeper 60 = .ok (.iload 4, 2) := by decide +kernel
theorem dX8_readSleeper_62 : decode cX8_readSleeper 62 = .ok (.invokevirtual 76, 3) := by decide +kernel
theorem dX8_readSleeper_65 : decode cX8_readSleeper 65 = .ok (.pop, 1) := by decide +kernel
theorem dX8_readSleeper_66 : decode cX8_readSleeper 66 = .ok (.aload_n 0, 1) := by decide +kernel
theorem dX8_readSleeper_67 : decode cX8_readSleeper 67 = .ok (.invokevirtual 36, 3) := by decide +kernel
theorem dX8_readSleeper_70 : decode cX8_readSleeper 70 = .ok (.ireturn, 1) := by decide +kernel
theorem dX8_readThing_0 : decode cX8_readThing 0 = .ok (.aload_n 1, 1) := by decide +kernel
theorem dX8_readThing_1 : decode cX8_readThing 1 = .ok (.getfield 79, 3) := by decide +kernel
theorem dX8_readThing_4 : decode cX8_readThing 4 = .ok (.iconst 5, 1) := by decide +kernel
theorem dX8_readThing_5 : decode cX8_readThing 5 = .ok (.if_icmp .lt 5, 3) := by decide +kernel
theorem dX8_readThing_8 : decode cX8_readThing 8 = .ok (.iconst 0, 1) := by decide +kernel
theorem dX8_readThing_9 : decode cX8_readThing 9 = .ok (.ireturn, 1) := by decide +kernel
theorem dX8_readThing_10 : decode cX8_readThing 10 = .ok (.aload_n 0, 1) := by decide +kernel
theorem dX8_readThing_11 : decode cX8_readThing 11 = .ok (.bipush 7, 2) := by decide +kernel
theorem dX8_readThing_13 : decode cX8_readThing 13 = .ok (.invokevirtual 65, 3) := by decide +kernel
theorem dX8_readThing_16 : decode cX8_readThing 16 = .ok (.istore_n 2, 1) := by decide +kernel
theorem dX8_readThing_17 : decode cX8_readThing 17 = .ok (.iload_n 2, 1) := by decide +kernel
theorem dX8_readThing_18 : decode cX8_readThing 18 = .ok (.iconst (-1), 1) := by decide +kernel
theorem dX8_readThing_19 : decode cX8_readThing 19 = .ok (.if_icmp .ne 5, 3) := by decide +kernel
theorem dX8_readThing_22 : decode cX8_readThing 22 = .ok (.iconst 0, 1) := by decide +kernel
theorem dX8_readThing_23 : decode cX8_readThing 23 = .ok (.ireturn, 1) := by decide +kernel
theorem dX8_readThing_24 : decode cX8_readThing 24 = .ok (.aload_n 1, 1) := by decide +kernel
theorem dX8_readThing_25 : decode cX8_readThing 25 = .ok (.iload_n 2, 1) := by decide +kernel
theorem dX8_readThing_26 : decode cX8_readThing 26 = .ok (.invokevirtual 82, 3) := by decide +kernel
theorem dX8_readThing_29 : decode cX8_readThing 29 = .ok (.istore_n 3, 1) := by decide +kernel
theorem dX8_readThing_30 : decode cX8_readThing 30 = .ok (.iconst 0, 1) := by decide +kernel
theorem dX8_readThing_31 : decode cX8_readThing 31 = .ok (.istore 4, 2) := by decide +kernel
theorem dX8_readThing_33 : decode cX8_readThing 33 = .ok (.iload 4, 2) := by decide +kernel
theorem dX8_readThing_35 : decode cX8_readThing 35 = .ok (.iconst 4, 1) := by decide +kernel
theorem dX8_readThing_36 : decode cX8_readThing 36 = .ok (.if_icmp .ge 52, 3) := by decide +kernel
theorem dX8_readThing_39 : decode cX8_readThing 39 = .ok (.aload_n 0, 1) := by decide +kernel
theorem dX8_readThing_40 : decode cX8_readThing 40 = .ok (.iconst 2, 1) := by decide +kernel
theorem dX8_readThing_41 : decode cX8_readThing 41 = .ok (.invokevirtual 65, 3) := by decide +kernel
theorem dX8_readThing_44 : decode cX8_readThing 44 = .ok (.istore 5, 2) := by decide +kernel
theorem dX8_readThing_46 : decode cX8_readThing 46 = .ok (.aload_n 0, 1) := by decide +kernel
theorem dX8_readThing_47 : decode cX8_readThing 47 = .ok (.getfield 40, 3) := by decide +kernel
theorem dX8_readThing_50 : decode cX8_readThing 50 = .ok (.iconst 3, 1) := by decide +kernel
theorem dX8_readThing_51 : decode cX8_readThing 51 = .ok (.if_icmp .ne 5, 3) := by decide +kernel
theorem dX8_readThing_54 : decode cX8_readThing 54 = .ok (.iconst 1, 1) := by decide +kernel
theorem dX8_readThing_55 : decode cX8_readThing 55 = .ok (.ireturn, 1) := by decide +kernel
theorem dX8_readThing_56 : decode cX8_readThing 56 = .ok (.iload 5, 2) := by decide +kernel
theorem dX8_readThing_58 : decode cX8_readThing 58 = .ok (.iconst (-1), 1) := by decide +kernel
theorem dX8_readThing_59 : decode cX8_readThing 59 = .ok (.if_icmp .eq 13, 3) := by decide +kernel
theorem dX8_readThing_62 : decode cX8_readThing 62 = .ok (.iload 5, 2) := by decide +kernel
theorem dX8_readThing_64 : decode cX8_readThing 64 = .ok (.aload_n 1, 1) := by decide +kernel
theorem dX8_readThing_65 : decode cX8_readThing 65 = .ok (.iload_n 3, 1) := by decide +kernel
theorem dX8_readThing_66 : decode cX8_readThing 66 = .ok (.invokevirtual 85, 3) := by decide +kernel
theorem dX8_readThing_69 : decode cX8_readThing 69 = .ok (.if_icmp .ne 5, 3) := by decide +kernel
theorem dX8_readThing_72 : decode cX8_readThing 72 = .ok (.iconst 0, 1) := by decide +kernel
theorem dX8_readThing_73 : decode cX8_readThing 73 = .ok (.ireturn, 1) := by decide +kernel
theorem dX8_readThing_74 : decode cX8_readThing 74 = .ok (.aload_n 1, 1) := by decide +kernel
theorem dX8_readThing_75 : decode cX8_readThing 75 = .ok (.iload_n 3, 1) := by decide +kernel
theorem dX8_readThing_76 : decode cX8_readThing 76 = .ok (.iload 5, 2) := by decide +kernel
theorem dX8_readThing_78 : decode cX8_readThing 78 = .ok (.invokevirtual 88, 3) := by decide +kernel
theorem dX8_readThing_81 : decode cX8_readThing 81 = .ok (.pop, 1) := by decide +kernel
theorem dX8_readThing_82 : decode cX8_readThing 82 = .ok (.iinc 4 1, 3) := by decide +kernel
theorem dX8_readThing_85 : decode cX8_readThing 85 = .ok (.goto (-52), 3) := by decide +kernel
theorem dX8_readThing_88 : decode cX8_readThing 88 = .ok (.aload_n 0, 1) := by decide +kernel
theorem dX8_readThing_89 : decode cX8_readThing 89 = .ok (.invokevirtual 36, 3) := by decide +kernel
theorem dX8_readThing_92 : decode cX8_readThing 92 = .ok (.ireturn, 1) := by decide +kernel
theorem dX8_stopNext_0 : decode cX8_stopNext 0 = .ok (.aload_n 0, 1) := by decide +kernel
theorem dX8_stopNext_1 : decode cX8_stopNext 1 = .ok (.invokevirtual 27, 3) := by decide +kernel
theorem dX8_stopNext_4 : decode cX8_stopNext 4 = .ok (.aload_n 0, 1) := by decide +kernel
theorem dX8_stopNext_5 : decode cX8_stopNext 5 = .ok (.getfield 40, 3) := by decide +kernel
theorem dX8_stopNext_8 : decode cX8_stopNext 8 = .ok (.iconst 3, 1) := by decide +kernel
theorem dX8_stopNext_9 : decode cX8_stopNext 9 = .ok (.if_icmp .ne 7, 3) := by decide +kernel
theorem dX8_stopNext_12 : decode cX8_stopNext 12 = .ok (.iconst 1, 1) := by decide +kernel
theorem dX8_stopNext_13 : decode cX8_stopNext 13 = .ok (.goto 4, 3) := by decide +kernel
theorem dX8_stopNext_16 : decode cX8_stopNext 16 = .ok (.iconst 0, 1) := by decide +kernel
theorem dX8_stopNext_17 : decode cX8_stopNext 17 = .ok (.ireturn, 1) := by decide +kernel
theorem dX8_numberNext_0 : decode cX8_numberNext 0 = .ok (.aload_n 0, 1) := by decide +kernel
theorem dX8_numberNext_1 : decode cX8_numberNext 1 = .ok (.invokevirtual 27, 3) := by decide +kernel
theorem dX8_numberNext_4 : decode cX8_numberNext 4 = .ok (.aload_n 0, 1) := by decide +kernel
theorem dX8_numberNext_5 : decode cX8_numberNext 5 = .ok (.getfield 40, 3) := by decide +kernel
theorem dX8_numberNext_8 : decode cX8_numberNext 8 = .ok (.iconst 2, 1) := by decide +kernel
theorem dX8_numberNext_9 : decode cX8_numberNext 9 = .ok (.if_icmp .eq 5, 3) := by decide +kernel
theorem dX8_numberNext_12 : decode cX8_numberNext 12 = .ok (.iconst (-1), 1) := by decide +kernel
theorem dX8_numberNext_13 : decode cX8_numberNext 13 = .ok (.ireturn, 1) := by decide +kernel
theorem dX8_numberNext_14 : decode cX8_numberNext 14 = .ok (.iconst 0, 1) := by decide +kernel
theorem dX8_numberNext_15 : decode cX8_numberNext 15 = .ok (.istore_n 2, 1) := by decide +kernel
theorem dX8_numberNext_16 : decode cX8_numberNext 16 = .ok (.aload_n 0, 1) := by decide +kernel
theorem dX8_numberNext_17 : decode cX8_numberNext 17 = .ok (.getfield 47, 3) := by decide +kernel
theorem dX8_numberNext_20 : decode cX8_numberNext 20 = .ok (.istore_n 3, 1) := by decide +kernel
theorem dX8_numberNext_21 : decode cX8_numberNext 21 = .ok (.iload_n 3, 1) := by decide +kernel
theorem dX8_numberNext_22 : decode cX8_numberNext 22 = .ok (.aload_n 0, 1) := by decide +kernel
theorem dX8_numberNext_23 : decode cX8_numberNext 23 = .ok (.getfield 24, 3) := by decide +kernel
theorem dX8_numberNext_26 : decode cX8_numberNext 26 = .ok (.if_icmp .ge 24, 3) := by decide +kernel
theorem dX8_numberNext_29 : decode cX8_numberNext 29 = .ok (.iload_n 2, 1) := by decide +kernel
theorem dX8_numberNext_30 : decode cX8_numberNext 30 = .ok (.bipush 10, 2) := by decide +kernel
theorem dX8_numberNext_32 : decode cX8_numberNext 32 = .ok (.imul, 1) := by decide +kernel
theorem dX8_numberNext_33 : decode cX8_numberNext 33 = .ok (.aload_n 0, 1) := by decide +kernel
theorem dX8_numberNext_34 : decode cX8_numberNext 34 = .ok (.getfield 9, 3) := by decide +kernel
theorem dX8_numberNext_37 : decode cX8_numberNext 37 = .ok (.iload_n 3, 1) := by decide +kernel
theorem dX8_numberNext_38 : decode cX8_numberNext 38 = .ok (.baload, 1) := by decide +kernel
theorem dX8_numberNext_39 : decode cX8_numberNext 39 = .ok (.iadd, 1) := by decide +kernel
theorem dX8_numberNext_40 : decode cX8_numberNext 40 = .ok (.bipush 48, 2) := by decide +kernel
theorem dX8_numberNext_42 : decode cX8_numberNext 42 = .ok (.isub, 1) := by decide +kernel
theorem dX8_numberNext_43 : decode cX8_numberNext 43 = .ok (.istore_n 2, 1) := by decide +kernel
theorem dX8_numberNext_44 : decode cX8_numberNext 44 = .ok (.iinc 3 1, 3) := by decide +kernel
theorem dX8_numberNext_47 : decode cX8_numberNext 47 = .ok (.goto (-26), 3) := by decide +kernel
theorem dX8_numberNext_50 : decode cX8_numberNext 50 = .ok (.iload_n 2, 1) := by decide +kernel
theorem dX8_numberNext_51 : decode cX8_numberNext 51 = .ok (.iload_n 1, 1) := by decide +kernel
theorem dX8_numberNext_52 : decode cX8_numberNext 52 = .ok (.if_icmp .gt 7, 3) := by decide +kernel
theorem dX8_numberNext_55 : decode cX8_numberNext 55 = .ok (.iload_n 2, 1) := by decide +kernel
theorem dX8_numberNext_56 : decode cX8_numberNext 56 = .ok (.goto 4, 3) := by decide +kernel
theorem dX8_numberNext_59 : decode cX8_numberNext 59 = .ok (.iconst (-1), 1) := by decide +kernel
theorem dX8_numberNext_60 : decode cX8_numberNext 60 = .ok (.ireturn, 1) := by decide +kernel
theorem dX8_isWord_0 : decode cX8_isWord 0 = .ok (.aload_n 0, 1) := by decide +kernel
theorem dX8_isWord_1 : decode cX8_isWord 1 = .ok (.getfield 40, 3) := by decide +kernel
theorem dX8_isWord_4 : decode cX8_isWord 4 = .ok (.iconst 1, 1) := by decide +kernel
theorem dX8_isWord_5 : decode cX8_isWord 5 = .ok (.if_icmp .ne 19, 3) := by decide +kernel
theorem dX8_isWord_8 : decode cX8_isWord 8 = .ok (.aload_n 0, 1) := by decide +kernel
theorem dX8_isWord_9 : decode cX8_isWord 9 = .ok (.getfield 24, 3) := by decide +kernel
theorem dX8_isWord_12 : decode cX8_isWord 12 = .ok (.aload_n 0, 1) := by decide +kernel
theorem dX8_isWord_13 : decode cX8_isWord 13 = .ok (.getfield 47, 3) := by decide +kernel
theorem dX8_isWord_16 : decode cX8_isWord 16 = .ok (.isub, 1) := by decide +kernel
theorem dX8_isWord_17 : decode cX8_isWord 17 = .ok (.aload_n 1, 1) := by decide +kernel
theorem dX8_isWord_18 : decode cX8_isWord 18 = .ok (.invokevirtual 92, 3) := by decide +kernel
theorem dX8_isWord_21 : decode cX8_isWord 21 = .ok (.if_icmp .eq 5, 3) := by decide +kernel
theorem dX8_isWord_24 : decode cX8_isWord 24 = .ok (.iconst 0, 1) := by decide +kernel
theorem dX8_isWord_25 : decode cX8_isWord 25 = .ok (.ireturn, 1) := by decide +kernel
theorem dX8_isWord_26 : decode cX8_isWord 26 = .ok (.iconst 0, 1) := by decide +kernel
theorem dX8_isWord_27 : decode cX8_isWord 27 = .ok (.istore_n 2, 1) := by decide +kernel
theorem dX8_isWord_28 : decode cX8_isWord 28 = .ok (.iload_n 2, 1) := by decide +kernel
theorem dX8_isWord_29 : decode cX8_isWord 29 = .ok (.aload_n 1, 1) := by decide +kernel
theorem dX8_isWord_30 : decode cX8_isWord 30 = .ok (.invokevirtual 92, 3) := by decide +kernel
theorem dX8_isWord_33 : decode cX8_isWord 33 = .ok (.if_icmp .ge 30, 3) := by decide +kernel
theorem dX8_isWord_36 : decode cX8_isWord 36 = .ok (.aload_n 0, 1) := by decide +kernel
theorem dX8_isWord_37 : decode cX8_isWord 37 = .ok (.getfield 9, 3) := by decide +kernel
theorem dX8_isWord_40 : decode cX8_isWord 40 = .ok (.aload_n 0, 1) := by decide +kernel
theorem dX8_isWord_41 : decode cX8_isWord 41 = .ok (.getfield 47, 3) := by decide +kernel
theorem dX8_isWord_44 : decode cX8_isWord 44 = .ok (.iload_n 2, 1) := by decide +kernel
theorem dX8_isWord_45 : decode cX8_isWord 45 = .ok (.iadd, 1) := by decide +kernel
theorem dX8_isWord_46 : decode cX8_isWord 46 = .ok (.baload, 1) := by decide +kernel
theorem dX8_isWord_47 : decode cX8_isWord 47 = .ok (.aload_n 1, 1) := by decide +kernel
theorem dX8_isWord_48 : decode cX8_isWord 48 = .ok (.iload_n 2, 1) := by decide +kernel
theorem dX8_isWord_49 : decode cX8_isWord 49 = .ok (.invokevirtual 97, 3) := by decide +kernel
theorem dX8_isWord_52 : decode cX8_isWord 52 = .ok (.if_icmp .eq 5, 3) := by decide +kernel
theorem dX8_isWord_55 : decode cX8_isWord 55 = .ok (.iconst 0, 1) := by decide +kernel
theorem dX8_isWord_56 : decode cX8_isWord 56 = .ok (.ireturn, 1) := by decide +kernel
theorem dX8_isWord_57 : decode cX8_isWord 57 = .ok (.iinc 2 1, 3) := by decide +kernel
theorem dX8_isWord_60 : decode cX8_isWord 60 = .ok (.goto (-32), 3) := by decide +kernel
theorem dX8_isWord_63 : decode cX8_isWord 63 = .ok (.iconst 1, 1) := by decide +kernel
theorem dX8_isWord_64 : decode cX8_isWord 64 = .ok (.ireturn, 1) := by decide +kernel
theorem dX8_advance_0 : decode cX8_advance 0 = .ok (.aload_n 0, 1) := by decide +kernel
theorem dX8_advance_1 : decode cX8_advance 1 = .ok (.aload_n 0, 1) := by decide +kernel
theorem dX8_advance_2 : decode cX8_advance 2 = .ok (.getfield 24, 3) := by decide +kernel
theorem dX8_advance_5 : decode cX8_advance 5 = .ok (.putfield 47, 3) := by decide +kernel
theorem dX8_advance_8 : decode cX8_advance 8 = .ok (.aload_n 0, 1) := by decide +kernel
theorem dX8_advance_9 : decode cX8_advance 9 = .ok (.getfield 47, 3) := by decide +kernel
theorem dX8_advance_12 : decode cX8_advance 12 = .ok (.aload_n 0, 1) := by decide +kernel
theorem dX8_advance_13 : decode cX8_advance 13 = .ok (.getfield 15, 3) := by decide +kernel
theorem dX8_advance_16 : decode cX8_advance 16 = .ok (.if_icmp .ge 30, 3) := by decide +kernel
theorem dX8_advance_19 : decode cX8_advance 19 = .ok (.aload_n 0, 1) := by decide +kernel
theorem dX8_advance_20 : decode cX8_advance 20 = .ok (.getfield 9, 3) := by decide +kernel
theorem dX8_advance_23 : decode cX8_advance 23 = .ok (.aload_n 0, 1) := by decide +kernel
theorem dX8_advance_24 : decode cX8_advance 24 = .ok (.getfield 47, 3) := by decide +kernel
theorem dX8_advance_27 : decode cX8_advance 27 = .ok (.baload, 1) := by decide +kernel
theorem dX8_advance_28 : decode cX8_advance 28 = .ok (.bipush 32, 2) := by decide +kernel
theorem dX8_advance_30 : decode cX8_advance 30 = .ok (.if_icmp .ne 16, 3) := by decide +kernel
theorem dX8_advance_33 : decode cX8_advance 33 = .ok (.aload_n 0, 1) := by decide +kernel
theorem dX8_advance_34 : decode cX8_advance 34 = .ok (.dup, 1) := by decide +kernel
theorem dX8_advance_35 : decode cX8_advance 35 = .ok (.getfield 47, 3) := by decide +kernel
theorem dX8_advance_38 : decode cX8_advance 38 = .ok (.iconst 1, 1) := by decide +kernel
theorem dX8_advance_39 : decode cX8_advance 39 = .ok (.iadd, 1) := by decide +kernel
theorem dX8_advance_40 : decode cX8_advance 40 = .ok (.putfield 47, 3) := by decide +kernel
theorem dX8_advance_43 : decode cX8_advance 43 = .ok (.goto (-35), 3) := by decide +kernel
theorem dX8_advance_46 : decode cX8_advance 46 = .ok (.aload_n 0, 1) := by decide +kernel
theorem dX8_advance_47 : decode cX8_advance 47 = .ok (.aload_n 0, 1) := by decide +kernel
theorem dX8_advance_48 : decode cX8_advance 48 = .ok (.getfield 47, 3) := by decide +kernel
theorem dX8_advance_51 : decode cX8_advance 51 = .ok (.putfield 24, 3) := by decide +kernel
theorem dX8_advance_54 : decode cX8_advance 54 = .ok (.aload_n 0, 1) := by decide +kernel
theorem dX8_advance_55 : decode cX8_advance 55 = .ok (.getfield 47, 3) := by decide +kernel
theorem dX8_advance_58 : decode cX8_advance 58 = .ok (.aload_n 0, 1) := by decide +kernel
theorem dX8_advance_59 : decode cX8_advance 59 = .ok (.getfield 15, 3) := by decide +kernel
theorem dX8_advance_62 : decode cX8_advance 62 = .ok (.if_icmp .lt 11, 3) := by decide +kernel
theorem dX8_advance_65 : decode cX8_advance 65 = .ok (.aload_n 0, 1) := by decide +kernel
theorem dX8_advance_66 : decode cX8_advance 66 = .ok (.iconst 0, 1) := by decide +kernel
theorem dX8_advance_67 : decode cX8_advance 67 = .ok (.putfield 40, 3) := by decide +kernel
theorem dX8_advance_70 : decode cX8_advance 70 = .ok (.goto 115, 3) := by decide +kernel
theorem dX8_advance_73 : decode cX8_advance 73 = .ok (.aload_n 0, 1) := by decide +kernel
theorem dX8_advance_74 : decode cX8_advance 74 = .ok (.getfield 9, 3) := by decide +kernel
theorem dX8_advance_77 : decode cX8_advance 77 = .ok (.aload_n 0, 1) := by decide +kernel
theorem dX8_advance_78 : decode cX8_advance 78 = .ok (.getfield 47, 3) := by decide +kernel
theorem dX8_advance_81 : decode cX8_advance 81 = .ok (.baload, 1) := by decide +kernel
theorem dX8_advance_82 : decode cX8_advance 82 = .ok (.bipush 59, 2) := by decide +kernel
theorem dX8_advance_84 : decode cX8_advance 84 = .ok (.if_icmp .ne 21, 3) := by decide +kernel
theorem dX8_advance_87 : decode cX8_advance 87 = .ok (.aload_n 0, 1) := by decide +kernel
theorem dX8_advance_88 : decode cX8_advance 88 = .ok (.iconst 3, 1) := by decide +kernel
theorem dX8_advance_89 : decode cX8_advance 89 = .ok (.putfield 40, 3) := by decide +kernel
theorem dX8_advance_92 : decode cX8_advance 92 = .ok (.aload_n 0, 1) := by decide +kernel
theorem dX8_advance_93 : decode cX8_advance 93 = .ok (.dup, 1) := by decide +kernel
theorem dX8_advance_94 : decode cX8_advance 94 = .ok (.getfield 24, 3) := by decide +kernel
theorem dX8_advance_97 : decode cX8_advance 97 = .ok (.iconst 1, 1) := by decide +kernel
theorem dX8_advance_98 : decode cX8_advance 98 = .ok (.iadd, 1) := by decide +kernel
theorem dX8_advance_99 : decode cX8_advance 99 = .ok (.putfield 24, 3) := by decide +kernel
theorem dX8_advance_102 : decode cX8_advance 102 = .ok (.goto 83, 3) := by decide +kernel
theorem dX8_advance_105 : decode cX8_advance 105 = .ok (.aload_n 0, 1) := by decide +kernel
theorem dX8_advance_106 : decode cX8_advance 106 = .ok (.bipush 97, 2) := by decide +kernel
theorem dX8_advance_108 : decode cX8_advance 108 = .ok (.bipush 122, 2) := by decide +kernel
theorem dX8_advance_110 : decode cX8_advance 110 = .ok (.invokevirtual 101, 3) := by decide +kernel
theorem dX8_advance_113 : decode cX8_advance 113 = .ok (.aload_n 0, 1) := by decide +kernel
theorem dX8_advance_114 : decode cX8_advance 114 = .ok (.getfield 47, 3) := by decide +kernel
theorem dX8_advance_117 : decode cX8_advance 117 = .ok (.if_icmp .le 23, 3) := by decide +kernel
theorem dX8_advance_120 : decode cX8_advance 120 = .ok (.aload_n 0, 1) := by decide +kernel
theorem dX8_advance_121 : decode cX8_advance 121 = .ok (.iconst 1, 1) := by decide +kernel
theorem dX8_advance_122 : decode cX8_advance 122 = .ok (.putfield 40, 3) := by decide +kernel
theorem dX8_advance_125 : decode cX8_advance 125 = .ok (.aload_n 0, 1) := by decide +kernel
theorem dX8_advance_126 : decode cX8_advance 126 = .ok (.aload_n 0, 1) := by decide +kernel
theorem dX8_advance_127 : decode cX8_advance 127 = .ok (.bipush 97, 2) := by decide +kernel
theorem dX8_advance_129 : decode cX8_advance 129 = .ok (.bipush 122, 2) := by decide +kernel
theorem dX8_advance_131 : decode cX8_advance 131 = .ok (.invokevirtual 101, 3) := by decide +kernel
theorem dX8_advance_134 : decode cX8_advance 134 = .ok (.putfield 24, 3) := by decide +kernel
theorem dX8_advance_137 : decode cX8_advance 137 = .ok (.goto 48, 3) := by decide +kernel
theorem dX8_advance_140 : decode cX8_advance 140 = .ok (.aload_n 0, 1) := by decide +kernel
theorem dX8_advance_141 : decode cX8_advance 141 = .ok (.aload_n 0, 1) := by decide +kernel
theorem dX8_advance_142 : decode cX8_advance 142 = .ok (.bipush 48, 2) := by decide +kernel
theorem dX8_advance_144 : decode cX8_advance 144 = .ok (.bipush 57, 2) := by decide +kernel
theorem dX8_advance_146 : decode cX8_advance 146 = .ok (.invokevirtual 101, 3) := by decide +kernel
theorem dX8_advance_149 : decode cX8_advance 149 = .ok (.putfield 24, 3) := by decide +kernel
theorem dX8_advance_152 : decode cX8_advance 152 = .ok (.aload_n 0, 1) := by decide +kernel
theorem dX8_advance_153 : decode cX8_advance 153 = .ok (.aload_n 0, 1) := by decide +kernel
theorem dX8_advance_154 : decode cX8_advance 154 = .ok (.getfield 24, 3) := by decide +kernel
theorem dX8_advance_157 : decode cX8_advance 157 = .ok (.aload_n 0, 1) := by decide +kernel
theorem dX8_advance_158 : decode cX8_advance 158 = .ok (.getfield 47, 3) := by decide +kernel
theorem dX8_advance_161 : decode cX8_advance 161 = .ok (.if_icmp .le 20, 3) := by decide +kernel
theorem dX8_advance_164 : decode cX8_advance 164 = .ok (.aload_n 0, 1) := by decide +kernel
theorem dX8_advance_165 : decode cX8_advance 165 = .ok (.getfield 24, 3) := by decide +kernel
theorem dX8_advance_168 : decode cX8_advance 168 = .ok (.aload_n 0, 1) := by decide +kernel
theorem dX8_advance_169 : decode cX8_advance 169 = .ok (.getfield 47, 3) := by decide +kernel
theorem dX8_advance_172 : decode cX8_advance 172 = .ok (.isub, 1) := by decide +kernel
theorem dX8_advance_173 : decode cX8_advance 173 = .ok (.iconst 2, 1) := by decide +kernel
theorem dX8_advance_174 : decode cX8_advance 174 = .ok (.if_icmp .gt 7, 3) := by decide +kernel
theorem dX8_advance_177 : decode cX8_advance 177 = .ok (.iconst 2, 1) := by decide +kernel
theorem dX8_advance_178 : decode cX8_advance 178 = .ok (.goto 4, 3) := by decide +kernel
theorem dX8_advance_181 : decode cX8_advance 181 = .ok (.iconst 4, 1) := by decide +kernel
theorem dX8_advance_182 : decode cX8_advance 182 = .ok (.putfield 40, 3) := by decide +kernel
theorem dX8_advance_185 : decode cX8_advance 185 = .ok (.return_, 1) := by decide +kernel
theorem dX8_endOfRun_0 : decode cX8_endOfRun 0 = .ok (.aload_n 0, 1) := by decide +kernel
theorem dX8_endOfRun_1 : decode cX8_endOfRun 1 = .ok (.getfield 47, 3) := by decide +kernel
theorem dX8_endOfRun_4 : decode cX8_endOfRun 4 = .ok (.istore_n 3, 1) := by decide +kernel
theorem dX8_endOfRun_5 : decode cX8_endOfRun 5 = .ok (.iload_n 3, 1) := by decide +kernel
theorem dX8_endOfRun_6 : decode cX8_endOfRun 6 = .ok (.aload_n 0, 1) := by decide +kernel
theorem dX8_endOfRun_7 : decode cX8_endOfRun 7 = .ok (.getfield 15, 3) := by decide +kernel
theorem dX8_endOfRun_10 : decode cX8_endOfRun 10 = .ok (.if_icmp .ge 29, 3) := by decide +kernel
theorem dX8_endOfRun_13 : decode cX8_endOfRun 13 = .ok (.aload_n 0, 1) := by decide +kernel
theorem dX8_endOfRun_14 : decode cX8_endOfRun 14 = .ok (.getfield 9, 3) := by decide +kernel
theorem dX8_endOfRun_17 : decode cX8_endOfRun 17 = .ok (.iload_n 3, 1) := by decide +kernel
theorem dX8_endOfRun_18 : decode cX8_endOfRun 18 = .ok (.baload, 1) := by decide +kernel
theorem dX8_endOfRun_19 : decode cX8_endOfRun 19 = .ok (.iload_n 1, 1) := by decide +kernel
theorem dX8_endOfRun_20 : decode cX8_endOfRun 20 = .ok (.if_icmp .lt 19, 3) := by decide +kernel
theorem dX8_endOfRun_23 : decode cX8_endOfRun 23 = .ok (.aload_n 0, 1) := by decide +kernel
theorem dX8_endOfRun_24 : decode cX8_endOfRun 24 = .ok (.getfield 9, 3) := by decide +kernel
theorem dX8_endOfRun_27 : decode cX8_endOfRun 27 = .ok (.iload_n 3, 1) := by decide +kernel
theorem dX8_endOfRun_28 : decode cX8_endOfRun 28 = .ok (.baload, 1) := by decide +kernel
theorem dX8_endOfRun_29 : decode cX8_endOfRun 29 = .ok (.iload_n 2, 1) := by decide +kernel
theorem dX8_endOfRun_30 : decode cX8_endOfRun 30 = .ok (.if_icmp .gt 9, 3) := by decide +kernel
theorem dX8_endOfRun_33 : decode cX8_endOfRun 33 = .ok (.iinc 3 1, 3) := by decide +kernel
theorem dX8_endOfRun_36 : decode cX8_endOfRun 36 = .ok (.goto (-31), 3) := by decide +kernel
theorem dX8_endOfRun_39 : decode cX8_endOfRun 39 = .ok (.iload_n 3, 1) := by decide +kernel
theorem dX8_endOfRun_40 : decode cX8_endOfRun 40 = .ok (.ireturn, 1) := by decide +kernel
theorem dX9_init_0 : decode cX9_init 0 = .ok (.aload_n 0, 1) := by decide +kernel
theorem dX9_init_1 : decode cX9_init 1 = .ok (.invokespecial 3, 3) := by decide +kernel
theorem dX9_init_4 : decode cX9_init 4 = .ok (.aload_n 0, 1) := by decide +kernel
theorem dX9_init_5 : decode cX9_init 5 = .ok (.bipush 96, 2) := by decide +kernel
theorem dX9_init_7 : decode cX9_init 7 = .ok (.newarray .int, 2) := by decide +kernel
theorem dX9_init_9 : decode cX9_init 9 = .ok (.putfield 9, 3) := by decide +kernel
theorem dX9_init_12 : decode cX9_init 12 = .ok (.aload_n 0, 1) := by decide +kernel
theorem dX9_init_13 : decode cX9_init 13 = .ok (.bipush 104, 2) := by decide +kernel
theorem dX9_init_15 : decode cX9_init 15 = .ok (.newarray .long, 2) := by decide +kernel
theorem dX9_init_17 : decode cX9_init 17 = .ok (.putfield 15, 3) := by decide +kernel
theorem dX9_init_20 : decode cX9_init 20 = .ok (.aload_n 0, 1) := by decide +kernel
theorem dX9_init_21 : decode cX9_init 21 = .ok (.bipush 104, 2) := by decide +kernel
theorem dX9_init_23 : decode cX9_init 23 = .ok (.newarray .long, 2) := by decide +kernel
theorem dX9_init_25 : decode cX9_init 25 = .ok (.putfield 19, 3) := by decide +kernel
theorem dX9_init_28 : decode cX9_init 28 = .ok (.return_, 1) := by decide +kernel
theorem dX9_tally_0 : decode cX9_tally 0 = .ok (.iconst 0, 1) := by decide +kernel
theorem dX9_tally_1 : decode cX9_tally 1 = .ok (.istore_n 2, 1) := by decide +kernel
theorem dX9_tally_2 : decode cX9_tally 2 = .ok (.iload_n 2, 1) := by decide +kernel
theorem dX9_tally_3 : decode cX9_tally 3 = .ok (.bipush 12, 2) := by decide +kernel
theorem dX9_tally_5 : decode cX9_tally 5 = .ok (.if_icmp .ge 40, 3) := by decide +kernel
theorem dX9_tally_8 : decode cX9_tally 8 = .ok (.iconst 0, 1) := by decide +kernel
theorem dX9_tally_9 : decode cX9_tally 9 = .ok (.istore_n 3, 1) := by decide +kernel
theorem dX9_tally_10 : decode cX9_tally 10 = .ok (.iload_n 3, 1) := by decide +kernel
theorem dX9_tally_11 : decode cX9_tally 11 = .ok (.bipush 8, 2) := by decide +kernel
theorem dX9_tally_13 : decode cX9_tally 13 = .ok (.if_icmp .ge 20, 3) := by decide +kernel
theorem dX9_tally_16 : decode cX9_tally 16 = .ok (.aload_n 0, 1) := by decide +kernel
theorem dX9_tally_17 : decode cX9_tally 17 = .ok (.getfield 9, 3) := by decide +kernel
theorem dX9_tally_20 : decode cX9_tally 20 = .ok (.iload_n 2, 1) := by decide +kernel
theorem dX9_tally_21 : decode cX9_tally 21 = .ok (.iload_n 3, 1) := by decide +kernel
theorem dX9_tally_22 : decode cX9_tally 22 = .ok (.invokestatic 22, 3) := by decide +kernel
theorem dX9_tally_25 : decode cX9_tally 25 = .ok (.iconst 0, 1) := by decide +kernel
theorem dX9_tally_26 : decode cX9_tally 26 = .ok (.iastore, 1) := by decide +kernel
theorem dX9_tally_27 : decode cX9_tally 27 = .ok (.iinc 3 1, 3) := by decide +kernel
theorem dX9_tally_30 : decode cX9_tally 30 = .ok (.goto (-20), 3) := by decide +kernel
theorem dX9_tally_33 : decode cX9_tally 33 = .ok (.aload_n 0, 1) := by decide +kernel
theorem dX9_tally_34 : decode cX9_tally 34 = .ok (.aload_n 1, 1) := by decide +kernel
theorem dX9_tally_35 : decode cX9_tally 35 = .ok (.iload_n 2, 1) := by decide +kernel
theorem dX9_tally_36 : decode cX9_tally 36 = .ok (.invokevirtual 26, 3) := by decide +kernel
theorem dX9_tally_39 : decode cX9_tally 39 = .ok (.iinc 2 1, 3) := by decide +kernel
theorem dX9_tally_42 : decode cX9_tally 42 = .ok (.goto (-40), 3) := by decide +kernel
theorem dX9_tally_45 : decode cX9_tally 45 = .ok (.aload_n 0, 1) := by decide +kernel
theorem dX9_tally_46 : decode cX9_tally 46 = .ok (.invokevirtual 30, 3) := by decide +kernel
theorem dX9_tally_49 : decode cX9_tally 49 = .ok (.aload_n 0, 1) := by decide +kernel
theorem dX9_tally_50 : decode cX9_tally 50 = .ok (.invokevirtual 33, 3) := by decide +kernel
theorem dX9_tally_53 : decode cX9_tally 53 = .ok (.return_, 1) := by decide +kernel
theorem dX9_findLeads_0 : decode cX9_findLeads 0 = .ok (.aload_n 1, 1) := by decide +kernel
theorem dX9_findLeads_1 : decode cX9_findLeads 1 = .ok (.iload_n 2, 1) := by decide +kernel
theorem dX9_findLeads_2 : decode cX9_findLeads 2 = .ok (.iconst 1, 1) := by decide +kernel
theorem dX9_findLeads_3 : decode cX9_findLeads 3 = .ok (.invokevirtual 36, 3) := by decide +kernel
theorem dX9_findLeads_6 : decode cX9_findLeads 6 = .ok (.istore_n 3, 1) := by decide +kernel
theorem dX9_findLeads_7 : decode cX9_findLeads 7 = .ok (.aload_n 1, 1) := by decide +kernel
theorem dX9_findLeads_8 : decode cX9_findLeads 8 = .ok (.iload_n 2, 1) := by decide +kernel
theorem dX9_findLeads_9 : decode cX9_findLeads 9 = .ok (.iconst 0, 1) := by decide +kernel
theorem dX9_findLeads_10 : decode cX9_findLeads 10 = .ok (.invokevirtual 36, 3) := by decide +kernel
theorem dX9_findLeads_13 : decode cX9_findLeads 13 = .ok (.istore 4, 2) := by decide +kernel
theorem dX9_findLeads_15 : decode cX9_findLeads 15 = .ok (.iconst 0, 1) := by decide +kernel
theorem dX9_findLeads_16 : decode cX9_findLeads 16 = .ok (.istore 5, 2) := by decide +kernel
theorem dX9_findLeads_18 : decode cX9_findLeads 18 = .ok (.iload 5, 2) := by decide +kernel
theorem dX9_findLeads_20 : decode cX9_findLeads 20 = .ok (.bipush 8, 2) := by decide +kernel
theorem dX9_findLeads_22 : decode cX9_findLeads 22 = .ok (.if_icmp .ge 120, 3) := by decide +kernel
theorem dX9_findLeads_25 : decode cX9_findLeads 25 = .ok (.iconst 0, 1) := by decide +kernel
theorem dX9_findLeads_26 : decode cX9_findLeads 26 = .ok (.istore 6, 2) := by decide +kernel
theorem dX9_findLeads_28 : decode cX9_findLeads 28 = .ok (.iload 6, 2) := by decide +kernel
theorem dX9_findLeads_30 : decode cX9_findLeads 30 = .ok (.bipush 8, 2) := by decide +kernel
theorem dX9_findLeads_32 : decode cX9_findLeads 32 = .ok (.if_icmp .ge 104, 3) := by decide +kernel
theorem dX9_findLeads_35 : decode cX9_findLeads 35 = .ok (.aload_n 1, 1) := by decide +kernel
theorem dX9_findLeads_36 : decode cX9_findLeads 36 = .ok (.getfield 41, 3) := by decide +kernel
theorem dX9_findLeads_39 : decode cX9_findLeads 39 = .ok (.getfield 45, 3) := by decide +kernel
theorem dX9_findLeads_42 : decode cX9_findLeads 42 = .ok (.iload 5, 2) := by decide +kernel
theorem dX9_findLeads_44 : decode cX9_findLeads 44 = .ok (.iload 6, 2) := by decide +kernel
theorem dX9_findLeads_46 : decode cX9_findLeads 46 = .ok (.invokestatic 22, 3) := by decide +kernel
theorem dX9_findLeads_49 : decode cX9_findLeads 49 = .ok (.iaload, 1) := by decide +kernel
theorem dX9_findLeads_50 : decode cX9_findLeads 50 = .ok (.istore 7, 2) := by decide +kernel
theorem dX9_findLeads_52 : decode cX9_findLeads 52 = .ok (.iload 5, 2) := by decide +kernel
theorem dX9_findLeads_54 : decode cX9_findLeads 54 = .ok (.iload 6, 2) := by decide +kernel
theorem dX9_findLeads_56 : decode cX9_findLeads 56 = .ok (.if_icmp .eq 8, 3) := by decide +kernel
theorem dX9_findLeads_59 : decode cX9_findLeads 59 = .ok (.iload 7, 2) := by decide +kernel
theorem dX9_findLeads_61 : decode cX9_findLeads 61 = .ok (.ifCond .lt 69, 3) := by decide +kernel
theorem dX9_findLeads_64 : decode cX9_findLeads 64 = .ok (.iload_n 3, 1) := by decide +kernel
theorem dX9_findLeads_65 : decode cX9_findLeads 65 = .ok (.iload 4, 2) := by decide +kernel
theorem dX9_findLeads_67 : decode cX9_findLeads 67 = .ok (.ior, 1) := by decide +kernel
theorem dX9_findLeads_68 : decode cX9_findLeads 68 = .ok (.ifCond .eq 10, 3) := by decide +kernel
theorem dX9_findLeads_71 : decode cX9_findLeads 71 = .ok (.iload 5, 2) := by decide +kernel
theorem dX9_findLeads_73 : decode cX9_findLeads 73 = .ok (.iload 6, 2) := by decide +kernel
theorem dX9_findLeads_75 : decode cX9_findLeads 75 = .ok (.if_icmp .ne 7, 3) := by decide +kernel
theorem dX9_findLeads_78 : decode cX9_findLeads 78 = .ok (.iconst 0, 1) := by decide +kernel
theorem dX9_findLeads_79 : decode cX9_findLeads 79 = .ok (.goto 15, 3) := by decide +kernel
theorem dX9_findLeads_82 : decode cX9_findLeads 82 = .ok (.aload_n 1, 1) := by decide +kernel
theorem dX9_findLeads_83 : decode cX9_findLeads 83 = .ok (.getfield 41, 3) := by decide +kernel
theorem dX9_findLeads_86 : decode cX9_findLeads 86 = .ok (.iload 7, 2) := by decide +kernel
theorem dX9_findLeads_88 : decode cX9_findLeads 88 = .ok (.iload 6, 2) := by decide +kernel
theorem dX9_findLeads_90 : decode cX9_findLeads 90 = .ok (.iload_n 2, 1) := by decide +kernel
theorem dX9_findLeads_91 : decode cX9_findLeads 91 = .ok (.invokevirtual 50, 3) := by decide +kernel
theorem dX9_findLeads_94 : decode cX9_findLeads 94 = .ok (.istore 8, 2) := by decide +kernel
theorem dX9_findLeads_96 : decode cX9_findLeads 96 = .ok (.iload 8, 2) := by decide +kernel
theorem dX9_findLeads_98 : decode cX9_findLeads 98 = .ok (.iload_n 3, 1) := by decide +kernel
theorem dX9_findLeads_99 : decode cX9_findLeads 99 = .ok (.iand, 1) := by decide +kernel
theorem dX9_findLeads_100 : decode cX9_findLeads 100 = .ok (.iload_n 3, 1) := by decide +kernel
theorem dX9_findLeads_101 : decode cX9_findLeads 101 = .ok (.if_icmp .ne 29, 3) := by decide +kernel
theorem dX9_findLeads_104 : decode cX9_findLeads 104 = .ok (.iload 8, 2) := by decide +kernel
theorem dX9_findLeads_106 : decode cX9_findLeads 106 = .ok (.iload 4, 2) := by decide +kernel
theorem dX9_findLeads_108 : decode cX9_findLeads 108 = .ok (.iand, 1) := by decide +kernel
theorem dX9_findLeads_109 : decode cX9_findLeads 109 = .ok (.ifCond .ne 21, 3) := by decide +kernel
theorem dX9_findLeads_112 : decode cX9_findLeads 112 = .ok (.aload_n 0, 1) := by decide +kernel
theorem dX9_findLeads_113 : decode cX9_findLeads 113 = .ok (.getfield 9, 3) := by decide +kernel
theorem dX9_findLeads_116 : decode cX9_findLeads 116 = .ok (.iload_n 2, 1) := by decide +kernel
theorem dX9_findLeads_117 : decode cX9_findLeads 117 = .ok (.iload 5, 2) := by decide +kernel
theorem dX9_findLeads_119 : decode cX9_findLeads 119 = .ok (.invokestatic 22, 3) := by decide +kernel
theorem dX9_findLeads_122 : decode cX9_findLeads 122 = .ok (.dup2, 1) := by decide +kernel
theorem dX9_findLeads_123 : decode cX9_findLeads 123 = .ok (.iaload, 1) := by decide +kernel
theorem dX9_findLeads_124 : decode cX9_findLeads 124 = .ok (.iconst 1, 1) := by decide +kernel
theorem dX9_findLeads_125 : decode cX9_findLeads 125 = .ok (.iload 6, 2) := by decide +kernel
theorem dX9_findLeads_127 : decode cX9_findLeads 127 = .ok (.ishl, 1) := by decide +kernel
theorem dX9_findLeads_128 : decode cX9_findLeads 128 = .ok (.ior, 1) := by decide +kernel
theorem dX9_findLeads_129 : decode cX9_findLeads 129 = .ok (.iastore, 1) := by decide +kernel
theorem dX9_findLeads_130 : decode cX9_findLeads 130 = .ok (.iinc 6 1, 3) := by decide +kernel
theorem dX9_findLeads_133 : decode cX9_findLeads 133 = .ok (.goto (-105), 3) := by decide +kernel
theorem dX9_findLeads_136 : decode cX9_findLeads 136 = .ok (.iinc 5 1, 3) := by decide +kernel
theorem dX9_findLeads_139 : decode cX9_findLeads 139 = .ok (.goto (-121), 3) := by decide +kernel
theorem dX9_findLeads_142 : decode cX9_findLeads 142 = .ok (.return_, 1) := by decide +kernel
theorem dX9_tallyBefore_0 : decode cX9_tallyBefore 0 = .ok (.iconst 0, 1) := by decide +kernel
theorem dX9_tallyBefore_1 : decode cX9_tallyBefore 1 = .ok (.istore_n 1, 1) := by decide +kernel
theorem dX9_tallyBefore_2 : decode cX9_tallyBefore 2 = .ok (.iload_n 1, 1) := by decide +kernel
theorem dX9_tallyBefore_3 : decode cX9_tallyBefore 3 = .ok (.aload_n 0, 1) := by decide +kernel
theorem dX9_tallyBefore_4 : decode cX9_tallyBefore 4 = .ok (.getfield 15, 3) := by decide +kernel
theorem dX9_tallyBefore_7 : decode cX9_tallyBefore 7 = .ok (.arraylength, 1) := by decide +kernel
theorem dX9_tallyBefore_8 : decode cX9_tallyBefore 8 = .ok (.if_icmp .ge 16, 3) := by decide +kernel
theorem dX9_tallyBefore_11 : decode cX9_tallyBefore 11 = .ok (.aload_n 0, 1) := by decide +kernel
theorem dX9_tallyBefore_12 : decode cX9_tallyBefore 12 = .ok (.getfield 15, 3) := by decide +kernel
theorem dX9_tallyBefore_15 : decode cX9_tallyBefore 15 = .ok (.iload_n 1, 1) := by decide +kernel
theorem dX9_tallyBefore_16 : decode cX9_tallyBefore 16 = .ok (.lconst 0, 1) := by decide +kernel
theorem dX9_tallyBefore_17 : decode cX9_tallyBefore 17 = .ok (.lastore, 1) := by decide +kernel
theorem dX9_tallyBefore_18 : decode cX9_tallyBefore 18 = .ok (.iinc 1 1, 3) := by decide +kernel
theorem dX9_tallyBefore_21 : decode cX9_tallyBefore 21 = .ok (.goto (-19), 3) := by decide +kernel
theorem dX9_tallyBefore_24 : decode cX9_tallyBefore 24 = .ok (.aload_n 0, 1) := by decide +kernel
theorem dX9_tallyBefore_25 : decode cX9_tallyBefore 25 = .ok (.getfield 15, 3) := by decide +kernel
theorem dX9_tallyBefore_28 : decode cX9_tallyBefore 28 = .ok (.iconst 0, 1) := by decide +kernel
theorem dX9_tallyBefore_29 : decode cX9_tallyBefore 29 = .ok (.lconst 1, 1) := by decide +kernel
theorem dX9_tallyBefore_30 : decode cX9_tallyBefore 30 = .ok (.lastore, 1) := by decide +kernel
theorem dX9_tallyBefore_31 : decode cX9_tallyBefore 31 = .ok (.iconst 0, 1) := by decide +kernel
theorem dX9_tallyBefore_32 : decode cX9_tallyBefore 32 = .ok (.istore_n 1, 1) := by decide +kernel
theorem dX9_tallyBefore_33 : decode cX9_tallyBefore 33 = .ok (.iload_n 1, 1) := by decide +kernel
theorem dX9_tallyBefore_34 : decode cX9_tallyBefore 34 = .ok (.bipush 12, 2) := by decide +kernel
theorem dX9_tallyBefore_36 : decode cX9_tallyBefore 36 = .ok (.if_icmp .ge 80, 3) := by decide +kernel
theorem dX9_tallyBefore_39 : decode cX9_tallyBefore 39 = .ok (.iconst 0, 1) := by decide +kernel
theorem dX9_tallyBefore_40 : decode cX9_tallyBefore 40 = .ok (.istore_n 2, 1) := by decide +kernel
theorem dX9_tallyBefore_41 : decode cX9_tallyBefore 41 = .ok (.iload_n 2, 1) := by decide +kernel
theorem dX9_tallyBefore_42 : decode cX9_tallyBefore 42 = .ok (.bipush 8, 2) := by decide +kernel
theorem dX9_tallyBefore_44 : decode cX9_tallyBefore 44 = .ok (.if_icmp .ge 66, 3) := by decide +kernel
theorem dX9_tallyBefore_47 : decode cX9_tallyBefore 47 = .ok (.iconst 0, 1) := by decide +kernel
theorem dX9_tallyBefore_48 : decode cX9_tallyBefore 48 = .ok (.istore_n 3, 1) := by decide +kernel
theorem dX9_tallyBefore_49 : decode cX9_tallyBefore 49 = .ok (.iload_n 3, 1) := by decide +kernel
theorem dX9_tallyBefore_50 : decode cX9_tallyBefore 50 = .ok (.bipush 8, 2) := by decide +kernel
theorem dX9_tallyBefore_52 : decode cX9_tallyBefore 52 = .ok (.if_icmp .ge 52, 3) := by decide +kernel
theorem dX9_tallyBefore_55 : decode cX9_tallyBefore 55 = .ok (.aload_n 0, 1) := by decide +kernel
theorem dX9_tallyBefore_56 : decode cX9_tallyBefore 56 = .ok (.getfield 9, 3) := by decide +kernel
theorem dX9_tallyBefore_59 : decode cX9_tallyBefore 59 = .ok (.iload_n 1, 1) := by decide +kernel
theorem dX9_tallyBefore_60 : decode cX9_tallyBefore 60 = .ok (.iload_n 2, 1) := by decide +kernel
theorem dX9_tallyBefore_61 : decode cX9_tallyBefore 61 = .ok (.invokestatic 22, 3) := by decide +kernel
theorem dX9_tallyBefore_64 : decode cX9_tallyBefore 64 = .ok (.iaload, 1) := by decide +kernel
theorem dX9_tallyBefore_65 : decode cX9_tallyBefore 65 = .ok (.iload_n 3, 1) := by decide +kernel
theorem dX9_tallyBefore_66 : decode cX9_tallyBefore 66 = .ok (.invokestatic 54, 3) := by decide +kernel
theorem dX9_tallyBefore_69 : decode cX9_tallyBefore 69 = .ok (.iconst 1, 1) := by decide +kernel
theorem dX9_tallyBefore_70 : decode cX9_tallyBefore 70 = .ok (.if_icmp .ne 28, 3) := by decide +kernel
theorem dX9_tallyBefore_73 : decode cX9_tallyBefore 73 = .ok (.aload_n 0, 1) := by decide +kernel
theorem dX9_tallyBefore_74 : decode cX9_tallyBefore 74 = .ok (.getfield 15, 3) := by decide +kernel
theorem dX9_tallyBefore_77 : decode cX9_tallyBefore 77 = .ok (.iload_n 1, 1) := by decide +kernel
theorem dX9_tallyBefore_78 : decode cX9_tallyBefore 78 = .ok (.iconst 1, 1) := by decide +kernel
theorem dX9_tallyBefore_79 : decode cX9_tallyBefore 79 = .ok (.iadd, 1) := by decide +kernel
theorem dX9_tallyBefore_80 : decode cX9_tallyBefore 80 = .ok (.iload_n 3, 1) := by decide +kernel
theorem dX9_tallyBefore_81 : decode cX9_tallyBefore 81 = .ok (.invokestatic 22, 3) := by decide +kernel
theorem dX9_tallyBefore_84 : decode cX9_tallyBefore 84 = .ok (.dup2, 1) := by decide +kernel
theorem dX9_tallyBefore_85 : decode cX9_tallyBefore 85 = .ok (.laload, 1) := by decide +kernel
theorem dX9_tallyBefore_86 : decode cX9_tallyBefore 86 = .ok (.aload_n 0, 1) := by decide +kernel
theorem dX9_tallyBefore_87 : decode cX9_tallyBefore 87 = .ok (.getfield 15, 3) := by decide +kernel
theorem dX9_tallyBefore_90 : decode cX9_tallyBefore 90 = .ok (.iload_n 1, 1) := by decide +kernel
theorem dX9_tallyBefore_91 : decode cX9_tallyBefore 91 = .ok (.iload_n 2, 1) := by decide +kernel
theorem dX9_tallyBefore_92 : decode cX9_tallyBefore 92 = .ok (.invokestatic 22, 3) := by decide +kernel
theorem dX9_tallyBefore_95 : decode cX9_tallyBefore 95 = .ok (.laload, 1) := by decide +kernel
theorem dX9_tallyBefore_96 : decode cX9_tallyBefore 96 = .ok (.ladd, 1) := by decide +kernel
theorem dX9_tallyBefore_97 : decode cX9_tallyBefore 97 = .ok (.lastore, 1) := by decide +kernel
theorem dX9_tallyBefore_98 : decode cX9_tallyBefore 98 = .ok (.iinc 3 1, 3) := by decide +kernel
theorem dX9_tallyBefore_101 : decode cX9_tallyBefore 101 = .ok (.goto (-52), 3) := by decide +kernel
theorem dX9_tallyBefore_104 : decode cX9_tallyBefore 104 = .ok (.iinc 2 1, 3) := by decide +kernel
theorem dX9_tallyBefore_107 : decode cX9_tallyBefore 107 = .ok (.goto (-66), 3) := by decide +kernel
theorem dX9_tallyBefore_110 : decode cX9_tallyBefore 110 = .ok (.iinc 1 1, 3) := by decide +kernel
theorem dX9_tallyBefore_113 : decode cX9_tallyBefore 113 = .ok (.goto (-80), 3) := by decide +kernel
theorem dX9_tallyBefore_116 : decode cX9_tallyBefore 116 = .ok (.return_, 1) := by decide +kernel
theorem dX9_tallyBehind_0 : decode cX9_tallyBehind 0 = .ok (.iconst 0, 1) := by decide +kernel
theorem dX9_tallyBehind_1 : decode cX9_tallyBehind 1 = .ok (.istore_n 1, 1) := by decide +kernel
theorem dX9_tallyBehind_2 : decode cX9_tallyBehind 2 = .ok (.iload_n 1, 1) := by decide +kernel
theorem dX9_tallyBehind_3 : decode cX9_tallyBehind 3 = .ok (.aload_n 0, 1) := by decide +kernel
theorem dX9_tallyBehind_4 : decode cX9_tallyBehind 4 = .ok (.getfield 19, 3) := by decide +kernel
theorem dX9_tallyBehind_7 : decode cX9_tallyBehind 7 = .ok (.arraylength, 1) := by decide +kernel
theorem dX9_tallyBehind_8 : decode cX9_tallyBehind 8 = .ok (.if_icmp .ge 26, 3) := by decide +kernel
theorem dX9_tallyBehind_11 : decode cX9_tallyBehind 11 = .ok (.aload_n 0, 1) := by decide +kernel
theorem dX9_tallyBehind_12 : decode cX9_tallyBehind 12 = .ok (.getfield 19, 3) := by decide +kernel
theorem dX9_tallyBehind_15 : decode cX9_tallyBehind 15 = .ok (.iload_n 1, 1) := by decide +kernel
theorem dX9_tallyBehind_16 : decode cX9_tallyBehind 16 = .ok (.iload_n 1, 1) := by decide +kernel
theorem dX9_tallyBehind_17 : decode cX9_tallyBehind 17 = .ok (.bipush 96, 2) := by decide +kernel
theorem dX9_tallyBehind_19 : decode cX9_tallyBehind 19 = .ok (.if_icmp .ge 7, 3) := by decide +kernel
theorem dX9_tallyBehind_22 : decode cX9_tallyBehind 22 = .ok (.lconst 0, 1) := by decide +kernel
theorem dX9_tallyBehind_23 : decode cX9_tallyBehind 23 = .ok (.goto 4, 3) := by decide +kernel
theorem dX9_tallyBehind_26 : decode cX9_tallyBehind 26 = .ok (.lconst 1, 1) := by decide +kernel
theorem dX9_tallyBehind_27 : decode cX9_tallyBehind 27 = .ok (.lastore, 1) := by decide +kernel
theorem dX9_tallyBehind_28 : decode cX9_tallyBehind 28 = .ok (.iinc 1 1, 3) := by decide +kernel
theorem dX9_tallyBehind_31 : decode cX9_tallyBehind 31 = .ok (.goto (-29), 3) := by decide +kernel
theorem dX9_tallyBehind_34 : decode cX9_tallyBehind 34 = .ok (.bipush 11, 2) := by decide +kernel
theorem dX9_tallyBehind_36 : decode cX9_tallyBehind 36 = .ok (.istore_n 1, 1) := by decide +kernel
theorem dX9_tallyBehind_37 : decode cX9_tallyBehind 37 = .ok (.iload_n 1, 1) := by decide +kernel
theorem dX9_tallyBehind_38 : decode cX9_tallyBehind 38 = .ok (.ifCond .lt 80, 3) := by decide +kernel
theorem dX9_tallyBehind_41 : decode cX9_tallyBehind 41 = .ok (.iconst 0, 1) := by decide +kernel
theorem dX9_tallyBehind_42 : decode cX9_tallyBehind 42 = .ok (.istore_n 2, 1) := by decide +kernel
theorem dX9_tallyBehind_43 : decode cX9_tallyBehind 43 = .ok (.iload_n 2, 1) := by decide +kernel
theorem dX9_tallyBehind_44 : decode cX9_tallyBehind 44 = .ok (.bipush 8, 2) := by decide +kernel
theorem dX9_tallyBehind_46 : decode cX9_tallyBehind 46 = .ok (.if_icmp .ge 66, 3) := by decide +kernel
theorem dX9_tallyBehind_49 : decode cX9_tallyBehind 49 = .ok (.iconst 0, 1) := by decide +kernel
theorem dX9_tallyBehind_50 : decode cX9_tallyBehind 50 = .ok (.istore_n 3, 1) := by decide +kernel
theorem dX9_tallyBehind_51 : decode cX9_tallyBehind 51 = .ok (.iload_n 3, 1) := by decide +kernel
theorem dX9_tallyBehind_52 : decode cX9_tallyBehind 52 = .ok (.bipush 8, 2) := by decide +kernel
theorem dX9_tallyBehind_54 : decode cX9_tallyBehind 54 = .ok (.if_icmp .ge 52, 3) := by decide +kernel
theorem dX9_tallyBehind_57 : decode cX9_tallyBehind 57 = .ok (.aload_n 0, 1) := by decide +kernel
theorem dX9_tallyBehind_58 : decode cX9_tallyBehind 58 = .ok (.getfield 9, 3) := by decide +kernel
theorem dX9_tallyBehind_61 : decode cX9_tallyBehind 61 = .ok (.iload_n 1, 1) := by decide +kernel
theorem dX9_tallyBehind_62 : decode cX9_tallyBehind 62 = .ok (.iload_n 2, 1) := by decide +kernel
theorem dX9_tallyBehind_63 : decode cX9_tallyBehind 63 = .ok (.invokestatic 22, 3) := by decide +kernel
theorem dX9_tallyBehind_66 : decode cX9_tallyBehind 66 = .ok (.iaload, 1) := by decide +kernel
theorem dX9_tallyBehind_67 : decode cX9_tallyBehind 67 = .ok (.iload_n 3, 1) := by decide +kernel
theorem dX9_tallyBehind_68 : decode cX9_tallyBehind 68 = .ok (.invokestatic 54, 3) := by decide +kernel
theorem dX9_tallyBehind_71 : decode cX9_tallyBehind 71 = .ok (.iconst 1, 1) := by decide +kernel
theorem dX9_tallyBehind_72 : decode cX9_tallyBehind 72 = .ok (.if_icmp .ne 28, 3) := by decide +kernel
theorem dX9_tallyBehind_75 : decode cX9_tallyBehind 75 = .ok (.aload_n 0, 1) := by decide +kernel
theorem dX9_tallyBehind_76 : decode cX9_tallyBehind 76 = .ok (.getfield 19, 3) := by decide +kernel
theorem dX9_tallyBehind_79 : decode cX9_tallyBehind 79 = .ok (.iload_n 1, 1) := by decide +kernel
theorem dX9_tallyBehind_80 : decode cX9_tallyBehind 80 = .ok (.iload_n 2, 1) := by decide +kernel
theorem dX9_tallyBehind_81 : decode cX9_tallyBehind 81 = .ok (.invokestatic 22, 3) := by decide +kernel
theorem dX9_tallyBehind_84 : decode cX9_tallyBehind 84 = .ok (.dup2, 1) := by decide +kernel
theorem dX9_tallyBehind_85 : decode cX9_tallyBehind 85 = .ok (.laload, 1) := by decide +kernel
theorem dX9_tallyBehind_86 : decode cX9_tallyBehind 86 = .ok (.aload_n 0, 1) := by decide +kernel
theorem dX9_tallyBehind_87 : decode cX9_tallyBehind 87 = .ok (.getfield 19, 3) := by decide +kernel
theorem dX9_tallyBehind_90 : decode cX9_tallyBehind 90 = .ok (.iload_n 1, 1) := by decide +kernel
theorem dX9_tallyBehind_91 : decode cX9_tallyBehind 91 = .ok (.iconst 1, 1) := by decide +kernel
theorem dX9_tallyBehind_92 : decode cX9_tallyBehind 92 = .ok (.iadd, 1) := by decide +kernel
theorem dX9_tallyBehind_93 : decode cX9_tallyBehind 93 = .ok (.iload_n 3, 1) := by decide +kernel
theorem dX9_tallyBehind_94 : decode cX9_tallyBehind 94 = .ok (.invokestatic 22, 3) := by decide +kernel
theorem dX9_tallyBehind_97 : decode cX9_tallyBehind 97 = .ok (.laload, 1) := by decide +kernel
theorem dX9_tallyBehind_98 : decode cX9_tallyBehind 98 = .ok (.ladd, 1) := by decide +kernel
theorem dX9_tallyBehind_99 : decode cX9_tallyBehind 99 = .ok (.lastore, 1) := by decide +kernel
theorem dX9_tallyBehind_100 : decode cX9_tallyBehind 100 = .ok (.iinc 3 1, 3) := by decide +kernel
theorem dX9_tallyBehind_103 : decode cX9_tallyBehind 103 = .ok (.goto (-52), 3) := by decide +kernel
theorem dX9_tallyBehind_106 : decode cX9_tallyBehind 106 = .ok (.iinc 2 1, 3) := by decide +kernel
theorem dX9_tallyBehind_109 : decode cX9_tallyBehind 109 = .ok (.goto (-66), 3) := by decide +kernel
theorem dX9_tallyBehind_112 : decode cX9_tallyBehind 112 = .ok (.iinc 1 (-1), 3) := by decide +kernel
theorem dX9_tallyBehind_115 : decode cX9_tallyBehind 115 = .ok (.goto (-78), 3) := by decide +kernel
theorem dX9_tallyBehind_118 : decode cX9_tallyBehind 118 = .ok (.return_, 1) := by decide +kernel
theorem dX9_total_0 : decode cX9_total 0 = .ok (.aload_n 0, 1) := by decide +kernel
theorem dX9_total_1 : decode cX9_total 1 = .ok (.getfield 19, 3) := by decide +kernel
theorem dX9_total_4 : decode cX9_total 4 = .ok (.iconst 0, 1) := by decide +kernel
theorem dX9_total_5 : decode cX9_total 5 = .ok (.laload, 1) := by decide +kernel
theorem dX9_total_6 : decode cX9_total 6 = .ok (.lreturn, 1) := by decide +kernel
theorem dX9_roomsIn_0 : decode cX9_roomsIn 0 = .ok (.iconst 0, 1) := by decide +kernel
theorem dX9_roomsIn_1 : decode cX9_roomsIn 1 = .ok (.istore_n 2, 1) := by decide +kernel
theorem dX9_roomsIn_2 : decode cX9_roomsIn 2 = .ok (.iconst 0, 1) := by decide +kernel
theorem dX9_roomsIn_3 : decode cX9_roomsIn 3 = .ok (.istore_n 3, 1) := by decide +kernel
theorem dX9_roomsIn_4 : decode cX9_roomsIn 4 = .ok (.iload_n 3, 1) := by decide +kernel
theorem dX9_roomsIn_5 : decode cX9_roomsIn 5 = .ok (.bipush 8, 2) := by decide +kernel
theorem dX9_roomsIn_7 : decode cX9_roomsIn 7 = .ok (.if_icmp .ge 45, 3) := by decide +kernel
theorem dX9_roomsIn_10 : decode cX9_roomsIn 10 = .ok (.aload_n 0, 1) := by decide +kernel
theorem dX9_roomsIn_11 : decode cX9_roomsIn 11 = .ok (.getfield 15, 3) := by decide +kernel
theorem dX9_roomsIn_14 : decode cX9_roomsIn 14 = .ok (.iload_n 1, 1) := by decide +kernel
theorem dX9_roomsIn_15 : decode cX9_roomsIn 15 = .ok (.iload_n 3, 1) := by decide +kernel
theorem dX9_roomsIn_16 : decode cX9_roomsIn 16 = .ok (.invokestatic 22, 3) := by decide +kernel
theorem dX9_roomsIn_19 : decode cX9_roomsIn 19 = .ok (.laload, 1) := by decide +kernel
theorem dX9_roomsIn_20 : decode cX9_roomsIn 20 = .ok (.lconst 0, 1) := by decide +kernel
theorem dX9_roomsIn_21 : decode cX9_roomsIn 21 = .ok (.lcmp, 1) := by decide +kernel
theorem dX9_roomsIn_22 : decode cX9_roomsIn 22 = .ok (.ifCond .le 24, 3) := by decide +kernel
theorem dX9_roomsIn_25 : decode cX9_roomsIn 25 = .ok (.aload_n 0, 1) := by decide +kernel
theorem dX9_roomsIn_26 : decode cX9_roomsIn 26 = .ok (.getfield 19, 3) := by decide +kernel
theorem dX9_roomsIn_29 : decode cX9_roomsIn 29 = .ok (.iload_n 1, 1) := by decide +kernel
theorem dX9_roomsIn_30 : decode cX9_roomsIn 30 = .ok (.iload_n 3, 1) := by decide +kernel
theorem dX9_roomsIn_31 : decode cX9_roomsIn 31 = .ok (.invokestatic 22, 3) := by decide +kernel
theorem dX9_roomsIn_34 : decode cX9_roomsIn 34 = .ok (.laload, 1) := by decide +kernel
theorem dX9_roomsIn_35 : decode cX9_roomsIn 35 = .ok (.lconst 0, 1) := by decide +kernel
theorem dX9_roomsIn_36 : decode cX9_roomsIn 36 = .ok (.lcmp, 1) := by decide +kernel
theorem dX9_roomsIn_37 : decode cX9_roomsIn 37 = .ok (.ifCond .le 9, 3) := by decide +kernel
theorem dX9_roomsIn_40 : decode cX9_roomsIn 40 = .ok (.iload_n 2, 1) := by decide +kernel
theorem dX9_roomsIn_41 : decode cX9_roomsIn 41 = .ok (.iconst 1, 1) := by decide +kernel
theorem dX9_roomsIn_42 : decode cX9_roomsIn 42 = .ok (.iload_n 3, 1) := by decide +kernel
theorem dX9_roomsIn_43 : decode cX9_roomsIn 43 = .ok (.ishl, 1) := by decide +kernel
theorem dX9_roomsIn_44 : decode cX9_roomsIn 44 = .ok (.ior, 1) := by decide +kernel
theorem dX9_roomsIn_45 : decode cX9_roomsIn 45 = .ok (.istore_n 2, 1) := by decide +kernel
theorem dX9_roomsIn_46 : decode cX9_roomsIn 46 = .ok (.iinc 3 1, 3) := by decide +kernel
theorem dX9_roomsIn_49 : decode cX9_roomsIn 49 = .ok (.goto (-45), 3) := by decide +kernel
theorem dX9_roomsIn_52 : decode cX9_roomsIn 52 = .ok (.iload_n 2, 1) := by decide +kernel
theorem dX9_roomsIn_53 : decode cX9_roomsIn 53 = .ok (.ireturn, 1) := by decide +kernel
theorem dX9_bestListener_0 : decode cX9_bestListener 0 = .ok (.iconst (-1), 1) := by decide +kernel
theorem dX9_bestListener_1 : decode cX9_bestListener 1 = .ok (.istore_n 3, 1) := by decide +kernel
theorem dX9_bestListener_2 : decode cX9_bestListener 2 = .ok (.lconst 0, 1) := by decide +kernel
theorem dX9_bestListener_3 : decode cX9_bestListener 3 = .ok (.lstore 4, 2) := by decide +kernel
theorem dX9_bestListener_5 : decode cX9_bestListener 5 = .ok (.iconst 0, 1) := by decide +kernel
theorem dX9_bestListener_6 : decode cX9_bestListener 6 = .ok (.istore 6, 2) := by decide +kernel
theorem dX9_bestListener_8 : decode cX9_bestListener 8 = .ok (.iload 6, 2) := by decide +kernel
theorem dX9_bestListener_10 : decode cX9_bestListener 10 = .ok (.aload_n 1, 1) := by decide +kernel
theorem dX9_bestListener_11 : decode cX9_bestListener 11 = .ok (.getfield 57, 3) := by decide +kernel
theorem dX9_bestListener_14 : decode cX9_bestListener 14 = .ok (.if_icmp .ge 62, 3) := by decide +kernel
theorem dX9_bestListener_17 : decode cX9_bestListener 17 = .ok (.aload_n 0, 1) := by decide +kernel
theorem dX9_bestListener_18 : decode cX9_bestListener 18 = .ok (.invokevirtual 61, 3) := by decide +kernel
theorem dX9_bestListener_21 : decode cX9_bestListener 21 = .ok (.lconst 0, 1) := by decide +kernel
theorem dX9_bestListener_22 : decode cX9_bestListener 22 = .ok (.lcmp, 1) := by decide +kernel
theorem dX9_bestListener_23 : decode cX9_bestListener 23 = .ok (.ifCond .le 53, 3) := by decide +kernel
theorem dX9_bestListener_26 : decode cX9_bestListener 26 = .ok (.aload_n 0, 1) := by decide +kernel
theorem dX9_bestListener_27 : decode cX9_bestListener 27 = .ok (.aload_n 1, 1) := by decide +kernel
theorem dX9_bestListener_28 : decode cX9_bestListener 28 = .ok (.iload 6, 2) := by decide +kernel
theorem dX9_bestListener_30 : decode cX9_bestListener 30 = .ok (.iload_n 2, 1) := by decide +kernel
theorem dX9_bestListener_31 : decode cX9_bestListener 31 = .ok (.invokevirtual 65, 3) := by decide +kernel
theorem dX9_bestListener_34 : decode cX9_bestListener 34 = .ok (.lstore 7, 2) := by decide +kernel
theorem dX9_bestListener_36 : decode cX9_bestListener 36 = .ok (.lload 7, 2) := by decide +kernel
theorem dX9_bestListener_38 : decode cX9_bestListener 38 = .ok (.aload_n 0, 1) := by decide +kernel
theorem dX9_bestListener_39 : decode cX9_bestListener 39 = .ok (.invokevirtual 61, 3) := by decide +kernel
theorem dX9_bestListener_42 : decode cX9_bestListener 42 = .ok (.lload 7, 2) := by decide +kernel
theorem dX9_bestListener_44 : decode cX9_bestListener 44 = .ok (.lsub, 1) := by decide +kernel
theorem dX9_bestListener_45 : decode cX9_bestListener 45 = .ok (.invokestatic 69, 3) := by decide +kernel
theorem dX9_bestListener_48 : decode cX9_bestListener 48 = .ok (.lstore 9, 2) := by decide +kernel
theorem dX9_bestListener_50 : decode cX9_bestListener 50 = .ok (.iload_n 3, 1) := by decide +kernel
theorem dX9_bestListener_51 : decode cX9_bestListener 51 = .ok (.iconst (-1), 1) := by decide +kernel
theorem dX9_bestListener_52 : decode cX9_bestListener 52 = .ok (.if_icmp .eq 11, 3) := by decide +kernel
theorem dX9_bestListener_55 : decode cX9_bestListener 55 = .ok (.lload 9, 2) := by decide +kernel
theorem dX9_bestListener_57 : decode cX9_bestListener 57 = .ok (.lload 4, 2) := by decide +kernel
theorem dX9_bestListener_59 : decode cX9_bestListener 59 = .ok (.lcmp, 1) := by decide +kernel
theorem dX9_bestListener_60 : decode cX9_bestListener 60 = .ok (.ifCond .ge 10, 3) := by decide +kernel
theorem dX9_bestListener_63 : decode cX9_bestListener 63 = .ok (.lload 9, 2) := by decide +kernel
theorem dX9_bestListener_65 : decode cX9_bestListener 65 = .ok (.lstore 4, 2) := by decide +kernel
theorem dX9_bestListener_67 : decode cX9_bestListener 67 = .ok (.iload 6, 2) := by decide +kernel
theorem dX9_bestListener_69 : decode cX9_bestListener 69 = .ok (.istore_n 3, 1) := by decide +kernel
theorem dX9_bestListener_70 : decode cX9_bestListener 70 = .ok (.iinc 6 1, 3) := by decide +kernel
theorem dX9_bestListener_73 : decode cX9_bestListener 73 = .ok (.goto (-65), 3) := by decide +kernel
theorem dX9_bestListener_76 : decode cX9_bestListener 76 = .ok (.iload_n 3, 1) := by decide +kernel
theorem dX9_bestListener_77 : decode cX9_bestListener 77 = .ok (.ireturn, 1) := by decide +kernel
theorem dX9_rowsHeardBy_0 : decode cX9_rowsHeardBy 0 = .ok (.lconst 0, 1) := by decide +kernel
theorem dX9_rowsHeardBy_1 : decode cX9_rowsHeardBy 1 = .ok (.lstore 4, 2) := by decide +kernel
theorem dX9_rowsHeardBy_3 : decode cX9_rowsHeardBy 3 = .ok (.iconst 0, 1) := by decide +kernel
theorem dX9_rowsHeardBy_4 : decode cX9_rowsHeardBy 4 = .ok (.istore 6, 2) := by decide +kernel
theorem dX9_rowsHeardBy_6 : decode cX9_rowsHeardBy 6 = .ok (.iload 6, 2) := by decide +kernel
theorem dX9_rowsHeardBy_8 : decode cX9_rowsHeardBy 8 = .ok (.bipush 8, 2) := by decide +kernel
theorem dX9_rowsHeardBy_10 : decode cX9_rowsHeardBy 10 = .ok (.if_icmp .ge 119, 3) := by decide +kernel
theorem dX9_rowsHeardBy_13 : decode cX9_rowsHeardBy 13 = .ok (.iconst 0, 1) := by decide +kernel
theorem dX9_rowsHeardBy_14 : decode cX9_rowsHeardBy 14 = .ok (.istore 7, 2) := by decide +kernel
theorem dX9_rowsHeardBy_16 : decode cX9_rowsHeardBy 16 = .ok (.iload 7, 2) := by decide +kernel
theorem dX9_rowsHeardBy_18 : decode cX9_rowsHeardBy 18 = .ok (.bipush 8, 2) := by decide +kernel
theorem dX9_rowsHeardBy_20 : decode cX9_rowsHeardBy 20 = .ok (.if_icmp .ge 103, 3) := by decide +kernel
theorem dX9_rowsHeardBy_23 : decode cX9_rowsHeardBy 23 = .ok (.aload_n 1, 1) := by decide +kernel
theorem dX9_rowsHeardBy_24 : decode cX9_rowsHeardBy 24 = .ok (.getfield 45, 3) := by decide +kernel
theorem dX9_rowsHeardBy_27 : decode cX9_rowsHeardBy 27 = .ok (.iload 6, 2) := by decide +kernel
theorem dX9_rowsHeardBy_29 : decode cX9_rowsHeardBy 29 = .ok (.iload 7, 2) := by decide +kernel
theorem dX9_rowsHeardBy_31 : decode cX9_rowsHeardBy 31 = .ok (.invokestatic 22, 3) := by decide +kernel
theorem dX9_rowsHeardBy_34 : decode cX9_rowsHeardBy 34 = .ok (.iaload, 1) := by decide +kernel
theorem dX9_rowsHeardBy_35 : decode cX9_rowsHeardBy 35 = .ok (.istore 8, 2) := by decide +kernel
theorem dX9_rowsHeardBy_37 : decode cX9_rowsHeardBy 37 = .ok (.iload 8, 2) := by decide +kernel
theorem dX9_rowsHeardBy_39 : decode cX9_rowsHeardBy 39 = .ok (.ifCond .lt 27, 3) := by decide +kernel
theorem dX9_rowsHeardBy_42 : decode cX9_rowsHeardBy 42 = .ok (.aload_n 0, 1) := by decide +kernel
theorem dX9_rowsHeardBy_43 : decode cX9_rowsHeardBy 43 = .ok (.getfield 9, 3) := by decide +kernel
theorem dX9_rowsHeardBy_46 : decode cX9_rowsHeardBy 46 = .ok (.iload_n 3, 1) := by decide +kernel
theorem dX9_rowsHeardBy_47 : decode cX9_rowsHeardBy 47 = .ok (.iload 6, 2) := by decide +kernel
theorem dX9_rowsHeardBy_49 : decode cX9_rowsHeardBy 49 = .ok (.invokestatic 22, 3) := by decide +kernel
theorem dX9_rowsHeardBy_52 : decode cX9_rowsHeardBy 52 = .ok (.iaload, 1) := by decide +kernel
theorem dX9_rowsHeardBy_53 : decode cX9_rowsHeardBy 53 = .ok (.iload 7, 2) := by decide +kernel
theorem dX9_rowsHeardBy_55 : decode cX9_rowsHeardBy 55 = .ok (.invokestatic 54, 3) := by decide +kernel
theorem dX9_rowsHeardBy_58 : decode cX9_rowsHeardBy 58 = .ok (.iconst 1, 1) := by decide +kernel
theorem dX9_rowsHeardBy_59 : decode cX9_rowsHeardBy 59 = .ok (.if_icmp .ne 7, 3) := by decide +kernel
theorem dX9_rowsHeardBy_62 : decode cX9_rowsHeardBy 62 = .ok (.iconst 1, 1) := by decide +kernel
theorem dX9_rowsHeardBy_63 : decode cX9_rowsHeardBy 63 = .ok (.goto 4, 3) := by decide +kernel
theorem dX9_rowsHeardBy_66 : decode cX9_rowsHeardBy 66 = .ok (.iconst 0, 1) := by decide +kernel
theorem dX9_rowsHeardBy_67 : decode cX9_rowsHeardBy 67 = .ok (.istore 9, 2) := by decide +kernel
theorem dX9_rowsHeardBy_69 : decode cX9_rowsHeardBy 69 = .ok (.iload 9, 2) := by decide +kernel
theorem dX9_rowsHeardBy_71 : decode cX9_rowsHeardBy 71 = .ok (.ifCond .eq 46, 3) := by decide +kernel
theorem dX9_rowsHeardBy_74 : decode cX9_rowsHeardBy 74 = .ok (.iload 8, 2) := by decide +kernel
theorem dX9_rowsHeardBy_76 : decode cX9_rowsHeardBy 76 = .ok (.aload_n 1, 1) := by decide +kernel
theorem dX9_rowsHeardBy_77 : decode cX9_rowsHeardBy 77 = .ok (.iload_n 2, 1) := by decide +kernel
theorem dX9_rowsHeardBy_78 : decode cX9_rowsHeardBy 78 = .ok (.iload 7, 2) := by decide +kernel
theorem dX9_rowsHeardBy_80 : decode cX9_rowsHeardBy 80 = .ok (.iload_n 3, 1) := by decide +kernel
theorem dX9_rowsHeardBy_81 : decode cX9_rowsHeardBy 81 = .ok (.invokevirtual 75, 3) := by decide +kernel
theorem dX9_rowsHeardBy_84 : decode cX9_rowsHeardBy 84 = .ok (.if_icmp .lt 33, 3) := by decide +kernel
theorem dX9_rowsHeardBy_87 : decode cX9_rowsHeardBy 87 = .ok (.lload 4, 2) := by decide +kernel
theorem dX9_rowsHeardBy_89 : decode cX9_rowsHeardBy 89 = .ok (.aload_n 0, 1) := by decide +kernel
theorem dX9_rowsHeardBy_90 : decode cX9_rowsHeardBy 90 = .ok (.getfield 15, 3) := by decide +kernel
theorem dX9_rowsHeardBy_93 : decode cX9_rowsHeardBy 93 = .ok (.iload_n 3, 1) := by decide +kernel
theorem dX9_rowsHeardBy_94 : decode cX9_rowsHeardBy 94 = .ok (.iload 6, 2) := by decide +kernel
theorem dX9_rowsHeardBy_96 : decode cX9_rowsHeardBy 96 = .ok (.invokestatic 22, 3) := by decide +kernel
theorem dX9_rowsHeardBy_99 : decode cX9_rowsHeardBy 99 = .ok (.laload, 1) := by decide +kernel
theorem dX9_rowsHeardBy_100 : decode cX9_rowsHeardBy 100 = .ok (.aload_n 0, 1) := by decide +kernel
theorem dX9_rowsHeardBy_101 : decode cX9_rowsHeardBy 101 = .ok (.getfield 19, 3) := by decide +kernel
theorem dX9_rowsHeardBy_104 : decode cX9_rowsHeardBy 104 = .ok (.iload_n 3, 1) := by decide +kernel
theorem dX9_rowsHeardBy_105 : decode cX9_rowsHeardBy 105 = .ok (.iconst 1, 1) := by decide +kernel
theorem dX9_rowsHeardBy_106 : decode cX9_rowsHeardBy 106 = .ok (.iadd, 1) := by decide +kernel
theorem dX9_rowsHeardBy_107 : decode cX9_rowsHeardBy 107 = .ok (.iload 7, 2) := by decide +kernel
theorem dX9_rowsHeardBy_109 : decode cX9_rowsHeardBy 109 = .ok (.invokestatic 22, 3) := by decide +kernel
theorem dX9_rowsHeardBy_112 : decode cX9_rowsHeardBy 112 = .ok (.laload, 1) := by decide +kernel
theorem dX9_rowsHeardBy_113 : decode cX9_rowsHeardBy 113 = .ok (.lmul, 1) := by decide +kernel
theorem dX9_rowsHeardBy_114 : decode cX9_rowsHeardBy 114 = .ok (.ladd, 1) := by decide +kernel
theorem dX9_rowsHeardBy_115 : decode cX9_rowsHeardBy 115 = .ok (.lstore 4, 2) := by decide +kernel
theorem dX9_rowsHeardBy_117 : decode cX9_rowsHeardBy 117 = .ok (.iinc 7 1, 3) := by decide +kernel
theorem dX9_rowsHeardBy_120 : decode cX9_rowsHeardBy 120 = .ok (.goto (-104), 3) := by decide +kernel
theorem dX9_rowsHeardBy_123 : decode cX9_rowsHeardBy 123 = .ok (.iinc 6 1, 3) := by decide +kernel
theorem dX9_rowsHeardBy_126 : decode cX9_rowsHeardBy 126 = .ok (.goto (-120), 3) := by decide +kernel
theorem dX9_rowsHeardBy_129 : decode cX9_rowsHeardBy 129 = .ok (.lload 4, 2) := by decide +kernel
theorem dX9_rowsHeardBy_131 : decode cX9_rowsHeardBy 131 = .ok (.lreturn, 1) := by decide +kernel
theorem dX10_init_0 : decode cX10_init 0 = .ok (.aload_n 0, 1) := by decide +kernel
theorem dX10_init_1 : decode cX10_init 1 = .ok (.invokespecial 1, 3) := by decide +kernel
theorem dX10_init_4 : decode cX10_init 4 = .ok (.return_, 1) := by decide +kernel
theorem dX10_wakingNoise_0 : decode cX10_wakingNoise 0 = .ok (.aload_n 0, 1) := by decide +kernel
theorem dX10_wakingNoise_1 : decode cX10_wakingNoise 1 = .ok (.iload_n 1, 1) := by decide +kernel
theorem dX10_wakingNoise_2 : decode cX10_wakingNoise 2 = .ok (.iload_n 2, 1) := by decide +kernel
theorem dX10_wakingNoise_3 : decode cX10_wakingNoise 3 = .ok (.iload_n 3, 1) := by decide +kernel
theorem dX10_wakingNoise_4 : decode cX10_wakingNoise 4 = .ok (.invokespecial 7, 3) := by decide +kernel
theorem dX10_wakingNoise_7 : decode cX10_wakingNoise 7 = .ok (.istore 4, 2) := by decide +kernel
theorem dX10_wakingNoise_9 : decode cX10_wakingNoise 9 = .ok (.iload_n 2, 1) := by decide +kernel
theorem dX10_wakingNoise_10 : decode cX10_wakingNoise 10 = .ok (.iconst 2, 1) := by decide +kernel
theorem dX10_wakingNoise_11 : decode cX10_wakingNoise 11 = .ok (.irem, 1) := by decide +kernel
theorem dX10_wakingNoise_12 : decode cX10_wakingNoise 12 = .ok (.iconst 1, 1) := by decide +kernel
theorem dX10_wakingNoise_13 : decode cX10_wakingNoise 13 = .ok (.if_icmp .ne 10, 3) := by decide +kernel
theorem dX10_wakingNoise_16 : decode cX10_wakingNoise 16 = .ok (.iconst 2, 1) := by decide +kernel
theorem dX10_wakingNoise_17 : decode cX10_wakingNoise 17 = .ok (.iload 4, 2) := by decide +kernel
theorem dX10_wakingNoise_19 : decode cX10_wakingNoise 19 = .ok (.imul, 1) := by decide +kernel
theorem dX10_wakingNoise_20 : decode cX10_wakingNoise 20 = .ok (.goto 5, 3) := by decide +kernel
theorem dX10_wakingNoise_23 : decode cX10_wakingNoise 23 = .ok (.iload 4, 2) := by decide +kernel
theorem dX10_wakingNoise_25 : decode cX10_wakingNoise 25 = .ok (.ireturn, 1) := by decide +kernel
theorem dJ6_bitCount_0f7a4_0 : decode cJ6_bitCount_0f7a4 0 = .ok (.iload_n 0, 1) := by decide +kernel
theorem dJ6_bitCount_0f7a4_1 : decode cJ6_bitCount_0f7a4 1 = .ok (.iload_n 0, 1) := by decide +kernel
theorem dJ6_bitCount_0f7a4_2 : decode cJ6_bitCount_0f7a4 2 = .ok (.iconst 1, 1) := by decide +kernel
theorem dJ6_bitCount_0f7a4_3 : decode cJ6_bitCount_0f7a4 3 = .ok (.iushr, 1) := by decide +kernel
theorem dJ6_bitCount_0f7a4_4 : decode cJ6_bitCount_0f7a4 4 = .ok (.ldc_w 265, 3) := by decide +kernel
theorem dJ6_bitCount_0f7a4_7 : decode cJ6_bitCount_0f7a4 7 = .ok (.iand, 1) := by decide +kernel
theorem dJ6_bitCount_0f7a4_8 : decode cJ6_bitCount_0f7a4 8 = .ok (.isub, 1) := by decide +kernel
theorem dJ6_bitCount_0f7a4_9 : decode cJ6_bitCount_0f7a4 9 = .ok (.istore_n 0, 1) := by decide +kernel
theorem dJ6_bitCount_0f7a4_10 : decode cJ6_bitCount_0f7a4 10 = .ok (.iload_n 0, 1) := by decide +kernel
theorem dJ6_bitCount_0f7a4_11 : decode cJ6_bitCount_0f7a4 11 = .ok (.ldc_w 266, 3) := by decide +kernel
theorem dJ6_bitCount_0f7a4_14 : decode cJ6_bitCount_0f7a4 14 = .ok (.iand, 1) := by decide +kernel
theorem dJ6_bitCount_0f7a4_15 : decode cJ6_bitCount_0f7a4 15 = .ok (.iload_n 0, 1) := by decide +kernel
theorem dJ6_bitCount_0f7a4_16 : decode cJ6_bitCount_0f7a4 16 = .ok (.iconst 2, 1) := by decide +kernel
theorem dJ6_bitCount_0f7a4_17 : decode cJ6_bitCount_0f7a4 17 = .ok (.iushr, 1) := by decide +kernel
theorem dJ6_bitCount_0f7a4_18 : decode cJ6_bitCount_0f7a4 18 = .ok (.ldc_w 266, 3) := by decide +kernel
theorem dJ6_bitCount_0f7a4_21 : decode cJ6_bitCount_0f7a4 21 = .ok (.iand, 1) := by decide +kernel
theorem dJ6_bitCount_0f7a4_22 : decode cJ6_bitCount_0f7a4 22 = .ok (.iadd, 1) := by decide +kernel
theorem dJ6_bitCount_0f7a4_23 : decode cJ6_bitCount_0f7a4 23 = .ok (.istore_n 0, 1) := by decide +kernel
theorem dJ6_bitCount_0f7a4_24 : decode cJ6_bitCount_0f7a4 24 = .ok (.iload_n 0, 1) := by decide +kernel
theorem dJ6_bitCount_0f7a4_25 : decode cJ6_bitCount_0f7a4 25 = .ok (.iload_n 0, 1) := by decide +kernel
theorem dJ6_bitCount_0f7a4_26 : decode cJ6_bitCount_0f7a4 26 = .ok (.iconst 4, 1) := by decide +kernel
theorem dJ6_bitCount_0f7a4_27 : decode cJ6_bitCount_0f7a4 27 = .ok (.iushr, 1) := by decide +kernel
theorem dJ6_bitCount_0f7a4_28 : decode cJ6_bitCount_0f7a4 28 = .ok (.iadd, 1) := by decide +kernel
theorem dJ6_bitCount_0f7a4_29 : decode cJ6_bitCount_0f7a4 29 = .ok (.ldc_w 267, 3) := by decide +kernel
theorem dJ6_bitCount_0f7a4_32 : decode cJ6_bitCount_0f7a4 32 = .ok (.iand, 1) := by decide +kernel
theorem dJ6_bitCount_0f7a4_33 : decode cJ6_bitCount_0f7a4 33 = .ok (.istore_n 0, 1) := by decide +kernel
theorem dJ6_bitCount_0f7a4_34 : decode cJ6_bitCount_0f7a4 34 = .ok (.iload_n 0, 1) := by decide +kernel
theorem dJ6_bitCount_0f7a4_35 : decode cJ6_bitCount_0f7a4 35 = .ok (.iload_n 0, 1) := by decide +kernel
theorem dJ6_bitCount_0f7a4_36 : decode cJ6_bitCount_0f7a4 36 = .ok (.bipush 8, 2) := by decide +kernel
theorem dJ6_bitCount_0f7a4_38 : decode cJ6_bitCount_0f7a4 38 = .ok (.iushr, 1) := by decide +kernel
theorem dJ6_bitCount_0f7a4_39 : decode cJ6_bitCount_0f7a4 39 = .ok (.iadd, 1) := by decide +kernel
theorem dJ6_bitCount_0f7a4_40 : decode cJ6_bitCount_0f7a4 40 = .ok (.istore_n 0, 1) := by decide +kernel
theorem dJ6_bitCount_0f7a4_41 : decode cJ6_bitCount_0f7a4 41 = .ok (.iload_n 0, 1) := by decide +kernel
theorem dJ6_bitCount_0f7a4_42 : decode cJ6_bitCount_0f7a4 42 = .ok (.iload_n 0, 1) := by decide +kernel
theorem dJ6_bitCount_0f7a4_43 : decode cJ6_bitCount_0f7a4 43 = .ok (.bipush 16, 2) := by decide +kernel
theorem dJ6_bitCount_0f7a4_45 : decode cJ6_bitCount_0f7a4 45 = .ok (.iushr, 1) := by decide +kernel
theorem dJ6_bitCount_0f7a4_46 : decode cJ6_bitCount_0f7a4 46 = .ok (.iadd, 1) := by decide +kernel
theorem dJ6_bitCount_0f7a4_47 : decode cJ6_bitCount_0f7a4 47 = .ok (.istore_n 0, 1) := by decide +kernel
theorem dJ6_bitCount_0f7a4_48 : decode cJ6_bitCount_0f7a4 48 = .ok (.iload_n 0, 1) := by decide +kernel
theorem dJ6_bitCount_0f7a4_49 : decode cJ6_bitCount_0f7a4 49 = .ok (.bipush 63, 2) := by decide +kernel
theorem dJ6_bitCount_0f7a4_51 : decode cJ6_bitCount_0f7a4 51 = .ok (.iand, 1) := by decide +kernel
theorem dJ6_bitCount_0f7a4_52 : decode cJ6_bitCount_0f7a4 52 = .ok (.ireturn, 1) := by decide +kernel
theorem dJ9_max_f86c9_0 : decode cJ9_max_f86c9 0 = .ok (.lload_n 0, 1) := by decide +kernel
theorem dJ9_max_f86c9_1 : decode cJ9_max_f86c9 1 = .ok (.lload_n 2, 1) := by decide +kernel
theorem dJ9_max_f86c9_2 : decode cJ9_max_f86c9 2 = .ok (.lcmp, 1) := by decide +kernel
theorem dJ9_max_f86c9_3 : decode cJ9_max_f86c9 3 = .ok (.ifCond .lt 7, 3) := by decide +kernel
theorem dJ9_max_f86c9_6 : decode cJ9_max_f86c9 6 = .ok (.lload_n 0, 1) := by decide +kernel
theorem dJ9_max_f86c9_7 : decode cJ9_max_f86c9 7 = .ok (.goto 4, 3) := by decide +kernel
theorem dJ9_max_f86c9_10 : decode cJ9_max_f86c9 10 = .ok (.lload_n 2, 1) := by decide +kernel
theorem dJ9_max_f86c9_11 : decode cJ9_max_f86c9 11 = .ok (.lreturn, 1) := by decide +kernel
theorem dJ9_min_7cf53_0 : decode cJ9_min_7cf53 0 = .ok (.iload_n 0, 1) := by decide +kernel
theorem dJ9_min_7cf53_1 : decode cJ9_min_7cf53 1 = .ok (.iload_n 1, 1) := by decide +kernel
theorem dJ9_min_7cf53_2 : decode cJ9_min_7cf53 2 = .ok (.if_icmp .gt 7, 3) := by decide +kernel
theorem dJ9_min_7cf53_5 : decode cJ9_min_7cf53 5 = .ok (.iload_n 0, 1) := by decide +kernel
theorem dJ9_min_7cf53_6 : decode cJ9_min_7cf53 6 = .ok (.goto 4, 3) := by decide +kernel
theorem dJ9_min_7cf53_9 : decode cJ9_min_7cf53 9 = .ok (.iload_n 1, 1) := by decide +kernel
theorem dJ9_min_7cf53_10 : decode cJ9_min_7cf53 10 = .ok (.ireturn, 1) := by decide +kernel
theorem dJ0_length_8abf5_0 : decode cJ0_length_8abf5 0 = .ok (.aload_n 0, 1) := by decide +kernel
theorem dJ0_length_8abf5_1 : decode cJ0_length_8abf5 1 = .ok (.getfield 9, 3) := by decide +kernel
theorem dJ0_length_8abf5_4 : decode cJ0_length_8abf5 4 = .ok (.arraylength, 1) := by decide +kernel
theorem dJ0_length_8abf5_5 : decode cJ0_length_8abf5 5 = .ok (.aload_n 0, 1) := by decide +kernel
theorem dJ0_length_8abf5_6 : decode cJ0_length_8abf5 6 = .ok (.invokevirtual 335, 3) := by decide +kernel
theorem dJ0_length_8abf5_9 : decode cJ0_length_8abf5 9 = .ok (.ishr, 1) := by decide +kernel
theorem dJ0_length_8abf5_10 : decode cJ0_length_8abf5 10 = .ok (.ireturn, 1) := by decide +kernel
theorem dJ0_charAt_5068e_0 : decode cJ0_charAt_5068e 0 = .ok (.aload_n 0, 1) := by decide +kernel
theorem dJ0_charAt_5068e_1 : decode cJ0_charAt_5068e 1 = .ok (.invokevirtual 492, 3) := by decide +kernel
theorem dJ0_charAt_5068e_4 : decode cJ0_charAt_5068e 4 = .ok (.ifCond .eq 12, 3) := by decide +kernel
theorem dJ0_charAt_5068e_7 : decode cJ0_charAt_5068e 7 = .ok (.aload_n 0, 1) := by decide +kernel
theorem dJ0_charAt_5068e_8 : decode cJ0_charAt_5068e 8 = .ok (.getfield 9, 3) := by decide +kernel
theorem dJ0_charAt_5068e_11 : decode cJ0_charAt_5068e 11 = .ok (.iload_n 1, 1) := by decide +kernel
theorem dJ0_charAt_5068e_12 : decode cJ0_charAt_5068e 12 = .ok (.invokestatic 495, 3) := by decide +kernel
theorem dJ0_charAt_5068e_15 : decode cJ0_charAt_5068e 15 = .ok (.ireturn, 1) := by decide +kernel
theorem dJ0_charAt_5068e_16 : decode cJ0_charAt_5068e 16 = .ok (.aload_n 0, 1) := by decide +kernel
theorem dJ0_charAt_5068e_17 : decode cJ0_charAt_5068e 17 = .ok (.getfield 9, 3) := by decide +kernel
theorem dJ0_charAt_5068e_20 : decode cJ0_charAt_5068e 20 = .ok (.iload_n 1, 1) := by decide +kernel
theorem dJ0_charAt_5068e_21 : decode cJ0_charAt_5068e 21 = .ok (.invokestatic 498, 3) := by decide +kernel
theorem dJ0_charAt_5068e_24 : decode cJ0_charAt_5068e 24 = .ok (.ireturn, 1) := by decide +kernel
theorem dJ0_coder_7d493_0 : decode cJ0_coder_7d493 0 = .ok (.getstatic 38, 3) := by decide +kernel
theorem dJ0_coder_7d493_3 : decode cJ0_coder_7d493 3 = .ok (.ifCond .eq 10, 3) := by decide +kernel
theorem dJ0_coder_7d493_6 : decode cJ0_coder_7d493 6 = .ok (.aload_n 0, 1) := by decide +kernel
theorem dJ0_coder_7d493_7 : decode cJ0_coder_7d493 7 = .ok (.getfield 15, 3) := by decide +kernel
theorem dJ0_coder_7d493_10 : decode cJ0_coder_7d493 10 = .ok (.goto 4, 3) := by decide +kernel
theorem dJ0_coder_7d493_13 : decode cJ0_coder_7d493 13 = .ok (.iconst 1, 1) := by decide +kernel
theorem dJ0_coder_7d493_14 : decode cJ0_coder_7d493 14 = .ok (.ireturn, 1) := by decide +kernel
theorem dJ0_isLatin1_aae02_0 : decode cJ0_isLatin1_aae02 0 = .ok (.getstatic 38, 3) := by decide +kernel
theorem dJ0_isLatin1_aae02_3 : decode cJ0_isLatin1_aae02 3 = .ok (.ifCond .eq 14, 3) := by decide +kernel
theorem dJ0_isLatin1_aae02_6 : decode cJ0_isLatin1_aae02 6 = .ok (.aload_n 0, 1) := by decide +kernel
theorem dJ0_isLatin1_aae02_7 : decode cJ0_isLatin1_aae02 7 = .ok (.getfield 15, 3) := by decide +kernel
theorem dJ0_isLatin1_aae02_10 : decode cJ0_isLatin1_aae02 10 = .ok (.ifCond .ne 7, 3) := by decide +kernel
theorem dJ0_isLatin1_aae02_13 : decode cJ0_isLatin1_aae02 13 = .ok (.iconst 1, 1) := by decide +kernel
theorem dJ0_isLatin1_aae02_14 : decode cJ0_isLatin1_aae02 14 = .ok (.goto 4, 3) := by decide +kernel
theorem dJ0_isLatin1_aae02_17 : decode cJ0_isLatin1_aae02 17 = .ok (.iconst 0, 1) := by decide +kernel
theorem dJ0_isLatin1_aae02_18 : decode cJ0_isLatin1_aae02 18 = .ok (.ireturn, 1) := by decide +kernel
theorem dJ0_checkIndex_df160_0 : decode cJ0_checkIndex_df160 0 = .ok (.iload_n 0, 1) := by decide +kernel
theorem dJ0_checkIndex_df160_1 : decode cJ0_checkIndex_df160 1 = .ok (.iload_n 1, 1) := by decide +kernel
theorem dJ0_checkIndex_df160_2 : decode cJ0_checkIndex_df160 2 = .ok (.getstatic 1053, 3) := by decide +kernel
theorem dJ0_checkIndex_df160_5 : decode cJ0_checkIndex_df160 5 = .ok (.invokestatic 1059, 3) := by decide +kernel
theorem dJ0_checkIndex_df160_8 : decode cJ0_checkIndex_df160 8 = .ok (.pop, 1) := by decide +kernel
theorem dJ0_checkIndex_df160_9 : decode cJ0_checkIndex_df160 9 = .ok (.return_, 1) := by decide +kernel
theorem dJ1_charAt_3b067_0 : decode cJ1_charAt_3b067 0 = .ok (.iload_n 1, 1) := by decide +kernel
theorem dJ1_charAt_3b067_1 : decode cJ1_charAt_3b067 1 = .ok (.aload_n 0, 1) := by decide +kernel
theorem dJ1_charAt_3b067_2 : decode cJ1_charAt_3b067 2 = .ok (.arraylength, 1) := by decide +kernel
theorem dJ1_charAt_3b067_3 : decode cJ1_charAt_3b067 3 = .ok (.invokestatic 9, 3) := by decide +kernel
theorem dJ1_charAt_3b067_6 : decode cJ1_charAt_3b067 6 = .ok (.aload_n 0, 1) := by decide +kernel
theorem dJ1_charAt_3b067_7 : decode cJ1_charAt_3b067 7 = .ok (.iload_n 1, 1) := by decide +kernel
theorem dJ1_charAt_3b067_8 : decode cJ1_charAt_3b067 8 = .ok (.baload, 1) := by decide +kernel
theorem dJ1_charAt_3b067_9 : decode cJ1_charAt_3b067 9 = .ok (.sipush 255, 3) := by decide +kernel
theorem dJ1_charAt_3b067_12 : decode cJ1_charAt_3b067 12 = .ok (.iand, 1) := by decide +kernel
theorem dJ1_charAt_3b067_13 : decode cJ1_charAt_3b067 13 = .ok (.i2c, 1) := by decide +kernel
theorem dJ1_charAt_3b067_14 : decode cJ1_charAt_3b067 14 = .ok (.ireturn, 1) := by decide +kernel
theorem dJ2_getChar_3b067_0 : decode cJ2_getChar_3b067 0 = .ok (.getstatic 44, 3) := by decide +kernel
theorem dJ2_getChar_3b067_3 : decode cJ2_getChar_3b067 3 = .ok (.ifCond .ne 25, 3) := by decide +kernel
theorem dJ2_getChar_3b067_6 : decode cJ2_getChar_3b067 6 = .ok (.iload_n 1, 1) := by decide +kernel
theorem dJ2_getChar_3b067_7 : decode cJ2_getChar_3b067 7 = .ok (.ifCond .lt 11, 3) := by decide +kernel
theorem dJ2_getChar_3b067_10 : decode cJ2_getChar_3b067 10 = .ok (.iload_n 1, 1) := by decide +kernel
theorem dJ2_getChar_3b067_11 : decode cJ2_getChar_3b067 11 = .ok (.aload_n 0, 1) := by decide +kernel
theorem dJ2_getChar_3b067_12 : decode cJ2_getChar_3b067 12 = .ok (.invokestatic 48, 3) := by decide +kernel
theorem dJ2_getChar_3b067_15 : decode cJ2_getChar_3b067 15 = .ok (.if_icmp .lt 13, 3) := by decide +kernel
theorem dJ2_getChar_3b067_18 : decode cJ2_getChar_3b067 18 = .ok (.new 52, 3) := by decide +kernel
theorem dJ2_getChar_3b067_21 : decode cJ2_getChar_3b067 21 = .ok (.dup, 1) := by decide +kernel
theorem dJ2_getChar_3b067_22 : decode cJ2_getChar_3b067 22 = .ok (.ldc 54, 2) := by decide +kernel
theorem dJ2_getChar_3b067_24 : decode cJ2_getChar_3b067 24 = .ok (.invokespecial 56, 3) := by decide +kernel
theorem dJ2_getChar_3b067_27 : decode cJ2_getChar_3b067 27 = .ok (.athrow, 1) := by decide +kernel
theorem dJ2_getChar_3b067_28 : decode cJ2_getChar_3b067 28 = .ok (.iload_n 1, 1) := by decide +kernel
theorem dJ2_getChar_3b067_29 : decode cJ2_getChar_3b067 29 = .ok (.iconst 1, 1) := by decide +kernel
theorem dJ2_getChar_3b067_30 : decode cJ2_getChar_3b067 30 = .ok (.ishl, 1) := by decide +kernel
theorem dJ2_getChar_3b067_31 : decode cJ2_getChar_3b067 31 = .ok (.istore_n 1, 1) := by decide +kernel
theorem dJ2_getChar_3b067_32 : decode cJ2_getChar_3b067 32 = .ok (.aload_n 0, 1) := by decide +kernel
theorem dJ2_getChar_3b067_33 : decode cJ2_getChar_3b067 33 = .ok (.iload_n 1, 1) := by decide +kernel
theorem dJ2_getChar_3b067_34 : decode cJ2_getChar_3b067 34 = .ok (.iinc 1 1, 3) := by decide +kernel
theorem dJ2_getChar_3b067_37 : decode cJ2_getChar_3b067 37 = .ok (.baload, 1) := by decide +kernel
theorem dJ2_getChar_3b067_38 : decode cJ2_getChar_3b067 38 = .ok (.sipush 255, 3) := by decide +kernel
theorem dJ2_getChar_3b067_41 : decode cJ2_getChar_3b067 41 = .ok (.iand, 1) := by decide +kernel
theorem dJ2_getChar_3b067_42 : decode cJ2_getChar_3b067 42 = .ok (.getstatic 59, 3) := by decide +kernel
theorem dJ2_getChar_3b067_45 : decode cJ2_getChar_3b067 45 = .ok (.ishl, 1) := by decide +kernel
theorem dJ2_getChar_3b067_46 : decode cJ2_getChar_3b067 46 = .ok (.aload_n 0, 1) := by decide +kernel
theorem dJ2_getChar_3b067_47 : decode cJ2_getChar_3b067 47 = .ok (.iload_n 1, 1) := by decide +kernel
theorem dJ2_getChar_3b067_48 : decode cJ2_getChar_3b067 48 = .ok (.baload, 1) := by decide +kernel
theorem dJ2_getChar_3b067_49 : decode cJ2_getChar_3b067 49 = .ok (.sipush 255, 3) := by decide +kernel
theorem dJ2_getChar_3b067_52 : decode cJ2_getChar_3b067 52 = .ok (.iand, 1) := by decide +kernel
theorem dJ2_getChar_3b067_53 : decode cJ2_getChar_3b067 53 = .ok (.getstatic 63, 3) := by decide +kernel
theorem dJ2_getChar_3b067_56 : decode cJ2_getChar_3b067 56 = .ok (.ishl, 1) := by decide +kernel
theorem dJ2_getChar_3b067_57 : decode cJ2_getChar_3b067 57 = .ok (.ior, 1) := by decide +kernel
theorem dJ2_getChar_3b067_58 : decode cJ2_getChar_3b067 58 = .ok (.i2c, 1) := by decide +kernel
theorem dJ2_getChar_3b067_59 : decode cJ2_getChar_3b067 59 = .ok (.ireturn, 1) := by decide +kernel
theorem dJ2_length_9d52b_0 : decode cJ2_length_9d52b 0 = .ok (.aload_n 0, 1) := by decide +kernel
theorem dJ2_length_9d52b_1 : decode cJ2_length_9d52b 1 = .ok (.arraylength, 1) := by decide +kernel
theorem dJ2_length_9d52b_2 : decode cJ2_length_9d52b 2 = .ok (.iconst 1, 1) := by decide +kernel
theorem dJ2_length_9d52b_3 : decode cJ2_length_9d52b 3 = .ok (.ishr, 1) := by decide +kernel
theorem dJ2_length_9d52b_4 : decode cJ2_length_9d52b 4 = .ok (.ireturn, 1) := by decide +kernel
theorem dJ2_charAt_3b067_0 : decode cJ2_charAt_3b067 0 = .ok (.iload_n 1, 1) := by decide +kernel
theorem dJ2_charAt_3b067_1 : decode cJ2_charAt_3b067 1 = .ok (.aload_n 0, 1) := by decide +kernel
theorem dJ2_charAt_3b067_2 : decode cJ2_charAt_3b067 2 = .ok (.invokestatic 67, 3) := by decide +kernel
theorem dJ2_charAt_3b067_5 : decode cJ2_charAt_3b067 5 = .ok (.aload_n 0, 1) := by decide +kernel
theorem dJ2_charAt_3b067_6 : decode cJ2_charAt_3b067 6 = .ok (.iload_n 1, 1) := by decide +kernel
theorem dJ2_charAt_3b067_7 : decode cJ2_charAt_3b067 7 = .ok (.invokestatic 71, 3) := by decide +kernel
theorem dJ2_charAt_3b067_10 : decode cJ2_charAt_3b067 10 = .ok (.ireturn, 1) := by decide +kernel
theorem dJ2_checkIndex_2214a_0 : decode cJ2_checkIndex_2214a 0 = .ok (.iload_n 0, 1) := by decide +kernel
theorem dJ2_checkIndex_2214a_1 : decode cJ2_checkIndex_2214a 1 = .ok (.aload_n 1, 1) := by decide +kernel
theorem dJ2_checkIndex_2214a_2 : decode cJ2_checkIndex_2214a 2 = .ok (.invokestatic 48, 3) := by decide +kernel
theorem dJ2_checkIndex_2214a_5 : decode cJ2_checkIndex_2214a 5 = .ok (.invokestatic 414, 3) := by decide +kernel
theorem dJ2_checkIndex_2214a_8 : decode cJ2_checkIndex_2214a 8 = .ok (.return_, 1) := by decide +kernel
theorem dJ3_checkIndex_8e157_0 : decode cJ3_checkIndex_8e157 0 = .ok (.iload_n 0, 1) := by decide +kernel
theorem dJ3_checkIndex_8e157_1 : decode cJ3_checkIndex_8e157 1 = .ok (.ifCond .lt 8, 3) := by decide +kernel
theorem dJ3_checkIndex_8e157_4 : decode cJ3_checkIndex_8e157 4 = .ok (.iload_n 0, 1) := by decide +kernel
theorem dJ3_checkIndex_8e157_5 : decode cJ3_checkIndex_8e157 5 = .ok (.iload_n 1, 1) := by decide +kernel
theorem dJ3_checkIndex_8e157_6 : decode cJ3_checkIndex_8e157 6 = .ok (.if_icmp .lt 10, 3) := by decide +kernel
theorem dJ3_checkIndex_8e157_9 : decode cJ3_checkIndex_8e157 9 = .ok (.aload_n 2, 1) := by decide +kernel
theorem dJ3_checkIndex_8e157_10 : decode cJ3_checkIndex_8e157 10 = .ok (.iload_n 0, 1) := by decide +kernel
theorem dJ3_checkIndex_8e157_11 : decode cJ3_checkIndex_8e157 11 = .ok (.iload_n 1, 1) := by decide +kernel
theorem dJ3_checkIndex_8e157_12 : decode cJ3_checkIndex_8e157 12 = .ok (.invokestatic 95, 3) := by decide +kernel
theorem dJ3_checkIndex_8e157_15 : decode cJ3_checkIndex_8e157 15 = .ok (.athrow, 1) := by decide +kernel
theorem dJ3_checkIndex_8e157_16 : decode cJ3_checkIndex_8e157 16 = .ok (.iload_n 0, 1) := by decide +kernel
theorem dJ3_checkIndex_8e157_17 : decode cJ3_checkIndex_8e157 17 = .ok (.ireturn, 1) := by decide +kernel
