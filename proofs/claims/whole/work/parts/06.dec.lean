theorem dX0_init_0 : decode cX0_init 0 = .ok (.aload_n 0, 1) := by decide +kernel
theorem dX0_init_1 : decode cX0_init 1 = .ok (.invokespecial 1, 3) := by decide +kernel
theorem dX0_init_4 : decode cX0_init 4 = .ok (.return_, 1) := by decide +kernel
theorem dX0_addSap_0 : decode cX0_addSap 0 = .ok (.aload_n 0, 1) := by decide +kernel
theorem dX0_addSap_1 : decode cX0_addSap 1 = .ok (.dup, 1) := by decide +kernel
theorem dX0_addSap_2 : decode cX0_addSap 2 = .ok (.getfield 7, 3) := by decide +kernel
theorem dX0_addSap_5 : decode cX0_addSap 5 = .ok (.iload_n 1, 1) := by decide +kernel
theorem dX0_addSap_6 : decode cX0_addSap 6 = .ok (.i2l, 1) := by decide +kernel
theorem dX0_addSap_7 : decode cX0_addSap 7 = .ok (.ladd, 1) := by decide +kernel
theorem dX0_addSap_8 : decode cX0_addSap 8 = .ok (.putfield 7, 3) := by decide +kernel
theorem dX0_addSap_11 : decode cX0_addSap 11 = .ok (.aload_n 0, 1) := by decide +kernel
theorem dX0_addSap_12 : decode cX0_addSap 12 = .ok (.dup, 1) := by decide +kernel
theorem dX0_addSap_13 : decode cX0_addSap 13 = .ok (.getfield 13, 3) := by decide +kernel
theorem dX0_addSap_16 : decode cX0_addSap 16 = .ok (.iload_n 2, 1) := by decide +kernel
theorem dX0_addSap_17 : decode cX0_addSap 17 = .ok (.i2l, 1) := by decide +kernel
theorem dX0_addSap_18 : decode cX0_addSap 18 = .ok (.ladd, 1) := by decide +kernel
theorem dX0_addSap_19 : decode cX0_addSap 19 = .ok (.putfield 13, 3) := by decide +kernel
theorem dX0_addSap_22 : decode cX0_addSap 22 = .ok (.return_, 1) := by decide +kernel
theorem dX0_addSteam_0 : decode cX0_addSteam 0 = .ok (.aload_n 0, 1) := by decide +kernel
theorem dX0_addSteam_1 : decode cX0_addSteam 1 = .ok (.dup, 1) := by decide +kernel
theorem dX0_addSteam_2 : decode cX0_addSteam 2 = .ok (.getfield 16, 3) := by decide +kernel
theorem dX0_addSteam_5 : decode cX0_addSteam 5 = .ok (.iload_n 1, 1) := by decide +kernel
theorem dX0_addSteam_6 : decode cX0_addSteam 6 = .ok (.i2l, 1) := by decide +kernel
theorem dX0_addSteam_7 : decode cX0_addSteam 7 = .ok (.ladd, 1) := by decide +kernel
theorem dX0_addSteam_8 : decode cX0_addSteam 8 = .ok (.putfield 16, 3) := by decide +kernel
theorem dX0_addSteam_11 : decode cX0_addSteam 11 = .ok (.return_, 1) := by decide +kernel
theorem dX0_addLoss_0 : decode cX0_addLoss 0 = .ok (.aload_n 0, 1) := by decide +kernel
theorem dX0_addLoss_1 : decode cX0_addLoss 1 = .ok (.dup, 1) := by decide +kernel
theorem dX0_addLoss_2 : decode cX0_addLoss 2 = .ok (.getfield 19, 3) := by decide +kernel
theorem dX0_addLoss_5 : decode cX0_addLoss 5 = .ok (.iload_n 1, 1) := by decide +kernel
theorem dX0_addLoss_6 : decode cX0_addLoss 6 = .ok (.i2l, 1) := by decide +kernel
theorem dX0_addLoss_7 : decode cX0_addLoss 7 = .ok (.ladd, 1) := by decide +kernel
theorem dX0_addLoss_8 : decode cX0_addLoss 8 = .ok (.putfield 19, 3) := by decide +kernel
theorem dX0_addLoss_11 : decode cX0_addLoss 11 = .ok (.aload_n 0, 1) := by decide +kernel
theorem dX0_addLoss_12 : decode cX0_addLoss 12 = .ok (.dup, 1) := by decide +kernel
theorem dX0_addLoss_13 : decode cX0_addLoss 13 = .ok (.getfield 22, 3) := by decide +kernel
theorem dX0_addLoss_16 : decode cX0_addLoss 16 = .ok (.iload_n 2, 1) := by decide +kernel
theorem dX0_addLoss_17 : decode cX0_addLoss 17 = .ok (.i2l, 1) := by decide +kernel
theorem dX0_addLoss_18 : decode cX0_addLoss 18 = .ok (.ladd, 1) := by decide +kernel
theorem dX0_addLoss_19 : decode cX0_addLoss 19 = .ok (.putfield 22, 3) := by decide +kernel
theorem dX0_addLoss_22 : decode cX0_addLoss 22 = .ok (.return_, 1) := by decide +kernel
theorem dX1_init_0 : decode cX1_init 0 = .ok (.aload_n 0, 1) := by decide +kernel
theorem dX1_init_1 : decode cX1_init 1 = .ok (.invokespecial 3, 3) := by decide +kernel
theorem dX1_init_4 : decode cX1_init 4 = .ok (.return_, 1) := by decide +kernel
theorem dX1_leastVolume_0 : decode cX1_leastVolume 0 = .ok (.aload_n 0, 1) := by decide +kernel
theorem dX1_leastVolume_1 : decode cX1_leastVolume 1 = .ok (.getfield 9, 3) := by decide +kernel
theorem dX1_leastVolume_4 : decode cX1_leastVolume 4 = .ok (.bipush 60, 2) := by decide +kernel
theorem dX1_leastVolume_6 : decode cX1_leastVolume 6 = .ok (.iadd, 1) := by decide +kernel
theorem dX1_leastVolume_7 : decode cX1_leastVolume 7 = .ok (.iconst 1, 1) := by decide +kernel
theorem dX1_leastVolume_8 : decode cX1_leastVolume 8 = .ok (.isub, 1) := by decide +kernel
theorem dX1_leastVolume_9 : decode cX1_leastVolume 9 = .ok (.bipush 60, 2) := by decide +kernel
theorem dX1_leastVolume_11 : decode cX1_leastVolume 11 = .ok (.idiv, 1) := by decide +kernel
theorem dX1_leastVolume_12 : decode cX1_leastVolume 12 = .ok (.ireturn, 1) := by decide +kernel
theorem dX1_isSyrup_0 : decode cX1_isSyrup 0 = .ok (.aload_n 0, 1) := by decide +kernel
theorem dX1_isSyrup_1 : decode cX1_isSyrup 1 = .ok (.getfield 15, 3) := by decide +kernel
theorem dX1_isSyrup_4 : decode cX1_isSyrup 4 = .ok (.ifCond .le 18, 3) := by decide +kernel
theorem dX1_isSyrup_7 : decode cX1_isSyrup 7 = .ok (.aload_n 0, 1) := by decide +kernel
theorem dX1_isSyrup_8 : decode cX1_isSyrup 8 = .ok (.getfield 15, 3) := by decide +kernel
theorem dX1_isSyrup_11 : decode cX1_isSyrup 11 = .ok (.aload_n 0, 1) := by decide +kernel
theorem dX1_isSyrup_12 : decode cX1_isSyrup 12 = .ok (.invokevirtual 18, 3) := by decide +kernel
theorem dX1_isSyrup_15 : decode cX1_isSyrup 15 = .ok (.if_icmp .gt 7, 3) := by decide +kernel
theorem dX1_isSyrup_18 : decode cX1_isSyrup 18 = .ok (.iconst 1, 1) := by decide +kernel
theorem dX1_isSyrup_19 : decode cX1_isSyrup 19 = .ok (.goto 4, 3) := by decide +kernel
theorem dX1_isSyrup_22 : decode cX1_isSyrup 22 = .ok (.iconst 0, 1) := by decide +kernel
theorem dX1_isSyrup_23 : decode cX1_isSyrup 23 = .ok (.ireturn, 1) := by decide +kernel
theorem dX1_fill_0 : decode cX1_fill 0 = .ok (.aload_n 0, 1) := by decide +kernel
theorem dX1_fill_1 : decode cX1_fill 1 = .ok (.dup, 1) := by decide +kernel
theorem dX1_fill_2 : decode cX1_fill 2 = .ok (.getfield 15, 3) := by decide +kernel
theorem dX1_fill_5 : decode cX1_fill 5 = .ok (.iload_n 1, 1) := by decide +kernel
theorem dX1_fill_6 : decode cX1_fill 6 = .ok (.iadd, 1) := by decide +kernel
theorem dX1_fill_7 : decode cX1_fill 7 = .ok (.putfield 15, 3) := by decide +kernel
theorem dX1_fill_10 : decode cX1_fill 10 = .ok (.aload_n 0, 1) := by decide +kernel
theorem dX1_fill_11 : decode cX1_fill 11 = .ok (.dup, 1) := by decide +kernel
theorem dX1_fill_12 : decode cX1_fill 12 = .ok (.getfield 9, 3) := by decide +kernel
theorem dX1_fill_15 : decode cX1_fill 15 = .ok (.iload_n 2, 1) := by decide +kernel
theorem dX1_fill_16 : decode cX1_fill 16 = .ok (.iadd, 1) := by decide +kernel
theorem dX1_fill_17 : decode cX1_fill 17 = .ok (.putfield 9, 3) := by decide +kernel
theorem dX1_fill_20 : decode cX1_fill 20 = .ok (.return_, 1) := by decide +kernel
theorem dX1_boil_0 : decode cX1_boil 0 = .ok (.aload_n 0, 1) := by decide +kernel
theorem dX1_boil_1 : decode cX1_boil 1 = .ok (.getfield 15, 3) := by decide +kernel
theorem dX1_boil_4 : decode cX1_boil 4 = .ok (.istore_n 2, 1) := by decide +kernel
theorem dX1_boil_5 : decode cX1_boil 5 = .ok (.aload_n 0, 1) := by decide +kernel
theorem dX1_boil_6 : decode cX1_boil 6 = .ok (.invokevirtual 18, 3) := by decide +kernel
theorem dX1_boil_9 : decode cX1_boil 9 = .ok (.iload_n 2, 1) := by decide +kernel
theorem dX1_boil_10 : decode cX1_boil 10 = .ok (.iconst 5, 1) := by decide +kernel
theorem dX1_boil_11 : decode cX1_boil 11 = .ok (.iload_n 1, 1) := by decide +kernel
theorem dX1_boil_12 : decode cX1_boil 12 = .ok (.imul, 1) := by decide +kernel
theorem dX1_boil_13 : decode cX1_boil 13 = .ok (.isub, 1) := by decide +kernel
theorem dX1_boil_14 : decode cX1_boil 14 = .ok (.invokestatic 22, 3) := by decide +kernel
theorem dX1_boil_17 : decode cX1_boil 17 = .ok (.istore_n 3, 1) := by decide +kernel
theorem dX1_boil_18 : decode cX1_boil 18 = .ok (.iload_n 3, 1) := by decide +kernel
theorem dX1_boil_19 : decode cX1_boil 19 = .ok (.iload_n 2, 1) := by decide +kernel
theorem dX1_boil_20 : decode cX1_boil 20 = .ok (.if_icmp .ge 18, 3) := by decide +kernel
theorem dX1_boil_23 : decode cX1_boil 23 = .ok (.aload_n 0, 1) := by decide +kernel
theorem dX1_boil_24 : decode cX1_boil 24 = .ok (.iload_n 3, 1) := by decide +kernel
theorem dX1_boil_25 : decode cX1_boil 25 = .ok (.putfield 15, 3) := by decide +kernel
theorem dX1_boil_28 : decode cX1_boil 28 = .ok (.aload_n 0, 1) := by decide +kernel
theorem dX1_boil_29 : decode cX1_boil 29 = .ok (.dup, 1) := by decide +kernel
theorem dX1_boil_30 : decode cX1_boil 30 = .ok (.getfield 28, 3) := by decide +kernel
theorem dX1_boil_33 : decode cX1_boil 33 = .ok (.iconst 1, 1) := by decide +kernel
theorem dX1_boil_34 : decode cX1_boil 34 = .ok (.iadd, 1) := by decide +kernel
theorem dX1_boil_35 : decode cX1_boil 35 = .ok (.putfield 28, 3) := by decide +kernel
theorem dX1_boil_38 : decode cX1_boil 38 = .ok (.iload_n 2, 1) := by decide +kernel
theorem dX1_boil_39 : decode cX1_boil 39 = .ok (.aload_n 0, 1) := by decide +kernel
theorem dX1_boil_40 : decode cX1_boil 40 = .ok (.getfield 15, 3) := by decide +kernel
theorem dX1_boil_43 : decode cX1_boil 43 = .ok (.isub, 1) := by decide +kernel
theorem dX1_boil_44 : decode cX1_boil 44 = .ok (.ireturn, 1) := by decide +kernel
theorem dX1_copy_0 : decode cX1_copy 0 = .ok (.aload_n 0, 1) := by decide +kernel
theorem dX1_copy_1 : decode cX1_copy 1 = .ok (.aload_n 1, 1) := by decide +kernel
theorem dX1_copy_2 : decode cX1_copy 2 = .ok (.getfield 15, 3) := by decide +kernel
theorem dX1_copy_5 : decode cX1_copy 5 = .ok (.putfield 15, 3) := by decide +kernel
theorem dX1_copy_8 : decode cX1_copy 8 = .ok (.aload_n 0, 1) := by decide +kernel
theorem dX1_copy_9 : decode cX1_copy 9 = .ok (.aload_n 1, 1) := by decide +kernel
theorem dX1_copy_10 : decode cX1_copy 10 = .ok (.getfield 9, 3) := by decide +kernel
theorem dX1_copy_13 : decode cX1_copy 13 = .ok (.putfield 9, 3) := by decide +kernel
theorem dX1_copy_16 : decode cX1_copy 16 = .ok (.aload_n 0, 1) := by decide +kernel
theorem dX1_copy_17 : decode cX1_copy 17 = .ok (.aload_n 1, 1) := by decide +kernel
theorem dX1_copy_18 : decode cX1_copy 18 = .ok (.getfield 28, 3) := by decide +kernel
theorem dX1_copy_21 : decode cX1_copy 21 = .ok (.putfield 28, 3) := by decide +kernel
theorem dX1_copy_24 : decode cX1_copy 24 = .ok (.return_, 1) := by decide +kernel
theorem dX1_clear_0 : decode cX1_clear 0 = .ok (.aload_n 0, 1) := by decide +kernel
theorem dX1_clear_1 : decode cX1_clear 1 = .ok (.iconst 0, 1) := by decide +kernel
theorem dX1_clear_2 : decode cX1_clear 2 = .ok (.putfield 15, 3) := by decide +kernel
theorem dX1_clear_5 : decode cX1_clear 5 = .ok (.aload_n 0, 1) := by decide +kernel
theorem dX1_clear_6 : decode cX1_clear 6 = .ok (.iconst 0, 1) := by decide +kernel
theorem dX1_clear_7 : decode cX1_clear 7 = .ok (.putfield 9, 3) := by decide +kernel
theorem dX1_clear_10 : decode cX1_clear 10 = .ok (.aload_n 0, 1) := by decide +kernel
theorem dX1_clear_11 : decode cX1_clear 11 = .ok (.iconst 0, 1) := by decide +kernel
theorem dX1_clear_12 : decode cX1_clear 12 = .ok (.putfield 28, 3) := by decide +kernel
theorem dX1_clear_15 : decode cX1_clear 15 = .ok (.return_, 1) := by decide +kernel
theorem dX2_init_0 : decode cX2_init 0 = .ok (.aload_n 0, 1) := by decide +kernel
theorem dX2_init_1 : decode cX2_init 1 = .ok (.invokespecial 3, 3) := by decide +kernel
theorem dX2_init_4 : decode cX2_init 4 = .ok (.aload_n 0, 1) := by decide +kernel
theorem dX2_init_5 : decode cX2_init 5 = .ok (.bipush 30, 2) := by decide +kernel
theorem dX2_init_7 : decode cX2_init 7 = .ok (.newarray .int, 2) := by decide +kernel
theorem dX2_init_9 : decode cX2_init 9 = .ok (.putfield 9, 3) := by decide +kernel
theorem dX2_init_12 : decode cX2_init 12 = .ok (.aload_n 0, 1) := by decide +kernel
theorem dX2_init_13 : decode cX2_init 13 = .ok (.bipush 30, 2) := by decide +kernel
theorem dX2_init_15 : decode cX2_init 15 = .ok (.newarray .char, 2) := by decide +kernel
theorem dX2_init_17 : decode cX2_init 17 = .ok (.putfield 15, 3) := by decide +kernel
theorem dX2_init_20 : decode cX2_init 20 = .ok (.return_, 1) := by decide +kernel
theorem dX2_size_0 : decode cX2_size 0 = .ok (.aload_n 0, 1) := by decide +kernel
theorem dX2_size_1 : decode cX2_size 1 = .ok (.getfield 19, 3) := by decide +kernel
theorem dX2_size_4 : decode cX2_size 4 = .ok (.ireturn, 1) := by decide +kernel
theorem dX2_isFull_0 : decode cX2_isFull 0 = .ok (.aload_n 0, 1) := by decide +kernel
theorem dX2_isFull_1 : decode cX2_isFull 1 = .ok (.getfield 19, 3) := by decide +kernel
theorem dX2_isFull_4 : decode cX2_isFull 4 = .ok (.bipush 30, 2) := by decide +kernel
theorem dX2_isFull_6 : decode cX2_isFull 6 = .ok (.if_icmp .lt 7, 3) := by decide +kernel
theorem dX2_isFull_9 : decode cX2_isFull 9 = .ok (.iconst 1, 1) := by decide +kernel
theorem dX2_isFull_10 : decode cX2_isFull 10 = .ok (.goto 4, 3) := by decide +kernel
theorem dX2_isFull_13 : decode cX2_isFull 13 = .ok (.iconst 0, 1) := by decide +kernel
theorem dX2_isFull_14 : decode cX2_isFull 14 = .ok (.ireturn, 1) := by decide +kernel
theorem dX2_has_0 : decode cX2_has 0 = .ok (.iload_n 1, 1) := by decide +kernel
theorem dX2_has_1 : decode cX2_has 1 = .ok (.ifCond .lt 15, 3) := by decide +kernel
theorem dX2_has_4 : decode cX2_has 4 = .ok (.iload_n 1, 1) := by decide +kernel
theorem dX2_has_5 : decode cX2_has 5 = .ok (.aload_n 0, 1) := by decide +kernel
theorem dX2_has_6 : decode cX2_has 6 = .ok (.getfield 19, 3) := by decide +kernel
theorem dX2_has_9 : decode cX2_has 9 = .ok (.if_icmp .ge 7, 3) := by decide +kernel
theorem dX2_has_12 : decode cX2_has 12 = .ok (.iconst 1, 1) := by decide +kernel
theorem dX2_has_13 : decode cX2_has 13 = .ok (.goto 4, 3) := by decide +kernel
theorem dX2_has_16 : decode cX2_has 16 = .ok (.iconst 0, 1) := by decide +kernel
theorem dX2_has_17 : decode cX2_has 17 = .ok (.ireturn, 1) := by decide +kernel
theorem dX2_keep_0 : decode cX2_keep 0 = .ok (.aload_n 0, 1) := by decide +kernel
theorem dX2_keep_1 : decode cX2_keep 1 = .ok (.getfield 19, 3) := by decide +kernel
theorem dX2_keep_4 : decode cX2_keep 4 = .ok (.istore 4, 2) := by decide +kernel
theorem dX2_keep_6 : decode cX2_keep 6 = .ok (.aload_n 0, 1) := by decide +kernel
theorem dX2_keep_7 : decode cX2_keep 7 = .ok (.getfield 9, 3) := by decide +kernel
theorem dX2_keep_10 : decode cX2_keep 10 = .ok (.iload 4, 2) := by decide +kernel
theorem dX2_keep_12 : decode cX2_keep 12 = .ok (.iload_n 1, 1) := by decide +kernel
theorem dX2_keep_13 : decode cX2_keep 13 = .ok (.iastore, 1) := by decide +kernel
theorem dX2_keep_14 : decode cX2_keep 14 = .ok (.aload_n 0, 1) := by decide +kernel
theorem dX2_keep_15 : decode cX2_keep 15 = .ok (.getfield 15, 3) := by decide +kernel
theorem dX2_keep_18 : decode cX2_keep 18 = .ok (.iload 4, 2) := by decide +kernel
theorem dX2_keep_20 : decode cX2_keep 20 = .ok (.iload_n 3, 1) := by decide +kernel
theorem dX2_keep_21 : decode cX2_keep 21 = .ok (.castore, 1) := by decide +kernel
theorem dX2_keep_22 : decode cX2_keep 22 = .ok (.aload_n 0, 1) := by decide +kernel
theorem dX2_keep_23 : decode cX2_keep 23 = .ok (.dup, 1) := by decide +kernel
theorem dX2_keep_24 : decode cX2_keep 24 = .ok (.getfield 23, 3) := by decide +kernel
theorem dX2_keep_27 : decode cX2_keep 27 = .ok (.iload_n 2, 1) := by decide +kernel
theorem dX2_keep_28 : decode cX2_keep 28 = .ok (.i2l, 1) := by decide +kernel
theorem dX2_keep_29 : decode cX2_keep 29 = .ok (.ladd, 1) := by decide +kernel
theorem dX2_keep_30 : decode cX2_keep 30 = .ok (.putfield 23, 3) := by decide +kernel
theorem dX2_keep_33 : decode cX2_keep 33 = .ok (.aload_n 0, 1) := by decide +kernel
theorem dX2_keep_34 : decode cX2_keep 34 = .ok (.iload 4, 2) := by decide +kernel
theorem dX2_keep_36 : decode cX2_keep 36 = .ok (.iconst 1, 1) := by decide +kernel
theorem dX2_keep_37 : decode cX2_keep 37 = .ok (.iadd, 1) := by decide +kernel
theorem dX2_keep_38 : decode cX2_keep 38 = .ok (.putfield 19, 3) := by decide +kernel
theorem dX2_keep_41 : decode cX2_keep 41 = .ok (.iload 4, 2) := by decide +kernel
theorem dX2_keep_43 : decode cX2_keep 43 = .ok (.ireturn, 1) := by decide +kernel
theorem dX2_volumeOfAll_0 : decode cX2_volumeOfAll 0 = .ok (.lconst 0, 1) := by decide +kernel
theorem dX2_volumeOfAll_1 : decode cX2_volumeOfAll 1 = .ok (.lstore_n 1, 1) := by decide +kernel
theorem dX2_volumeOfAll_2 : decode cX2_volumeOfAll 2 = .ok (.iconst 0, 1) := by decide +kernel
theorem dX2_volumeOfAll_3 : decode cX2_volumeOfAll 3 = .ok (.istore_n 3, 1) := by decide +kernel
theorem dX2_volumeOfAll_4 : decode cX2_volumeOfAll 4 = .ok (.iload_n 3, 1) := by decide +kernel
theorem dX2_volumeOfAll_5 : decode cX2_volumeOfAll 5 = .ok (.aload_n 0, 1) := by decide +kernel
theorem dX2_volumeOfAll_6 : decode cX2_volumeOfAll 6 = .ok (.getfield 19, 3) := by decide +kernel
theorem dX2_volumeOfAll_9 : decode cX2_volumeOfAll 9 = .ok (.if_icmp .ge 19, 3) := by decide +kernel
theorem dX2_volumeOfAll_12 : decode cX2_volumeOfAll 12 = .ok (.lload_n 1, 1) := by decide +kernel
theorem dX2_volumeOfAll_13 : decode cX2_volumeOfAll 13 = .ok (.aload_n 0, 1) := by decide +kernel
theorem dX2_volumeOfAll_14 : decode cX2_volumeOfAll 14 = .ok (.getfield 9, 3) := by decide +kernel
theorem dX2_volumeOfAll_17 : decode cX2_volumeOfAll 17 = .ok (.iload_n 3, 1) := by decide +kernel
theorem dX2_volumeOfAll_18 : decode cX2_volumeOfAll 18 = .ok (.iaload, 1) := by decide +kernel
theorem dX2_volumeOfAll_19 : decode cX2_volumeOfAll 19 = .ok (.i2l, 1) := by decide +kernel
theorem dX2_volumeOfAll_20 : decode cX2_volumeOfAll 20 = .ok (.ladd, 1) := by decide +kernel
theorem dX2_volumeOfAll_21 : decode cX2_volumeOfAll 21 = .ok (.lstore_n 1, 1) := by decide +kernel
theorem dX2_volumeOfAll_22 : decode cX2_volumeOfAll 22 = .ok (.iinc 3 1, 3) := by decide +kernel
theorem dX2_volumeOfAll_25 : decode cX2_volumeOfAll 25 = .ok (.goto (-21), 3) := by decide +kernel
theorem dX2_volumeOfAll_28 : decode cX2_volumeOfAll 28 = .ok (.lload_n 1, 1) := by decide +kernel
theorem dX2_volumeOfAll_29 : decode cX2_volumeOfAll 29 = .ok (.lreturn, 1) := by decide +kernel
theorem dX3_init_0 : decode cX3_init 0 = .ok (.aload_n 0, 1) := by decide +kernel
theorem dX3_init_1 : decode cX3_init 1 = .ok (.invokespecial 1, 3) := by decide +kernel
theorem dX3_init_4 : decode cX3_init 4 = .ok (.aload_n 0, 1) := by decide +kernel
theorem dX3_init_5 : decode cX3_init 5 = .ok (.iload_n 1, 1) := by decide +kernel
theorem dX3_init_6 : decode cX3_init 6 = .ok (.putfield 7, 3) := by decide +kernel
theorem dX3_init_9 : decode cX3_init 9 = .ok (.return_, 1) := by decide +kernel
theorem dX3_room_0 : decode cX3_room 0 = .ok (.aload_n 0, 1) := by decide +kernel
theorem dX3_room_1 : decode cX3_room 1 = .ok (.getfield 7, 3) := by decide +kernel
theorem dX3_room_4 : decode cX3_room 4 = .ok (.aload_n 0, 1) := by decide +kernel
theorem dX3_room_5 : decode cX3_room 5 = .ok (.getfield 13, 3) := by decide +kernel
theorem dX3_room_8 : decode cX3_room 8 = .ok (.isub, 1) := by decide +kernel
theorem dX3_room_9 : decode cX3_room 9 = .ok (.ireturn, 1) := by decide +kernel
theorem dX3_putIn_0 : decode cX3_putIn 0 = .ok (.aload_n 0, 1) := by decide +kernel
theorem dX3_putIn_1 : decode cX3_putIn 1 = .ok (.dup, 1) := by decide +kernel
theorem dX3_putIn_2 : decode cX3_putIn 2 = .ok (.getfield 13, 3) := by decide +kernel
theorem dX3_putIn_5 : decode cX3_putIn 5 = .ok (.iload_n 1, 1) := by decide +kernel
theorem dX3_putIn_6 : decode cX3_putIn 6 = .ok (.iadd, 1) := by decide +kernel
theorem dX3_putIn_7 : decode cX3_putIn 7 = .ok (.putfield 13, 3) := by decide +kernel
theorem dX3_putIn_10 : decode cX3_putIn 10 = .ok (.aload_n 0, 1) := by decide +kernel
theorem dX3_putIn_11 : decode cX3_putIn 11 = .ok (.dup, 1) := by decide +kernel
theorem dX3_putIn_12 : decode cX3_putIn 12 = .ok (.getfield 16, 3) := by decide +kernel
theorem dX3_putIn_15 : decode cX3_putIn 15 = .ok (.iload_n 2, 1) := by decide +kernel
theorem dX3_putIn_16 : decode cX3_putIn 16 = .ok (.iadd, 1) := by decide +kernel
theorem dX3_putIn_17 : decode cX3_putIn 17 = .ok (.putfield 16, 3) := by decide +kernel
theorem dX3_putIn_20 : decode cX3_putIn 20 = .ok (.return_, 1) := by decide +kernel
theorem dX3_takeOut_0 : decode cX3_takeOut 0 = .ok (.aload_n 0, 1) := by decide +kernel
theorem dX3_takeOut_1 : decode cX3_takeOut 1 = .ok (.dup, 1) := by decide +kernel
theorem dX3_takeOut_2 : decode cX3_takeOut 2 = .ok (.getfield 13, 3) := by decide +kernel
theorem dX3_takeOut_5 : decode cX3_takeOut 5 = .ok (.iload_n 1, 1) := by decide +kernel
theorem dX3_takeOut_6 : decode cX3_takeOut 6 = .ok (.isub, 1) := by decide +kernel
theorem dX3_takeOut_7 : decode cX3_takeOut 7 = .ok (.putfield 13, 3) := by decide +kernel
theorem dX3_takeOut_10 : decode cX3_takeOut 10 = .ok (.aload_n 0, 1) := by decide +kernel
theorem dX3_takeOut_11 : decode cX3_takeOut 11 = .ok (.dup, 1) := by decide +kernel
theorem dX3_takeOut_12 : decode cX3_takeOut 12 = .ok (.getfield 16, 3) := by decide +kernel
theorem dX3_takeOut_15 : decode cX3_takeOut 15 = .ok (.iload_n 2, 1) := by decide +kernel
theorem dX3_takeOut_16 : decode cX3_takeOut 16 = .ok (.isub, 1) := by decide +kernel
theorem dX3_takeOut_17 : decode cX3_takeOut 17 = .ok (.putfield 16, 3) := by decide +kernel
theorem dX3_takeOut_20 : decode cX3_takeOut 20 = .ok (.return_, 1) := by decide +kernel
theorem dX4_init_0 : decode cX4_init 0 = .ok (.aload_n 0, 1) := by decide +kernel
theorem dX4_init_1 : decode cX4_init 1 = .ok (.invokespecial 3, 3) := by decide +kernel
theorem dX4_init_4 : decode cX4_init 4 = .ok (.aload_n 0, 1) := by decide +kernel
theorem dX4_init_5 : decode cX4_init 5 = .ok (.iload_n 1, 1) := by decide +kernel
theorem dX4_init_6 : decode cX4_init 6 = .ok (.putfield 9, 3) := by decide +kernel
theorem dX4_init_9 : decode cX4_init 9 = .ok (.aload_n 0, 1) := by decide +kernel
theorem dX4_init_10 : decode cX4_init 10 = .ok (.iload_n 2, 1) := by decide +kernel
theorem dX4_init_11 : decode cX4_init 11 = .ok (.putfield 15, 3) := by decide +kernel
theorem dX4_init_14 : decode cX4_init 14 = .ok (.aload_n 0, 1) := by decide +kernel
theorem dX4_init_15 : decode cX4_init 15 = .ok (.iload_n 3, 1) := by decide +kernel
theorem dX4_init_16 : decode cX4_init 16 = .ok (.putfield 18, 3) := by decide +kernel
theorem dX4_init_19 : decode cX4_init 19 = .ok (.aload_n 0, 1) := by decide +kernel
theorem dX4_init_20 : decode cX4_init 20 = .ok (.sipush 200, 3) := by decide +kernel
theorem dX4_init_23 : decode cX4_init 23 = .ok (.newarray .int, 2) := by decide +kernel
theorem dX4_init_25 : decode cX4_init 25 = .ok (.putfield 21, 3) := by decide +kernel
theorem dX4_init_28 : decode cX4_init 28 = .ok (.return_, 1) := by decide +kernel
theorem dX4_run_0 : decode cX4_run 0 = .ok (.iconst 0, 1) := by decide +kernel
theorem dX4_run_1 : decode cX4_run 1 = .ok (.istore 4, 2) := by decide +kernel
theorem dX4_run_3 : decode cX4_run 3 = .ok (.iload_n 2, 1) := by decide +kernel
theorem dX4_run_4 : decode cX4_run 4 = .ok (.aload_n 0, 1) := by decide +kernel
theorem dX4_run_5 : decode cX4_run 5 = .ok (.getfield 18, 3) := by decide +kernel
theorem dX4_run_8 : decode cX4_run 8 = .ok (.isub, 1) := by decide +kernel
theorem dX4_run_9 : decode cX4_run 9 = .ok (.ifCond .ge 21, 3) := by decide +kernel
theorem dX4_run_12 : decode cX4_run 12 = .ok (.aload_n 0, 1) := by decide +kernel
theorem dX4_run_13 : decode cX4_run 13 = .ok (.bipush 9, 2) := by decide +kernel
theorem dX4_run_15 : decode cX4_run 15 = .ok (.aload_n 0, 1) := by decide +kernel
theorem dX4_run_16 : decode cX4_run 16 = .ok (.getfield 25, 3) := by decide +kernel
theorem dX4_run_19 : decode cX4_run 19 = .ok (.iconst 1, 1) := by decide +kernel
theorem dX4_run_20 : decode cX4_run 20 = .ok (.iadd, 1) := by decide +kernel
theorem dX4_run_21 : decode cX4_run 21 = .ok (.invokestatic 28, 3) := by decide +kernel
theorem dX4_run_24 : decode cX4_run 24 = .ok (.putfield 25, 3) := by decide +kernel
theorem dX4_run_27 : decode cX4_run 27 = .ok (.goto 48, 3) := by decide +kernel
theorem dX4_run_30 : decode cX4_run 30 = .ok (.aload_n 0, 1) := by decide +kernel
theorem dX4_run_31 : decode cX4_run 31 = .ok (.getfield 25, 3) := by decide +kernel
theorem dX4_run_34 : decode cX4_run 34 = .ok (.ifCond .le 30, 3) := by decide +kernel
theorem dX4_run_37 : decode cX4_run 37 = .ok (.aload_n 0, 1) := by decide +kernel
theorem dX4_run_38 : decode cX4_run 38 = .ok (.getfield 9, 3) := by decide +kernel
theorem dX4_run_41 : decode cX4_run 41 = .ok (.bipush 20, 2) := by decide +kernel
theorem dX4_run_43 : decode cX4_run 43 = .ok (.iload_n 3, 1) := by decide +kernel
theorem dX4_run_44 : decode cX4_run 44 = .ok (.iadd, 1) := by decide +kernel
theorem dX4_run_45 : decode cX4_run 45 = .ok (.imul, 1) := by decide +kernel
theorem dX4_run_46 : decode cX4_run 46 = .ok (.bipush 20, 2) := by decide +kernel
theorem dX4_run_48 : decode cX4_run 48 = .ok (.idiv, 1) := by decide +kernel
theorem dX4_run_49 : decode cX4_run 49 = .ok (.istore 4, 2) := by decide +kernel
theorem dX4_run_51 : decode cX4_run 51 = .ok (.aload_n 0, 1) := by decide +kernel
theorem dX4_run_52 : decode cX4_run 52 = .ok (.dup, 1) := by decide +kernel
theorem dX4_run_53 : decode cX4_run 53 = .ok (.getfield 25, 3) := by decide +kernel
theorem dX4_run_56 : decode cX4_run 56 = .ok (.iconst 1, 1) := by decide +kernel
theorem dX4_run_57 : decode cX4_run 57 = .ok (.isub, 1) := by decide +kernel
theorem dX4_run_58 : decode cX4_run 58 = .ok (.putfield 25, 3) := by decide +kernel
theorem dX4_run_61 : decode cX4_run 61 = .ok (.goto 14, 3) := by decide +kernel
theorem dX4_run_64 : decode cX4_run 64 = .ok (.aload_n 0, 1) := by decide +kernel
theorem dX4_run_65 : decode cX4_run 65 = .ok (.getfield 9, 3) := by decide +kernel
theorem dX4_run_68 : decode cX4_run 68 = .ok (.iload_n 3, 1) := by decide +kernel
theorem dX4_run_69 : decode cX4_run 69 = .ok (.imul, 1) := by decide +kernel
theorem dX4_run_70 : decode cX4_run 70 = .ok (.bipush 100, 2) := by decide +kernel
theorem dX4_run_72 : decode cX4_run 72 = .ok (.idiv, 1) := by decide +kernel
theorem dX4_run_73 : decode cX4_run 73 = .ok (.istore 4, 2) := by decide +kernel
theorem dX4_run_75 : decode cX4_run 75 = .ok (.aload_n 0, 1) := by decide +kernel
theorem dX4_run_76 : decode cX4_run 76 = .ok (.getfield 21, 3) := by decide +kernel
theorem dX4_run_79 : decode cX4_run 79 = .ok (.iload_n 1, 1) := by decide +kernel
theorem dX4_run_80 : decode cX4_run 80 = .ok (.iload 4, 2) := by decide +kernel
theorem dX4_run_82 : decode cX4_run 82 = .ok (.iastore, 1) := by decide +kernel
theorem dX4_run_83 : decode cX4_run 83 = .ok (.aload_n 0, 1) := by decide +kernel
theorem dX4_run_84 : decode cX4_run 84 = .ok (.dup, 1) := by decide +kernel
theorem dX4_run_85 : decode cX4_run 85 = .ok (.getfield 34, 3) := by decide +kernel
theorem dX4_run_88 : decode cX4_run 88 = .ok (.iload 4, 2) := by decide +kernel
theorem dX4_run_90 : decode cX4_run 90 = .ok (.iadd, 1) := by decide +kernel
theorem dX4_run_91 : decode cX4_run 91 = .ok (.putfield 34, 3) := by decide +kernel
theorem dX4_run_94 : decode cX4_run 94 = .ok (.iload 4, 2) := by decide +kernel
theorem dX4_run_96 : decode cX4_run 96 = .ok (.ireturn, 1) := by decide +kernel
theorem dX5_init_0 : decode cX5_init 0 = .ok (.aload_n 0, 1) := by decide +kernel
theorem dX5_init_1 : decode cX5_init 1 = .ok (.invokespecial 3, 3) := by decide +kernel
theorem dX5_init_4 : decode cX5_init 4 = .ok (.aload_n 0, 1) := by decide +kernel
theorem dX5_init_5 : decode cX5_init 5 = .ok (.bipush 20, 2) := by decide +kernel
theorem dX5_init_7 : decode cX5_init 7 = .ok (.newarray .int, 2) := by decide +kernel
theorem dX5_init_9 : decode cX5_init 9 = .ok (.putfield 9, 3) := by decide +kernel
theorem dX5_init_12 : decode cX5_init 12 = .ok (.aload_n 0, 1) := by decide +kernel
theorem dX5_init_13 : decode cX5_init 13 = .ok (.bipush 20, 2) := by decide +kernel
theorem dX5_init_15 : decode cX5_init 15 = .ok (.newarray .int, 2) := by decide +kernel
theorem dX5_init_17 : decode cX5_init 17 = .ok (.putfield 15, 3) := by decide +kernel
theorem dX5_init_20 : decode cX5_init 20 = .ok (.aload_n 0, 1) := by decide +kernel
theorem dX5_init_21 : decode cX5_init 21 = .ok (.bipush 20, 2) := by decide +kernel
theorem dX5_init_23 : decode cX5_init 23 = .ok (.newarray .int, 2) := by decide +kernel
theorem dX5_init_25 : decode cX5_init 25 = .ok (.putfield 18, 3) := by decide +kernel
theorem dX5_init_28 : decode cX5_init 28 = .ok (.aload_n 0, 1) := by decide +kernel
theorem dX5_init_29 : decode cX5_init 29 = .ok (.bipush 20, 2) := by decide +kernel
theorem dX5_init_31 : decode cX5_init 31 = .ok (.newarray .int, 2) := by decide +kernel
theorem dX5_init_33 : decode cX5_init 33 = .ok (.putfield 21, 3) := by decide +kernel
theorem dX5_init_36 : decode cX5_init 36 = .ok (.aload_n 0, 1) := by decide +kernel
theorem dX5_init_37 : decode cX5_init 37 = .ok (.bipush 20, 2) := by decide +kernel
theorem dX5_init_39 : decode cX5_init 39 = .ok (.newarray .int, 2) := by decide +kernel
theorem dX5_init_41 : decode cX5_init 41 = .ok (.putfield 24, 3) := by decide +kernel
theorem dX5_init_44 : decode cX5_init 44 = .ok (.aload_n 0, 1) := by decide +kernel
theorem dX5_init_45 : decode cX5_init 45 = .ok (.iconst 1, 1) := by decide +kernel
theorem dX5_init_46 : decode cX5_init 46 = .ok (.putfield 27, 3) := by decide +kernel
theorem dX5_init_49 : decode cX5_init 49 = .ok (.return_, 1) := by decide +kernel
theorem dX5_size_0 : decode cX5_size 0 = .ok (.aload_n 0, 1) := by decide +kernel
theorem dX5_size_1 : decode cX5_size 1 = .ok (.getfield 27, 3) := by decide +kernel
theorem dX5_size_4 : decode cX5_size 4 = .ok (.ireturn, 1) := by decide +kernel
theorem dX5_has_0 : decode cX5_has 0 = .ok (.iload_n 1, 1) := by decide +kernel
theorem dX5_has_1 : decode cX5_has 1 = .ok (.ifCond .lt 15, 3) := by decide +kernel
theorem dX5_has_4 : decode cX5_has 4 = .ok (.iload_n 1, 1) := by decide +kernel
theorem dX5_has_5 : decode cX5_has 5 = .ok (.aload_n 0, 1) := by decide +kernel
theorem dX5_has_6 : decode cX5_has 6 = .ok (.getfield 27, 3) := by decide +kernel
theorem dX5_has_9 : decode cX5_has 9 = .ok (.if_icmp .ge 7, 3) := by decide +kernel
theorem dX5_has_12 : decode cX5_has 12 = .ok (.iconst 1, 1) := by decide +kernel
theorem dX5_has_13 : decode cX5_has 13 = .ok (.goto 4, 3) := by decide +kernel
theorem dX5_has_16 : decode cX5_has 16 = .ok (.iconst 0, 1) := by decide +kernel
theorem dX5_has_17 : decode cX5_has 17 = .ok (.ireturn, 1) := by decide +kernel
theorem dX5_isFull_0 : decode cX5_isFull 0 = .ok (.aload_n 0, 1) := by decide +kernel
theorem dX5_isFull_1 : decode cX5_isFull 1 = .ok (.getfield 27, 3) := by decide +kernel
theorem dX5_isFull_4 : decode cX5_isFull 4 = .ok (.bipush 20, 2) := by decide +kernel
theorem dX5_isFull_6 : decode cX5_isFull 6 = .ok (.if_icmp .lt 7, 3) := by decide +kernel
theorem dX5_isFull_9 : decode cX5_isFull 9 = .ok (.iconst 1, 1) := by decide +kernel
theorem dX5_isFull_10 : decode cX5_isFull 10 = .ok (.goto 4, 3) := by decide +kernel
theorem dX5_isFull_13 : decode cX5_isFull 13 = .ok (.iconst 0, 1) := by decide +kernel
theorem dX5_isFull_14 : decode cX5_isFull 14 = .ok (.ireturn, 1) := by decide +kernel
theorem dX5_join_0 : decode cX5_join 0 = .ok (.aload_n 0, 1) := by decide +kernel
theorem dX5_join_1 : decode cX5_join 1 = .ok (.getfield 27, 3) := by decide +kernel
theorem dX5_join_4 : decode cX5_join 4 = .ok (.istore_n 3, 1) := by decide +kernel
theorem dX5_join_5 : decode cX5_join 5 = .ok (.aload_n 0, 1) := by decide +kernel
theorem dX5_join_6 : decode cX5_join 6 = .ok (.getfield 9, 3) := by decide +kernel
theorem dX5_join_9 : decode cX5_join 9 = .ok (.iload_n 3, 1) := by decide +kernel
theorem dX5_join_10 : decode cX5_join 10 = .ok (.iload_n 1, 1) := by decide +kernel
theorem dX5_join_11 : decode cX5_join 11 = .ok (.iastore, 1) := by decide +kernel
theorem dX5_join_12 : decode cX5_join 12 = .ok (.aload_n 0, 1) := by decide +kernel
theorem dX5_join_13 : decode cX5_join 13 = .ok (.getfield 15, 3) := by decide +kernel
theorem dX5_join_16 : decode cX5_join 16 = .ok (.iload_n 3, 1) := by decide +kernel
theorem dX5_join_17 : decode cX5_join 17 = .ok (.iload_n 2, 1) := by decide +kernel
theorem dX5_join_18 : decode cX5_join 18 = .ok (.iastore, 1) := by decide +kernel
theorem dX5_join_19 : decode cX5_join 19 = .ok (.aload_n 0, 1) := by decide +kernel
theorem dX5_join_20 : decode cX5_join 20 = .ok (.iload_n 3, 1) := by decide +kernel
theorem dX5_join_21 : decode cX5_join 21 = .ok (.iconst 1, 1) := by decide +kernel
theorem dX5_join_22 : decode cX5_join 22 = .ok (.iadd, 1) := by decide +kernel
theorem dX5_join_23 : decode cX5_join 23 = .ok (.putfield 27, 3) := by decide +kernel
theorem dX5_join_26 : decode cX5_join 26 = .ok (.iload_n 3, 1) := by decide +kernel
theorem dX5_join_27 : decode cX5_join 27 = .ok (.ireturn, 1) := by decide +kernel
theorem dX5_replaceSetting_0 : decode cX5_replaceSetting 0 = .ok (.aload_n 0, 1) := by decide +kernel
theorem dX5_replaceSetting_1 : decode cX5_replaceSetting 1 = .ok (.getfield 31, 3) := by decide +kernel
theorem dX5_replaceSetting_4 : decode cX5_replaceSetting 4 = .ok (.istore_n 2, 1) := by decide +kernel
theorem dX5_replaceSetting_5 : decode cX5_replaceSetting 5 = .ok (.aload_n 0, 1) := by decide +kernel
theorem dX5_replaceSetting_6 : decode cX5_replaceSetting 6 = .ok (.iload_n 1, 1) := by decide +kernel
theorem dX5_replaceSetting_7 : decode cX5_replaceSetting 7 = .ok (.putfield 31, 3) := by decide +kernel
theorem dX5_replaceSetting_10 : decode cX5_replaceSetting 10 = .ok (.iload_n 2, 1) := by decide +kernel
theorem dX5_replaceSetting_11 : decode cX5_replaceSetting 11 = .ok (.ireturn, 1) := by decide +kernel
theorem dX5_isLeaking_0 : decode cX5_isLeaking 0 = .ok (.aload_n 0, 1) := by decide +kernel
theorem dX5_isLeaking_1 : decode cX5_isLeaking 1 = .ok (.getfield 18, 3) := by decide +kernel
theorem dX5_isLeaking_4 : decode cX5_isLeaking 4 = .ok (.iload_n 1, 1) := by decide +kernel
theorem dX5_isLeaking_5 : decode cX5_isLeaking 5 = .ok (.iaload, 1) := by decide +kernel
theorem dX5_isLeaking_6 : decode cX5_isLeaking 6 = .ok (.ifCond .le 7, 3) := by decide +kernel
theorem dX5_isLeaking_9 : decode cX5_isLeaking 9 = .ok (.iconst 1, 1) := by decide +kernel
theorem dX5_isLeaking_10 : decode cX5_isLeaking 10 = .ok (.goto 4, 3) := by decide +kernel
theorem dX5_isLeaking_13 : decode cX5_isLeaking 13 = .ok (.iconst 0, 1) := by decide +kernel
theorem dX5_isLeaking_14 : decode cX5_isLeaking 14 = .ok (.ireturn, 1) := by decide +kernel
theorem dX5_replaceLeak_0 : decode cX5_replaceLeak 0 = .ok (.aload_n 0, 1) := by decide +kernel
theorem dX5_replaceLeak_1 : decode cX5_replaceLeak 1 = .ok (.getfield 18, 3) := by decide +kernel
theorem dX5_replaceLeak_4 : decode cX5_replaceLeak 4 = .ok (.iload_n 1, 1) := by decide +kernel
theorem dX5_replaceLeak_5 : decode cX5_replaceLeak 5 = .ok (.iaload, 1) := by decide +kernel
theorem dX5_replaceLeak_6 : decode cX5_replaceLeak 6 = .ok (.istore_n 3, 1) := by decide +kernel
theorem dX5_replaceLeak_7 : decode cX5_replaceLeak 7 = .ok (.aload_n 0, 1) := by decide +kernel
theorem dX5_replaceLeak_8 : decode cX5_replaceLeak 8 = .ok (.getfield 18, 3) := by decide +kernel
theorem dX5_replaceLeak_11 : decode cX5_replaceLeak 11 = .ok (.iload_n 1, 1) := by decide +kernel
theorem dX5_replaceLeak_12 : decode cX5_replaceLeak 12 = .ok (.iload_n 2, 1) := by decide +kernel
theorem dX5_replaceLeak_13 : decode cX5_replaceLeak 13 = .ok (.iastore, 1) := by decide +kernel
theorem dX5_replaceLeak_14 : decode cX5_replaceLeak 14 = .ok (.iload_n 3, 1) := by decide +kernel
theorem dX5_replaceLeak_15 : decode cX5_replaceLeak 15 = .ok (.ireturn, 1) := by decide +kernel
theorem dX5_pumpVacuum_0 : decode cX5_pumpVacuum 0 = .ok (.aload_n 0, 1) := by decide +kernel
theorem dX5_pumpVacuum_1 : decode cX5_pumpVacuum 1 = .ok (.getfield 31, 3) := by decide +kernel
theorem dX5_pumpVacuum_4 : decode cX5_pumpVacuum 4 = .ok (.aload_n 0, 1) := by decide +kernel
theorem dX5_pumpVacuum_5 : decode cX5_pumpVacuum 5 = .ok (.getfield 18, 3) := by decide +kernel
theorem dX5_pumpVacuum_8 : decode cX5_pumpVacuum 8 = .ok (.iconst 0, 1) := by decide +kernel
theorem dX5_pumpVacuum_9 : decode cX5_pumpVacuum 9 = .ok (.iaload, 1) := by decide +kernel
theorem dX5_pumpVacuum_10 : decode cX5_pumpVacuum 10 = .ok (.isub, 1) := by decide +kernel
theorem dX5_pumpVacuum_11 : decode cX5_pumpVacuum 11 = .ok (.istore_n 1, 1) := by decide +kernel
theorem dX5_pumpVacuum_12 : decode cX5_pumpVacuum 12 = .ok (.iconst 0, 1) := by decide +kernel
theorem dX5_pumpVacuum_13 : decode cX5_pumpVacuum 13 = .ok (.istore_n 2, 1) := by decide +kernel
theorem dX5_pumpVacuum_14 : decode cX5_pumpVacuum 14 = .ok (.iload_n 2, 1) := by decide +kernel
theorem dX5_pumpVacuum_15 : decode cX5_pumpVacuum 15 = .ok (.aload_n 0, 1) := by decide +kernel
theorem dX5_pumpVacuum_16 : decode cX5_pumpVacuum 16 = .ok (.getfield 27, 3) := by decide +kernel
theorem dX5_pumpVacuum_19 : decode cX5_pumpVacuum 19 = .ok (.if_icmp .ge 18, 3) := by decide +kernel
theorem dX5_pumpVacuum_22 : decode cX5_pumpVacuum 22 = .ok (.iload_n 1, 1) := by decide +kernel
theorem dX5_pumpVacuum_23 : decode cX5_pumpVacuum 23 = .ok (.aload_n 0, 1) := by decide +kernel
theorem dX5_pumpVacuum_24 : decode cX5_pumpVacuum 24 = .ok (.getfield 18, 3) := by decide +kernel
theorem dX5_pumpVacuum_27 : decode cX5_pumpVacuum 27 = .ok (.iload_n 2, 1) := by decide +kernel
theorem dX5_pumpVacuum_28 : decode cX5_pumpVacuum 28 = .ok (.iaload, 1) := by decide +kernel
theorem dX5_pumpVacuum_29 : decode cX5_pumpVacuum 29 = .ok (.isub, 1) := by decide +kernel
theorem dX5_pumpVacuum_30 : decode cX5_pumpVacuum 30 = .ok (.istore_n 1, 1) := by decide +kernel
theorem dX5_pumpVacuum_31 : decode cX5_pumpVacuum 31 = .ok (.iinc 2 1, 3) := by decide +kernel
theorem dX5_pumpVacuum_34 : decode cX5_pumpVacuum 34 = .ok (.goto (-20), 3) := by decide +kernel
theorem dX5_pumpVacuum_37 : decode cX5_pumpVacuum 37 = .ok (.iconst 0, 1) := by decide +kernel
theorem dX5_pumpVacuum_38 : decode cX5_pumpVacuum 38 = .ok (.iload_n 1, 1) := by decide +kernel
theorem dX5_pumpVacuum_39 : decode cX5_pumpVacuum 39 = .ok (.invokestatic 34, 3) := by decide +kernel
theorem dX5_pumpVacuum_42 : decode cX5_pumpVacuum 42 = .ok (.ireturn, 1) := by decide +kernel
theorem dX5_climb_0 : decode cX5_climb 0 = .ok (.iload_n 1, 1) := by decide +kernel
theorem dX5_climb_1 : decode cX5_climb 1 = .ok (.ifCond .le 7, 3) := by decide +kernel
theorem dX5_climb_4 : decode cX5_climb 4 = .ok (.iload_n 2, 1) := by decide +kernel
theorem dX5_climb_5 : decode cX5_climb 5 = .ok (.ifCond .gt 8, 3) := by decide +kernel
theorem dX5_climb_8 : decode cX5_climb 8 = .ok (.aload_n 0, 1) := by decide +kernel
theorem dX5_climb_9 : decode cX5_climb 9 = .ok (.invokevirtual 40, 3) := by decide +kernel
theorem dX5_climb_12 : decode cX5_climb 12 = .ok (.ireturn, 1) := by decide +kernel
theorem dX5_climb_13 : decode cX5_climb 13 = .ok (.aload_n 0, 1) := by decide +kernel
theorem dX5_climb_14 : decode cX5_climb 14 = .ok (.aload_n 0, 1) := by decide +kernel
theorem dX5_climb_15 : decode cX5_climb 15 = .ok (.getfield 9, 3) := by decide +kernel
theorem dX5_climb_18 : decode cX5_climb 18 = .ok (.iload_n 1, 1) := by decide +kernel
theorem dX5_climb_19 : decode cX5_climb 19 = .ok (.iaload, 1) := by decide +kernel
theorem dX5_climb_20 : decode cX5_climb 20 = .ok (.iload_n 2, 1) := by decide +kernel
theorem dX5_climb_21 : decode cX5_climb 21 = .ok (.iconst 1, 1) := by decide +kernel
theorem dX5_climb_22 : decode cX5_climb 22 = .ok (.isub, 1) := by decide +kernel
theorem dX5_climb_23 : decode cX5_climb 23 = .ok (.invokestatic 44, 3) := by decide +kernel
theorem dX5_climb_26 : decode cX5_climb 26 = .ok (.istore_n 3, 1) := by decide +kernel
theorem dX5_climb_27 : decode cX5_climb 27 = .ok (.iconst 0, 1) := by decide +kernel
theorem dX5_climb_28 : decode cX5_climb 28 = .ok (.iload_n 3, 1) := by decide +kernel
theorem dX5_climb_29 : decode cX5_climb 29 = .ok (.aload_n 0, 1) := by decide +kernel
theorem dX5_climb_30 : decode cX5_climb 30 = .ok (.getfield 15, 3) := by decide +kernel
theorem dX5_climb_33 : decode cX5_climb 33 = .ok (.iload_n 1, 1) := by decide +kernel
theorem dX5_climb_34 : decode cX5_climb 34 = .ok (.iaload, 1) := by decide +kernel
theorem dX5_climb_35 : decode cX5_climb 35 = .ok (.isub, 1) := by decide +kernel
theorem dX5_climb_36 : decode cX5_climb 36 = .ok (.aload_n 0, 1) := by decide +kernel
theorem dX5_climb_37 : decode cX5_climb 37 = .ok (.getfield 18, 3) := by decide +kernel
theorem dX5_climb_40 : decode cX5_climb 40 = .ok (.iload_n 1, 1) := by decide +kernel
theorem dX5_climb_41 : decode cX5_climb 41 = .ok (.iaload, 1) := by decide +kernel
theorem dX5_climb_42 : decode cX5_climb 42 = .ok (.isub, 1) := by decide +kernel
theorem dX5_climb_43 : decode cX5_climb 43 = .ok (.invokestatic 34, 3) := by decide +kernel
theorem dX5_climb_46 : decode cX5_climb 46 = .ok (.ireturn, 1) := by decide +kernel
theorem dX5_sweep_0 : decode cX5_sweep 0 = .ok (.aload_n 0, 1) := by decide +kernel
theorem dX5_sweep_1 : decode cX5_sweep 1 = .ok (.getfield 21, 3) := by decide +kernel
theorem dX5_sweep_4 : decode cX5_sweep 4 = .ok (.iconst 0, 1) := by decide +kernel
theorem dX5_sweep_5 : decode cX5_sweep 5 = .ok (.aload_n 0, 1) := by decide +kernel
theorem dX5_sweep_6 : decode cX5_sweep 6 = .ok (.invokevirtual 40, 3) := by decide +kernel
theorem dX5_sweep_9 : decode cX5_sweep 9 = .ok (.iastore, 1) := by decide +kernel
theorem dX5_sweep_10 : decode cX5_sweep 10 = .ok (.aload_n 0, 1) := by decide +kernel
theorem dX5_sweep_11 : decode cX5_sweep 11 = .ok (.getfield 24, 3) := by decide +kernel
theorem dX5_sweep_14 : decode cX5_sweep 14 = .ok (.iconst 0, 1) := by decide +kernel
theorem dX5_sweep_15 : decode cX5_sweep 15 = .ok (.aload_n 0, 1) := by decide +kernel
theorem dX5_sweep_16 : decode cX5_sweep 16 = .ok (.getfield 31, 3) := by decide +kernel
theorem dX5_sweep_19 : decode cX5_sweep 19 = .ok (.iastore, 1) := by decide +kernel
theorem dX5_sweep_20 : decode cX5_sweep 20 = .ok (.iconst 1, 1) := by decide +kernel
theorem dX5_sweep_21 : decode cX5_sweep 21 = .ok (.istore_n 1, 1) := by decide +kernel
theorem dX5_sweep_22 : decode cX5_sweep 22 = .ok (.iload_n 1, 1) := by decide +kernel
theorem dX5_sweep_23 : decode cX5_sweep 23 = .ok (.aload_n 0, 1) := by decide +kernel
theorem dX5_sweep_24 : decode cX5_sweep 24 = .ok (.getfield 27, 3) := by decide +kernel
theorem dX5_sweep_27 : decode cX5_sweep 27 = .ok (.if_icmp .ge 69, 3) := by decide +kernel
theorem dX5_sweep_30 : decode cX5_sweep 30 = .ok (.aload_n 0, 1) := by decide +kernel
theorem dX5_sweep_31 : decode cX5_sweep 31 = .ok (.getfield 9, 3) := by decide +kernel
theorem dX5_sweep_34 : decode cX5_sweep 34 = .ok (.iload_n 1, 1) := by decide +kernel
theorem dX5_sweep_35 : decode cX5_sweep 35 = .ok (.iaload, 1) := by decide +kernel
theorem dX5_sweep_36 : decode cX5_sweep 36 = .ok (.istore_n 2, 1) := by decide +kernel
theorem dX5_sweep_37 : decode cX5_sweep 37 = .ok (.aload_n 0, 1) := by decide +kernel
theorem dX5_sweep_38 : decode cX5_sweep 38 = .ok (.getfield 21, 3) := by decide +kernel
theorem dX5_sweep_41 : decode cX5_sweep 41 = .ok (.iload_n 1, 1) := by decide +kernel
theorem dX5_sweep_42 : decode cX5_sweep 42 = .ok (.iconst 0, 1) := by decide +kernel
theorem dX5_sweep_43 : decode cX5_sweep 43 = .ok (.aload_n 0, 1) := by decide +kernel
theorem dX5_sweep_44 : decode cX5_sweep 44 = .ok (.getfield 21, 3) := by decide +kernel
theorem dX5_sweep_47 : decode cX5_sweep 47 = .ok (.iload_n 2, 1) := by decide +kernel
theorem dX5_sweep_48 : decode cX5_sweep 48 = .ok (.iaload, 1) := by decide +kernel
theorem dX5_sweep_49 : decode cX5_sweep 49 = .ok (.aload_n 0, 1) := by decide +kernel
theorem dX5_sweep_50 : decode cX5_sweep 50 = .ok (.getfield 15, 3) := by decide +kernel
theorem dX5_sweep_53 : decode cX5_sweep 53 = .ok (.iload_n 1, 1) := by decide +kernel
theorem dX5_sweep_54 : decode cX5_sweep 54 = .ok (.iaload, 1) := by decide +kernel
theorem dX5_sweep_55 : decode cX5_sweep 55 = .ok (.isub, 1) := by decide +kernel
theorem dX5_sweep_56 : decode cX5_sweep 56 = .ok (.aload_n 0, 1) := by decide +kernel
theorem dX5_sweep_57 : decode cX5_sweep 57 = .ok (.getfield 18, 3) := by decide +kernel
theorem dX5_sweep_60 : decode cX5_sweep 60 = .ok (.iload_n 1, 1) := by decide +kernel
theorem dX5_sweep_61 : decode cX5_sweep 61 = .ok (.iaload, 1) := by decide +kernel
theorem dX5_sweep_62 : decode cX5_sweep 62 = .ok (.isub, 1) := by decide +kernel
theorem dX5_sweep_63 : decode cX5_sweep 63 = .ok (.invokestatic 34, 3) := by decide +kernel
theorem dX5_sweep_66 : decode cX5_sweep 66 = .ok (.iastore, 1) := by decide +kernel
theorem dX5_sweep_67 : decode cX5_sweep 67 = .ok (.aload_n 0, 1) := by decide +kernel
theorem dX5_sweep_68 : decode cX5_sweep 68 = .ok (.getfield 24, 3) := by decide +kernel
theorem dX5_sweep_71 : decode cX5_sweep 71 = .ok (.iload_n 1, 1) := by decide +kernel
theorem dX5_sweep_72 : decode cX5_sweep 72 = .ok (.iconst 0, 1) := by decide +kernel
theorem dX5_sweep_73 : decode cX5_sweep 73 = .ok (.aload_n 0, 1) := by decide +kernel
theorem dX5_sweep_74 : decode cX5_sweep 74 = .ok (.getfield 24, 3) := by decide +kernel
theorem dX5_sweep_77 : decode cX5_sweep 77 = .ok (.iload_n 2, 1) := by decide +kernel
theorem dX5_sweep_78 : decode cX5_sweep 78 = .ok (.iaload, 1) := by decide +kernel
theorem dX5_sweep_79 : decode cX5_sweep 79 = .ok (.aload_n 0, 1) := by decide +kernel
theorem dX5_sweep_80 : decode cX5_sweep 80 = .ok (.getfield 15, 3) := by decide +kernel
theorem dX5_sweep_83 : decode cX5_sweep 83 = .ok (.iload_n 1, 1) := by decide +kernel
theorem dX5_sweep_84 : decode cX5_sweep 84 = .ok (.iaload, 1) := by decide +kernel
theorem dX5_sweep_85 : decode cX5_sweep 85 = .ok (.isub, 1) := by decide +kernel
theorem dX5_sweep_86 : decode cX5_sweep 86 = .ok (.invokestatic 34, 3) := by decide +kernel
theorem dX5_sweep_89 : decode cX5_sweep 89 = .ok (.iastore, 1) := by decide +kernel
theorem dX5_sweep_90 : decode cX5_sweep 90 = .ok (.iinc 1 1, 3) := by decide +kernel
theorem dX5_sweep_93 : decode cX5_sweep 93 = .ok (.goto (-71), 3) := by decide +kernel
theorem dX5_sweep_96 : decode cX5_sweep 96 = .ok (.return_, 1) := by decide +kernel
theorem dX5_ownLossAt_0 : decode cX5_ownLossAt 0 = .ok (.iload_n 1, 1) := by decide +kernel
theorem dX5_ownLossAt_1 : decode cX5_ownLossAt 1 = .ok (.ifCond .ne 11, 3) := by decide +kernel
theorem dX5_ownLossAt_4 : decode cX5_ownLossAt 4 = .ok (.aload_n 0, 1) := by decide +kernel
theorem dX5_ownLossAt_5 : decode cX5_ownLossAt 5 = .ok (.iload_n 1, 1) := by decide +kernel
theorem dX5_ownLossAt_6 : decode cX5_ownLossAt 6 = .ok (.invokevirtual 48, 3) := by decide +kernel
theorem dX5_ownLossAt_9 : decode cX5_ownLossAt 9 = .ok (.goto 19, 3) := by decide +kernel
theorem dX5_ownLossAt_12 : decode cX5_ownLossAt 12 = .ok (.aload_n 0, 1) := by decide +kernel
theorem dX5_ownLossAt_13 : decode cX5_ownLossAt 13 = .ok (.iload_n 1, 1) := by decide +kernel
theorem dX5_ownLossAt_14 : decode cX5_ownLossAt 14 = .ok (.invokevirtual 48, 3) := by decide +kernel
theorem dX5_ownLossAt_17 : decode cX5_ownLossAt 17 = .ok (.aload_n 0, 1) := by decide +kernel
theorem dX5_ownLossAt_18 : decode cX5_ownLossAt 18 = .ok (.aload_n 0, 1) := by decide +kernel
theorem dX5_ownLossAt_19 : decode cX5_ownLossAt 19 = .ok (.getfield 9, 3) := by decide +kernel
theorem dX5_ownLossAt_22 : decode cX5_ownLossAt 22 = .ok (.iload_n 1, 1) := by decide +kernel
theorem dX5_ownLossAt_23 : decode cX5_ownLossAt 23 = .ok (.iaload, 1) := by decide +kernel
theorem dX5_ownLossAt_24 : decode cX5_ownLossAt 24 = .ok (.invokevirtual 48, 3) := by decide +kernel
theorem dX5_ownLossAt_27 : decode cX5_ownLossAt 27 = .ok (.isub, 1) := by decide +kernel
theorem dX5_ownLossAt_28 : decode cX5_ownLossAt 28 = .ok (.ireturn, 1) := by decide +kernel
theorem dX5_lossAt_0 : decode cX5_lossAt 0 = .ok (.aload_n 0, 1) := by decide +kernel
theorem dX5_lossAt_1 : decode cX5_lossAt 1 = .ok (.getfield 24, 3) := by decide +kernel
theorem dX5_lossAt_4 : decode cX5_lossAt 4 = .ok (.iload_n 1, 1) := by decide +kernel
theorem dX5_lossAt_5 : decode cX5_lossAt 5 = .ok (.iaload, 1) := by decide +kernel
theorem dX5_lossAt_6 : decode cX5_lossAt 6 = .ok (.aload_n 0, 1) := by decide +kernel
theorem dX5_lossAt_7 : decode cX5_lossAt 7 = .ok (.getfield 21, 3) := by decide +kernel
theorem dX5_lossAt_10 : decode cX5_lossAt 10 = .ok (.iload_n 1, 1) := by decide +kernel
theorem dX5_lossAt_11 : decode cX5_lossAt 11 = .ok (.iaload, 1) := by decide +kernel
theorem dX5_lossAt_12 : decode cX5_lossAt 12 = .ok (.isub, 1) := by decide +kernel
theorem dX5_lossAt_13 : decode cX5_lossAt 13 = .ok (.ireturn, 1) := by decide +kernel
theorem dX5_tubesAbove_0 : decode cX5_tubesAbove 0 = .ok (.iconst 0, 1) := by decide +kernel
theorem dX5_tubesAbove_1 : decode cX5_tubesAbove 1 = .ok (.istore_n 2, 1) := by decide +kernel
theorem dX5_tubesAbove_2 : decode cX5_tubesAbove 2 = .ok (.iload_n 1, 1) := by decide +kernel
theorem dX5_tubesAbove_3 : decode cX5_tubesAbove 3 = .ok (.istore_n 3, 1) := by decide +kernel
theorem dX5_tubesAbove_4 : decode cX5_tubesAbove 4 = .ok (.iload_n 3, 1) := by decide +kernel
theorem dX5_tubesAbove_5 : decode cX5_tubesAbove 5 = .ok (.ifCond .le 22, 3) := by decide +kernel
theorem dX5_tubesAbove_8 : decode cX5_tubesAbove 8 = .ok (.iload_n 2, 1) := by decide +kernel
theorem dX5_tubesAbove_9 : decode cX5_tubesAbove 9 = .ok (.bipush 20, 2) := by decide +kernel
theorem dX5_tubesAbove_11 : decode cX5_tubesAbove 11 = .ok (.if_icmp .ge 16, 3) := by decide +kernel
theorem dX5_tubesAbove_14 : decode cX5_tubesAbove 14 = .ok (.iinc 2 1, 3) := by decide +kernel
theorem dX5_tubesAbove_17 : decode cX5_tubesAbove 17 = .ok (.aload_n 0, 1) := by decide +kernel
theorem dX5_tubesAbove_18 : decode cX5_tubesAbove 18 = .ok (.getfield 9, 3) := by decide +kernel
theorem dX5_tubesAbove_21 : decode cX5_tubesAbove 21 = .ok (.iload_n 3, 1) := by decide +kernel
theorem dX5_tubesAbove_22 : decode cX5_tubesAbove 22 = .ok (.iaload, 1) := by decide +kernel
theorem dX5_tubesAbove_23 : decode cX5_tubesAbove 23 = .ok (.istore_n 3, 1) := by decide +kernel
theorem dX5_tubesAbove_24 : decode cX5_tubesAbove 24 = .ok (.goto (-20), 3) := by decide +kernel
theorem dX5_tubesAbove_27 : decode cX5_tubesAbove 27 = .ok (.iload_n 2, 1) := by decide +kernel
theorem dX5_tubesAbove_28 : decode cX5_tubesAbove 28 = .ok (.ireturn, 1) := by decide +kernel
theorem dX6_init_0 : decode cX6_init 0 = .ok (.aload_n 0, 1) := by decide +kernel
theorem dX6_init_1 : decode cX6_init 1 = .ok (.invokespecial 1, 3) := by decide +kernel
theorem dX6_init_4 : decode cX6_init 4 = .ok (.aload_n 0, 1) := by decide +kernel
theorem dX6_init_5 : decode cX6_init 5 = .ok (.new 7, 3) := by decide +kernel
theorem dX6_init_8 : decode cX6_init 8 = .ok (.dup, 1) := by decide +kernel
theorem dX6_init_9 : decode cX6_init 9 = .ok (.invokespecial 9, 3) := by decide +kernel
theorem dX6_init_12 : decode cX6_init 12 = .ok (.putfield 10, 3) := by decide +kernel
theorem dX6_init_15 : decode cX6_init 15 = .ok (.aload_n 0, 1) := by decide +kernel
theorem dX6_init_16 : decode cX6_init 16 = .ok (.bipush 20, 2) := by decide +kernel
theorem dX6_init_18 : decode cX6_init 18 = .ok (.anewarray 16, 3) := by decide +kernel
theorem dX6_init_21 : decode cX6_init 21 = .ok (.putfield 18, 3) := by decide +kernel
theorem dX6_init_24 : decode cX6_init 24 = .ok (.aload_n 0, 1) := by decide +kernel
theorem dX6_init_25 : decode cX6_init 25 = .ok (.iconst 4, 1) := by decide +kernel
theorem dX6_init_26 : decode cX6_init 26 = .ok (.anewarray 22, 3) := by decide +kernel
theorem dX6_init_29 : decode cX6_init 29 = .ok (.putfield 24, 3) := by decide +kernel
theorem dX6_init_32 : decode cX6_init 32 = .ok (.aload_n 0, 1) := by decide +kernel
theorem dX6_init_33 : decode cX6_init 33 = .ok (.new 28, 3) := by decide +kernel
theorem dX6_init_36 : decode cX6_init 36 = .ok (.dup, 1) := by decide +kernel
theorem dX6_init_37 : decode cX6_init 37 = .ok (.invokespecial 30, 3) := by decide +kernel
theorem dX6_init_40 : decode cX6_init 40 = .ok (.putfield 31, 3) := by decide +kernel
theorem dX6_init_43 : decode cX6_init 43 = .ok (.aload_n 0, 1) := by decide +kernel
theorem dX6_init_44 : decode cX6_init 44 = .ok (.new 28, 3) := by decide +kernel
theorem dX6_init_47 : decode cX6_init 47 = .ok (.dup, 1) := by decide +kernel
theorem dX6_init_48 : decode cX6_init 48 = .ok (.invokespecial 30, 3) := by decide +kernel
theorem dX6_init_51 : decode cX6_init 51 = .ok (.putfield 35, 3) := by decide +kernel
theorem dX6_init_54 : decode cX6_init 54 = .ok (.aload_n 0, 1) := by decide +kernel
theorem dX6_init_55 : decode cX6_init 55 = .ok (.new 38, 3) := by decide +kernel
theorem dX6_init_58 : decode cX6_init 58 = .ok (.dup, 1) := by decide +kernel
theorem dX6_init_59 : decode cX6_init 59 = .ok (.invokespecial 40, 3) := by decide +kernel
theorem dX6_init_62 : decode cX6_init 62 = .ok (.putfield 41, 3) := by decide +kernel
theorem dX6_init_65 : decode cX6_init 65 = .ok (.aload_n 0, 1) := by decide +kernel
theorem dX6_init_66 : decode cX6_init 66 = .ok (.new 45, 3) := by decide +kernel
theorem dX6_init_69 : decode cX6_init 69 = .ok (.dup, 1) := by decide +kernel
theorem dX6_init_70 : decode cX6_init 70 = .ok (.invokespecial 47, 3) := by decide +kernel
theorem dX6_init_73 : decode cX6_init 73 = .ok (.putfield 48, 3) := by decide +kernel
theorem dX6_init_76 : decode cX6_init 76 = .ok (.aload_n 0, 1) := by decide +kernel
theorem dX6_init_77 : decode cX6_init 77 = .ok (.bipush 20, 2) := by decide +kernel
theorem dX6_init_79 : decode cX6_init 79 = .ok (.newarray .int, 2) := by decide +kernel
theorem dX6_init_81 : decode cX6_init 81 = .ok (.putfield 52, 3) := by decide +kernel
theorem dX6_init_84 : decode cX6_init 84 = .ok (.return_, 1) := by decide +kernel
theorem dX6_addJunction_0 : decode cX6_addJunction 0 = .ok (.aload_n 0, 1) := by decide +kernel
theorem dX6_addJunction_1 : decode cX6_addJunction 1 = .ok (.iload_n 1, 1) := by decide +kernel
theorem dX6_addJunction_2 : decode cX6_addJunction 2 = .ok (.invokevirtual 56, 3) := by decide +kernel
theorem dX6_addJunction_5 : decode cX6_addJunction 5 = .ok (.iload_n 2, 1) := by decide +kernel
theorem dX6_addJunction_6 : decode cX6_addJunction 6 = .ok (.iconst 0, 1) := by decide +kernel
theorem dX6_addJunction_7 : decode cX6_addJunction 7 = .ok (.bipush 20, 2) := by decide +kernel
theorem dX6_addJunction_9 : decode cX6_addJunction 9 = .ok (.invokestatic 60, 3) := by decide +kernel
theorem dX6_addJunction_12 : decode cX6_addJunction 12 = .ok (.ifCond .eq 13, 3) := by decide +kernel
theorem dX6_addJunction_15 : decode cX6_addJunction 15 = .ok (.new 64, 3) := by decide +kernel
theorem dX6_addJunction_18 : decode cX6_addJunction 18 = .ok (.dup, 1) := by decide +kernel
theorem dX6_addJunction_19 : decode cX6_addJunction 19 = .ok (.ldc 66, 2) := by decide +kernel
theorem dX6_addJunction_21 : decode cX6_addJunction 21 = .ok (.invokespecial 68, 3) := by decide +kernel
theorem dX6_addJunction_24 : decode cX6_addJunction 24 = .ok (.athrow, 1) := by decide +kernel
theorem dX6_addJunction_25 : decode cX6_addJunction 25 = .ok (.aload_n 0, 1) := by decide +kernel
theorem dX6_addJunction_26 : decode cX6_addJunction 26 = .ok (.iload_n 1, 1) := by decide +kernel
theorem dX6_addJunction_27 : decode cX6_addJunction 27 = .ok (.invokevirtual 71, 3) := by decide +kernel
theorem dX6_addJunction_30 : decode cX6_addJunction 30 = .ok (.aload_n 0, 1) := by decide +kernel
theorem dX6_addJunction_31 : decode cX6_addJunction 31 = .ok (.getfield 10, 3) := by decide +kernel
theorem dX6_addJunction_34 : decode cX6_addJunction 34 = .ok (.iload_n 1, 1) := by decide +kernel
theorem dX6_addJunction_35 : decode cX6_addJunction 35 = .ok (.iload_n 2, 1) := by decide +kernel
theorem dX6_addJunction_36 : decode cX6_addJunction 36 = .ok (.invokevirtual 74, 3) := by decide +kernel
theorem dX6_addJunction_39 : decode cX6_addJunction 39 = .ok (.ireturn, 1) := by decide +kernel
theorem dX6_addTap_0 : decode cX6_addTap 0 = .ok (.aload_n 0, 1) := by decide +kernel
theorem dX6_addTap_1 : decode cX6_addTap 1 = .ok (.iload_n 1, 1) := by decide +kernel
theorem dX6_addTap_2 : decode cX6_addTap 2 = .ok (.invokevirtual 56, 3) := by decide +kernel
theorem dX6_addTap_5 : decode cX6_addTap 5 = .ok (.iload_n 2, 1) := by decide +kernel
theorem dX6_addTap_6 : decode cX6_addTap 6 = .ok (.iconst 0, 1) := by decide +kernel
theorem dX6_addTap_7 : decode cX6_addTap 7 = .ok (.bipush 20, 2) := by decide +kernel
theorem dX6_addTap_9 : decode cX6_addTap 9 = .ok (.invokestatic 60, 3) := by decide +kernel
theorem dX6_addTap_12 : decode cX6_addTap 12 = .ok (.ifCond .ne 34, 3) := by decide +kernel
theorem dX6_addTap_15 : decode cX6_addTap 15 = .ok (.iload_n 3, 1) := by decide +kernel
theorem dX6_addTap_16 : decode cX6_addTap 16 = .ok (.iconst 1, 1) := by decide +kernel
theorem dX6_addTap_17 : decode cX6_addTap 17 = .ok (.bipush 20, 2) := by decide +kernel
theorem dX6_addTap_19 : decode cX6_addTap 19 = .ok (.invokestatic 60, 3) := by decide +kernel
theorem dX6_addTap_22 : decode cX6_addTap 22 = .ok (.ifCond .ne 24, 3) := by decide +kernel
theorem dX6_addTap_25 : decode cX6_addTap 25 = .ok (.iload 4, 2) := by decide +kernel
theorem dX6_addTap_27 : decode cX6_addTap 27 = .ok (.iconst 1, 1) := by decide +kernel
theorem dX6_addTap_28 : decode cX6_addTap 28 = .ok (.bipush 6, 2) := by decide +kernel
theorem dX6_addTap_30 : decode cX6_addTap 30 = .ok (.invokestatic 60, 3) := by decide +kernel
theorem dX6_addTap_33 : decode cX6_addTap 33 = .ok (.ifCond .ne 13, 3) := by decide +kernel
theorem dX6_addTap_36 : decode cX6_addTap 36 = .ok (.iload 5, 2) := by decide +kernel
theorem dX6_addTap_38 : decode cX6_addTap 38 = .ok (.iconst 0, 1) := by decide +kernel
theorem dX6_addTap_39 : decode cX6_addTap 39 = .ok (.iconst 5, 1) := by decide +kernel
theorem dX6_addTap_40 : decode cX6_addTap 40 = .ok (.invokestatic 60, 3) := by decide +kernel
theorem dX6_addTap_43 : decode cX6_addTap 43 = .ok (.ifCond .eq 13, 3) := by decide +kernel
theorem dX6_addTap_46 : decode cX6_addTap 46 = .ok (.new 64, 3) := by decide +kernel
theorem dX6_addTap_49 : decode cX6_addTap 49 = .ok (.dup, 1) := by decide +kernel
theorem dX6_addTap_50 : decode cX6_addTap 50 = .ok (.ldc 78, 2) := by decide +kernel
theorem dX6_addTap_52 : decode cX6_addTap 52 = .ok (.invokespecial 68, 3) := by decide +kernel
theorem dX6_addTap_55 : decode cX6_addTap 55 = .ok (.athrow, 1) := by decide +kernel
theorem dX6_addTap_56 : decode cX6_addTap 56 = .ok (.aload_n 0, 1) := by decide +kernel
theorem dX6_addTap_57 : decode cX6_addTap 57 = .ok (.iload_n 1, 1) := by decide +kernel
theorem dX6_addTap_58 : decode cX6_addTap 58 = .ok (.invokevirtual 71, 3) := by decide +kernel
theorem dX6_addTap_61 : decode cX6_addTap 61 = .ok (.aload_n 0, 1) := by decide +kernel
theorem dX6_addTap_62 : decode cX6_addTap 62 = .ok (.getfield 10, 3) := by decide +kernel
theorem dX6_addTap_65 : decode cX6_addTap 65 = .ok (.iload_n 1, 1) := by decide +kernel
theorem dX6_addTap_66 : decode cX6_addTap 66 = .ok (.iload_n 2, 1) := by decide +kernel
theorem dX6_addTap_67 : decode cX6_addTap 67 = .ok (.invokevirtual 74, 3) := by decide +kernel
theorem dX6_addTap_70 : decode cX6_addTap 70 = .ok (.istore 6, 2) := by decide +kernel
theorem dX6_addTap_72 : decode cX6_addTap 72 = .ok (.aload_n 0, 1) := by decide +kernel
theorem dX6_addTap_73 : decode cX6_addTap 73 = .ok (.getfield 18, 3) := by decide +kernel
theorem dX6_addTap_76 : decode cX6_addTap 76 = .ok (.iload 6, 2) := by decide +kernel
theorem dX6_addTap_78 : decode cX6_addTap 78 = .ok (.new 16, 3) := by decide +kernel
theorem dX6_addTap_81 : decode cX6_addTap 81 = .ok (.dup, 1) := by decide +kernel
theorem dX6_addTap_82 : decode cX6_addTap 82 = .ok (.iload_n 3, 1) := by decide +kernel
theorem dX6_addTap_83 : decode cX6_addTap 83 = .ok (.iload 4, 2) := by decide +kernel
theorem dX6_addTap_85 : decode cX6_addTap 85 = .ok (.iload 5, 2) := by decide +kernel
theorem dX6_addTap_87 : decode cX6_addTap 87 = .ok (.invokespecial 80, 3) := by decide +kernel
theorem dX6_addTap_90 : decode cX6_addTap 90 = .ok (.aastore, 1) := by decide +kernel
theorem dX6_addTap_91 : decode cX6_addTap 91 = .ok (.iload 6, 2) := by decide +kernel
theorem dX6_addTap_93 : decode cX6_addTap 93 = .ok (.ireturn, 1) := by decide +kernel
theorem dX6_setPump_0 : decode cX6_setPump 0 = .ok (.iload_n 1, 1) := by decide +kernel
theorem dX6_setPump_1 : decode cX6_setPump 1 = .ok (.iconst 0, 1) := by decide +kernel
theorem dX6_setPump_2 : decode cX6_setPump 2 = .ok (.bipush 99, 2) := by decide +kernel
theorem dX6_setPump_4 : decode cX6_setPump 4 = .ok (.invokestatic 60, 3) := by decide +kernel
theorem dX6_setPump_7 : decode cX6_setPump 7 = .ok (.ifCond .eq 13, 3) := by decide +kernel
theorem dX6_setPump_10 : decode cX6_setPump 10 = .ok (.new 64, 3) := by decide +kernel
theorem dX6_setPump_13 : decode cX6_setPump 13 = .ok (.dup, 1) := by decide +kernel
theorem dX6_setPump_14 : decode cX6_setPump 14 = .ok (.ldc 83, 2) := by decide +kernel
theorem dX6_setPump_16 : decode cX6_setPump 16 = .ok (.invokespecial 68, 3) := by decide +kernel
theorem dX6_setPump_19 : decode cX6_setPump 19 = .ok (.athrow, 1) := by decide +kernel
theorem dX6_setPump_20 : decode cX6_setPump 20 = .ok (.aload_n 0, 1) := by decide +kernel
theorem dX6_setPump_21 : decode cX6_setPump 21 = .ok (.getfield 10, 3) := by decide +kernel
theorem dX6_setPump_24 : decode cX6_setPump 24 = .ok (.iload_n 1, 1) := by decide +kernel
theorem dX6_setPump_25 : decode cX6_setPump 25 = .ok (.invokevirtual 85, 3) := by decide +kernel
theorem dX6_setPump_28 : decode cX6_setPump 28 = .ok (.ireturn, 1) := by decide +kernel
theorem dX6_addLeak_0 : decode cX6_addLeak 0 = .ok (.aload_n 0, 1) := by decide +kernel
theorem dX6_addLeak_1 : decode cX6_addLeak 1 = .ok (.iload_n 1, 1) := by decide +kernel
theorem dX6_addLeak_2 : decode cX6_addLeak 2 = .ok (.invokevirtual 56, 3) := by decide +kernel
theorem dX6_addLeak_5 : decode cX6_addLeak 5 = .ok (.iload_n 2, 1) := by decide +kernel
theorem dX6_addLeak_6 : decode cX6_addLeak 6 = .ok (.iconst 1, 1) := by decide +kernel
theorem dX6_addLeak_7 : decode cX6_addLeak 7 = .ok (.bipush 30, 2) := by decide +kernel
theorem dX6_addLeak_9 : decode cX6_addLeak 9 = .ok (.invokestatic 60, 3) := by decide +kernel
theorem dX6_addLeak_12 : decode cX6_addLeak 12 = .ok (.ifCond .eq 13, 3) := by decide +kernel
theorem dX6_addLeak_15 : decode cX6_addLeak 15 = .ok (.new 64, 3) := by decide +kernel
theorem dX6_addLeak_18 : decode cX6_addLeak 18 = .ok (.dup, 1) := by decide +kernel
theorem dX6_addLeak_19 : decode cX6_addLeak 19 = .ok (.ldc 89, 2) := by decide +kernel
theorem dX6_addLeak_21 : decode cX6_addLeak 21 = .ok (.invokespecial 68, 3) := by decide +kernel
theorem dX6_addLeak_24 : decode cX6_addLeak 24 = .ok (.athrow, 1) := by decide +kernel
theorem dX6_addLeak_25 : decode cX6_addLeak 25 = .ok (.aload_n 0, 1) := by decide +kernel
theorem dX6_addLeak_26 : decode cX6_addLeak 26 = .ok (.getfield 10, 3) := by decide +kernel
theorem dX6_addLeak_29 : decode cX6_addLeak 29 = .ok (.iload_n 1, 1) := by decide +kernel
theorem dX6_addLeak_30 : decode cX6_addLeak 30 = .ok (.iload_n 2, 1) := by decide +kernel
theorem dX6_addLeak_31 : decode cX6_addLeak 31 = .ok (.invokevirtual 91, 3) := by decide +kernel
theorem dX6_addLeak_34 : decode cX6_addLeak 34 = .ok (.ireturn, 1) := by decide +kernel
theorem dX6_repair_0 : decode cX6_repair 0 = .ok (.aload_n 0, 1) := by decide +kernel
theorem dX6_repair_1 : decode cX6_repair 1 = .ok (.iload_n 1, 1) := by decide +kernel
theorem dX6_repair_2 : decode cX6_repair 2 = .ok (.invokevirtual 56, 3) := by decide +kernel
theorem dX6_repair_5 : decode cX6_repair 5 = .ok (.aload_n 0, 1) := by decide +kernel
theorem dX6_repair_6 : decode cX6_repair 6 = .ok (.getfield 10, 3) := by decide +kernel
theorem dX6_repair_9 : decode cX6_repair 9 = .ok (.iload_n 1, 1) := by decide +kernel
theorem dX6_repair_10 : decode cX6_repair 10 = .ok (.invokevirtual 94, 3) := by decide +kernel
theorem dX6_repair_13 : decode cX6_repair 13 = .ok (.ifCond .ne 13, 3) := by decide +kernel
theorem dX6_repair_16 : decode cX6_repair 16 = .ok (.new 98, 3) := by decide +kernel
theorem dX6_repair_19 : decode cX6_repair 19 = .ok (.dup, 1) := by decide +kernel
theorem dX6_repair_20 : decode cX6_repair 20 = .ok (.ldc 100, 2) := by decide +kernel
theorem dX6_repair_22 : decode cX6_repair 22 = .ok (.invokespecial 102, 3) := by decide +kernel
theorem dX6_repair_25 : decode cX6_repair 25 = .ok (.athrow, 1) := by decide +kernel
theorem dX6_repair_26 : decode cX6_repair 26 = .ok (.aload_n 0, 1) := by decide +kernel
theorem dX6_repair_27 : decode cX6_repair 27 = .ok (.getfield 10, 3) := by decide +kernel
theorem dX6_repair_30 : decode cX6_repair 30 = .ok (.iload_n 1, 1) := by decide +kernel
theorem dX6_repair_31 : decode cX6_repair 31 = .ok (.iconst 0, 1) := by decide +kernel
theorem dX6_repair_32 : decode cX6_repair 32 = .ok (.invokevirtual 91, 3) := by decide +kernel
theorem dX6_repair_35 : decode cX6_repair 35 = .ok (.ireturn, 1) := by decide +kernel
theorem dX6_nodes_0 : decode cX6_nodes 0 = .ok (.aload_n 0, 1) := by decide +kernel
theorem dX6_nodes_1 : decode cX6_nodes 1 = .ok (.getfield 10, 3) := by decide +kernel
theorem dX6_nodes_4 : decode cX6_nodes 4 = .ok (.invokevirtual 103, 3) := by decide +kernel
theorem dX6_nodes_7 : decode cX6_nodes 7 = .ok (.ireturn, 1) := by decide +kernel
theorem dX6_vacuum_0 : decode cX6_vacuum 0 = .ok (.aload_n 0, 1) := by decide +kernel
theorem dX6_vacuum_1 : decode cX6_vacuum 1 = .ok (.iload_n 1, 1) := by decide +kernel
theorem dX6_vacuum_2 : decode cX6_vacuum 2 = .ok (.invokevirtual 56, 3) := by decide +kernel
theorem dX6_vacuum_5 : decode cX6_vacuum 5 = .ok (.aload_n 0, 1) := by decide +kernel
theorem dX6_vacuum_6 : decode cX6_vacuum 6 = .ok (.getfield 10, 3) := by decide +kernel
theorem dX6_vacuum_9 : decode cX6_vacuum 9 = .ok (.iload_n 1, 1) := by decide +kernel
theorem dX6_vacuum_10 : decode cX6_vacuum 10 = .ok (.bipush 20, 2) := by decide +kernel
theorem dX6_vacuum_12 : decode cX6_vacuum 12 = .ok (.invokestatic 107, 3) := by decide +kernel
theorem dX6_vacuum_15 : decode cX6_vacuum 15 = .ok (.ireturn, 1) := by decide +kernel
theorem dX6_vacuumBySweep_0 : decode cX6_vacuumBySweep 0 = .ok (.aload_n 0, 1) := by decide +kernel
theorem dX6_vacuumBySweep_1 : decode cX6_vacuumBySweep 1 = .ok (.iload_n 1, 1) := by decide +kernel
theorem dX6_vacuumBySweep_2 : decode cX6_vacuumBySweep 2 = .ok (.invokevirtual 56, 3) := by decide +kernel
theorem dX6_vacuumBySweep_5 : decode cX6_vacuumBySweep 5 = .ok (.aload_n 0, 1) := by decide +kernel
theorem dX6_vacuumBySweep_6 : decode cX6_vacuumBySweep 6 = .ok (.getfield 10, 3) := by decide +kernel
theorem dX6_vacuumBySweep_9 : decode cX6_vacuumBySweep 9 = .ok (.invokevirtual 111, 3) := by decide +kernel
theorem dX6_vacuumBySweep_12 : decode cX6_vacuumBySweep 12 = .ok (.aload_n 0, 1) := by decide +kernel
theorem dX6_vacuumBySweep_13 : decode cX6_vacuumBySweep 13 = .ok (.getfield 10, 3) := by decide +kernel
theorem dX6_vacuumBySweep_16 : decode cX6_vacuumBySweep 16 = .ok (.getfield 114, 3) := by decide +kernel
theorem dX6_vacuumBySweep_19 : decode cX6_vacuumBySweep 19 = .ok (.iload_n 1, 1) := by decide +kernel
theorem dX6_vacuumBySweep_20 : decode cX6_vacuumBySweep 20 = .ok (.iaload, 1) := by decide +kernel
theorem dX6_vacuumBySweep_21 : decode cX6_vacuumBySweep 21 = .ok (.ireturn, 1) := by decide +kernel
theorem dX6_expectedVacuum_0 : decode cX6_expectedVacuum 0 = .ok (.aload_n 0, 1) := by decide +kernel
theorem dX6_expectedVacuum_1 : decode cX6_expectedVacuum 1 = .ok (.iload_n 1, 1) := by decide +kernel
theorem dX6_expectedVacuum_2 : decode cX6_expectedVacuum 2 = .ok (.invokevirtual 56, 3) := by decide +kernel
theorem dX6_expectedVacuum_5 : decode cX6_expectedVacuum 5 = .ok (.aload_n 0, 1) := by decide +kernel
theorem dX6_expectedVacuum_6 : decode cX6_expectedVacuum 6 = .ok (.getfield 10, 3) := by decide +kernel
theorem dX6_expectedVacuum_9 : decode cX6_expectedVacuum 9 = .ok (.invokevirtual 111, 3) := by decide +kernel
theorem dX6_expectedVacuum_12 : decode cX6_expectedVacuum 12 = .ok (.aload_n 0, 1) := by decide +kernel
theorem dX6_expectedVacuum_13 : decode cX6_expectedVacuum 13 = .ok (.getfield 10, 3) := by decide +kernel
theorem dX6_expectedVacuum_16 : decode cX6_expectedVacuum 16 = .ok (.getfield 117, 3) := by decide +kernel
theorem dX6_expectedVacuum_19 : decode cX6_expectedVacuum 19 = .ok (.iload_n 1, 1) := by decide +kernel
theorem dX6_expectedVacuum_20 : decode cX6_expectedVacuum 20 = .ok (.iaload, 1) := by decide +kernel
theorem dX6_expectedVacuum_21 : decode cX6_expectedVacuum 21 = .ok (.ireturn, 1) := by decide +kernel
theorem dX6_suspect_0 : decode cX6_suspect 0 = .ok (.aload_n 0, 1) := by decide +kernel
theorem dX6_suspect_1 : decode cX6_suspect 1 = .ok (.getfield 10, 3) := by decide +kernel
theorem dX6_suspect_4 : decode cX6_suspect 4 = .ok (.invokevirtual 111, 3) := by decide +kernel
theorem dX6_suspect_7 : decode cX6_suspect 7 = .ok (.iconst 0, 1) := by decide +kernel
theorem dX6_suspect_8 : decode cX6_suspect 8 = .ok (.istore_n 2, 1) := by decide +kernel
theorem dX6_suspect_9 : decode cX6_suspect 9 = .ok (.iload_n 2, 1) := by decide +kernel
theorem dX6_suspect_10 : decode cX6_suspect 10 = .ok (.aload_n 0, 1) := by decide +kernel
theorem dX6_suspect_11 : decode cX6_suspect 11 = .ok (.getfield 10, 3) := by decide +kernel
theorem dX6_suspect_14 : decode cX6_suspect 14 = .ok (.invokevirtual 103, 3) := by decide +kernel
theorem dX6_suspect_17 : decode cX6_suspect 17 = .ok (.if_icmp .ge 33, 3) := by decide +kernel
theorem dX6_suspect_20 : decode cX6_suspect 20 = .ok (.aload_n 0, 1) := by decide +kernel
theorem dX6_suspect_21 : decode cX6_suspect 21 = .ok (.getfield 10, 3) := by decide +kernel
theorem dX6_suspect_24 : decode cX6_suspect 24 = .ok (.iload_n 2, 1) := by decide +kernel
theorem dX6_suspect_25 : decode cX6_suspect 25 = .ok (.invokevirtual 120, 3) := by decide +kernel
theorem dX6_suspect_28 : decode cX6_suspect 28 = .ok (.istore_n 3, 1) := by decide +kernel
theorem dX6_suspect_29 : decode cX6_suspect 29 = .ok (.aload_n 0, 1) := by decide +kernel
theorem dX6_suspect_30 : decode cX6_suspect 30 = .ok (.getfield 52, 3) := by decide +kernel
theorem dX6_suspect_33 : decode cX6_suspect 33 = .ok (.iload_n 2, 1) := by decide +kernel
theorem dX6_suspect_34 : decode cX6_suspect 34 = .ok (.iload_n 3, 1) := by decide +kernel
theorem dX6_suspect_35 : decode cX6_suspect 35 = .ok (.ifCond .le 7, 3) := by decide +kernel
theorem dX6_suspect_38 : decode cX6_suspect 38 = .ok (.iload_n 3, 1) := by decide +kernel
theorem dX6_suspect_39 : decode cX6_suspect 39 = .ok (.goto 4, 3) := by decide +kernel
theorem dX6_suspect_42 : decode cX6_suspect 42 = .ok (.iconst (-1), 1) := by decide +kernel
theorem dX6_suspect_43 : decode cX6_suspect 43 = .ok (.iastore, 1) := by decide +kernel
theorem dX6_suspect_44 : decode cX6_suspect 44 = .ok (.iinc 2 1, 3) := by decide +kernel
theorem dX6_suspect_47 : decode cX6_suspect 47 = .ok (.goto (-38), 3) := by decide +kernel
theorem dX6_suspect_50 : decode cX6_suspect 50 = .ok (.aload_n 0, 1) := by decide +kernel
theorem dX6_suspect_51 : decode cX6_suspect 51 = .ok (.iload_n 1, 1) := by decide +kernel
theorem dX6_suspect_52 : decode cX6_suspect 52 = .ok (.invokevirtual 123, 3) := by decide +kernel
theorem dX6_suspect_55 : decode cX6_suspect 55 = .ok (.ireturn, 1) := by decide +kernel
theorem dX6_depth_0 : decode cX6_depth 0 = .ok (.aload_n 0, 1) := by decide +kernel
theorem dX6_depth_1 : decode cX6_depth 1 = .ok (.iload_n 1, 1) := by decide +kernel
theorem dX6_depth_2 : decode cX6_depth 2 = .ok (.invokevirtual 56, 3) := by decide +kernel
theorem dX6_depth_5 : decode cX6_depth 5 = .ok (.aload_n 0, 1) := by decide +kernel
theorem dX6_depth_6 : decode cX6_depth 6 = .ok (.getfield 10, 3) := by decide +kernel
theorem dX6_depth_9 : decode cX6_depth 9 = .ok (.iload_n 1, 1) := by decide +kernel
theorem dX6_depth_10 : decode cX6_depth 10 = .ok (.invokevirtual 126, 3) := by decide +kernel
theorem dX6_depth_13 : decode cX6_depth 13 = .ok (.ireturn, 1) := by decide +kernel
theorem dX6_pass_0 : decode cX6_pass 0 = .ok (.iload_n 1, 1) := by decide +kernel
theorem dX6_pass_1 : decode cX6_pass 1 = .ok (.bipush (-30), 2) := by decide +kernel
theorem dX6_pass_3 : decode cX6_pass 3 = .ok (.bipush 30, 2) := by decide +kernel
theorem dX6_pass_5 : decode cX6_pass 5 = .ok (.invokestatic 60, 3) := by decide +kernel
theorem dX6_pass_8 : decode cX6_pass 8 = .ok (.ifCond .eq 13, 3) := by decide +kernel
theorem dX6_pass_11 : decode cX6_pass 11 = .ok (.new 64, 3) := by decide +kernel
theorem dX6_pass_14 : decode cX6_pass 14 = .ok (.dup, 1) := by decide +kernel
theorem dX6_pass_15 : decode cX6_pass 15 = .ok (.ldc 129, 2) := by decide +kernel
theorem dX6_pass_17 : decode cX6_pass 17 = .ok (.invokespecial 68, 3) := by decide +kernel
theorem dX6_pass_20 : decode cX6_pass 20 = .ok (.athrow, 1) := by decide +kernel
theorem dX6_pass_21 : decode cX6_pass 21 = .ok (.aload_n 0, 1) := by decide +kernel
theorem dX6_pass_22 : decode cX6_pass 22 = .ok (.getfield 131, 3) := by decide +kernel
theorem dX6_pass_25 : decode cX6_pass 25 = .ok (.sipush 200, 3) := by decide +kernel
theorem dX6_pass_28 : decode cX6_pass 28 = .ok (.if_icmp .lt 13, 3) := by decide +kernel
theorem dX6_pass_31 : decode cX6_pass 31 = .ok (.new 135, 3) := by decide +kernel
theorem dX6_pass_34 : decode cX6_pass 34 = .ok (.dup, 1) := by decide +kernel
theorem dX6_pass_35 : decode cX6_pass 35 = .ok (.ldc 137, 2) := by decide +kernel
theorem dX6_pass_37 : decode cX6_pass 37 = .ok (.invokespecial 139, 3) := by decide +kernel
theorem dX6_pass_40 : decode cX6_pass 40 = .ok (.athrow, 1) := by decide +kernel
theorem dX6_pass_41 : decode cX6_pass 41 = .ok (.aload_n 0, 1) := by decide +kernel
theorem dX6_pass_42 : decode cX6_pass 42 = .ok (.iload_n 1, 1) := by decide +kernel
theorem dX6_pass_43 : decode cX6_pass 43 = .ok (.invokevirtual 140, 3) := by decide +kernel
theorem dX6_pass_46 : decode cX6_pass 46 = .ok (.istore_n 2, 1) := by decide +kernel
theorem dX6_pass_47 : decode cX6_pass 47 = .ok (.aload_n 0, 1) := by decide +kernel
theorem dX6_pass_48 : decode cX6_pass 48 = .ok (.getfield 48, 3) := by decide +kernel
theorem dX6_pass_51 : decode cX6_pass 51 = .ok (.aload_n 0, 1) := by decide +kernel
theorem dX6_pass_52 : decode cX6_pass 52 = .ok (.getfield 31, 3) := by decide +kernel
theorem dX6_pass_55 : decode cX6_pass 55 = .ok (.aload_n 0, 1) := by decide +kernel
theorem dX6_pass_56 : decode cX6_pass 56 = .ok (.getfield 143, 3) := by decide +kernel
theorem dX6_pass_59 : decode cX6_pass 59 = .ok (.invokevirtual 146, 3) := by decide +kernel
theorem dX6_pass_62 : decode cX6_pass 62 = .ok (.invokevirtual 149, 3) := by decide +kernel
theorem dX6_pass_65 : decode cX6_pass 65 = .ok (.aload_n 0, 1) := by decide +kernel
theorem dX6_pass_66 : decode cX6_pass 66 = .ok (.dup, 1) := by decide +kernel
theorem dX6_pass_67 : decode cX6_pass 67 = .ok (.getfield 131, 3) := by decide +kernel
theorem dX6_pass_70 : decode cX6_pass 70 = .ok (.iconst 1, 1) := by decide +kernel
theorem dX6_pass_71 : decode cX6_pass 71 = .ok (.iadd, 1) := by decide +kernel
theorem dX6_pass_72 : decode cX6_pass 72 = .ok (.putfield 131, 3) := by decide +kernel
theorem dX6_pass_75 : decode cX6_pass 75 = .ok (.iload_n 2, 1) := by decide +kernel
theorem dX6_pass_76 : decode cX6_pass 76 = .ok (.ireturn, 1) := by decide +kernel
theorem dX6_hours_0 : decode cX6_hours 0 = .ok (.aload_n 0, 1) := by decide +kernel
theorem dX6_hours_1 : decode cX6_hours 1 = .ok (.getfield 131, 3) := by decide +kernel
theorem dX6_hours_4 : decode cX6_hours 4 = .ok (.ireturn, 1) := by decide +kernel
theorem dX6_charge_0 : decode cX6_charge 0 = .ok (.aload_n 0, 1) := by decide +kernel
theorem dX6_charge_1 : decode cX6_charge 1 = .ok (.iload_n 1, 1) := by decide +kernel
theorem dX6_charge_2 : decode cX6_charge 2 = .ok (.invokevirtual 152, 3) := by decide +kernel
theorem dX6_charge_5 : decode cX6_charge 5 = .ok (.getfield 156, 3) := by decide +kernel
theorem dX6_charge_8 : decode cX6_charge 8 = .ok (.ireturn, 1) := by decide +kernel
theorem dX6_sapOf_0 : decode cX6_sapOf 0 = .ok (.aload_n 0, 1) := by decide +kernel
theorem dX6_sapOf_1 : decode cX6_sapOf 1 = .ok (.iload_n 1, 1) := by decide +kernel
theorem dX6_sapOf_2 : decode cX6_sapOf 2 = .ok (.invokevirtual 152, 3) := by decide +kernel
theorem dX6_sapOf_5 : decode cX6_sapOf 5 = .ok (.astore_n 3, 1) := by decide +kernel
theorem dX6_sapOf_6 : decode cX6_sapOf 6 = .ok (.iload_n 2, 1) := by decide +kernel
theorem dX6_sapOf_7 : decode cX6_sapOf 7 = .ok (.ifCond .lt 11, 3) := by decide +kernel
theorem dX6_sapOf_10 : decode cX6_sapOf 10 = .ok (.iload_n 2, 1) := by decide +kernel
theorem dX6_sapOf_11 : decode cX6_sapOf 11 = .ok (.aload_n 0, 1) := by decide +kernel
theorem dX6_sapOf_12 : decode cX6_sapOf 12 = .ok (.getfield 131, 3) := by decide +kernel
theorem dX6_sapOf_15 : decode cX6_sapOf 15 = .ok (.if_icmp .lt 13, 3) := by decide +kernel
theorem dX6_sapOf_18 : decode cX6_sapOf 18 = .ok (.new 98, 3) := by decide +kernel
theorem dX6_sapOf_21 : decode cX6_sapOf 21 = .ok (.dup, 1) := by decide +kernel
theorem dX6_sapOf_22 : decode cX6_sapOf 22 = .ok (.ldc 159, 2) := by decide +kernel
theorem dX6_sapOf_24 : decode cX6_sapOf 24 = .ok (.invokespecial 102, 3) := by decide +kernel
theorem dX6_sapOf_27 : decode cX6_sapOf 27 = .ok (.athrow, 1) := by decide +kernel
theorem dX6_sapOf_28 : decode cX6_sapOf 28 = .ok (.aload_n 3, 1) := by decide +kernel
theorem dX6_sapOf_29 : decode cX6_sapOf 29 = .ok (.getfield 161, 3) := by decide +kernel
theorem dX6_sapOf_32 : decode cX6_sapOf 32 = .ok (.iload_n 2, 1) := by decide +kernel
theorem dX6_sapOf_33 : decode cX6_sapOf 33 = .ok (.iaload, 1) := by decide +kernel
theorem dX6_sapOf_34 : decode cX6_sapOf 34 = .ok (.ireturn, 1) := by decide +kernel
theorem dX6_totalOf_0 : decode cX6_totalOf 0 = .ok (.aload_n 0, 1) := by decide +kernel
theorem dX6_totalOf_1 : decode cX6_totalOf 1 = .ok (.iload_n 1, 1) := by decide +kernel
theorem dX6_totalOf_2 : decode cX6_totalOf 2 = .ok (.invokevirtual 152, 3) := by decide +kernel
theorem dX6_totalOf_5 : decode cX6_totalOf 5 = .ok (.getfield 164, 3) := by decide +kernel
theorem dX6_totalOf_8 : decode cX6_totalOf 8 = .ok (.ireturn, 1) := by decide +kernel
theorem dX6_tapByYield_0 : decode cX6_tapByYield 0 = .ok (.iconst 0, 1) := by decide +kernel
theorem dX6_tapByYield_1 : decode cX6_tapByYield 1 = .ok (.istore_n 2, 1) := by decide +kernel
theorem dX6_tapByYield_2 : decode cX6_tapByYield 2 = .ok (.iload_n 2, 1) := by decide +kernel
theorem dX6_tapByYield_3 : decode cX6_tapByYield 3 = .ok (.aload_n 0, 1) := by decide +kernel
theorem dX6_tapByYield_4 : decode cX6_tapByYield 4 = .ok (.getfield 10, 3) := by decide +kernel
theorem dX6_tapByYield_7 : decode cX6_tapByYield 7 = .ok (.invokevirtual 103, 3) := by decide +kernel
theorem dX6_tapByYield_10 : decode cX6_tapByYield 10 = .ok (.if_icmp .ge 34, 3) := by decide +kernel
theorem dX6_tapByYield_13 : decode cX6_tapByYield 13 = .ok (.aload_n 0, 1) := by decide +kernel
theorem dX6_tapByYield_14 : decode cX6_tapByYield 14 = .ok (.getfield 18, 3) := by decide +kernel
theorem dX6_tapByYield_17 : decode cX6_tapByYield 17 = .ok (.iload_n 2, 1) := by decide +kernel
theorem dX6_tapByYield_18 : decode cX6_tapByYield 18 = .ok (.aaload, 1) := by decide +kernel
theorem dX6_tapByYield_19 : decode cX6_tapByYield 19 = .ok (.astore_n 3, 1) := by decide +kernel
theorem dX6_tapByYield_20 : decode cX6_tapByYield 20 = .ok (.aload_n 0, 1) := by decide +kernel
theorem dX6_tapByYield_21 : decode cX6_tapByYield 21 = .ok (.getfield 52, 3) := by decide +kernel
theorem dX6_tapByYield_24 : decode cX6_tapByYield 24 = .ok (.iload_n 2, 1) := by decide +kernel
theorem dX6_tapByYield_25 : decode cX6_tapByYield 25 = .ok (.aload_n 3, 1) := by decide +kernel
theorem dX6_tapByYield_26 : decode cX6_tapByYield 26 = .ok (.ifnonnull 7, 3) := by decide +kernel
theorem dX6_tapByYield_29 : decode cX6_tapByYield 29 = .ok (.iconst (-1), 1) := by decide +kernel
theorem dX6_tapByYield_30 : decode cX6_tapByYield 30 = .ok (.goto 7, 3) := by decide +kernel
theorem dX6_tapByYield_33 : decode cX6_tapByYield 33 = .ok (.aload_n 3, 1) := by decide +kernel
theorem dX6_tapByYield_34 : decode cX6_tapByYield 34 = .ok (.getfield 164, 3) := by decide +kernel
theorem dX6_tapByYield_37 : decode cX6_tapByYield 37 = .ok (.iastore, 1) := by decide +kernel
theorem dX6_tapByYield_38 : decode cX6_tapByYield 38 = .ok (.iinc 2 1, 3) := by decide +kernel
theorem dX6_tapByYield_41 : decode cX6_tapByYield 41 = .ok (.goto (-39), 3) := by decide +kernel
theorem dX6_tapByYield_44 : decode cX6_tapByYield 44 = .ok (.aload_n 0, 1) := by decide +kernel
theorem dX6_tapByYield_45 : decode cX6_tapByYield 45 = .ok (.iload_n 1, 1) := by decide +kernel
theorem dX6_tapByYield_46 : decode cX6_tapByYield 46 = .ok (.invokevirtual 123, 3) := by decide +kernel
theorem dX6_tapByYield_49 : decode cX6_tapByYield 49 = .ok (.ireturn, 1) := by decide +kernel
theorem dX6_addTank_0 : decode cX6_addTank 0 = .ok (.iload_n 1, 1) := by decide +kernel
theorem dX6_addTank_1 : decode cX6_addTank 1 = .ok (.iconst 1, 1) := by decide +kernel
theorem dX6_addTank_2 : decode cX6_addTank 2 = .ok (.sipush 5000, 3) := by decide +kernel
theorem dX6_addTank_5 : decode cX6_addTank 5 = .ok (.invokestatic 60, 3) := by decide +kernel
theorem dX6_addTank_8 : decode cX6_addTank 8 = .ok (.ifCond .eq 13, 3) := by decide +kernel
theorem dX6_addTank_11 : decode cX6_addTank 11 = .ok (.new 64, 3) := by decide +kernel
theorem dX6_addTank_14 : decode cX6_addTank 14 = .ok (.dup, 1) := by decide +kernel
theorem dX6_addTank_15 : decode cX6_addTank 15 = .ok (.ldc 167, 2) := by decide +kernel
theorem dX6_addTank_17 : decode cX6_addTank 17 = .ok (.invokespecial 68, 3) := by decide +kernel
theorem dX6_addTank_20 : decode cX6_addTank 20 = .ok (.athrow, 1) := by decide +kernel
theorem dX6_addTank_21 : decode cX6_addTank 21 = .ok (.aload_n 0, 1) := by decide +kernel
theorem dX6_addTank_22 : decode cX6_addTank 22 = .ok (.getfield 169, 3) := by decide +kernel
theorem dX6_addTank_25 : decode cX6_addTank 25 = .ok (.iconst 4, 1) := by decide +kernel
theorem dX6_addTank_26 : decode cX6_addTank 26 = .ok (.if_icmp .lt 13, 3) := by decide +kernel
theorem dX6_addTank_29 : decode cX6_addTank 29 = .ok (.new 135, 3) := by decide +kernel
theorem dX6_addTank_32 : decode cX6_addTank 32 = .ok (.dup, 1) := by decide +kernel
theorem dX6_addTank_33 : decode cX6_addTank 33 = .ok (.ldc 172, 2) := by decide +kernel
theorem dX6_addTank_35 : decode cX6_addTank 35 = .ok (.invokespecial 139, 3) := by decide +kernel
theorem dX6_addTank_38 : decode cX6_addTank 38 = .ok (.athrow, 1) := by decide +kernel
theorem dX6_addTank_39 : decode cX6_addTank 39 = .ok (.aload_n 0, 1) := by decide +kernel
theorem dX6_addTank_40 : decode cX6_addTank 40 = .ok (.getfield 169, 3) := by decide +kernel
theorem dX6_addTank_43 : decode cX6_addTank 43 = .ok (.istore_n 2, 1) := by decide +kernel
theorem dX6_addTank_44 : decode cX6_addTank 44 = .ok (.aload_n 0, 1) := by decide +kernel
theorem dX6_addTank_45 : decode cX6_addTank 45 = .ok (.getfield 24, 3) := by decide +kernel
theorem dX6_addTank_48 : decode cX6_addTank 48 = .ok (.iload_n 2, 1) := by decide +kernel
theorem dX6_addTank_49 : decode cX6_addTank 49 = .ok (.new 22, 3) := by decide +kernel
theorem dX6_addTank_52 : decode cX6_addTank 52 = .ok (.dup, 1) := by decide +kernel
theorem dX6_addTank_53 : decode cX6_addTank 53 = .ok (.iload_n 1, 1) := by decide +kernel
theorem dX6_addTank_54 : decode cX6_addTank 54 = .ok (.invokespecial 174, 3) := by decide +kernel
theorem dX6_addTank_57 : decode cX6_addTank 57 = .ok (.aastore, 1) := by decide +kernel
theorem dX6_addTank_58 : decode cX6_addTank 58 = .ok (.aload_n 0, 1) := by decide +kernel
theorem dX6_addTank_59 : decode cX6_addTank 59 = .ok (.iload_n 2, 1) := by decide +kernel
theorem dX6_addTank_60 : decode cX6_addTank 60 = .ok (.iconst 1, 1) := by decide +kernel
theorem dX6_addTank_61 : decode cX6_addTank 61 = .ok (.iadd, 1) := by decide +kernel
theorem dX6_addTank_62 : decode cX6_addTank 62 = .ok (.putfield 169, 3) := by decide +kernel
theorem dX6_addTank_65 : decode cX6_addTank 65 = .ok (.iload_n 2, 1) := by decide +kernel
theorem dX6_addTank_66 : decode cX6_addTank 66 = .ok (.ireturn, 1) := by decide +kernel
theorem dX6_drain_0 : decode cX6_drain 0 = .ok (.aload_n 0, 1) := by decide +kernel
theorem dX6_drain_1 : decode cX6_drain 1 = .ok (.iload_n 1, 1) := by decide +kernel
theorem dX6_drain_2 : decode cX6_drain 2 = .ok (.invokevirtual 176, 3) := by decide +kernel
theorem dX6_drain_5 : decode cX6_drain 5 = .ok (.astore_n 2, 1) := by decide +kernel
theorem dX6_drain_6 : decode cX6_drain 6 = .ok (.aload_n 2, 1) := by decide +kernel
theorem dX6_drain_7 : decode cX6_drain 7 = .ok (.getfield 180, 3) := by decide +kernel
theorem dX6_drain_10 : decode cX6_drain 10 = .ok (.istore_n 3, 1) := by decide +kernel
theorem dX6_drain_11 : decode cX6_drain 11 = .ok (.aload_n 2, 1) := by decide +kernel
theorem dX6_drain_12 : decode cX6_drain 12 = .ok (.getfield 183, 3) := by decide +kernel
theorem dX6_drain_15 : decode cX6_drain 15 = .ok (.istore 4, 2) := by decide +kernel
theorem dX6_drain_17 : decode cX6_drain 17 = .ok (.aload_n 2, 1) := by decide +kernel
theorem dX6_drain_18 : decode cX6_drain 18 = .ok (.iload_n 3, 1) := by decide +kernel
theorem dX6_drain_19 : decode cX6_drain 19 = .ok (.iload 4, 2) := by decide +kernel
theorem dX6_drain_21 : decode cX6_drain 21 = .ok (.invokevirtual 186, 3) := by decide +kernel
theorem dX6_drain_24 : decode cX6_drain 24 = .ok (.aload_n 0, 1) := by decide +kernel
theorem dX6_drain_25 : decode cX6_drain 25 = .ok (.getfield 48, 3) := by decide +kernel
theorem dX6_drain_28 : decode cX6_drain 28 = .ok (.iload_n 3, 1) := by decide +kernel
theorem dX6_drain_29 : decode cX6_drain 29 = .ok (.iload 4, 2) := by decide +kernel
theorem dX6_drain_31 : decode cX6_drain 31 = .ok (.invokevirtual 190, 3) := by decide +kernel
theorem dX6_drain_34 : decode cX6_drain 34 = .ok (.iload_n 3, 1) := by decide +kernel
theorem dX6_drain_35 : decode cX6_drain 35 = .ok (.ireturn, 1) := by decide +kernel
theorem dX6_tankVolume_0 : decode cX6_tankVolume 0 = .ok (.aload_n 0, 1) := by decide +kernel
theorem dX6_tankVolume_1 : decode cX6_tankVolume 1 = .ok (.iload_n 1, 1) := by decide +kernel
theorem dX6_tankVolume_2 : decode cX6_tankVolume 2 = .ok (.invokevirtual 176, 3) := by decide +kernel
theorem dX6_tankVolume_5 : decode cX6_tankVolume 5 = .ok (.getfield 180, 3) := by decide +kernel
theorem dX6_tankVolume_8 : decode cX6_tankVolume 8 = .ok (.ireturn, 1) := by decide +kernel
theorem dX6_tankSugar_0 : decode cX6_tankSugar 0 = .ok (.aload_n 0, 1) := by decide +kernel
theorem dX6_tankSugar_1 : decode cX6_tankSugar 1 = .ok (.iload_n 1, 1) := by decide +kernel
theorem dX6_tankSugar_2 : decode cX6_tankSugar 2 = .ok (.invokevirtual 176, 3) := by decide +kernel
theorem dX6_tankSugar_5 : decode cX6_tankSugar 5 = .ok (.getfield 183, 3) := by decide +kernel
theorem dX6_tankSugar_8 : decode cX6_tankSugar 8 = .ok (.ireturn, 1) := by decide +kernel
theorem dX6_load_0 : decode cX6_load 0 = .ok (.aload_n 0, 1) := by decide +kernel
theorem dX6_load_1 : decode cX6_load 1 = .ok (.iload_n 1, 1) := by decide +kernel
theorem dX6_load_2 : decode cX6_load 2 = .ok (.invokevirtual 176, 3) := by decide +kernel
theorem dX6_load_5 : decode cX6_load 5 = .ok (.astore_n 3, 1) := by decide +kernel
theorem dX6_load_6 : decode cX6_load 6 = .ok (.iload_n 2, 1) := by decide +kernel
theorem dX6_load_7 : decode cX6_load 7 = .ok (.iconst 1, 1) := by decide +kernel
theorem dX6_load_8 : decode cX6_load 8 = .ok (.sipush 500, 3) := by decide +kernel
theorem dX6_load_11 : decode cX6_load 11 = .ok (.invokestatic 60, 3) := by decide +kernel
theorem dX6_load_14 : decode cX6_load 14 = .ok (.ifCond .eq 13, 3) := by decide +kernel
theorem dX6_load_17 : decode cX6_load 17 = .ok (.new 64, 3) := by decide +kernel
theorem dX6_load_20 : decode cX6_load 20 = .ok (.dup, 1) := by decide +kernel
theorem dX6_load_21 : decode cX6_load 21 = .ok (.ldc 193, 2) := by decide +kernel
theorem dX6_load_23 : decode cX6_load 23 = .ok (.invokespecial 68, 3) := by decide +kernel
theorem dX6_load_26 : decode cX6_load 26 = .ok (.athrow, 1) := by decide +kernel
theorem dX6_load_27 : decode cX6_load 27 = .ok (.iload_n 2, 1) := by decide +kernel
theorem dX6_load_28 : decode cX6_load 28 = .ok (.aload_n 3, 1) := by decide +kernel
theorem dX6_load_29 : decode cX6_load 29 = .ok (.getfield 180, 3) := by decide +kernel
theorem dX6_load_32 : decode cX6_load 32 = .ok (.if_icmp .le 13, 3) := by decide +kernel
theorem dX6_load_35 : decode cX6_load 35 = .ok (.new 195, 3) := by decide +kernel
theorem dX6_load_38 : decode cX6_load 38 = .ok (.dup, 1) := by decide +kernel
theorem dX6_load_39 : decode cX6_load 39 = .ok (.ldc 197, 2) := by decide +kernel
theorem dX6_load_41 : decode cX6_load 41 = .ok (.invokespecial 199, 3) := by decide +kernel
theorem dX6_load_44 : decode cX6_load 44 = .ok (.athrow, 1) := by decide +kernel
theorem dX6_load_45 : decode cX6_load 45 = .ok (.iload_n 2, 1) := by decide +kernel
theorem dX6_load_46 : decode cX6_load 46 = .ok (.sipush 500, 3) := by decide +kernel
theorem dX6_load_49 : decode cX6_load 49 = .ok (.aload_n 0, 1) := by decide +kernel
theorem dX6_load_50 : decode cX6_load 50 = .ok (.getfield 31, 3) := by decide +kernel
theorem dX6_load_53 : decode cX6_load 53 = .ok (.getfield 200, 3) := by decide +kernel
theorem dX6_load_56 : decode cX6_load 56 = .ok (.isub, 1) := by decide +kernel
theorem dX6_load_57 : decode cX6_load 57 = .ok (.if_icmp .le 13, 3) := by decide +kernel
theorem dX6_load_60 : decode cX6_load 60 = .ok (.new 135, 3) := by decide +kernel
theorem dX6_load_63 : decode cX6_load 63 = .ok (.dup, 1) := by decide +kernel
theorem dX6_load_64 : decode cX6_load 64 = .ok (.ldc 201, 2) := by decide +kernel
theorem dX6_load_66 : decode cX6_load 66 = .ok (.invokespecial 139, 3) := by decide +kernel
theorem dX6_load_69 : decode cX6_load 69 = .ok (.athrow, 1) := by decide +kernel
theorem dX6_load_70 : decode cX6_load 70 = .ok (.aload_n 3, 1) := by decide +kernel
theorem dX6_load_71 : decode cX6_load 71 = .ok (.getfield 183, 3) := by decide +kernel
theorem dX6_load_74 : decode cX6_load 74 = .ok (.iload_n 2, 1) := by decide +kernel
theorem dX6_load_75 : decode cX6_load 75 = .ok (.aload_n 3, 1) := by decide +kernel
theorem dX6_load_76 : decode cX6_load 76 = .ok (.getfield 180, 3) := by decide +kernel
theorem dX6_load_79 : decode cX6_load 79 = .ok (.invokestatic 203, 3) := by decide +kernel
theorem dX6_load_82 : decode cX6_load 82 = .ok (.istore 4, 2) := by decide +kernel
theorem dX6_load_84 : decode cX6_load 84 = .ok (.aload_n 3, 1) := by decide +kernel
theorem dX6_load_85 : decode cX6_load 85 = .ok (.iload_n 2, 1) := by decide +kernel
theorem dX6_load_86 : decode cX6_load 86 = .ok (.iload 4, 2) := by decide +kernel
theorem dX6_load_88 : decode cX6_load 88 = .ok (.invokevirtual 186, 3) := by decide +kernel
theorem dX6_load_91 : decode cX6_load 91 = .ok (.aload_n 0, 1) := by decide +kernel
theorem dX6_load_92 : decode cX6_load 92 = .ok (.getfield 31, 3) := by decide +kernel
theorem dX6_load_95 : decode cX6_load 95 = .ok (.iload_n 2, 1) := by decide +kernel
theorem dX6_load_96 : decode cX6_load 96 = .ok (.iload 4, 2) := by decide +kernel
theorem dX6_load_98 : decode cX6_load 98 = .ok (.invokevirtual 207, 3) := by decide +kernel
theorem dX6_load_101 : decode cX6_load 101 = .ok (.aload_n 0, 1) := by decide +kernel
theorem dX6_load_102 : decode cX6_load 102 = .ok (.getfield 31, 3) := by decide +kernel
theorem dX6_load_105 : decode cX6_load 105 = .ok (.getfield 200, 3) := by decide +kernel
theorem dX6_load_108 : decode cX6_load 108 = .ok (.ireturn, 1) := by decide +kernel
theorem dX6_setFire_0 : decode cX6_setFire 0 = .ok (.iload_n 1, 1) := by decide +kernel
theorem dX6_setFire_1 : decode cX6_setFire 1 = .ok (.iconst 0, 1) := by decide +kernel
theorem dX6_setFire_2 : decode cX6_setFire 2 = .ok (.bipush 9, 2) := by decide +kernel
theorem dX6_setFire_4 : decode cX6_setFire 4 = .ok (.invokestatic 60, 3) := by decide +kernel
theorem dX6_setFire_7 : decode cX6_setFire 7 = .ok (.ifCond .eq 13, 3) := by decide +kernel
theorem dX6_setFire_10 : decode cX6_setFire 10 = .ok (.new 64, 3) := by decide +kernel
theorem dX6_setFire_13 : decode cX6_setFire 13 = .ok (.dup, 1) := by decide +kernel
theorem dX6_setFire_14 : decode cX6_setFire 14 = .ok (.ldc 210, 2) := by decide +kernel
theorem dX6_setFire_16 : decode cX6_setFire 16 = .ok (.invokespecial 68, 3) := by decide +kernel
theorem dX6_setFire_19 : decode cX6_setFire 19 = .ok (.athrow, 1) := by decide +kernel
theorem dX6_setFire_20 : decode cX6_setFire 20 = .ok (.aload_n 0, 1) := by decide +kernel
theorem dX6_setFire_21 : decode cX6_setFire 21 = .ok (.getfield 143, 3) := by decide +kernel
theorem dX6_setFire_24 : decode cX6_setFire 24 = .ok (.istore_n 2, 1) := by decide +kernel
theorem dX6_setFire_25 : decode cX6_setFire 25 = .ok (.aload_n 0, 1) := by decide +kernel
theorem dX6_setFire_26 : decode cX6_setFire 26 = .ok (.iload_n 1, 1) := by decide +kernel
theorem dX6_setFire_27 : decode cX6_setFire 27 = .ok (.putfield 143, 3) := by decide +kernel
theorem dX6_setFire_30 : decode cX6_setFire 30 = .ok (.iload_n 2, 1) := by decide +kernel
theorem dX6_setFire_31 : decode cX6_setFire 31 = .ok (.ireturn, 1) := by decide +kernel
theorem dX6_panVolume_0 : decode cX6_panVolume 0 = .ok (.aload_n 0, 1) := by decide +kernel
theorem dX6_panVolume_1 : decode cX6_panVolume 1 = .ok (.getfield 31, 3) := by decide +kernel
theorem dX6_panVolume_4 : decode cX6_panVolume 4 = .ok (.getfield 200, 3) := by decide +kernel
theorem dX6_panVolume_7 : decode cX6_panVolume 7 = .ok (.ireturn, 1) := by decide +kernel
theorem dX6_panSugar_0 : decode cX6_panSugar 0 = .ok (.aload_n 0, 1) := by decide +kernel
theorem dX6_panSugar_1 : decode cX6_panSugar 1 = .ok (.getfield 31, 3) := by decide +kernel
theorem dX6_panSugar_4 : decode cX6_panSugar 4 = .ok (.getfield 212, 3) := by decide +kernel
theorem dX6_panSugar_7 : decode cX6_panSugar 7 = .ok (.ireturn, 1) := by decide +kernel
theorem dX6_isReady_0 : decode cX6_isReady 0 = .ok (.aload_n 0, 1) := by decide +kernel
theorem dX6_isReady_1 : decode cX6_isReady 1 = .ok (.getfield 31, 3) := by decide +kernel
theorem dX6_isReady_4 : decode cX6_isReady 4 = .ok (.invokevirtual 213, 3) := by decide +kernel
theorem dX6_isReady_7 : decode cX6_isReady 7 = .ok (.ireturn, 1) := by decide +kernel
theorem dX6_hoursToReady_0 : decode cX6_hoursToReady 0 = .ok (.aload_n 0, 1) := by decide +kernel
theorem dX6_hoursToReady_1 : decode cX6_hoursToReady 1 = .ok (.invokevirtual 217, 3) := by decide +kernel
theorem dX6_hoursToReady_4 : decode cX6_hoursToReady 4 = .ok (.iconst 5, 1) := by decide +kernel
theorem dX6_hoursToReady_5 : decode cX6_hoursToReady 5 = .ok (.aload_n 0, 1) := by decide +kernel
theorem dX6_hoursToReady_6 : decode cX6_hoursToReady 6 = .ok (.getfield 143, 3) := by decide +kernel
theorem dX6_hoursToReady_9 : decode cX6_hoursToReady 9 = .ok (.imul, 1) := by decide +kernel
theorem dX6_hoursToReady_10 : decode cX6_hoursToReady 10 = .ok (.istore_n 1, 1) := by decide +kernel
theorem dX6_hoursToReady_11 : decode cX6_hoursToReady 11 = .ok (.aload_n 0, 1) := by decide +kernel
theorem dX6_hoursToReady_12 : decode cX6_hoursToReady 12 = .ok (.getfield 31, 3) := by decide +kernel
theorem dX6_hoursToReady_15 : decode cX6_hoursToReady 15 = .ok (.invokevirtual 213, 3) := by decide +kernel
theorem dX6_hoursToReady_18 : decode cX6_hoursToReady 18 = .ok (.ifCond .ne 7, 3) := by decide +kernel
theorem dX6_hoursToReady_21 : decode cX6_hoursToReady 21 = .ok (.iload_n 1, 1) := by decide +kernel
theorem dX6_hoursToReady_22 : decode cX6_hoursToReady 22 = .ok (.ifCond .gt 5, 3) := by decide +kernel
theorem dX6_hoursToReady_25 : decode cX6_hoursToReady 25 = .ok (.iconst 0, 1) := by decide +kernel
theorem dX6_hoursToReady_26 : decode cX6_hoursToReady 26 = .ok (.ireturn, 1) := by decide +kernel
theorem dX6_hoursToReady_27 : decode cX6_hoursToReady 27 = .ok (.aload_n 0, 1) := by decide +kernel
theorem dX6_hoursToReady_28 : decode cX6_hoursToReady 28 = .ok (.getfield 31, 3) := by decide +kernel
theorem dX6_hoursToReady_31 : decode cX6_hoursToReady 31 = .ok (.getfield 200, 3) := by decide +kernel
theorem dX6_hoursToReady_34 : decode cX6_hoursToReady 34 = .ok (.aload_n 0, 1) := by decide +kernel
theorem dX6_hoursToReady_35 : decode cX6_hoursToReady 35 = .ok (.getfield 31, 3) := by decide +kernel
theorem dX6_hoursToReady_38 : decode cX6_hoursToReady 38 = .ok (.invokevirtual 220, 3) := by decide +kernel
theorem dX6_hoursToReady_41 : decode cX6_hoursToReady 41 = .ok (.isub, 1) := by decide +kernel
theorem dX6_hoursToReady_42 : decode cX6_hoursToReady 42 = .ok (.istore_n 2, 1) := by decide +kernel
theorem dX6_hoursToReady_43 : decode cX6_hoursToReady 43 = .ok (.iload_n 2, 1) := by decide +kernel
theorem dX6_hoursToReady_44 : decode cX6_hoursToReady 44 = .ok (.iload_n 1, 1) := by decide +kernel
theorem dX6_hoursToReady_45 : decode cX6_hoursToReady 45 = .ok (.iadd, 1) := by decide +kernel
theorem dX6_hoursToReady_46 : decode cX6_hoursToReady 46 = .ok (.iconst 1, 1) := by decide +kernel
theorem dX6_hoursToReady_47 : decode cX6_hoursToReady 47 = .ok (.isub, 1) := by decide +kernel
theorem dX6_hoursToReady_48 : decode cX6_hoursToReady 48 = .ok (.iload_n 1, 1) := by decide +kernel
theorem dX6_hoursToReady_49 : decode cX6_hoursToReady 49 = .ok (.idiv, 1) := by decide +kernel
theorem dX6_hoursToReady_50 : decode cX6_hoursToReady 50 = .ok (.ireturn, 1) := by decide +kernel
theorem dX6_hoursByBoiling_0 : decode cX6_hoursByBoiling 0 = .ok (.aload_n 0, 1) := by decide +kernel
theorem dX6_hoursByBoiling_1 : decode cX6_hoursByBoiling 1 = .ok (.invokevirtual 217, 3) := by decide +kernel
theorem dX6_hoursByBoiling_4 : decode cX6_hoursByBoiling 4 = .ok (.aload_n 0, 1) := by decide +kernel
theorem dX6_hoursByBoiling_5 : decode cX6_hoursByBoiling 5 = .ok (.getfield 35, 3) := by decide +kernel
theorem dX6_hoursByBoiling_8 : decode cX6_hoursByBoiling 8 = .ok (.aload_n 0, 1) := by decide +kernel
theorem dX6_hoursByBoiling_9 : decode cX6_hoursByBoiling 9 = .ok (.getfield 31, 3) := by decide +kernel
theorem dX6_hoursByBoiling_12 : decode cX6_hoursByBoiling 12 = .ok (.invokevirtual 223, 3) := by decide +kernel
theorem dX6_hoursByBoiling_15 : decode cX6_hoursByBoiling 15 = .ok (.iconst 0, 1) := by decide +kernel
theorem dX6_hoursByBoiling_16 : decode cX6_hoursByBoiling 16 = .ok (.istore_n 1, 1) := by decide +kernel
theorem dX6_hoursByBoiling_17 : decode cX6_hoursByBoiling 17 = .ok (.iload_n 1, 1) := by decide +kernel
theorem dX6_hoursByBoiling_18 : decode cX6_hoursByBoiling 18 = .ok (.sipush 500, 3) := by decide +kernel
theorem dX6_hoursByBoiling_21 : decode cX6_hoursByBoiling 21 = .ok (.if_icmp .ge 31, 3) := by decide +kernel
theorem dX6_hoursByBoiling_24 : decode cX6_hoursByBoiling 24 = .ok (.aload_n 0, 1) := by decide +kernel
theorem dX6_hoursByBoiling_25 : decode cX6_hoursByBoiling 25 = .ok (.getfield 35, 3) := by decide +kernel
theorem dX6_hoursByBoiling_28 : decode cX6_hoursByBoiling 28 = .ok (.invokevirtual 213, 3) := by decide +kernel
theorem dX6_hoursByBoiling_31 : decode cX6_hoursByBoiling 31 = .ok (.ifCond .ne 21, 3) := by decide +kernel
theorem dX6_hoursByBoiling_34 : decode cX6_hoursByBoiling 34 = .ok (.aload_n 0, 1) := by decide +kernel
theorem dX6_hoursByBoiling_35 : decode cX6_hoursByBoiling 35 = .ok (.getfield 35, 3) := by decide +kernel
theorem dX6_hoursByBoiling_38 : decode cX6_hoursByBoiling 38 = .ok (.aload_n 0, 1) := by decide +kernel
theorem dX6_hoursByBoiling_39 : decode cX6_hoursByBoiling 39 = .ok (.getfield 143, 3) := by decide +kernel
theorem dX6_hoursByBoiling_42 : decode cX6_hoursByBoiling 42 = .ok (.invokevirtual 146, 3) := by decide +kernel
theorem dX6_hoursByBoiling_45 : decode cX6_hoursByBoiling 45 = .ok (.pop, 1) := by decide +kernel
theorem dX6_hoursByBoiling_46 : decode cX6_hoursByBoiling 46 = .ok (.iinc 1 1, 3) := by decide +kernel
theorem dX6_hoursByBoiling_49 : decode cX6_hoursByBoiling 49 = .ok (.goto (-32), 3) := by decide +kernel
theorem dX6_hoursByBoiling_52 : decode cX6_hoursByBoiling 52 = .ok (.iload_n 1, 1) := by decide +kernel
theorem dX6_hoursByBoiling_53 : decode cX6_hoursByBoiling 53 = .ok (.ireturn, 1) := by decide +kernel
theorem dX6_draw_0 : decode cX6_draw 0 = .ok (.aload_n 0, 1) := by decide +kernel
theorem dX6_draw_1 : decode cX6_draw 1 = .ok (.getfield 31, 3) := by decide +kernel
theorem dX6_draw_4 : decode cX6_draw 4 = .ok (.invokevirtual 213, 3) := by decide +kernel
theorem dX6_draw_7 : decode cX6_draw 7 = .ok (.ifCond .ne 13, 3) := by decide +kernel
theorem dX6_draw_10 : decode cX6_draw 10 = .ok (.new 195, 3) := by decide +kernel
theorem dX6_draw_13 : decode cX6_draw 13 = .ok (.dup, 1) := by decide +kernel
theorem dX6_draw_14 : decode cX6_draw 14 = .ok (.ldc 227, 2) := by decide +kernel
theorem dX6_draw_16 : decode cX6_draw 16 = .ok (.invokespecial 199, 3) := by decide +kernel
theorem dX6_draw_19 : decode cX6_draw 19 = .ok (.athrow, 1) := by decide +kernel
theorem dX6_draw_20 : decode cX6_draw 20 = .ok (.aload_n 0, 1) := by decide +kernel
theorem dX6_draw_21 : decode cX6_draw 21 = .ok (.getfield 41, 3) := by decide +kernel
theorem dX6_draw_24 : decode cX6_draw 24 = .ok (.invokevirtual 229, 3) := by decide +kernel
theorem dX6_draw_27 : decode cX6_draw 27 = .ok (.ifCond .eq 13, 3) := by decide +kernel
theorem dX6_draw_30 : decode cX6_draw 30 = .ok (.new 135, 3) := by decide +kernel
theorem dX6_draw_33 : decode cX6_draw 33 = .ok (.dup, 1) := by decide +kernel
theorem dX6_draw_34 : decode cX6_draw 34 = .ok (.ldc 232, 2) := by decide +kernel
theorem dX6_draw_36 : decode cX6_draw 36 = .ok (.invokespecial 139, 3) := by decide +kernel
theorem dX6_draw_39 : decode cX6_draw 39 = .ok (.athrow, 1) := by decide +kernel
theorem dX6_draw_40 : decode cX6_draw 40 = .ok (.aload_n 0, 1) := by decide +kernel
theorem dX6_draw_41 : decode cX6_draw 41 = .ok (.getfield 41, 3) := by decide +kernel
theorem dX6_draw_44 : decode cX6_draw 44 = .ok (.aload_n 0, 1) := by decide +kernel
theorem dX6_draw_45 : decode cX6_draw 45 = .ok (.getfield 31, 3) := by decide +kernel
theorem dX6_draw_48 : decode cX6_draw 48 = .ok (.getfield 200, 3) := by decide +kernel
theorem dX6_draw_51 : decode cX6_draw 51 = .ok (.aload_n 0, 1) := by decide +kernel
theorem dX6_draw_52 : decode cX6_draw 52 = .ok (.getfield 31, 3) := by decide +kernel
theorem dX6_draw_55 : decode cX6_draw 55 = .ok (.getfield 212, 3) := by decide +kernel
theorem dX6_draw_58 : decode cX6_draw 58 = .ok (.aload_n 0, 1) := by decide +kernel
theorem dX6_draw_59 : decode cX6_draw 59 = .ok (.getfield 31, 3) := by decide +kernel
theorem dX6_draw_62 : decode cX6_draw 62 = .ok (.getfield 234, 3) := by decide +kernel
theorem dX6_draw_65 : decode cX6_draw 65 = .ok (.invokestatic 237, 3) := by decide +kernel
theorem dX6_draw_68 : decode cX6_draw 68 = .ok (.invokevirtual 241, 3) := by decide +kernel
theorem dX6_draw_71 : decode cX6_draw 71 = .ok (.istore_n 1, 1) := by decide +kernel
theorem dX6_draw_72 : decode cX6_draw 72 = .ok (.aload_n 0, 1) := by decide +kernel
theorem dX6_draw_73 : decode cX6_draw 73 = .ok (.getfield 31, 3) := by decide +kernel
theorem dX6_draw_76 : decode cX6_draw 76 = .ok (.invokevirtual 245, 3) := by decide +kernel
theorem dX6_draw_79 : decode cX6_draw 79 = .ok (.iload_n 1, 1) := by decide +kernel
theorem dX6_draw_80 : decode cX6_draw 80 = .ok (.ireturn, 1) := by decide +kernel
theorem dX6_dump_0 : decode cX6_dump 0 = .ok (.aload_n 0, 1) := by decide +kernel
theorem dX6_dump_1 : decode cX6_dump 1 = .ok (.getfield 31, 3) := by decide +kernel
theorem dX6_dump_4 : decode cX6_dump 4 = .ok (.getfield 200, 3) := by decide +kernel
theorem dX6_dump_7 : decode cX6_dump 7 = .ok (.istore_n 1, 1) := by decide +kernel
theorem dX6_dump_8 : decode cX6_dump 8 = .ok (.aload_n 0, 1) := by decide +kernel
theorem dX6_dump_9 : decode cX6_dump 9 = .ok (.getfield 48, 3) := by decide +kernel
theorem dX6_dump_12 : decode cX6_dump 12 = .ok (.iload_n 1, 1) := by decide +kernel
theorem dX6_dump_13 : decode cX6_dump 13 = .ok (.aload_n 0, 1) := by decide +kernel
theorem dX6_dump_14 : decode cX6_dump 14 = .ok (.getfield 31, 3) := by decide +kernel
theorem dX6_dump_17 : decode cX6_dump 17 = .ok (.getfield 212, 3) := by decide +kernel
theorem dX6_dump_20 : decode cX6_dump 20 = .ok (.invokevirtual 190, 3) := by decide +kernel
theorem dX6_dump_23 : decode cX6_dump 23 = .ok (.aload_n 0, 1) := by decide +kernel
theorem dX6_dump_24 : decode cX6_dump 24 = .ok (.getfield 31, 3) := by decide +kernel
theorem dX6_dump_27 : decode cX6_dump 27 = .ok (.invokevirtual 245, 3) := by decide +kernel
theorem dX6_dump_30 : decode cX6_dump 30 = .ok (.iload_n 1, 1) := by decide +kernel
theorem dX6_dump_31 : decode cX6_dump 31 = .ok (.ireturn, 1) := by decide +kernel
theorem dX6_batches_0 : decode cX6_batches 0 = .ok (.aload_n 0, 1) := by decide +kernel
theorem dX6_batches_1 : decode cX6_batches 1 = .ok (.getfield 41, 3) := by decide +kernel
theorem dX6_batches_4 : decode cX6_batches 4 = .ok (.invokevirtual 248, 3) := by decide +kernel
theorem dX6_batches_7 : decode cX6_batches 7 = .ok (.ireturn, 1) := by decide +kernel
theorem dX6_batchVolume_0 : decode cX6_batchVolume 0 = .ok (.aload_n 0, 1) := by decide +kernel
theorem dX6_batchVolume_1 : decode cX6_batchVolume 1 = .ok (.iload_n 1, 1) := by decide +kernel
theorem dX6_batchVolume_2 : decode cX6_batchVolume 2 = .ok (.invokevirtual 249, 3) := by decide +kernel
theorem dX6_batchVolume_5 : decode cX6_batchVolume 5 = .ok (.aload_n 0, 1) := by decide +kernel
theorem dX6_batchVolume_6 : decode cX6_batchVolume 6 = .ok (.getfield 41, 3) := by decide +kernel
theorem dX6_batchVolume_9 : decode cX6_batchVolume 9 = .ok (.getfield 252, 3) := by decide +kernel
theorem dX6_batchVolume_12 : decode cX6_batchVolume 12 = .ok (.iload_n 1, 1) := by decide +kernel
theorem dX6_batchVolume_13 : decode cX6_batchVolume 13 = .ok (.iaload, 1) := by decide +kernel
theorem dX6_batchVolume_14 : decode cX6_batchVolume 14 = .ok (.ireturn, 1) := by decide +kernel
theorem dX6_gradeOf_0 : decode cX6_gradeOf 0 = .ok (.aload_n 0, 1) := by decide +kernel
theorem dX6_gradeOf_1 : decode cX6_gradeOf 1 = .ok (.iload_n 1, 1) := by decide +kernel
theorem dX6_gradeOf_2 : decode cX6_gradeOf 2 = .ok (.invokevirtual 249, 3) := by decide +kernel
theorem dX6_gradeOf_5 : decode cX6_gradeOf 5 = .ok (.aload_n 0, 1) := by decide +kernel
theorem dX6_gradeOf_6 : decode cX6_gradeOf 6 = .ok (.getfield 41, 3) := by decide +kernel
theorem dX6_gradeOf_9 : decode cX6_gradeOf 9 = .ok (.getfield 255, 3) := by decide +kernel
theorem dX6_gradeOf_12 : decode cX6_gradeOf 12 = .ok (.iload_n 1, 1) := by decide +kernel
theorem dX6_gradeOf_13 : decode cX6_gradeOf 13 = .ok (.caload, 1) := by decide +kernel
theorem dX6_gradeOf_14 : decode cX6_gradeOf 14 = .ok (.ireturn, 1) := by decide +kernel
theorem dX6_totalSap_0 : decode cX6_totalSap 0 = .ok (.aload_n 0, 1) := by decide +kernel
theorem dX6_totalSap_1 : decode cX6_totalSap 1 = .ok (.getfield 48, 3) := by decide +kernel
theorem dX6_totalSap_4 : decode cX6_totalSap 4 = .ok (.getfield 259, 3) := by decide +kernel
theorem dX6_totalSap_7 : decode cX6_totalSap 7 = .ok (.lreturn, 1) := by decide +kernel
theorem dX6_steam_0 : decode cX6_steam 0 = .ok (.aload_n 0, 1) := by decide +kernel
theorem dX6_steam_1 : decode cX6_steam 1 = .ok (.getfield 48, 3) := by decide +kernel
theorem dX6_steam_4 : decode cX6_steam 4 = .ok (.getfield 263, 3) := by decide +kernel
theorem dX6_steam_7 : decode cX6_steam 7 = .ok (.lreturn, 1) := by decide +kernel
theorem dX6_loss_0 : decode cX6_loss 0 = .ok (.aload_n 0, 1) := by decide +kernel
theorem dX6_loss_1 : decode cX6_loss 1 = .ok (.getfield 48, 3) := by decide +kernel
theorem dX6_loss_4 : decode cX6_loss 4 = .ok (.getfield 266, 3) := by decide +kernel
theorem dX6_loss_7 : decode cX6_loss 7 = .ok (.lreturn, 1) := by decide +kernel
theorem dX6_lossByBalance_0 : decode cX6_lossByBalance 0 = .ok (.aload_n 0, 1) := by decide +kernel
theorem dX6_lossByBalance_1 : decode cX6_lossByBalance 1 = .ok (.getfield 48, 3) := by decide +kernel
theorem dX6_lossByBalance_4 : decode cX6_lossByBalance 4 = .ok (.getfield 259, 3) := by decide +kernel
theorem dX6_lossByBalance_7 : decode cX6_lossByBalance 7 = .ok (.aload_n 0, 1) := by decide +kernel
theorem dX6_lossByBalance_8 : decode cX6_lossByBalance 8 = .ok (.getfield 48, 3) := by decide +kernel
theorem dX6_lossByBalance_11 : decode cX6_lossByBalance 11 = .ok (.getfield 263, 3) := by decide +kernel
theorem dX6_lossByBalance_14 : decode cX6_lossByBalance 14 = .ok (.lsub, 1) := by decide +kernel
theorem dX6_lossByBalance_15 : decode cX6_lossByBalance 15 = .ok (.aload_n 0, 1) := by decide +kernel
theorem dX6_lossByBalance_16 : decode cX6_lossByBalance 16 = .ok (.getfield 41, 3) := by decide +kernel
theorem dX6_lossByBalance_19 : decode cX6_lossByBalance 19 = .ok (.invokevirtual 269, 3) := by decide +kernel
theorem dX6_lossByBalance_22 : decode cX6_lossByBalance 22 = .ok (.lsub, 1) := by decide +kernel
theorem dX6_lossByBalance_23 : decode cX6_lossByBalance 23 = .ok (.aload_n 0, 1) := by decide +kernel
theorem dX6_lossByBalance_24 : decode cX6_lossByBalance 24 = .ok (.invokevirtual 273, 3) := by decide +kernel
theorem dX6_lossByBalance_27 : decode cX6_lossByBalance 27 = .ok (.lsub, 1) := by decide +kernel
theorem dX6_lossByBalance_28 : decode cX6_lossByBalance 28 = .ok (.aload_n 0, 1) := by decide +kernel
theorem dX6_lossByBalance_29 : decode cX6_lossByBalance 29 = .ok (.getfield 31, 3) := by decide +kernel
theorem dX6_lossByBalance_32 : decode cX6_lossByBalance 32 = .ok (.getfield 200, 3) := by decide +kernel
theorem dX6_lossByBalance_35 : decode cX6_lossByBalance 35 = .ok (.i2l, 1) := by decide +kernel
theorem dX6_lossByBalance_36 : decode cX6_lossByBalance 36 = .ok (.lsub, 1) := by decide +kernel
theorem dX6_lossByBalance_37 : decode cX6_lossByBalance 37 = .ok (.lreturn, 1) := by decide +kernel
theorem dX6_lostSugar_0 : decode cX6_lostSugar 0 = .ok (.aload_n 0, 1) := by decide +kernel
theorem dX6_lostSugar_1 : decode cX6_lostSugar 1 = .ok (.getfield 48, 3) := by decide +kernel
theorem dX6_lostSugar_4 : decode cX6_lostSugar 4 = .ok (.getfield 276, 3) := by decide +kernel
theorem dX6_lostSugar_7 : decode cX6_lostSugar 7 = .ok (.lreturn, 1) := by decide +kernel
theorem dX6_isBalanced_0 : decode cX6_isBalanced 0 = .ok (.aload_n 0, 1) := by decide +kernel
theorem dX6_isBalanced_1 : decode cX6_isBalanced 1 = .ok (.getfield 48, 3) := by decide +kernel
theorem dX6_isBalanced_4 : decode cX6_isBalanced 4 = .ok (.getfield 276, 3) := by decide +kernel
theorem dX6_isBalanced_7 : decode cX6_isBalanced 7 = .ok (.aload_n 0, 1) := by decide +kernel
theorem dX6_isBalanced_8 : decode cX6_isBalanced 8 = .ok (.getfield 41, 3) := by decide +kernel
theorem dX6_isBalanced_11 : decode cX6_isBalanced 11 = .ok (.getfield 279, 3) := by decide +kernel
theorem dX6_isBalanced_14 : decode cX6_isBalanced 14 = .ok (.ladd, 1) := by decide +kernel
theorem dX6_isBalanced_15 : decode cX6_isBalanced 15 = .ok (.aload_n 0, 1) := by decide +kernel
theorem dX6_isBalanced_16 : decode cX6_isBalanced 16 = .ok (.invokevirtual 281, 3) := by decide +kernel
theorem dX6_isBalanced_19 : decode cX6_isBalanced 19 = .ok (.ladd, 1) := by decide +kernel
theorem dX6_isBalanced_20 : decode cX6_isBalanced 20 = .ok (.aload_n 0, 1) := by decide +kernel
theorem dX6_isBalanced_21 : decode cX6_isBalanced 21 = .ok (.getfield 31, 3) := by decide +kernel
theorem dX6_isBalanced_24 : decode cX6_isBalanced 24 = .ok (.getfield 212, 3) := by decide +kernel
theorem dX6_isBalanced_27 : decode cX6_isBalanced 27 = .ok (.i2l, 1) := by decide +kernel
theorem dX6_isBalanced_28 : decode cX6_isBalanced 28 = .ok (.ladd, 1) := by decide +kernel
theorem dX6_isBalanced_29 : decode cX6_isBalanced 29 = .ok (.lstore_n 1, 1) := by decide +kernel
theorem dX6_isBalanced_30 : decode cX6_isBalanced 30 = .ok (.aload_n 0, 1) := by decide +kernel
theorem dX6_isBalanced_31 : decode cX6_isBalanced 31 = .ok (.invokevirtual 284, 3) := by decide +kernel
theorem dX6_isBalanced_34 : decode cX6_isBalanced 34 = .ok (.aload_n 0, 1) := by decide +kernel
theorem dX6_isBalanced_35 : decode cX6_isBalanced 35 = .ok (.invokevirtual 287, 3) := by decide +kernel
theorem dX6_isBalanced_38 : decode cX6_isBalanced 38 = .ok (.lcmp, 1) := by decide +kernel
theorem dX6_isBalanced_39 : decode cX6_isBalanced 39 = .ok (.ifCond .ne 19, 3) := by decide +kernel
theorem dX6_isBalanced_42 : decode cX6_isBalanced 42 = .ok (.aload_n 0, 1) := by decide +kernel
theorem dX6_isBalanced_43 : decode cX6_isBalanced 43 = .ok (.getfield 48, 3) := by decide +kernel
theorem dX6_isBalanced_46 : decode cX6_isBalanced 46 = .ok (.getfield 290, 3) := by decide +kernel
theorem dX6_isBalanced_49 : decode cX6_isBalanced 49 = .ok (.lload_n 1, 1) := by decide +kernel
theorem dX6_isBalanced_50 : decode cX6_isBalanced 50 = .ok (.lcmp, 1) := by decide +kernel
theorem dX6_isBalanced_51 : decode cX6_isBalanced 51 = .ok (.ifCond .ne 7, 3) := by decide +kernel
theorem dX6_isBalanced_54 : decode cX6_isBalanced 54 = .ok (.iconst 1, 1) := by decide +kernel
theorem dX6_isBalanced_55 : decode cX6_isBalanced 55 = .ok (.goto 4, 3) := by decide +kernel
theorem dX6_isBalanced_58 : decode cX6_isBalanced 58 = .ok (.iconst 0, 1) := by decide +kernel
theorem dX6_isBalanced_59 : decode cX6_isBalanced 59 = .ok (.ireturn, 1) := by decide +kernel
theorem dX6_lossShare_0 : decode cX6_lossShare 0 = .ok (.aload_n 0, 1) := by decide +kernel
theorem dX6_lossShare_1 : decode cX6_lossShare 1 = .ok (.invokevirtual 293, 3) := by decide +kernel
theorem dX6_lossShare_4 : decode cX6_lossShare 4 = .ok (.aload_n 0, 1) := by decide +kernel
theorem dX6_lossShare_5 : decode cX6_lossShare 5 = .ok (.getfield 48, 3) := by decide +kernel
theorem dX6_lossShare_8 : decode cX6_lossShare 8 = .ok (.getfield 266, 3) := by decide +kernel
theorem dX6_lossShare_11 : decode cX6_lossShare 11 = .ok (.l2f, 1) := by decide +kernel
theorem dX6_lossShare_12 : decode cX6_lossShare 12 = .ok (.aload_n 0, 1) := by decide +kernel
theorem dX6_lossShare_13 : decode cX6_lossShare 13 = .ok (.getfield 48, 3) := by decide +kernel
theorem dX6_lossShare_16 : decode cX6_lossShare 16 = .ok (.getfield 259, 3) := by decide +kernel
theorem dX6_lossShare_19 : decode cX6_lossShare 19 = .ok (.l2f, 1) := by decide +kernel
theorem dX6_lossShare_20 : decode cX6_lossShare 20 = .ok (.fdiv, 1) := by decide +kernel
theorem dX6_lossShare_21 : decode cX6_lossShare 21 = .ok (.freturn, 1) := by decide +kernel
theorem dX6_meanSweetness_0 : decode cX6_meanSweetness 0 = .ok (.aload_n 0, 1) := by decide +kernel
theorem dX6_meanSweetness_1 : decode cX6_meanSweetness 1 = .ok (.invokevirtual 293, 3) := by decide +kernel
theorem dX6_meanSweetness_4 : decode cX6_meanSweetness 4 = .ok (.aload_n 0, 1) := by decide +kernel
theorem dX6_meanSweetness_5 : decode cX6_meanSweetness 5 = .ok (.getfield 48, 3) := by decide +kernel
theorem dX6_meanSweetness_8 : decode cX6_meanSweetness 8 = .ok (.getfield 290, 3) := by decide +kernel
theorem dX6_meanSweetness_11 : decode cX6_meanSweetness 11 = .ok (.l2d, 1) := by decide +kernel
theorem dX6_meanSweetness_12 : decode cX6_meanSweetness 12 = .ok (.aload_n 0, 1) := by decide +kernel
theorem dX6_meanSweetness_13 : decode cX6_meanSweetness 13 = .ok (.getfield 48, 3) := by decide +kernel
theorem dX6_meanSweetness_16 : decode cX6_meanSweetness 16 = .ok (.getfield 259, 3) := by decide +kernel
theorem dX6_meanSweetness_19 : decode cX6_meanSweetness 19 = .ok (.l2d, 1) := by decide +kernel
theorem dX6_meanSweetness_20 : decode cX6_meanSweetness 20 = .ok (.ddiv, 1) := by decide +kernel
theorem dX6_meanSweetness_21 : decode cX6_meanSweetness 21 = .ok (.dreturn, 1) := by decide +kernel
theorem dX6_requireNode_0 : decode cX6_requireNode 0 = .ok (.aload_n 0, 1) := by decide +kernel
theorem dX6_requireNode_1 : decode cX6_requireNode 1 = .ok (.getfield 10, 3) := by decide +kernel
theorem dX6_requireNode_4 : decode cX6_requireNode 4 = .ok (.iload_n 1, 1) := by decide +kernel
theorem dX6_requireNode_5 : decode cX6_requireNode 5 = .ok (.invokevirtual 296, 3) := by decide +kernel
theorem dX6_requireNode_8 : decode cX6_requireNode 8 = .ok (.ifCond .ne 14, 3) := by decide +kernel
theorem dX6_requireNode_11 : decode cX6_requireNode 11 = .ok (.new 299, 3) := by decide +kernel
theorem dX6_requireNode_14 : decode cX6_requireNode 14 = .ok (.dup, 1) := by decide +kernel
theorem dX6_requireNode_15 : decode cX6_requireNode 15 = .ok (.ldc_w 301, 3) := by decide +kernel
theorem dX6_requireNode_18 : decode cX6_requireNode 18 = .ok (.invokespecial 303, 3) := by decide +kernel
theorem dX6_requireNode_21 : decode cX6_requireNode 21 = .ok (.athrow, 1) := by decide +kernel
theorem dX6_requireNode_22 : decode cX6_requireNode 22 = .ok (.return_, 1) := by decide +kernel
theorem dX6_requireRoomBelow_0 : decode cX6_requireRoomBelow 0 = .ok (.aload_n 0, 1) := by decide +kernel
theorem dX6_requireRoomBelow_1 : decode cX6_requireRoomBelow 1 = .ok (.getfield 18, 3) := by decide +kernel
theorem dX6_requireRoomBelow_4 : decode cX6_requireRoomBelow 4 = .ok (.iload_n 1, 1) := by decide +kernel
theorem dX6_requireRoomBelow_5 : decode cX6_requireRoomBelow 5 = .ok (.aaload, 1) := by decide +kernel
theorem dX6_requireRoomBelow_6 : decode cX6_requireRoomBelow 6 = .ok (.ifnull 14, 3) := by decide +kernel
theorem dX6_requireRoomBelow_9 : decode cX6_requireRoomBelow 9 = .ok (.new 195, 3) := by decide +kernel
theorem dX6_requireRoomBelow_12 : decode cX6_requireRoomBelow 12 = .ok (.dup, 1) := by decide +kernel
theorem dX6_requireRoomBelow_13 : decode cX6_requireRoomBelow 13 = .ok (.ldc_w 304, 3) := by decide +kernel
theorem dX6_requireRoomBelow_16 : decode cX6_requireRoomBelow 16 = .ok (.invokespecial 199, 3) := by decide +kernel
theorem dX6_requireRoomBelow_19 : decode cX6_requireRoomBelow 19 = .ok (.athrow, 1) := by decide +kernel
theorem dX6_requireRoomBelow_20 : decode cX6_requireRoomBelow 20 = .ok (.aload_n 0, 1) := by decide +kernel
theorem dX6_requireRoomBelow_21 : decode cX6_requireRoomBelow 21 = .ok (.getfield 10, 3) := by decide +kernel
theorem dX6_requireRoomBelow_24 : decode cX6_requireRoomBelow 24 = .ok (.invokevirtual 306, 3) := by decide +kernel
theorem dX6_requireRoomBelow_27 : decode cX6_requireRoomBelow 27 = .ok (.ifCond .eq 14, 3) := by decide +kernel
theorem dX6_requireRoomBelow_30 : decode cX6_requireRoomBelow 30 = .ok (.new 135, 3) := by decide +kernel
theorem dX6_requireRoomBelow_33 : decode cX6_requireRoomBelow 33 = .ok (.dup, 1) := by decide +kernel
theorem dX6_requireRoomBelow_34 : decode cX6_requireRoomBelow 34 = .ok (.ldc_w 307, 3) := by decide +kernel
theorem dX6_requireRoomBelow_37 : decode cX6_requireRoomBelow 37 = .ok (.invokespecial 139, 3) := by decide +kernel
theorem dX6_requireRoomBelow_40 : decode cX6_requireRoomBelow 40 = .ok (.athrow, 1) := by decide +kernel
theorem dX6_requireRoomBelow_41 : decode cX6_requireRoomBelow 41 = .ok (.return_, 1) := by decide +kernel
theorem dX6_requireTap_0 : decode cX6_requireTap 0 = .ok (.aload_n 0, 1) := by decide +kernel
theorem dX6_requireTap_1 : decode cX6_requireTap 1 = .ok (.iload_n 1, 1) := by decide +kernel
theorem dX6_requireTap_2 : decode cX6_requireTap 2 = .ok (.invokevirtual 56, 3) := by decide +kernel
theorem dX6_requireTap_5 : decode cX6_requireTap 5 = .ok (.aload_n 0, 1) := by decide +kernel
theorem dX6_requireTap_6 : decode cX6_requireTap 6 = .ok (.getfield 18, 3) := by decide +kernel
theorem dX6_requireTap_9 : decode cX6_requireTap 9 = .ok (.iload_n 1, 1) := by decide +kernel
theorem dX6_requireTap_10 : decode cX6_requireTap 10 = .ok (.aaload, 1) := by decide +kernel
theorem dX6_requireTap_11 : decode cX6_requireTap 11 = .ok (.astore_n 2, 1) := by decide +kernel
theorem dX6_requireTap_12 : decode cX6_requireTap 12 = .ok (.aload_n 2, 1) := by decide +kernel
theorem dX6_requireTap_13 : decode cX6_requireTap 13 = .ok (.ifnonnull 14, 3) := by decide +kernel
theorem dX6_requireTap_16 : decode cX6_requireTap 16 = .ok (.new 195, 3) := by decide +kernel
theorem dX6_requireTap_19 : decode cX6_requireTap 19 = .ok (.dup, 1) := by decide +kernel
theorem dX6_requireTap_20 : decode cX6_requireTap 20 = .ok (.ldc_w 309, 3) := by decide +kernel
theorem dX6_requireTap_23 : decode cX6_requireTap 23 = .ok (.invokespecial 199, 3) := by decide +kernel
theorem dX6_requireTap_26 : decode cX6_requireTap 26 = .ok (.athrow, 1) := by decide +kernel
theorem dX6_requireTap_27 : decode cX6_requireTap 27 = .ok (.aload_n 2, 1) := by decide +kernel
theorem dX6_requireTap_28 : decode cX6_requireTap 28 = .ok (.areturn, 1) := by decide +kernel
theorem dX6_requireTank_0 : decode cX6_requireTank 0 = .ok (.iload_n 1, 1) := by decide +kernel
theorem dX6_requireTank_1 : decode cX6_requireTank 1 = .ok (.ifCond .lt 12, 3) := by decide +kernel
theorem dX6_requireTank_4 : decode cX6_requireTank 4 = .ok (.iload_n 1, 1) := by decide +kernel
theorem dX6_requireTank_5 : decode cX6_requireTank 5 = .ok (.aload_n 0, 1) := by decide +kernel
theorem dX6_requireTank_6 : decode cX6_requireTank 6 = .ok (.getfield 24, 3) := by decide +kernel
theorem dX6_requireTank_9 : decode cX6_requireTank 9 = .ok (.arraylength, 1) := by decide +kernel
theorem dX6_requireTank_10 : decode cX6_requireTank 10 = .ok (.if_icmp .lt 7, 3) := by decide +kernel
theorem dX6_requireTank_13 : decode cX6_requireTank 13 = .ok (.aconst_null, 1) := by decide +kernel
theorem dX6_requireTank_14 : decode cX6_requireTank 14 = .ok (.goto 9, 3) := by decide +kernel
theorem dX6_requireTank_17 : decode cX6_requireTank 17 = .ok (.aload_n 0, 1) := by decide +kernel
theorem dX6_requireTank_18 : decode cX6_requireTank 18 = .ok (.getfield 24, 3) := by decide +kernel
theorem dX6_requireTank_21 : decode cX6_requireTank 21 = .ok (.iload_n 1, 1) := by decide +kernel
theorem dX6_requireTank_22 : decode cX6_requireTank 22 = .ok (.aaload, 1) := by decide +kernel
theorem dX6_requireTank_23 : decode cX6_requireTank 23 = .ok (.astore_n 2, 1) := by decide +kernel
theorem dX6_requireTank_24 : decode cX6_requireTank 24 = .ok (.aload_n 2, 1) := by decide +kernel
theorem dX6_requireTank_25 : decode cX6_requireTank 25 = .ok (.ifnonnull 14, 3) := by decide +kernel
theorem dX6_requireTank_28 : decode cX6_requireTank 28 = .ok (.new 299, 3) := by decide +kernel
theorem dX6_requireTank_31 : decode cX6_requireTank 31 = .ok (.dup, 1) := by decide +kernel
theorem dX6_requireTank_32 : decode cX6_requireTank 32 = .ok (.ldc_w 311, 3) := by decide +kernel
theorem dX6_requireTank_35 : decode cX6_requireTank 35 = .ok (.invokespecial 303, 3) := by decide +kernel
theorem dX6_requireTank_38 : decode cX6_requireTank 38 = .ok (.athrow, 1) := by decide +kernel
theorem dX6_requireTank_39 : decode cX6_requireTank 39 = .ok (.aload_n 2, 1) := by decide +kernel
theorem dX6_requireTank_40 : decode cX6_requireTank 40 = .ok (.areturn, 1) := by decide +kernel
theorem dX6_requireBatch_0 : decode cX6_requireBatch 0 = .ok (.aload_n 0, 1) := by decide +kernel
theorem dX6_requireBatch_1 : decode cX6_requireBatch 1 = .ok (.getfield 41, 3) := by decide +kernel
theorem dX6_requireBatch_4 : decode cX6_requireBatch 4 = .ok (.iload_n 1, 1) := by decide +kernel
theorem dX6_requireBatch_5 : decode cX6_requireBatch 5 = .ok (.invokevirtual 313, 3) := by decide +kernel
theorem dX6_requireBatch_8 : decode cX6_requireBatch 8 = .ok (.ifCond .ne 14, 3) := by decide +kernel
theorem dX6_requireBatch_11 : decode cX6_requireBatch 11 = .ok (.new 299, 3) := by decide +kernel
theorem dX6_requireBatch_14 : decode cX6_requireBatch 14 = .ok (.dup, 1) := by decide +kernel
theorem dX6_requireBatch_15 : decode cX6_requireBatch 15 = .ok (.ldc_w 314, 3) := by decide +kernel
theorem dX6_requireBatch_18 : decode cX6_requireBatch 18 = .ok (.invokespecial 303, 3) := by decide +kernel
theorem dX6_requireBatch_21 : decode cX6_requireBatch 21 = .ok (.athrow, 1) := by decide +kernel
theorem dX6_requireBatch_22 : decode cX6_requireBatch 22 = .ok (.return_, 1) := by decide +kernel
theorem dX6_requireEndOfBoiling_0 : decode cX6_requireEndOfBoiling 0 = .ok (.aload_n 0, 1) := by decide +kernel
theorem dX6_requireEndOfBoiling_1 : decode cX6_requireEndOfBoiling 1 = .ok (.getfield 31, 3) := by decide +kernel
theorem dX6_requireEndOfBoiling_4 : decode cX6_requireEndOfBoiling 4 = .ok (.getfield 200, 3) := by decide +kernel
theorem dX6_requireEndOfBoiling_7 : decode cX6_requireEndOfBoiling 7 = .ok (.ifCond .ne 14, 3) := by decide +kernel
theorem dX6_requireEndOfBoiling_10 : decode cX6_requireEndOfBoiling 10 = .ok (.new 98, 3) := by decide +kernel
theorem dX6_requireEndOfBoiling_13 : decode cX6_requireEndOfBoiling 13 = .ok (.dup, 1) := by decide +kernel
theorem dX6_requireEndOfBoiling_14 : decode cX6_requireEndOfBoiling 14 = .ok (.ldc_w 316, 3) := by decide +kernel
theorem dX6_requireEndOfBoiling_17 : decode cX6_requireEndOfBoiling 17 = .ok (.invokespecial 102, 3) := by decide +kernel
theorem dX6_requireEndOfBoiling_20 : decode cX6_requireEndOfBoiling 20 = .ok (.athrow, 1) := by decide +kernel
theorem dX6_requireEndOfBoiling_21 : decode cX6_requireEndOfBoiling 21 = .ok (.aload_n 0, 1) := by decide +kernel
theorem dX6_requireEndOfBoiling_22 : decode cX6_requireEndOfBoiling 22 = .ok (.getfield 143, 3) := by decide +kernel
theorem dX6_requireEndOfBoiling_25 : decode cX6_requireEndOfBoiling 25 = .ok (.ifCond .ne 24, 3) := by decide +kernel
theorem dX6_requireEndOfBoiling_28 : decode cX6_requireEndOfBoiling 28 = .ok (.aload_n 0, 1) := by decide +kernel
theorem dX6_requireEndOfBoiling_29 : decode cX6_requireEndOfBoiling 29 = .ok (.getfield 31, 3) := by decide +kernel
theorem dX6_requireEndOfBoiling_32 : decode cX6_requireEndOfBoiling 32 = .ok (.invokevirtual 213, 3) := by decide +kernel
theorem dX6_requireEndOfBoiling_35 : decode cX6_requireEndOfBoiling 35 = .ok (.ifCond .ne 14, 3) := by decide +kernel
theorem dX6_requireEndOfBoiling_38 : decode cX6_requireEndOfBoiling 38 = .ok (.new 98, 3) := by decide +kernel
theorem dX6_requireEndOfBoiling_41 : decode cX6_requireEndOfBoiling 41 = .ok (.dup, 1) := by decide +kernel
theorem dX6_requireEndOfBoiling_42 : decode cX6_requireEndOfBoiling 42 = .ok (.ldc_w 318, 3) := by decide +kernel
theorem dX6_requireEndOfBoiling_45 : decode cX6_requireEndOfBoiling 45 = .ok (.invokespecial 102, 3) := by decide +kernel
theorem dX6_requireEndOfBoiling_48 : decode cX6_requireEndOfBoiling 48 = .ok (.athrow, 1) := by decide +kernel
theorem dX6_requireEndOfBoiling_49 : decode cX6_requireEndOfBoiling 49 = .ok (.return_, 1) := by decide +kernel
theorem dX6_requireSap_0 : decode cX6_requireSap 0 = .ok (.aload_n 0, 1) := by decide +kernel
theorem dX6_requireSap_1 : decode cX6_requireSap 1 = .ok (.getfield 48, 3) := by decide +kernel
theorem dX6_requireSap_4 : decode cX6_requireSap 4 = .ok (.getfield 259, 3) := by decide +kernel
theorem dX6_requireSap_7 : decode cX6_requireSap 7 = .ok (.lconst 0, 1) := by decide +kernel
theorem dX6_requireSap_8 : decode cX6_requireSap 8 = .ok (.lcmp, 1) := by decide +kernel
theorem dX6_requireSap_9 : decode cX6_requireSap 9 = .ok (.ifCond .ne 14, 3) := by decide +kernel
theorem dX6_requireSap_12 : decode cX6_requireSap 12 = .ok (.new 320, 3) := by decide +kernel
theorem dX6_requireSap_15 : decode cX6_requireSap 15 = .ok (.dup, 1) := by decide +kernel
theorem dX6_requireSap_16 : decode cX6_requireSap 16 = .ok (.ldc_w 322, 3) := by decide +kernel
theorem dX6_requireSap_19 : decode cX6_requireSap 19 = .ok (.invokespecial 324, 3) := by decide +kernel
theorem dX6_requireSap_22 : decode cX6_requireSap 22 = .ok (.athrow, 1) := by decide +kernel
theorem dX6_requireSap_23 : decode cX6_requireSap 23 = .ok (.return_, 1) := by decide +kernel
theorem dX6_requireRanked_0 : decode cX6_requireRanked 0 = .ok (.aload_n 0, 1) := by decide +kernel
theorem dX6_requireRanked_1 : decode cX6_requireRanked 1 = .ok (.iload_n 1, 1) := by decide +kernel
theorem dX6_requireRanked_2 : decode cX6_requireRanked 2 = .ok (.invokevirtual 325, 3) := by decide +kernel
theorem dX6_requireRanked_5 : decode cX6_requireRanked 5 = .ok (.istore_n 2, 1) := by decide +kernel
theorem dX6_requireRanked_6 : decode cX6_requireRanked 6 = .ok (.iload_n 2, 1) := by decide +kernel
theorem dX6_requireRanked_7 : decode cX6_requireRanked 7 = .ok (.iconst (-1), 1) := by decide +kernel
theorem dX6_requireRanked_8 : decode cX6_requireRanked 8 = .ok (.if_icmp .ne 14, 3) := by decide +kernel
theorem dX6_requireRanked_11 : decode cX6_requireRanked 11 = .ok (.new 98, 3) := by decide +kernel
theorem dX6_requireRanked_14 : decode cX6_requireRanked 14 = .ok (.dup, 1) := by decide +kernel
theorem dX6_requireRanked_15 : decode cX6_requireRanked 15 = .ok (.ldc_w 328, 3) := by decide +kernel
theorem dX6_requireRanked_18 : decode cX6_requireRanked 18 = .ok (.invokespecial 102, 3) := by decide +kernel
theorem dX6_requireRanked_21 : decode cX6_requireRanked 21 = .ok (.athrow, 1) := by decide +kernel
theorem dX6_requireRanked_22 : decode cX6_requireRanked 22 = .ok (.iload_n 2, 1) := by decide +kernel
theorem dX6_requireRanked_23 : decode cX6_requireRanked 23 = .ok (.ireturn, 1) := by decide +kernel
theorem dX6_nodeAt_0 : decode cX6_nodeAt 0 = .ok (.iconst 0, 1) := by decide +kernel
theorem dX6_nodeAt_1 : decode cX6_nodeAt 1 = .ok (.istore_n 2, 1) := by decide +kernel
theorem dX6_nodeAt_2 : decode cX6_nodeAt 2 = .ok (.iload_n 2, 1) := by decide +kernel
theorem dX6_nodeAt_3 : decode cX6_nodeAt 3 = .ok (.aload_n 0, 1) := by decide +kernel
theorem dX6_nodeAt_4 : decode cX6_nodeAt 4 = .ok (.getfield 10, 3) := by decide +kernel
theorem dX6_nodeAt_7 : decode cX6_nodeAt 7 = .ok (.invokevirtual 103, 3) := by decide +kernel
theorem dX6_nodeAt_10 : decode cX6_nodeAt 10 = .ok (.if_icmp .ge 30, 3) := by decide +kernel
theorem dX6_nodeAt_13 : decode cX6_nodeAt 13 = .ok (.aload_n 0, 1) := by decide +kernel
theorem dX6_nodeAt_14 : decode cX6_nodeAt 14 = .ok (.getfield 52, 3) := by decide +kernel
theorem dX6_nodeAt_17 : decode cX6_nodeAt 17 = .ok (.iload_n 2, 1) := by decide +kernel
theorem dX6_nodeAt_18 : decode cX6_nodeAt 18 = .ok (.iaload, 1) := by decide +kernel
theorem dX6_nodeAt_19 : decode cX6_nodeAt 19 = .ok (.iconst (-1), 1) := by decide +kernel
theorem dX6_nodeAt_20 : decode cX6_nodeAt 20 = .ok (.if_icmp .eq 14, 3) := by decide +kernel
theorem dX6_nodeAt_23 : decode cX6_nodeAt 23 = .ok (.aload_n 0, 1) := by decide +kernel
theorem dX6_nodeAt_24 : decode cX6_nodeAt 24 = .ok (.iload_n 2, 1) := by decide +kernel
theorem dX6_nodeAt_25 : decode cX6_nodeAt 25 = .ok (.invokevirtual 330, 3) := by decide +kernel
theorem dX6_nodeAt_28 : decode cX6_nodeAt 28 = .ok (.iload_n 1, 1) := by decide +kernel
theorem dX6_nodeAt_29 : decode cX6_nodeAt 29 = .ok (.if_icmp .ne 5, 3) := by decide +kernel
theorem dX6_nodeAt_32 : decode cX6_nodeAt 32 = .ok (.iload_n 2, 1) := by decide +kernel
theorem dX6_nodeAt_33 : decode cX6_nodeAt 33 = .ok (.ireturn, 1) := by decide +kernel
theorem dX6_nodeAt_34 : decode cX6_nodeAt 34 = .ok (.iinc 2 1, 3) := by decide +kernel
theorem dX6_nodeAt_37 : decode cX6_nodeAt 37 = .ok (.goto (-35), 3) := by decide +kernel
theorem dX6_nodeAt_40 : decode cX6_nodeAt 40 = .ok (.iconst (-1), 1) := by decide +kernel
theorem dX6_nodeAt_41 : decode cX6_nodeAt 41 = .ok (.ireturn, 1) := by decide +kernel
theorem dX6_nodesAhead_0 : decode cX6_nodesAhead 0 = .ok (.iconst 0, 1) := by decide +kernel
theorem dX6_nodesAhead_1 : decode cX6_nodesAhead 1 = .ok (.istore_n 2, 1) := by decide +kernel
theorem dX6_nodesAhead_2 : decode cX6_nodesAhead 2 = .ok (.iconst 0, 1) := by decide +kernel
theorem dX6_nodesAhead_3 : decode cX6_nodesAhead 3 = .ok (.istore_n 3, 1) := by decide +kernel
theorem dX6_nodesAhead_4 : decode cX6_nodesAhead 4 = .ok (.iload_n 3, 1) := by decide +kernel
theorem dX6_nodesAhead_5 : decode cX6_nodesAhead 5 = .ok (.aload_n 0, 1) := by decide +kernel
theorem dX6_nodesAhead_6 : decode cX6_nodesAhead 6 = .ok (.getfield 10, 3) := by decide +kernel
theorem dX6_nodesAhead_9 : decode cX6_nodesAhead 9 = .ok (.invokevirtual 103, 3) := by decide +kernel
theorem dX6_nodesAhead_12 : decode cX6_nodesAhead 12 = .ok (.if_icmp .ge 59, 3) := by decide +kernel
theorem dX6_nodesAhead_15 : decode cX6_nodesAhead 15 = .ok (.aload_n 0, 1) := by decide +kernel
theorem dX6_nodesAhead_16 : decode cX6_nodesAhead 16 = .ok (.getfield 52, 3) := by decide +kernel
theorem dX6_nodesAhead_19 : decode cX6_nodesAhead 19 = .ok (.iload_n 3, 1) := by decide +kernel
theorem dX6_nodesAhead_20 : decode cX6_nodesAhead 20 = .ok (.iaload, 1) := by decide +kernel
theorem dX6_nodesAhead_21 : decode cX6_nodesAhead 21 = .ok (.aload_n 0, 1) := by decide +kernel
theorem dX6_nodesAhead_22 : decode cX6_nodesAhead 22 = .ok (.getfield 52, 3) := by decide +kernel
theorem dX6_nodesAhead_25 : decode cX6_nodesAhead 25 = .ok (.iload_n 1, 1) := by decide +kernel
theorem dX6_nodesAhead_26 : decode cX6_nodesAhead 26 = .ok (.iaload, 1) := by decide +kernel
theorem dX6_nodesAhead_27 : decode cX6_nodesAhead 27 = .ok (.if_icmp .gt 23, 3) := by decide +kernel
theorem dX6_nodesAhead_30 : decode cX6_nodesAhead 30 = .ok (.aload_n 0, 1) := by decide +kernel
theorem dX6_nodesAhead_31 : decode cX6_nodesAhead 31 = .ok (.getfield 52, 3) := by decide +kernel
theorem dX6_nodesAhead_34 : decode cX6_nodesAhead 34 = .ok (.iload_n 3, 1) := by decide +kernel
theorem dX6_nodesAhead_35 : decode cX6_nodesAhead 35 = .ok (.iaload, 1) := by decide +kernel
theorem dX6_nodesAhead_36 : decode cX6_nodesAhead 36 = .ok (.aload_n 0, 1) := by decide +kernel
theorem dX6_nodesAhead_37 : decode cX6_nodesAhead 37 = .ok (.getfield 52, 3) := by decide +kernel
theorem dX6_nodesAhead_40 : decode cX6_nodesAhead 40 = .ok (.iload_n 1, 1) := by decide +kernel
theorem dX6_nodesAhead_41 : decode cX6_nodesAhead 41 = .ok (.iaload, 1) := by decide +kernel
theorem dX6_nodesAhead_42 : decode cX6_nodesAhead 42 = .ok (.if_icmp .ne 12, 3) := by decide +kernel
theorem dX6_nodesAhead_45 : decode cX6_nodesAhead 45 = .ok (.iload_n 3, 1) := by decide +kernel
theorem dX6_nodesAhead_46 : decode cX6_nodesAhead 46 = .ok (.iload_n 1, 1) := by decide +kernel
theorem dX6_nodesAhead_47 : decode cX6_nodesAhead 47 = .ok (.if_icmp .ge 7, 3) := by decide +kernel
theorem dX6_nodesAhead_50 : decode cX6_nodesAhead 50 = .ok (.iconst 1, 1) := by decide +kernel
theorem dX6_nodesAhead_51 : decode cX6_nodesAhead 51 = .ok (.goto 4, 3) := by decide +kernel
theorem dX6_nodesAhead_54 : decode cX6_nodesAhead 54 = .ok (.iconst 0, 1) := by decide +kernel
theorem dX6_nodesAhead_55 : decode cX6_nodesAhead 55 = .ok (.istore 4, 2) := by decide +kernel
theorem dX6_nodesAhead_57 : decode cX6_nodesAhead 57 = .ok (.iload 4, 2) := by decide +kernel
theorem dX6_nodesAhead_59 : decode cX6_nodesAhead 59 = .ok (.ifCond .eq 6, 3) := by decide +kernel
theorem dX6_nodesAhead_62 : decode cX6_nodesAhead 62 = .ok (.iinc 2 1, 3) := by decide +kernel
theorem dX6_nodesAhead_65 : decode cX6_nodesAhead 65 = .ok (.iinc 3 1, 3) := by decide +kernel
theorem dX6_nodesAhead_68 : decode cX6_nodesAhead 68 = .ok (.goto (-64), 3) := by decide +kernel
theorem dX6_nodesAhead_71 : decode cX6_nodesAhead 71 = .ok (.iload_n 2, 1) := by decide +kernel
theorem dX6_nodesAhead_72 : decode cX6_nodesAhead 72 = .ok (.ireturn, 1) := by decide +kernel
theorem dX6_runTaps_0 : decode cX6_runTaps 0 = .ok (.aload_n 0, 1) := by decide +kernel
theorem dX6_runTaps_1 : decode cX6_runTaps 1 = .ok (.getfield 10, 3) := by decide +kernel
theorem dX6_runTaps_4 : decode cX6_runTaps 4 = .ok (.invokevirtual 111, 3) := by decide +kernel
theorem dX6_runTaps_7 : decode cX6_runTaps 7 = .ok (.iconst 0, 1) := by decide +kernel
theorem dX6_runTaps_8 : decode cX6_runTaps 8 = .ok (.istore_n 2, 1) := by decide +kernel
theorem dX6_runTaps_9 : decode cX6_runTaps 9 = .ok (.iconst 0, 1) := by decide +kernel
theorem dX6_runTaps_10 : decode cX6_runTaps 10 = .ok (.istore_n 3, 1) := by decide +kernel
theorem dX6_runTaps_11 : decode cX6_runTaps 11 = .ok (.iconst 0, 1) := by decide +kernel
theorem dX6_runTaps_12 : decode cX6_runTaps 12 = .ok (.istore 4, 2) := by decide +kernel
theorem dX6_runTaps_14 : decode cX6_runTaps 14 = .ok (.iload 4, 2) := by decide +kernel
theorem dX6_runTaps_16 : decode cX6_runTaps 16 = .ok (.aload_n 0, 1) := by decide +kernel
theorem dX6_runTaps_17 : decode cX6_runTaps 17 = .ok (.getfield 10, 3) := by decide +kernel
theorem dX6_runTaps_20 : decode cX6_runTaps 20 = .ok (.invokevirtual 103, 3) := by decide +kernel
theorem dX6_runTaps_23 : decode cX6_runTaps 23 = .ok (.if_icmp .ge 61, 3) := by decide +kernel
theorem dX6_runTaps_26 : decode cX6_runTaps 26 = .ok (.aload_n 0, 1) := by decide +kernel
theorem dX6_runTaps_27 : decode cX6_runTaps 27 = .ok (.getfield 18, 3) := by decide +kernel
theorem dX6_runTaps_30 : decode cX6_runTaps 30 = .ok (.iload 4, 2) := by decide +kernel
theorem dX6_runTaps_32 : decode cX6_runTaps 32 = .ok (.aaload, 1) := by decide +kernel
theorem dX6_runTaps_33 : decode cX6_runTaps 33 = .ok (.astore 5, 2) := by decide +kernel
theorem dX6_runTaps_35 : decode cX6_runTaps 35 = .ok (.aload 5, 2) := by decide +kernel
theorem dX6_runTaps_37 : decode cX6_runTaps 37 = .ok (.ifnull 41, 3) := by decide +kernel
theorem dX6_runTaps_40 : decode cX6_runTaps 40 = .ok (.aload 5, 2) := by decide +kernel
theorem dX6_runTaps_42 : decode cX6_runTaps 42 = .ok (.aload_n 0, 1) := by decide +kernel
theorem dX6_runTaps_43 : decode cX6_runTaps 43 = .ok (.getfield 131, 3) := by decide +kernel
theorem dX6_runTaps_46 : decode cX6_runTaps 46 = .ok (.iload_n 1, 1) := by decide +kernel
theorem dX6_runTaps_47 : decode cX6_runTaps 47 = .ok (.aload_n 0, 1) := by decide +kernel
theorem dX6_runTaps_48 : decode cX6_runTaps 48 = .ok (.getfield 10, 3) := by decide +kernel
theorem dX6_runTaps_51 : decode cX6_runTaps 51 = .ok (.getfield 114, 3) := by decide +kernel
theorem dX6_runTaps_54 : decode cX6_runTaps 54 = .ok (.iload 4, 2) := by decide +kernel
theorem dX6_runTaps_56 : decode cX6_runTaps 56 = .ok (.iaload, 1) := by decide +kernel
theorem dX6_runTaps_57 : decode cX6_runTaps 57 = .ok (.invokevirtual 333, 3) := by decide +kernel
theorem dX6_runTaps_60 : decode cX6_runTaps 60 = .ok (.istore 6, 2) := by decide +kernel
theorem dX6_runTaps_62 : decode cX6_runTaps 62 = .ok (.iload_n 2, 1) := by decide +kernel
theorem dX6_runTaps_63 : decode cX6_runTaps 63 = .ok (.iload 6, 2) := by decide +kernel
theorem dX6_runTaps_65 : decode cX6_runTaps 65 = .ok (.iadd, 1) := by decide +kernel
theorem dX6_runTaps_66 : decode cX6_runTaps 66 = .ok (.istore_n 2, 1) := by decide +kernel
theorem dX6_runTaps_67 : decode cX6_runTaps 67 = .ok (.iload_n 3, 1) := by decide +kernel
theorem dX6_runTaps_68 : decode cX6_runTaps 68 = .ok (.iload 6, 2) := by decide +kernel
theorem dX6_runTaps_70 : decode cX6_runTaps 70 = .ok (.aload 5, 2) := by decide +kernel
theorem dX6_runTaps_72 : decode cX6_runTaps 72 = .ok (.getfield 336, 3) := by decide +kernel
theorem dX6_runTaps_75 : decode cX6_runTaps 75 = .ok (.imul, 1) := by decide +kernel
theorem dX6_runTaps_76 : decode cX6_runTaps 76 = .ok (.iadd, 1) := by decide +kernel
theorem dX6_runTaps_77 : decode cX6_runTaps 77 = .ok (.istore_n 3, 1) := by decide +kernel
theorem dX6_runTaps_78 : decode cX6_runTaps 78 = .ok (.iinc 4 1, 3) := by decide +kernel
theorem dX6_runTaps_81 : decode cX6_runTaps 81 = .ok (.goto (-67), 3) := by decide +kernel
theorem dX6_runTaps_84 : decode cX6_runTaps 84 = .ok (.aload_n 0, 1) := by decide +kernel
theorem dX6_runTaps_85 : decode cX6_runTaps 85 = .ok (.getfield 48, 3) := by decide +kernel
theorem dX6_runTaps_88 : decode cX6_runTaps 88 = .ok (.iload_n 2, 1) := by decide +kernel
theorem dX6_runTaps_89 : decode cX6_runTaps 89 = .ok (.iload_n 3, 1) := by decide +kernel
theorem dX6_runTaps_90 : decode cX6_runTaps 90 = .ok (.invokevirtual 339, 3) := by decide +kernel
theorem dX6_runTaps_93 : decode cX6_runTaps 93 = .ok (.aload_n 0, 1) := by decide +kernel
theorem dX6_runTaps_94 : decode cX6_runTaps 94 = .ok (.iload_n 2, 1) := by decide +kernel
theorem dX6_runTaps_95 : decode cX6_runTaps 95 = .ok (.iload_n 3, 1) := by decide +kernel
theorem dX6_runTaps_96 : decode cX6_runTaps 96 = .ok (.invokevirtual 342, 3) := by decide +kernel
theorem dX6_runTaps_99 : decode cX6_runTaps 99 = .ok (.iload_n 2, 1) := by decide +kernel
theorem dX6_runTaps_100 : decode cX6_runTaps 100 = .ok (.ireturn, 1) := by decide +kernel
theorem dX6_pour_0 : decode cX6_pour 0 = .ok (.iload_n 1, 1) := by decide +kernel
theorem dX6_pour_1 : decode cX6_pour 1 = .ok (.istore_n 3, 1) := by decide +kernel
theorem dX6_pour_2 : decode cX6_pour 2 = .ok (.iload_n 2, 1) := by decide +kernel
theorem dX6_pour_3 : decode cX6_pour 3 = .ok (.istore 4, 2) := by decide +kernel
theorem dX6_pour_5 : decode cX6_pour 5 = .ok (.iconst 0, 1) := by decide +kernel
theorem dX6_pour_6 : decode cX6_pour 6 = .ok (.istore 5, 2) := by decide +kernel
theorem dX6_pour_8 : decode cX6_pour 8 = .ok (.iload 5, 2) := by decide +kernel
theorem dX6_pour_10 : decode cX6_pour 10 = .ok (.aload_n 0, 1) := by decide +kernel
theorem dX6_pour_11 : decode cX6_pour 11 = .ok (.getfield 24, 3) := by decide +kernel
theorem dX6_pour_14 : decode cX6_pour 14 = .ok (.arraylength, 1) := by decide +kernel
theorem dX6_pour_15 : decode cX6_pour 15 = .ok (.if_icmp .ge 65, 3) := by decide +kernel
theorem dX6_pour_18 : decode cX6_pour 18 = .ok (.aload_n 0, 1) := by decide +kernel
theorem dX6_pour_19 : decode cX6_pour 19 = .ok (.getfield 24, 3) := by decide +kernel
theorem dX6_pour_22 : decode cX6_pour 22 = .ok (.iload 5, 2) := by decide +kernel
theorem dX6_pour_24 : decode cX6_pour 24 = .ok (.aaload, 1) := by decide +kernel
theorem dX6_pour_25 : decode cX6_pour 25 = .ok (.astore 6, 2) := by decide +kernel
theorem dX6_pour_27 : decode cX6_pour 27 = .ok (.aload 6, 2) := by decide +kernel
theorem dX6_pour_29 : decode cX6_pour 29 = .ok (.ifnull 45, 3) := by decide +kernel
theorem dX6_pour_32 : decode cX6_pour 32 = .ok (.iload_n 3, 1) := by decide +kernel
theorem dX6_pour_33 : decode cX6_pour 33 = .ok (.aload 6, 2) := by decide +kernel
theorem dX6_pour_35 : decode cX6_pour 35 = .ok (.invokevirtual 345, 3) := by decide +kernel
theorem dX6_pour_38 : decode cX6_pour 38 = .ok (.invokestatic 348, 3) := by decide +kernel
theorem dX6_pour_41 : decode cX6_pour 41 = .ok (.istore 7, 2) := by decide +kernel
theorem dX6_pour_43 : decode cX6_pour 43 = .ok (.iload 4, 2) := by decide +kernel
theorem dX6_pour_45 : decode cX6_pour 45 = .ok (.iload 7, 2) := by decide +kernel
theorem dX6_pour_47 : decode cX6_pour 47 = .ok (.iload_n 3, 1) := by decide +kernel
theorem dX6_pour_48 : decode cX6_pour 48 = .ok (.invokestatic 203, 3) := by decide +kernel
theorem dX6_pour_51 : decode cX6_pour 51 = .ok (.istore 8, 2) := by decide +kernel
theorem dX6_pour_53 : decode cX6_pour 53 = .ok (.aload 6, 2) := by decide +kernel
theorem dX6_pour_55 : decode cX6_pour 55 = .ok (.iload 7, 2) := by decide +kernel
theorem dX6_pour_57 : decode cX6_pour 57 = .ok (.iload 8, 2) := by decide +kernel
theorem dX6_pour_59 : decode cX6_pour 59 = .ok (.invokevirtual 353, 3) := by decide +kernel
theorem dX6_pour_62 : decode cX6_pour 62 = .ok (.iload_n 3, 1) := by decide +kernel
theorem dX6_pour_63 : decode cX6_pour 63 = .ok (.iload 7, 2) := by decide +kernel
theorem dX6_pour_65 : decode cX6_pour 65 = .ok (.isub, 1) := by decide +kernel
theorem dX6_pour_66 : decode cX6_pour 66 = .ok (.istore_n 3, 1) := by decide +kernel
theorem dX6_pour_67 : decode cX6_pour 67 = .ok (.iload 4, 2) := by decide +kernel
theorem dX6_pour_69 : decode cX6_pour 69 = .ok (.iload 8, 2) := by decide +kernel
theorem dX6_pour_71 : decode cX6_pour 71 = .ok (.isub, 1) := by decide +kernel
theorem dX6_pour_72 : decode cX6_pour 72 = .ok (.istore 4, 2) := by decide +kernel
theorem dX6_pour_74 : decode cX6_pour 74 = .ok (.iinc 5 1, 3) := by decide +kernel
theorem dX6_pour_77 : decode cX6_pour 77 = .ok (.goto (-69), 3) := by decide +kernel
theorem dX6_pour_80 : decode cX6_pour 80 = .ok (.aload_n 0, 1) := by decide +kernel
theorem dX6_pour_81 : decode cX6_pour 81 = .ok (.getfield 48, 3) := by decide +kernel
theorem dX6_pour_84 : decode cX6_pour 84 = .ok (.iload_n 3, 1) := by decide +kernel
theorem dX6_pour_85 : decode cX6_pour 85 = .ok (.iload 4, 2) := by decide +kernel
theorem dX6_pour_87 : decode cX6_pour 87 = .ok (.invokevirtual 190, 3) := by decide +kernel
theorem dX6_pour_90 : decode cX6_pour 90 = .ok (.return_, 1) := by decide +kernel
theorem dX6_volumeInTanks_0 : decode cX6_volumeInTanks 0 = .ok (.lconst 0, 1) := by decide +kernel
theorem dX6_volumeInTanks_1 : decode cX6_volumeInTanks 1 = .ok (.lstore_n 1, 1) := by decide +kernel
theorem dX6_volumeInTanks_2 : decode cX6_volumeInTanks 2 = .ok (.iconst 0, 1) := by decide +kernel
theorem dX6_volumeInTanks_3 : decode cX6_volumeInTanks 3 = .ok (.istore_n 3, 1) := by decide +kernel
theorem dX6_volumeInTanks_4 : decode cX6_volumeInTanks 4 = .ok (.iload_n 3, 1) := by decide +kernel
theorem dX6_volumeInTanks_5 : decode cX6_volumeInTanks 5 = .ok (.aload_n 0, 1) := by decide +kernel
theorem dX6_volumeInTanks_6 : decode cX6_volumeInTanks 6 = .ok (.getfield 24, 3) := by decide +kernel
theorem dX6_volumeInTanks_9 : decode cX6_volumeInTanks 9 = .ok (.arraylength, 1) := by decide +kernel
theorem dX6_volumeInTanks_10 : decode cX6_volumeInTanks 10 = .ok (.if_icmp .ge 35, 3) := by decide +kernel
theorem dX6_volumeInTanks_13 : decode cX6_volumeInTanks 13 = .ok (.aload_n 0, 1) := by decide +kernel
theorem dX6_volumeInTanks_14 : decode cX6_volumeInTanks 14 = .ok (.getfield 24, 3) := by decide +kernel
theorem dX6_volumeInTanks_17 : decode cX6_volumeInTanks 17 = .ok (.iload_n 3, 1) := by decide +kernel
theorem dX6_volumeInTanks_18 : decode cX6_volumeInTanks 18 = .ok (.aaload, 1) := by decide +kernel
theorem dX6_volumeInTanks_19 : decode cX6_volumeInTanks 19 = .ok (.astore 4, 2) := by decide +kernel
theorem dX6_volumeInTanks_21 : decode cX6_volumeInTanks 21 = .ok (.lload_n 1, 1) := by decide +kernel
theorem dX6_volumeInTanks_22 : decode cX6_volumeInTanks 22 = .ok (.aload 4, 2) := by decide +kernel
theorem dX6_volumeInTanks_24 : decode cX6_volumeInTanks 24 = .ok (.ifnonnull 7, 3) := by decide +kernel
theorem dX6_volumeInTanks_27 : decode cX6_volumeInTanks 27 = .ok (.lconst 0, 1) := by decide +kernel
theorem dX6_volumeInTanks_28 : decode cX6_volumeInTanks 28 = .ok (.goto 9, 3) := by decide +kernel
theorem dX6_volumeInTanks_31 : decode cX6_volumeInTanks 31 = .ok (.aload 4, 2) := by decide +kernel
theorem dX6_volumeInTanks_33 : decode cX6_volumeInTanks 33 = .ok (.getfield 180, 3) := by decide +kernel
theorem dX6_volumeInTanks_36 : decode cX6_volumeInTanks 36 = .ok (.i2l, 1) := by decide +kernel
theorem dX6_volumeInTanks_37 : decode cX6_volumeInTanks 37 = .ok (.ladd, 1) := by decide +kernel
theorem dX6_volumeInTanks_38 : decode cX6_volumeInTanks 38 = .ok (.lstore_n 1, 1) := by decide +kernel
theorem dX6_volumeInTanks_39 : decode cX6_volumeInTanks 39 = .ok (.iinc 3 1, 3) := by decide +kernel
theorem dX6_volumeInTanks_42 : decode cX6_volumeInTanks 42 = .ok (.goto (-38), 3) := by decide +kernel
theorem dX6_volumeInTanks_45 : decode cX6_volumeInTanks 45 = .ok (.lload_n 1, 1) := by decide +kernel
theorem dX6_volumeInTanks_46 : decode cX6_volumeInTanks 46 = .ok (.lreturn, 1) := by decide +kernel
theorem dX6_sugarInTanks_0 : decode cX6_sugarInTanks 0 = .ok (.lconst 0, 1) := by decide +kernel
theorem dX6_sugarInTanks_1 : decode cX6_sugarInTanks 1 = .ok (.lstore_n 1, 1) := by decide +kernel
theorem dX6_sugarInTanks_2 : decode cX6_sugarInTanks 2 = .ok (.iconst 0, 1) := by decide +kernel
theorem dX6_sugarInTanks_3 : decode cX6_sugarInTanks 3 = .ok (.istore_n 3, 1) := by decide +kernel
theorem dX6_sugarInTanks_4 : decode cX6_sugarInTanks 4 = .ok (.iload_n 3, 1) := by decide +kernel
theorem dX6_sugarInTanks_5 : decode cX6_sugarInTanks 5 = .ok (.aload_n 0, 1) := by decide +kernel
theorem dX6_sugarInTanks_6 : decode cX6_sugarInTanks 6 = .ok (.getfield 24, 3) := by decide +kernel
theorem dX6_sugarInTanks_9 : decode cX6_sugarInTanks 9 = .ok (.arraylength, 1) := by decide +kernel
theorem dX6_sugarInTanks_10 : decode cX6_sugarInTanks 10 = .ok (.if_icmp .ge 35, 3) := by decide +kernel
theorem dX6_sugarInTanks_13 : decode cX6_sugarInTanks 13 = .ok (.aload_n 0, 1) := by decide +kernel
theorem dX6_sugarInTanks_14 : decode cX6_sugarInTanks 14 = .ok (.getfield 24, 3) := by decide +kernel
theorem dX6_sugarInTanks_17 : decode cX6_sugarInTanks 17 = .ok (.iload_n 3, 1) := by decide +kernel
theorem dX6_sugarInTanks_18 : decode cX6_sugarInTanks 18 = .ok (.aaload, 1) := by decide +kernel
theorem dX6_sugarInTanks_19 : decode cX6_sugarInTanks 19 = .ok (.astore 4, 2) := by decide +kernel
theorem dX6_sugarInTanks_21 : decode cX6_sugarInTanks 21 = .ok (.lload_n 1, 1) := by decide +kernel
theorem dX6_sugarInTanks_22 : decode cX6_sugarInTanks 22 = .ok (.aload 4, 2) := by decide +kernel
theorem dX6_sugarInTanks_24 : decode cX6_sugarInTanks 24 = .ok (.ifnonnull 7, 3) := by decide +kernel
theorem dX6_sugarInTanks_27 : decode cX6_sugarInTanks 27 = .ok (.lconst 0, 1) := by decide +kernel
theorem dX6_sugarInTanks_28 : decode cX6_sugarInTanks 28 = .ok (.goto 9, 3) := by decide +kernel
theorem dX6_sugarInTanks_31 : decode cX6_sugarInTanks 31 = .ok (.aload 4, 2) := by decide +kernel
theorem dX6_sugarInTanks_33 : decode cX6_sugarInTanks 33 = .ok (.getfield 183, 3) := by decide +kernel
theorem dX6_sugarInTanks_36 : decode cX6_sugarInTanks 36 = .ok (.i2l, 1) := by decide +kernel
theorem dX6_sugarInTanks_37 : decode cX6_sugarInTanks 37 = .ok (.ladd, 1) := by decide +kernel
theorem dX6_sugarInTanks_38 : decode cX6_sugarInTanks 38 = .ok (.lstore_n 1, 1) := by decide +kernel
theorem dX6_sugarInTanks_39 : decode cX6_sugarInTanks 39 = .ok (.iinc 3 1, 3) := by decide +kernel
theorem dX6_sugarInTanks_42 : decode cX6_sugarInTanks 42 = .ok (.goto (-38), 3) := by decide +kernel
theorem dX6_sugarInTanks_45 : decode cX6_sugarInTanks 45 = .ok (.lload_n 1, 1) := by decide +kernel
theorem dX6_sugarInTanks_46 : decode cX6_sugarInTanks 46 = .ok (.lreturn, 1) := by decide +kernel
theorem dX6_shareOfSugar_0 : decode cX6_shareOfSugar 0 = .ok (.iload_n 2, 1) := by decide +kernel
theorem dX6_shareOfSugar_1 : decode cX6_shareOfSugar 1 = .ok (.ifCond .le 8, 3) := by decide +kernel
theorem dX6_shareOfSugar_4 : decode cX6_shareOfSugar 4 = .ok (.iload_n 1, 1) := by decide +kernel
theorem dX6_shareOfSugar_5 : decode cX6_shareOfSugar 5 = .ok (.iload_n 2, 1) := by decide +kernel
theorem dX6_shareOfSugar_6 : decode cX6_shareOfSugar 6 = .ok (.if_icmp .lt 5, 3) := by decide +kernel
theorem dX6_shareOfSugar_9 : decode cX6_shareOfSugar 9 = .ok (.iload_n 0, 1) := by decide +kernel
theorem dX6_shareOfSugar_10 : decode cX6_shareOfSugar 10 = .ok (.ireturn, 1) := by decide +kernel
theorem dX6_shareOfSugar_11 : decode cX6_shareOfSugar 11 = .ok (.iload_n 0, 1) := by decide +kernel
theorem dX6_shareOfSugar_12 : decode cX6_shareOfSugar 12 = .ok (.i2l, 1) := by decide +kernel
theorem dX6_shareOfSugar_13 : decode cX6_shareOfSugar 13 = .ok (.iload_n 1, 1) := by decide +kernel
theorem dX6_shareOfSugar_14 : decode cX6_shareOfSugar 14 = .ok (.i2l, 1) := by decide +kernel
theorem dX6_shareOfSugar_15 : decode cX6_shareOfSugar 15 = .ok (.lmul, 1) := by decide +kernel
theorem dX6_shareOfSugar_16 : decode cX6_shareOfSugar 16 = .ok (.iload_n 2, 1) := by decide +kernel
theorem dX6_shareOfSugar_17 : decode cX6_shareOfSugar 17 = .ok (.i2l, 1) := by decide +kernel
theorem dX6_shareOfSugar_18 : decode cX6_shareOfSugar 18 = .ok (.ldiv, 1) := by decide +kernel
theorem dX6_shareOfSugar_19 : decode cX6_shareOfSugar 19 = .ok (.l2i, 1) := by decide +kernel
theorem dX6_shareOfSugar_20 : decode cX6_shareOfSugar 20 = .ok (.ireturn, 1) := by decide +kernel
theorem dX6_gradeAfter_0 : decode cX6_gradeAfter 0 = .ok (.iload_n 0, 1) := by decide +kernel
theorem dX6_gradeAfter_1 : decode cX6_gradeAfter 1 = .ok (.iconst 3, 1) := by decide +kernel
theorem dX6_gradeAfter_2 : decode cX6_gradeAfter 2 = .ok (.if_icmp .gt 6, 3) := by decide +kernel
theorem dX6_gradeAfter_5 : decode cX6_gradeAfter 5 = .ok (.bipush 103, 2) := by decide +kernel
theorem dX6_gradeAfter_7 : decode cX6_gradeAfter 7 = .ok (.ireturn, 1) := by decide +kernel
theorem dX6_gradeAfter_8 : decode cX6_gradeAfter 8 = .ok (.iload_n 0, 1) := by decide +kernel
theorem dX6_gradeAfter_9 : decode cX6_gradeAfter 9 = .ok (.bipush 8, 2) := by decide +kernel
theorem dX6_gradeAfter_11 : decode cX6_gradeAfter 11 = .ok (.if_icmp .gt 8, 3) := by decide +kernel
theorem dX6_gradeAfter_14 : decode cX6_gradeAfter 14 = .ok (.bipush 97, 2) := by decide +kernel
theorem dX6_gradeAfter_16 : decode cX6_gradeAfter 16 = .ok (.goto 5, 3) := by decide +kernel
theorem dX6_gradeAfter_19 : decode cX6_gradeAfter 19 = .ok (.bipush 100, 2) := by decide +kernel
theorem dX6_gradeAfter_21 : decode cX6_gradeAfter 21 = .ok (.ireturn, 1) := by decide +kernel
theorem dX6_isOutside_0 : decode cX6_isOutside 0 = .ok (.iload_n 0, 1) := by decide +kernel
theorem dX6_isOutside_1 : decode cX6_isOutside 1 = .ok (.iload_n 1, 1) := by decide +kernel
theorem dX6_isOutside_2 : decode cX6_isOutside 2 = .ok (.if_icmp .lt 8, 3) := by decide +kernel
theorem dX6_isOutside_5 : decode cX6_isOutside 5 = .ok (.iload_n 0, 1) := by decide +kernel
theorem dX6_isOutside_6 : decode cX6_isOutside 6 = .ok (.iload_n 2, 1) := by decide +kernel
theorem dX6_isOutside_7 : decode cX6_isOutside 7 = .ok (.if_icmp .le 7, 3) := by decide +kernel
theorem dX6_isOutside_10 : decode cX6_isOutside 10 = .ok (.iconst 1, 1) := by decide +kernel
theorem dX6_isOutside_11 : decode cX6_isOutside 11 = .ok (.goto 4, 3) := by decide +kernel
theorem dX6_isOutside_14 : decode cX6_isOutside 14 = .ok (.iconst 0, 1) := by decide +kernel
theorem dX6_isOutside_15 : decode cX6_isOutside 15 = .ok (.ireturn, 1) := by decide +kernel
theorem dX7_init_0 : decode cX7_init 0 = .ok (.aload_n 0, 1) := by decide +kernel
theorem dX7_init_1 : decode cX7_init 1 = .ok (.invokespecial 1, 3) := by decide +kernel
theorem dX7_init_4 : decode cX7_init 4 = .ok (.aload_n 0, 1) := by decide +kernel
theorem dX7_init_5 : decode cX7_init 5 = .ok (.iconst 1, 1) := by decide +kernel
theorem dX7_init_6 : decode cX7_init 6 = .ok (.putfield 7, 3) := by decide +kernel
theorem dX7_init_9 : decode cX7_init 9 = .ok (.aload_n 0, 1) := by decide +kernel
theorem dX7_init_10 : decode cX7_init 10 = .ok (.bipush 20, 2) := by decide +kernel
theorem dX7_init_12 : decode cX7_init 12 = .ok (.newarray .int, 2) := by decide +kernel
theorem dX7_init_14 : decode cX7_init 14 = .ok (.putfield 13, 3) := by decide +kernel
theorem dX7_init_17 : decode cX7_init 17 = .ok (.aload_n 0, 1) := by decide +kernel
theorem dX7_init_18 : decode cX7_init 18 = .ok (.bipush 20, 2) := by decide +kernel
theorem dX7_init_20 : decode cX7_init 20 = .ok (.newarray .int, 2) := by decide +kernel
theorem dX7_init_22 : decode cX7_init 22 = .ok (.putfield 17, 3) := by decide +kernel
theorem dX7_init_25 : decode cX7_init 25 = .ok (.aload_n 0, 1) := by decide +kernel
theorem dX7_init_26 : decode cX7_init 26 = .ok (.bipush 20, 2) := by decide +kernel
theorem dX7_init_28 : decode cX7_init 28 = .ok (.newarray .int, 2) := by decide +kernel
theorem dX7_init_30 : decode cX7_init 30 = .ok (.putfield 20, 3) := by decide +kernel
theorem dX7_init_33 : decode cX7_init 33 = .ok (.aload_n 0, 1) := by decide +kernel
theorem dX7_init_34 : decode cX7_init 34 = .ok (.bipush 20, 2) := by decide +kernel
theorem dX7_init_36 : decode cX7_init 36 = .ok (.newarray .int, 2) := by decide +kernel
theorem dX7_init_38 : decode cX7_init 38 = .ok (.putfield 23, 3) := by decide +kernel
theorem dX7_init_41 : decode cX7_init 41 = .ok (.aload_n 0, 1) := by decide +kernel
theorem dX7_init_42 : decode cX7_init 42 = .ok (.bipush 20, 2) := by decide +kernel
theorem dX7_init_44 : decode cX7_init 44 = .ok (.newarray .int, 2) := by decide +kernel
theorem dX7_init_46 : decode cX7_init 46 = .ok (.putfield 26, 3) := by decide +kernel
theorem dX7_init_49 : decode cX7_init 49 = .ok (.aload_n 0, 1) := by decide +kernel
theorem dX7_init_50 : decode cX7_init 50 = .ok (.bipush 20, 2) := by decide +kernel
theorem dX7_init_52 : decode cX7_init 52 = .ok (.newarray .int, 2) := by decide +kernel
theorem dX7_init_54 : decode cX7_init 54 = .ok (.putfield 29, 3) := by decide +kernel
theorem dX7_init_57 : decode cX7_init 57 = .ok (.aload_n 0, 1) := by decide +kernel
theorem dX7_init_58 : decode cX7_init 58 = .ok (.bipush 20, 2) := by decide +kernel
theorem dX7_init_60 : decode cX7_init 60 = .ok (.newarray .int, 2) := by decide +kernel
theorem dX7_init_62 : decode cX7_init 62 = .ok (.putfield 32, 3) := by decide +kernel
theorem dX7_init_65 : decode cX7_init 65 = .ok (.aload_n 0, 1) := by decide +kernel
theorem dX7_init_66 : decode cX7_init 66 = .ok (.bipush 20, 2) := by decide +kernel
theorem dX7_init_68 : decode cX7_init 68 = .ok (.newarray .int, 2) := by decide +kernel
theorem dX7_init_70 : decode cX7_init 70 = .ok (.putfield 35, 3) := by decide +kernel
theorem dX7_init_73 : decode cX7_init 73 = .ok (.aload_n 0, 1) := by decide +kernel
theorem dX7_init_74 : decode cX7_init 74 = .ok (.sipush 4000, 3) := by decide +kernel
theorem dX7_init_77 : decode cX7_init 77 = .ok (.newarray .int, 2) := by decide +kernel
theorem dX7_init_79 : decode cX7_init 79 = .ok (.putfield 38, 3) := by decide +kernel
theorem dX7_init_82 : decode cX7_init 82 = .ok (.aload_n 0, 1) := by decide +kernel
theorem dX7_init_83 : decode cX7_init 83 = .ok (.iconst 4, 1) := by decide +kernel
theorem dX7_init_84 : decode cX7_init 84 = .ok (.newarray .int, 2) := by decide +kernel
theorem dX7_init_86 : decode cX7_init 86 = .ok (.putfield 41, 3) := by decide +kernel
theorem dX7_init_89 : decode cX7_init 89 = .ok (.aload_n 0, 1) := by decide +kernel
theorem dX7_init_90 : decode cX7_init 90 = .ok (.iconst 4, 1) := by decide +kernel
theorem dX7_init_91 : decode cX7_init 91 = .ok (.newarray .int, 2) := by decide +kernel
theorem dX7_init_93 : decode cX7_init 93 = .ok (.putfield 44, 3) := by decide +kernel
theorem dX7_init_96 : decode cX7_init 96 = .ok (.aload_n 0, 1) := by decide +kernel
theorem dX7_init_97 : decode cX7_init 97 = .ok (.iconst 4, 1) := by decide +kernel
theorem dX7_init_98 : decode cX7_init 98 = .ok (.newarray .int, 2) := by decide +kernel
theorem dX7_init_100 : decode cX7_init 100 = .ok (.putfield 47, 3) := by decide +kernel
theorem dX7_init_103 : decode cX7_init 103 = .ok (.aload_n 0, 1) := by decide +kernel
theorem dX7_init_104 : decode cX7_init 104 = .ok (.bipush 30, 2) := by decide +kernel
theorem dX7_init_106 : decode cX7_init 106 = .ok (.newarray .int, 2) := by decide +kernel
theorem dX7_init_108 : decode cX7_init 108 = .ok (.putfield 50, 3) := by decide +kernel
theorem dX7_init_111 : decode cX7_init 111 = .ok (.aload_n 0, 1) := by decide +kernel
theorem dX7_init_112 : decode cX7_init 112 = .ok (.bipush 30, 2) := by decide +kernel
theorem dX7_init_114 : decode cX7_init 114 = .ok (.newarray .int, 2) := by decide +kernel
theorem dX7_init_116 : decode cX7_init 116 = .ok (.putfield 53, 3) := by decide +kernel
theorem dX7_init_119 : decode cX7_init 119 = .ok (.aload_n 0, 1) := by decide +kernel
theorem dX7_init_120 : decode cX7_init 120 = .ok (.bipush 30, 2) := by decide +kernel
theorem dX7_init_122 : decode cX7_init 122 = .ok (.newarray .char, 2) := by decide +kernel
theorem dX7_init_124 : decode cX7_init 124 = .ok (.putfield 56, 3) := by decide +kernel
theorem dX7_init_127 : decode cX7_init 127 = .ok (.return_, 1) := by decide +kernel
theorem dX7_thrown_0 : decode cX7_thrown 0 = .ok (.aload_n 0, 1) := by decide +kernel
theorem dX7_thrown_1 : decode cX7_thrown 1 = .ok (.getfield 60, 3) := by decide +kernel
theorem dX7_thrown_4 : decode cX7_thrown 4 = .ok (.ireturn, 1) := by decide +kernel
theorem dX7_fails_0 : decode cX7_fails 0 = .ok (.aload_n 0, 1) := by decide +kernel
theorem dX7_fails_1 : decode cX7_fails 1 = .ok (.iload_n 1, 1) := by decide +kernel
theorem dX7_fails_2 : decode cX7_fails 2 = .ok (.putfield 60, 3) := by decide +kernel
theorem dX7_fails_5 : decode cX7_fails 5 = .ok (.iload_n 1, 1) := by decide +kernel
theorem dX7_fails_6 : decode cX7_fails 6 = .ok (.ifCond .le 7, 3) := by decide +kernel
theorem dX7_fails_9 : decode cX7_fails 9 = .ok (.iconst 1, 1) := by decide +kernel
theorem dX7_fails_10 : decode cX7_fails 10 = .ok (.goto 4, 3) := by decide +kernel
theorem dX7_fails_13 : decode cX7_fails 13 = .ok (.iconst 0, 1) := by decide +kernel
theorem dX7_fails_14 : decode cX7_fails 14 = .ok (.ireturn, 1) := by decide +kernel
theorem dX7_tells_0 : decode cX7_tells 0 = .ok (.aload_n 0, 1) := by decide +kernel
theorem dX7_tells_1 : decode cX7_tells 1 = .ok (.iconst 0, 1) := by decide +kernel
theorem dX7_tells_2 : decode cX7_tells 2 = .ok (.putfield 60, 3) := by decide +kernel
theorem dX7_tells_5 : decode cX7_tells 5 = .ok (.iload_n 1, 1) := by decide +kernel
theorem dX7_tells_6 : decode cX7_tells 6 = .ok (.ireturn, 1) := by decide +kernel
theorem dX7_tellsLong_0 : decode cX7_tellsLong 0 = .ok (.aload_n 0, 1) := by decide +kernel
theorem dX7_tellsLong_1 : decode cX7_tellsLong 1 = .ok (.iconst 0, 1) := by decide +kernel
theorem dX7_tellsLong_2 : decode cX7_tellsLong 2 = .ok (.putfield 60, 3) := by decide +kernel
theorem dX7_tellsLong_5 : decode cX7_tellsLong 5 = .ok (.lload_n 1, 1) := by decide +kernel
theorem dX7_tellsLong_6 : decode cX7_tellsLong 6 = .ok (.lreturn, 1) := by decide +kernel
theorem dX7_in_0 : decode cX7_in 0 = .ok (.iload_n 0, 1) := by decide +kernel
theorem dX7_in_1 : decode cX7_in 1 = .ok (.iload_n 1, 1) := by decide +kernel
theorem dX7_in_2 : decode cX7_in 2 = .ok (.if_icmp .lt 12, 3) := by decide +kernel
theorem dX7_in_5 : decode cX7_in 5 = .ok (.iload_n 0, 1) := by decide +kernel
theorem dX7_in_6 : decode cX7_in 6 = .ok (.iload_n 2, 1) := by decide +kernel
theorem dX7_in_7 : decode cX7_in 7 = .ok (.if_icmp .gt 7, 3) := by decide +kernel
theorem dX7_in_10 : decode cX7_in 10 = .ok (.iconst 1, 1) := by decide +kernel
theorem dX7_in_11 : decode cX7_in 11 = .ok (.goto 4, 3) := by decide +kernel
theorem dX7_in_14 : decode cX7_in 14 = .ok (.iconst 0, 1) := by decide +kernel
theorem dX7_in_15 : decode cX7_in 15 = .ok (.ireturn, 1) := by decide +kernel
theorem dX7_lesser_0 : decode cX7_lesser 0 = .ok (.iload_n 0, 1) := by decide +kernel
theorem dX7_lesser_1 : decode cX7_lesser 1 = .ok (.iload_n 1, 1) := by decide +kernel
theorem dX7_lesser_2 : decode cX7_lesser 2 = .ok (.if_icmp .ge 7, 3) := by decide +kernel
theorem dX7_lesser_5 : decode cX7_lesser 5 = .ok (.iload_n 0, 1) := by decide +kernel
theorem dX7_lesser_6 : decode cX7_lesser 6 = .ok (.goto 4, 3) := by decide +kernel
theorem dX7_lesser_9 : decode cX7_lesser 9 = .ok (.iload_n 1, 1) := by decide +kernel
theorem dX7_lesser_10 : decode cX7_lesser 10 = .ok (.ireturn, 1) := by decide +kernel
theorem dX7_above_0 : decode cX7_above 0 = .ok (.iload_n 0, 1) := by decide +kernel
theorem dX7_above_1 : decode cX7_above 1 = .ok (.ifCond .le 7, 3) := by decide +kernel
theorem dX7_above_4 : decode cX7_above 4 = .ok (.iload_n 0, 1) := by decide +kernel
theorem dX7_above_5 : decode cX7_above 5 = .ok (.goto 4, 3) := by decide +kernel
theorem dX7_above_8 : decode cX7_above 8 = .ok (.iconst 0, 1) := by decide +kernel
theorem dX7_above_9 : decode cX7_above 9 = .ok (.ireturn, 1) := by decide +kernel
theorem dX7_isNone_0 : decode cX7_isNone 0 = .ok (.iload_n 1, 1) := by decide +kernel
theorem dX7_isNone_1 : decode cX7_isNone 1 = .ok (.iconst 0, 1) := by decide +kernel
theorem dX7_isNone_2 : decode cX7_isNone 2 = .ok (.aload_n 0, 1) := by decide +kernel
theorem dX7_isNone_3 : decode cX7_isNone 3 = .ok (.getfield 7, 3) := by decide +kernel
theorem dX7_isNone_6 : decode cX7_isNone 6 = .ok (.iconst 1, 1) := by decide +kernel
theorem dX7_isNone_7 : decode cX7_isNone 7 = .ok (.isub, 1) := by decide +kernel
theorem dX7_isNone_8 : decode cX7_isNone 8 = .ok (.invokestatic 63, 3) := by decide +kernel
theorem dX7_isNone_11 : decode cX7_isNone 11 = .ok (.ifCond .ne 7, 3) := by decide +kernel
theorem dX7_isNone_14 : decode cX7_isNone 14 = .ok (.iconst 1, 1) := by decide +kernel
theorem dX7_isNone_15 : decode cX7_isNone 15 = .ok (.goto 4, 3) := by decide +kernel
theorem dX7_isNone_18 : decode cX7_isNone 18 = .ok (.iconst 0, 1) := by decide +kernel
theorem dX7_isNone_19 : decode cX7_isNone 19 = .ok (.ireturn, 1) := by decide +kernel
theorem dX7_adds_0 : decode cX7_adds 0 = .ok (.aload_n 0, 1) := by decide +kernel
theorem dX7_adds_1 : decode cX7_adds 1 = .ok (.getfield 13, 3) := by decide +kernel
theorem dX7_adds_4 : decode cX7_adds 4 = .ok (.aload_n 0, 1) := by decide +kernel
theorem dX7_adds_5 : decode cX7_adds 5 = .ok (.getfield 7, 3) := by decide +kernel
theorem dX7_adds_8 : decode cX7_adds 8 = .ok (.iload_n 1, 1) := by decide +kernel
theorem dX7_adds_9 : decode cX7_adds 9 = .ok (.iastore, 1) := by decide +kernel
theorem dX7_adds_10 : decode cX7_adds 10 = .ok (.aload_n 0, 1) := by decide +kernel
theorem dX7_adds_11 : decode cX7_adds 11 = .ok (.getfield 17, 3) := by decide +kernel
theorem dX7_adds_14 : decode cX7_adds 14 = .ok (.aload_n 0, 1) := by decide +kernel
theorem dX7_adds_15 : decode cX7_adds 15 = .ok (.getfield 7, 3) := by decide +kernel
theorem dX7_adds_18 : decode cX7_adds 18 = .ok (.iload_n 2, 1) := by decide +kernel
theorem dX7_adds_19 : decode cX7_adds 19 = .ok (.iastore, 1) := by decide +kernel
theorem dX7_adds_20 : decode cX7_adds 20 = .ok (.aload_n 0, 1) := by decide +kernel
theorem dX7_adds_21 : decode cX7_adds 21 = .ok (.getfield 20, 3) := by decide +kernel
theorem dX7_adds_24 : decode cX7_adds 24 = .ok (.aload_n 0, 1) := by decide +kernel
theorem dX7_adds_25 : decode cX7_adds 25 = .ok (.getfield 7, 3) := by decide +kernel
theorem dX7_adds_28 : decode cX7_adds 28 = .ok (.iload_n 3, 1) := by decide +kernel
theorem dX7_adds_29 : decode cX7_adds 29 = .ok (.iastore, 1) := by decide +kernel
theorem dX7_adds_30 : decode cX7_adds 30 = .ok (.aload_n 0, 1) := by decide +kernel
theorem dX7_adds_31 : decode cX7_adds 31 = .ok (.dup, 1) := by decide +kernel
theorem dX7_adds_32 : decode cX7_adds 32 = .ok (.getfield 7, 3) := by decide +kernel
theorem dX7_adds_35 : decode cX7_adds 35 = .ok (.iconst 1, 1) := by decide +kernel
theorem dX7_adds_36 : decode cX7_adds 36 = .ok (.iadd, 1) := by decide +kernel
theorem dX7_adds_37 : decode cX7_adds 37 = .ok (.putfield 7, 3) := by decide +kernel
theorem dX7_adds_40 : decode cX7_adds 40 = .ok (.aload_n 0, 1) := by decide +kernel
theorem dX7_adds_41 : decode cX7_adds 41 = .ok (.getfield 7, 3) := by decide +kernel
theorem dX7_adds_44 : decode cX7_adds 44 = .ok (.iconst 1, 1) := by decide +kernel
theorem dX7_adds_45 : decode cX7_adds 45 = .ok (.isub, 1) := by decide +kernel
theorem dX7_adds_46 : decode cX7_adds 46 = .ok (.ireturn, 1) := by decide +kernel
theorem dX7_cannotAdd_0 : decode cX7_cannotAdd 0 = .ok (.aload_n 0, 1) := by decide +kernel
theorem dX7_cannotAdd_1 : decode cX7_cannotAdd 1 = .ok (.aload_n 0, 1) := by decide +kernel
theorem dX7_cannotAdd_2 : decode cX7_cannotAdd 2 = .ok (.iload_n 1, 1) := by decide +kernel
theorem dX7_cannotAdd_3 : decode cX7_cannotAdd 3 = .ok (.invokevirtual 67, 3) := by decide +kernel
theorem dX7_cannotAdd_6 : decode cX7_cannotAdd 6 = .ok (.ifCond .eq 7, 3) := by decide +kernel
theorem dX7_cannotAdd_9 : decode cX7_cannotAdd 9 = .ok (.iconst 1, 1) := by decide +kernel
theorem dX7_cannotAdd_10 : decode cX7_cannotAdd 10 = .ok (.goto 39, 3) := by decide +kernel
theorem dX7_cannotAdd_13 : decode cX7_cannotAdd 13 = .ok (.iload_n 2, 1) := by decide +kernel
theorem dX7_cannotAdd_14 : decode cX7_cannotAdd 14 = .ok (.ifCond .ne 7, 3) := by decide +kernel
theorem dX7_cannotAdd_17 : decode cX7_cannotAdd 17 = .ok (.iconst 2, 1) := by decide +kernel
theorem dX7_cannotAdd_18 : decode cX7_cannotAdd 18 = .ok (.goto 31, 3) := by decide +kernel
theorem dX7_cannotAdd_21 : decode cX7_cannotAdd 21 = .ok (.aload_n 0, 1) := by decide +kernel
theorem dX7_cannotAdd_22 : decode cX7_cannotAdd 22 = .ok (.getfield 13, 3) := by decide +kernel
theorem dX7_cannotAdd_25 : decode cX7_cannotAdd 25 = .ok (.iload_n 1, 1) := by decide +kernel
theorem dX7_cannotAdd_26 : decode cX7_cannotAdd 26 = .ok (.iaload, 1) := by decide +kernel
theorem dX7_cannotAdd_27 : decode cX7_cannotAdd 27 = .ok (.iconst 2, 1) := by decide +kernel
theorem dX7_cannotAdd_28 : decode cX7_cannotAdd 28 = .ok (.if_icmp .ne 7, 3) := by decide +kernel
theorem dX7_cannotAdd_31 : decode cX7_cannotAdd 31 = .ok (.iconst 3, 1) := by decide +kernel
theorem dX7_cannotAdd_32 : decode cX7_cannotAdd 32 = .ok (.goto 17, 3) := by decide +kernel
theorem dX7_cannotAdd_35 : decode cX7_cannotAdd 35 = .ok (.aload_n 0, 1) := by decide +kernel
theorem dX7_cannotAdd_36 : decode cX7_cannotAdd 36 = .ok (.getfield 7, 3) := by decide +kernel
theorem dX7_cannotAdd_39 : decode cX7_cannotAdd 39 = .ok (.bipush 20, 2) := by decide +kernel
theorem dX7_cannotAdd_41 : decode cX7_cannotAdd 41 = .ok (.if_icmp .ne 7, 3) := by decide +kernel
theorem dX7_cannotAdd_44 : decode cX7_cannotAdd 44 = .ok (.iconst 4, 1) := by decide +kernel
theorem dX7_cannotAdd_45 : decode cX7_cannotAdd 45 = .ok (.goto 4, 3) := by decide +kernel
theorem dX7_cannotAdd_48 : decode cX7_cannotAdd 48 = .ok (.iconst 0, 1) := by decide +kernel
theorem dX7_cannotAdd_49 : decode cX7_cannotAdd 49 = .ok (.invokevirtual 71, 3) := by decide +kernel
theorem dX7_cannotAdd_52 : decode cX7_cannotAdd 52 = .ok (.ireturn, 1) := by decide +kernel
theorem dX7_addJunction_0 : decode cX7_addJunction 0 = .ok (.aload_n 0, 1) := by decide +kernel
theorem dX7_addJunction_1 : decode cX7_addJunction 1 = .ok (.iload_n 1, 1) := by decide +kernel
theorem dX7_addJunction_2 : decode cX7_addJunction 2 = .ok (.iload_n 2, 1) := by decide +kernel
theorem dX7_addJunction_3 : decode cX7_addJunction 3 = .ok (.iconst 0, 1) := by decide +kernel
theorem dX7_addJunction_4 : decode cX7_addJunction 4 = .ok (.bipush 20, 2) := by decide +kernel
theorem dX7_addJunction_6 : decode cX7_addJunction 6 = .ok (.invokestatic 63, 3) := by decide +kernel
theorem dX7_addJunction_9 : decode cX7_addJunction 9 = .ok (.invokevirtual 74, 3) := by decide +kernel
theorem dX7_addJunction_12 : decode cX7_addJunction 12 = .ok (.ifCond .eq 7, 3) := by decide +kernel
theorem dX7_addJunction_15 : decode cX7_addJunction 15 = .ok (.iconst 0, 1) := by decide +kernel
theorem dX7_addJunction_16 : decode cX7_addJunction 16 = .ok (.goto 10, 3) := by decide +kernel
theorem dX7_addJunction_19 : decode cX7_addJunction 19 = .ok (.aload_n 0, 1) := by decide +kernel
theorem dX7_addJunction_20 : decode cX7_addJunction 20 = .ok (.iconst 1, 1) := by decide +kernel
theorem dX7_addJunction_21 : decode cX7_addJunction 21 = .ok (.iload_n 1, 1) := by decide +kernel
theorem dX7_addJunction_22 : decode cX7_addJunction 22 = .ok (.iload_n 2, 1) := by decide +kernel
theorem dX7_addJunction_23 : decode cX7_addJunction 23 = .ok (.invokevirtual 78, 3) := by decide +kernel
theorem dX7_addJunction_26 : decode cX7_addJunction 26 = .ok (.ireturn, 1) := by decide +kernel
theorem dX7_addTap_0 : decode cX7_addTap 0 = .ok (.aload_n 0, 1) := by decide +kernel
theorem dX7_addTap_1 : decode cX7_addTap 1 = .ok (.iload_n 1, 1) := by decide +kernel
theorem dX7_addTap_2 : decode cX7_addTap 2 = .ok (.iload_n 2, 1) := by decide +kernel
theorem dX7_addTap_3 : decode cX7_addTap 3 = .ok (.iconst 0, 1) := by decide +kernel
theorem dX7_addTap_4 : decode cX7_addTap 4 = .ok (.bipush 20, 2) := by decide +kernel
theorem dX7_addTap_6 : decode cX7_addTap 6 = .ok (.invokestatic 63, 3) := by decide +kernel
theorem dX7_addTap_9 : decode cX7_addTap 9 = .ok (.ifCond .eq 38, 3) := by decide +kernel
theorem dX7_addTap_12 : decode cX7_addTap 12 = .ok (.iload_n 3, 1) := by decide +kernel
theorem dX7_addTap_13 : decode cX7_addTap 13 = .ok (.iconst 1, 1) := by decide +kernel
theorem dX7_addTap_14 : decode cX7_addTap 14 = .ok (.bipush 20, 2) := by decide +kernel
theorem dX7_addTap_16 : decode cX7_addTap 16 = .ok (.invokestatic 63, 3) := by decide +kernel
theorem dX7_addTap_19 : decode cX7_addTap 19 = .ok (.ifCond .eq 28, 3) := by decide +kernel
theorem dX7_addTap_22 : decode cX7_addTap 22 = .ok (.iload 4, 2) := by decide +kernel
theorem dX7_addTap_24 : decode cX7_addTap 24 = .ok (.iconst 1, 1) := by decide +kernel
theorem dX7_addTap_25 : decode cX7_addTap 25 = .ok (.bipush 6, 2) := by decide +kernel
theorem dX7_addTap_27 : decode cX7_addTap 27 = .ok (.invokestatic 63, 3) := by decide +kernel
theorem dX7_addTap_30 : decode cX7_addTap 30 = .ok (.ifCond .eq 17, 3) := by decide +kernel
theorem dX7_addTap_33 : decode cX7_addTap 33 = .ok (.iload 5, 2) := by decide +kernel
theorem dX7_addTap_35 : decode cX7_addTap 35 = .ok (.iconst 0, 1) := by decide +kernel
theorem dX7_addTap_36 : decode cX7_addTap 36 = .ok (.iconst 5, 1) := by decide +kernel
theorem dX7_addTap_37 : decode cX7_addTap 37 = .ok (.invokestatic 63, 3) := by decide +kernel
theorem dX7_addTap_40 : decode cX7_addTap 40 = .ok (.ifCond .eq 7, 3) := by decide +kernel
theorem dX7_addTap_43 : decode cX7_addTap 43 = .ok (.iconst 1, 1) := by decide +kernel
theorem dX7_addTap_44 : decode cX7_addTap 44 = .ok (.goto 4, 3) := by decide +kernel
theorem dX7_addTap_47 : decode cX7_addTap 47 = .ok (.iconst 0, 1) := by decide +kernel
theorem dX7_addTap_48 : decode cX7_addTap 48 = .ok (.invokevirtual 74, 3) := by decide +kernel
theorem dX7_addTap_51 : decode cX7_addTap 51 = .ok (.ifCond .eq 5, 3) := by decide +kernel
theorem dX7_addTap_54 : decode cX7_addTap 54 = .ok (.iconst 0, 1) := by decide +kernel
theorem dX7_addTap_55 : decode cX7_addTap 55 = .ok (.ireturn, 1) := by decide +kernel
theorem dX7_addTap_56 : decode cX7_addTap 56 = .ok (.aload_n 0, 1) := by decide +kernel
theorem dX7_addTap_57 : decode cX7_addTap 57 = .ok (.getfield 23, 3) := by decide +kernel
theorem dX7_addTap_60 : decode cX7_addTap 60 = .ok (.aload_n 0, 1) := by decide +kernel
theorem dX7_addTap_61 : decode cX7_addTap 61 = .ok (.getfield 7, 3) := by decide +kernel
theorem dX7_addTap_64 : decode cX7_addTap 64 = .ok (.iload_n 3, 1) := by decide +kernel
theorem dX7_addTap_65 : decode cX7_addTap 65 = .ok (.iastore, 1) := by decide +kernel
theorem dX7_addTap_66 : decode cX7_addTap 66 = .ok (.aload_n 0, 1) := by decide +kernel
theorem dX7_addTap_67 : decode cX7_addTap 67 = .ok (.getfield 26, 3) := by decide +kernel
theorem dX7_addTap_70 : decode cX7_addTap 70 = .ok (.aload_n 0, 1) := by decide +kernel
theorem dX7_addTap_71 : decode cX7_addTap 71 = .ok (.getfield 7, 3) := by decide +kernel
theorem dX7_addTap_74 : decode cX7_addTap 74 = .ok (.iload 4, 2) := by decide +kernel
theorem dX7_addTap_76 : decode cX7_addTap 76 = .ok (.iastore, 1) := by decide +kernel
theorem dX7_addTap_77 : decode cX7_addTap 77 = .ok (.aload_n 0, 1) := by decide +kernel
theorem dX7_addTap_78 : decode cX7_addTap 78 = .ok (.getfield 29, 3) := by decide +kernel
theorem dX7_addTap_81 : decode cX7_addTap 81 = .ok (.aload_n 0, 1) := by decide +kernel
theorem dX7_addTap_82 : decode cX7_addTap 82 = .ok (.getfield 7, 3) := by decide +kernel
theorem dX7_addTap_85 : decode cX7_addTap 85 = .ok (.iload 5, 2) := by decide +kernel
theorem dX7_addTap_87 : decode cX7_addTap 87 = .ok (.iastore, 1) := by decide +kernel
theorem dX7_addTap_88 : decode cX7_addTap 88 = .ok (.aload_n 0, 1) := by decide +kernel
theorem dX7_addTap_89 : decode cX7_addTap 89 = .ok (.iconst 2, 1) := by decide +kernel
theorem dX7_addTap_90 : decode cX7_addTap 90 = .ok (.iload_n 1, 1) := by decide +kernel
theorem dX7_addTap_91 : decode cX7_addTap 91 = .ok (.iload_n 2, 1) := by decide +kernel
theorem dX7_addTap_92 : decode cX7_addTap 92 = .ok (.invokevirtual 78, 3) := by decide +kernel
theorem dX7_addTap_95 : decode cX7_addTap 95 = .ok (.ireturn, 1) := by decide +kernel
theorem dX7_setPump_0 : decode cX7_setPump 0 = .ok (.aload_n 0, 1) := by decide +kernel
theorem dX7_setPump_1 : decode cX7_setPump 1 = .ok (.iload_n 1, 1) := by decide +kernel
theorem dX7_setPump_2 : decode cX7_setPump 2 = .ok (.iconst 0, 1) := by decide +kernel
theorem dX7_setPump_3 : decode cX7_setPump 3 = .ok (.bipush 99, 2) := by decide +kernel
theorem dX7_setPump_5 : decode cX7_setPump 5 = .ok (.invokestatic 63, 3) := by decide +kernel
theorem dX7_setPump_8 : decode cX7_setPump 8 = .ok (.ifCond .eq 7, 3) := by decide +kernel
theorem dX7_setPump_11 : decode cX7_setPump 11 = .ok (.iconst 0, 1) := by decide +kernel
theorem dX7_setPump_12 : decode cX7_setPump 12 = .ok (.goto 4, 3) := by decide +kernel
theorem dX7_setPump_15 : decode cX7_setPump 15 = .ok (.iconst 1, 1) := by decide +kernel
theorem dX7_setPump_16 : decode cX7_setPump 16 = .ok (.invokevirtual 71, 3) := by decide +kernel
theorem dX7_setPump_19 : decode cX7_setPump 19 = .ok (.ifCond .eq 5, 3) := by decide +kernel
theorem dX7_setPump_22 : decode cX7_setPump 22 = .ok (.iconst 0, 1) := by decide +kernel
theorem dX7_setPump_23 : decode cX7_setPump 23 = .ok (.ireturn, 1) := by decide +kernel
theorem dX7_setPump_24 : decode cX7_setPump 24 = .ok (.aload_n 0, 1) := by decide +kernel
theorem dX7_setPump_25 : decode cX7_setPump 25 = .ok (.getfield 82, 3) := by decide +kernel
theorem dX7_setPump_28 : decode cX7_setPump 28 = .ok (.istore_n 2, 1) := by decide +kernel
theorem dX7_setPump_29 : decode cX7_setPump 29 = .ok (.aload_n 0, 1) := by decide +kernel
theorem dX7_setPump_30 : decode cX7_setPump 30 = .ok (.iload_n 1, 1) := by decide +kernel
theorem dX7_setPump_31 : decode cX7_setPump 31 = .ok (.putfield 82, 3) := by decide +kernel
theorem dX7_setPump_34 : decode cX7_setPump 34 = .ok (.iload_n 2, 1) := by decide +kernel
theorem dX7_setPump_35 : decode cX7_setPump 35 = .ok (.ireturn, 1) := by decide +kernel
theorem dX7_addLeak_0 : decode cX7_addLeak 0 = .ok (.aload_n 0, 1) := by decide +kernel
theorem dX7_addLeak_1 : decode cX7_addLeak 1 = .ok (.aload_n 0, 1) := by decide +kernel
theorem dX7_addLeak_2 : decode cX7_addLeak 2 = .ok (.iload_n 1, 1) := by decide +kernel
theorem dX7_addLeak_3 : decode cX7_addLeak 3 = .ok (.invokevirtual 67, 3) := by decide +kernel
theorem dX7_addLeak_6 : decode cX7_addLeak 6 = .ok (.ifCond .eq 7, 3) := by decide +kernel
theorem dX7_addLeak_9 : decode cX7_addLeak 9 = .ok (.iconst 1, 1) := by decide +kernel
theorem dX7_addLeak_10 : decode cX7_addLeak 10 = .ok (.goto 18, 3) := by decide +kernel
theorem dX7_addLeak_13 : decode cX7_addLeak 13 = .ok (.iload_n 2, 1) := by decide +kernel
theorem dX7_addLeak_14 : decode cX7_addLeak 14 = .ok (.iconst 1, 1) := by decide +kernel
theorem dX7_addLeak_15 : decode cX7_addLeak 15 = .ok (.bipush 30, 2) := by decide +kernel
theorem dX7_addLeak_17 : decode cX7_addLeak 17 = .ok (.invokestatic 63, 3) := by decide +kernel
theorem dX7_addLeak_20 : decode cX7_addLeak 20 = .ok (.ifCond .eq 7, 3) := by decide +kernel
theorem dX7_addLeak_23 : decode cX7_addLeak 23 = .ok (.iconst 0, 1) := by decide +kernel
theorem dX7_addLeak_24 : decode cX7_addLeak 24 = .ok (.goto 4, 3) := by decide +kernel
theorem dX7_addLeak_27 : decode cX7_addLeak 27 = .ok (.iconst 2, 1) := by decide +kernel
theorem dX7_addLeak_28 : decode cX7_addLeak 28 = .ok (.invokevirtual 71, 3) := by decide +kernel
theorem dX7_addLeak_31 : decode cX7_addLeak 31 = .ok (.ifCond .eq 5, 3) := by decide +kernel
theorem dX7_addLeak_34 : decode cX7_addLeak 34 = .ok (.iconst 0, 1) := by decide +kernel
theorem dX7_addLeak_35 : decode cX7_addLeak 35 = .ok (.ireturn, 1) := by decide +kernel
theorem dX7_addLeak_36 : decode cX7_addLeak 36 = .ok (.aload_n 0, 1) := by decide +kernel
theorem dX7_addLeak_37 : decode cX7_addLeak 37 = .ok (.getfield 35, 3) := by decide +kernel
theorem dX7_addLeak_40 : decode cX7_addLeak 40 = .ok (.iload_n 1, 1) := by decide +kernel
theorem dX7_addLeak_41 : decode cX7_addLeak 41 = .ok (.iaload, 1) := by decide +kernel
theorem dX7_addLeak_42 : decode cX7_addLeak 42 = .ok (.istore_n 3, 1) := by decide +kernel
theorem dX7_addLeak_43 : decode cX7_addLeak 43 = .ok (.aload_n 0, 1) := by decide +kernel
theorem dX7_addLeak_44 : decode cX7_addLeak 44 = .ok (.getfield 35, 3) := by decide +kernel
theorem dX7_addLeak_47 : decode cX7_addLeak 47 = .ok (.iload_n 1, 1) := by decide +kernel
theorem dX7_addLeak_48 : decode cX7_addLeak 48 = .ok (.iload_n 2, 1) := by decide +kernel
theorem dX7_addLeak_49 : decode cX7_addLeak 49 = .ok (.iastore, 1) := by decide +kernel
theorem dX7_addLeak_50 : decode cX7_addLeak 50 = .ok (.iload_n 3, 1) := by decide +kernel
theorem dX7_addLeak_51 : decode cX7_addLeak 51 = .ok (.ireturn, 1) := by decide +kernel
theorem dX7_repair_0 : decode cX7_repair 0 = .ok (.aload_n 0, 1) := by decide +kernel
theorem dX7_repair_1 : decode cX7_repair 1 = .ok (.aload_n 0, 1) := by decide +kernel
theorem dX7_repair_2 : decode cX7_repair 2 = .ok (.iload_n 1, 1) := by decide +kernel
theorem dX7_repair_3 : decode cX7_repair 3 = .ok (.invokevirtual 67, 3) := by decide +kernel
theorem dX7_repair_6 : decode cX7_repair 6 = .ok (.ifCond .eq 7, 3) := by decide +kernel
theorem dX7_repair_9 : decode cX7_repair 9 = .ok (.iconst 1, 1) := by decide +kernel
theorem dX7_repair_10 : decode cX7_repair 10 = .ok (.goto 17, 3) := by decide +kernel
theorem dX7_repair_13 : decode cX7_repair 13 = .ok (.aload_n 0, 1) := by decide +kernel
theorem dX7_repair_14 : decode cX7_repair 14 = .ok (.getfield 35, 3) := by decide +kernel
theorem dX7_repair_17 : decode cX7_repair 17 = .ok (.iload_n 1, 1) := by decide +kernel
theorem dX7_repair_18 : decode cX7_repair 18 = .ok (.iaload, 1) := by decide +kernel
theorem dX7_repair_19 : decode cX7_repair 19 = .ok (.ifCond .ne 7, 3) := by decide +kernel
theorem dX7_repair_22 : decode cX7_repair 22 = .ok (.iconst 2, 1) := by decide +kernel
theorem dX7_repair_23 : decode cX7_repair 23 = .ok (.goto 4, 3) := by decide +kernel
theorem dX7_repair_26 : decode cX7_repair 26 = .ok (.iconst 0, 1) := by decide +kernel
theorem dX7_repair_27 : decode cX7_repair 27 = .ok (.invokevirtual 71, 3) := by decide +kernel
theorem dX7_repair_30 : decode cX7_repair 30 = .ok (.ifCond .eq 5, 3) := by decide +kernel
theorem dX7_repair_33 : decode cX7_repair 33 = .ok (.iconst 0, 1) := by decide +kernel
theorem dX7_repair_34 : decode cX7_repair 34 = .ok (.ireturn, 1) := by decide +kernel
theorem dX7_repair_35 : decode cX7_repair 35 = .ok (.aload_n 0, 1) := by decide +kernel
theorem dX7_repair_36 : decode cX7_repair 36 = .ok (.getfield 35, 3) := by decide +kernel
theorem dX7_repair_39 : decode cX7_repair 39 = .ok (.iload_n 1, 1) := by decide +kernel
theorem dX7_repair_40 : decode cX7_repair 40 = .ok (.iaload, 1) := by decide +kernel
theorem dX7_repair_41 : decode cX7_repair 41 = .ok (.istore_n 2, 1) := by decide +kernel
theorem dX7_repair_42 : decode cX7_repair 42 = .ok (.aload_n 0, 1) := by decide +kernel
theorem dX7_repair_43 : decode cX7_repair 43 = .ok (.getfield 35, 3) := by decide +kernel
theorem dX7_repair_46 : decode cX7_repair 46 = .ok (.iload_n 1, 1) := by decide +kernel
theorem dX7_repair_47 : decode cX7_repair 47 = .ok (.iconst 0, 1) := by decide +kernel
theorem dX7_repair_48 : decode cX7_repair 48 = .ok (.iastore, 1) := by decide +kernel
theorem dX7_repair_49 : decode cX7_repair 49 = .ok (.iload_n 2, 1) := by decide +kernel
theorem dX7_repair_50 : decode cX7_repair 50 = .ok (.ireturn, 1) := by decide +kernel
theorem dX7_nodes_0 : decode cX7_nodes 0 = .ok (.aload_n 0, 1) := by decide +kernel
theorem dX7_nodes_1 : decode cX7_nodes 1 = .ok (.aload_n 0, 1) := by decide +kernel
theorem dX7_nodes_2 : decode cX7_nodes 2 = .ok (.getfield 7, 3) := by decide +kernel
theorem dX7_nodes_5 : decode cX7_nodes 5 = .ok (.invokevirtual 85, 3) := by decide +kernel
theorem dX7_nodes_8 : decode cX7_nodes 8 = .ok (.ireturn, 1) := by decide +kernel
theorem dX7_sucked_0 : decode cX7_sucked 0 = .ok (.iload_n 1, 1) := by decide +kernel
theorem dX7_sucked_1 : decode cX7_sucked 1 = .ok (.ifCond .eq 31, 3) := by decide +kernel
theorem dX7_sucked_4 : decode cX7_sucked 4 = .ok (.aload_n 0, 1) := by decide +kernel
theorem dX7_sucked_5 : decode cX7_sucked 5 = .ok (.aload_n 0, 1) := by decide +kernel
theorem dX7_sucked_6 : decode cX7_sucked 6 = .ok (.getfield 17, 3) := by decide +kernel
theorem dX7_sucked_9 : decode cX7_sucked 9 = .ok (.iload_n 1, 1) := by decide +kernel
theorem dX7_sucked_10 : decode cX7_sucked 10 = .ok (.iaload, 1) := by decide +kernel
theorem dX7_sucked_11 : decode cX7_sucked 11 = .ok (.invokevirtual 89, 3) := by decide +kernel
theorem dX7_sucked_14 : decode cX7_sucked 14 = .ok (.aload_n 0, 1) := by decide +kernel
theorem dX7_sucked_15 : decode cX7_sucked 15 = .ok (.getfield 20, 3) := by decide +kernel
theorem dX7_sucked_18 : decode cX7_sucked 18 = .ok (.iload_n 1, 1) := by decide +kernel
theorem dX7_sucked_19 : decode cX7_sucked 19 = .ok (.iaload, 1) := by decide +kernel
theorem dX7_sucked_20 : decode cX7_sucked 20 = .ok (.isub, 1) := by decide +kernel
theorem dX7_sucked_21 : decode cX7_sucked 21 = .ok (.aload_n 0, 1) := by decide +kernel
theorem dX7_sucked_22 : decode cX7_sucked 22 = .ok (.getfield 35, 3) := by decide +kernel
theorem dX7_sucked_25 : decode cX7_sucked 25 = .ok (.iload_n 1, 1) := by decide +kernel
theorem dX7_sucked_26 : decode cX7_sucked 26 = .ok (.iaload, 1) := by decide +kernel
theorem dX7_sucked_27 : decode cX7_sucked 27 = .ok (.isub, 1) := by decide +kernel
theorem dX7_sucked_28 : decode cX7_sucked 28 = .ok (.invokestatic 92, 3) := by decide +kernel
theorem dX7_sucked_31 : decode cX7_sucked 31 = .ok (.ireturn, 1) := by decide +kernel
theorem dX7_sucked_32 : decode cX7_sucked 32 = .ok (.aload_n 0, 1) := by decide +kernel
theorem dX7_sucked_33 : decode cX7_sucked 33 = .ok (.getfield 82, 3) := by decide +kernel
theorem dX7_sucked_36 : decode cX7_sucked 36 = .ok (.aload_n 0, 1) := by decide +kernel
theorem dX7_sucked_37 : decode cX7_sucked 37 = .ok (.getfield 35, 3) := by decide +kernel
theorem dX7_sucked_40 : decode cX7_sucked 40 = .ok (.iconst 0, 1) := by decide +kernel
theorem dX7_sucked_41 : decode cX7_sucked 41 = .ok (.iaload, 1) := by decide +kernel
theorem dX7_sucked_42 : decode cX7_sucked 42 = .ok (.isub, 1) := by decide +kernel
theorem dX7_sucked_43 : decode cX7_sucked 43 = .ok (.istore_n 2, 1) := by decide +kernel
theorem dX7_sucked_44 : decode cX7_sucked 44 = .ok (.iconst 0, 1) := by decide +kernel
theorem dX7_sucked_45 : decode cX7_sucked 45 = .ok (.istore_n 3, 1) := by decide +kernel
theorem dX7_sucked_46 : decode cX7_sucked 46 = .ok (.iload_n 3, 1) := by decide +kernel
theorem dX7_sucked_47 : decode cX7_sucked 47 = .ok (.aload_n 0, 1) := by decide +kernel
theorem dX7_sucked_48 : decode cX7_sucked 48 = .ok (.getfield 7, 3) := by decide +kernel
theorem dX7_sucked_51 : decode cX7_sucked 51 = .ok (.if_icmp .ge 18, 3) := by decide +kernel
theorem dX7_sucked_54 : decode cX7_sucked 54 = .ok (.iload_n 2, 1) := by decide +kernel
theorem dX7_sucked_55 : decode cX7_sucked 55 = .ok (.aload_n 0, 1) := by decide +kernel
theorem dX7_sucked_56 : decode cX7_sucked 56 = .ok (.getfield 35, 3) := by decide +kernel
theorem dX7_sucked_59 : decode cX7_sucked 59 = .ok (.iload_n 3, 1) := by decide +kernel
theorem dX7_sucked_60 : decode cX7_sucked 60 = .ok (.iaload, 1) := by decide +kernel
theorem dX7_sucked_61 : decode cX7_sucked 61 = .ok (.isub, 1) := by decide +kernel
theorem dX7_sucked_62 : decode cX7_sucked 62 = .ok (.istore_n 2, 1) := by decide +kernel
theorem dX7_sucked_63 : decode cX7_sucked 63 = .ok (.iinc 3 1, 3) := by decide +kernel
theorem dX7_sucked_66 : decode cX7_sucked 66 = .ok (.goto (-20), 3) := by decide +kernel
theorem dX7_sucked_69 : decode cX7_sucked 69 = .ok (.iload_n 2, 1) := by decide +kernel
theorem dX7_sucked_70 : decode cX7_sucked 70 = .ok (.invokestatic 92, 3) := by decide +kernel
theorem dX7_sucked_73 : decode cX7_sucked 73 = .ok (.ireturn, 1) := by decide +kernel
theorem dX7_expected_0 : decode cX7_expected 0 = .ok (.iload_n 1, 1) := by decide +kernel
theorem dX7_expected_1 : decode cX7_expected 1 = .ok (.ifCond .ne 10, 3) := by decide +kernel
theorem dX7_expected_4 : decode cX7_expected 4 = .ok (.aload_n 0, 1) := by decide +kernel
theorem dX7_expected_5 : decode cX7_expected 5 = .ok (.getfield 82, 3) := by decide +kernel
theorem dX7_expected_8 : decode cX7_expected 8 = .ok (.goto 23, 3) := by decide +kernel
theorem dX7_expected_11 : decode cX7_expected 11 = .ok (.aload_n 0, 1) := by decide +kernel
theorem dX7_expected_12 : decode cX7_expected 12 = .ok (.aload_n 0, 1) := by decide +kernel
theorem dX7_expected_13 : decode cX7_expected 13 = .ok (.getfield 17, 3) := by decide +kernel
theorem dX7_expected_16 : decode cX7_expected 16 = .ok (.iload_n 1, 1) := by decide +kernel
theorem dX7_expected_17 : decode cX7_expected 17 = .ok (.iaload, 1) := by decide +kernel
theorem dX7_expected_18 : decode cX7_expected 18 = .ok (.invokevirtual 95, 3) := by decide +kernel
theorem dX7_expected_21 : decode cX7_expected 21 = .ok (.aload_n 0, 1) := by decide +kernel
theorem dX7_expected_22 : decode cX7_expected 22 = .ok (.getfield 20, 3) := by decide +kernel
theorem dX7_expected_25 : decode cX7_expected 25 = .ok (.iload_n 1, 1) := by decide +kernel
theorem dX7_expected_26 : decode cX7_expected 26 = .ok (.iaload, 1) := by decide +kernel
theorem dX7_expected_27 : decode cX7_expected 27 = .ok (.isub, 1) := by decide +kernel
theorem dX7_expected_28 : decode cX7_expected 28 = .ok (.invokestatic 92, 3) := by decide +kernel
theorem dX7_expected_31 : decode cX7_expected 31 = .ok (.ireturn, 1) := by decide +kernel
theorem dX7_asked_0 : decode cX7_asked 0 = .ok (.aload_n 0, 1) := by decide +kernel
theorem dX7_asked_1 : decode cX7_asked 1 = .ok (.aload_n 0, 1) := by decide +kernel
theorem dX7_asked_2 : decode cX7_asked 2 = .ok (.iload_n 1, 1) := by decide +kernel
theorem dX7_asked_3 : decode cX7_asked 3 = .ok (.invokevirtual 67, 3) := by decide +kernel
theorem dX7_asked_6 : decode cX7_asked 6 = .ok (.ifCond .eq 7, 3) := by decide +kernel
theorem dX7_asked_9 : decode cX7_asked 9 = .ok (.iconst 1, 1) := by decide +kernel
theorem dX7_asked_10 : decode cX7_asked 10 = .ok (.goto 4, 3) := by decide +kernel
theorem dX7_asked_13 : decode cX7_asked 13 = .ok (.iconst 0, 1) := by decide +kernel
theorem dX7_asked_14 : decode cX7_asked 14 = .ok (.invokevirtual 71, 3) := by decide +kernel
theorem dX7_asked_17 : decode cX7_asked 17 = .ok (.ifCond .eq 7, 3) := by decide +kernel
theorem dX7_asked_20 : decode cX7_asked 20 = .ok (.iconst 0, 1) := by decide +kernel
theorem dX7_asked_21 : decode cX7_asked 21 = .ok (.goto 8, 3) := by decide +kernel
theorem dX7_asked_24 : decode cX7_asked 24 = .ok (.aload_n 0, 1) := by decide +kernel
theorem dX7_asked_25 : decode cX7_asked 25 = .ok (.iload_n 1, 1) := by decide +kernel
theorem dX7_asked_26 : decode cX7_asked 26 = .ok (.invokevirtual 89, 3) := by decide +kernel
theorem dX7_asked_29 : decode cX7_asked 29 = .ok (.ireturn, 1) := by decide +kernel
theorem dX7_vacuum_0 : decode cX7_vacuum 0 = .ok (.aload_n 0, 1) := by decide +kernel
theorem dX7_vacuum_1 : decode cX7_vacuum 1 = .ok (.iload_n 1, 1) := by decide +kernel
theorem dX7_vacuum_2 : decode cX7_vacuum 2 = .ok (.invokevirtual 98, 3) := by decide +kernel
theorem dX7_vacuum_5 : decode cX7_vacuum 5 = .ok (.ireturn, 1) := by decide +kernel
theorem dX7_vacuumBySweep_0 : decode cX7_vacuumBySweep 0 = .ok (.aload_n 0, 1) := by decide +kernel
theorem dX7_vacuumBySweep_1 : decode cX7_vacuumBySweep 1 = .ok (.iload_n 1, 1) := by decide +kernel
theorem dX7_vacuumBySweep_2 : decode cX7_vacuumBySweep 2 = .ok (.invokevirtual 98, 3) := by decide +kernel
theorem dX7_vacuumBySweep_5 : decode cX7_vacuumBySweep 5 = .ok (.ireturn, 1) := by decide +kernel
theorem dX7_expectedVacuum_0 : decode cX7_expectedVacuum 0 = .ok (.aload_n 0, 1) := by decide +kernel
theorem dX7_expectedVacuum_1 : decode cX7_expectedVacuum 1 = .ok (.aload_n 0, 1) := by decide +kernel
theorem dX7_expectedVacuum_2 : decode cX7_expectedVacuum 2 = .ok (.iload_n 1, 1) := by decide +kernel
theorem dX7_expectedVacuum_3 : decode cX7_expectedVacuum 3 = .ok (.invokevirtual 67, 3) := by decide +kernel
theorem dX7_expectedVacuum_6 : decode cX7_expectedVacuum 6 = .ok (.ifCond .eq 7, 3) := by decide +kernel
theorem dX7_expectedVacuum_9 : decode cX7_expectedVacuum 9 = .ok (.iconst 1, 1) := by decide +kernel
theorem dX7_expectedVacuum_10 : decode cX7_expectedVacuum 10 = .ok (.goto 4, 3) := by decide +kernel
theorem dX7_expectedVacuum_13 : decode cX7_expectedVacuum 13 = .ok (.iconst 0, 1) := by decide +kernel
theorem dX7_expectedVacuum_14 : decode cX7_expectedVacuum 14 = .ok (.invokevirtual 71, 3) := by decide +kernel
theorem dX7_expectedVacuum_17 : decode cX7_expectedVacuum 17 = .ok (.ifCond .eq 7, 3) := by decide +kernel
theorem dX7_expectedVacuum_20 : decode cX7_expectedVacuum 20 = .ok (.iconst 0, 1) := by decide +kernel
theorem dX7_expectedVacuum_21 : decode cX7_expectedVacuum 21 = .ok (.goto 8, 3) := by decide +kernel
theorem dX7_expectedVacuum_24 : decode cX7_expectedVacuum 24 = .ok (.aload_n 0, 1) := by decide +kernel
theorem dX7_expectedVacuum_25 : decode cX7_expectedVacuum 25 = .ok (.iload_n 1, 1) := by decide +kernel
theorem dX7_expectedVacuum_26 : decode cX7_expectedVacuum 26 = .ok (.invokevirtual 95, 3) := by decide +kernel
theorem dX7_expectedVacuum_29 : decode cX7_expectedVacuum 29 = .ok (.ireturn, 1) := by decide +kernel
theorem dX7_loses_0 : decode cX7_loses 0 = .ok (.aload_n 0, 1) := by decide +kernel
theorem dX7_loses_1 : decode cX7_loses 1 = .ok (.iload_n 1, 1) := by decide +kernel
theorem dX7_loses_2 : decode cX7_loses 2 = .ok (.invokevirtual 95, 3) := by decide +kernel
theorem dX7_loses_5 : decode cX7_loses 5 = .ok (.aload_n 0, 1) := by decide +kernel
theorem dX7_loses_6 : decode cX7_loses 6 = .ok (.iload_n 1, 1) := by decide +kernel
theorem dX7_loses_7 : decode cX7_loses 7 = .ok (.invokevirtual 89, 3) := by decide +kernel
theorem dX7_loses_10 : decode cX7_loses 10 = .ok (.isub, 1) := by decide +kernel
theorem dX7_loses_11 : decode cX7_loses 11 = .ok (.ireturn, 1) := by decide +kernel
theorem dX7_ownLoss_0 : decode cX7_ownLoss 0 = .ok (.iload_n 1, 1) := by decide +kernel
theorem dX7_ownLoss_1 : decode cX7_ownLoss 1 = .ok (.ifCond .ne 11, 3) := by decide +kernel
theorem dX7_ownLoss_4 : decode cX7_ownLoss 4 = .ok (.aload_n 0, 1) := by decide +kernel
theorem dX7_ownLoss_5 : decode cX7_ownLoss 5 = .ok (.iload_n 1, 1) := by decide +kernel
theorem dX7_ownLoss_6 : decode cX7_ownLoss 6 = .ok (.invokevirtual 101, 3) := by decide +kernel
theorem dX7_ownLoss_9 : decode cX7_ownLoss 9 = .ok (.goto 19, 3) := by decide +kernel
theorem dX7_ownLoss_12 : decode cX7_ownLoss 12 = .ok (.aload_n 0, 1) := by decide +kernel
theorem dX7_ownLoss_13 : decode cX7_ownLoss 13 = .ok (.iload_n 1, 1) := by decide +kernel
theorem dX7_ownLoss_14 : decode cX7_ownLoss 14 = .ok (.invokevirtual 101, 3) := by decide +kernel
theorem dX7_ownLoss_17 : decode cX7_ownLoss 17 = .ok (.aload_n 0, 1) := by decide +kernel
theorem dX7_ownLoss_18 : decode cX7_ownLoss 18 = .ok (.aload_n 0, 1) := by decide +kernel
theorem dX7_ownLoss_19 : decode cX7_ownLoss 19 = .ok (.getfield 17, 3) := by decide +kernel
theorem dX7_ownLoss_22 : decode cX7_ownLoss 22 = .ok (.iload_n 1, 1) := by decide +kernel
theorem dX7_ownLoss_23 : decode cX7_ownLoss 23 = .ok (.iaload, 1) := by decide +kernel
theorem dX7_ownLoss_24 : decode cX7_ownLoss 24 = .ok (.invokevirtual 101, 3) := by decide +kernel
theorem dX7_ownLoss_27 : decode cX7_ownLoss 27 = .ok (.isub, 1) := by decide +kernel
theorem dX7_ownLoss_28 : decode cX7_ownLoss 28 = .ok (.ireturn, 1) := by decide +kernel
theorem dX7_suspect_0 : decode cX7_suspect 0 = .ok (.iconst 0, 1) := by decide +kernel
theorem dX7_suspect_1 : decode cX7_suspect 1 = .ok (.istore_n 2, 1) := by decide +kernel
theorem dX7_suspect_2 : decode cX7_suspect 2 = .ok (.iload_n 2, 1) := by decide +kernel
theorem dX7_suspect_3 : decode cX7_suspect 3 = .ok (.aload_n 0, 1) := by decide +kernel
theorem dX7_suspect_4 : decode cX7_suspect 4 = .ok (.getfield 7, 3) := by decide +kernel
theorem dX7_suspect_7 : decode cX7_suspect 7 = .ok (.if_icmp .ge 90, 3) := by decide +kernel
theorem dX7_suspect_10 : decode cX7_suspect 10 = .ok (.iconst 0, 1) := by decide +kernel
theorem dX7_suspect_11 : decode cX7_suspect 11 = .ok (.istore_n 3, 1) := by decide +kernel
theorem dX7_suspect_12 : decode cX7_suspect 12 = .ok (.iconst 0, 1) := by decide +kernel
theorem dX7_suspect_13 : decode cX7_suspect 13 = .ok (.istore 4, 2) := by decide +kernel
theorem dX7_suspect_15 : decode cX7_suspect 15 = .ok (.iload 4, 2) := by decide +kernel
theorem dX7_suspect_17 : decode cX7_suspect 17 = .ok (.aload_n 0, 1) := by decide +kernel
theorem dX7_suspect_18 : decode cX7_suspect 18 = .ok (.getfield 7, 3) := by decide +kernel
theorem dX7_suspect_21 : decode cX7_suspect 21 = .ok (.if_icmp .ge 51, 3) := by decide +kernel
theorem dX7_suspect_24 : decode cX7_suspect 24 = .ok (.iload_n 3, 1) := by decide +kernel
theorem dX7_suspect_25 : decode cX7_suspect 25 = .ok (.aload_n 0, 1) := by decide +kernel
theorem dX7_suspect_26 : decode cX7_suspect 26 = .ok (.iload 4, 2) := by decide +kernel
theorem dX7_suspect_28 : decode cX7_suspect 28 = .ok (.invokevirtual 104, 3) := by decide +kernel
theorem dX7_suspect_31 : decode cX7_suspect 31 = .ok (.aload_n 0, 1) := by decide +kernel
theorem dX7_suspect_32 : decode cX7_suspect 32 = .ok (.iload_n 2, 1) := by decide +kernel
theorem dX7_suspect_33 : decode cX7_suspect 33 = .ok (.invokevirtual 104, 3) := by decide +kernel
theorem dX7_suspect_36 : decode cX7_suspect 36 = .ok (.if_icmp .gt 23, 3) := by decide +kernel
theorem dX7_suspect_39 : decode cX7_suspect 39 = .ok (.aload_n 0, 1) := by decide +kernel
theorem dX7_suspect_40 : decode cX7_suspect 40 = .ok (.iload 4, 2) := by decide +kernel
theorem dX7_suspect_42 : decode cX7_suspect 42 = .ok (.invokevirtual 104, 3) := by decide +kernel
theorem dX7_suspect_45 : decode cX7_suspect 45 = .ok (.aload_n 0, 1) := by decide +kernel
theorem dX7_suspect_46 : decode cX7_suspect 46 = .ok (.iload_n 2, 1) := by decide +kernel
theorem dX7_suspect_47 : decode cX7_suspect 47 = .ok (.invokevirtual 104, 3) := by decide +kernel
theorem dX7_suspect_50 : decode cX7_suspect 50 = .ok (.if_icmp .ne 13, 3) := by decide +kernel
theorem dX7_suspect_53 : decode cX7_suspect 53 = .ok (.iload 4, 2) := by decide +kernel
theorem dX7_suspect_55 : decode cX7_suspect 55 = .ok (.iload_n 2, 1) := by decide +kernel
theorem dX7_suspect_56 : decode cX7_suspect 56 = .ok (.if_icmp .ge 7, 3) := by decide +kernel
theorem dX7_suspect_59 : decode cX7_suspect 59 = .ok (.iconst 1, 1) := by decide +kernel
theorem dX7_suspect_60 : decode cX7_suspect 60 = .ok (.goto 4, 3) := by decide +kernel
theorem dX7_suspect_63 : decode cX7_suspect 63 = .ok (.iconst 0, 1) := by decide +kernel
theorem dX7_suspect_64 : decode cX7_suspect 64 = .ok (.iadd, 1) := by decide +kernel
theorem dX7_suspect_65 : decode cX7_suspect 65 = .ok (.istore_n 3, 1) := by decide +kernel
theorem dX7_suspect_66 : decode cX7_suspect 66 = .ok (.iinc 4 1, 3) := by decide +kernel
theorem dX7_suspect_69 : decode cX7_suspect 69 = .ok (.goto (-54), 3) := by decide +kernel
theorem dX7_suspect_72 : decode cX7_suspect 72 = .ok (.aload_n 0, 1) := by decide +kernel
theorem dX7_suspect_73 : decode cX7_suspect 73 = .ok (.iload_n 2, 1) := by decide +kernel
theorem dX7_suspect_74 : decode cX7_suspect 74 = .ok (.invokevirtual 104, 3) := by decide +kernel
theorem dX7_suspect_77 : decode cX7_suspect 77 = .ok (.ifCond .le 14, 3) := by decide +kernel
theorem dX7_suspect_80 : decode cX7_suspect 80 = .ok (.iload_n 3, 1) := by decide +kernel
theorem dX7_suspect_81 : decode cX7_suspect 81 = .ok (.iload_n 1, 1) := by decide +kernel
theorem dX7_suspect_82 : decode cX7_suspect 82 = .ok (.if_icmp .ne 9, 3) := by decide +kernel
theorem dX7_suspect_85 : decode cX7_suspect 85 = .ok (.aload_n 0, 1) := by decide +kernel
theorem dX7_suspect_86 : decode cX7_suspect 86 = .ok (.iload_n 2, 1) := by decide +kernel
theorem dX7_suspect_87 : decode cX7_suspect 87 = .ok (.invokevirtual 85, 3) := by decide +kernel
theorem dX7_suspect_90 : decode cX7_suspect 90 = .ok (.ireturn, 1) := by decide +kernel
theorem dX7_suspect_91 : decode cX7_suspect 91 = .ok (.iinc 2 1, 3) := by decide +kernel
theorem dX7_suspect_94 : decode cX7_suspect 94 = .ok (.goto (-92), 3) := by decide +kernel
theorem dX7_suspect_97 : decode cX7_suspect 97 = .ok (.aload_n 0, 1) := by decide +kernel
theorem dX7_suspect_98 : decode cX7_suspect 98 = .ok (.iconst 1, 1) := by decide +kernel
theorem dX7_suspect_99 : decode cX7_suspect 99 = .ok (.putfield 60, 3) := by decide +kernel
theorem dX7_suspect_102 : decode cX7_suspect 102 = .ok (.iconst 0, 1) := by decide +kernel
theorem dX7_suspect_103 : decode cX7_suspect 103 = .ok (.ireturn, 1) := by decide +kernel
theorem dX7_depth_0 : decode cX7_depth 0 = .ok (.aload_n 0, 1) := by decide +kernel
theorem dX7_depth_1 : decode cX7_depth 1 = .ok (.aload_n 0, 1) := by decide +kernel
theorem dX7_depth_2 : decode cX7_depth 2 = .ok (.iload_n 1, 1) := by decide +kernel
theorem dX7_depth_3 : decode cX7_depth 3 = .ok (.invokevirtual 67, 3) := by decide +kernel
theorem dX7_depth_6 : decode cX7_depth 6 = .ok (.ifCond .eq 7, 3) := by decide +kernel
theorem dX7_depth_9 : decode cX7_depth 9 = .ok (.iconst 1, 1) := by decide +kernel
theorem dX7_depth_10 : decode cX7_depth 10 = .ok (.goto 4, 3) := by decide +kernel
theorem dX7_depth_13 : decode cX7_depth 13 = .ok (.iconst 0, 1) := by decide +kernel
theorem dX7_depth_14 : decode cX7_depth 14 = .ok (.invokevirtual 71, 3) := by decide +kernel
theorem dX7_depth_17 : decode cX7_depth 17 = .ok (.ifCond .eq 5, 3) := by decide +kernel
theorem dX7_depth_20 : decode cX7_depth 20 = .ok (.iconst 0, 1) := by decide +kernel
theorem dX7_depth_21 : decode cX7_depth 21 = .ok (.ireturn, 1) := by decide +kernel
theorem dX7_depth_22 : decode cX7_depth 22 = .ok (.iconst 0, 1) := by decide +kernel
theorem dX7_depth_23 : decode cX7_depth 23 = .ok (.istore_n 2, 1) := by decide +kernel
theorem dX7_depth_24 : decode cX7_depth 24 = .ok (.iload_n 1, 1) := by decide +kernel
theorem dX7_depth_25 : decode cX7_depth 25 = .ok (.istore_n 3, 1) := by decide +kernel
theorem dX7_depth_26 : decode cX7_depth 26 = .ok (.iload_n 3, 1) := by decide +kernel
theorem dX7_depth_27 : decode cX7_depth 27 = .ok (.ifCond .eq 16, 3) := by decide +kernel
theorem dX7_depth_30 : decode cX7_depth 30 = .ok (.iinc 2 1, 3) := by decide +kernel
theorem dX7_depth_33 : decode cX7_depth 33 = .ok (.aload_n 0, 1) := by decide +kernel
theorem dX7_depth_34 : decode cX7_depth 34 = .ok (.getfield 17, 3) := by decide +kernel
theorem dX7_depth_37 : decode cX7_depth 37 = .ok (.iload_n 3, 1) := by decide +kernel
theorem dX7_depth_38 : decode cX7_depth 38 = .ok (.iaload, 1) := by decide +kernel
theorem dX7_depth_39 : decode cX7_depth 39 = .ok (.istore_n 3, 1) := by decide +kernel
theorem dX7_depth_40 : decode cX7_depth 40 = .ok (.goto (-14), 3) := by decide +kernel
theorem dX7_depth_43 : decode cX7_depth 43 = .ok (.iload_n 2, 1) := by decide +kernel
theorem dX7_depth_44 : decode cX7_depth 44 = .ok (.ireturn, 1) := by decide +kernel
theorem dX7_gives_0 : decode cX7_gives 0 = .ok (.iload_n 2, 1) := by decide +kernel
theorem dX7_gives_1 : decode cX7_gives 1 = .ok (.aload_n 0, 1) := by decide +kernel
theorem dX7_gives_2 : decode cX7_gives 2 = .ok (.getfield 29, 3) := by decide +kernel
theorem dX7_gives_5 : decode cX7_gives 5 = .ok (.iload_n 1, 1) := by decide +kernel
theorem dX7_gives_6 : decode cX7_gives 6 = .ok (.iaload, 1) := by decide +kernel
theorem dX7_gives_7 : decode cX7_gives 7 = .ok (.if_icmp .ge 24, 3) := by decide +kernel
theorem dX7_gives_10 : decode cX7_gives 10 = .ok (.aload_n 0, 1) := by decide +kernel
theorem dX7_gives_11 : decode cX7_gives 11 = .ok (.getfield 32, 3) := by decide +kernel
theorem dX7_gives_14 : decode cX7_gives 14 = .ok (.iload_n 1, 1) := by decide +kernel
theorem dX7_gives_15 : decode cX7_gives 15 = .ok (.aload_n 0, 1) := by decide +kernel
theorem dX7_gives_16 : decode cX7_gives 16 = .ok (.getfield 32, 3) := by decide +kernel
theorem dX7_gives_19 : decode cX7_gives 19 = .ok (.iload_n 1, 1) := by decide +kernel
theorem dX7_gives_20 : decode cX7_gives 20 = .ok (.iaload, 1) := by decide +kernel
theorem dX7_gives_21 : decode cX7_gives 21 = .ok (.iconst 1, 1) := by decide +kernel
theorem dX7_gives_22 : decode cX7_gives 22 = .ok (.iadd, 1) := by decide +kernel
theorem dX7_gives_23 : decode cX7_gives 23 = .ok (.bipush 9, 2) := by decide +kernel
theorem dX7_gives_25 : decode cX7_gives 25 = .ok (.invokestatic 107, 3) := by decide +kernel
theorem dX7_gives_28 : decode cX7_gives 28 = .ok (.iastore, 1) := by decide +kernel
theorem dX7_gives_29 : decode cX7_gives 29 = .ok (.iconst 0, 1) := by decide +kernel
theorem dX7_gives_30 : decode cX7_gives 30 = .ok (.ireturn, 1) := by decide +kernel
theorem dX7_gives_31 : decode cX7_gives 31 = .ok (.aload_n 0, 1) := by decide +kernel
theorem dX7_gives_32 : decode cX7_gives 32 = .ok (.getfield 32, 3) := by decide +kernel
theorem dX7_gives_35 : decode cX7_gives 35 = .ok (.iload_n 1, 1) := by decide +kernel
theorem dX7_gives_36 : decode cX7_gives 36 = .ok (.iaload, 1) := by decide +kernel
theorem dX7_gives_37 : decode cX7_gives 37 = .ok (.ifCond .ne 19, 3) := by decide +kernel
theorem dX7_gives_40 : decode cX7_gives 40 = .ok (.aload_n 0, 1) := by decide +kernel
theorem dX7_gives_41 : decode cX7_gives 41 = .ok (.getfield 23, 3) := by decide +kernel
theorem dX7_gives_44 : decode cX7_gives 44 = .ok (.iload_n 1, 1) := by decide +kernel
theorem dX7_gives_45 : decode cX7_gives 45 = .ok (.iaload, 1) := by decide +kernel
theorem dX7_gives_46 : decode cX7_gives 46 = .ok (.aload_n 0, 1) := by decide +kernel
theorem dX7_gives_47 : decode cX7_gives 47 = .ok (.iload_n 1, 1) := by decide +kernel
theorem dX7_gives_48 : decode cX7_gives 48 = .ok (.invokevirtual 89, 3) := by decide +kernel
theorem dX7_gives_51 : decode cX7_gives 51 = .ok (.imul, 1) := by decide +kernel
theorem dX7_gives_52 : decode cX7_gives 52 = .ok (.bipush 100, 2) := by decide +kernel
theorem dX7_gives_54 : decode cX7_gives 54 = .ok (.idiv, 1) := by decide +kernel
theorem dX7_gives_55 : decode cX7_gives 55 = .ok (.ireturn, 1) := by decide +kernel
theorem dX7_gives_56 : decode cX7_gives 56 = .ok (.aload_n 0, 1) := by decide +kernel
theorem dX7_gives_57 : decode cX7_gives 57 = .ok (.getfield 32, 3) := by decide +kernel
theorem dX7_gives_60 : decode cX7_gives 60 = .ok (.iload_n 1, 1) := by decide +kernel
theorem dX7_gives_61 : decode cX7_gives 61 = .ok (.dup2, 1) := by decide +kernel
theorem dX7_gives_62 : decode cX7_gives 62 = .ok (.iaload, 1) := by decide +kernel
theorem dX7_gives_63 : decode cX7_gives 63 = .ok (.iconst 1, 1) := by decide +kernel
theorem dX7_gives_64 : decode cX7_gives 64 = .ok (.isub, 1) := by decide +kernel
theorem dX7_gives_65 : decode cX7_gives 65 = .ok (.iastore, 1) := by decide +kernel
theorem dX7_gives_66 : decode cX7_gives 66 = .ok (.aload_n 0, 1) := by decide +kernel
theorem dX7_gives_67 : decode cX7_gives 67 = .ok (.getfield 23, 3) := by decide +kernel
theorem dX7_gives_70 : decode cX7_gives 70 = .ok (.iload_n 1, 1) := by decide +kernel
theorem dX7_gives_71 : decode cX7_gives 71 = .ok (.iaload, 1) := by decide +kernel
theorem dX7_gives_72 : decode cX7_gives 72 = .ok (.bipush 20, 2) := by decide +kernel
theorem dX7_gives_74 : decode cX7_gives 74 = .ok (.aload_n 0, 1) := by decide +kernel
theorem dX7_gives_75 : decode cX7_gives 75 = .ok (.iload_n 1, 1) := by decide +kernel
theorem dX7_gives_76 : decode cX7_gives 76 = .ok (.invokevirtual 89, 3) := by decide +kernel
theorem dX7_gives_79 : decode cX7_gives 79 = .ok (.iadd, 1) := by decide +kernel
theorem dX7_gives_80 : decode cX7_gives 80 = .ok (.imul, 1) := by decide +kernel
theorem dX7_gives_81 : decode cX7_gives 81 = .ok (.bipush 20, 2) := by decide +kernel
theorem dX7_gives_83 : decode cX7_gives 83 = .ok (.idiv, 1) := by decide +kernel
theorem dX7_gives_84 : decode cX7_gives 84 = .ok (.ireturn, 1) := by decide +kernel
theorem dX7_pours_0 : decode cX7_pours 0 = .ok (.iload_n 1, 1) := by decide +kernel
theorem dX7_pours_1 : decode cX7_pours 1 = .ok (.istore_n 3, 1) := by decide +kernel
theorem dX7_pours_2 : decode cX7_pours 2 = .ok (.iload_n 2, 1) := by decide +kernel
theorem dX7_pours_3 : decode cX7_pours 3 = .ok (.istore 4, 2) := by decide +kernel
theorem dX7_pours_5 : decode cX7_pours 5 = .ok (.iconst 0, 1) := by decide +kernel
theorem dX7_pours_6 : decode cX7_pours 6 = .ok (.istore 5, 2) := by decide +kernel
theorem dX7_pours_8 : decode cX7_pours 8 = .ok (.iload 5, 2) := by decide +kernel
theorem dX7_pours_10 : decode cX7_pours 10 = .ok (.aload_n 0, 1) := by decide +kernel
theorem dX7_pours_11 : decode cX7_pours 11 = .ok (.getfield 111, 3) := by decide +kernel
theorem dX7_pours_14 : decode cX7_pours 14 = .ok (.if_icmp .ge 94, 3) := by decide +kernel
theorem dX7_pours_17 : decode cX7_pours 17 = .ok (.iload_n 3, 1) := by decide +kernel
theorem dX7_pours_18 : decode cX7_pours 18 = .ok (.ifCond .le 90, 3) := by decide +kernel
theorem dX7_pours_21 : decode cX7_pours 21 = .ok (.iload_n 3, 1) := by decide +kernel
theorem dX7_pours_22 : decode cX7_pours 22 = .ok (.aload_n 0, 1) := by decide +kernel
theorem dX7_pours_23 : decode cX7_pours 23 = .ok (.getfield 41, 3) := by decide +kernel
theorem dX7_pours_26 : decode cX7_pours 26 = .ok (.iload 5, 2) := by decide +kernel
theorem dX7_pours_28 : decode cX7_pours 28 = .ok (.iaload, 1) := by decide +kernel
theorem dX7_pours_29 : decode cX7_pours 29 = .ok (.aload_n 0, 1) := by decide +kernel
theorem dX7_pours_30 : decode cX7_pours 30 = .ok (.getfield 44, 3) := by decide +kernel
theorem dX7_pours_33 : decode cX7_pours 33 = .ok (.iload 5, 2) := by decide +kernel
theorem dX7_pours_35 : decode cX7_pours 35 = .ok (.iaload, 1) := by decide +kernel
theorem dX7_pours_36 : decode cX7_pours 36 = .ok (.isub, 1) := by decide +kernel
theorem dX7_pours_37 : decode cX7_pours 37 = .ok (.invokestatic 107, 3) := by decide +kernel
theorem dX7_pours_40 : decode cX7_pours 40 = .ok (.istore 6, 2) := by decide +kernel
theorem dX7_pours_42 : decode cX7_pours 42 = .ok (.iload 6, 2) := by decide +kernel
theorem dX7_pours_44 : decode cX7_pours 44 = .ok (.iload_n 3, 1) := by decide +kernel
theorem dX7_pours_45 : decode cX7_pours 45 = .ok (.if_icmp .ne 8, 3) := by decide +kernel
theorem dX7_pours_48 : decode cX7_pours 48 = .ok (.iload 4, 2) := by decide +kernel
theorem dX7_pours_50 : decode cX7_pours 50 = .ok (.goto 14, 3) := by decide +kernel
theorem dX7_pours_53 : decode cX7_pours 53 = .ok (.iload 4, 2) := by decide +kernel
theorem dX7_pours_55 : decode cX7_pours 55 = .ok (.i2l, 1) := by decide +kernel
theorem dX7_pours_56 : decode cX7_pours 56 = .ok (.iload 6, 2) := by decide +kernel
theorem dX7_pours_58 : decode cX7_pours 58 = .ok (.i2l, 1) := by decide +kernel
theorem dX7_pours_59 : decode cX7_pours 59 = .ok (.lmul, 1) := by decide +kernel
theorem dX7_pours_60 : decode cX7_pours 60 = .ok (.iload_n 3, 1) := by decide +kernel
theorem dX7_pours_61 : decode cX7_pours 61 = .ok (.i2l, 1) := by decide +kernel
theorem dX7_pours_62 : decode cX7_pours 62 = .ok (.ldiv, 1) := by decide +kernel
theorem dX7_pours_63 : decode cX7_pours 63 = .ok (.l2i, 1) := by decide +kernel
theorem dX7_pours_64 : decode cX7_pours 64 = .ok (.istore 7, 2) := by decide +kernel
theorem dX7_pours_66 : decode cX7_pours 66 = .ok (.aload_n 0, 1) := by decide +kernel
theorem dX7_pours_67 : decode cX7_pours 67 = .ok (.getfield 44, 3) := by decide +kernel
theorem dX7_pours_70 : decode cX7_pours 70 = .ok (.iload 5, 2) := by decide +kernel
theorem dX7_pours_72 : decode cX7_pours 72 = .ok (.dup2, 1) := by decide +kernel
theorem dX7_pours_73 : decode cX7_pours 73 = .ok (.iaload, 1) := by decide +kernel
theorem dX7_pours_74 : decode cX7_pours 74 = .ok (.iload 6, 2) := by decide +kernel
theorem dX7_pours_76 : decode cX7_pours 76 = .ok (.iadd, 1) := by decide +kernel
theorem dX7_pours_77 : decode cX7_pours 77 = .ok (.iastore, 1) := by decide +kernel
theorem dX7_pours_78 : decode cX7_pours 78 = .ok (.aload_n 0, 1) := by decide +kernel
theorem dX7_pours_79 : decode cX7_pours 79 = .ok (.getfield 47, 3) := by decide +kernel
theorem dX7_pours_82 : decode cX7_pours 82 = .ok (.iload 5, 2) := by decide +kernel
theorem dX7_pours_84 : decode cX7_pours 84 = .ok (.dup2, 1) := by decide +kernel
theorem dX7_pours_85 : decode cX7_pours 85 = .ok (.iaload, 1) := by decide +kernel
theorem dX7_pours_86 : decode cX7_pours 86 = .ok (.iload 7, 2) := by decide +kernel
theorem dX7_pours_88 : decode cX7_pours 88 = .ok (.iadd, 1) := by decide +kernel
theorem dX7_pours_89 : decode cX7_pours 89 = .ok (.iastore, 1) := by decide +kernel
theorem dX7_pours_90 : decode cX7_pours 90 = .ok (.iload_n 3, 1) := by decide +kernel
theorem dX7_pours_91 : decode cX7_pours 91 = .ok (.iload 6, 2) := by decide +kernel
theorem dX7_pours_93 : decode cX7_pours 93 = .ok (.isub, 1) := by decide +kernel
theorem dX7_pours_94 : decode cX7_pours 94 = .ok (.istore_n 3, 1) := by decide +kernel
theorem dX7_pours_95 : decode cX7_pours 95 = .ok (.iload 4, 2) := by decide +kernel
theorem dX7_pours_97 : decode cX7_pours 97 = .ok (.iload 7, 2) := by decide +kernel
theorem dX7_pours_99 : decode cX7_pours 99 = .ok (.isub, 1) := by decide +kernel
theorem dX7_pours_100 : decode cX7_pours 100 = .ok (.istore 4, 2) := by decide +kernel
theorem dX7_pours_102 : decode cX7_pours 102 = .ok (.iinc 5 1, 3) := by decide +kernel
theorem dX7_pours_105 : decode cX7_pours 105 = .ok (.goto (-97), 3) := by decide +kernel
theorem dX7_pours_108 : decode cX7_pours 108 = .ok (.aload_n 0, 1) := by decide +kernel
theorem dX7_pours_109 : decode cX7_pours 109 = .ok (.iload_n 3, 1) := by decide +kernel
theorem dX7_pours_110 : decode cX7_pours 110 = .ok (.iload 4, 2) := by decide +kernel
theorem dX7_pours_112 : decode cX7_pours 112 = .ok (.invokevirtual 114, 3) := by decide +kernel
theorem dX7_pours_115 : decode cX7_pours 115 = .ok (.return_, 1) := by decide +kernel
theorem dX7_wastes_0 : decode cX7_wastes 0 = .ok (.aload_n 0, 1) := by decide +kernel
theorem dX7_wastes_1 : decode cX7_wastes 1 = .ok (.dup, 1) := by decide +kernel
theorem dX7_wastes_2 : decode cX7_wastes 2 = .ok (.getfield 118, 3) := by decide +kernel
theorem dX7_wastes_5 : decode cX7_wastes 5 = .ok (.iload_n 1, 1) := by decide +kernel
theorem dX7_wastes_6 : decode cX7_wastes 6 = .ok (.i2l, 1) := by decide +kernel
theorem dX7_wastes_7 : decode cX7_wastes 7 = .ok (.ladd, 1) := by decide +kernel
theorem dX7_wastes_8 : decode cX7_wastes 8 = .ok (.putfield 118, 3) := by decide +kernel
theorem dX7_wastes_11 : decode cX7_wastes 11 = .ok (.aload_n 0, 1) := by decide +kernel
theorem dX7_wastes_12 : decode cX7_wastes 12 = .ok (.dup, 1) := by decide +kernel
theorem dX7_wastes_13 : decode cX7_wastes 13 = .ok (.getfield 122, 3) := by decide +kernel
theorem dX7_wastes_16 : decode cX7_wastes 16 = .ok (.iload_n 2, 1) := by decide +kernel
theorem dX7_wastes_17 : decode cX7_wastes 17 = .ok (.i2l, 1) := by decide +kernel
theorem dX7_wastes_18 : decode cX7_wastes 18 = .ok (.ladd, 1) := by decide +kernel
theorem dX7_wastes_19 : decode cX7_wastes 19 = .ok (.putfield 122, 3) := by decide +kernel
theorem dX7_wastes_22 : decode cX7_wastes 22 = .ok (.return_, 1) := by decide +kernel
theorem dX7_least_0 : decode cX7_least 0 = .ok (.iload_n 0, 1) := by decide +kernel
theorem dX7_least_1 : decode cX7_least 1 = .ok (.bipush 60, 2) := by decide +kernel
theorem dX7_least_3 : decode cX7_least 3 = .ok (.iadd, 1) := by decide +kernel
theorem dX7_least_4 : decode cX7_least 4 = .ok (.iconst 1, 1) := by decide +kernel
theorem dX7_least_5 : decode cX7_least 5 = .ok (.isub, 1) := by decide +kernel
theorem dX7_least_6 : decode cX7_least 6 = .ok (.bipush 60, 2) := by decide +kernel
theorem dX7_least_8 : decode cX7_least 8 = .ok (.idiv, 1) := by decide +kernel
theorem dX7_least_9 : decode cX7_least 9 = .ok (.ireturn, 1) := by decide +kernel
theorem dX7_boils_0 : decode cX7_boils 0 = .ok (.iconst 5, 1) := by decide +kernel
theorem dX7_boils_1 : decode cX7_boils 1 = .ok (.aload_n 0, 1) := by decide +kernel
theorem dX7_boils_2 : decode cX7_boils 2 = .ok (.getfield 125, 3) := by decide +kernel
theorem dX7_boils_5 : decode cX7_boils 5 = .ok (.imul, 1) := by decide +kernel
theorem dX7_boils_6 : decode cX7_boils 6 = .ok (.aload_n 0, 1) := by decide +kernel
theorem dX7_boils_7 : decode cX7_boils 7 = .ok (.getfield 128, 3) := by decide +kernel
theorem dX7_boils_10 : decode cX7_boils 10 = .ok (.aload_n 0, 1) := by decide +kernel
theorem dX7_boils_11 : decode cX7_boils 11 = .ok (.getfield 131, 3) := by decide +kernel
theorem dX7_boils_14 : decode cX7_boils 14 = .ok (.invokestatic 134, 3) := by decide +kernel
theorem dX7_boils_17 : decode cX7_boils 17 = .ok (.isub, 1) := by decide +kernel
theorem dX7_boils_18 : decode cX7_boils 18 = .ok (.invokestatic 92, 3) := by decide +kernel
theorem dX7_boils_21 : decode cX7_boils 21 = .ok (.invokestatic 107, 3) := by decide +kernel
theorem dX7_boils_24 : decode cX7_boils 24 = .ok (.istore_n 1, 1) := by decide +kernel
theorem dX7_boils_25 : decode cX7_boils 25 = .ok (.aload_n 0, 1) := by decide +kernel
theorem dX7_boils_26 : decode cX7_boils 26 = .ok (.dup, 1) := by decide +kernel
theorem dX7_boils_27 : decode cX7_boils 27 = .ok (.getfield 128, 3) := by decide +kernel
theorem dX7_boils_30 : decode cX7_boils 30 = .ok (.iload_n 1, 1) := by decide +kernel
theorem dX7_boils_31 : decode cX7_boils 31 = .ok (.isub, 1) := by decide +kernel
theorem dX7_boils_32 : decode cX7_boils 32 = .ok (.putfield 128, 3) := by decide +kernel
theorem dX7_boils_35 : decode cX7_boils 35 = .ok (.aload_n 0, 1) := by decide +kernel
theorem dX7_boils_36 : decode cX7_boils 36 = .ok (.dup, 1) := by decide +kernel
theorem dX7_boils_37 : decode cX7_boils 37 = .ok (.getfield 137, 3) := by decide +kernel
theorem dX7_boils_40 : decode cX7_boils 40 = .ok (.iload_n 1, 1) := by decide +kernel
theorem dX7_boils_41 : decode cX7_boils 41 = .ok (.i2l, 1) := by decide +kernel
theorem dX7_boils_42 : decode cX7_boils 42 = .ok (.ladd, 1) := by decide +kernel
theorem dX7_boils_43 : decode cX7_boils 43 = .ok (.putfield 137, 3) := by decide +kernel
theorem dX7_boils_46 : decode cX7_boils 46 = .ok (.iload_n 1, 1) := by decide +kernel
theorem dX7_boils_47 : decode cX7_boils 47 = .ok (.ifCond .le 13, 3) := by decide +kernel
theorem dX7_boils_50 : decode cX7_boils 50 = .ok (.aload_n 0, 1) := by decide +kernel
theorem dX7_boils_51 : decode cX7_boils 51 = .ok (.dup, 1) := by decide +kernel
theorem dX7_boils_52 : decode cX7_boils 52 = .ok (.getfield 140, 3) := by decide +kernel
theorem dX7_boils_55 : decode cX7_boils 55 = .ok (.iconst 1, 1) := by decide +kernel
theorem dX7_boils_56 : decode cX7_boils 56 = .ok (.iadd, 1) := by decide +kernel
theorem dX7_boils_57 : decode cX7_boils 57 = .ok (.putfield 140, 3) := by decide +kernel
theorem dX7_boils_60 : decode cX7_boils 60 = .ok (.return_, 1) := by decide +kernel
theorem dX7_pass_0 : decode cX7_pass 0 = .ok (.aload_n 0, 1) := by decide +kernel
theorem dX7_pass_1 : decode cX7_pass 1 = .ok (.iload_n 1, 1) := by decide +kernel
theorem dX7_pass_2 : decode cX7_pass 2 = .ok (.bipush (-30), 2) := by decide +kernel
theorem dX7_pass_4 : decode cX7_pass 4 = .ok (.bipush 30, 2) := by decide +kernel
theorem dX7_pass_6 : decode cX7_pass 6 = .ok (.invokestatic 63, 3) := by decide +kernel
theorem dX7_pass_9 : decode cX7_pass 9 = .ok (.ifCond .ne 7, 3) := by decide +kernel
theorem dX7_pass_12 : decode cX7_pass 12 = .ok (.iconst 1, 1) := by decide +kernel
theorem dX7_pass_13 : decode cX7_pass 13 = .ok (.goto 18, 3) := by decide +kernel
theorem dX7_pass_16 : decode cX7_pass 16 = .ok (.aload_n 0, 1) := by decide +kernel
theorem dX7_pass_17 : decode cX7_pass 17 = .ok (.getfield 143, 3) := by decide +kernel
theorem dX7_pass_20 : decode cX7_pass 20 = .ok (.sipush 200, 3) := by decide +kernel
theorem dX7_pass_23 : decode cX7_pass 23 = .ok (.if_icmp .ne 7, 3) := by decide +kernel
theorem dX7_pass_26 : decode cX7_pass 26 = .ok (.iconst 2, 1) := by decide +kernel
theorem dX7_pass_27 : decode cX7_pass 27 = .ok (.goto 4, 3) := by decide +kernel
theorem dX7_pass_30 : decode cX7_pass 30 = .ok (.iconst 0, 1) := by decide +kernel
theorem dX7_pass_31 : decode cX7_pass 31 = .ok (.invokevirtual 71, 3) := by decide +kernel
theorem dX7_pass_34 : decode cX7_pass 34 = .ok (.ifCond .eq 5, 3) := by decide +kernel
theorem dX7_pass_37 : decode cX7_pass 37 = .ok (.iconst 0, 1) := by decide +kernel
theorem dX7_pass_38 : decode cX7_pass 38 = .ok (.ireturn, 1) := by decide +kernel
theorem dX7_pass_39 : decode cX7_pass 39 = .ok (.iconst 0, 1) := by decide +kernel
theorem dX7_pass_40 : decode cX7_pass 40 = .ok (.istore_n 2, 1) := by decide +kernel
theorem dX7_pass_41 : decode cX7_pass 41 = .ok (.iconst 0, 1) := by decide +kernel
theorem dX7_pass_42 : decode cX7_pass 42 = .ok (.istore_n 3, 1) := by decide +kernel
theorem dX7_pass_43 : decode cX7_pass 43 = .ok (.iconst 0, 1) := by decide +kernel
theorem dX7_pass_44 : decode cX7_pass 44 = .ok (.istore 4, 2) := by decide +kernel
theorem dX7_pass_46 : decode cX7_pass 46 = .ok (.iload 4, 2) := by decide +kernel
theorem dX7_pass_48 : decode cX7_pass 48 = .ok (.aload_n 0, 1) := by decide +kernel
theorem dX7_pass_49 : decode cX7_pass 49 = .ok (.getfield 7, 3) := by decide +kernel
theorem dX7_pass_52 : decode cX7_pass 52 = .ok (.if_icmp .ge 68, 3) := by decide +kernel
theorem dX7_pass_55 : decode cX7_pass 55 = .ok (.aload_n 0, 1) := by decide +kernel
theorem dX7_pass_56 : decode cX7_pass 56 = .ok (.getfield 13, 3) := by decide +kernel
theorem dX7_pass_59 : decode cX7_pass 59 = .ok (.iload 4, 2) := by decide +kernel
theorem dX7_pass_61 : decode cX7_pass 61 = .ok (.iaload, 1) := by decide +kernel
theorem dX7_pass_62 : decode cX7_pass 62 = .ok (.iconst 2, 1) := by decide +kernel
theorem dX7_pass_63 : decode cX7_pass 63 = .ok (.if_icmp .eq 6, 3) := by decide +kernel
theorem dX7_pass_66 : decode cX7_pass 66 = .ok (.goto 48, 3) := by decide +kernel
theorem dX7_pass_69 : decode cX7_pass 69 = .ok (.aload_n 0, 1) := by decide +kernel
theorem dX7_pass_70 : decode cX7_pass 70 = .ok (.iload 4, 2) := by decide +kernel
theorem dX7_pass_72 : decode cX7_pass 72 = .ok (.iload_n 1, 1) := by decide +kernel
theorem dX7_pass_73 : decode cX7_pass 73 = .ok (.invokevirtual 146, 3) := by decide +kernel
theorem dX7_pass_76 : decode cX7_pass 76 = .ok (.istore 5, 2) := by decide +kernel
theorem dX7_pass_78 : decode cX7_pass 78 = .ok (.aload_n 0, 1) := by decide +kernel
theorem dX7_pass_79 : decode cX7_pass 79 = .ok (.getfield 38, 3) := by decide +kernel
theorem dX7_pass_82 : decode cX7_pass 82 = .ok (.sipush 200, 3) := by decide +kernel
theorem dX7_pass_85 : decode cX7_pass 85 = .ok (.iload 4, 2) := by decide +kernel
theorem dX7_pass_87 : decode cX7_pass 87 = .ok (.imul, 1) := by decide +kernel
theorem dX7_pass_88 : decode cX7_pass 88 = .ok (.aload_n 0, 1) := by decide +kernel
theorem dX7_pass_89 : decode cX7_pass 89 = .ok (.getfield 143, 3) := by decide +kernel
theorem dX7_pass_92 : decode cX7_pass 92 = .ok (.iadd, 1) := by decide +kernel
theorem dX7_pass_93 : decode cX7_pass 93 = .ok (.iload 5, 2) := by decide +kernel
theorem dX7_pass_95 : decode cX7_pass 95 = .ok (.iastore, 1) := by decide +kernel
theorem dX7_pass_96 : decode cX7_pass 96 = .ok (.iload_n 2, 1) := by decide +kernel
theorem dX7_pass_97 : decode cX7_pass 97 = .ok (.iload 5, 2) := by decide +kernel
theorem dX7_pass_99 : decode cX7_pass 99 = .ok (.iadd, 1) := by decide +kernel
theorem dX7_pass_100 : decode cX7_pass 100 = .ok (.istore_n 2, 1) := by decide +kernel
theorem dX7_pass_101 : decode cX7_pass 101 = .ok (.iload_n 3, 1) := by decide +kernel
theorem dX7_pass_102 : decode cX7_pass 102 = .ok (.iload 5, 2) := by decide +kernel
theorem dX7_pass_104 : decode cX7_pass 104 = .ok (.aload_n 0, 1) := by decide +kernel
theorem dX7_pass_105 : decode cX7_pass 105 = .ok (.getfield 26, 3) := by decide +kernel
theorem dX7_pass_108 : decode cX7_pass 108 = .ok (.iload 4, 2) := by decide +kernel
theorem dX7_pass_110 : decode cX7_pass 110 = .ok (.iaload, 1) := by decide +kernel
theorem dX7_pass_111 : decode cX7_pass 111 = .ok (.imul, 1) := by decide +kernel
theorem dX7_pass_112 : decode cX7_pass 112 = .ok (.iadd, 1) := by decide +kernel
theorem dX7_pass_113 : decode cX7_pass 113 = .ok (.istore_n 3, 1) := by decide +kernel
theorem dX7_pass_114 : decode cX7_pass 114 = .ok (.iinc 4 1, 3) := by decide +kernel
theorem dX7_pass_117 : decode cX7_pass 117 = .ok (.goto (-71), 3) := by decide +kernel
theorem dX7_pass_120 : decode cX7_pass 120 = .ok (.aload_n 0, 1) := by decide +kernel
theorem dX7_pass_121 : decode cX7_pass 121 = .ok (.dup, 1) := by decide +kernel
theorem dX7_pass_122 : decode cX7_pass 122 = .ok (.getfield 143, 3) := by decide +kernel
theorem dX7_pass_125 : decode cX7_pass 125 = .ok (.iconst 1, 1) := by decide +kernel
theorem dX7_pass_126 : decode cX7_pass 126 = .ok (.iadd, 1) := by decide +kernel
theorem dX7_pass_127 : decode cX7_pass 127 = .ok (.putfield 143, 3) := by decide +kernel
theorem dX7_pass_130 : decode cX7_pass 130 = .ok (.aload_n 0, 1) := by decide +kernel
theorem dX7_pass_131 : decode cX7_pass 131 = .ok (.dup, 1) := by decide +kernel
theorem dX7_pass_132 : decode cX7_pass 132 = .ok (.getfield 149, 3) := by decide +kernel
theorem dX7_pass_135 : decode cX7_pass 135 = .ok (.iload_n 2, 1) := by decide +kernel
theorem dX7_pass_136 : decode cX7_pass 136 = .ok (.i2l, 1) := by decide +kernel
theorem dX7_pass_137 : decode cX7_pass 137 = .ok (.ladd, 1) := by decide +kernel
theorem dX7_pass_138 : decode cX7_pass 138 = .ok (.putfield 149, 3) := by decide +kernel
theorem dX7_pass_141 : decode cX7_pass 141 = .ok (.aload_n 0, 1) := by decide +kernel
theorem dX7_pass_142 : decode cX7_pass 142 = .ok (.dup, 1) := by decide +kernel
theorem dX7_pass_143 : decode cX7_pass 143 = .ok (.getfield 152, 3) := by decide +kernel
theorem dX7_pass_146 : decode cX7_pass 146 = .ok (.iload_n 3, 1) := by decide +kernel
theorem dX7_pass_147 : decode cX7_pass 147 = .ok (.i2l, 1) := by decide +kernel
theorem dX7_pass_148 : decode cX7_pass 148 = .ok (.ladd, 1) := by decide +kernel
theorem dX7_pass_149 : decode cX7_pass 149 = .ok (.putfield 152, 3) := by decide +kernel
theorem dX7_pass_152 : decode cX7_pass 152 = .ok (.aload_n 0, 1) := by decide +kernel
theorem dX7_pass_153 : decode cX7_pass 153 = .ok (.iload_n 2, 1) := by decide +kernel
theorem dX7_pass_154 : decode cX7_pass 154 = .ok (.iload_n 3, 1) := by decide +kernel
theorem dX7_pass_155 : decode cX7_pass 155 = .ok (.invokevirtual 155, 3) := by decide +kernel
theorem dX7_pass_158 : decode cX7_pass 158 = .ok (.aload_n 0, 1) := by decide +kernel
theorem dX7_pass_159 : decode cX7_pass 159 = .ok (.invokevirtual 158, 3) := by decide +kernel
theorem dX7_pass_162 : decode cX7_pass 162 = .ok (.iload_n 2, 1) := by decide +kernel
theorem dX7_pass_163 : decode cX7_pass 163 = .ok (.ireturn, 1) := by decide +kernel
theorem dX7_hours_0 : decode cX7_hours 0 = .ok (.aload_n 0, 1) := by decide +kernel
theorem dX7_hours_1 : decode cX7_hours 1 = .ok (.aload_n 0, 1) := by decide +kernel
theorem dX7_hours_2 : decode cX7_hours 2 = .ok (.getfield 143, 3) := by decide +kernel
theorem dX7_hours_5 : decode cX7_hours 5 = .ok (.invokevirtual 85, 3) := by decide +kernel
theorem dX7_hours_8 : decode cX7_hours 8 = .ok (.ireturn, 1) := by decide +kernel
theorem dX7_isNoTap_0 : decode cX7_isNoTap 0 = .ok (.aload_n 0, 1) := by decide +kernel
theorem dX7_isNoTap_1 : decode cX7_isNoTap 1 = .ok (.aload_n 0, 1) := by decide +kernel
theorem dX7_isNoTap_2 : decode cX7_isNoTap 2 = .ok (.iload_n 1, 1) := by decide +kernel
theorem dX7_isNoTap_3 : decode cX7_isNoTap 3 = .ok (.invokevirtual 67, 3) := by decide +kernel
theorem dX7_isNoTap_6 : decode cX7_isNoTap 6 = .ok (.ifCond .eq 7, 3) := by decide +kernel
theorem dX7_isNoTap_9 : decode cX7_isNoTap 9 = .ok (.iconst 1, 1) := by decide +kernel
theorem dX7_isNoTap_10 : decode cX7_isNoTap 10 = .ok (.goto 18, 3) := by decide +kernel
theorem dX7_isNoTap_13 : decode cX7_isNoTap 13 = .ok (.aload_n 0, 1) := by decide +kernel
theorem dX7_isNoTap_14 : decode cX7_isNoTap 14 = .ok (.getfield 13, 3) := by decide +kernel
theorem dX7_isNoTap_17 : decode cX7_isNoTap 17 = .ok (.iload_n 1, 1) := by decide +kernel
theorem dX7_isNoTap_18 : decode cX7_isNoTap 18 = .ok (.iaload, 1) := by decide +kernel
theorem dX7_isNoTap_19 : decode cX7_isNoTap 19 = .ok (.iconst 2, 1) := by decide +kernel
theorem dX7_isNoTap_20 : decode cX7_isNoTap 20 = .ok (.if_icmp .eq 7, 3) := by decide +kernel
theorem dX7_isNoTap_23 : decode cX7_isNoTap 23 = .ok (.iconst 2, 1) := by decide +kernel
theorem dX7_isNoTap_24 : decode cX7_isNoTap 24 = .ok (.goto 4, 3) := by decide +kernel
theorem dX7_isNoTap_27 : decode cX7_isNoTap 27 = .ok (.iconst 0, 1) := by decide +kernel
theorem dX7_isNoTap_28 : decode cX7_isNoTap 28 = .ok (.invokevirtual 71, 3) := by decide +kernel
theorem dX7_isNoTap_31 : decode cX7_isNoTap 31 = .ok (.ireturn, 1) := by decide +kernel
theorem dX7_charge_0 : decode cX7_charge 0 = .ok (.aload_n 0, 1) := by decide +kernel
theorem dX7_charge_1 : decode cX7_charge 1 = .ok (.iload_n 1, 1) := by decide +kernel
theorem dX7_charge_2 : decode cX7_charge 2 = .ok (.invokevirtual 161, 3) := by decide +kernel
theorem dX7_charge_5 : decode cX7_charge 5 = .ok (.ifCond .eq 7, 3) := by decide +kernel
theorem dX7_charge_8 : decode cX7_charge 8 = .ok (.iconst 0, 1) := by decide +kernel
theorem dX7_charge_9 : decode cX7_charge 9 = .ok (.goto 9, 3) := by decide +kernel
theorem dX7_charge_12 : decode cX7_charge 12 = .ok (.aload_n 0, 1) := by decide +kernel
theorem dX7_charge_13 : decode cX7_charge 13 = .ok (.getfield 32, 3) := by decide +kernel
theorem dX7_charge_16 : decode cX7_charge 16 = .ok (.iload_n 1, 1) := by decide +kernel
theorem dX7_charge_17 : decode cX7_charge 17 = .ok (.iaload, 1) := by decide +kernel
theorem dX7_charge_18 : decode cX7_charge 18 = .ok (.ireturn, 1) := by decide +kernel
theorem dX7_sapOf_0 : decode cX7_sapOf 0 = .ok (.aload_n 0, 1) := by decide +kernel
theorem dX7_sapOf_1 : decode cX7_sapOf 1 = .ok (.iload_n 1, 1) := by decide +kernel
theorem dX7_sapOf_2 : decode cX7_sapOf 2 = .ok (.invokevirtual 161, 3) := by decide +kernel
theorem dX7_sapOf_5 : decode cX7_sapOf 5 = .ok (.ifCond .ne 29, 3) := by decide +kernel
theorem dX7_sapOf_8 : decode cX7_sapOf 8 = .ok (.aload_n 0, 1) := by decide +kernel
theorem dX7_sapOf_9 : decode cX7_sapOf 9 = .ok (.iload_n 2, 1) := by decide +kernel
theorem dX7_sapOf_10 : decode cX7_sapOf 10 = .ok (.iconst 0, 1) := by decide +kernel
theorem dX7_sapOf_11 : decode cX7_sapOf 11 = .ok (.aload_n 0, 1) := by decide +kernel
theorem dX7_sapOf_12 : decode cX7_sapOf 12 = .ok (.getfield 143, 3) := by decide +kernel
theorem dX7_sapOf_15 : decode cX7_sapOf 15 = .ok (.iconst 1, 1) := by decide +kernel
theorem dX7_sapOf_16 : decode cX7_sapOf 16 = .ok (.isub, 1) := by decide +kernel
theorem dX7_sapOf_17 : decode cX7_sapOf 17 = .ok (.invokestatic 63, 3) := by decide +kernel
theorem dX7_sapOf_20 : decode cX7_sapOf 20 = .ok (.ifCond .eq 7, 3) := by decide +kernel
theorem dX7_sapOf_23 : decode cX7_sapOf 23 = .ok (.iconst 0, 1) := by decide +kernel
theorem dX7_sapOf_24 : decode cX7_sapOf 24 = .ok (.goto 4, 3) := by decide +kernel
theorem dX7_sapOf_27 : decode cX7_sapOf 27 = .ok (.iconst 3, 1) := by decide +kernel
theorem dX7_sapOf_28 : decode cX7_sapOf 28 = .ok (.invokevirtual 71, 3) := by decide +kernel
theorem dX7_sapOf_31 : decode cX7_sapOf 31 = .ok (.ifCond .eq 7, 3) := by decide +kernel
theorem dX7_sapOf_34 : decode cX7_sapOf 34 = .ok (.iconst 0, 1) := by decide +kernel
theorem dX7_sapOf_35 : decode cX7_sapOf 35 = .ok (.goto 15, 3) := by decide +kernel
theorem dX7_sapOf_38 : decode cX7_sapOf 38 = .ok (.aload_n 0, 1) := by decide +kernel
theorem dX7_sapOf_39 : decode cX7_sapOf 39 = .ok (.getfield 38, 3) := by decide +kernel
theorem dX7_sapOf_42 : decode cX7_sapOf 42 = .ok (.sipush 200, 3) := by decide +kernel
theorem dX7_sapOf_45 : decode cX7_sapOf 45 = .ok (.iload_n 1, 1) := by decide +kernel
theorem dX7_sapOf_46 : decode cX7_sapOf 46 = .ok (.imul, 1) := by decide +kernel
theorem dX7_sapOf_47 : decode cX7_sapOf 47 = .ok (.iload_n 2, 1) := by decide +kernel
theorem dX7_sapOf_48 : decode cX7_sapOf 48 = .ok (.iadd, 1) := by decide +kernel
theorem dX7_sapOf_49 : decode cX7_sapOf 49 = .ok (.iaload, 1) := by decide +kernel
theorem dX7_sapOf_50 : decode cX7_sapOf 50 = .ok (.ireturn, 1) := by decide +kernel
theorem dX7_total_0 : decode cX7_total 0 = .ok (.iconst 0, 1) := by decide +kernel
theorem dX7_total_1 : decode cX7_total 1 = .ok (.istore_n 2, 1) := by decide +kernel
theorem dX7_total_2 : decode cX7_total 2 = .ok (.iconst 0, 1) := by decide +kernel
theorem dX7_total_3 : decode cX7_total 3 = .ok (.istore_n 3, 1) := by decide +kernel
theorem dX7_total_4 : decode cX7_total 4 = .ok (.iload_n 3, 1) := by decide +kernel
theorem dX7_total_5 : decode cX7_total 5 = .ok (.aload_n 0, 1) := by decide +kernel
theorem dX7_total_6 : decode cX7_total 6 = .ok (.getfield 143, 3) := by decide +kernel
theorem dX7_total_9 : decode cX7_total 9 = .ok (.if_icmp .ge 24, 3) := by decide +kernel
theorem dX7_total_12 : decode cX7_total 12 = .ok (.iload_n 2, 1) := by decide +kernel
theorem dX7_total_13 : decode cX7_total 13 = .ok (.aload_n 0, 1) := by decide +kernel
theorem dX7_total_14 : decode cX7_total 14 = .ok (.getfield 38, 3) := by decide +kernel
theorem dX7_total_17 : decode cX7_total 17 = .ok (.sipush 200, 3) := by decide +kernel
theorem dX7_total_20 : decode cX7_total 20 = .ok (.iload_n 1, 1) := by decide +kernel
theorem dX7_total_21 : decode cX7_total 21 = .ok (.imul, 1) := by decide +kernel
theorem dX7_total_22 : decode cX7_total 22 = .ok (.iload_n 3, 1) := by decide +kernel
theorem dX7_total_23 : decode cX7_total 23 = .ok (.iadd, 1) := by decide +kernel
theorem dX7_total_24 : decode cX7_total 24 = .ok (.iaload, 1) := by decide +kernel
theorem dX7_total_25 : decode cX7_total 25 = .ok (.iadd, 1) := by decide +kernel
theorem dX7_total_26 : decode cX7_total 26 = .ok (.istore_n 2, 1) := by decide +kernel
theorem dX7_total_27 : decode cX7_total 27 = .ok (.iinc 3 1, 3) := by decide +kernel
theorem dX7_total_30 : decode cX7_total 30 = .ok (.goto (-26), 3) := by decide +kernel
theorem dX7_total_33 : decode cX7_total 33 = .ok (.iload_n 2, 1) := by decide +kernel
theorem dX7_total_34 : decode cX7_total 34 = .ok (.ireturn, 1) := by decide +kernel
theorem dX7_totalOf_0 : decode cX7_totalOf 0 = .ok (.aload_n 0, 1) := by decide +kernel
theorem dX7_totalOf_1 : decode cX7_totalOf 1 = .ok (.iload_n 1, 1) := by decide +kernel
theorem dX7_totalOf_2 : decode cX7_totalOf 2 = .ok (.invokevirtual 161, 3) := by decide +kernel
theorem dX7_totalOf_5 : decode cX7_totalOf 5 = .ok (.ifCond .eq 7, 3) := by decide +kernel
theorem dX7_totalOf_8 : decode cX7_totalOf 8 = .ok (.iconst 0, 1) := by decide +kernel
theorem dX7_totalOf_9 : decode cX7_totalOf 9 = .ok (.goto 8, 3) := by decide +kernel
theorem dX7_totalOf_12 : decode cX7_totalOf 12 = .ok (.aload_n 0, 1) := by decide +kernel
theorem dX7_totalOf_13 : decode cX7_totalOf 13 = .ok (.iload_n 1, 1) := by decide +kernel
theorem dX7_totalOf_14 : decode cX7_totalOf 14 = .ok (.invokevirtual 164, 3) := by decide +kernel
theorem dX7_totalOf_17 : decode cX7_totalOf 17 = .ok (.ireturn, 1) := by decide +kernel
theorem dX7_tapByYield_0 : decode cX7_tapByYield 0 = .ok (.iconst 0, 1) := by decide +kernel
theorem dX7_tapByYield_1 : decode cX7_tapByYield 1 = .ok (.istore_n 2, 1) := by decide +kernel
theorem dX7_tapByYield_2 : decode cX7_tapByYield 2 = .ok (.iload_n 2, 1) := by decide +kernel
theorem dX7_tapByYield_3 : decode cX7_tapByYield 3 = .ok (.aload_n 0, 1) := by decide +kernel
theorem dX7_tapByYield_4 : decode cX7_tapByYield 4 = .ok (.getfield 7, 3) := by decide +kernel
theorem dX7_tapByYield_7 : decode cX7_tapByYield 7 = .ok (.if_icmp .ge 103, 3) := by decide +kernel
theorem dX7_tapByYield_10 : decode cX7_tapByYield 10 = .ok (.iconst 0, 1) := by decide +kernel
theorem dX7_tapByYield_11 : decode cX7_tapByYield 11 = .ok (.istore_n 3, 1) := by decide +kernel
theorem dX7_tapByYield_12 : decode cX7_tapByYield 12 = .ok (.iconst 0, 1) := by decide +kernel
theorem dX7_tapByYield_13 : decode cX7_tapByYield 13 = .ok (.istore 4, 2) := by decide +kernel
theorem dX7_tapByYield_15 : decode cX7_tapByYield 15 = .ok (.iload 4, 2) := by decide +kernel
theorem dX7_tapByYield_17 : decode cX7_tapByYield 17 = .ok (.aload_n 0, 1) := by decide +kernel
theorem dX7_tapByYield_18 : decode cX7_tapByYield 18 = .ok (.getfield 7, 3) := by decide +kernel
theorem dX7_tapByYield_21 : decode cX7_tapByYield 21 = .ok (.if_icmp .ge 62, 3) := by decide +kernel
theorem dX7_tapByYield_24 : decode cX7_tapByYield 24 = .ok (.iload_n 3, 1) := by decide +kernel
theorem dX7_tapByYield_25 : decode cX7_tapByYield 25 = .ok (.aload_n 0, 1) := by decide +kernel
theorem dX7_tapByYield_26 : decode cX7_tapByYield 26 = .ok (.getfield 13, 3) := by decide +kernel
theorem dX7_tapByYield_29 : decode cX7_tapByYield 29 = .ok (.iload 4, 2) := by decide +kernel
theorem dX7_tapByYield_31 : decode cX7_tapByYield 31 = .ok (.iaload, 1) := by decide +kernel
theorem dX7_tapByYield_32 : decode cX7_tapByYield 32 = .ok (.iconst 2, 1) := by decide +kernel
theorem dX7_tapByYield_33 : decode cX7_tapByYield 33 = .ok (.if_icmp .ne 41, 3) := by decide +kernel
theorem dX7_tapByYield_36 : decode cX7_tapByYield 36 = .ok (.aload_n 0, 1) := by decide +kernel
theorem dX7_tapByYield_37 : decode cX7_tapByYield 37 = .ok (.iload 4, 2) := by decide +kernel
theorem dX7_tapByYield_39 : decode cX7_tapByYield 39 = .ok (.invokevirtual 164, 3) := by decide +kernel
theorem dX7_tapByYield_42 : decode cX7_tapByYield 42 = .ok (.aload_n 0, 1) := by decide +kernel
theorem dX7_tapByYield_43 : decode cX7_tapByYield 43 = .ok (.iload_n 2, 1) := by decide +kernel
theorem dX7_tapByYield_44 : decode cX7_tapByYield 44 = .ok (.invokevirtual 164, 3) := by decide +kernel
theorem dX7_tapByYield_47 : decode cX7_tapByYield 47 = .ok (.if_icmp .gt 23, 3) := by decide +kernel
theorem dX7_tapByYield_50 : decode cX7_tapByYield 50 = .ok (.aload_n 0, 1) := by decide +kernel
theorem dX7_tapByYield_51 : decode cX7_tapByYield 51 = .ok (.iload 4, 2) := by decide +kernel
theorem dX7_tapByYield_53 : decode cX7_tapByYield 53 = .ok (.invokevirtual 164, 3) := by decide +kernel
theorem dX7_tapByYield_56 : decode cX7_tapByYield 56 = .ok (.aload_n 0, 1) := by decide +kernel
theorem dX7_tapByYield_57 : decode cX7_tapByYield 57 = .ok (.iload_n 2, 1) := by decide +kernel
theorem dX7_tapByYield_58 : decode cX7_tapByYield 58 = .ok (.invokevirtual 164, 3) := by decide +kernel
theorem dX7_tapByYield_61 : decode cX7_tapByYield 61 = .ok (.if_icmp .ne 13, 3) := by decide +kernel
theorem dX7_tapByYield_64 : decode cX7_tapByYield 64 = .ok (.iload 4, 2) := by decide +kernel
theorem dX7_tapByYield_66 : decode cX7_tapByYield 66 = .ok (.iload_n 2, 1) := by decide +kernel
theorem dX7_tapByYield_67 : decode cX7_tapByYield 67 = .ok (.if_icmp .ge 7, 3) := by decide +kernel
theorem dX7_tapByYield_70 : decode cX7_tapByYield 70 = .ok (.iconst 1, 1) := by decide +kernel
theorem dX7_tapByYield_71 : decode cX7_tapByYield 71 = .ok (.goto 4, 3) := by decide +kernel
theorem dX7_tapByYield_74 : decode cX7_tapByYield 74 = .ok (.iconst 0, 1) := by decide +kernel
theorem dX7_tapByYield_75 : decode cX7_tapByYield 75 = .ok (.iadd, 1) := by decide +kernel
theorem dX7_tapByYield_76 : decode cX7_tapByYield 76 = .ok (.istore_n 3, 1) := by decide +kernel
theorem dX7_tapByYield_77 : decode cX7_tapByYield 77 = .ok (.iinc 4 1, 3) := by decide +kernel
theorem dX7_tapByYield_80 : decode cX7_tapByYield 80 = .ok (.goto (-65), 3) := by decide +kernel
theorem dX7_tapByYield_83 : decode cX7_tapByYield 83 = .ok (.aload_n 0, 1) := by decide +kernel
theorem dX7_tapByYield_84 : decode cX7_tapByYield 84 = .ok (.getfield 13, 3) := by decide +kernel
theorem dX7_tapByYield_87 : decode cX7_tapByYield 87 = .ok (.iload_n 2, 1) := by decide +kernel
theorem dX7_tapByYield_88 : decode cX7_tapByYield 88 = .ok (.iaload, 1) := by decide +kernel
theorem dX7_tapByYield_89 : decode cX7_tapByYield 89 = .ok (.iconst 2, 1) := by decide +kernel
theorem dX7_tapByYield_90 : decode cX7_tapByYield 90 = .ok (.if_icmp .ne 14, 3) := by decide +kernel
theorem dX7_tapByYield_93 : decode cX7_tapByYield 93 = .ok (.iload_n 3, 1) := by decide +kernel
theorem dX7_tapByYield_94 : decode cX7_tapByYield 94 = .ok (.iload_n 1, 1) := by decide +kernel
theorem dX7_tapByYield_95 : decode cX7_tapByYield 95 = .ok (.if_icmp .ne 9, 3) := by decide +kernel
theorem dX7_tapByYield_98 : decode cX7_tapByYield 98 = .ok (.aload_n 0, 1) := by decide +kernel
theorem dX7_tapByYield_99 : decode cX7_tapByYield 99 = .ok (.iload_n 2, 1) := by decide +kernel
theorem dX7_tapByYield_100 : decode cX7_tapByYield 100 = .ok (.invokevirtual 85, 3) := by decide +kernel
theorem dX7_tapByYield_103 : decode cX7_tapByYield 103 = .ok (.ireturn, 1) := by decide +kernel
theorem dX7_tapByYield_104 : decode cX7_tapByYield 104 = .ok (.iinc 2 1, 3) := by decide +kernel
theorem dX7_tapByYield_107 : decode cX7_tapByYield 107 = .ok (.goto (-105), 3) := by decide +kernel
theorem dX7_tapByYield_110 : decode cX7_tapByYield 110 = .ok (.aload_n 0, 1) := by decide +kernel
theorem dX7_tapByYield_111 : decode cX7_tapByYield 111 = .ok (.iconst 1, 1) := by decide +kernel
theorem dX7_tapByYield_112 : decode cX7_tapByYield 112 = .ok (.putfield 60, 3) := by decide +kernel
theorem dX7_tapByYield_115 : decode cX7_tapByYield 115 = .ok (.iconst 0, 1) := by decide +kernel
theorem dX7_tapByYield_116 : decode cX7_tapByYield 116 = .ok (.ireturn, 1) := by decide +kernel
theorem dX7_addTank_0 : decode cX7_addTank 0 = .ok (.aload_n 0, 1) := by decide +kernel
theorem dX7_addTank_1 : decode cX7_addTank 1 = .ok (.iload_n 1, 1) := by decide +kernel
theorem dX7_addTank_2 : decode cX7_addTank 2 = .ok (.iconst 1, 1) := by decide +kernel
theorem dX7_addTank_3 : decode cX7_addTank 3 = .ok (.sipush 5000, 3) := by decide +kernel
theorem dX7_addTank_6 : decode cX7_addTank 6 = .ok (.invokestatic 63, 3) := by decide +kernel
theorem dX7_addTank_9 : decode cX7_addTank 9 = .ok (.ifCond .ne 7, 3) := by decide +kernel
theorem dX7_addTank_12 : decode cX7_addTank 12 = .ok (.iconst 1, 1) := by decide +kernel
theorem dX7_addTank_13 : decode cX7_addTank 13 = .ok (.goto 16, 3) := by decide +kernel
theorem dX7_addTank_16 : decode cX7_addTank 16 = .ok (.aload_n 0, 1) := by decide +kernel
theorem dX7_addTank_17 : decode cX7_addTank 17 = .ok (.getfield 111, 3) := by decide +kernel
theorem dX7_addTank_20 : decode cX7_addTank 20 = .ok (.iconst 4, 1) := by decide +kernel
theorem dX7_addTank_21 : decode cX7_addTank 21 = .ok (.if_icmp .ne 7, 3) := by decide +kernel
theorem dX7_addTank_24 : decode cX7_addTank 24 = .ok (.iconst 2, 1) := by decide +kernel
theorem dX7_addTank_25 : decode cX7_addTank 25 = .ok (.goto 4, 3) := by decide +kernel
theorem dX7_addTank_28 : decode cX7_addTank 28 = .ok (.iconst 0, 1) := by decide +kernel
theorem dX7_addTank_29 : decode cX7_addTank 29 = .ok (.invokevirtual 71, 3) := by decide +kernel
theorem dX7_addTank_32 : decode cX7_addTank 32 = .ok (.ifCond .eq 5, 3) := by decide +kernel
theorem dX7_addTank_35 : decode cX7_addTank 35 = .ok (.iconst 0, 1) := by decide +kernel
theorem dX7_addTank_36 : decode cX7_addTank 36 = .ok (.ireturn, 1) := by decide +kernel
theorem dX7_addTank_37 : decode cX7_addTank 37 = .ok (.aload_n 0, 1) := by decide +kernel
theorem dX7_addTank_38 : decode cX7_addTank 38 = .ok (.getfield 41, 3) := by decide +kernel
theorem dX7_addTank_41 : decode cX7_addTank 41 = .ok (.aload_n 0, 1) := by decide +kernel
theorem dX7_addTank_42 : decode cX7_addTank 42 = .ok (.getfield 111, 3) := by decide +kernel
theorem dX7_addTank_45 : decode cX7_addTank 45 = .ok (.iload_n 1, 1) := by decide +kernel
theorem dX7_addTank_46 : decode cX7_addTank 46 = .ok (.iastore, 1) := by decide +kernel
theorem dX7_addTank_47 : decode cX7_addTank 47 = .ok (.aload_n 0, 1) := by decide +kernel
theorem dX7_addTank_48 : decode cX7_addTank 48 = .ok (.dup, 1) := by decide +kernel
theorem dX7_addTank_49 : decode cX7_addTank 49 = .ok (.getfield 111, 3) := by decide +kernel
theorem dX7_addTank_52 : decode cX7_addTank 52 = .ok (.iconst 1, 1) := by decide +kernel
theorem dX7_addTank_53 : decode cX7_addTank 53 = .ok (.iadd, 1) := by decide +kernel
theorem dX7_addTank_54 : decode cX7_addTank 54 = .ok (.putfield 111, 3) := by decide +kernel
theorem dX7_addTank_57 : decode cX7_addTank 57 = .ok (.aload_n 0, 1) := by decide +kernel
theorem dX7_addTank_58 : decode cX7_addTank 58 = .ok (.getfield 111, 3) := by decide +kernel
theorem dX7_addTank_61 : decode cX7_addTank 61 = .ok (.iconst 1, 1) := by decide +kernel
theorem dX7_addTank_62 : decode cX7_addTank 62 = .ok (.isub, 1) := by decide +kernel
theorem dX7_addTank_63 : decode cX7_addTank 63 = .ok (.ireturn, 1) := by decide +kernel
theorem dX7_isNoTank_0 : decode cX7_isNoTank 0 = .ok (.aload_n 0, 1) := by decide +kernel
theorem dX7_isNoTank_1 : decode cX7_isNoTank 1 = .ok (.iload_n 1, 1) := by decide +kernel
theorem dX7_isNoTank_2 : decode cX7_isNoTank 2 = .ok (.iconst 0, 1) := by decide +kernel
theorem dX7_isNoTank_3 : decode cX7_isNoTank 3 = .ok (.aload_n 0, 1) := by decide +kernel
theorem dX7_isNoTank_4 : decode cX7_isNoTank 4 = .ok (.getfield 111, 3) := by decide +kernel
theorem dX7_isNoTank_7 : decode cX7_isNoTank 7 = .ok (.iconst 1, 1) := by decide +kernel
theorem dX7_isNoTank_8 : decode cX7_isNoTank 8 = .ok (.isub, 1) := by decide +kernel
theorem dX7_isNoTank_9 : decode cX7_isNoTank 9 = .ok (.invokestatic 63, 3) := by decide +kernel
theorem dX7_isNoTank_12 : decode cX7_isNoTank 12 = .ok (.ifCond .eq 7, 3) := by decide +kernel
theorem dX7_isNoTank_15 : decode cX7_isNoTank 15 = .ok (.iconst 0, 1) := by decide +kernel
theorem dX7_isNoTank_16 : decode cX7_isNoTank 16 = .ok (.goto 4, 3) := by decide +kernel
theorem dX7_isNoTank_19 : decode cX7_isNoTank 19 = .ok (.iconst 1, 1) := by decide +kernel
theorem dX7_isNoTank_20 : decode cX7_isNoTank 20 = .ok (.invokevirtual 71, 3) := by decide +kernel
theorem dX7_isNoTank_23 : decode cX7_isNoTank 23 = .ok (.ireturn, 1) := by decide +kernel
theorem dX7_drain_0 : decode cX7_drain 0 = .ok (.aload_n 0, 1) := by decide +kernel
theorem dX7_drain_1 : decode cX7_drain 1 = .ok (.iload_n 1, 1) := by decide +kernel
theorem dX7_drain_2 : decode cX7_drain 2 = .ok (.invokevirtual 167, 3) := by decide +kernel
theorem dX7_drain_5 : decode cX7_drain 5 = .ok (.ifCond .eq 5, 3) := by decide +kernel
theorem dX7_drain_8 : decode cX7_drain 8 = .ok (.iconst 0, 1) := by decide +kernel
theorem dX7_drain_9 : decode cX7_drain 9 = .ok (.ireturn, 1) := by decide +kernel
theorem dX7_drain_10 : decode cX7_drain 10 = .ok (.aload_n 0, 1) := by decide +kernel
theorem dX7_drain_11 : decode cX7_drain 11 = .ok (.getfield 44, 3) := by decide +kernel
theorem dX7_drain_14 : decode cX7_drain 14 = .ok (.iload_n 1, 1) := by decide +kernel
theorem dX7_drain_15 : decode cX7_drain 15 = .ok (.iaload, 1) := by decide +kernel
theorem dX7_drain_16 : decode cX7_drain 16 = .ok (.istore_n 2, 1) := by decide +kernel
theorem dX7_drain_17 : decode cX7_drain 17 = .ok (.aload_n 0, 1) := by decide +kernel
theorem dX7_drain_18 : decode cX7_drain 18 = .ok (.aload_n 0, 1) := by decide +kernel
theorem dX7_drain_19 : decode cX7_drain 19 = .ok (.getfield 44, 3) := by decide +kernel
theorem dX7_drain_22 : decode cX7_drain 22 = .ok (.iload_n 1, 1) := by decide +kernel
theorem dX7_drain_23 : decode cX7_drain 23 = .ok (.iaload, 1) := by decide +kernel
theorem dX7_drain_24 : decode cX7_drain 24 = .ok (.aload_n 0, 1) := by decide +kernel
theorem dX7_drain_25 : decode cX7_drain 25 = .ok (.getfield 47, 3) := by decide +kernel
theorem dX7_drain_28 : decode cX7_drain 28 = .ok (.iload_n 1, 1) := by decide +kernel
theorem dX7_drain_29 : decode cX7_drain 29 = .ok (.iaload, 1) := by decide +kernel
theorem dX7_drain_30 : decode cX7_drain 30 = .ok (.invokevirtual 114, 3) := by decide +kernel
theorem dX7_drain_33 : decode cX7_drain 33 = .ok (.aload_n 0, 1) := by decide +kernel
theorem dX7_drain_34 : decode cX7_drain 34 = .ok (.getfield 44, 3) := by decide +kernel
theorem dX7_drain_37 : decode cX7_drain 37 = .ok (.iload_n 1, 1) := by decide +kernel
theorem dX7_drain_38 : decode cX7_drain 38 = .ok (.iconst 0, 1) := by decide +kernel
theorem dX7_drain_39 : decode cX7_drain 39 = .ok (.iastore, 1) := by decide +kernel
theorem dX7_drain_40 : decode cX7_drain 40 = .ok (.aload_n 0, 1) := by decide +kernel
theorem dX7_drain_41 : decode cX7_drain 41 = .ok (.getfield 47, 3) := by decide +kernel
theorem dX7_drain_44 : decode cX7_drain 44 = .ok (.iload_n 1, 1) := by decide +kernel
theorem dX7_drain_45 : decode cX7_drain 45 = .ok (.iconst 0, 1) := by decide +kernel
theorem dX7_drain_46 : decode cX7_drain 46 = .ok (.iastore, 1) := by decide +kernel
theorem dX7_drain_47 : decode cX7_drain 47 = .ok (.iload_n 2, 1) := by decide +kernel
theorem dX7_drain_48 : decode cX7_drain 48 = .ok (.ireturn, 1) := by decide +kernel
theorem dX7_tankVolume_0 : decode cX7_tankVolume 0 = .ok (.aload_n 0, 1) := by decide +kernel
theorem dX7_tankVolume_1 : decode cX7_tankVolume 1 = .ok (.iload_n 1, 1) := by decide +kernel
theorem dX7_tankVolume_2 : decode cX7_tankVolume 2 = .ok (.invokevirtual 167, 3) := by decide +kernel
theorem dX7_tankVolume_5 : decode cX7_tankVolume 5 = .ok (.ifCond .eq 7, 3) := by decide +kernel
theorem dX7_tankVolume_8 : decode cX7_tankVolume 8 = .ok (.iconst 0, 1) := by decide +kernel
theorem dX7_tankVolume_9 : decode cX7_tankVolume 9 = .ok (.goto 9, 3) := by decide +kernel
theorem dX7_tankVolume_12 : decode cX7_tankVolume 12 = .ok (.aload_n 0, 1) := by decide +kernel
theorem dX7_tankVolume_13 : decode cX7_tankVolume 13 = .ok (.getfield 44, 3) := by decide +kernel
theorem dX7_tankVolume_16 : decode cX7_tankVolume 16 = .ok (.iload_n 1, 1) := by decide +kernel
theorem dX7_tankVolume_17 : decode cX7_tankVolume 17 = .ok (.iaload, 1) := by decide +kernel
theorem dX7_tankVolume_18 : decode cX7_tankVolume 18 = .ok (.ireturn, 1) := by decide +kernel
theorem dX7_tankSugar_0 : decode cX7_tankSugar 0 = .ok (.aload_n 0, 1) := by decide +kernel
theorem dX7_tankSugar_1 : decode cX7_tankSugar 1 = .ok (.iload_n 1, 1) := by decide +kernel
theorem dX7_tankSugar_2 : decode cX7_tankSugar 2 = .ok (.invokevirtual 167, 3) := by decide +kernel
theorem dX7_tankSugar_5 : decode cX7_tankSugar 5 = .ok (.ifCond .eq 7, 3) := by decide +kernel
theorem dX7_tankSugar_8 : decode cX7_tankSugar 8 = .ok (.iconst 0, 1) := by decide +kernel
theorem dX7_tankSugar_9 : decode cX7_tankSugar 9 = .ok (.goto 9, 3) := by decide +kernel
theorem dX7_tankSugar_12 : decode cX7_tankSugar 12 = .ok (.aload_n 0, 1) := by decide +kernel
theorem dX7_tankSugar_13 : decode cX7_tankSugar 13 = .ok (.getfield 47, 3) := by decide +kernel
theorem dX7_tankSugar_16 : decode cX7_tankSugar 16 = .ok (.iload_n 1, 1) := by decide +kernel
theorem dX7_tankSugar_17 : decode cX7_tankSugar 17 = .ok (.iaload, 1) := by decide +kernel
theorem dX7_tankSugar_18 : decode cX7_tankSugar 18 = .ok (.ireturn, 1) := by decide +kernel
theorem dX7_load_0 : decode cX7_load 0 = .ok (.aload_n 0, 1) := by decide +kernel
theorem dX7_load_1 : decode cX7_load 1 = .ok (.iload_n 1, 1) := by decide +kernel
theorem dX7_load_2 : decode cX7_load 2 = .ok (.invokevirtual 167, 3) := by decide +kernel
theorem dX7_load_5 : decode cX7_load 5 = .ok (.ifCond .ne 56, 3) := by decide +kernel
theorem dX7_load_8 : decode cX7_load 8 = .ok (.aload_n 0, 1) := by decide +kernel
theorem dX7_load_9 : decode cX7_load 9 = .ok (.iload_n 2, 1) := by decide +kernel
theorem dX7_load_10 : decode cX7_load 10 = .ok (.iconst 1, 1) := by decide +kernel
theorem dX7_load_11 : decode cX7_load 11 = .ok (.sipush 500, 3) := by decide +kernel
theorem dX7_load_14 : decode cX7_load 14 = .ok (.invokestatic 63, 3) := by decide +kernel
theorem dX7_load_17 : decode cX7_load 17 = .ok (.ifCond .ne 7, 3) := by decide +kernel
theorem dX7_load_20 : decode cX7_load 20 = .ok (.iconst 2, 1) := by decide +kernel
theorem dX7_load_21 : decode cX7_load 21 = .ok (.goto 34, 3) := by decide +kernel
theorem dX7_load_24 : decode cX7_load 24 = .ok (.iload_n 2, 1) := by decide +kernel
theorem dX7_load_25 : decode cX7_load 25 = .ok (.aload_n 0, 1) := by decide +kernel
theorem dX7_load_26 : decode cX7_load 26 = .ok (.getfield 44, 3) := by decide +kernel
theorem dX7_load_29 : decode cX7_load 29 = .ok (.iload_n 1, 1) := by decide +kernel
theorem dX7_load_30 : decode cX7_load 30 = .ok (.iaload, 1) := by decide +kernel
theorem dX7_load_31 : decode cX7_load 31 = .ok (.if_icmp .le 7, 3) := by decide +kernel
theorem dX7_load_34 : decode cX7_load 34 = .ok (.iconst 3, 1) := by decide +kernel
theorem dX7_load_35 : decode cX7_load 35 = .ok (.goto 20, 3) := by decide +kernel
theorem dX7_load_38 : decode cX7_load 38 = .ok (.aload_n 0, 1) := by decide +kernel
theorem dX7_load_39 : decode cX7_load 39 = .ok (.getfield 128, 3) := by decide +kernel
theorem dX7_load_42 : decode cX7_load 42 = .ok (.iload_n 2, 1) := by decide +kernel
theorem dX7_load_43 : decode cX7_load 43 = .ok (.iadd, 1) := by decide +kernel
theorem dX7_load_44 : decode cX7_load 44 = .ok (.sipush 500, 3) := by decide +kernel
theorem dX7_load_47 : decode cX7_load 47 = .ok (.if_icmp .le 7, 3) := by decide +kernel
theorem dX7_load_50 : decode cX7_load 50 = .ok (.iconst 4, 1) := by decide +kernel
theorem dX7_load_51 : decode cX7_load 51 = .ok (.goto 4, 3) := by decide +kernel
theorem dX7_load_54 : decode cX7_load 54 = .ok (.iconst 0, 1) := by decide +kernel
theorem dX7_load_55 : decode cX7_load 55 = .ok (.invokevirtual 71, 3) := by decide +kernel
theorem dX7_load_58 : decode cX7_load 58 = .ok (.ifCond .eq 5, 3) := by decide +kernel
theorem dX7_load_61 : decode cX7_load 61 = .ok (.iconst 0, 1) := by decide +kernel
theorem dX7_load_62 : decode cX7_load 62 = .ok (.ireturn, 1) := by decide +kernel
theorem dX7_load_63 : decode cX7_load 63 = .ok (.aload_n 0, 1) := by decide +kernel
theorem dX7_load_64 : decode cX7_load 64 = .ok (.getfield 47, 3) := by decide +kernel
theorem dX7_load_67 : decode cX7_load 67 = .ok (.iload_n 1, 1) := by decide +kernel
theorem dX7_load_68 : decode cX7_load 68 = .ok (.iaload, 1) := by decide +kernel
theorem dX7_load_69 : decode cX7_load 69 = .ok (.i2l, 1) := by decide +kernel
theorem dX7_load_70 : decode cX7_load 70 = .ok (.iload_n 2, 1) := by decide +kernel
theorem dX7_load_71 : decode cX7_load 71 = .ok (.i2l, 1) := by decide +kernel
theorem dX7_load_72 : decode cX7_load 72 = .ok (.lmul, 1) := by decide +kernel
theorem dX7_load_73 : decode cX7_load 73 = .ok (.aload_n 0, 1) := by decide +kernel
theorem dX7_load_74 : decode cX7_load 74 = .ok (.getfield 44, 3) := by decide +kernel
theorem dX7_load_77 : decode cX7_load 77 = .ok (.iload_n 1, 1) := by decide +kernel
theorem dX7_load_78 : decode cX7_load 78 = .ok (.iaload, 1) := by decide +kernel
theorem dX7_load_79 : decode cX7_load 79 = .ok (.i2l, 1) := by decide +kernel
theorem dX7_load_80 : decode cX7_load 80 = .ok (.ldiv, 1) := by decide +kernel
theorem dX7_load_81 : decode cX7_load 81 = .ok (.l2i, 1) := by decide +kernel
theorem dX7_load_82 : decode cX7_load 82 = .ok (.istore_n 3, 1) := by decide +kernel
theorem dX7_load_83 : decode cX7_load 83 = .ok (.aload_n 0, 1) := by decide +kernel
theorem dX7_load_84 : decode cX7_load 84 = .ok (.getfield 44, 3) := by decide +kernel
theorem dX7_load_87 : decode cX7_load 87 = .ok (.iload_n 1, 1) := by decide +kernel
theorem dX7_load_88 : decode cX7_load 88 = .ok (.dup2, 1) := by decide +kernel
theorem dX7_load_89 : decode cX7_load 89 = .ok (.iaload, 1) := by decide +kernel
theorem dX7_load_90 : decode cX7_load 90 = .ok (.iload_n 2, 1) := by decide +kernel
theorem dX7_load_91 : decode cX7_load 91 = .ok (.isub, 1) := by decide +kernel
theorem dX7_load_92 : decode cX7_load 92 = .ok (.iastore, 1) := by decide +kernel
theorem dX7_load_93 : decode cX7_load 93 = .ok (.aload_n 0, 1) := by decide +kernel
theorem dX7_load_94 : decode cX7_load 94 = .ok (.getfield 47, 3) := by decide +kernel
theorem dX7_load_97 : decode cX7_load 97 = .ok (.iload_n 1, 1) := by decide +kernel
theorem dX7_load_98 : decode cX7_load 98 = .ok (.dup2, 1) := by decide +kernel
theorem dX7_load_99 : decode cX7_load 99 = .ok (.iaload, 1) := by decide +kernel
theorem dX7_load_100 : decode cX7_load 100 = .ok (.iload_n 3, 1) := by decide +kernel
theorem dX7_load_101 : decode cX7_load 101 = .ok (.isub, 1) := by decide +kernel
theorem dX7_load_102 : decode cX7_load 102 = .ok (.iastore, 1) := by decide +kernel
theorem dX7_load_103 : decode cX7_load 103 = .ok (.aload_n 0, 1) := by decide +kernel
theorem dX7_load_104 : decode cX7_load 104 = .ok (.dup, 1) := by decide +kernel
theorem dX7_load_105 : decode cX7_load 105 = .ok (.getfield 128, 3) := by decide +kernel
theorem dX7_load_108 : decode cX7_load 108 = .ok (.iload_n 2, 1) := by decide +kernel
theorem dX7_load_109 : decode cX7_load 109 = .ok (.iadd, 1) := by decide +kernel
theorem dX7_load_110 : decode cX7_load 110 = .ok (.putfield 128, 3) := by decide +kernel
theorem dX7_load_113 : decode cX7_load 113 = .ok (.aload_n 0, 1) := by decide +kernel
theorem dX7_load_114 : decode cX7_load 114 = .ok (.dup, 1) := by decide +kernel
theorem dX7_load_115 : decode cX7_load 115 = .ok (.getfield 131, 3) := by decide +kernel
theorem dX7_load_118 : decode cX7_load 118 = .ok (.iload_n 3, 1) := by decide +kernel
theorem dX7_load_119 : decode cX7_load 119 = .ok (.iadd, 1) := by decide +kernel
theorem dX7_load_120 : decode cX7_load 120 = .ok (.putfield 131, 3) := by decide +kernel
theorem dX7_load_123 : decode cX7_load 123 = .ok (.aload_n 0, 1) := by decide +kernel
theorem dX7_load_124 : decode cX7_load 124 = .ok (.getfield 128, 3) := by decide +kernel
theorem dX7_load_127 : decode cX7_load 127 = .ok (.ireturn, 1) := by decide +kernel
theorem dX7_setFire_0 : decode cX7_setFire 0 = .ok (.aload_n 0, 1) := by decide +kernel
theorem dX7_setFire_1 : decode cX7_setFire 1 = .ok (.iload_n 1, 1) := by decide +kernel
theorem dX7_setFire_2 : decode cX7_setFire 2 = .ok (.iconst 0, 1) := by decide +kernel
theorem dX7_setFire_3 : decode cX7_setFire 3 = .ok (.bipush 9, 2) := by decide +kernel
theorem dX7_setFire_5 : decode cX7_setFire 5 = .ok (.invokestatic 63, 3) := by decide +kernel
theorem dX7_setFire_8 : decode cX7_setFire 8 = .ok (.ifCond .eq 7, 3) := by decide +kernel
theorem dX7_setFire_11 : decode cX7_setFire 11 = .ok (.iconst 0, 1) := by decide +kernel
theorem dX7_setFire_12 : decode cX7_setFire 12 = .ok (.goto 4, 3) := by decide +kernel
theorem dX7_setFire_15 : decode cX7_setFire 15 = .ok (.iconst 1, 1) := by decide +kernel
theorem dX7_setFire_16 : decode cX7_setFire 16 = .ok (.invokevirtual 71, 3) := by decide +kernel
theorem dX7_setFire_19 : decode cX7_setFire 19 = .ok (.ifCond .eq 5, 3) := by decide +kernel
theorem dX7_setFire_22 : decode cX7_setFire 22 = .ok (.iconst 0, 1) := by decide +kernel
theorem dX7_setFire_23 : decode cX7_setFire 23 = .ok (.ireturn, 1) := by decide +kernel
theorem dX7_setFire_24 : decode cX7_setFire 24 = .ok (.aload_n 0, 1) := by decide +kernel
theorem dX7_setFire_25 : decode cX7_setFire 25 = .ok (.getfield 125, 3) := by decide +kernel
theorem dX7_setFire_28 : decode cX7_setFire 28 = .ok (.istore_n 2, 1) := by decide +kernel
theorem dX7_setFire_29 : decode cX7_setFire 29 = .ok (.aload_n 0, 1) := by decide +kernel
theorem dX7_setFire_30 : decode cX7_setFire 30 = .ok (.iload_n 1, 1) := by decide +kernel
theorem dX7_setFire_31 : decode cX7_setFire 31 = .ok (.putfield 125, 3) := by decide +kernel
theorem dX7_setFire_34 : decode cX7_setFire 34 = .ok (.iload_n 2, 1) := by decide +kernel
theorem dX7_setFire_35 : decode cX7_setFire 35 = .ok (.ireturn, 1) := by decide +kernel
theorem dX7_panVolume_0 : decode cX7_panVolume 0 = .ok (.aload_n 0, 1) := by decide +kernel
theorem dX7_panVolume_1 : decode cX7_panVolume 1 = .ok (.aload_n 0, 1) := by decide +kernel
theorem dX7_panVolume_2 : decode cX7_panVolume 2 = .ok (.getfield 128, 3) := by decide +kernel
theorem dX7_panVolume_5 : decode cX7_panVolume 5 = .ok (.invokevirtual 85, 3) := by decide +kernel
theorem dX7_panVolume_8 : decode cX7_panVolume 8 = .ok (.ireturn, 1) := by decide +kernel
theorem dX7_panSugar_0 : decode cX7_panSugar 0 = .ok (.aload_n 0, 1) := by decide +kernel
theorem dX7_panSugar_1 : decode cX7_panSugar 1 = .ok (.aload_n 0, 1) := by decide +kernel
theorem dX7_panSugar_2 : decode cX7_panSugar 2 = .ok (.getfield 131, 3) := by decide +kernel
theorem dX7_panSugar_5 : decode cX7_panSugar 5 = .ok (.invokevirtual 85, 3) := by decide +kernel
theorem dX7_panSugar_8 : decode cX7_panSugar 8 = .ok (.ireturn, 1) := by decide +kernel
theorem dX7_isDone_0 : decode cX7_isDone 0 = .ok (.aload_n 0, 1) := by decide +kernel
theorem dX7_isDone_1 : decode cX7_isDone 1 = .ok (.getfield 128, 3) := by decide +kernel
theorem dX7_isDone_4 : decode cX7_isDone 4 = .ok (.ifCond .le 21, 3) := by decide +kernel
theorem dX7_isDone_7 : decode cX7_isDone 7 = .ok (.aload_n 0, 1) := by decide +kernel
theorem dX7_isDone_8 : decode cX7_isDone 8 = .ok (.getfield 128, 3) := by decide +kernel
theorem dX7_isDone_11 : decode cX7_isDone 11 = .ok (.aload_n 0, 1) := by decide +kernel
theorem dX7_isDone_12 : decode cX7_isDone 12 = .ok (.getfield 131, 3) := by decide +kernel
theorem dX7_isDone_15 : decode cX7_isDone 15 = .ok (.invokestatic 134, 3) := by decide +kernel
theorem dX7_isDone_18 : decode cX7_isDone 18 = .ok (.if_icmp .gt 7, 3) := by decide +kernel
theorem dX7_isDone_21 : decode cX7_isDone 21 = .ok (.iconst 1, 1) := by decide +kernel
theorem dX7_isDone_22 : decode cX7_isDone 22 = .ok (.goto 4, 3) := by decide +kernel
theorem dX7_isDone_25 : decode cX7_isDone 25 = .ok (.iconst 0, 1) := by decide +kernel
theorem dX7_isDone_26 : decode cX7_isDone 26 = .ok (.ireturn, 1) := by decide +kernel
theorem dX7_isReady_0 : decode cX7_isReady 0 = .ok (.aload_n 0, 1) := by decide +kernel
theorem dX7_isReady_1 : decode cX7_isReady 1 = .ok (.iconst 0, 1) := by decide +kernel
theorem dX7_isReady_2 : decode cX7_isReady 2 = .ok (.putfield 60, 3) := by decide +kernel
theorem dX7_isReady_5 : decode cX7_isReady 5 = .ok (.aload_n 0, 1) := by decide +kernel
theorem dX7_isReady_6 : decode cX7_isReady 6 = .ok (.invokevirtual 170, 3) := by decide +kernel
theorem dX7_isReady_9 : decode cX7_isReady 9 = .ok (.ireturn, 1) := by decide +kernel
theorem dX7_longs_0 : decode cX7_longs 0 = .ok (.aload_n 0, 1) := by decide +kernel
theorem dX7_longs_1 : decode cX7_longs 1 = .ok (.aload_n 0, 1) := by decide +kernel
theorem dX7_longs_2 : decode cX7_longs 2 = .ok (.getfield 128, 3) := by decide +kernel
theorem dX7_longs_5 : decode cX7_longs 5 = .ok (.ifCond .eq 17, 3) := by decide +kernel
theorem dX7_longs_8 : decode cX7_longs 8 = .ok (.aload_n 0, 1) := by decide +kernel
theorem dX7_longs_9 : decode cX7_longs 9 = .ok (.invokevirtual 170, 3) := by decide +kernel
theorem dX7_longs_12 : decode cX7_longs 12 = .ok (.ifCond .ne 14, 3) := by decide +kernel
theorem dX7_longs_15 : decode cX7_longs 15 = .ok (.aload_n 0, 1) := by decide +kernel
theorem dX7_longs_16 : decode cX7_longs 16 = .ok (.getfield 125, 3) := by decide +kernel
theorem dX7_longs_19 : decode cX7_longs 19 = .ok (.ifCond .ne 7, 3) := by decide +kernel
theorem dX7_longs_22 : decode cX7_longs 22 = .ok (.iconst 1, 1) := by decide +kernel
theorem dX7_longs_23 : decode cX7_longs 23 = .ok (.goto 4, 3) := by decide +kernel
theorem dX7_longs_26 : decode cX7_longs 26 = .ok (.iconst 0, 1) := by decide +kernel
theorem dX7_longs_27 : decode cX7_longs 27 = .ok (.invokevirtual 71, 3) := by decide +kernel
theorem dX7_longs_30 : decode cX7_longs 30 = .ok (.ifCond .ne 10, 3) := by decide +kernel
theorem dX7_longs_33 : decode cX7_longs 33 = .ok (.aload_n 0, 1) := by decide +kernel
theorem dX7_longs_34 : decode cX7_longs 34 = .ok (.invokevirtual 170, 3) := by decide +kernel
theorem dX7_longs_37 : decode cX7_longs 37 = .ok (.ifCond .eq 5, 3) := by decide +kernel
theorem dX7_longs_40 : decode cX7_longs 40 = .ok (.iconst 0, 1) := by decide +kernel
theorem dX7_longs_41 : decode cX7_longs 41 = .ok (.ireturn, 1) := by decide +kernel
theorem dX7_longs_42 : decode cX7_longs 42 = .ok (.aload_n 0, 1) := by decide +kernel
theorem dX7_longs_43 : decode cX7_longs 43 = .ok (.getfield 128, 3) := by decide +kernel
theorem dX7_longs_46 : decode cX7_longs 46 = .ok (.aload_n 0, 1) := by decide +kernel
theorem dX7_longs_47 : decode cX7_longs 47 = .ok (.getfield 131, 3) := by decide +kernel
theorem dX7_longs_50 : decode cX7_longs 50 = .ok (.invokestatic 134, 3) := by decide +kernel
theorem dX7_longs_53 : decode cX7_longs 53 = .ok (.isub, 1) := by decide +kernel
theorem dX7_longs_54 : decode cX7_longs 54 = .ok (.iconst 5, 1) := by decide +kernel
theorem dX7_longs_55 : decode cX7_longs 55 = .ok (.aload_n 0, 1) := by decide +kernel
theorem dX7_longs_56 : decode cX7_longs 56 = .ok (.getfield 125, 3) := by decide +kernel
theorem dX7_longs_59 : decode cX7_longs 59 = .ok (.imul, 1) := by decide +kernel
theorem dX7_longs_60 : decode cX7_longs 60 = .ok (.iadd, 1) := by decide +kernel
theorem dX7_longs_61 : decode cX7_longs 61 = .ok (.iconst 1, 1) := by decide +kernel
theorem dX7_longs_62 : decode cX7_longs 62 = .ok (.isub, 1) := by decide +kernel
theorem dX7_longs_63 : decode cX7_longs 63 = .ok (.iconst 5, 1) := by decide +kernel
theorem dX7_longs_64 : decode cX7_longs 64 = .ok (.aload_n 0, 1) := by decide +kernel
theorem dX7_longs_65 : decode cX7_longs 65 = .ok (.getfield 125, 3) := by decide +kernel
theorem dX7_longs_68 : decode cX7_longs 68 = .ok (.imul, 1) := by decide +kernel
theorem dX7_longs_69 : decode cX7_longs 69 = .ok (.idiv, 1) := by decide +kernel
theorem dX7_longs_70 : decode cX7_longs 70 = .ok (.ireturn, 1) := by decide +kernel
theorem dX7_hoursToReady_0 : decode cX7_hoursToReady 0 = .ok (.aload_n 0, 1) := by decide +kernel
theorem dX7_hoursToReady_1 : decode cX7_hoursToReady 1 = .ok (.invokevirtual 174, 3) := by decide +kernel
theorem dX7_hoursToReady_4 : decode cX7_hoursToReady 4 = .ok (.ireturn, 1) := by decide +kernel
theorem dX7_hoursByBoiling_0 : decode cX7_hoursByBoiling 0 = .ok (.aload_n 0, 1) := by decide +kernel
theorem dX7_hoursByBoiling_1 : decode cX7_hoursByBoiling 1 = .ok (.invokevirtual 174, 3) := by decide +kernel
theorem dX7_hoursByBoiling_4 : decode cX7_hoursByBoiling 4 = .ok (.ireturn, 1) := by decide +kernel
theorem dX7_empties_0 : decode cX7_empties 0 = .ok (.aload_n 0, 1) := by decide +kernel
theorem dX7_empties_1 : decode cX7_empties 1 = .ok (.iconst 0, 1) := by decide +kernel
theorem dX7_empties_2 : decode cX7_empties 2 = .ok (.putfield 128, 3) := by decide +kernel
theorem dX7_empties_5 : decode cX7_empties 5 = .ok (.aload_n 0, 1) := by decide +kernel
theorem dX7_empties_6 : decode cX7_empties 6 = .ok (.iconst 0, 1) := by decide +kernel
theorem dX7_empties_7 : decode cX7_empties 7 = .ok (.putfield 131, 3) := by decide +kernel
theorem dX7_empties_10 : decode cX7_empties 10 = .ok (.aload_n 0, 1) := by decide +kernel
theorem dX7_empties_11 : decode cX7_empties 11 = .ok (.iconst 0, 1) := by decide +kernel
theorem dX7_empties_12 : decode cX7_empties 12 = .ok (.putfield 140, 3) := by decide +kernel
theorem dX7_empties_15 : decode cX7_empties 15 = .ok (.return_, 1) := by decide +kernel
theorem dX7_draw_0 : decode cX7_draw 0 = .ok (.aload_n 0, 1) := by decide +kernel
theorem dX7_draw_1 : decode cX7_draw 1 = .ok (.aload_n 0, 1) := by decide +kernel
theorem dX7_draw_2 : decode cX7_draw 2 = .ok (.invokevirtual 170, 3) := by decide +kernel
theorem dX7_draw_5 : decode cX7_draw 5 = .ok (.ifCond .ne 7, 3) := by decide +kernel
theorem dX7_draw_8 : decode cX7_draw 8 = .ok (.iconst 1, 1) := by decide +kernel
theorem dX7_draw_9 : decode cX7_draw 9 = .ok (.goto 17, 3) := by decide +kernel
theorem dX7_draw_12 : decode cX7_draw 12 = .ok (.aload_n 0, 1) := by decide +kernel
theorem dX7_draw_13 : decode cX7_draw 13 = .ok (.getfield 178, 3) := by decide +kernel
theorem dX7_draw_16 : decode cX7_draw 16 = .ok (.bipush 30, 2) := by decide +kernel
theorem dX7_draw_18 : decode cX7_draw 18 = .ok (.if_icmp .ne 7, 3) := by decide +kernel
theorem dX7_draw_21 : decode cX7_draw 21 = .ok (.iconst 2, 1) := by decide +kernel
theorem dX7_draw_22 : decode cX7_draw 22 = .ok (.goto 4, 3) := by decide +kernel
theorem dX7_draw_25 : decode cX7_draw 25 = .ok (.iconst 0, 1) := by decide +kernel
theorem dX7_draw_26 : decode cX7_draw 26 = .ok (.invokevirtual 71, 3) := by decide +kernel
theorem dX7_draw_29 : decode cX7_draw 29 = .ok (.ifCond .eq 5, 3) := by decide +kernel
theorem dX7_draw_32 : decode cX7_draw 32 = .ok (.iconst 0, 1) := by decide +kernel
theorem dX7_draw_33 : decode cX7_draw 33 = .ok (.ireturn, 1) := by decide +kernel
theorem dX7_draw_34 : decode cX7_draw 34 = .ok (.aload_n 0, 1) := by decide +kernel
theorem dX7_draw_35 : decode cX7_draw 35 = .ok (.getfield 50, 3) := by decide +kernel
theorem dX7_draw_38 : decode cX7_draw 38 = .ok (.aload_n 0, 1) := by decide +kernel
theorem dX7_draw_39 : decode cX7_draw 39 = .ok (.getfield 178, 3) := by decide +kernel
theorem dX7_draw_42 : decode cX7_draw 42 = .ok (.aload_n 0, 1) := by decide +kernel
theorem dX7_draw_43 : decode cX7_draw 43 = .ok (.getfield 128, 3) := by decide +kernel
theorem dX7_draw_46 : decode cX7_draw 46 = .ok (.iastore, 1) := by decide +kernel
theorem dX7_draw_47 : decode cX7_draw 47 = .ok (.aload_n 0, 1) := by decide +kernel
theorem dX7_draw_48 : decode cX7_draw 48 = .ok (.getfield 53, 3) := by decide +kernel
theorem dX7_draw_51 : decode cX7_draw 51 = .ok (.aload_n 0, 1) := by decide +kernel
theorem dX7_draw_52 : decode cX7_draw 52 = .ok (.getfield 178, 3) := by decide +kernel
theorem dX7_draw_55 : decode cX7_draw 55 = .ok (.aload_n 0, 1) := by decide +kernel
theorem dX7_draw_56 : decode cX7_draw 56 = .ok (.getfield 131, 3) := by decide +kernel
theorem dX7_draw_59 : decode cX7_draw 59 = .ok (.iastore, 1) := by decide +kernel
theorem dX7_draw_60 : decode cX7_draw 60 = .ok (.aload_n 0, 1) := by decide +kernel
theorem dX7_draw_61 : decode cX7_draw 61 = .ok (.getfield 56, 3) := by decide +kernel
theorem dX7_draw_64 : decode cX7_draw 64 = .ok (.aload_n 0, 1) := by decide +kernel
theorem dX7_draw_65 : decode cX7_draw 65 = .ok (.getfield 178, 3) := by decide +kernel
theorem dX7_draw_68 : decode cX7_draw 68 = .ok (.aload_n 0, 1) := by decide +kernel
theorem dX7_draw_69 : decode cX7_draw 69 = .ok (.getfield 140, 3) := by decide +kernel
theorem dX7_draw_72 : decode cX7_draw 72 = .ok (.iconst 3, 1) := by decide +kernel
theorem dX7_draw_73 : decode cX7_draw 73 = .ok (.if_icmp .gt 8, 3) := by decide +kernel
theorem dX7_draw_76 : decode cX7_draw 76 = .ok (.bipush 103, 2) := by decide +kernel
theorem dX7_draw_78 : decode cX7_draw 78 = .ok (.goto 19, 3) := by decide +kernel
theorem dX7_draw_81 : decode cX7_draw 81 = .ok (.aload_n 0, 1) := by decide +kernel
theorem dX7_draw_82 : decode cX7_draw 82 = .ok (.getfield 140, 3) := by decide +kernel
theorem dX7_draw_85 : decode cX7_draw 85 = .ok (.bipush 8, 2) := by decide +kernel
theorem dX7_draw_87 : decode cX7_draw 87 = .ok (.if_icmp .gt 8, 3) := by decide +kernel
theorem dX7_draw_90 : decode cX7_draw 90 = .ok (.bipush 97, 2) := by decide +kernel
theorem dX7_draw_92 : decode cX7_draw 92 = .ok (.goto 5, 3) := by decide +kernel
theorem dX7_draw_95 : decode cX7_draw 95 = .ok (.bipush 100, 2) := by decide +kernel
theorem dX7_draw_97 : decode cX7_draw 97 = .ok (.castore, 1) := by decide +kernel
theorem dX7_draw_98 : decode cX7_draw 98 = .ok (.aload_n 0, 1) := by decide +kernel
theorem dX7_draw_99 : decode cX7_draw 99 = .ok (.dup, 1) := by decide +kernel
theorem dX7_draw_100 : decode cX7_draw 100 = .ok (.getfield 178, 3) := by decide +kernel
theorem dX7_draw_103 : decode cX7_draw 103 = .ok (.iconst 1, 1) := by decide +kernel
theorem dX7_draw_104 : decode cX7_draw 104 = .ok (.iadd, 1) := by decide +kernel
theorem dX7_draw_105 : decode cX7_draw 105 = .ok (.putfield 178, 3) := by decide +kernel
theorem dX7_draw_108 : decode cX7_draw 108 = .ok (.aload_n 0, 1) := by decide +kernel
theorem dX7_draw_109 : decode cX7_draw 109 = .ok (.invokevirtual 181, 3) := by decide +kernel
theorem dX7_draw_112 : decode cX7_draw 112 = .ok (.aload_n 0, 1) := by decide +kernel
theorem dX7_draw_113 : decode cX7_draw 113 = .ok (.getfield 178, 3) := by decide +kernel
theorem dX7_draw_116 : decode cX7_draw 116 = .ok (.iconst 1, 1) := by decide +kernel
theorem dX7_draw_117 : decode cX7_draw 117 = .ok (.isub, 1) := by decide +kernel
theorem dX7_draw_118 : decode cX7_draw 118 = .ok (.ireturn, 1) := by decide +kernel
theorem dX7_dump_0 : decode cX7_dump 0 = .ok (.aload_n 0, 1) := by decide +kernel
theorem dX7_dump_1 : decode cX7_dump 1 = .ok (.aload_n 0, 1) := by decide +kernel
theorem dX7_dump_2 : decode cX7_dump 2 = .ok (.getfield 128, 3) := by decide +kernel
theorem dX7_dump_5 : decode cX7_dump 5 = .ok (.invokevirtual 85, 3) := by decide +kernel
theorem dX7_dump_8 : decode cX7_dump 8 = .ok (.istore_n 1, 1) := by decide +kernel
theorem dX7_dump_9 : decode cX7_dump 9 = .ok (.aload_n 0, 1) := by decide +kernel
theorem dX7_dump_10 : decode cX7_dump 10 = .ok (.aload_n 0, 1) := by decide +kernel
theorem dX7_dump_11 : decode cX7_dump 11 = .ok (.getfield 128, 3) := by decide +kernel
theorem dX7_dump_14 : decode cX7_dump 14 = .ok (.aload_n 0, 1) := by decide +kernel
theorem dX7_dump_15 : decode cX7_dump 15 = .ok (.getfield 131, 3) := by decide +kernel
theorem dX7_dump_18 : decode cX7_dump 18 = .ok (.invokevirtual 114, 3) := by decide +kernel
theorem dX7_dump_21 : decode cX7_dump 21 = .ok (.aload_n 0, 1) := by decide +kernel
theorem dX7_dump_22 : decode cX7_dump 22 = .ok (.invokevirtual 181, 3) := by decide +kernel
theorem dX7_dump_25 : decode cX7_dump 25 = .ok (.iload_n 1, 1) := by decide +kernel
theorem dX7_dump_26 : decode cX7_dump 26 = .ok (.ireturn, 1) := by decide +kernel
theorem dX7_batches_0 : decode cX7_batches 0 = .ok (.aload_n 0, 1) := by decide +kernel
theorem dX7_batches_1 : decode cX7_batches 1 = .ok (.aload_n 0, 1) := by decide +kernel
theorem dX7_batches_2 : decode cX7_batches 2 = .ok (.getfield 178, 3) := by decide +kernel
theorem dX7_batches_5 : decode cX7_batches 5 = .ok (.invokevirtual 85, 3) := by decide +kernel
theorem dX7_batches_8 : decode cX7_batches 8 = .ok (.ireturn, 1) := by decide +kernel
theorem dX7_isNoBatch_0 : decode cX7_isNoBatch 0 = .ok (.aload_n 0, 1) := by decide +kernel
theorem dX7_isNoBatch_1 : decode cX7_isNoBatch 1 = .ok (.iload_n 1, 1) := by decide +kernel
theorem dX7_isNoBatch_2 : decode cX7_isNoBatch 2 = .ok (.iconst 0, 1) := by decide +kernel
theorem dX7_isNoBatch_3 : decode cX7_isNoBatch 3 = .ok (.aload_n 0, 1) := by decide +kernel
theorem dX7_isNoBatch_4 : decode cX7_isNoBatch 4 = .ok (.getfield 178, 3) := by decide +kernel
theorem dX7_isNoBatch_7 : decode cX7_isNoBatch 7 = .ok (.iconst 1, 1) := by decide +kernel
theorem dX7_isNoBatch_8 : decode cX7_isNoBatch 8 = .ok (.isub, 1) := by decide +kernel
theorem dX7_isNoBatch_9 : decode cX7_isNoBatch 9 = .ok (.invokestatic 63, 3) := by decide +kernel
theorem dX7_isNoBatch_12 : decode cX7_isNoBatch 12 = .ok (.ifCond .eq 7, 3) := by decide +kernel
theorem dX7_isNoBatch_15 : decode cX7_isNoBatch 15 = .ok (.iconst 0, 1) := by decide +kernel
theorem dX7_isNoBatch_16 : decode cX7_isNoBatch 16 = .ok (.goto 4, 3) := by decide +kernel
theorem dX7_isNoBatch_19 : decode cX7_isNoBatch 19 = .ok (.iconst 1, 1) := by decide +kernel
theorem dX7_isNoBatch_20 : decode cX7_isNoBatch 20 = .ok (.invokevirtual 71, 3) := by decide +kernel
theorem dX7_isNoBatch_23 : decode cX7_isNoBatch 23 = .ok (.ireturn, 1) := by decide +kernel
theorem dX7_batchVolume_0 : decode cX7_batchVolume 0 = .ok (.aload_n 0, 1) := by decide +kernel
theorem dX7_batchVolume_1 : decode cX7_batchVolume 1 = .ok (.iload_n 1, 1) := by decide +kernel
theorem dX7_batchVolume_2 : decode cX7_batchVolume 2 = .ok (.invokevirtual 184, 3) := by decide +kernel
theorem dX7_batchVolume_5 : decode cX7_batchVolume 5 = .ok (.ifCond .eq 7, 3) := by decide +kernel
theorem dX7_batchVolume_8 : decode cX7_batchVolume 8 = .ok (.iconst 0, 1) := by decide +kernel
theorem dX7_batchVolume_9 : decode cX7_batchVolume 9 = .ok (.goto 9, 3) := by decide +kernel
theorem dX7_batchVolume_12 : decode cX7_batchVolume 12 = .ok (.aload_n 0, 1) := by decide +kernel
theorem dX7_batchVolume_13 : decode cX7_batchVolume 13 = .ok (.getfield 50, 3) := by decide +kernel
theorem dX7_batchVolume_16 : decode cX7_batchVolume 16 = .ok (.iload_n 1, 1) := by decide +kernel
theorem dX7_batchVolume_17 : decode cX7_batchVolume 17 = .ok (.iaload, 1) := by decide +kernel
theorem dX7_batchVolume_18 : decode cX7_batchVolume 18 = .ok (.ireturn, 1) := by decide +kernel
theorem dX7_gradeOf_0 : decode cX7_gradeOf 0 = .ok (.aload_n 0, 1) := by decide +kernel
theorem dX7_gradeOf_1 : decode cX7_gradeOf 1 = .ok (.iload_n 1, 1) := by decide +kernel
theorem dX7_gradeOf_2 : decode cX7_gradeOf 2 = .ok (.invokevirtual 184, 3) := by decide +kernel
theorem dX7_gradeOf_5 : decode cX7_gradeOf 5 = .ok (.ifCond .eq 8, 3) := by decide +kernel
theorem dX7_gradeOf_8 : decode cX7_gradeOf 8 = .ok (.bipush 97, 2) := by decide +kernel
theorem dX7_gradeOf_10 : decode cX7_gradeOf 10 = .ok (.goto 9, 3) := by decide +kernel
theorem dX7_gradeOf_13 : decode cX7_gradeOf 13 = .ok (.aload_n 0, 1) := by decide +kernel
theorem dX7_gradeOf_14 : decode cX7_gradeOf 14 = .ok (.getfield 56, 3) := by decide +kernel
theorem dX7_gradeOf_17 : decode cX7_gradeOf 17 = .ok (.iload_n 1, 1) := by decide +kernel
theorem dX7_gradeOf_18 : decode cX7_gradeOf 18 = .ok (.caload, 1) := by decide +kernel
theorem dX7_gradeOf_19 : decode cX7_gradeOf 19 = .ok (.ireturn, 1) := by decide +kernel
theorem dX7_totalSap_0 : decode cX7_totalSap 0 = .ok (.aload_n 0, 1) := by decide +kernel
theorem dX7_totalSap_1 : decode cX7_totalSap 1 = .ok (.aload_n 0, 1) := by decide +kernel
theorem dX7_totalSap_2 : decode cX7_totalSap 2 = .ok (.getfield 149, 3) := by decide +kernel
theorem dX7_totalSap_5 : decode cX7_totalSap 5 = .ok (.invokevirtual 187, 3) := by decide +kernel
theorem dX7_totalSap_8 : decode cX7_totalSap 8 = .ok (.lreturn, 1) := by decide +kernel
theorem dX7_steam_0 : decode cX7_steam 0 = .ok (.aload_n 0, 1) := by decide +kernel
theorem dX7_steam_1 : decode cX7_steam 1 = .ok (.aload_n 0, 1) := by decide +kernel
theorem dX7_steam_2 : decode cX7_steam 2 = .ok (.getfield 137, 3) := by decide +kernel
theorem dX7_steam_5 : decode cX7_steam 5 = .ok (.invokevirtual 187, 3) := by decide +kernel
theorem dX7_steam_8 : decode cX7_steam 8 = .ok (.lreturn, 1) := by decide +kernel
theorem dX7_loss_0 : decode cX7_loss 0 = .ok (.aload_n 0, 1) := by decide +kernel
theorem dX7_loss_1 : decode cX7_loss 1 = .ok (.aload_n 0, 1) := by decide +kernel
theorem dX7_loss_2 : decode cX7_loss 2 = .ok (.getfield 118, 3) := by decide +kernel
theorem dX7_loss_5 : decode cX7_loss 5 = .ok (.invokevirtual 187, 3) := by decide +kernel
theorem dX7_loss_8 : decode cX7_loss 8 = .ok (.lreturn, 1) := by decide +kernel
theorem dX7_missing_0 : decode cX7_missing 0 = .ok (.aload_n 0, 1) := by decide +kernel
theorem dX7_missing_1 : decode cX7_missing 1 = .ok (.getfield 149, 3) := by decide +kernel
theorem dX7_missing_4 : decode cX7_missing 4 = .ok (.aload_n 0, 1) := by decide +kernel
theorem dX7_missing_5 : decode cX7_missing 5 = .ok (.getfield 137, 3) := by decide +kernel
theorem dX7_missing_8 : decode cX7_missing 8 = .ok (.lsub, 1) := by decide +kernel
theorem dX7_missing_9 : decode cX7_missing 9 = .ok (.aload_n 0, 1) := by decide +kernel
theorem dX7_missing_10 : decode cX7_missing 10 = .ok (.getfield 128, 3) := by decide +kernel
theorem dX7_missing_13 : decode cX7_missing 13 = .ok (.i2l, 1) := by decide +kernel
theorem dX7_missing_14 : decode cX7_missing 14 = .ok (.lsub, 1) := by decide +kernel
theorem dX7_missing_15 : decode cX7_missing 15 = .ok (.lstore_n 1, 1) := by decide +kernel
theorem dX7_missing_16 : decode cX7_missing 16 = .ok (.iconst 0, 1) := by decide +kernel
theorem dX7_missing_17 : decode cX7_missing 17 = .ok (.istore_n 3, 1) := by decide +kernel
theorem dX7_missing_18 : decode cX7_missing 18 = .ok (.iload_n 3, 1) := by decide +kernel
theorem dX7_missing_19 : decode cX7_missing 19 = .ok (.aload_n 0, 1) := by decide +kernel
theorem dX7_missing_20 : decode cX7_missing 20 = .ok (.getfield 178, 3) := by decide +kernel
theorem dX7_missing_23 : decode cX7_missing 23 = .ok (.if_icmp .ge 19, 3) := by decide +kernel
theorem dX7_missing_26 : decode cX7_missing 26 = .ok (.lload_n 1, 1) := by decide +kernel
theorem dX7_missing_27 : decode cX7_missing 27 = .ok (.aload_n 0, 1) := by decide +kernel
theorem dX7_missing_28 : decode cX7_missing 28 = .ok (.getfield 50, 3) := by decide +kernel
theorem dX7_missing_31 : decode cX7_missing 31 = .ok (.iload_n 3, 1) := by decide +kernel
theorem dX7_missing_32 : decode cX7_missing 32 = .ok (.iaload, 1) := by decide +kernel
theorem dX7_missing_33 : decode cX7_missing 33 = .ok (.i2l, 1) := by decide +kernel
theorem dX7_missing_34 : decode cX7_missing 34 = .ok (.lsub, 1) := by decide +kernel
theorem dX7_missing_35 : decode cX7_missing 35 = .ok (.lstore_n 1, 1) := by decide +kernel
theorem dX7_missing_36 : decode cX7_missing 36 = .ok (.iinc 3 1, 3) := by decide +kernel
theorem dX7_missing_39 : decode cX7_missing 39 = .ok (.goto (-21), 3) := by decide +kernel
theorem dX7_missing_42 : decode cX7_missing 42 = .ok (.iconst 0, 1) := by decide +kernel
theorem dX7_missing_43 : decode cX7_missing 43 = .ok (.istore_n 3, 1) := by decide +kernel
theorem dX7_missing_44 : decode cX7_missing 44 = .ok (.iload_n 3, 1) := by decide +kernel
theorem dX7_missing_45 : decode cX7_missing 45 = .ok (.aload_n 0, 1) := by decide +kernel
theorem dX7_missing_46 : decode cX7_missing 46 = .ok (.getfield 111, 3) := by decide +kernel
theorem dX7_missing_49 : decode cX7_missing 49 = .ok (.if_icmp .ge 19, 3) := by decide +kernel
theorem dX7_missing_52 : decode cX7_missing 52 = .ok (.lload_n 1, 1) := by decide +kernel
theorem dX7_missing_53 : decode cX7_missing 53 = .ok (.aload_n 0, 1) := by decide +kernel
theorem dX7_missing_54 : decode cX7_missing 54 = .ok (.getfield 44, 3) := by decide +kernel
theorem dX7_missing_57 : decode cX7_missing 57 = .ok (.iload_n 3, 1) := by decide +kernel
theorem dX7_missing_58 : decode cX7_missing 58 = .ok (.iaload, 1) := by decide +kernel
theorem dX7_missing_59 : decode cX7_missing 59 = .ok (.i2l, 1) := by decide +kernel
theorem dX7_missing_60 : decode cX7_missing 60 = .ok (.lsub, 1) := by decide +kernel
theorem dX7_missing_61 : decode cX7_missing 61 = .ok (.lstore_n 1, 1) := by decide +kernel
theorem dX7_missing_62 : decode cX7_missing 62 = .ok (.iinc 3 1, 3) := by decide +kernel
theorem dX7_missing_65 : decode cX7_missing 65 = .ok (.goto (-21), 3) := by decide +kernel
theorem dX7_missing_68 : decode cX7_missing 68 = .ok (.lload_n 1, 1) := by decide +kernel
theorem dX7_missing_69 : decode cX7_missing 69 = .ok (.lreturn, 1) := by decide +kernel
theorem dX7_lossByBalance_0 : decode cX7_lossByBalance 0 = .ok (.aload_n 0, 1) := by decide +kernel
theorem dX7_lossByBalance_1 : decode cX7_lossByBalance 1 = .ok (.aload_n 0, 1) := by decide +kernel
theorem dX7_lossByBalance_2 : decode cX7_lossByBalance 2 = .ok (.invokevirtual 191, 3) := by decide +kernel
theorem dX7_lossByBalance_5 : decode cX7_lossByBalance 5 = .ok (.invokevirtual 187, 3) := by decide +kernel
theorem dX7_lossByBalance_8 : decode cX7_lossByBalance 8 = .ok (.lreturn, 1) := by decide +kernel
theorem dX7_lostSugar_0 : decode cX7_lostSugar 0 = .ok (.aload_n 0, 1) := by decide +kernel
theorem dX7_lostSugar_1 : decode cX7_lostSugar 1 = .ok (.aload_n 0, 1) := by decide +kernel
theorem dX7_lostSugar_2 : decode cX7_lostSugar 2 = .ok (.getfield 122, 3) := by decide +kernel
theorem dX7_lostSugar_5 : decode cX7_lostSugar 5 = .ok (.invokevirtual 187, 3) := by decide +kernel
theorem dX7_lostSugar_8 : decode cX7_lostSugar 8 = .ok (.lreturn, 1) := by decide +kernel
theorem dX7_isBalanced_0 : decode cX7_isBalanced 0 = .ok (.aload_n 0, 1) := by decide +kernel
theorem dX7_isBalanced_1 : decode cX7_isBalanced 1 = .ok (.iconst 0, 1) := by decide +kernel
theorem dX7_isBalanced_2 : decode cX7_isBalanced 2 = .ok (.putfield 60, 3) := by decide +kernel
theorem dX7_isBalanced_5 : decode cX7_isBalanced 5 = .ok (.aload_n 0, 1) := by decide +kernel
theorem dX7_isBalanced_6 : decode cX7_isBalanced 6 = .ok (.getfield 152, 3) := by decide +kernel
theorem dX7_isBalanced_9 : decode cX7_isBalanced 9 = .ok (.aload_n 0, 1) := by decide +kernel
theorem dX7_isBalanced_10 : decode cX7_isBalanced 10 = .ok (.getfield 122, 3) := by decide +kernel
theorem dX7_isBalanced_13 : decode cX7_isBalanced 13 = .ok (.lsub, 1) := by decide +kernel
theorem dX7_isBalanced_14 : decode cX7_isBalanced 14 = .ok (.aload_n 0, 1) := by decide +kernel
theorem dX7_isBalanced_15 : decode cX7_isBalanced 15 = .ok (.getfield 131, 3) := by decide +kernel
theorem dX7_isBalanced_18 : decode cX7_isBalanced 18 = .ok (.i2l, 1) := by decide +kernel
theorem dX7_isBalanced_19 : decode cX7_isBalanced 19 = .ok (.lsub, 1) := by decide +kernel
theorem dX7_isBalanced_20 : decode cX7_isBalanced 20 = .ok (.lstore_n 1, 1) := by decide +kernel
theorem dX7_isBalanced_21 : decode cX7_isBalanced 21 = .ok (.iconst 0, 1) := by decide +kernel
theorem dX7_isBalanced_22 : decode cX7_isBalanced 22 = .ok (.istore_n 3, 1) := by decide +kernel
theorem dX7_isBalanced_23 : decode cX7_isBalanced 23 = .ok (.iload_n 3, 1) := by decide +kernel
theorem dX7_isBalanced_24 : decode cX7_isBalanced 24 = .ok (.aload_n 0, 1) := by decide +kernel
theorem dX7_isBalanced_25 : decode cX7_isBalanced 25 = .ok (.getfield 178, 3) := by decide +kernel
theorem dX7_isBalanced_28 : decode cX7_isBalanced 28 = .ok (.if_icmp .ge 19, 3) := by decide +kernel
theorem dX7_isBalanced_31 : decode cX7_isBalanced 31 = .ok (.lload_n 1, 1) := by decide +kernel
theorem dX7_isBalanced_32 : decode cX7_isBalanced 32 = .ok (.aload_n 0, 1) := by decide +kernel
theorem dX7_isBalanced_33 : decode cX7_isBalanced 33 = .ok (.getfield 53, 3) := by decide +kernel
theorem dX7_isBalanced_36 : decode cX7_isBalanced 36 = .ok (.iload_n 3, 1) := by decide +kernel
theorem dX7_isBalanced_37 : decode cX7_isBalanced 37 = .ok (.iaload, 1) := by decide +kernel
theorem dX7_isBalanced_38 : decode cX7_isBalanced 38 = .ok (.i2l, 1) := by decide +kernel
theorem dX7_isBalanced_39 : decode cX7_isBalanced 39 = .ok (.lsub, 1) := by decide +kernel
theorem dX7_isBalanced_40 : decode cX7_isBalanced 40 = .ok (.lstore_n 1, 1) := by decide +kernel
theorem dX7_isBalanced_41 : decode cX7_isBalanced 41 = .ok (.iinc 3 1, 3) := by decide +kernel
theorem dX7_isBalanced_44 : decode cX7_isBalanced 44 = .ok (.goto (-21), 3) := by decide +kernel
theorem dX7_isBalanced_47 : decode cX7_isBalanced 47 = .ok (.iconst 0, 1) := by decide +kernel
theorem dX7_isBalanced_48 : decode cX7_isBalanced 48 = .ok (.istore_n 3, 1) := by decide +kernel
theorem dX7_isBalanced_49 : decode cX7_isBalanced 49 = .ok (.iload_n 3, 1) := by decide +kernel
theorem dX7_isBalanced_50 : decode cX7_isBalanced 50 = .ok (.aload_n 0, 1) := by decide +kernel
theorem dX7_isBalanced_51 : decode cX7_isBalanced 51 = .ok (.getfield 111, 3) := by decide +kernel
theorem dX7_isBalanced_54 : decode cX7_isBalanced 54 = .ok (.if_icmp .ge 19, 3) := by decide +kernel
theorem dX7_isBalanced_57 : decode cX7_isBalanced 57 = .ok (.lload_n 1, 1) := by decide +kernel
theorem dX7_isBalanced_58 : decode cX7_isBalanced 58 = .ok (.aload_n 0, 1) := by decide +kernel
theorem dX7_isBalanced_59 : decode cX7_isBalanced 59 = .ok (.getfield 47, 3) := by decide +kernel
theorem dX7_isBalanced_62 : decode cX7_isBalanced 62 = .ok (.iload_n 3, 1) := by decide +kernel
theorem dX7_isBalanced_63 : decode cX7_isBalanced 63 = .ok (.iaload, 1) := by decide +kernel
theorem dX7_isBalanced_64 : decode cX7_isBalanced 64 = .ok (.i2l, 1) := by decide +kernel
theorem dX7_isBalanced_65 : decode cX7_isBalanced 65 = .ok (.lsub, 1) := by decide +kernel
theorem dX7_isBalanced_66 : decode cX7_isBalanced 66 = .ok (.lstore_n 1, 1) := by decide +kernel
theorem dX7_isBalanced_67 : decode cX7_isBalanced 67 = .ok (.iinc 3 1, 3) := by decide +kernel
theorem dX7_isBalanced_70 : decode cX7_isBalanced 70 = .ok (.goto (-21), 3) := by decide +kernel
theorem dX7_isBalanced_73 : decode cX7_isBalanced 73 = .ok (.aload_n 0, 1) := by decide +kernel
theorem dX7_isBalanced_74 : decode cX7_isBalanced 74 = .ok (.invokevirtual 191, 3) := by decide +kernel
theorem dX7_isBalanced_77 : decode cX7_isBalanced 77 = .ok (.aload_n 0, 1) := by decide +kernel
theorem dX7_isBalanced_78 : decode cX7_isBalanced 78 = .ok (.getfield 118, 3) := by decide +kernel
theorem dX7_isBalanced_81 : decode cX7_isBalanced 81 = .ok (.lcmp, 1) := by decide +kernel
theorem dX7_isBalanced_82 : decode cX7_isBalanced 82 = .ok (.ifCond .ne 13, 3) := by decide +kernel
theorem dX7_isBalanced_85 : decode cX7_isBalanced 85 = .ok (.lload_n 1, 1) := by decide +kernel
theorem dX7_isBalanced_86 : decode cX7_isBalanced 86 = .ok (.lconst 0, 1) := by decide +kernel
theorem dX7_isBalanced_87 : decode cX7_isBalanced 87 = .ok (.lcmp, 1) := by decide +kernel
theorem dX7_isBalanced_88 : decode cX7_isBalanced 88 = .ok (.ifCond .ne 7, 3) := by decide +kernel
theorem dX7_isBalanced_91 : decode cX7_isBalanced 91 = .ok (.iconst 1, 1) := by decide +kernel
theorem dX7_isBalanced_92 : decode cX7_isBalanced 92 = .ok (.goto 4, 3) := by decide +kernel
theorem dX7_isBalanced_95 : decode cX7_isBalanced 95 = .ok (.iconst 0, 1) := by decide +kernel
theorem dX7_isBalanced_96 : decode cX7_isBalanced 96 = .ok (.ireturn, 1) := by decide +kernel
theorem dX7_lossShare_0 : decode cX7_lossShare 0 = .ok (.aload_n 0, 1) := by decide +kernel
theorem dX7_lossShare_1 : decode cX7_lossShare 1 = .ok (.aload_n 0, 1) := by decide +kernel
theorem dX7_lossShare_2 : decode cX7_lossShare 2 = .ok (.getfield 149, 3) := by decide +kernel
theorem dX7_lossShare_5 : decode cX7_lossShare 5 = .ok (.lconst 0, 1) := by decide +kernel
theorem dX7_lossShare_6 : decode cX7_lossShare 6 = .ok (.lcmp, 1) := by decide +kernel
theorem dX7_lossShare_7 : decode cX7_lossShare 7 = .ok (.ifCond .ne 7, 3) := by decide +kernel
theorem dX7_lossShare_10 : decode cX7_lossShare 10 = .ok (.iconst 1, 1) := by decide +kernel
theorem dX7_lossShare_11 : decode cX7_lossShare 11 = .ok (.goto 4, 3) := by decide +kernel
theorem dX7_lossShare_14 : decode cX7_lossShare 14 = .ok (.iconst 0, 1) := by decide +kernel
theorem dX7_lossShare_15 : decode cX7_lossShare 15 = .ok (.invokevirtual 71, 3) := by decide +kernel
theorem dX7_lossShare_18 : decode cX7_lossShare 18 = .ok (.ifCond .eq 7, 3) := by decide +kernel
theorem dX7_lossShare_21 : decode cX7_lossShare 21 = .ok (.fconst 0, 1) := by decide +kernel
theorem dX7_lossShare_22 : decode cX7_lossShare 22 = .ok (.goto 14, 3) := by decide +kernel
theorem dX7_lossShare_25 : decode cX7_lossShare 25 = .ok (.aload_n 0, 1) := by decide +kernel
theorem dX7_lossShare_26 : decode cX7_lossShare 26 = .ok (.getfield 118, 3) := by decide +kernel
theorem dX7_lossShare_29 : decode cX7_lossShare 29 = .ok (.l2f, 1) := by decide +kernel
theorem dX7_lossShare_30 : decode cX7_lossShare 30 = .ok (.aload_n 0, 1) := by decide +kernel
theorem dX7_lossShare_31 : decode cX7_lossShare 31 = .ok (.getfield 149, 3) := by decide +kernel
theorem dX7_lossShare_34 : decode cX7_lossShare 34 = .ok (.l2f, 1) := by decide +kernel
theorem dX7_lossShare_35 : decode cX7_lossShare 35 = .ok (.fdiv, 1) := by decide +kernel
theorem dX7_lossShare_36 : decode cX7_lossShare 36 = .ok (.freturn, 1) := by decide +kernel
theorem dX7_meanSweetness_0 : decode cX7_meanSweetness 0 = .ok (.aload_n 0, 1) := by decide +kernel
theorem dX7_meanSweetness_1 : decode cX7_meanSweetness 1 = .ok (.aload_n 0, 1) := by decide +kernel
theorem dX7_meanSweetness_2 : decode cX7_meanSweetness 2 = .ok (.getfield 149, 3) := by decide +kernel
theorem dX7_meanSweetness_5 : decode cX7_meanSweetness 5 = .ok (.lconst 0, 1) := by decide +kernel
theorem dX7_meanSweetness_6 : decode cX7_meanSweetness 6 = .ok (.lcmp, 1) := by decide +kernel
theorem dX7_meanSweetness_7 : decode cX7_meanSweetness 7 = .ok (.ifCond .ne 7, 3) := by decide +kernel
theorem dX7_meanSweetness_10 : decode cX7_meanSweetness 10 = .ok (.iconst 1, 1) := by decide +kernel
theorem dX7_meanSweetness_11 : decode cX7_meanSweetness 11 = .ok (.goto 4, 3) := by decide +kernel
theorem dX7_meanSweetness_14 : decode cX7_meanSweetness 14 = .ok (.iconst 0, 1) := by decide +kernel
theorem dX7_meanSweetness_15 : decode cX7_meanSweetness 15 = .ok (.invokevirtual 71, 3) := by decide +kernel
theorem dX7_meanSweetness_18 : decode cX7_meanSweetness 18 = .ok (.ifCond .eq 7, 3) := by decide +kernel
theorem dX7_meanSweetness_21 : decode cX7_meanSweetness 21 = .ok (.dconst 0, 1) := by decide +kernel
theorem dX7_meanSweetness_22 : decode cX7_meanSweetness 22 = .ok (.goto 14, 3) := by decide +kernel
theorem dX7_meanSweetness_25 : decode cX7_meanSweetness 25 = .ok (.aload_n 0, 1) := by decide +kernel
theorem dX7_meanSweetness_26 : decode cX7_meanSweetness 26 = .ok (.getfield 152, 3) := by decide +kernel
theorem dX7_meanSweetness_29 : decode cX7_meanSweetness 29 = .ok (.l2d, 1) := by decide +kernel
theorem dX7_meanSweetness_30 : decode cX7_meanSweetness 30 = .ok (.aload_n 0, 1) := by decide +kernel
theorem dX7_meanSweetness_31 : decode cX7_meanSweetness 31 = .ok (.getfield 149, 3) := by decide +kernel
theorem dX7_meanSweetness_34 : decode cX7_meanSweetness 34 = .ok (.l2d, 1) := by decide +kernel
theorem dX7_meanSweetness_35 : decode cX7_meanSweetness 35 = .ok (.ddiv, 1) := by decide +kernel
theorem dX7_meanSweetness_36 : decode cX7_meanSweetness 36 = .ok (.dreturn, 1) := by decide +kernel
theorem dL_addJunction_0 : decode cL_addJunction 0 = .ok (.aload_n 3, 1) := by decide +kernel
theorem dL_addJunction_1 : decode cL_addJunction 1 = .ok (.iconst 0, 1) := by decide +kernel
theorem dL_addJunction_2 : decode cL_addJunction 2 = .ok (.aload_n 0, 1) := by decide +kernel
theorem dL_addJunction_3 : decode cL_addJunction 3 = .ok (.iload_n 1, 1) := by decide +kernel
theorem dL_addJunction_4 : decode cL_addJunction 4 = .ok (.iload_n 2, 1) := by decide +kernel
theorem dL_addJunction_5 : decode cL_addJunction 5 = .ok (.invokevirtual 7, 3) := by decide +kernel
theorem dL_addJunction_8 : decode cL_addJunction 8 = .ok (.i2l, 1) := by decide +kernel
theorem dL_addJunction_9 : decode cL_addJunction 9 = .ok (.lastore, 1) := by decide +kernel
theorem dL_addJunction_10 : decode cL_addJunction 10 = .ok (.goto 19, 3) := by decide +kernel
theorem dL_addJunction_13 : decode cL_addJunction 13 = .ok (.astore 4, 2) := by decide +kernel
theorem dL_addJunction_15 : decode cL_addJunction 15 = .ok (.iconst 1, 1) := by decide +kernel
theorem dL_addJunction_16 : decode cL_addJunction 16 = .ok (.ireturn, 1) := by decide +kernel
theorem dL_addJunction_17 : decode cL_addJunction 17 = .ok (.astore 4, 2) := by decide +kernel
theorem dL_addJunction_19 : decode cL_addJunction 19 = .ok (.iconst 2, 1) := by decide +kernel
theorem dL_addJunction_20 : decode cL_addJunction 20 = .ok (.ireturn, 1) := by decide +kernel
theorem dL_addJunction_21 : decode cL_addJunction 21 = .ok (.astore 4, 2) := by decide +kernel
theorem dL_addJunction_23 : decode cL_addJunction 23 = .ok (.iconst 3, 1) := by decide +kernel
theorem dL_addJunction_24 : decode cL_addJunction 24 = .ok (.ireturn, 1) := by decide +kernel
theorem dL_addJunction_25 : decode cL_addJunction 25 = .ok (.astore 4, 2) := by decide +kernel
theorem dL_addJunction_27 : decode cL_addJunction 27 = .ok (.iconst 4, 1) := by decide +kernel
theorem dL_addJunction_28 : decode cL_addJunction 28 = .ok (.ireturn, 1) := by decide +kernel
theorem dL_addJunction_29 : decode cL_addJunction 29 = .ok (.iconst 0, 1) := by decide +kernel
theorem dL_addJunction_30 : decode cL_addJunction 30 = .ok (.ireturn, 1) := by decide +kernel
theorem dL_addTap_0 : decode cL_addTap 0 = .ok (.aload 6, 2) := by decide +kernel
theorem dL_addTap_2 : decode cL_addTap 2 = .ok (.iconst 0, 1) := by decide +kernel
theorem dL_addTap_3 : decode cL_addTap 3 = .ok (.aload_n 0, 1) := by decide +kernel
theorem dL_addTap_4 : decode cL_addTap 4 = .ok (.iload_n 1, 1) := by decide +kernel
theorem dL_addTap_5 : decode cL_addTap 5 = .ok (.iload_n 2, 1) := by decide +kernel
theorem dL_addTap_6 : decode cL_addTap 6 = .ok (.iload_n 3, 1) := by decide +kernel
theorem dL_addTap_7 : decode cL_addTap 7 = .ok (.iload 4, 2) := by decide +kernel
theorem dL_addTap_9 : decode cL_addTap 9 = .ok (.iload 5, 2) := by decide +kernel
theorem dL_addTap_11 : decode cL_addTap 11 = .ok (.invokevirtual 21, 3) := by decide +kernel
theorem dL_addTap_14 : decode cL_addTap 14 = .ok (.i2l, 1) := by decide +kernel
theorem dL_addTap_15 : decode cL_addTap 15 = .ok (.lastore, 1) := by decide +kernel
theorem dL_addTap_16 : decode cL_addTap 16 = .ok (.goto 19, 3) := by decide +kernel
theorem dL_addTap_19 : decode cL_addTap 19 = .ok (.astore 7, 2) := by decide +kernel
theorem dL_addTap_21 : decode cL_addTap 21 = .ok (.iconst 1, 1) := by decide +kernel
theorem dL_addTap_22 : decode cL_addTap 22 = .ok (.ireturn, 1) := by decide +kernel
theorem dL_addTap_23 : decode cL_addTap 23 = .ok (.astore 7, 2) := by decide +kernel
theorem dL_addTap_25 : decode cL_addTap 25 = .ok (.iconst 2, 1) := by decide +kernel
theorem dL_addTap_26 : decode cL_addTap 26 = .ok (.ireturn, 1) := by decide +kernel
theorem dL_addTap_27 : decode cL_addTap 27 = .ok (.astore 7, 2) := by decide +kernel
theorem dL_addTap_29 : decode cL_addTap 29 = .ok (.iconst 3, 1) := by decide +kernel
theorem dL_addTap_30 : decode cL_addTap 30 = .ok (.ireturn, 1) := by decide +kernel
theorem dL_addTap_31 : decode cL_addTap 31 = .ok (.astore 7, 2) := by decide +kernel
theorem dL_addTap_33 : decode cL_addTap 33 = .ok (.iconst 4, 1) := by decide +kernel
theorem dL_addTap_34 : decode cL_addTap 34 = .ok (.ireturn, 1) := by decide +kernel
theorem dL_addTap_35 : decode cL_addTap 35 = .ok (.iconst 0, 1) := by decide +kernel
theorem dL_addTap_36 : decode cL_addTap 36 = .ok (.ireturn, 1) := by decide +kernel
theorem dL_setPump_0 : decode cL_setPump 0 = .ok (.aload_n 2, 1) := by decide +kernel
theorem dL_setPump_1 : decode cL_setPump 1 = .ok (.iconst 0, 1) := by decide +kernel
theorem dL_setPump_2 : decode cL_setPump 2 = .ok (.aload_n 0, 1) := by decide +kernel
theorem dL_setPump_3 : decode cL_setPump 3 = .ok (.iload_n 1, 1) := by decide +kernel
theorem dL_setPump_4 : decode cL_setPump 4 = .ok (.invokevirtual 25, 3) := by decide +kernel
theorem dL_setPump_7 : decode cL_setPump 7 = .ok (.i2l, 1) := by decide +kernel
theorem dL_setPump_8 : decode cL_setPump 8 = .ok (.lastore, 1) := by decide +kernel
theorem dL_setPump_9 : decode cL_setPump 9 = .ok (.goto 6, 3) := by decide +kernel
theorem dL_setPump_12 : decode cL_setPump 12 = .ok (.astore_n 3, 1) := by decide +kernel
theorem dL_setPump_13 : decode cL_setPump 13 = .ok (.iconst 1, 1) := by decide +kernel
theorem dL_setPump_14 : decode cL_setPump 14 = .ok (.ireturn, 1) := by decide +kernel
theorem dL_setPump_15 : decode cL_setPump 15 = .ok (.iconst 0, 1) := by decide +kernel
theorem dL_setPump_16 : decode cL_setPump 16 = .ok (.ireturn, 1) := by decide +kernel
theorem dL_addLeak_0 : decode cL_addLeak 0 = .ok (.aload_n 3, 1) := by decide +kernel
theorem dL_addLeak_1 : decode cL_addLeak 1 = .ok (.iconst 0, 1) := by decide +kernel
theorem dL_addLeak_2 : decode cL_addLeak 2 = .ok (.aload_n 0, 1) := by decide +kernel
theorem dL_addLeak_3 : decode cL_addLeak 3 = .ok (.iload_n 1, 1) := by decide +kernel
theorem dL_addLeak_4 : decode cL_addLeak 4 = .ok (.iload_n 2, 1) := by decide +kernel
theorem dL_addLeak_5 : decode cL_addLeak 5 = .ok (.invokevirtual 29, 3) := by decide +kernel
theorem dL_addLeak_8 : decode cL_addLeak 8 = .ok (.i2l, 1) := by decide +kernel
theorem dL_addLeak_9 : decode cL_addLeak 9 = .ok (.lastore, 1) := by decide +kernel
theorem dL_addLeak_10 : decode cL_addLeak 10 = .ok (.goto 11, 3) := by decide +kernel
theorem dL_addLeak_13 : decode cL_addLeak 13 = .ok (.astore 4, 2) := by decide +kernel
theorem dL_addLeak_15 : decode cL_addLeak 15 = .ok (.iconst 1, 1) := by decide +kernel
theorem dL_addLeak_16 : decode cL_addLeak 16 = .ok (.ireturn, 1) := by decide +kernel
theorem dL_addLeak_17 : decode cL_addLeak 17 = .ok (.astore 4, 2) := by decide +kernel
theorem dL_addLeak_19 : decode cL_addLeak 19 = .ok (.iconst 2, 1) := by decide +kernel
theorem dL_addLeak_20 : decode cL_addLeak 20 = .ok (.ireturn, 1) := by decide +kernel
theorem dL_addLeak_21 : decode cL_addLeak 21 = .ok (.iconst 0, 1) := by decide +kernel
theorem dL_addLeak_22 : decode cL_addLeak 22 = .ok (.ireturn, 1) := by decide +kernel
theorem dL_repair_0 : decode cL_repair 0 = .ok (.aload_n 2, 1) := by decide +kernel
theorem dL_repair_1 : decode cL_repair 1 = .ok (.iconst 0, 1) := by decide +kernel
theorem dL_repair_2 : decode cL_repair 2 = .ok (.aload_n 0, 1) := by decide +kernel
theorem dL_repair_3 : decode cL_repair 3 = .ok (.iload_n 1, 1) := by decide +kernel
theorem dL_repair_4 : decode cL_repair 4 = .ok (.invokevirtual 32, 3) := by decide +kernel
theorem dL_repair_7 : decode cL_repair 7 = .ok (.i2l, 1) := by decide +kernel
theorem dL_repair_8 : decode cL_repair 8 = .ok (.lastore, 1) := by decide +kernel
theorem dL_repair_9 : decode cL_repair 9 = .ok (.goto 9, 3) := by decide +kernel
theorem dL_repair_12 : decode cL_repair 12 = .ok (.astore_n 3, 1) := by decide +kernel
theorem dL_repair_13 : decode cL_repair 13 = .ok (.iconst 1, 1) := by decide +kernel
theorem dL_repair_14 : decode cL_repair 14 = .ok (.ireturn, 1) := by decide +kernel
theorem dL_repair_15 : decode cL_repair 15 = .ok (.astore_n 3, 1) := by decide +kernel
theorem dL_repair_16 : decode cL_repair 16 = .ok (.iconst 2, 1) := by decide +kernel
theorem dL_repair_17 : decode cL_repair 17 = .ok (.ireturn, 1) := by decide +kernel
theorem dL_repair_18 : decode cL_repair 18 = .ok (.iconst 0, 1) := by decide +kernel
theorem dL_repair_19 : decode cL_repair 19 = .ok (.ireturn, 1) := by decide +kernel
theorem dL_vacuum_0 : decode cL_vacuum 0 = .ok (.aload_n 2, 1) := by decide +kernel
theorem dL_vacuum_1 : decode cL_vacuum 1 = .ok (.iconst 0, 1) := by decide +kernel
theorem dL_vacuum_2 : decode cL_vacuum 2 = .ok (.aload_n 0, 1) := by decide +kernel
theorem dL_vacuum_3 : decode cL_vacuum 3 = .ok (.iload_n 1, 1) := by decide +kernel
theorem dL_vacuum_4 : decode cL_vacuum 4 = .ok (.invokevirtual 37, 3) := by decide +kernel
theorem dL_vacuum_7 : decode cL_vacuum 7 = .ok (.i2l, 1) := by decide +kernel
theorem dL_vacuum_8 : decode cL_vacuum 8 = .ok (.lastore, 1) := by decide +kernel
theorem dL_vacuum_9 : decode cL_vacuum 9 = .ok (.goto 6, 3) := by decide +kernel
theorem dL_vacuum_12 : decode cL_vacuum 12 = .ok (.astore_n 3, 1) := by decide +kernel
theorem dL_vacuum_13 : decode cL_vacuum 13 = .ok (.iconst 1, 1) := by decide +kernel
theorem dL_vacuum_14 : decode cL_vacuum 14 = .ok (.ireturn, 1) := by decide +kernel
theorem dL_vacuum_15 : decode cL_vacuum 15 = .ok (.iconst 0, 1) := by decide +kernel
theorem dL_vacuum_16 : decode cL_vacuum 16 = .ok (.ireturn, 1) := by decide +kernel
theorem dL_vacuumBySweep_0 : decode cL_vacuumBySweep 0 = .ok (.aload_n 2, 1) := by decide +kernel
theorem dL_vacuumBySweep_1 : decode cL_vacuumBySweep 1 = .ok (.iconst 0, 1) := by decide +kernel
theorem dL_vacuumBySweep_2 : decode cL_vacuumBySweep 2 = .ok (.aload_n 0, 1) := by decide +kernel
theorem dL_vacuumBySweep_3 : decode cL_vacuumBySweep 3 = .ok (.iload_n 1, 1) := by decide +kernel
theorem dL_vacuumBySweep_4 : decode cL_vacuumBySweep 4 = .ok (.invokevirtual 40, 3) := by decide +kernel
theorem dL_vacuumBySweep_7 : decode cL_vacuumBySweep 7 = .ok (.i2l, 1) := by decide +kernel
theorem dL_vacuumBySweep_8 : decode cL_vacuumBySweep 8 = .ok (.lastore, 1) := by decide +kernel
theorem dL_vacuumBySweep_9 : decode cL_vacuumBySweep 9 = .ok (.goto 6, 3) := by decide +kernel
theorem dL_vacuumBySweep_12 : decode cL_vacuumBySweep 12 = .ok (.astore_n 3, 1) := by decide +kernel
theorem dL_vacuumBySweep_13 : decode cL_vacuumBySweep 13 = .ok (.iconst 1, 1) := by decide +kernel
theorem dL_vacuumBySweep_14 : decode cL_vacuumBySweep 14 = .ok (.ireturn, 1) := by decide +kernel
theorem dL_vacuumBySweep_15 : decode cL_vacuumBySweep 15 = .ok (.iconst 0, 1) := by decide +kernel
theorem dL_vacuumBySweep_16 : decode cL_vacuumBySweep 16 = .ok (.ireturn, 1) := by decide +kernel
theorem dL_expectedVacuum_0 : decode cL_expectedVacuum 0 = .ok (.aload_n 2, 1) := by decide +kernel
theorem dL_expectedVacuum_1 : decode cL_expectedVacuum 1 = .ok (.iconst 0, 1) := by decide +kernel
theorem dL_expectedVacuum_2 : decode cL_expectedVacuum 2 = .ok (.aload_n 0, 1) := by decide +kernel
theorem dL_expectedVacuum_3 : decode cL_expectedVacuum 3 = .ok (.iload_n 1, 1) := by decide +kernel
theorem dL_expectedVacuum_4 : decode cL_expectedVacuum 4 = .ok (.invokevirtual 43, 3) := by decide +kernel
theorem dL_expectedVacuum_7 : decode cL_expectedVacuum 7 = .ok (.i2l, 1) := by decide +kernel
theorem dL_expectedVacuum_8 : decode cL_expectedVacuum 8 = .ok (.lastore, 1) := by decide +kernel
theorem dL_expectedVacuum_9 : decode cL_expectedVacuum 9 = .ok (.goto 6, 3) := by decide +kernel
theorem dL_expectedVacuum_12 : decode cL_expectedVacuum 12 = .ok (.astore_n 3, 1) := by decide +kernel
theorem dL_expectedVacuum_13 : decode cL_expectedVacuum 13 = .ok (.iconst 1, 1) := by decide +kernel
theorem dL_expectedVacuum_14 : decode cL_expectedVacuum 14 = .ok (.ireturn, 1) := by decide +kernel
theorem dL_expectedVacuum_15 : decode cL_expectedVacuum 15 = .ok (.iconst 0, 1) := by decide +kernel
theorem dL_expectedVacuum_16 : decode cL_expectedVacuum 16 = .ok (.ireturn, 1) := by decide +kernel
theorem dL_suspect_0 : decode cL_suspect 0 = .ok (.aload_n 2, 1) := by decide +kernel
theorem dL_suspect_1 : decode cL_suspect 1 = .ok (.iconst 0, 1) := by decide +kernel
theorem dL_suspect_2 : decode cL_suspect 2 = .ok (.aload_n 0, 1) := by decide +kernel
theorem dL_suspect_3 : decode cL_suspect 3 = .ok (.iload_n 1, 1) := by decide +kernel
theorem dL_suspect_4 : decode cL_suspect 4 = .ok (.invokevirtual 46, 3) := by decide +kernel
theorem dL_suspect_7 : decode cL_suspect 7 = .ok (.i2l, 1) := by decide +kernel
theorem dL_suspect_8 : decode cL_suspect 8 = .ok (.lastore, 1) := by decide +kernel
theorem dL_suspect_9 : decode cL_suspect 9 = .ok (.goto 6, 3) := by decide +kernel
theorem dL_suspect_12 : decode cL_suspect 12 = .ok (.astore_n 3, 1) := by decide +kernel
theorem dL_suspect_13 : decode cL_suspect 13 = .ok (.iconst 1, 1) := by decide +kernel
theorem dL_suspect_14 : decode cL_suspect 14 = .ok (.ireturn, 1) := by decide +kernel
theorem dL_suspect_15 : decode cL_suspect 15 = .ok (.iconst 0, 1) := by decide +kernel
theorem dL_suspect_16 : decode cL_suspect 16 = .ok (.ireturn, 1) := by decide +kernel
theorem dL_depth_0 : decode cL_depth 0 = .ok (.aload_n 2, 1) := by decide +kernel
theorem dL_depth_1 : decode cL_depth 1 = .ok (.iconst 0, 1) := by decide +kernel
theorem dL_depth_2 : decode cL_depth 2 = .ok (.aload_n 0, 1) := by decide +kernel
theorem dL_depth_3 : decode cL_depth 3 = .ok (.iload_n 1, 1) := by decide +kernel
theorem dL_depth_4 : decode cL_depth 4 = .ok (.invokevirtual 49, 3) := by decide +kernel
theorem dL_depth_7 : decode cL_depth 7 = .ok (.i2l, 1) := by decide +kernel
theorem dL_depth_8 : decode cL_depth 8 = .ok (.lastore, 1) := by decide +kernel
theorem dL_depth_9 : decode cL_depth 9 = .ok (.goto 6, 3) := by decide +kernel
theorem dL_depth_12 : decode cL_depth 12 = .ok (.astore_n 3, 1) := by decide +kernel
theorem dL_depth_13 : decode cL_depth 13 = .ok (.iconst 1, 1) := by decide +kernel
theorem dL_depth_14 : decode cL_depth 14 = .ok (.ireturn, 1) := by decide +kernel
theorem dL_depth_15 : decode cL_depth 15 = .ok (.iconst 0, 1) := by decide +kernel
theorem dL_depth_16 : decode cL_depth 16 = .ok (.ireturn, 1) := by decide +kernel
theorem dL_pass_0 : decode cL_pass 0 = .ok (.aload_n 2, 1) := by decide +kernel
theorem dL_pass_1 : decode cL_pass 1 = .ok (.iconst 0, 1) := by decide +kernel
theorem dL_pass_2 : decode cL_pass 2 = .ok (.aload_n 0, 1) := by decide +kernel
theorem dL_pass_3 : decode cL_pass 3 = .ok (.iload_n 1, 1) := by decide +kernel
theorem dL_pass_4 : decode cL_pass 4 = .ok (.invokevirtual 52, 3) := by decide +kernel
theorem dL_pass_7 : decode cL_pass 7 = .ok (.i2l, 1) := by decide +kernel
theorem dL_pass_8 : decode cL_pass 8 = .ok (.lastore, 1) := by decide +kernel
theorem dL_pass_9 : decode cL_pass 9 = .ok (.goto 9, 3) := by decide +kernel
theorem dL_pass_12 : decode cL_pass 12 = .ok (.astore_n 3, 1) := by decide +kernel
theorem dL_pass_13 : decode cL_pass 13 = .ok (.iconst 1, 1) := by decide +kernel
theorem dL_pass_14 : decode cL_pass 14 = .ok (.ireturn, 1) := by decide +kernel
theorem dL_pass_15 : decode cL_pass 15 = .ok (.astore_n 3, 1) := by decide +kernel
theorem dL_pass_16 : decode cL_pass 16 = .ok (.iconst 2, 1) := by decide +kernel
theorem dL_pass_17 : decode cL_pass 17 = .ok (.ireturn, 1) := by decide +kernel
theorem dL_pass_18 : decode cL_pass 18 = .ok (.iconst 0, 1) := by decide +kernel
theorem dL_pass_19 : decode cL_pass 19 = .ok (.ireturn, 1) := by decide +kernel
theorem dL_charge_0 : decode cL_charge 0 = .ok (.aload_n 2, 1) := by decide +kernel
theorem dL_charge_1 : decode cL_charge 1 = .ok (.iconst 0, 1) := by decide +kernel
theorem dL_charge_2 : decode cL_charge 2 = .ok (.aload_n 0, 1) := by decide +kernel
theorem dL_charge_3 : decode cL_charge 3 = .ok (.iload_n 1, 1) := by decide +kernel
theorem dL_charge_4 : decode cL_charge 4 = .ok (.invokevirtual 55, 3) := by decide +kernel
theorem dL_charge_7 : decode cL_charge 7 = .ok (.i2l, 1) := by decide +kernel
theorem dL_charge_8 : decode cL_charge 8 = .ok (.lastore, 1) := by decide +kernel
theorem dL_charge_9 : decode cL_charge 9 = .ok (.goto 9, 3) := by decide +kernel
theorem dL_charge_12 : decode cL_charge 12 = .ok (.astore_n 3, 1) := by decide +kernel
theorem dL_charge_13 : decode cL_charge 13 = .ok (.iconst 1, 1) := by decide +kernel
theorem dL_charge_14 : decode cL_charge 14 = .ok (.ireturn, 1) := by decide +kernel
theorem dL_charge_15 : decode cL_charge 15 = .ok (.astore_n 3, 1) := by decide +kernel
theorem dL_charge_16 : decode cL_charge 16 = .ok (.iconst 2, 1) := by decide +kernel
theorem dL_charge_17 : decode cL_charge 17 = .ok (.ireturn, 1) := by decide +kernel
theorem dL_charge_18 : decode cL_charge 18 = .ok (.iconst 0, 1) := by decide +kernel
theorem dL_charge_19 : decode cL_charge 19 = .ok (.ireturn, 1) := by decide +kernel
theorem dL_sapOf_0 : decode cL_sapOf 0 = .ok (.aload_n 3, 1) := by decide +kernel
theorem dL_sapOf_1 : decode cL_sapOf 1 = .ok (.iconst 0, 1) := by decide +kernel
theorem dL_sapOf_2 : decode cL_sapOf 2 = .ok (.aload_n 0, 1) := by decide +kernel
theorem dL_sapOf_3 : decode cL_sapOf 3 = .ok (.iload_n 1, 1) := by decide +kernel
theorem dL_sapOf_4 : decode cL_sapOf 4 = .ok (.iload_n 2, 1) := by decide +kernel
theorem dL_sapOf_5 : decode cL_sapOf 5 = .ok (.invokevirtual 58, 3) := by decide +kernel
theorem dL_sapOf_8 : decode cL_sapOf 8 = .ok (.i2l, 1) := by decide +kernel
theorem dL_sapOf_9 : decode cL_sapOf 9 = .ok (.lastore, 1) := by decide +kernel
theorem dL_sapOf_10 : decode cL_sapOf 10 = .ok (.goto 15, 3) := by decide +kernel
theorem dL_sapOf_13 : decode cL_sapOf 13 = .ok (.astore 4, 2) := by decide +kernel
theorem dL_sapOf_15 : decode cL_sapOf 15 = .ok (.iconst 1, 1) := by decide +kernel
theorem dL_sapOf_16 : decode cL_sapOf 16 = .ok (.ireturn, 1) := by decide +kernel
theorem dL_sapOf_17 : decode cL_sapOf 17 = .ok (.astore 4, 2) := by decide +kernel
theorem dL_sapOf_19 : decode cL_sapOf 19 = .ok (.iconst 2, 1) := by decide +kernel
theorem dL_sapOf_20 : decode cL_sapOf 20 = .ok (.ireturn, 1) := by decide +kernel
theorem dL_sapOf_21 : decode cL_sapOf 21 = .ok (.astore 4, 2) := by decide +kernel
theorem dL_sapOf_23 : decode cL_sapOf 23 = .ok (.iconst 3, 1) := by decide +kernel
theorem dL_sapOf_24 : decode cL_sapOf 24 = .ok (.ireturn, 1) := by decide +kernel
theorem dL_sapOf_25 : decode cL_sapOf 25 = .ok (.iconst 0, 1) := by decide +kernel
theorem dL_sapOf_26 : decode cL_sapOf 26 = .ok (.ireturn, 1) := by decide +kernel
theorem dL_totalOf_0 : decode cL_totalOf 0 = .ok (.aload_n 2, 1) := by decide +kernel
theorem dL_totalOf_1 : decode cL_totalOf 1 = .ok (.iconst 0, 1) := by decide +kernel
theorem dL_totalOf_2 : decode cL_totalOf 2 = .ok (.aload_n 0, 1) := by decide +kernel
theorem dL_totalOf_3 : decode cL_totalOf 3 = .ok (.iload_n 1, 1) := by decide +kernel
theorem dL_totalOf_4 : decode cL_totalOf 4 = .ok (.invokevirtual 61, 3) := by decide +kernel
theorem dL_totalOf_7 : decode cL_totalOf 7 = .ok (.i2l, 1) := by decide +kernel
theorem dL_totalOf_8 : decode cL_totalOf 8 = .ok (.lastore, 1) := by decide +kernel
theorem dL_totalOf_9 : decode cL_totalOf 9 = .ok (.goto 9, 3) := by decide +kernel
theorem dL_totalOf_12 : decode cL_totalOf 12 = .ok (.astore_n 3, 1) := by decide +kernel
theorem dL_totalOf_13 : decode cL_totalOf 13 = .ok (.iconst 1, 1) := by decide +kernel
theorem dL_totalOf_14 : decode cL_totalOf 14 = .ok (.ireturn, 1) := by decide +kernel
theorem dL_totalOf_15 : decode cL_totalOf 15 = .ok (.astore_n 3, 1) := by decide +kernel
theorem dL_totalOf_16 : decode cL_totalOf 16 = .ok (.iconst 2, 1) := by decide +kernel
theorem dL_totalOf_17 : decode cL_totalOf 17 = .ok (.ireturn, 1) := by decide +kernel
theorem dL_totalOf_18 : decode cL_totalOf 18 = .ok (.iconst 0, 1) := by decide +kernel
theorem dL_totalOf_19 : decode cL_totalOf 19 = .ok (.ireturn, 1) := by decide +kernel
theorem dL_tapByYield_0 : decode cL_tapByYield 0 = .ok (.aload_n 2, 1) := by decide +kernel
theorem dL_tapByYield_1 : decode cL_tapByYield 1 = .ok (.iconst 0, 1) := by decide +kernel
theorem dL_tapByYield_2 : decode cL_tapByYield 2 = .ok (.aload_n 0, 1) := by decide +kernel
theorem dL_tapByYield_3 : decode cL_tapByYield 3 = .ok (.iload_n 1, 1) := by decide +kernel
theorem dL_tapByYield_4 : decode cL_tapByYield 4 = .ok (.invokevirtual 64, 3) := by decide +kernel
theorem dL_tapByYield_7 : decode cL_tapByYield 7 = .ok (.i2l, 1) := by decide +kernel
theorem dL_tapByYield_8 : decode cL_tapByYield 8 = .ok (.lastore, 1) := by decide +kernel
theorem dL_tapByYield_9 : decode cL_tapByYield 9 = .ok (.goto 6, 3) := by decide +kernel
theorem dL_tapByYield_12 : decode cL_tapByYield 12 = .ok (.astore_n 3, 1) := by decide +kernel
theorem dL_tapByYield_13 : decode cL_tapByYield 13 = .ok (.iconst 1, 1) := by decide +kernel
theorem dL_tapByYield_14 : decode cL_tapByYield 14 = .ok (.ireturn, 1) := by decide +kernel
theorem dL_tapByYield_15 : decode cL_tapByYield 15 = .ok (.iconst 0, 1) := by decide +kernel
theorem dL_tapByYield_16 : decode cL_tapByYield 16 = .ok (.ireturn, 1) := by decide +kernel
theorem dL_addTank_0 : decode cL_addTank 0 = .ok (.aload_n 2, 1) := by decide +kernel
theorem dL_addTank_1 : decode cL_addTank 1 = .ok (.iconst 0, 1) := by decide +kernel
theorem dL_addTank_2 : decode cL_addTank 2 = .ok (.aload_n 0, 1) := by decide +kernel
theorem dL_addTank_3 : decode cL_addTank 3 = .ok (.iload_n 1, 1) := by decide +kernel
theorem dL_addTank_4 : decode cL_addTank 4 = .ok (.invokevirtual 67, 3) := by decide +kernel
theorem dL_addTank_7 : decode cL_addTank 7 = .ok (.i2l, 1) := by decide +kernel
theorem dL_addTank_8 : decode cL_addTank 8 = .ok (.lastore, 1) := by decide +kernel
theorem dL_addTank_9 : decode cL_addTank 9 = .ok (.goto 9, 3) := by decide +kernel
theorem dL_addTank_12 : decode cL_addTank 12 = .ok (.astore_n 3, 1) := by decide +kernel
theorem dL_addTank_13 : decode cL_addTank 13 = .ok (.iconst 1, 1) := by decide +kernel
theorem dL_addTank_14 : decode cL_addTank 14 = .ok (.ireturn, 1) := by decide +kernel
theorem dL_addTank_15 : decode cL_addTank 15 = .ok (.astore_n 3, 1) := by decide +kernel
theorem dL_addTank_16 : decode cL_addTank 16 = .ok (.iconst 2, 1) := by decide +kernel
theorem dL_addTank_17 : decode cL_addTank 17 = .ok (.ireturn, 1) := by decide +kernel
theorem dL_addTank_18 : decode cL_addTank 18 = .ok (.iconst 0, 1) := by decide +kernel
theorem dL_addTank_19 : decode cL_addTank 19 = .ok (.ireturn, 1) := by decide +kernel
theorem dL_drain_0 : decode cL_drain 0 = .ok (.aload_n 2, 1) := by decide +kernel
theorem dL_drain_1 : decode cL_drain 1 = .ok (.iconst 0, 1) := by decide +kernel
theorem dL_drain_2 : decode cL_drain 2 = .ok (.aload_n 0, 1) := by decide +kernel
theorem dL_drain_3 : decode cL_drain 3 = .ok (.iload_n 1, 1) := by decide +kernel
theorem dL_drain_4 : decode cL_drain 4 = .ok (.invokevirtual 70, 3) := by decide +kernel
theorem dL_drain_7 : decode cL_drain 7 = .ok (.i2l, 1) := by decide +kernel
theorem dL_drain_8 : decode cL_drain 8 = .ok (.lastore, 1) := by decide +kernel
theorem dL_drain_9 : decode cL_drain 9 = .ok (.goto 6, 3) := by decide +kernel
theorem dL_drain_12 : decode cL_drain 12 = .ok (.astore_n 3, 1) := by decide +kernel
theorem dL_drain_13 : decode cL_drain 13 = .ok (.iconst 1, 1) := by decide +kernel
theorem dL_drain_14 : decode cL_drain 14 = .ok (.ireturn, 1) := by decide +kernel
theorem dL_drain_15 : decode cL_drain 15 = .ok (.iconst 0, 1) := by decide +kernel
theorem dL_drain_16 : decode cL_drain 16 = .ok (.ireturn, 1) := by decide +kernel
theorem dL_tankVolume_0 : decode cL_tankVolume 0 = .ok (.aload_n 2, 1) := by decide +kernel
theorem dL_tankVolume_1 : decode cL_tankVolume 1 = .ok (.iconst 0, 1) := by decide +kernel
theorem dL_tankVolume_2 : decode cL_tankVolume 2 = .ok (.aload_n 0, 1) := by decide +kernel
theorem dL_tankVolume_3 : decode cL_tankVolume 3 = .ok (.iload_n 1, 1) := by decide +kernel
theorem dL_tankVolume_4 : decode cL_tankVolume 4 = .ok (.invokevirtual 73, 3) := by decide +kernel
theorem dL_tankVolume_7 : decode cL_tankVolume 7 = .ok (.i2l, 1) := by decide +kernel
theorem dL_tankVolume_8 : decode cL_tankVolume 8 = .ok (.lastore, 1) := by decide +kernel
theorem dL_tankVolume_9 : decode cL_tankVolume 9 = .ok (.goto 6, 3) := by decide +kernel
theorem dL_tankVolume_12 : decode cL_tankVolume 12 = .ok (.astore_n 3, 1) := by decide +kernel
theorem dL_tankVolume_13 : decode cL_tankVolume 13 = .ok (.iconst 1, 1) := by decide +kernel
theorem dL_tankVolume_14 : decode cL_tankVolume 14 = .ok (.ireturn, 1) := by decide +kernel
theorem dL_tankVolume_15 : decode cL_tankVolume 15 = .ok (.iconst 0, 1) := by decide +kernel
theorem dL_tankVolume_16 : decode cL_tankVolume 16 = .ok (.ireturn, 1) := by decide +kernel
theorem dL_tankSugar_0 : decode cL_tankSugar 0 = .ok (.aload_n 2, 1) := by decide +kernel
theorem dL_tankSugar_1 : decode cL_tankSugar 1 = .ok (.iconst 0, 1) := by decide +kernel
theorem dL_tankSugar_2 : decode cL_tankSugar 2 = .ok (.aload_n 0, 1) := by decide +kernel
theorem dL_tankSugar_3 : decode cL_tankSugar 3 = .ok (.iload_n 1, 1) := by decide +kernel
theorem dL_tankSugar_4 : decode cL_tankSugar 4 = .ok (.invokevirtual 76, 3) := by decide +kernel
theorem dL_tankSugar_7 : decode cL_tankSugar 7 = .ok (.i2l, 1) := by decide +kernel
theorem dL_tankSugar_8 : decode cL_tankSugar 8 = .ok (.lastore, 1) := by decide +kernel
theorem dL_tankSugar_9 : decode cL_tankSugar 9 = .ok (.goto 6, 3) := by decide +kernel
theorem dL_tankSugar_12 : decode cL_tankSugar 12 = .ok (.astore_n 3, 1) := by decide +kernel
theorem dL_tankSugar_13 : decode cL_tankSugar 13 = .ok (.iconst 1, 1) := by decide +kernel
theorem dL_tankSugar_14 : decode cL_tankSugar 14 = .ok (.ireturn, 1) := by decide +kernel
theorem dL_tankSugar_15 : decode cL_tankSugar 15 = .ok (.iconst 0, 1) := by decide +kernel
theorem dL_tankSugar_16 : decode cL_tankSugar 16 = .ok (.ireturn, 1) := by decide +kernel
theorem dL_load_0 : decode cL_load 0 = .ok (.aload_n 3, 1) := by decide +kernel
theorem dL_load_1 : decode cL_load 1 = .ok (.iconst 0, 1) := by decide +kernel
theorem dL_load_2 : decode cL_load 2 = .ok (.aload_n 0, 1) := by decide +kernel
theorem dL_load_3 : decode cL_load 3 = .ok (.iload_n 1, 1) := by decide +kernel
theorem dL_load_4 : decode cL_load 4 = .ok (.iload_n 2, 1) := by decide +kernel
theorem dL_load_5 : decode cL_load 5 = .ok (.invokevirtual 79, 3) := by decide +kernel
theorem dL_load_8 : decode cL_load 8 = .ok (.i2l, 1) := by decide +kernel
theorem dL_load_9 : decode cL_load 9 = .ok (.lastore, 1) := by decide +kernel
theorem dL_load_10 : decode cL_load 10 = .ok (.goto 19, 3) := by decide +kernel
theorem dL_load_13 : decode cL_load 13 = .ok (.astore 4, 2) := by decide +kernel
theorem dL_load_15 : decode cL_load 15 = .ok (.iconst 1, 1) := by decide +kernel
theorem dL_load_16 : decode cL_load 16 = .ok (.ireturn, 1) := by decide +kernel
theorem dL_load_17 : decode cL_load 17 = .ok (.astore 4, 2) := by decide +kernel
theorem dL_load_19 : decode cL_load 19 = .ok (.iconst 2, 1) := by decide +kernel
theorem dL_load_20 : decode cL_load 20 = .ok (.ireturn, 1) := by decide +kernel
theorem dL_load_21 : decode cL_load 21 = .ok (.astore 4, 2) := by decide +kernel
theorem dL_load_23 : decode cL_load 23 = .ok (.iconst 3, 1) := by decide +kernel
theorem dL_load_24 : decode cL_load 24 = .ok (.ireturn, 1) := by decide +kernel
theorem dL_load_25 : decode cL_load 25 = .ok (.astore 4, 2) := by decide +kernel
theorem dL_load_27 : decode cL_load 27 = .ok (.iconst 4, 1) := by decide +kernel
theorem dL_load_28 : decode cL_load 28 = .ok (.ireturn, 1) := by decide +kernel
theorem dL_load_29 : decode cL_load 29 = .ok (.iconst 0, 1) := by decide +kernel
theorem dL_load_30 : decode cL_load 30 = .ok (.ireturn, 1) := by decide +kernel
theorem dL_setFire_0 : decode cL_setFire 0 = .ok (.aload_n 2, 1) := by decide +kernel
theorem dL_setFire_1 : decode cL_setFire 1 = .ok (.iconst 0, 1) := by decide +kernel
theorem dL_setFire_2 : decode cL_setFire 2 = .ok (.aload_n 0, 1) := by decide +kernel
theorem dL_setFire_3 : decode cL_setFire 3 = .ok (.iload_n 1, 1) := by decide +kernel
theorem dL_setFire_4 : decode cL_setFire 4 = .ok (.invokevirtual 82, 3) := by decide +kernel
theorem dL_setFire_7 : decode cL_setFire 7 = .ok (.i2l, 1) := by decide +kernel
theorem dL_setFire_8 : decode cL_setFire 8 = .ok (.lastore, 1) := by decide +kernel
theorem dL_setFire_9 : decode cL_setFire 9 = .ok (.goto 6, 3) := by decide +kernel
theorem dL_setFire_12 : decode cL_setFire 12 = .ok (.astore_n 3, 1) := by decide +kernel
theorem dL_setFire_13 : decode cL_setFire 13 = .ok (.iconst 1, 1) := by decide +kernel
theorem dL_setFire_14 : decode cL_setFire 14 = .ok (.ireturn, 1) := by decide +kernel
theorem dL_setFire_15 : decode cL_setFire 15 = .ok (.iconst 0, 1) := by decide +kernel
theorem dL_setFire_16 : decode cL_setFire 16 = .ok (.ireturn, 1) := by decide +kernel
theorem dL_hoursToReady_0 : decode cL_hoursToReady 0 = .ok (.aload_n 1, 1) := by decide +kernel
theorem dL_hoursToReady_1 : decode cL_hoursToReady 1 = .ok (.iconst 0, 1) := by decide +kernel
theorem dL_hoursToReady_2 : decode cL_hoursToReady 2 = .ok (.aload_n 0, 1) := by decide +kernel
theorem dL_hoursToReady_3 : decode cL_hoursToReady 3 = .ok (.invokevirtual 85, 3) := by decide +kernel
theorem dL_hoursToReady_6 : decode cL_hoursToReady 6 = .ok (.i2l, 1) := by decide +kernel
theorem dL_hoursToReady_7 : decode cL_hoursToReady 7 = .ok (.lastore, 1) := by decide +kernel
theorem dL_hoursToReady_8 : decode cL_hoursToReady 8 = .ok (.goto 6, 3) := by decide +kernel
theorem dL_hoursToReady_11 : decode cL_hoursToReady 11 = .ok (.astore_n 2, 1) := by decide +kernel
theorem dL_hoursToReady_12 : decode cL_hoursToReady 12 = .ok (.iconst 1, 1) := by decide +kernel
theorem dL_hoursToReady_13 : decode cL_hoursToReady 13 = .ok (.ireturn, 1) := by decide +kernel
theorem dL_hoursToReady_14 : decode cL_hoursToReady 14 = .ok (.iconst 0, 1) := by decide +kernel
theorem dL_hoursToReady_15 : decode cL_hoursToReady 15 = .ok (.ireturn, 1) := by decide +kernel
theorem dL_hoursByBoiling_0 : decode cL_hoursByBoiling 0 = .ok (.aload_n 1, 1) := by decide +kernel
theorem dL_hoursByBoiling_1 : decode cL_hoursByBoiling 1 = .ok (.iconst 0, 1) := by decide +kernel
theorem dL_hoursByBoiling_2 : decode cL_hoursByBoiling 2 = .ok (.aload_n 0, 1) := by decide +kernel
theorem dL_hoursByBoiling_3 : decode cL_hoursByBoiling 3 = .ok (.invokevirtual 89, 3) := by decide +kernel
theorem dL_hoursByBoiling_6 : decode cL_hoursByBoiling 6 = .ok (.i2l, 1) := by decide +kernel
theorem dL_hoursByBoiling_7 : decode cL_hoursByBoiling 7 = .ok (.lastore, 1) := by decide +kernel
theorem dL_hoursByBoiling_8 : decode cL_hoursByBoiling 8 = .ok (.goto 6, 3) := by decide +kernel
theorem dL_hoursByBoiling_11 : decode cL_hoursByBoiling 11 = .ok (.astore_n 2, 1) := by decide +kernel
theorem dL_hoursByBoiling_12 : decode cL_hoursByBoiling 12 = .ok (.iconst 1, 1) := by decide +kernel
theorem dL_hoursByBoiling_13 : decode cL_hoursByBoiling 13 = .ok (.ireturn, 1) := by decide +kernel
theorem dL_hoursByBoiling_14 : decode cL_hoursByBoiling 14 = .ok (.iconst 0, 1) := by decide +kernel
theorem dL_hoursByBoiling_15 : decode cL_hoursByBoiling 15 = .ok (.ireturn, 1) := by decide +kernel
theorem dL_draw_0 : decode cL_draw 0 = .ok (.aload_n 1, 1) := by decide +kernel
theorem dL_draw_1 : decode cL_draw 1 = .ok (.iconst 0, 1) := by decide +kernel
theorem dL_draw_2 : decode cL_draw 2 = .ok (.aload_n 0, 1) := by decide +kernel
theorem dL_draw_3 : decode cL_draw 3 = .ok (.invokevirtual 92, 3) := by decide +kernel
theorem dL_draw_6 : decode cL_draw 6 = .ok (.i2l, 1) := by decide +kernel
theorem dL_draw_7 : decode cL_draw 7 = .ok (.lastore, 1) := by decide +kernel
theorem dL_draw_8 : decode cL_draw 8 = .ok (.goto 9, 3) := by decide +kernel
theorem dL_draw_11 : decode cL_draw 11 = .ok (.astore_n 2, 1) := by decide +kernel
theorem dL_draw_12 : decode cL_draw 12 = .ok (.iconst 1, 1) := by decide +kernel
theorem dL_draw_13 : decode cL_draw 13 = .ok (.ireturn, 1) := by decide +kernel
theorem dL_draw_14 : decode cL_draw 14 = .ok (.astore_n 2, 1) := by decide +kernel
theorem dL_draw_15 : decode cL_draw 15 = .ok (.iconst 2, 1) := by decide +kernel
theorem dL_draw_16 : decode cL_draw 16 = .ok (.ireturn, 1) := by decide +kernel
theorem dL_draw_17 : decode cL_draw 17 = .ok (.iconst 0, 1) := by decide +kernel
theorem dL_draw_18 : decode cL_draw 18 = .ok (.ireturn, 1) := by decide +kernel
theorem dL_batchVolume_0 : decode cL_batchVolume 0 = .ok (.aload_n 2, 1) := by decide +kernel
theorem dL_batchVolume_1 : decode cL_batchVolume 1 = .ok (.iconst 0, 1) := by decide +kernel
theorem dL_batchVolume_2 : decode cL_batchVolume 2 = .ok (.aload_n 0, 1) := by decide +kernel
theorem dL_batchVolume_3 : decode cL_batchVolume 3 = .ok (.iload_n 1, 1) := by decide +kernel
theorem dL_batchVolume_4 : decode cL_batchVolume 4 = .ok (.invokevirtual 95, 3) := by decide +kernel
theorem dL_batchVolume_7 : decode cL_batchVolume 7 = .ok (.i2l, 1) := by decide +kernel
theorem dL_batchVolume_8 : decode cL_batchVolume 8 = .ok (.lastore, 1) := by decide +kernel
theorem dL_batchVolume_9 : decode cL_batchVolume 9 = .ok (.goto 6, 3) := by decide +kernel
theorem dL_batchVolume_12 : decode cL_batchVolume 12 = .ok (.astore_n 3, 1) := by decide +kernel
theorem dL_batchVolume_13 : decode cL_batchVolume 13 = .ok (.iconst 1, 1) := by decide +kernel
theorem dL_batchVolume_14 : decode cL_batchVolume 14 = .ok (.ireturn, 1) := by decide +kernel
theorem dL_batchVolume_15 : decode cL_batchVolume 15 = .ok (.iconst 0, 1) := by decide +kernel
theorem dL_batchVolume_16 : decode cL_batchVolume 16 = .ok (.ireturn, 1) := by decide +kernel
theorem dL_gradeOf_0 : decode cL_gradeOf 0 = .ok (.aload_n 2, 1) := by decide +kernel
theorem dL_gradeOf_1 : decode cL_gradeOf 1 = .ok (.iconst 0, 1) := by decide +kernel
theorem dL_gradeOf_2 : decode cL_gradeOf 2 = .ok (.aload_n 0, 1) := by decide +kernel
theorem dL_gradeOf_3 : decode cL_gradeOf 3 = .ok (.iload_n 1, 1) := by decide +kernel
theorem dL_gradeOf_4 : decode cL_gradeOf 4 = .ok (.invokevirtual 98, 3) := by decide +kernel
theorem dL_gradeOf_7 : decode cL_gradeOf 7 = .ok (.i2l, 1) := by decide +kernel
theorem dL_gradeOf_8 : decode cL_gradeOf 8 = .ok (.lastore, 1) := by decide +kernel
theorem dL_gradeOf_9 : decode cL_gradeOf 9 = .ok (.goto 6, 3) := by decide +kernel
theorem dL_gradeOf_12 : decode cL_gradeOf 12 = .ok (.astore_n 3, 1) := by decide +kernel
theorem dL_gradeOf_13 : decode cL_gradeOf 13 = .ok (.iconst 1, 1) := by decide +kernel
theorem dL_gradeOf_14 : decode cL_gradeOf 14 = .ok (.ireturn, 1) := by decide +kernel
theorem dL_gradeOf_15 : decode cL_gradeOf 15 = .ok (.iconst 0, 1) := by decide +kernel
theorem dL_gradeOf_16 : decode cL_gradeOf 16 = .ok (.ireturn, 1) := by decide +kernel
theorem dL_lossShare_0 : decode cL_lossShare 0 = .ok (.aload_n 1, 1) := by decide +kernel
theorem dL_lossShare_1 : decode cL_lossShare 1 = .ok (.iconst 0, 1) := by decide +kernel
theorem dL_lossShare_2 : decode cL_lossShare 2 = .ok (.aload_n 0, 1) := by decide +kernel
theorem dL_lossShare_3 : decode cL_lossShare 3 = .ok (.invokevirtual 102, 3) := by decide +kernel
theorem dL_lossShare_6 : decode cL_lossShare 6 = .ok (.f2d, 1) := by decide +kernel
theorem dL_lossShare_7 : decode cL_lossShare 7 = .ok (.dastore, 1) := by decide +kernel
theorem dL_lossShare_8 : decode cL_lossShare 8 = .ok (.goto 6, 3) := by decide +kernel
theorem dL_lossShare_11 : decode cL_lossShare 11 = .ok (.astore_n 2, 1) := by decide +kernel
theorem dL_lossShare_12 : decode cL_lossShare 12 = .ok (.iconst 1, 1) := by decide +kernel
theorem dL_lossShare_13 : decode cL_lossShare 13 = .ok (.ireturn, 1) := by decide +kernel
theorem dL_lossShare_14 : decode cL_lossShare 14 = .ok (.iconst 0, 1) := by decide +kernel
theorem dL_lossShare_15 : decode cL_lossShare 15 = .ok (.ireturn, 1) := by decide +kernel
theorem dL_meanSweetness_0 : decode cL_meanSweetness 0 = .ok (.aload_n 1, 1) := by decide +kernel
theorem dL_meanSweetness_1 : decode cL_meanSweetness 1 = .ok (.iconst 0, 1) := by decide +kernel
theorem dL_meanSweetness_2 : decode cL_meanSweetness 2 = .ok (.aload_n 0, 1) := by decide +kernel
theorem dL_meanSweetness_3 : decode cL_meanSweetness 3 = .ok (.invokevirtual 108, 3) := by decide +kernel
theorem dL_meanSweetness_6 : decode cL_meanSweetness 6 = .ok (.dastore, 1) := by decide +kernel
theorem dL_meanSweetness_7 : decode cL_meanSweetness 7 = .ok (.goto 6, 3) := by decide +kernel
theorem dL_meanSweetness_10 : decode cL_meanSweetness 10 = .ok (.astore_n 2, 1) := by decide +kernel
theorem dL_meanSweetness_11 : decode cL_meanSweetness 11 = .ok (.iconst 1, 1) := by decide +kernel
theorem dL_meanSweetness_12 : decode cL_meanSweetness 12 = .ok (.ireturn, 1) := by decide +kernel
theorem dL_meanSweetness_13 : decode cL_meanSweetness 13 = .ok (.iconst 0, 1) := by decide +kernel
theorem dL_meanSweetness_14 : decode cL_meanSweetness 14 = .ok (.ireturn, 1) := by decide +kernel
theorem dL_law_0 : decode cL_law 0 = .ok (.new 8, 3) := by decide +kernel
theorem dL_law_3 : decode cL_law 3 = .ok (.dup, 1) := by decide +kernel
theorem dL_law_4 : decode cL_law 4 = .ok (.invokespecial 112, 3) := by decide +kernel
theorem dL_law_7 : decode cL_law 7 = .ok (.astore_n 1, 1) := by decide +kernel
theorem dL_law_8 : decode cL_law 8 = .ok (.new 113, 3) := by decide +kernel
theorem dL_law_11 : decode cL_law 11 = .ok (.dup, 1) := by decide +kernel
theorem dL_law_12 : decode cL_law 12 = .ok (.invokespecial 115, 3) := by decide +kernel
theorem dL_law_15 : decode cL_law 15 = .ok (.astore_n 2, 1) := by decide +kernel
theorem dL_law_16 : decode cL_law 16 = .ok (.iconst 1, 1) := by decide +kernel
theorem dL_law_17 : decode cL_law 17 = .ok (.newarray .long, 2) := by decide +kernel
theorem dL_law_19 : decode cL_law 19 = .ok (.astore_n 3, 1) := by decide +kernel
theorem dL_law_20 : decode cL_law 20 = .ok (.iconst 1, 1) := by decide +kernel
theorem dL_law_21 : decode cL_law 21 = .ok (.newarray .double, 2) := by decide +kernel
theorem dL_law_23 : decode cL_law 23 = .ok (.astore 4, 2) := by decide +kernel
theorem dL_law_25 : decode cL_law 25 = .ok (.iconst 0, 1) := by decide +kernel
theorem dL_law_26 : decode cL_law 26 = .ok (.istore 5, 2) := by decide +kernel
theorem dL_law_28 : decode cL_law 28 = .ok (.iload 5, 2) := by decide +kernel
theorem dL_law_30 : decode cL_law 30 = .ok (.aload_n 0, 1) := by decide +kernel
theorem dL_law_31 : decode cL_law 31 = .ok (.arraylength, 1) := by decide +kernel
theorem dL_law_32 : decode cL_law 32 = .ok (.bipush 6, 2) := by decide +kernel
theorem dL_law_34 : decode cL_law 34 = .ok (.isub, 1) := by decide +kernel
theorem dL_law_35 : decode cL_law 35 = .ok (.if_icmp .gt 2016, 3) := by decide +kernel
theorem dL_law_38 : decode cL_law 38 = .ok (.aload_n 0, 1) := by decide +kernel
theorem dL_law_39 : decode cL_law 39 = .ok (.iload 5, 2) := by decide +kernel
theorem dL_law_41 : decode cL_law 41 = .ok (.iaload, 1) := by decide +kernel
theorem dL_law_42 : decode cL_law 42 = .ok (.bipush 63, 2) := by decide +kernel
theorem dL_law_44 : decode cL_law 44 = .ok (.iand, 1) := by decide +kernel
theorem dL_law_45 : decode cL_law 45 = .ok (.tableswitch 2000 0 40 #[179, 247, 351, 407, 475, 531, 544, 600, 656, 712, 768, 824, 880, 893, 949, 1017, 1073, 1129, 1185, 1241, 1297, 1353, 1421, 1477, 1490, 1503, 1516, 1560, 1604, 1648, 1661, 1674, 1730, 1786, 1800, 1814, 1828, 1842, 1856, 1869, 1935], 179) := by decide +kernel
theorem dL_law_224 : decode cL_law 224 = .ok (.aload_n 1, 1) := by decide +kernel
theorem dL_law_225 : decode cL_law 225 = .ok (.aload_n 0, 1) := by decide +kernel
theorem dL_law_226 : decode cL_law 226 = .ok (.iload 5, 2) := by decide +kernel
theorem dL_law_228 : decode cL_law 228 = .ok (.iconst 1, 1) := by decide +kernel
theorem dL_law_229 : decode cL_law 229 = .ok (.iadd, 1) := by decide +kernel
theorem dL_law_230 : decode cL_law 230 = .ok (.iaload, 1) := by decide +kernel
theorem dL_law_231 : decode cL_law 231 = .ok (.aload_n 0, 1) := by decide +kernel
theorem dL_law_232 : decode cL_law 232 = .ok (.iload 5, 2) := by decide +kernel
theorem dL_law_234 : decode cL_law 234 = .ok (.iconst 2, 1) := by decide +kernel
theorem dL_law_235 : decode cL_law 235 = .ok (.iadd, 1) := by decide +kernel
theorem dL_law_236 : decode cL_law 236 = .ok (.iaload, 1) := by decide +kernel
theorem dL_law_237 : decode cL_law 237 = .ok (.aload_n 3, 1) := by decide +kernel
theorem dL_law_238 : decode cL_law 238 = .ok (.invokestatic 116, 3) := by decide +kernel
theorem dL_law_241 : decode cL_law 241 = .ok (.istore 6, 2) := by decide +kernel
theorem dL_law_243 : decode cL_law 243 = .ok (.aload_n 2, 1) := by decide +kernel
theorem dL_law_244 : decode cL_law 244 = .ok (.aload_n 0, 1) := by decide +kernel
theorem dL_law_245 : decode cL_law 245 = .ok (.iload 5, 2) := by decide +kernel
theorem dL_law_247 : decode cL_law 247 = .ok (.iconst 1, 1) := by decide +kernel
theorem dL_law_248 : decode cL_law 248 = .ok (.iadd, 1) := by decide +kernel
theorem dL_law_249 : decode cL_law 249 = .ok (.iaload, 1) := by decide +kernel
theorem dL_law_250 : decode cL_law 250 = .ok (.aload_n 0, 1) := by decide +kernel
theorem dL_law_251 : decode cL_law 251 = .ok (.iload 5, 2) := by decide +kernel
theorem dL_law_253 : decode cL_law 253 = .ok (.iconst 2, 1) := by decide +kernel
theorem dL_law_254 : decode cL_law 254 = .ok (.iadd, 1) := by decide +kernel
theorem dL_law_255 : decode cL_law 255 = .ok (.iaload, 1) := by decide +kernel
theorem dL_law_256 : decode cL_law 256 = .ok (.invokevirtual 121, 3) := by decide +kernel
theorem dL_law_259 : decode cL_law 259 = .ok (.istore 7, 2) := by decide +kernel
theorem dL_law_261 : decode cL_law 261 = .ok (.aload_n 2, 1) := by decide +kernel
theorem dL_law_262 : decode cL_law 262 = .ok (.invokevirtual 122, 3) := by decide +kernel
theorem dL_law_265 : decode cL_law 265 = .ok (.iload 6, 2) := by decide +kernel
theorem dL_law_267 : decode cL_law 267 = .ok (.if_icmp .eq 5, 3) := by decide +kernel
theorem dL_law_270 : decode cL_law 270 = .ok (.iconst 0, 1) := by decide +kernel
theorem dL_law_271 : decode cL_law 271 = .ok (.ireturn, 1) := by decide +kernel
theorem dL_law_272 : decode cL_law 272 = .ok (.iload 6, 2) := by decide +kernel
theorem dL_law_274 : decode cL_law 274 = .ok (.ifCond .ne 15, 3) := by decide +kernel
theorem dL_law_277 : decode cL_law 277 = .ok (.aload_n 3, 1) := by decide +kernel
theorem dL_law_278 : decode cL_law 278 = .ok (.iconst 0, 1) := by decide +kernel
theorem dL_law_279 : decode cL_law 279 = .ok (.laload, 1) := by decide +kernel
theorem dL_law_280 : decode cL_law 280 = .ok (.iload 7, 2) := by decide +kernel
theorem dL_law_282 : decode cL_law 282 = .ok (.i2l, 1) := by decide +kernel
theorem dL_law_283 : decode cL_law 283 = .ok (.lcmp, 1) := by decide +kernel
theorem dL_law_284 : decode cL_law 284 = .ok (.ifCond .eq 5, 3) := by decide +kernel
theorem dL_law_287 : decode cL_law 287 = .ok (.iconst 0, 1) := by decide +kernel
theorem dL_law_288 : decode cL_law 288 = .ok (.ireturn, 1) := by decide +kernel
theorem dL_law_289 : decode cL_law 289 = .ok (.goto 1756, 3) := by decide +kernel
theorem dL_law_292 : decode cL_law 292 = .ok (.aload_n 1, 1) := by decide +kernel
theorem dL_law_293 : decode cL_law 293 = .ok (.aload_n 0, 1) := by decide +kernel
theorem dL_law_294 : decode cL_law 294 = .ok (.iload 5, 2) := by decide +kernel
theorem dL_law_296 : decode cL_law 296 = .ok (.iconst 1, 1) := by decide +kernel
theorem dL_law_297 : decode cL_law 297 = .ok (.iadd, 1) := by decide +kernel
theorem dL_law_298 : decode cL_law 298 = .ok (.iaload, 1) := by decide +kernel
theorem dL_law_299 : decode cL_law 299 = .ok (.aload_n 0, 1) := by decide +kernel
theorem dL_law_300 : decode cL_law 300 = .ok (.iload 5, 2) := by decide +kernel
theorem dL_law_302 : decode cL_law 302 = .ok (.iconst 2, 1) := by decide +kernel
theorem dL_law_303 : decode cL_law 303 = .ok (.iadd, 1) := by decide +kernel
theorem dL_law_304 : decode cL_law 304 = .ok (.iaload, 1) := by decide +kernel
theorem dL_law_305 : decode cL_law 305 = .ok (.aload_n 0, 1) := by decide +kernel
theorem dL_law_306 : decode cL_law 306 = .ok (.iload 5, 2) := by decide +kernel
theorem dL_law_308 : decode cL_law 308 = .ok (.iconst 3, 1) := by decide +kernel
theorem dL_law_309 : decode cL_law 309 = .ok (.iadd, 1) := by decide +kernel
theorem dL_law_310 : decode cL_law 310 = .ok (.iaload, 1) := by decide +kernel
theorem dL_law_311 : decode cL_law 311 = .ok (.aload_n 0, 1) := by decide +kernel
theorem dL_law_312 : decode cL_law 312 = .ok (.iload 5, 2) := by decide +kernel
theorem dL_law_314 : decode cL_law 314 = .ok (.iconst 4, 1) := by decide +kernel
theorem dL_law_315 : decode cL_law 315 = .ok (.iadd, 1) := by decide +kernel
theorem dL_law_316 : decode cL_law 316 = .ok (.iaload, 1) := by decide +kernel
theorem dL_law_317 : decode cL_law 317 = .ok (.aload_n 0, 1) := by decide +kernel
theorem dL_law_318 : decode cL_law 318 = .ok (.iload 5, 2) := by decide +kernel
theorem dL_law_320 : decode cL_law 320 = .ok (.iconst 5, 1) := by decide +kernel
theorem dL_law_321 : decode cL_law 321 = .ok (.iadd, 1) := by decide +kernel
theorem dL_law_322 : decode cL_law 322 = .ok (.iaload, 1) := by decide +kernel
theorem dL_law_323 : decode cL_law 323 = .ok (.aload_n 3, 1) := by decide +kernel
theorem dL_law_324 : decode cL_law 324 = .ok (.invokestatic 125, 3) := by decide +kernel
theorem dL_law_327 : decode cL_law 327 = .ok (.istore 6, 2) := by decide +kernel
theorem dL_law_329 : decode cL_law 329 = .ok (.aload_n 2, 1) := by decide +kernel
theorem dL_law_330 : decode cL_law 330 = .ok (.aload_n 0, 1) := by decide +kernel
theorem dL_law_331 : decode cL_law 331 = .ok (.iload 5, 2) := by decide +kernel
theorem dL_law_333 : decode cL_law 333 = .ok (.iconst 1, 1) := by decide +kernel
theorem dL_law_334 : decode cL_law 334 = .ok (.iadd, 1) := by decide +kernel
theorem dL_law_335 : decode cL_law 335 = .ok (.iaload, 1) := by decide +kernel
theorem dL_law_336 : decode cL_law 336 = .ok (.aload_n 0, 1) := by decide +kernel
theorem dL_law_337 : decode cL_law 337 = .ok (.iload 5, 2) := by decide +kernel
theorem dL_law_339 : decode cL_law 339 = .ok (.iconst 2, 1) := by decide +kernel
theorem dL_law_340 : decode cL_law 340 = .ok (.iadd, 1) := by decide +kernel
theorem dL_law_341 : decode cL_law 341 = .ok (.iaload, 1) := by decide +kernel
theorem dL_law_342 : decode cL_law 342 = .ok (.aload_n 0, 1) := by decide +kernel
theorem dL_law_343 : decode cL_law 343 = .ok (.iload 5, 2) := by decide +kernel
theorem dL_law_345 : decode cL_law 345 = .ok (.iconst 3, 1) := by decide +kernel
theorem dL_law_346 : decode cL_law 346 = .ok (.iadd, 1) := by decide +kernel
theorem dL_law_347 : decode cL_law 347 = .ok (.iaload, 1) := by decide +kernel
theorem dL_law_348 : decode cL_law 348 = .ok (.aload_n 0, 1) := by decide +kernel
theorem dL_law_349 : decode cL_law 349 = .ok (.iload 5, 2) := by decide +kernel
theorem dL_law_351 : decode cL_law 351 = .ok (.iconst 4, 1) := by decide +kernel
theorem dL_law_352 : decode cL_law 352 = .ok (.iadd, 1) := by decide +kernel
theorem dL_law_353 : decode cL_law 353 = .ok (.iaload, 1) := by decide +kernel
theorem dL_law_354 : decode cL_law 354 = .ok (.aload_n 0, 1) := by decide +kernel
theorem dL_law_355 : decode cL_law 355 = .ok (.iload 5, 2) := by decide +kernel
theorem dL_law_357 : decode cL_law 357 = .ok (.iconst 5, 1) := by decide +kernel
theorem dL_law_358 : decode cL_law 358 = .ok (.iadd, 1) := by decide +kernel
theorem dL_law_359 : decode cL_law 359 = .ok (.iaload, 1) := by decide +kernel
theorem dL_law_360 : decode cL_law 360 = .ok (.invokevirtual 128, 3) := by decide +kernel
theorem dL_law_363 : decode cL_law 363 = .ok (.istore 7, 2) := by decide +kernel
theorem dL_law_365 : decode cL_law 365 = .ok (.aload_n 2, 1) := by decide +kernel
theorem dL_law_366 : decode cL_law 366 = .ok (.invokevirtual 122, 3) := by decide +kernel
theorem dL_law_369 : decode cL_law 369 = .ok (.iload 6, 2) := by decide +kernel
theorem dL_law_371 : decode cL_law 371 = .ok (.if_icmp .eq 5, 3) := by decide +kernel
theorem dL_law_374 : decode cL_law 374 = .ok (.iconst 0, 1) := by decide +kernel
theorem dL_law_375 : decode cL_law 375 = .ok (.ireturn, 1) := by decide +kernel
theorem dL_law_376 : decode cL_law 376 = .ok (.iload 6, 2) := by decide +kernel
theorem dL_law_378 : decode cL_law 378 = .ok (.ifCond .ne 15, 3) := by decide +kernel
theorem dL_law_381 : decode cL_law 381 = .ok (.aload_n 3, 1) := by decide +kernel
theorem dL_law_382 : decode cL_law 382 = .ok (.iconst 0, 1) := by decide +kernel
theorem dL_law_383 : decode cL_law 383 = .ok (.laload, 1) := by decide +kernel
theorem dL_law_384 : decode cL_law 384 = .ok (.iload 7, 2) := by decide +kernel
theorem dL_law_386 : decode cL_law 386 = .ok (.i2l, 1) := by decide +kernel
theorem dL_law_387 : decode cL_law 387 = .ok (.lcmp, 1) := by decide +kernel
theorem dL_law_388 : decode cL_law 388 = .ok (.ifCond .eq 5, 3) := by decide +kernel
theorem dL_law_391 : decode cL_law 391 = .ok (.iconst 0, 1) := by decide +kernel
theorem dL_law_392 : decode cL_law 392 = .ok (.ireturn, 1) := by decide +kernel
theorem dL_law_393 : decode cL_law 393 = .ok (.goto 1652, 3) := by decide +kernel
theorem dL_law_396 : decode cL_law 396 = .ok (.aload_n 1, 1) := by decide +kernel
theorem dL_law_397 : decode cL_law 397 = .ok (.aload_n 0, 1) := by decide +kernel
theorem dL_law_398 : decode cL_law 398 = .ok (.iload 5, 2) := by decide +kernel
theorem dL_law_400 : decode cL_law 400 = .ok (.iconst 1, 1) := by decide +kernel
theorem dL_law_401 : decode cL_law 401 = .ok (.iadd, 1) := by decide +kernel
theorem dL_law_402 : decode cL_law 402 = .ok (.iaload, 1) := by decide +kernel
theorem dL_law_403 : decode cL_law 403 = .ok (.aload_n 3, 1) := by decide +kernel
theorem dL_law_404 : decode cL_law 404 = .ok (.invokestatic 129, 3) := by decide +kernel
theorem dL_law_407 : decode cL_law 407 = .ok (.istore 6, 2) := by decide +kernel
theorem dL_law_409 : decode cL_law 409 = .ok (.aload_n 2, 1) := by decide +kernel
theorem dL_law_410 : decode cL_law 410 = .ok (.aload_n 0, 1) := by decide +kernel
theorem dL_law_411 : decode cL_law 411 = .ok (.iload 5, 2) := by decide +kernel
theorem dL_law_413 : decode cL_law 413 = .ok (.iconst 1, 1) := by decide +kernel
theorem dL_law_414 : decode cL_law 414 = .ok (.iadd, 1) := by decide +kernel
theorem dL_law_415 : decode cL_law 415 = .ok (.iaload, 1) := by decide +kernel
theorem dL_law_416 : decode cL_law 416 = .ok (.invokevirtual 132, 3) := by decide +kernel
theorem dL_law_419 : decode cL_law 419 = .ok (.istore 7, 2) := by decide +kernel
theorem dL_law_421 : decode cL_law 421 = .ok (.aload_n 2, 1) := by decide +kernel
theorem dL_law_422 : decode cL_law 422 = .ok (.invokevirtual 122, 3) := by decide +kernel
theorem dL_law_425 : decode cL_law 425 = .ok (.iload 6, 2) := by decide +kernel
theorem dL_law_427 : decode cL_law 427 = .ok (.if_icmp .eq 5, 3) := by decide +kernel
theorem dL_law_430 : decode cL_law 430 = .ok (.iconst 0, 1) := by decide +kernel
theorem dL_law_431 : decode cL_law 431 = .ok (.ireturn, 1) := by decide +kernel
theorem dL_law_432 : decode cL_law 432 = .ok (.iload 6, 2) := by decide +kernel
theorem dL_law_434 : decode cL_law 434 = .ok (.ifCond .ne 15, 3) := by decide +kernel
theorem dL_law_437 : decode cL_law 437 = .ok (.aload_n 3, 1) := by decide +kernel
theorem dL_law_438 : decode cL_law 438 = .ok (.iconst 0, 1) := by decide +kernel
theorem dL_law_439 : decode cL_law 439 = .ok (.laload, 1) := by decide +kernel
theorem dL_law_440 : decode cL_law 440 = .ok (.iload 7, 2) := by decide +kernel
theorem dL_law_442 : decode cL_law 442 = .ok (.i2l, 1) := by decide +kernel
theorem dL_law_443 : decode cL_law 443 = .ok (.lcmp, 1) := by decide +kernel
theorem dL_law_444 : decode cL_law 444 = .ok (.ifCond .eq 5, 3) := by decide +kernel
theorem dL_law_447 : decode cL_law 447 = .ok (.iconst 0, 1) := by decide +kernel
theorem dL_law_448 : decode cL_law 448 = .ok (.ireturn, 1) := by decide +kernel
theorem dL_law_449 : decode cL_law 449 = .ok (.goto 1596, 3) := by decide +kernel
theorem dL_law_452 : decode cL_law 452 = .ok (.aload_n 1, 1) := by decide +kernel
theorem dL_law_453 : decode cL_law 453 = .ok (.aload_n 0, 1) := by decide +kernel
theorem dL_law_454 : decode cL_law 454 = .ok (.iload 5, 2) := by decide +kernel
theorem dL_law_456 : decode cL_law 456 = .ok (.iconst 1, 1) := by decide +kernel
theorem dL_law_457 : decode cL_law 457 = .ok (.iadd, 1) := by decide +kernel
theorem dL_law_458 : decode cL_law 458 = .ok (.iaload, 1) := by decide +kernel
theorem dL_law_459 : decode cL_law 459 = .ok (.aload_n 0, 1) := by decide +kernel
theorem dL_law_460 : decode cL_law 460 = .ok (.iload 5, 2) := by decide +kernel
theorem dL_law_462 : decode cL_law 462 = .ok (.iconst 2, 1) := by decide +kernel
theorem dL_law_463 : decode cL_law 463 = .ok (.iadd, 1) := by decide +kernel
theorem dL_law_464 : decode cL_law 464 = .ok (.iaload, 1) := by decide +kernel
theorem dL_law_465 : decode cL_law 465 = .ok (.aload_n 3, 1) := by decide +kernel
theorem dL_law_466 : decode cL_law 466 = .ok (.invokestatic 133, 3) := by decide +kernel
theorem dL_law_469 : decode cL_law 469 = .ok (.istore 6, 2) := by decide +kernel
theorem dL_law_471 : decode cL_law 471 = .ok (.aload_n 2, 1) := by decide +kernel
theorem dL_law_472 : decode cL_law 472 = .ok (.aload_n 0, 1) := by decide +kernel
theorem dL_law_473 : decode cL_law 473 = .ok (.iload 5, 2) := by decide +kernel
theorem dL_law_475 : decode cL_law 475 = .ok (.iconst 1, 1) := by decide +kernel
theorem dL_law_476 : decode cL_law 476 = .ok (.iadd, 1) := by decide +kernel
theorem dL_law_477 : decode cL_law 477 = .ok (.iaload, 1) := by decide +kernel
theorem dL_law_478 : decode cL_law 478 = .ok (.aload_n 0, 1) := by decide +kernel
theorem dL_law_479 : decode cL_law 479 = .ok (.iload 5, 2) := by decide +kernel
theorem dL_law_481 : decode cL_law 481 = .ok (.iconst 2, 1) := by decide +kernel
theorem dL_law_482 : decode cL_law 482 = .ok (.iadd, 1) := by decide +kernel
theorem dL_law_483 : decode cL_law 483 = .ok (.iaload, 1) := by decide +kernel
theorem dL_law_484 : decode cL_law 484 = .ok (.invokevirtual 135, 3) := by decide +kernel
theorem dL_law_487 : decode cL_law 487 = .ok (.istore 7, 2) := by decide +kernel
theorem dL_law_489 : decode cL_law 489 = .ok (.aload_n 2, 1) := by decide +kernel
theorem dL_law_490 : decode cL_law 490 = .ok (.invokevirtual 122, 3) := by decide +kernel
theorem dL_law_493 : decode cL_law 493 = .ok (.iload 6, 2) := by decide +kernel
theorem dL_law_495 : decode cL_law 495 = .ok (.if_icmp .eq 5, 3) := by decide +kernel
theorem dL_law_498 : decode cL_law 498 = .ok (.iconst 0, 1) := by decide +kernel
theorem dL_law_499 : decode cL_law 499 = .ok (.ireturn, 1) := by decide +kernel
theorem dL_law_500 : decode cL_law 500 = .ok (.iload 6, 2) := by decide +kernel
theorem dL_law_502 : decode cL_law 502 = .ok (.ifCond .ne 15, 3) := by decide +kernel
theorem dL_law_505 : decode cL_law 505 = .ok (.aload_n 3, 1) := by decide +kernel
theorem dL_law_506 : decode cL_law 506 = .ok (.iconst 0, 1) := by decide +kernel
theorem dL_law_507 : decode cL_law 507 = .ok (.laload, 1) := by decide +kernel
theorem dL_law_508 : decode cL_law 508 = .ok (.iload 7, 2) := by decide +kernel
theorem dL_law_510 : decode cL_law 510 = .ok (.i2l, 1) := by decide +kernel
theorem dL_law_511 : decode cL_law 511 = .ok (.lcmp, 1) := by decide +kernel
theorem dL_law_512 : decode cL_law 512 = .ok (.ifCond .eq 5, 3) := by decide +kernel
theorem dL_law_515 : decode cL_law 515 = .ok (.iconst 0, 1) := by decide +kernel
theorem dL_law_516 : decode cL_law 516 = .ok (.ireturn, 1) := by decide +kernel
theorem dL_law_517 : decode cL_law 517 = .ok (.goto 1528, 3) := by decide +kernel
theorem dL_law_520 : decode cL_law 520 = .ok (.aload_n 1, 1) := by decide +kernel
theorem dL_law_521 : decode cL_law 521 = .ok (.aload_n 0, 1) := by decide +kernel
theorem dL_law_522 : decode cL_law 522 = .ok (.iload 5, 2) := by decide +kernel
theorem dL_law_524 : decode cL_law 524 = .ok (.iconst 1, 1) := by decide +kernel
theorem dL_law_525 : decode cL_law 525 = .ok (.iadd, 1) := by decide +kernel
theorem dL_law_526 : decode cL_law 526 = .ok (.iaload, 1) := by decide +kernel
theorem dL_law_527 : decode cL_law 527 = .ok (.aload_n 3, 1) := by decide +kernel
theorem dL_law_528 : decode cL_law 528 = .ok (.invokestatic 136, 3) := by decide +kernel
theorem dL_law_531 : decode cL_law 531 = .ok (.istore 6, 2) := by decide +kernel
theorem dL_law_533 : decode cL_law 533 = .ok (.aload_n 2, 1) := by decide +kernel
theorem dL_law_534 : decode cL_law 534 = .ok (.aload_n 0, 1) := by decide +kernel
theorem dL_law_535 : decode cL_law 535 = .ok (.iload 5, 2) := by decide +kernel
theorem dL_law_537 : decode cL_law 537 = .ok (.iconst 1, 1) := by decide +kernel
theorem dL_law_538 : decode cL_law 538 = .ok (.iadd, 1) := by decide +kernel
theorem dL_law_539 : decode cL_law 539 = .ok (.iaload, 1) := by decide +kernel
theorem dL_law_540 : decode cL_law 540 = .ok (.invokevirtual 138, 3) := by decide +kernel
theorem dL_law_543 : decode cL_law 543 = .ok (.istore 7, 2) := by decide +kernel
theorem dL_law_545 : decode cL_law 545 = .ok (.aload_n 2, 1) := by decide +kernel
theorem dL_law_546 : decode cL_law 546 = .ok (.invokevirtual 122, 3) := by decide +kernel
theorem dL_law_549 : decode cL_law 549 = .ok (.iload 6, 2) := by decide +kernel
theorem dL_law_551 : decode cL_law 551 = .ok (.if_icmp .eq 5, 3) := by decide +kernel
theorem dL_law_554 : decode cL_law 554 = .ok (.iconst 0, 1) := by decide +kernel
theorem dL_law_555 : decode cL_law 555 = .ok (.ireturn, 1) := by decide +kernel
theorem dL_law_556 : decode cL_law 556 = .ok (.iload 6, 2) := by decide +kernel
theorem dL_law_558 : decode cL_law 558 = .ok (.ifCond .ne 15, 3) := by decide +kernel
theorem dL_law_561 : decode cL_law 561 = .ok (.aload_n 3, 1) := by decide +kernel
theorem dL_law_562 : decode cL_law 562 = .ok (.iconst 0, 1) := by decide +kernel
theorem dL_law_563 : decode cL_law 563 = .ok (.laload, 1) := by decide +kernel
theorem dL_law_564 : decode cL_law 564 = .ok (.iload 7, 2) := by decide +kernel
theorem dL_law_566 : decode cL_law 566 = .ok (.i2l, 1) := by decide +kernel
theorem dL_law_567 : decode cL_law 567 = .ok (.lcmp, 1) := by decide +kernel
theorem dL_law_568 : decode cL_law 568 = .ok (.ifCond .eq 5, 3) := by decide +kernel
theorem dL_law_571 : decode cL_law 571 = .ok (.iconst 0, 1) := by decide +kernel
theorem dL_law_572 : decode cL_law 572 = .ok (.ireturn, 1) := by decide +kernel
theorem dL_law_573 : decode cL_law 573 = .ok (.goto 1472, 3) := by decide +kernel
theorem dL_law_576 : decode cL_law 576 = .ok (.aload_n 1, 1) := by decide +kernel
theorem dL_law_577 : decode cL_law 577 = .ok (.invokevirtual 139, 3) := by decide +kernel
theorem dL_law_580 : decode cL_law 580 = .ok (.aload_n 2, 1) := by decide +kernel
theorem dL_law_581 : decode cL_law 581 = .ok (.invokevirtual 142, 3) := by decide +kernel
theorem dL_law_584 : decode cL_law 584 = .ok (.if_icmp .eq 1461, 3) := by decide +kernel
theorem dL_law_587 : decode cL_law 587 = .ok (.iconst 0, 1) := by decide +kernel
theorem dL_law_588 : decode cL_law 588 = .ok (.ireturn, 1) := by decide +kernel
theorem dL_law_589 : decode cL_law 589 = .ok (.aload_n 1, 1) := by decide +kernel
theorem dL_law_590 : decode cL_law 590 = .ok (.aload_n 0, 1) := by decide +kernel
theorem dL_law_591 : decode cL_law 591 = .ok (.iload 5, 2) := by decide +kernel
theorem dL_law_593 : decode cL_law 593 = .ok (.iconst 1, 1) := by decide +kernel
theorem dL_law_594 : decode cL_law 594 = .ok (.iadd, 1) := by decide +kernel
theorem dL_law_595 : decode cL_law 595 = .ok (.iaload, 1) := by decide +kernel
theorem dL_law_596 : decode cL_law 596 = .ok (.aload_n 3, 1) := by decide +kernel
theorem dL_law_597 : decode cL_law 597 = .ok (.invokestatic 143, 3) := by decide +kernel
theorem dL_law_600 : decode cL_law 600 = .ok (.istore 6, 2) := by decide +kernel
theorem dL_law_602 : decode cL_law 602 = .ok (.aload_n 2, 1) := by decide +kernel
theorem dL_law_603 : decode cL_law 603 = .ok (.aload_n 0, 1) := by decide +kernel
theorem dL_law_604 : decode cL_law 604 = .ok (.iload 5, 2) := by decide +kernel
theorem dL_law_606 : decode cL_law 606 = .ok (.iconst 1, 1) := by decide +kernel
theorem dL_law_607 : decode cL_law 607 = .ok (.iadd, 1) := by decide +kernel
theorem dL_law_608 : decode cL_law 608 = .ok (.iaload, 1) := by decide +kernel
theorem dL_law_609 : decode cL_law 609 = .ok (.invokevirtual 145, 3) := by decide +kernel
theorem dL_law_612 : decode cL_law 612 = .ok (.istore 7, 2) := by decide +kernel
theorem dL_law_614 : decode cL_law 614 = .ok (.aload_n 2, 1) := by decide +kernel
theorem dL_law_615 : decode cL_law 615 = .ok (.invokevirtual 122, 3) := by decide +kernel
theorem dL_law_618 : decode cL_law 618 = .ok (.iload 6, 2) := by decide +kernel
theorem dL_law_620 : decode cL_law 620 = .ok (.if_icmp .eq 5, 3) := by decide +kernel
theorem dL_law_623 : decode cL_law 623 = .ok (.iconst 0, 1) := by decide +kernel
theorem dL_law_624 : decode cL_law 624 = .ok (.ireturn, 1) := by decide +kernel
theorem dL_law_625 : decode cL_law 625 = .ok (.iload 6, 2) := by decide +kernel
theorem dL_law_627 : decode cL_law 627 = .ok (.ifCond .ne 15, 3) := by decide +kernel
theorem dL_law_630 : decode cL_law 630 = .ok (.aload_n 3, 1) := by decide +kernel
theorem dL_law_631 : decode cL_law 631 = .ok (.iconst 0, 1) := by decide +kernel
theorem dL_law_632 : decode cL_law 632 = .ok (.laload, 1) := by decide +kernel
theorem dL_law_633 : decode cL_law 633 = .ok (.iload 7, 2) := by decide +kernel
theorem dL_law_635 : decode cL_law 635 = .ok (.i2l, 1) := by decide +kernel
theorem dL_law_636 : decode cL_law 636 = .ok (.lcmp, 1) := by decide +kernel
theorem dL_law_637 : decode cL_law 637 = .ok (.ifCond .eq 5, 3) := by decide +kernel
theorem dL_law_640 : decode cL_law 640 = .ok (.iconst 0, 1) := by decide +kernel
theorem dL_law_641 : decode cL_law 641 = .ok (.ireturn, 1) := by decide +kernel
theorem dL_law_642 : decode cL_law 642 = .ok (.goto 1403, 3) := by decide +kernel
theorem dL_law_645 : decode cL_law 645 = .ok (.aload_n 1, 1) := by decide +kernel
theorem dL_law_646 : decode cL_law 646 = .ok (.aload_n 0, 1) := by decide +kernel
theorem dL_law_647 : decode cL_law 647 = .ok (.iload 5, 2) := by decide +kernel
theorem dL_law_649 : decode cL_law 649 = .ok (.iconst 1, 1) := by decide +kernel
theorem dL_law_650 : decode cL_law 650 = .ok (.iadd, 1) := by decide +kernel
theorem dL_law_651 : decode cL_law 651 = .ok (.iaload, 1) := by decide +kernel
theorem dL_law_652 : decode cL_law 652 = .ok (.aload_n 3, 1) := by decide +kernel
theorem dL_law_653 : decode cL_law 653 = .ok (.invokestatic 146, 3) := by decide +kernel
theorem dL_law_656 : decode cL_law 656 = .ok (.istore 6, 2) := by decide +kernel
theorem dL_law_658 : decode cL_law 658 = .ok (.aload_n 2, 1) := by decide +kernel
theorem dL_law_659 : decode cL_law 659 = .ok (.aload_n 0, 1) := by decide +kernel
theorem dL_law_660 : decode cL_law 660 = .ok (.iload 5, 2) := by decide +kernel
theorem dL_law_662 : decode cL_law 662 = .ok (.iconst 1, 1) := by decide +kernel
theorem dL_law_663 : decode cL_law 663 = .ok (.iadd, 1) := by decide +kernel
theorem dL_law_664 : decode cL_law 664 = .ok (.iaload, 1) := by decide +kernel
theorem dL_law_665 : decode cL_law 665 = .ok (.invokevirtual 148, 3) := by decide +kernel
theorem dL_law_668 : decode cL_law 668 = .ok (.istore 7, 2) := by decide +kernel
theorem dL_law_670 : decode cL_law 670 = .ok (.aload_n 2, 1) := by decide +kernel
theorem dL_law_671 : decode cL_law 671 = .ok (.invokevirtual 122, 3) := by decide +kernel
theorem dL_law_674 : decode cL_law 674 = .ok (.iload 6, 2) := by decide +kernel
theorem dL_law_676 : decode cL_law 676 = .ok (.if_icmp .eq 5, 3) := by decide +kernel
theorem dL_law_679 : decode cL_law 679 = .ok (.iconst 0, 1) := by decide +kernel
theorem dL_law_680 : decode cL_law 680 = .ok (.ireturn, 1) := by decide +kernel
theorem dL_law_681 : decode cL_law 681 = .ok (.iload 6, 2) := by decide +kernel
theorem dL_law_683 : decode cL_law 683 = .ok (.ifCond .ne 15, 3) := by decide +kernel
theorem dL_law_686 : decode cL_law 686 = .ok (.aload_n 3, 1) := by decide +kernel
theorem dL_law_687 : decode cL_law 687 = .ok (.iconst 0, 1) := by decide +kernel
theorem dL_law_688 : decode cL_law 688 = .ok (.laload, 1) := by decide +kernel
theorem dL_law_689 : decode cL_law 689 = .ok (.iload 7, 2) := by decide +kernel
theorem dL_law_691 : decode cL_law 691 = .ok (.i2l, 1) := by decide +kernel
theorem dL_law_692 : decode cL_law 692 = .ok (.lcmp, 1) := by decide +kernel
theorem dL_law_693 : decode cL_law 693 = .ok (.ifCond .eq 5, 3) := by decide +kernel
theorem dL_law_696 : decode cL_law 696 = .ok (.iconst 0, 1) := by decide +kernel
theorem dL_law_697 : decode cL_law 697 = .ok (.ireturn, 1) := by decide +kernel
theorem dL_law_698 : decode cL_law 698 = .ok (.goto 1347, 3) := by decide +kernel
theorem dL_law_701 : decode cL_law 701 = .ok (.aload_n 1, 1) := by decide +kernel
theorem dL_law_702 : decode cL_law 702 = .ok (.aload_n 0, 1) := by decide +kernel
theorem dL_law_703 : decode cL_law 703 = .ok (.iload 5, 2) := by decide +kernel
theorem dL_law_705 : decode cL_law 705 = .ok (.iconst 1, 1) := by decide +kernel
theorem dL_law_706 : decode cL_law 706 = .ok (.iadd, 1) := by decide +kernel
theorem dL_law_707 : decode cL_law 707 = .ok (.iaload, 1) := by decide +kernel
theorem dL_law_708 : decode cL_law 708 = .ok (.aload_n 3, 1) := by decide +kernel
theorem dL_law_709 : decode cL_law 709 = .ok (.invokestatic 149, 3) := by decide +kernel
theorem dL_law_712 : decode cL_law 712 = .ok (.istore 6, 2) := by decide +kernel
theorem dL_law_714 : decode cL_law 714 = .ok (.aload_n 2, 1) := by decide +kernel
theorem dL_law_715 : decode cL_law 715 = .ok (.aload_n 0, 1) := by decide +kernel
theorem dL_law_716 : decode cL_law 716 = .ok (.iload 5, 2) := by decide +kernel
theorem dL_law_718 : decode cL_law 718 = .ok (.iconst 1, 1) := by decide +kernel
theorem dL_law_719 : decode cL_law 719 = .ok (.iadd, 1) := by decide +kernel
theorem dL_law_720 : decode cL_law 720 = .ok (.iaload, 1) := by decide +kernel
theorem dL_law_721 : decode cL_law 721 = .ok (.invokevirtual 151, 3) := by decide +kernel
theorem dL_law_724 : decode cL_law 724 = .ok (.istore 7, 2) := by decide +kernel
theorem dL_law_726 : decode cL_law 726 = .ok (.aload_n 2, 1) := by decide +kernel
theorem dL_law_727 : decode cL_law 727 = .ok (.invokevirtual 122, 3) := by decide +kernel
theorem dL_law_730 : decode cL_law 730 = .ok (.iload 6, 2) := by decide +kernel
theorem dL_law_732 : decode cL_law 732 = .ok (.if_icmp .eq 5, 3) := by decide +kernel
theorem dL_law_735 : decode cL_law 735 = .ok (.iconst 0, 1) := by decide +kernel
theorem dL_law_736 : decode cL_law 736 = .ok (.ireturn, 1) := by decide +kernel
theorem dL_law_737 : decode cL_law 737 = .ok (.iload 6, 2) := by decide +kernel
theorem dL_law_739 : decode cL_law 739 = .ok (.ifCond .ne 15, 3) := by decide +kernel
theorem dL_law_742 : decode cL_law 742 = .ok (.aload_n 3, 1) := by decide +kernel
theorem dL_law_743 : decode cL_law 743 = .ok (.iconst 0, 1) := by decide +kernel
theorem dL_law_744 : decode cL_law 744 = .ok (.laload, 1) := by decide +kernel
theorem dL_law_745 : decode cL_law 745 = .ok (.iload 7, 2) := by decide +kernel
theorem dL_law_747 : decode cL_law 747 = .ok (.i2l, 1) := by decide +kernel
theorem dL_law_748 : decode cL_law 748 = .ok (.lcmp, 1) := by decide +kernel
theorem dL_law_749 : decode cL_law 749 = .ok (.ifCond .eq 5, 3) := by decide +kernel
theorem dL_law_752 : decode cL_law 752 = .ok (.iconst 0, 1) := by decide +kernel
theorem dL_law_753 : decode cL_law 753 = .ok (.ireturn, 1) := by decide +kernel
theorem dL_law_754 : decode cL_law 754 = .ok (.goto 1291, 3) := by decide +kernel
theorem dL_law_757 : decode cL_law 757 = .ok (.aload_n 1, 1) := by decide +kernel
theorem dL_law_758 : decode cL_law 758 = .ok (.aload_n 0, 1) := by decide +kernel
theorem dL_law_759 : decode cL_law 759 = .ok (.iload 5, 2) := by decide +kernel
theorem dL_law_761 : decode cL_law 761 = .ok (.iconst 1, 1) := by decide +kernel
theorem dL_law_762 : decode cL_law 762 = .ok (.iadd, 1) := by decide +kernel
theorem dL_law_763 : decode cL_law 763 = .ok (.iaload, 1) := by decide +kernel
theorem dL_law_764 : decode cL_law 764 = .ok (.aload_n 3, 1) := by decide +kernel
theorem dL_law_765 : decode cL_law 765 = .ok (.invokestatic 152, 3) := by decide +kernel
theorem dL_law_768 : decode cL_law 768 = .ok (.istore 6, 2) := by decide +kernel
theorem dL_law_770 : decode cL_law 770 = .ok (.aload_n 2, 1) := by decide +kernel
theorem dL_law_771 : decode cL_law 771 = .ok (.aload_n 0, 1) := by decide +kernel
theorem dL_law_772 : decode cL_law 772 = .ok (.iload 5, 2) := by decide +kernel
theorem dL_law_774 : decode cL_law 774 = .ok (.iconst 1, 1) := by decide +kernel
theorem dL_law_775 : decode cL_law 775 = .ok (.iadd, 1) := by decide +kernel
theorem dL_law_776 : decode cL_law 776 = .ok (.iaload, 1) := by decide +kernel
theorem dL_law_777 : decode cL_law 777 = .ok (.invokevirtual 154, 3) := by decide +kernel
theorem dL_law_780 : decode cL_law 780 = .ok (.istore 7, 2) := by decide +kernel
theorem dL_law_782 : decode cL_law 782 = .ok (.aload_n 2, 1) := by decide +kernel
theorem dL_law_783 : decode cL_law 783 = .ok (.invokevirtual 122, 3) := by decide +kernel
theorem dL_law_786 : decode cL_law 786 = .ok (.iload 6, 2) := by decide +kernel
theorem dL_law_788 : decode cL_law 788 = .ok (.if_icmp .eq 5, 3) := by decide +kernel
theorem dL_law_791 : decode cL_law 791 = .ok (.iconst 0, 1) := by decide +kernel
theorem dL_law_792 : decode cL_law 792 = .ok (.ireturn, 1) := by decide +kernel
theorem dL_law_793 : decode cL_law 793 = .ok (.iload 6, 2) := by decide +kernel
theorem dL_law_795 : decode cL_law 795 = .ok (.ifCond .ne 15, 3) := by decide +kernel
theorem dL_law_798 : decode cL_law 798 = .ok (.aload_n 3, 1) := by decide +kernel
theorem dL_law_799 : decode cL_law 799 = .ok (.iconst 0, 1) := by decide +kernel
theorem dL_law_800 : decode cL_law 800 = .ok (.laload, 1) := by decide +kernel
theorem dL_law_801 : decode cL_law 801 = .ok (.iload 7, 2) := by decide +kernel
theorem dL_law_803 : decode cL_law 803 = .ok (.i2l, 1) := by decide +kernel
theorem dL_law_804 : decode cL_law 804 = .ok (.lcmp, 1) := by decide +kernel
theorem dL_law_805 : decode cL_law 805 = .ok (.ifCond .eq 5, 3) := by decide +kernel
theorem dL_law_808 : decode cL_law 808 = .ok (.iconst 0, 1) := by decide +kernel
theorem dL_law_809 : decode cL_law 809 = .ok (.ireturn, 1) := by decide +kernel
theorem dL_law_810 : decode cL_law 810 = .ok (.goto 1235, 3) := by decide +kernel
theorem dL_law_813 : decode cL_law 813 = .ok (.aload_n 1, 1) := by decide +kernel
theorem dL_law_814 : decode cL_law 814 = .ok (.aload_n 0, 1) := by decide +kernel
theorem dL_law_815 : decode cL_law 815 = .ok (.iload 5, 2) := by decide +kernel
theorem dL_law_817 : decode cL_law 817 = .ok (.iconst 1, 1) := by decide +kernel
theorem dL_law_818 : decode cL_law 818 = .ok (.iadd, 1) := by decide +kernel
theorem dL_law_819 : decode cL_law 819 = .ok (.iaload, 1) := by decide +kernel
theorem dL_law_820 : decode cL_law 820 = .ok (.aload_n 3, 1) := by decide +kernel
theorem dL_law_821 : decode cL_law 821 = .ok (.invokestatic 155, 3) := by decide +kernel
theorem dL_law_824 : decode cL_law 824 = .ok (.istore 6, 2) := by decide +kernel
theorem dL_law_826 : decode cL_law 826 = .ok (.aload_n 2, 1) := by decide +kernel
theorem dL_law_827 : decode cL_law 827 = .ok (.aload_n 0, 1) := by decide +kernel
theorem dL_law_828 : decode cL_law 828 = .ok (.iload 5, 2) := by decide +kernel
theorem dL_law_830 : decode cL_law 830 = .ok (.iconst 1, 1) := by decide +kernel
theorem dL_law_831 : decode cL_law 831 = .ok (.iadd, 1) := by decide +kernel
theorem dL_law_832 : decode cL_law 832 = .ok (.iaload, 1) := by decide +kernel
theorem dL_law_833 : decode cL_law 833 = .ok (.invokevirtual 157, 3) := by decide +kernel
theorem dL_law_836 : decode cL_law 836 = .ok (.istore 7, 2) := by decide +kernel
theorem dL_law_838 : decode cL_law 838 = .ok (.aload_n 2, 1) := by decide +kernel
theorem dL_law_839 : decode cL_law 839 = .ok (.invokevirtual 122, 3) := by decide +kernel
theorem dL_law_842 : decode cL_law 842 = .ok (.iload 6, 2) := by decide +kernel
theorem dL_law_844 : decode cL_law 844 = .ok (.if_icmp .eq 5, 3) := by decide +kernel
theorem dL_law_847 : decode cL_law 847 = .ok (.iconst 0, 1) := by decide +kernel
theorem dL_law_848 : decode cL_law 848 = .ok (.ireturn, 1) := by decide +kernel
theorem dL_law_849 : decode cL_law 849 = .ok (.iload 6, 2) := by decide +kernel
theorem dL_law_851 : decode cL_law 851 = .ok (.ifCond .ne 15, 3) := by decide +kernel
theorem dL_law_854 : decode cL_law 854 = .ok (.aload_n 3, 1) := by decide +kernel
theorem dL_law_855 : decode cL_law 855 = .ok (.iconst 0, 1) := by decide +kernel
theorem dL_law_856 : decode cL_law 856 = .ok (.laload, 1) := by decide +kernel
theorem dL_law_857 : decode cL_law 857 = .ok (.iload 7, 2) := by decide +kernel
theorem dL_law_859 : decode cL_law 859 = .ok (.i2l, 1) := by decide +kernel
theorem dL_law_860 : decode cL_law 860 = .ok (.lcmp, 1) := by decide +kernel
theorem dL_law_861 : decode cL_law 861 = .ok (.ifCond .eq 5, 3) := by decide +kernel
theorem dL_law_864 : decode cL_law 864 = .ok (.iconst 0, 1) := by decide +kernel
theorem dL_law_865 : decode cL_law 865 = .ok (.ireturn, 1) := by decide +kernel
theorem dL_law_866 : decode cL_law 866 = .ok (.goto 1179, 3) := by decide +kernel
theorem dL_law_869 : decode cL_law 869 = .ok (.aload_n 1, 1) := by decide +kernel
theorem dL_law_870 : decode cL_law 870 = .ok (.aload_n 0, 1) := by decide +kernel
theorem dL_law_871 : decode cL_law 871 = .ok (.iload 5, 2) := by decide +kernel
theorem dL_law_873 : decode cL_law 873 = .ok (.iconst 1, 1) := by decide +kernel
theorem dL_law_874 : decode cL_law 874 = .ok (.iadd, 1) := by decide +kernel
theorem dL_law_875 : decode cL_law 875 = .ok (.iaload, 1) := by decide +kernel
theorem dL_law_876 : decode cL_law 876 = .ok (.aload_n 3, 1) := by decide +kernel
theorem dL_law_877 : decode cL_law 877 = .ok (.invokestatic 158, 3) := by decide +kernel
theorem dL_law_880 : decode cL_law 880 = .ok (.istore 6, 2) := by decide +kernel
theorem dL_law_882 : decode cL_law 882 = .ok (.aload_n 2, 1) := by decide +kernel
theorem dL_law_883 : decode cL_law 883 = .ok (.aload_n 0, 1) := by decide +kernel
theorem dL_law_884 : decode cL_law 884 = .ok (.iload 5, 2) := by decide +kernel
theorem dL_law_886 : decode cL_law 886 = .ok (.iconst 1, 1) := by decide +kernel
theorem dL_law_887 : decode cL_law 887 = .ok (.iadd, 1) := by decide +kernel
theorem dL_law_888 : decode cL_law 888 = .ok (.iaload, 1) := by decide +kernel
theorem dL_law_889 : decode cL_law 889 = .ok (.invokevirtual 160, 3) := by decide +kernel
theorem dL_law_892 : decode cL_law 892 = .ok (.istore 7, 2) := by decide +kernel
theorem dL_law_894 : decode cL_law 894 = .ok (.aload_n 2, 1) := by decide +kernel
theorem dL_law_895 : decode cL_law 895 = .ok (.invokevirtual 122, 3) := by decide +kernel
theorem dL_law_898 : decode cL_law 898 = .ok (.iload 6, 2) := by decide +kernel
theorem dL_law_900 : decode cL_law 900 = .ok (.if_icmp .eq 5, 3) := by decide +kernel
theorem dL_law_903 : decode cL_law 903 = .ok (.iconst 0, 1) := by decide +kernel
theorem dL_law_904 : decode cL_law 904 = .ok (.ireturn, 1) := by decide +kernel
theorem dL_law_905 : decode cL_law 905 = .ok (.iload 6, 2) := by decide +kernel
theorem dL_law_907 : decode cL_law 907 = .ok (.ifCond .ne 15, 3) := by decide +kernel
theorem dL_law_910 : decode cL_law 910 = .ok (.aload_n 3, 1) := by decide +kernel
theorem dL_law_911 : decode cL_law 911 = .ok (.iconst 0, 1) := by decide +kernel
theorem dL_law_912 : decode cL_law 912 = .ok (.laload, 1) := by decide +kernel
theorem dL_law_913 : decode cL_law 913 = .ok (.iload 7, 2) := by decide +kernel
theorem dL_law_915 : decode cL_law 915 = .ok (.i2l, 1) := by decide +kernel
theorem dL_law_916 : decode cL_law 916 = .ok (.lcmp, 1) := by decide +kernel
theorem dL_law_917 : decode cL_law 917 = .ok (.ifCond .eq 5, 3) := by decide +kernel
theorem dL_law_920 : decode cL_law 920 = .ok (.iconst 0, 1) := by decide +kernel
theorem dL_law_921 : decode cL_law 921 = .ok (.ireturn, 1) := by decide +kernel
theorem dL_law_922 : decode cL_law 922 = .ok (.goto 1123, 3) := by decide +kernel
theorem dL_law_925 : decode cL_law 925 = .ok (.aload_n 1, 1) := by decide +kernel
theorem dL_law_926 : decode cL_law 926 = .ok (.invokevirtual 161, 3) := by decide +kernel
theorem dL_law_929 : decode cL_law 929 = .ok (.aload_n 2, 1) := by decide +kernel
theorem dL_law_930 : decode cL_law 930 = .ok (.invokevirtual 164, 3) := by decide +kernel
theorem dL_law_933 : decode cL_law 933 = .ok (.if_icmp .eq 1112, 3) := by decide +kernel
theorem dL_law_936 : decode cL_law 936 = .ok (.iconst 0, 1) := by decide +kernel
theorem dL_law_937 : decode cL_law 937 = .ok (.ireturn, 1) := by decide +kernel
theorem dL_law_938 : decode cL_law 938 = .ok (.aload_n 1, 1) := by decide +kernel
theorem dL_law_939 : decode cL_law 939 = .ok (.aload_n 0, 1) := by decide +kernel
theorem dL_law_940 : decode cL_law 940 = .ok (.iload 5, 2) := by decide +kernel
theorem dL_law_942 : decode cL_law 942 = .ok (.iconst 1, 1) := by decide +kernel
theorem dL_law_943 : decode cL_law 943 = .ok (.iadd, 1) := by decide +kernel
theorem dL_law_944 : decode cL_law 944 = .ok (.iaload, 1) := by decide +kernel
theorem dL_law_945 : decode cL_law 945 = .ok (.aload_n 3, 1) := by decide +kernel
theorem dL_law_946 : decode cL_law 946 = .ok (.invokestatic 165, 3) := by decide +kernel
theorem dL_law_949 : decode cL_law 949 = .ok (.istore 6, 2) := by decide +kernel
theorem dL_law_951 : decode cL_law 951 = .ok (.aload_n 2, 1) := by decide +kernel
theorem dL_law_952 : decode cL_law 952 = .ok (.aload_n 0, 1) := by decide +kernel
theorem dL_law_953 : decode cL_law 953 = .ok (.iload 5, 2) := by decide +kernel
theorem dL_law_955 : decode cL_law 955 = .ok (.iconst 1, 1) := by decide +kernel
theorem dL_law_956 : decode cL_law 956 = .ok (.iadd, 1) := by decide +kernel
theorem dL_law_957 : decode cL_law 957 = .ok (.iaload, 1) := by decide +kernel
theorem dL_law_958 : decode cL_law 958 = .ok (.invokevirtual 167, 3) := by decide +kernel
theorem dL_law_961 : decode cL_law 961 = .ok (.istore 7, 2) := by decide +kernel
theorem dL_law_963 : decode cL_law 963 = .ok (.aload_n 2, 1) := by decide +kernel
theorem dL_law_964 : decode cL_law 964 = .ok (.invokevirtual 122, 3) := by decide +kernel
theorem dL_law_967 : decode cL_law 967 = .ok (.iload 6, 2) := by decide +kernel
theorem dL_law_969 : decode cL_law 969 = .ok (.if_icmp .eq 5, 3) := by decide +kernel
theorem dL_law_972 : decode cL_law 972 = .ok (.iconst 0, 1) := by decide +kernel
theorem dL_law_973 : decode cL_law 973 = .ok (.ireturn, 1) := by decide +kernel
theorem dL_law_974 : decode cL_law 974 = .ok (.iload 6, 2) := by decide +kernel
theorem dL_law_976 : decode cL_law 976 = .ok (.ifCond .ne 15, 3) := by decide +kernel
theorem dL_law_979 : decode cL_law 979 = .ok (.aload_n 3, 1) := by decide +kernel
theorem dL_law_980 : decode cL_law 980 = .ok (.iconst 0, 1) := by decide +kernel
theorem dL_law_981 : decode cL_law 981 = .ok (.laload, 1) := by decide +kernel
theorem dL_law_982 : decode cL_law 982 = .ok (.iload 7, 2) := by decide +kernel
theorem dL_law_984 : decode cL_law 984 = .ok (.i2l, 1) := by decide +kernel
theorem dL_law_985 : decode cL_law 985 = .ok (.lcmp, 1) := by decide +kernel
theorem dL_law_986 : decode cL_law 986 = .ok (.ifCond .eq 5, 3) := by decide +kernel
theorem dL_law_989 : decode cL_law 989 = .ok (.iconst 0, 1) := by decide +kernel
theorem dL_law_990 : decode cL_law 990 = .ok (.ireturn, 1) := by decide +kernel
theorem dL_law_991 : decode cL_law 991 = .ok (.goto 1054, 3) := by decide +kernel
theorem dL_law_994 : decode cL_law 994 = .ok (.aload_n 1, 1) := by decide +kernel
theorem dL_law_995 : decode cL_law 995 = .ok (.aload_n 0, 1) := by decide +kernel
theorem dL_law_996 : decode cL_law 996 = .ok (.iload 5, 2) := by decide +kernel
theorem dL_law_998 : decode cL_law 998 = .ok (.iconst 1, 1) := by decide +kernel
theorem dL_law_999 : decode cL_law 999 = .ok (.iadd, 1) := by decide +kernel
theorem dL_law_1000 : decode cL_law 1000 = .ok (.iaload, 1) := by decide +kernel
theorem dL_law_1001 : decode cL_law 1001 = .ok (.aload_n 0, 1) := by decide +kernel
theorem dL_law_1002 : decode cL_law 1002 = .ok (.iload 5, 2) := by decide +kernel
theorem dL_law_1004 : decode cL_law 1004 = .ok (.iconst 2, 1) := by decide +kernel
theorem dL_law_1005 : decode cL_law 1005 = .ok (.iadd, 1) := by decide +kernel
theorem dL_law_1006 : decode cL_law 1006 = .ok (.iaload, 1) := by decide +kernel
theorem dL_law_1007 : decode cL_law 1007 = .ok (.aload_n 3, 1) := by decide +kernel
theorem dL_law_1008 : decode cL_law 1008 = .ok (.invokestatic 168, 3) := by decide +kernel
theorem dL_law_1011 : decode cL_law 1011 = .ok (.istore 6, 2) := by decide +kernel
theorem dL_law_1013 : decode cL_law 1013 = .ok (.aload_n 2, 1) := by decide +kernel
theorem dL_law_1014 : decode cL_law 1014 = .ok (.aload_n 0, 1) := by decide +kernel
theorem dL_law_1015 : decode cL_law 1015 = .ok (.iload 5, 2) := by decide +kernel
theorem dL_law_1017 : decode cL_law 1017 = .ok (.iconst 1, 1) := by decide +kernel
theorem dL_law_1018 : decode cL_law 1018 = .ok (.iadd, 1) := by decide +kernel
theorem dL_law_1019 : decode cL_law 1019 = .ok (.iaload, 1) := by decide +kernel
theorem dL_law_1020 : decode cL_law 1020 = .ok (.aload_n 0, 1) := by decide +kernel
theorem dL_law_1021 : decode cL_law 1021 = .ok (.iload 5, 2) := by decide +kernel
theorem dL_law_1023 : decode cL_law 1023 = .ok (.iconst 2, 1) := by decide +kernel
theorem dL_law_1024 : decode cL_law 1024 = .ok (.iadd, 1) := by decide +kernel
theorem dL_law_1025 : decode cL_law 1025 = .ok (.iaload, 1) := by decide +kernel
theorem dL_law_1026 : decode cL_law 1026 = .ok (.invokevirtual 170, 3) := by decide +kernel
theorem dL_law_1029 : decode cL_law 1029 = .ok (.istore 7, 2) := by decide +kernel
theorem dL_law_1031 : decode cL_law 1031 = .ok (.aload_n 2, 1) := by decide +kernel
theorem dL_law_1032 : decode cL_law 1032 = .ok (.invokevirtual 122, 3) := by decide +kernel
theorem dL_law_1035 : decode cL_law 1035 = .ok (.iload 6, 2) := by decide +kernel
theorem dL_law_1037 : decode cL_law 1037 = .ok (.if_icmp .eq 5, 3) := by decide +kernel
theorem dL_law_1040 : decode cL_law 1040 = .ok (.iconst 0, 1) := by decide +kernel
theorem dL_law_1041 : decode cL_law 1041 = .ok (.ireturn, 1) := by decide +kernel
theorem dL_law_1042 : decode cL_law 1042 = .ok (.iload 6, 2) := by decide +kernel
theorem dL_law_1044 : decode cL_law 1044 = .ok (.ifCond .ne 15, 3) := by decide +kernel
theorem dL_law_1047 : decode cL_law 1047 = .ok (.aload_n 3, 1) := by decide +kernel
theorem dL_law_1048 : decode cL_law 1048 = .ok (.iconst 0, 1) := by decide +kernel
theorem dL_law_1049 : decode cL_law 1049 = .ok (.laload, 1) := by decide +kernel
theorem dL_law_1050 : decode cL_law 1050 = .ok (.iload 7, 2) := by decide +kernel
theorem dL_law_1052 : decode cL_law 1052 = .ok (.i2l, 1) := by decide +kernel
theorem dL_law_1053 : decode cL_law 1053 = .ok (.lcmp, 1) := by decide +kernel
theorem dL_law_1054 : decode cL_law 1054 = .ok (.ifCond .eq 5, 3) := by decide +kernel
theorem dL_law_1057 : decode cL_law 1057 = .ok (.iconst 0, 1) := by decide +kernel
theorem dL_law_1058 : decode cL_law 1058 = .ok (.ireturn, 1) := by decide +kernel
theorem dL_law_1059 : decode cL_law 1059 = .ok (.goto 986, 3) := by decide +kernel
theorem dL_law_1062 : decode cL_law 1062 = .ok (.aload_n 1, 1) := by decide +kernel
theorem dL_law_1063 : decode cL_law 1063 = .ok (.aload_n 0, 1) := by decide +kernel
theorem dL_law_1064 : decode cL_law 1064 = .ok (.iload 5, 2) := by decide +kernel
theorem dL_law_1066 : decode cL_law 1066 = .ok (.iconst 1, 1) := by decide +kernel
theorem dL_law_1067 : decode cL_law 1067 = .ok (.iadd, 1) := by decide +kernel
theorem dL_law_1068 : decode cL_law 1068 = .ok (.iaload, 1) := by decide +kernel
theorem dL_law_1069 : decode cL_law 1069 = .ok (.aload_n 3, 1) := by decide +kernel
theorem dL_law_1070 : decode cL_law 1070 = .ok (.invokestatic 171, 3) := by decide +kernel
theorem dL_law_1073 : decode cL_law 1073 = .ok (.istore 6, 2) := by decide +kernel
theorem dL_law_1075 : decode cL_law 1075 = .ok (.aload_n 2, 1) := by decide +kernel
theorem dL_law_1076 : decode cL_law 1076 = .ok (.aload_n 0, 1) := by decide +kernel
theorem dL_law_1077 : decode cL_law 1077 = .ok (.iload 5, 2) := by decide +kernel
theorem dL_law_1079 : decode cL_law 1079 = .ok (.iconst 1, 1) := by decide +kernel
theorem dL_law_1080 : decode cL_law 1080 = .ok (.iadd, 1) := by decide +kernel
theorem dL_law_1081 : decode cL_law 1081 = .ok (.iaload, 1) := by decide +kernel
theorem dL_law_1082 : decode cL_law 1082 = .ok (.invokevirtual 173, 3) := by decide +kernel
theorem dL_law_1085 : decode cL_law 1085 = .ok (.istore 7, 2) := by decide +kernel
theorem dL_law_1087 : decode cL_law 1087 = .ok (.aload_n 2, 1) := by decide +kernel
theorem dL_law_1088 : decode cL_law 1088 = .ok (.invokevirtual 122, 3) := by decide +kernel
theorem dL_law_1091 : decode cL_law 1091 = .ok (.iload 6, 2) := by decide +kernel
theorem dL_law_1093 : decode cL_law 1093 = .ok (.if_icmp .eq 5, 3) := by decide +kernel
theorem dL_law_1096 : decode cL_law 1096 = .ok (.iconst 0, 1) := by decide +kernel
theorem dL_law_1097 : decode cL_law 1097 = .ok (.ireturn, 1) := by decide +kernel
theorem dL_law_1098 : decode cL_law 1098 = .ok (.iload 6, 2) := by decide +kernel
theorem dL_law_1100 : decode cL_law 1100 = .ok (.ifCond .ne 15, 3) := by decide +kernel
theorem dL_law_1103 : decode cL_law 1103 = .ok (.aload_n 3, 1) := by decide +kernel
theorem dL_law_1104 : decode cL_law 1104 = .ok (.iconst 0, 1) := by decide +kernel
theorem dL_law_1105 : decode cL_law 1105 = .ok (.laload, 1) := by decide +kernel
theorem dL_law_1106 : decode cL_law 1106 = .ok (.iload 7, 2) := by decide +kernel
theorem dL_law_1108 : decode cL_law 1108 = .ok (.i2l, 1) := by decide +kernel
theorem dL_law_1109 : decode cL_law 1109 = .ok (.lcmp, 1) := by decide +kernel
theorem dL_law_1110 : decode cL_law 1110 = .ok (.ifCond .eq 5, 3) := by decide +kernel
theorem dL_law_1113 : decode cL_law 1113 = .ok (.iconst 0, 1) := by decide +kernel
theorem dL_law_1114 : decode cL_law 1114 = .ok (.ireturn, 1) := by decide +kernel
theorem dL_law_1115 : decode cL_law 1115 = .ok (.goto 930, 3) := by decide +kernel
theorem dL_law_1118 : decode cL_law 1118 = .ok (.aload_n 1, 1) := by decide +kernel
theorem dL_law_1119 : decode cL_law 1119 = .ok (.aload_n 0, 1) := by decide +kernel
theorem dL_law_1120 : decode cL_law 1120 = .ok (.iload 5, 2) := by decide +kernel
theorem dL_law_1122 : decode cL_law 1122 = .ok (.iconst 1, 1) := by decide +kernel
theorem dL_law_1123 : decode cL_law 1123 = .ok (.iadd, 1) := by decide +kernel
theorem dL_law_1124 : decode cL_law 1124 = .ok (.iaload, 1) := by decide +kernel
theorem dL_law_1125 : decode cL_law 1125 = .ok (.aload_n 3, 1) := by decide +kernel
theorem dL_law_1126 : decode cL_law 1126 = .ok (.invokestatic 174, 3) := by decide +kernel
theorem dL_law_1129 : decode cL_law 1129 = .ok (.istore 6, 2) := by decide +kernel
theorem dL_law_1131 : decode cL_law 1131 = .ok (.aload_n 2, 1) := by decide +kernel
theorem dL_law_1132 : decode cL_law 1132 = .ok (.aload_n 0, 1) := by decide +kernel
theorem dL_law_1133 : decode cL_law 1133 = .ok (.iload 5, 2) := by decide +kernel
theorem dL_law_1135 : decode cL_law 1135 = .ok (.iconst 1, 1) := by decide +kernel
theorem dL_law_1136 : decode cL_law 1136 = .ok (.iadd, 1) := by decide +kernel
theorem dL_law_1137 : decode cL_law 1137 = .ok (.iaload, 1) := by decide +kernel
theorem dL_law_1138 : decode cL_law 1138 = .ok (.invokevirtual 176, 3) := by decide +kernel
theorem dL_law_1141 : decode cL_law 1141 = .ok (.istore 7, 2) := by decide +kernel
theorem dL_law_1143 : decode cL_law 1143 = .ok (.aload_n 2, 1) := by decide +kernel
theorem dL_law_1144 : decode cL_law 1144 = .ok (.invokevirtual 122, 3) := by decide +kernel
theorem dL_law_1147 : decode cL_law 1147 = .ok (.iload 6, 2) := by decide +kernel
theorem dL_law_1149 : decode cL_law 1149 = .ok (.if_icmp .eq 5, 3) := by decide +kernel
theorem dL_law_1152 : decode cL_law 1152 = .ok (.iconst 0, 1) := by decide +kernel
theorem dL_law_1153 : decode cL_law 1153 = .ok (.ireturn, 1) := by decide +kernel
theorem dL_law_1154 : decode cL_law 1154 = .ok (.iload 6, 2) := by decide +kernel
theorem dL_law_1156 : decode cL_law 1156 = .ok (.ifCond .ne 15, 3) := by decide +kernel
theorem dL_law_1159 : decode cL_law 1159 = .ok (.aload_n 3, 1) := by decide +kernel
theorem dL_law_1160 : decode cL_law 1160 = .ok (.iconst 0, 1) := by decide +kernel
theorem dL_law_1161 : decode cL_law 1161 = .ok (.laload, 1) := by decide +kernel
theorem dL_law_1162 : decode cL_law 1162 = .ok (.iload 7, 2) := by decide +kernel
theorem dL_law_1164 : decode cL_law 1164 = .ok (.i2l, 1) := by decide +kernel
theorem dL_law_1165 : decode cL_law 1165 = .ok (.lcmp, 1) := by decide +kernel
theorem dL_law_1166 : decode cL_law 1166 = .ok (.ifCond .eq 5, 3) := by decide +kernel
theorem dL_law_1169 : decode cL_law 1169 = .ok (.iconst 0, 1) := by decide +kernel
theorem dL_law_1170 : decode cL_law 1170 = .ok (.ireturn, 1) := by decide +kernel
theorem dL_law_1171 : decode cL_law 1171 = .ok (.goto 874, 3) := by decide +kernel
theorem dL_law_1174 : decode cL_law 1174 = .ok (.aload_n 1, 1) := by decide +kernel
theorem dL_law_1175 : decode cL_law 1175 = .ok (.aload_n 0, 1) := by decide +kernel
theorem dL_law_1176 : decode cL_law 1176 = .ok (.iload 5, 2) := by decide +kernel
theorem dL_law_1178 : decode cL_law 1178 = .ok (.iconst 1, 1) := by decide +kernel
theorem dL_law_1179 : decode cL_law 1179 = .ok (.iadd, 1) := by decide +kernel
theorem dL_law_1180 : decode cL_law 1180 = .ok (.iaload, 1) := by decide +kernel
theorem dL_law_1181 : decode cL_law 1181 = .ok (.aload_n 3, 1) := by decide +kernel
theorem dL_law_1182 : decode cL_law 1182 = .ok (.invokestatic 177, 3) := by decide +kernel
theorem dL_law_1185 : decode cL_law 1185 = .ok (.istore 6, 2) := by decide +kernel
theorem dL_law_1187 : decode cL_law 1187 = .ok (.aload_n 2, 1) := by decide +kernel
theorem dL_law_1188 : decode cL_law 1188 = .ok (.aload_n 0, 1) := by decide +kernel
theorem dL_law_1189 : decode cL_law 1189 = .ok (.iload 5, 2) := by decide +kernel
theorem dL_law_1191 : decode cL_law 1191 = .ok (.iconst 1, 1) := by decide +kernel
theorem dL_law_1192 : decode cL_law 1192 = .ok (.iadd, 1) := by decide +kernel
theorem dL_law_1193 : decode cL_law 1193 = .ok (.iaload, 1) := by decide +kernel
theorem dL_law_1194 : decode cL_law 1194 = .ok (.invokevirtual 179, 3) := by decide +kernel
theorem dL_law_1197 : decode cL_law 1197 = .ok (.istore 7, 2) := by decide +kernel
theorem dL_law_1199 : decode cL_law 1199 = .ok (.aload_n 2, 1) := by decide +kernel
theorem dL_law_1200 : decode cL_law 1200 = .ok (.invokevirtual 122, 3) := by decide +kernel
theorem dL_law_1203 : decode cL_law 1203 = .ok (.iload 6, 2) := by decide +kernel
theorem dL_law_1205 : decode cL_law 1205 = .ok (.if_icmp .eq 5, 3) := by decide +kernel
theorem dL_law_1208 : decode cL_law 1208 = .ok (.iconst 0, 1) := by decide +kernel
theorem dL_law_1209 : decode cL_law 1209 = .ok (.ireturn, 1) := by decide +kernel
theorem dL_law_1210 : decode cL_law 1210 = .ok (.iload 6, 2) := by decide +kernel
theorem dL_law_1212 : decode cL_law 1212 = .ok (.ifCond .ne 15, 3) := by decide +kernel
theorem dL_law_1215 : decode cL_law 1215 = .ok (.aload_n 3, 1) := by decide +kernel
theorem dL_law_1216 : decode cL_law 1216 = .ok (.iconst 0, 1) := by decide +kernel
theorem dL_law_1217 : decode cL_law 1217 = .ok (.laload, 1) := by decide +kernel
theorem dL_law_1218 : decode cL_law 1218 = .ok (.iload 7, 2) := by decide +kernel
theorem dL_law_1220 : decode cL_law 1220 = .ok (.i2l, 1) := by decide +kernel
theorem dL_law_1221 : decode cL_law 1221 = .ok (.lcmp, 1) := by decide +kernel
theorem dL_law_1222 : decode cL_law 1222 = .ok (.ifCond .eq 5, 3) := by decide +kernel
theorem dL_law_1225 : decode cL_law 1225 = .ok (.iconst 0, 1) := by decide +kernel
theorem dL_law_1226 : decode cL_law 1226 = .ok (.ireturn, 1) := by decide +kernel
theorem dL_law_1227 : decode cL_law 1227 = .ok (.goto 818, 3) := by decide +kernel
theorem dL_law_1230 : decode cL_law 1230 = .ok (.aload_n 1, 1) := by decide +kernel
theorem dL_law_1231 : decode cL_law 1231 = .ok (.aload_n 0, 1) := by decide +kernel
theorem dL_law_1232 : decode cL_law 1232 = .ok (.iload 5, 2) := by decide +kernel
theorem dL_law_1234 : decode cL_law 1234 = .ok (.iconst 1, 1) := by decide +kernel
theorem dL_law_1235 : decode cL_law 1235 = .ok (.iadd, 1) := by decide +kernel
theorem dL_law_1236 : decode cL_law 1236 = .ok (.iaload, 1) := by decide +kernel
theorem dL_law_1237 : decode cL_law 1237 = .ok (.aload_n 3, 1) := by decide +kernel
theorem dL_law_1238 : decode cL_law 1238 = .ok (.invokestatic 180, 3) := by decide +kernel
theorem dL_law_1241 : decode cL_law 1241 = .ok (.istore 6, 2) := by decide +kernel
theorem dL_law_1243 : decode cL_law 1243 = .ok (.aload_n 2, 1) := by decide +kernel
theorem dL_law_1244 : decode cL_law 1244 = .ok (.aload_n 0, 1) := by decide +kernel
theorem dL_law_1245 : decode cL_law 1245 = .ok (.iload 5, 2) := by decide +kernel
theorem dL_law_1247 : decode cL_law 1247 = .ok (.iconst 1, 1) := by decide +kernel
theorem dL_law_1248 : decode cL_law 1248 = .ok (.iadd, 1) := by decide +kernel
theorem dL_law_1249 : decode cL_law 1249 = .ok (.iaload, 1) := by decide +kernel
theorem dL_law_1250 : decode cL_law 1250 = .ok (.invokevirtual 182, 3) := by decide +kernel
theorem dL_law_1253 : decode cL_law 1253 = .ok (.istore 7, 2) := by decide +kernel
theorem dL_law_1255 : decode cL_law 1255 = .ok (.aload_n 2, 1) := by decide +kernel
theorem dL_law_1256 : decode cL_law 1256 = .ok (.invokevirtual 122, 3) := by decide +kernel
theorem dL_law_1259 : decode cL_law 1259 = .ok (.iload 6, 2) := by decide +kernel
theorem dL_law_1261 : decode cL_law 1261 = .ok (.if_icmp .eq 5, 3) := by decide +kernel
theorem dL_law_1264 : decode cL_law 1264 = .ok (.iconst 0, 1) := by decide +kernel
theorem dL_law_1265 : decode cL_law 1265 = .ok (.ireturn, 1) := by decide +kernel
theorem dL_law_1266 : decode cL_law 1266 = .ok (.iload 6, 2) := by decide +kernel
theorem dL_law_1268 : decode cL_law 1268 = .ok (.ifCond .ne 15, 3) := by decide +kernel
theorem dL_law_1271 : decode cL_law 1271 = .ok (.aload_n 3, 1) := by decide +kernel
theorem dL_law_1272 : decode cL_law 1272 = .ok (.iconst 0, 1) := by decide +kernel
theorem dL_law_1273 : decode cL_law 1273 = .ok (.laload, 1) := by decide +kernel
theorem dL_law_1274 : decode cL_law 1274 = .ok (.iload 7, 2) := by decide +kernel
theorem dL_law_1276 : decode cL_law 1276 = .ok (.i2l, 1) := by decide +kernel
theorem dL_law_1277 : decode cL_law 1277 = .ok (.lcmp, 1) := by decide +kernel
theorem dL_law_1278 : decode cL_law 1278 = .ok (.ifCond .eq 5, 3) := by decide +kernel
theorem dL_law_1281 : decode cL_law 1281 = .ok (.iconst 0, 1) := by decide +kernel
theorem dL_law_1282 : decode cL_law 1282 = .ok (.ireturn, 1) := by decide +kernel
theorem dL_law_1283 : decode cL_law 1283 = .ok (.goto 762, 3) := by decide +kernel
theorem dL_law_1286 : decode cL_law 1286 = .ok (.aload_n 1, 1) := by decide +kernel
theorem dL_law_1287 : decode cL_law 1287 = .ok (.aload_n 0, 1) := by decide +kernel
theorem dL_law_1288 : decode cL_law 1288 = .ok (.iload 5, 2) := by decide +kernel
theorem dL_law_1290 : decode cL_law 1290 = .ok (.iconst 1, 1) := by decide +kernel
theorem dL_law_1291 : decode cL_law 1291 = .ok (.iadd, 1) := by decide +kernel
theorem dL_law_1292 : decode cL_law 1292 = .ok (.iaload, 1) := by decide +kernel
theorem dL_law_1293 : decode cL_law 1293 = .ok (.aload_n 3, 1) := by decide +kernel
theorem dL_law_1294 : decode cL_law 1294 = .ok (.invokestatic 183, 3) := by decide +kernel
theorem dL_law_1297 : decode cL_law 1297 = .ok (.istore 6, 2) := by decide +kernel
theorem dL_law_1299 : decode cL_law 1299 = .ok (.aload_n 2, 1) := by decide +kernel
theorem dL_law_1300 : decode cL_law 1300 = .ok (.aload_n 0, 1) := by decide +kernel
theorem dL_law_1301 : decode cL_law 1301 = .ok (.iload 5, 2) := by decide +kernel
theorem dL_law_1303 : decode cL_law 1303 = .ok (.iconst 1, 1) := by decide +kernel
theorem dL_law_1304 : decode cL_law 1304 = .ok (.iadd, 1) := by decide +kernel
theorem dL_law_1305 : decode cL_law 1305 = .ok (.iaload, 1) := by decide +kernel
theorem dL_law_1306 : decode cL_law 1306 = .ok (.invokevirtual 185, 3) := by decide +kernel
theorem dL_law_1309 : decode cL_law 1309 = .ok (.istore 7, 2) := by decide +kernel
theorem dL_law_1311 : decode cL_law 1311 = .ok (.aload_n 2, 1) := by decide +kernel
theorem dL_law_1312 : decode cL_law 1312 = .ok (.invokevirtual 122, 3) := by decide +kernel
theorem dL_law_1315 : decode cL_law 1315 = .ok (.iload 6, 2) := by decide +kernel
theorem dL_law_1317 : decode cL_law 1317 = .ok (.if_icmp .eq 5, 3) := by decide +kernel
theorem dL_law_1320 : decode cL_law 1320 = .ok (.iconst 0, 1) := by decide +kernel
theorem dL_law_1321 : decode cL_law 1321 = .ok (.ireturn, 1) := by decide +kernel
theorem dL_law_1322 : decode cL_law 1322 = .ok (.iload 6, 2) := by decide +kernel
theorem dL_law_1324 : decode cL_law 1324 = .ok (.ifCond .ne 15, 3) := by decide +kernel
theorem dL_law_1327 : decode cL_law 1327 = .ok (.aload_n 3, 1) := by decide +kernel
theorem dL_law_1328 : decode cL_law 1328 = .ok (.iconst 0, 1) := by decide +kernel
theorem dL_law_1329 : decode cL_law 1329 = .ok (.laload, 1) := by decide +kernel
theorem dL_law_1330 : decode cL_law 1330 = .ok (.iload 7, 2) := by decide +kernel
theorem dL_law_1332 : decode cL_law 1332 = .ok (.i2l, 1) := by decide +kernel
theorem dL_law_1333 : decode cL_law 1333 = .ok (.lcmp, 1) := by decide +kernel
theorem dL_law_1334 : decode cL_law 1334 = .ok (.ifCond .eq 5, 3) := by decide +kernel
theorem dL_law_1337 : decode cL_law 1337 = .ok (.iconst 0, 1) := by decide +kernel
theorem dL_law_1338 : decode cL_law 1338 = .ok (.ireturn, 1) := by decide +kernel
theorem dL_law_1339 : decode cL_law 1339 = .ok (.goto 706, 3) := by decide +kernel
theorem dL_law_1342 : decode cL_law 1342 = .ok (.aload_n 1, 1) := by decide +kernel
theorem dL_law_1343 : decode cL_law 1343 = .ok (.aload_n 0, 1) := by decide +kernel
theorem dL_law_1344 : decode cL_law 1344 = .ok (.iload 5, 2) := by decide +kernel
theorem dL_law_1346 : decode cL_law 1346 = .ok (.iconst 1, 1) := by decide +kernel
theorem dL_law_1347 : decode cL_law 1347 = .ok (.iadd, 1) := by decide +kernel
theorem dL_law_1348 : decode cL_law 1348 = .ok (.iaload, 1) := by decide +kernel
theorem dL_law_1349 : decode cL_law 1349 = .ok (.aload_n 3, 1) := by decide +kernel
theorem dL_law_1350 : decode cL_law 1350 = .ok (.invokestatic 186, 3) := by decide +kernel
theorem dL_law_1353 : decode cL_law 1353 = .ok (.istore 6, 2) := by decide +kernel
theorem dL_law_1355 : decode cL_law 1355 = .ok (.aload_n 2, 1) := by decide +kernel
theorem dL_law_1356 : decode cL_law 1356 = .ok (.aload_n 0, 1) := by decide +kernel
theorem dL_law_1357 : decode cL_law 1357 = .ok (.iload 5, 2) := by decide +kernel
theorem dL_law_1359 : decode cL_law 1359 = .ok (.iconst 1, 1) := by decide +kernel
theorem dL_law_1360 : decode cL_law 1360 = .ok (.iadd, 1) := by decide +kernel
theorem dL_law_1361 : decode cL_law 1361 = .ok (.iaload, 1) := by decide +kernel
theorem dL_law_1362 : decode cL_law 1362 = .ok (.invokevirtual 188, 3) := by decide +kernel
theorem dL_law_1365 : decode cL_law 1365 = .ok (.istore 7, 2) := by decide +kernel
theorem dL_law_1367 : decode cL_law 1367 = .ok (.aload_n 2, 1) := by decide +kernel
theorem dL_law_1368 : decode cL_law 1368 = .ok (.invokevirtual 122, 3) := by decide +kernel
theorem dL_law_1371 : decode cL_law 1371 = .ok (.iload 6, 2) := by decide +kernel
theorem dL_law_1373 : decode cL_law 1373 = .ok (.if_icmp .eq 5, 3) := by decide +kernel
theorem dL_law_1376 : decode cL_law 1376 = .ok (.iconst 0, 1) := by decide +kernel
theorem dL_law_1377 : decode cL_law 1377 = .ok (.ireturn, 1) := by decide +kernel
theorem dL_law_1378 : decode cL_law 1378 = .ok (.iload 6, 2) := by decide +kernel
theorem dL_law_1380 : decode cL_law 1380 = .ok (.ifCond .ne 15, 3) := by decide +kernel
theorem dL_law_1383 : decode cL_law 1383 = .ok (.aload_n 3, 1) := by decide +kernel
theorem dL_law_1384 : decode cL_law 1384 = .ok (.iconst 0, 1) := by decide +kernel
theorem dL_law_1385 : decode cL_law 1385 = .ok (.laload, 1) := by decide +kernel
theorem dL_law_1386 : decode cL_law 1386 = .ok (.iload 7, 2) := by decide +kernel
theorem dL_law_1388 : decode cL_law 1388 = .ok (.i2l, 1) := by decide +kernel
theorem dL_law_1389 : decode cL_law 1389 = .ok (.lcmp, 1) := by decide +kernel
theorem dL_law_1390 : decode cL_law 1390 = .ok (.ifCond .eq 5, 3) := by decide +kernel
theorem dL_law_1393 : decode cL_law 1393 = .ok (.iconst 0, 1) := by decide +kernel
theorem dL_law_1394 : decode cL_law 1394 = .ok (.ireturn, 1) := by decide +kernel
theorem dL_law_1395 : decode cL_law 1395 = .ok (.goto 650, 3) := by decide +kernel
theorem dL_law_1398 : decode cL_law 1398 = .ok (.aload_n 1, 1) := by decide +kernel
theorem dL_law_1399 : decode cL_law 1399 = .ok (.aload_n 0, 1) := by decide +kernel
theorem dL_law_1400 : decode cL_law 1400 = .ok (.iload 5, 2) := by decide +kernel
theorem dL_law_1402 : decode cL_law 1402 = .ok (.iconst 1, 1) := by decide +kernel
theorem dL_law_1403 : decode cL_law 1403 = .ok (.iadd, 1) := by decide +kernel
theorem dL_law_1404 : decode cL_law 1404 = .ok (.iaload, 1) := by decide +kernel
theorem dL_law_1405 : decode cL_law 1405 = .ok (.aload_n 0, 1) := by decide +kernel
theorem dL_law_1406 : decode cL_law 1406 = .ok (.iload 5, 2) := by decide +kernel
theorem dL_law_1408 : decode cL_law 1408 = .ok (.iconst 2, 1) := by decide +kernel
theorem dL_law_1409 : decode cL_law 1409 = .ok (.iadd, 1) := by decide +kernel
theorem dL_law_1410 : decode cL_law 1410 = .ok (.iaload, 1) := by decide +kernel
theorem dL_law_1411 : decode cL_law 1411 = .ok (.aload_n 3, 1) := by decide +kernel
theorem dL_law_1412 : decode cL_law 1412 = .ok (.invokestatic 189, 3) := by decide +kernel
theorem dL_law_1415 : decode cL_law 1415 = .ok (.istore 6, 2) := by decide +kernel
theorem dL_law_1417 : decode cL_law 1417 = .ok (.aload_n 2, 1) := by decide +kernel
theorem dL_law_1418 : decode cL_law 1418 = .ok (.aload_n 0, 1) := by decide +kernel
theorem dL_law_1419 : decode cL_law 1419 = .ok (.iload 5, 2) := by decide +kernel
theorem dL_law_1421 : decode cL_law 1421 = .ok (.iconst 1, 1) := by decide +kernel
theorem dL_law_1422 : decode cL_law 1422 = .ok (.iadd, 1) := by decide +kernel
theorem dL_law_1423 : decode cL_law 1423 = .ok (.iaload, 1) := by decide +kernel
theorem dL_law_1424 : decode cL_law 1424 = .ok (.aload_n 0, 1) := by decide +kernel
theorem dL_law_1425 : decode cL_law 1425 = .ok (.iload 5, 2) := by decide +kernel
theorem dL_law_1427 : decode cL_law 1427 = .ok (.iconst 2, 1) := by decide +kernel
theorem dL_law_1428 : decode cL_law 1428 = .ok (.iadd, 1) := by decide +kernel
theorem dL_law_1429 : decode cL_law 1429 = .ok (.iaload, 1) := by decide +kernel
theorem dL_law_1430 : decode cL_law 1430 = .ok (.invokevirtual 191, 3) := by decide +kernel
theorem dL_law_1433 : decode cL_law 1433 = .ok (.istore 7, 2) := by decide +kernel
theorem dL_law_1435 : decode cL_law 1435 = .ok (.aload_n 2, 1) := by decide +kernel
theorem dL_law_1436 : decode cL_law 1436 = .ok (.invokevirtual 122, 3) := by decide +kernel
theorem dL_law_1439 : decode cL_law 1439 = .ok (.iload 6, 2) := by decide +kernel
theorem dL_law_1441 : decode cL_law 1441 = .ok (.if_icmp .eq 5, 3) := by decide +kernel
theorem dL_law_1444 : decode cL_law 1444 = .ok (.iconst 0, 1) := by decide +kernel
theorem dL_law_1445 : decode cL_law 1445 = .ok (.ireturn, 1) := by decide +kernel
theorem dL_law_1446 : decode cL_law 1446 = .ok (.iload 6, 2) := by decide +kernel
theorem dL_law_1448 : decode cL_law 1448 = .ok (.ifCond .ne 15, 3) := by decide +kernel
theorem dL_law_1451 : decode cL_law 1451 = .ok (.aload_n 3, 1) := by decide +kernel
theorem dL_law_1452 : decode cL_law 1452 = .ok (.iconst 0, 1) := by decide +kernel
theorem dL_law_1453 : decode cL_law 1453 = .ok (.laload, 1) := by decide +kernel
theorem dL_law_1454 : decode cL_law 1454 = .ok (.iload 7, 2) := by decide +kernel
theorem dL_law_1456 : decode cL_law 1456 = .ok (.i2l, 1) := by decide +kernel
theorem dL_law_1457 : decode cL_law 1457 = .ok (.lcmp, 1) := by decide +kernel
theorem dL_law_1458 : decode cL_law 1458 = .ok (.ifCond .eq 5, 3) := by decide +kernel
theorem dL_law_1461 : decode cL_law 1461 = .ok (.iconst 0, 1) := by decide +kernel
theorem dL_law_1462 : decode cL_law 1462 = .ok (.ireturn, 1) := by decide +kernel
theorem dL_law_1463 : decode cL_law 1463 = .ok (.goto 582, 3) := by decide +kernel
theorem dL_law_1466 : decode cL_law 1466 = .ok (.aload_n 1, 1) := by decide +kernel
theorem dL_law_1467 : decode cL_law 1467 = .ok (.aload_n 0, 1) := by decide +kernel
theorem dL_law_1468 : decode cL_law 1468 = .ok (.iload 5, 2) := by decide +kernel
theorem dL_law_1470 : decode cL_law 1470 = .ok (.iconst 1, 1) := by decide +kernel
theorem dL_law_1471 : decode cL_law 1471 = .ok (.iadd, 1) := by decide +kernel
theorem dL_law_1472 : decode cL_law 1472 = .ok (.iaload, 1) := by decide +kernel
theorem dL_law_1473 : decode cL_law 1473 = .ok (.aload_n 3, 1) := by decide +kernel
theorem dL_law_1474 : decode cL_law 1474 = .ok (.invokestatic 192, 3) := by decide +kernel
theorem dL_law_1477 : decode cL_law 1477 = .ok (.istore 6, 2) := by decide +kernel
theorem dL_law_1479 : decode cL_law 1479 = .ok (.aload_n 2, 1) := by decide +kernel
theorem dL_law_1480 : decode cL_law 1480 = .ok (.aload_n 0, 1) := by decide +kernel
theorem dL_law_1481 : decode cL_law 1481 = .ok (.iload 5, 2) := by decide +kernel
theorem dL_law_1483 : decode cL_law 1483 = .ok (.iconst 1, 1) := by decide +kernel
theorem dL_law_1484 : decode cL_law 1484 = .ok (.iadd, 1) := by decide +kernel
theorem dL_law_1485 : decode cL_law 1485 = .ok (.iaload, 1) := by decide +kernel
theorem dL_law_1486 : decode cL_law 1486 = .ok (.invokevirtual 194, 3) := by decide +kernel
theorem dL_law_1489 : decode cL_law 1489 = .ok (.istore 7, 2) := by decide +kernel
theorem dL_law_1491 : decode cL_law 1491 = .ok (.aload_n 2, 1) := by decide +kernel
theorem dL_law_1492 : decode cL_law 1492 = .ok (.invokevirtual 122, 3) := by decide +kernel
theorem dL_law_1495 : decode cL_law 1495 = .ok (.iload 6, 2) := by decide +kernel
theorem dL_law_1497 : decode cL_law 1497 = .ok (.if_icmp .eq 5, 3) := by decide +kernel
theorem dL_law_1500 : decode cL_law 1500 = .ok (.iconst 0, 1) := by decide +kernel
theorem dL_law_1501 : decode cL_law 1501 = .ok (.ireturn, 1) := by decide +kernel
theorem dL_law_1502 : decode cL_law 1502 = .ok (.iload 6, 2) := by decide +kernel
theorem dL_law_1504 : decode cL_law 1504 = .ok (.ifCond .ne 15, 3) := by decide +kernel
theorem dL_law_1507 : decode cL_law 1507 = .ok (.aload_n 3, 1) := by decide +kernel
theorem dL_law_1508 : decode cL_law 1508 = .ok (.iconst 0, 1) := by decide +kernel
theorem dL_law_1509 : decode cL_law 1509 = .ok (.laload, 1) := by decide +kernel
theorem dL_law_1510 : decode cL_law 1510 = .ok (.iload 7, 2) := by decide +kernel
theorem dL_law_1512 : decode cL_law 1512 = .ok (.i2l, 1) := by decide +kernel
theorem dL_law_1513 : decode cL_law 1513 = .ok (.lcmp, 1) := by decide +kernel
theorem dL_law_1514 : decode cL_law 1514 = .ok (.ifCond .eq 5, 3) := by decide +kernel
theorem dL_law_1517 : decode cL_law 1517 = .ok (.iconst 0, 1) := by decide +kernel
theorem dL_law_1518 : decode cL_law 1518 = .ok (.ireturn, 1) := by decide +kernel
theorem dL_law_1519 : decode cL_law 1519 = .ok (.goto 526, 3) := by decide +kernel
theorem dL_law_1522 : decode cL_law 1522 = .ok (.aload_n 1, 1) := by decide +kernel
theorem dL_law_1523 : decode cL_law 1523 = .ok (.invokevirtual 195, 3) := by decide +kernel
theorem dL_law_1526 : decode cL_law 1526 = .ok (.aload_n 2, 1) := by decide +kernel
theorem dL_law_1527 : decode cL_law 1527 = .ok (.invokevirtual 198, 3) := by decide +kernel
theorem dL_law_1530 : decode cL_law 1530 = .ok (.if_icmp .eq 515, 3) := by decide +kernel
theorem dL_law_1533 : decode cL_law 1533 = .ok (.iconst 0, 1) := by decide +kernel
theorem dL_law_1534 : decode cL_law 1534 = .ok (.ireturn, 1) := by decide +kernel
theorem dL_law_1535 : decode cL_law 1535 = .ok (.aload_n 1, 1) := by decide +kernel
theorem dL_law_1536 : decode cL_law 1536 = .ok (.invokevirtual 199, 3) := by decide +kernel
theorem dL_law_1539 : decode cL_law 1539 = .ok (.aload_n 2, 1) := by decide +kernel
theorem dL_law_1540 : decode cL_law 1540 = .ok (.invokevirtual 202, 3) := by decide +kernel
theorem dL_law_1543 : decode cL_law 1543 = .ok (.if_icmp .eq 502, 3) := by decide +kernel
theorem dL_law_1546 : decode cL_law 1546 = .ok (.iconst 0, 1) := by decide +kernel
theorem dL_law_1547 : decode cL_law 1547 = .ok (.ireturn, 1) := by decide +kernel
theorem dL_law_1548 : decode cL_law 1548 = .ok (.aload_n 1, 1) := by decide +kernel
theorem dL_law_1549 : decode cL_law 1549 = .ok (.invokevirtual 203, 3) := by decide +kernel
theorem dL_law_1552 : decode cL_law 1552 = .ok (.aload_n 2, 1) := by decide +kernel
theorem dL_law_1553 : decode cL_law 1553 = .ok (.invokevirtual 207, 3) := by decide +kernel
theorem dL_law_1556 : decode cL_law 1556 = .ok (.if_icmp .eq 489, 3) := by decide +kernel
theorem dL_law_1559 : decode cL_law 1559 = .ok (.iconst 0, 1) := by decide +kernel
theorem dL_law_1560 : decode cL_law 1560 = .ok (.ireturn, 1) := by decide +kernel
theorem dL_law_1561 : decode cL_law 1561 = .ok (.aload_n 1, 1) := by decide +kernel
theorem dL_law_1562 : decode cL_law 1562 = .ok (.aload_n 3, 1) := by decide +kernel
theorem dL_law_1563 : decode cL_law 1563 = .ok (.invokestatic 208, 3) := by decide +kernel
theorem dL_law_1566 : decode cL_law 1566 = .ok (.istore 6, 2) := by decide +kernel
theorem dL_law_1568 : decode cL_law 1568 = .ok (.aload_n 2, 1) := by decide +kernel
theorem dL_law_1569 : decode cL_law 1569 = .ok (.invokevirtual 211, 3) := by decide +kernel
theorem dL_law_1572 : decode cL_law 1572 = .ok (.istore 7, 2) := by decide +kernel
theorem dL_law_1574 : decode cL_law 1574 = .ok (.aload_n 2, 1) := by decide +kernel
theorem dL_law_1575 : decode cL_law 1575 = .ok (.invokevirtual 122, 3) := by decide +kernel
theorem dL_law_1578 : decode cL_law 1578 = .ok (.iload 6, 2) := by decide +kernel
theorem dL_law_1580 : decode cL_law 1580 = .ok (.if_icmp .eq 5, 3) := by decide +kernel
theorem dL_law_1583 : decode cL_law 1583 = .ok (.iconst 0, 1) := by decide +kernel
theorem dL_law_1584 : decode cL_law 1584 = .ok (.ireturn, 1) := by decide +kernel
theorem dL_law_1585 : decode cL_law 1585 = .ok (.iload 6, 2) := by decide +kernel
theorem dL_law_1587 : decode cL_law 1587 = .ok (.ifCond .ne 15, 3) := by decide +kernel
theorem dL_law_1590 : decode cL_law 1590 = .ok (.aload_n 3, 1) := by decide +kernel
theorem dL_law_1591 : decode cL_law 1591 = .ok (.iconst 0, 1) := by decide +kernel
theorem dL_law_1592 : decode cL_law 1592 = .ok (.laload, 1) := by decide +kernel
theorem dL_law_1593 : decode cL_law 1593 = .ok (.iload 7, 2) := by decide +kernel
theorem dL_law_1595 : decode cL_law 1595 = .ok (.i2l, 1) := by decide +kernel
theorem dL_law_1596 : decode cL_law 1596 = .ok (.lcmp, 1) := by decide +kernel
theorem dL_law_1597 : decode cL_law 1597 = .ok (.ifCond .eq 5, 3) := by decide +kernel
theorem dL_law_1600 : decode cL_law 1600 = .ok (.iconst 0, 1) := by decide +kernel
theorem dL_law_1601 : decode cL_law 1601 = .ok (.ireturn, 1) := by decide +kernel
theorem dL_law_1602 : decode cL_law 1602 = .ok (.goto 443, 3) := by decide +kernel
theorem dL_law_1605 : decode cL_law 1605 = .ok (.aload_n 1, 1) := by decide +kernel
theorem dL_law_1606 : decode cL_law 1606 = .ok (.aload_n 3, 1) := by decide +kernel
theorem dL_law_1607 : decode cL_law 1607 = .ok (.invokestatic 212, 3) := by decide +kernel
theorem dL_law_1610 : decode cL_law 1610 = .ok (.istore 6, 2) := by decide +kernel
theorem dL_law_1612 : decode cL_law 1612 = .ok (.aload_n 2, 1) := by decide +kernel
theorem dL_law_1613 : decode cL_law 1613 = .ok (.invokevirtual 214, 3) := by decide +kernel
theorem dL_law_1616 : decode cL_law 1616 = .ok (.istore 7, 2) := by decide +kernel
theorem dL_law_1618 : decode cL_law 1618 = .ok (.aload_n 2, 1) := by decide +kernel
theorem dL_law_1619 : decode cL_law 1619 = .ok (.invokevirtual 122, 3) := by decide +kernel
theorem dL_law_1622 : decode cL_law 1622 = .ok (.iload 6, 2) := by decide +kernel
theorem dL_law_1624 : decode cL_law 1624 = .ok (.if_icmp .eq 5, 3) := by decide +kernel
theorem dL_law_1627 : decode cL_law 1627 = .ok (.iconst 0, 1) := by decide +kernel
theorem dL_law_1628 : decode cL_law 1628 = .ok (.ireturn, 1) := by decide +kernel
theorem dL_law_1629 : decode cL_law 1629 = .ok (.iload 6, 2) := by decide +kernel
theorem dL_law_1631 : decode cL_law 1631 = .ok (.ifCond .ne 15, 3) := by decide +kernel
theorem dL_law_1634 : decode cL_law 1634 = .ok (.aload_n 3, 1) := by decide +kernel
theorem dL_law_1635 : decode cL_law 1635 = .ok (.iconst 0, 1) := by decide +kernel
theorem dL_law_1636 : decode cL_law 1636 = .ok (.laload, 1) := by decide +kernel
theorem dL_law_1637 : decode cL_law 1637 = .ok (.iload 7, 2) := by decide +kernel
theorem dL_law_1639 : decode cL_law 1639 = .ok (.i2l, 1) := by decide +kernel
theorem dL_law_1640 : decode cL_law 1640 = .ok (.lcmp, 1) := by decide +kernel
theorem dL_law_1641 : decode cL_law 1641 = .ok (.ifCond .eq 5, 3) := by decide +kernel
theorem dL_law_1644 : decode cL_law 1644 = .ok (.iconst 0, 1) := by decide +kernel
theorem dL_law_1645 : decode cL_law 1645 = .ok (.ireturn, 1) := by decide +kernel
theorem dL_law_1646 : decode cL_law 1646 = .ok (.goto 399, 3) := by decide +kernel
theorem dL_law_1649 : decode cL_law 1649 = .ok (.aload_n 1, 1) := by decide +kernel
theorem dL_law_1650 : decode cL_law 1650 = .ok (.aload_n 3, 1) := by decide +kernel
theorem dL_law_1651 : decode cL_law 1651 = .ok (.invokestatic 215, 3) := by decide +kernel
theorem dL_law_1654 : decode cL_law 1654 = .ok (.istore 6, 2) := by decide +kernel
theorem dL_law_1656 : decode cL_law 1656 = .ok (.aload_n 2, 1) := by decide +kernel
theorem dL_law_1657 : decode cL_law 1657 = .ok (.invokevirtual 217, 3) := by decide +kernel
theorem dL_law_1660 : decode cL_law 1660 = .ok (.istore 7, 2) := by decide +kernel
theorem dL_law_1662 : decode cL_law 1662 = .ok (.aload_n 2, 1) := by decide +kernel
theorem dL_law_1663 : decode cL_law 1663 = .ok (.invokevirtual 122, 3) := by decide +kernel
theorem dL_law_1666 : decode cL_law 1666 = .ok (.iload 6, 2) := by decide +kernel
theorem dL_law_1668 : decode cL_law 1668 = .ok (.if_icmp .eq 5, 3) := by decide +kernel
theorem dL_law_1671 : decode cL_law 1671 = .ok (.iconst 0, 1) := by decide +kernel
theorem dL_law_1672 : decode cL_law 1672 = .ok (.ireturn, 1) := by decide +kernel
theorem dL_law_1673 : decode cL_law 1673 = .ok (.iload 6, 2) := by decide +kernel
theorem dL_law_1675 : decode cL_law 1675 = .ok (.ifCond .ne 15, 3) := by decide +kernel
theorem dL_law_1678 : decode cL_law 1678 = .ok (.aload_n 3, 1) := by decide +kernel
theorem dL_law_1679 : decode cL_law 1679 = .ok (.iconst 0, 1) := by decide +kernel
theorem dL_law_1680 : decode cL_law 1680 = .ok (.laload, 1) := by decide +kernel
theorem dL_law_1681 : decode cL_law 1681 = .ok (.iload 7, 2) := by decide +kernel
theorem dL_law_1683 : decode cL_law 1683 = .ok (.i2l, 1) := by decide +kernel
theorem dL_law_1684 : decode cL_law 1684 = .ok (.lcmp, 1) := by decide +kernel
theorem dL_law_1685 : decode cL_law 1685 = .ok (.ifCond .eq 5, 3) := by decide +kernel
theorem dL_law_1688 : decode cL_law 1688 = .ok (.iconst 0, 1) := by decide +kernel
theorem dL_law_1689 : decode cL_law 1689 = .ok (.ireturn, 1) := by decide +kernel
theorem dL_law_1690 : decode cL_law 1690 = .ok (.goto 355, 3) := by decide +kernel
theorem dL_law_1693 : decode cL_law 1693 = .ok (.aload_n 1, 1) := by decide +kernel
theorem dL_law_1694 : decode cL_law 1694 = .ok (.invokevirtual 218, 3) := by decide +kernel
theorem dL_law_1697 : decode cL_law 1697 = .ok (.aload_n 2, 1) := by decide +kernel
theorem dL_law_1698 : decode cL_law 1698 = .ok (.invokevirtual 221, 3) := by decide +kernel
theorem dL_law_1701 : decode cL_law 1701 = .ok (.if_icmp .eq 344, 3) := by decide +kernel
theorem dL_law_1704 : decode cL_law 1704 = .ok (.iconst 0, 1) := by decide +kernel
theorem dL_law_1705 : decode cL_law 1705 = .ok (.ireturn, 1) := by decide +kernel
theorem dL_law_1706 : decode cL_law 1706 = .ok (.aload_n 1, 1) := by decide +kernel
theorem dL_law_1707 : decode cL_law 1707 = .ok (.invokevirtual 222, 3) := by decide +kernel
theorem dL_law_1710 : decode cL_law 1710 = .ok (.aload_n 2, 1) := by decide +kernel
theorem dL_law_1711 : decode cL_law 1711 = .ok (.invokevirtual 225, 3) := by decide +kernel
theorem dL_law_1714 : decode cL_law 1714 = .ok (.if_icmp .eq 331, 3) := by decide +kernel
theorem dL_law_1717 : decode cL_law 1717 = .ok (.iconst 0, 1) := by decide +kernel
theorem dL_law_1718 : decode cL_law 1718 = .ok (.ireturn, 1) := by decide +kernel
theorem dL_law_1719 : decode cL_law 1719 = .ok (.aload_n 1, 1) := by decide +kernel
theorem dL_law_1720 : decode cL_law 1720 = .ok (.aload_n 0, 1) := by decide +kernel
theorem dL_law_1721 : decode cL_law 1721 = .ok (.iload 5, 2) := by decide +kernel
theorem dL_law_1723 : decode cL_law 1723 = .ok (.iconst 1, 1) := by decide +kernel
theorem dL_law_1724 : decode cL_law 1724 = .ok (.iadd, 1) := by decide +kernel
theorem dL_law_1725 : decode cL_law 1725 = .ok (.iaload, 1) := by decide +kernel
theorem dL_law_1726 : decode cL_law 1726 = .ok (.aload_n 3, 1) := by decide +kernel
theorem dL_law_1727 : decode cL_law 1727 = .ok (.invokestatic 226, 3) := by decide +kernel
theorem dL_law_1730 : decode cL_law 1730 = .ok (.istore 6, 2) := by decide +kernel
theorem dL_law_1732 : decode cL_law 1732 = .ok (.aload_n 2, 1) := by decide +kernel
theorem dL_law_1733 : decode cL_law 1733 = .ok (.aload_n 0, 1) := by decide +kernel
theorem dL_law_1734 : decode cL_law 1734 = .ok (.iload 5, 2) := by decide +kernel
theorem dL_law_1736 : decode cL_law 1736 = .ok (.iconst 1, 1) := by decide +kernel
theorem dL_law_1737 : decode cL_law 1737 = .ok (.iadd, 1) := by decide +kernel
theorem dL_law_1738 : decode cL_law 1738 = .ok (.iaload, 1) := by decide +kernel
theorem dL_law_1739 : decode cL_law 1739 = .ok (.invokevirtual 228, 3) := by decide +kernel
theorem dL_law_1742 : decode cL_law 1742 = .ok (.istore 7, 2) := by decide +kernel
theorem dL_law_1744 : decode cL_law 1744 = .ok (.aload_n 2, 1) := by decide +kernel
theorem dL_law_1745 : decode cL_law 1745 = .ok (.invokevirtual 122, 3) := by decide +kernel
theorem dL_law_1748 : decode cL_law 1748 = .ok (.iload 6, 2) := by decide +kernel
theorem dL_law_1750 : decode cL_law 1750 = .ok (.if_icmp .eq 5, 3) := by decide +kernel
theorem dL_law_1753 : decode cL_law 1753 = .ok (.iconst 0, 1) := by decide +kernel
theorem dL_law_1754 : decode cL_law 1754 = .ok (.ireturn, 1) := by decide +kernel
theorem dL_law_1755 : decode cL_law 1755 = .ok (.iload 6, 2) := by decide +kernel
theorem dL_law_1757 : decode cL_law 1757 = .ok (.ifCond .ne 15, 3) := by decide +kernel
theorem dL_law_1760 : decode cL_law 1760 = .ok (.aload_n 3, 1) := by decide +kernel
theorem dL_law_1761 : decode cL_law 1761 = .ok (.iconst 0, 1) := by decide +kernel
theorem dL_law_1762 : decode cL_law 1762 = .ok (.laload, 1) := by decide +kernel
theorem dL_law_1763 : decode cL_law 1763 = .ok (.iload 7, 2) := by decide +kernel
theorem dL_law_1765 : decode cL_law 1765 = .ok (.i2l, 1) := by decide +kernel
theorem dL_law_1766 : decode cL_law 1766 = .ok (.lcmp, 1) := by decide +kernel
theorem dL_law_1767 : decode cL_law 1767 = .ok (.ifCond .eq 5, 3) := by decide +kernel
theorem dL_law_1770 : decode cL_law 1770 = .ok (.iconst 0, 1) := by decide +kernel
theorem dL_law_1771 : decode cL_law 1771 = .ok (.ireturn, 1) := by decide +kernel
theorem dL_law_1772 : decode cL_law 1772 = .ok (.goto 273, 3) := by decide +kernel
theorem dL_law_1775 : decode cL_law 1775 = .ok (.aload_n 1, 1) := by decide +kernel
theorem dL_law_1776 : decode cL_law 1776 = .ok (.aload_n 0, 1) := by decide +kernel
theorem dL_law_1777 : decode cL_law 1777 = .ok (.iload 5, 2) := by decide +kernel
theorem dL_law_1779 : decode cL_law 1779 = .ok (.iconst 1, 1) := by decide +kernel
theorem dL_law_1780 : decode cL_law 1780 = .ok (.iadd, 1) := by decide +kernel
theorem dL_law_1781 : decode cL_law 1781 = .ok (.iaload, 1) := by decide +kernel
theorem dL_law_1782 : decode cL_law 1782 = .ok (.aload_n 3, 1) := by decide +kernel
theorem dL_law_1783 : decode cL_law 1783 = .ok (.invokestatic 229, 3) := by decide +kernel
theorem dL_law_1786 : decode cL_law 1786 = .ok (.istore 6, 2) := by decide +kernel
theorem dL_law_1788 : decode cL_law 1788 = .ok (.aload_n 2, 1) := by decide +kernel
theorem dL_law_1789 : decode cL_law 1789 = .ok (.aload_n 0, 1) := by decide +kernel
theorem dL_law_1790 : decode cL_law 1790 = .ok (.iload 5, 2) := by decide +kernel
theorem dL_law_1792 : decode cL_law 1792 = .ok (.iconst 1, 1) := by decide +kernel
theorem dL_law_1793 : decode cL_law 1793 = .ok (.iadd, 1) := by decide +kernel
theorem dL_law_1794 : decode cL_law 1794 = .ok (.iaload, 1) := by decide +kernel
theorem dL_law_1795 : decode cL_law 1795 = .ok (.invokevirtual 231, 3) := by decide +kernel
theorem dL_law_1798 : decode cL_law 1798 = .ok (.istore 7, 2) := by decide +kernel
theorem dL_law_1800 : decode cL_law 1800 = .ok (.aload_n 2, 1) := by decide +kernel
theorem dL_law_1801 : decode cL_law 1801 = .ok (.invokevirtual 122, 3) := by decide +kernel
theorem dL_law_1804 : decode cL_law 1804 = .ok (.iload 6, 2) := by decide +kernel
theorem dL_law_1806 : decode cL_law 1806 = .ok (.if_icmp .eq 5, 3) := by decide +kernel
theorem dL_law_1809 : decode cL_law 1809 = .ok (.iconst 0, 1) := by decide +kernel
theorem dL_law_1810 : decode cL_law 1810 = .ok (.ireturn, 1) := by decide +kernel
theorem dL_law_1811 : decode cL_law 1811 = .ok (.iload 6, 2) := by decide +kernel
theorem dL_law_1813 : decode cL_law 1813 = .ok (.ifCond .ne 15, 3) := by decide +kernel
theorem dL_law_1816 : decode cL_law 1816 = .ok (.aload_n 3, 1) := by decide +kernel
theorem dL_law_1817 : decode cL_law 1817 = .ok (.iconst 0, 1) := by decide +kernel
theorem dL_law_1818 : decode cL_law 1818 = .ok (.laload, 1) := by decide +kernel
theorem dL_law_1819 : decode cL_law 1819 = .ok (.iload 7, 2) := by decide +kernel
theorem dL_law_1821 : decode cL_law 1821 = .ok (.i2l, 1) := by decide +kernel
theorem dL_law_1822 : decode cL_law 1822 = .ok (.lcmp, 1) := by decide +kernel
theorem dL_law_1823 : decode cL_law 1823 = .ok (.ifCond .eq 5, 3) := by decide +kernel
theorem dL_law_1826 : decode cL_law 1826 = .ok (.iconst 0, 1) := by decide +kernel
theorem dL_law_1827 : decode cL_law 1827 = .ok (.ireturn, 1) := by decide +kernel
theorem dL_law_1828 : decode cL_law 1828 = .ok (.goto 217, 3) := by decide +kernel
theorem dL_law_1831 : decode cL_law 1831 = .ok (.aload_n 1, 1) := by decide +kernel
theorem dL_law_1832 : decode cL_law 1832 = .ok (.invokevirtual 232, 3) := by decide +kernel
theorem dL_law_1835 : decode cL_law 1835 = .ok (.aload_n 2, 1) := by decide +kernel
theorem dL_law_1836 : decode cL_law 1836 = .ok (.invokevirtual 236, 3) := by decide +kernel
theorem dL_law_1839 : decode cL_law 1839 = .ok (.lcmp, 1) := by decide +kernel
theorem dL_law_1840 : decode cL_law 1840 = .ok (.ifCond .eq 205, 3) := by decide +kernel
theorem dL_law_1843 : decode cL_law 1843 = .ok (.iconst 0, 1) := by decide +kernel
theorem dL_law_1844 : decode cL_law 1844 = .ok (.ireturn, 1) := by decide +kernel
theorem dL_law_1845 : decode cL_law 1845 = .ok (.aload_n 1, 1) := by decide +kernel
theorem dL_law_1846 : decode cL_law 1846 = .ok (.invokevirtual 237, 3) := by decide +kernel
theorem dL_law_1849 : decode cL_law 1849 = .ok (.aload_n 2, 1) := by decide +kernel
theorem dL_law_1850 : decode cL_law 1850 = .ok (.invokevirtual 240, 3) := by decide +kernel
theorem dL_law_1853 : decode cL_law 1853 = .ok (.lcmp, 1) := by decide +kernel
theorem dL_law_1854 : decode cL_law 1854 = .ok (.ifCond .eq 191, 3) := by decide +kernel
theorem dL_law_1857 : decode cL_law 1857 = .ok (.iconst 0, 1) := by decide +kernel
theorem dL_law_1858 : decode cL_law 1858 = .ok (.ireturn, 1) := by decide +kernel
theorem dL_law_1859 : decode cL_law 1859 = .ok (.aload_n 1, 1) := by decide +kernel
theorem dL_law_1860 : decode cL_law 1860 = .ok (.invokevirtual 241, 3) := by decide +kernel
theorem dL_law_1863 : decode cL_law 1863 = .ok (.aload_n 2, 1) := by decide +kernel
theorem dL_law_1864 : decode cL_law 1864 = .ok (.invokevirtual 244, 3) := by decide +kernel
theorem dL_law_1867 : decode cL_law 1867 = .ok (.lcmp, 1) := by decide +kernel
theorem dL_law_1868 : decode cL_law 1868 = .ok (.ifCond .eq 177, 3) := by decide +kernel
theorem dL_law_1871 : decode cL_law 1871 = .ok (.iconst 0, 1) := by decide +kernel
theorem dL_law_1872 : decode cL_law 1872 = .ok (.ireturn, 1) := by decide +kernel
theorem dL_law_1873 : decode cL_law 1873 = .ok (.aload_n 1, 1) := by decide +kernel
theorem dL_law_1874 : decode cL_law 1874 = .ok (.invokevirtual 245, 3) := by decide +kernel
theorem dL_law_1877 : decode cL_law 1877 = .ok (.aload_n 2, 1) := by decide +kernel
theorem dL_law_1878 : decode cL_law 1878 = .ok (.invokevirtual 248, 3) := by decide +kernel
theorem dL_law_1881 : decode cL_law 1881 = .ok (.lcmp, 1) := by decide +kernel
theorem dL_law_1882 : decode cL_law 1882 = .ok (.ifCond .eq 163, 3) := by decide +kernel
theorem dL_law_1885 : decode cL_law 1885 = .ok (.iconst 0, 1) := by decide +kernel
theorem dL_law_1886 : decode cL_law 1886 = .ok (.ireturn, 1) := by decide +kernel
theorem dL_law_1887 : decode cL_law 1887 = .ok (.aload_n 1, 1) := by decide +kernel
theorem dL_law_1888 : decode cL_law 1888 = .ok (.invokevirtual 249, 3) := by decide +kernel
theorem dL_law_1891 : decode cL_law 1891 = .ok (.aload_n 2, 1) := by decide +kernel
theorem dL_law_1892 : decode cL_law 1892 = .ok (.invokevirtual 252, 3) := by decide +kernel
theorem dL_law_1895 : decode cL_law 1895 = .ok (.lcmp, 1) := by decide +kernel
theorem dL_law_1896 : decode cL_law 1896 = .ok (.ifCond .eq 149, 3) := by decide +kernel
theorem dL_law_1899 : decode cL_law 1899 = .ok (.iconst 0, 1) := by decide +kernel
theorem dL_law_1900 : decode cL_law 1900 = .ok (.ireturn, 1) := by decide +kernel
theorem dL_law_1901 : decode cL_law 1901 = .ok (.aload_n 1, 1) := by decide +kernel
theorem dL_law_1902 : decode cL_law 1902 = .ok (.invokevirtual 253, 3) := by decide +kernel
theorem dL_law_1905 : decode cL_law 1905 = .ok (.aload_n 2, 1) := by decide +kernel
theorem dL_law_1906 : decode cL_law 1906 = .ok (.invokevirtual 256, 3) := by decide +kernel
theorem dL_law_1909 : decode cL_law 1909 = .ok (.if_icmp .eq 136, 3) := by decide +kernel
theorem dL_law_1912 : decode cL_law 1912 = .ok (.iconst 0, 1) := by decide +kernel
theorem dL_law_1913 : decode cL_law 1913 = .ok (.ireturn, 1) := by decide +kernel
theorem dL_law_1914 : decode cL_law 1914 = .ok (.aload_n 1, 1) := by decide +kernel
theorem dL_law_1915 : decode cL_law 1915 = .ok (.aload 4, 2) := by decide +kernel
theorem dL_law_1917 : decode cL_law 1917 = .ok (.invokestatic 257, 3) := by decide +kernel
theorem dL_law_1920 : decode cL_law 1920 = .ok (.istore 6, 2) := by decide +kernel
theorem dL_law_1922 : decode cL_law 1922 = .ok (.aload_n 2, 1) := by decide +kernel
theorem dL_law_1923 : decode cL_law 1923 = .ok (.invokevirtual 260, 3) := by decide +kernel
theorem dL_law_1926 : decode cL_law 1926 = .ok (.fstore 7, 2) := by decide +kernel
theorem dL_law_1928 : decode cL_law 1928 = .ok (.aload_n 2, 1) := by decide +kernel
theorem dL_law_1929 : decode cL_law 1929 = .ok (.invokevirtual 122, 3) := by decide +kernel
theorem dL_law_1932 : decode cL_law 1932 = .ok (.iload 6, 2) := by decide +kernel
theorem dL_law_1934 : decode cL_law 1934 = .ok (.if_icmp .eq 5, 3) := by decide +kernel
theorem dL_law_1937 : decode cL_law 1937 = .ok (.iconst 0, 1) := by decide +kernel
theorem dL_law_1938 : decode cL_law 1938 = .ok (.ireturn, 1) := by decide +kernel
theorem dL_law_1939 : decode cL_law 1939 = .ok (.iload 6, 2) := by decide +kernel
theorem dL_law_1941 : decode cL_law 1941 = .ok (.ifCond .ne 36, 3) := by decide +kernel
theorem dL_law_1944 : decode cL_law 1944 = .ok (.aload 4, 2) := by decide +kernel
theorem dL_law_1946 : decode cL_law 1946 = .ok (.iconst 0, 1) := by decide +kernel
theorem dL_law_1947 : decode cL_law 1947 = .ok (.daload, 1) := by decide +kernel
theorem dL_law_1948 : decode cL_law 1948 = .ok (.fload 7, 2) := by decide +kernel
theorem dL_law_1950 : decode cL_law 1950 = .ok (.f2d, 1) := by decide +kernel
theorem dL_law_1951 : decode cL_law 1951 = .ok (.dcmp .l, 1) := by decide +kernel
theorem dL_law_1952 : decode cL_law 1952 = .ok (.ifCond .eq 25, 3) := by decide +kernel
theorem dL_law_1955 : decode cL_law 1955 = .ok (.aload 4, 2) := by decide +kernel
theorem dL_law_1957 : decode cL_law 1957 = .ok (.iconst 0, 1) := by decide +kernel
theorem dL_law_1958 : decode cL_law 1958 = .ok (.daload, 1) := by decide +kernel
theorem dL_law_1959 : decode cL_law 1959 = .ok (.aload 4, 2) := by decide +kernel
theorem dL_law_1961 : decode cL_law 1961 = .ok (.iconst 0, 1) := by decide +kernel
theorem dL_law_1962 : decode cL_law 1962 = .ok (.daload, 1) := by decide +kernel
theorem dL_law_1963 : decode cL_law 1963 = .ok (.dcmp .l, 1) := by decide +kernel
theorem dL_law_1964 : decode cL_law 1964 = .ok (.ifCond .eq 11, 3) := by decide +kernel
theorem dL_law_1967 : decode cL_law 1967 = .ok (.fload 7, 2) := by decide +kernel
theorem dL_law_1969 : decode cL_law 1969 = .ok (.fload 7, 2) := by decide +kernel
theorem dL_law_1971 : decode cL_law 1971 = .ok (.fcmp .l, 1) := by decide +kernel
theorem dL_law_1972 : decode cL_law 1972 = .ok (.ifCond .ne 5, 3) := by decide +kernel
theorem dL_law_1975 : decode cL_law 1975 = .ok (.iconst 0, 1) := by decide +kernel
theorem dL_law_1976 : decode cL_law 1976 = .ok (.ireturn, 1) := by decide +kernel
theorem dL_law_1977 : decode cL_law 1977 = .ok (.goto 68, 3) := by decide +kernel
theorem dL_law_1980 : decode cL_law 1980 = .ok (.aload_n 1, 1) := by decide +kernel
theorem dL_law_1981 : decode cL_law 1981 = .ok (.aload 4, 2) := by decide +kernel
theorem dL_law_1983 : decode cL_law 1983 = .ok (.invokestatic 261, 3) := by decide +kernel
theorem dL_law_1986 : decode cL_law 1986 = .ok (.istore 6, 2) := by decide +kernel
theorem dL_law_1988 : decode cL_law 1988 = .ok (.aload_n 2, 1) := by decide +kernel
theorem dL_law_1989 : decode cL_law 1989 = .ok (.invokevirtual 263, 3) := by decide +kernel
theorem dL_law_1992 : decode cL_law 1992 = .ok (.dstore 7, 2) := by decide +kernel
theorem dL_law_1994 : decode cL_law 1994 = .ok (.aload_n 2, 1) := by decide +kernel
theorem dL_law_1995 : decode cL_law 1995 = .ok (.invokevirtual 122, 3) := by decide +kernel
theorem dL_law_1998 : decode cL_law 1998 = .ok (.iload 6, 2) := by decide +kernel
theorem dL_law_2000 : decode cL_law 2000 = .ok (.if_icmp .eq 5, 3) := by decide +kernel
theorem dL_law_2003 : decode cL_law 2003 = .ok (.iconst 0, 1) := by decide +kernel
theorem dL_law_2004 : decode cL_law 2004 = .ok (.ireturn, 1) := by decide +kernel
theorem dL_law_2005 : decode cL_law 2005 = .ok (.iload 6, 2) := by decide +kernel
theorem dL_law_2007 : decode cL_law 2007 = .ok (.ifCond .ne 35, 3) := by decide +kernel
theorem dL_law_2010 : decode cL_law 2010 = .ok (.aload 4, 2) := by decide +kernel
theorem dL_law_2012 : decode cL_law 2012 = .ok (.iconst 0, 1) := by decide +kernel
theorem dL_law_2013 : decode cL_law 2013 = .ok (.daload, 1) := by decide +kernel
theorem dL_law_2014 : decode cL_law 2014 = .ok (.dload 7, 2) := by decide +kernel
theorem dL_law_2016 : decode cL_law 2016 = .ok (.dcmp .l, 1) := by decide +kernel
theorem dL_law_2017 : decode cL_law 2017 = .ok (.ifCond .eq 25, 3) := by decide +kernel
theorem dL_law_2020 : decode cL_law 2020 = .ok (.aload 4, 2) := by decide +kernel
theorem dL_law_2022 : decode cL_law 2022 = .ok (.iconst 0, 1) := by decide +kernel
theorem dL_law_2023 : decode cL_law 2023 = .ok (.daload, 1) := by decide +kernel
theorem dL_law_2024 : decode cL_law 2024 = .ok (.aload 4, 2) := by decide +kernel
theorem dL_law_2026 : decode cL_law 2026 = .ok (.iconst 0, 1) := by decide +kernel
theorem dL_law_2027 : decode cL_law 2027 = .ok (.daload, 1) := by decide +kernel
theorem dL_law_2028 : decode cL_law 2028 = .ok (.dcmp .l, 1) := by decide +kernel
theorem dL_law_2029 : decode cL_law 2029 = .ok (.ifCond .eq 11, 3) := by decide +kernel
theorem dL_law_2032 : decode cL_law 2032 = .ok (.dload 7, 2) := by decide +kernel
theorem dL_law_2034 : decode cL_law 2034 = .ok (.dload 7, 2) := by decide +kernel
theorem dL_law_2036 : decode cL_law 2036 = .ok (.dcmp .l, 1) := by decide +kernel
theorem dL_law_2037 : decode cL_law 2037 = .ok (.ifCond .ne 5, 3) := by decide +kernel
theorem dL_law_2040 : decode cL_law 2040 = .ok (.iconst 0, 1) := by decide +kernel
theorem dL_law_2041 : decode cL_law 2041 = .ok (.ireturn, 1) := by decide +kernel
theorem dL_law_2042 : decode cL_law 2042 = .ok (.goto 3, 3) := by decide +kernel
theorem dL_law_2045 : decode cL_law 2045 = .ok (.iinc 5 6, 3) := by decide +kernel
theorem dL_law_2048 : decode cL_law 2048 = .ok (.goto (-2020), 3) := by decide +kernel
theorem dL_law_2051 : decode cL_law 2051 = .ok (.iconst 1, 1) := by decide +kernel
theorem dL_law_2052 : decode cL_law 2052 = .ok (.ireturn, 1) := by decide +kernel
