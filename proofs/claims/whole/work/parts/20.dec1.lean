/-! decode rows, by program -/
theorem d_D_init_0 : decode b_D_init 0 = .ok (.aload_n 0, 1) := by decide +kernel
theorem d_D_init_1 : decode b_D_init 1 = .ok (.invokespecial 3, 3) := by decide +kernel
theorem d_D_init_4 : decode b_D_init 4 = .ok (.aload_n 0, 1) := by decide +kernel
theorem d_D_init_5 : decode b_D_init 5 = .ok (.iload_n 1, 1) := by decide +kernel
theorem d_D_init_6 : decode b_D_init 6 = .ok (.putfield 9, 3) := by decide +kernel
theorem d_D_init_9 : decode b_D_init 9 = .ok (.aload_n 0, 1) := by decide +kernel
theorem d_D_init_10 : decode b_D_init 10 = .ok (.iload_n 2, 1) := by decide +kernel
theorem d_D_init_11 : decode b_D_init 11 = .ok (.putfield 15, 3) := by decide +kernel
theorem d_D_init_14 : decode b_D_init 14 = .ok (.aload_n 0, 1) := by decide +kernel
theorem d_D_init_15 : decode b_D_init 15 = .ok (.iload_n 1, 1) := by decide +kernel
theorem d_D_init_16 : decode b_D_init 16 = .ok (.iload_n 2, 1) := by decide +kernel
theorem d_D_init_17 : decode b_D_init 17 = .ok (.imul, 1) := by decide +kernel
theorem d_D_init_18 : decode b_D_init 18 = .ok (.newarray .int, 2) := by decide +kernel
theorem d_D_init_20 : decode b_D_init 20 = .ok (.putfield 18, 3) := by decide +kernel
theorem d_D_init_23 : decode b_D_init 23 = .ok (.aload_n 0, 1) := by decide +kernel
theorem d_D_init_24 : decode b_D_init 24 = .ok (.iload_n 1, 1) := by decide +kernel
theorem d_D_init_25 : decode b_D_init 25 = .ok (.newarray .int, 2) := by decide +kernel
theorem d_D_init_27 : decode b_D_init 27 = .ok (.putfield 22, 3) := by decide +kernel
theorem d_D_init_30 : decode b_D_init 30 = .ok (.iconst 0, 1) := by decide +kernel
theorem d_D_init_31 : decode b_D_init 31 = .ok (.istore_n 3, 1) := by decide +kernel
theorem d_D_init_32 : decode b_D_init 32 = .ok (.iload_n 3, 1) := by decide +kernel
theorem d_D_init_33 : decode b_D_init 33 = .ok (.iload_n 1, 1) := by decide +kernel
theorem d_D_init_34 : decode b_D_init 34 = .ok (.if_icmp .ge 16, 3) := by decide +kernel
theorem d_D_init_37 : decode b_D_init 37 = .ok (.aload_n 0, 1) := by decide +kernel
theorem d_D_init_38 : decode b_D_init 38 = .ok (.getfield 22, 3) := by decide +kernel
theorem d_D_init_41 : decode b_D_init 41 = .ok (.iload_n 3, 1) := by decide +kernel
theorem d_D_init_42 : decode b_D_init 42 = .ok (.iload_n 2, 1) := by decide +kernel
theorem d_D_init_43 : decode b_D_init 43 = .ok (.iastore, 1) := by decide +kernel
theorem d_D_init_44 : decode b_D_init 44 = .ok (.iinc 3 1, 3) := by decide +kernel
theorem d_D_init_47 : decode b_D_init 47 = .ok (.goto (-15), 3) := by decide +kernel
theorem d_D_init_50 : decode b_D_init 50 = .ok (.return_, 1) := by decide +kernel
theorem d_D_hasDisk_0 : decode b_D_hasDisk 0 = .ok (.iload_n 1, 1) := by decide +kernel
theorem d_D_hasDisk_1 : decode b_D_hasDisk 1 = .ok (.ifCond .lt 15, 3) := by decide +kernel
theorem d_D_hasDisk_4 : decode b_D_hasDisk 4 = .ok (.iload_n 1, 1) := by decide +kernel
theorem d_D_hasDisk_5 : decode b_D_hasDisk 5 = .ok (.aload_n 0, 1) := by decide +kernel
theorem d_D_hasDisk_6 : decode b_D_hasDisk 6 = .ok (.getfield 9, 3) := by decide +kernel
theorem d_D_hasDisk_9 : decode b_D_hasDisk 9 = .ok (.if_icmp .ge 7, 3) := by decide +kernel
theorem d_D_hasDisk_12 : decode b_D_hasDisk 12 = .ok (.iconst 1, 1) := by decide +kernel
theorem d_D_hasDisk_13 : decode b_D_hasDisk 13 = .ok (.goto 4, 3) := by decide +kernel
theorem d_D_hasDisk_16 : decode b_D_hasDisk 16 = .ok (.iconst 0, 1) := by decide +kernel
theorem d_D_hasDisk_17 : decode b_D_hasDisk 17 = .ok (.ireturn, 1) := by decide +kernel
theorem d_D_hasStripe_0 : decode b_D_hasStripe 0 = .ok (.iload_n 1, 1) := by decide +kernel
theorem d_D_hasStripe_1 : decode b_D_hasStripe 1 = .ok (.ifCond .lt 15, 3) := by decide +kernel
theorem d_D_hasStripe_4 : decode b_D_hasStripe 4 = .ok (.iload_n 1, 1) := by decide +kernel
theorem d_D_hasStripe_5 : decode b_D_hasStripe 5 = .ok (.aload_n 0, 1) := by decide +kernel
theorem d_D_hasStripe_6 : decode b_D_hasStripe 6 = .ok (.getfield 15, 3) := by decide +kernel
theorem d_D_hasStripe_9 : decode b_D_hasStripe 9 = .ok (.if_icmp .ge 7, 3) := by decide +kernel
theorem d_D_hasStripe_12 : decode b_D_hasStripe 12 = .ok (.iconst 1, 1) := by decide +kernel
theorem d_D_hasStripe_13 : decode b_D_hasStripe 13 = .ok (.goto 4, 3) := by decide +kernel
theorem d_D_hasStripe_16 : decode b_D_hasStripe 16 = .ok (.iconst 0, 1) := by decide +kernel
theorem d_D_hasStripe_17 : decode b_D_hasStripe 17 = .ok (.ireturn, 1) := by decide +kernel
theorem d_D_hasCell_0 : decode b_D_hasCell 0 = .ok (.aload_n 0, 1) := by decide +kernel
theorem d_D_hasCell_1 : decode b_D_hasCell 1 = .ok (.iload_n 1, 1) := by decide +kernel
theorem d_D_hasCell_2 : decode b_D_hasCell 2 = .ok (.invokevirtual 25, 3) := by decide +kernel
theorem d_D_hasCell_5 : decode b_D_hasCell 5 = .ok (.ifCond .eq 15, 3) := by decide +kernel
theorem d_D_hasCell_8 : decode b_D_hasCell 8 = .ok (.aload_n 0, 1) := by decide +kernel
theorem d_D_hasCell_9 : decode b_D_hasCell 9 = .ok (.iload_n 2, 1) := by decide +kernel
theorem d_D_hasCell_10 : decode b_D_hasCell 10 = .ok (.invokevirtual 29, 3) := by decide +kernel
theorem d_D_hasCell_13 : decode b_D_hasCell 13 = .ok (.ifCond .eq 7, 3) := by decide +kernel
theorem d_D_hasCell_16 : decode b_D_hasCell 16 = .ok (.iconst 1, 1) := by decide +kernel
theorem d_D_hasCell_17 : decode b_D_hasCell 17 = .ok (.goto 4, 3) := by decide +kernel
theorem d_D_hasCell_20 : decode b_D_hasCell 20 = .ok (.iconst 0, 1) := by decide +kernel
theorem d_D_hasCell_21 : decode b_D_hasCell 21 = .ok (.ireturn, 1) := by decide +kernel
theorem d_D_diskOf_0 : decode b_D_diskOf 0 = .ok (.aload_n 0, 1) := by decide +kernel
theorem d_D_diskOf_1 : decode b_D_diskOf 1 = .ok (.iload_n 2, 1) := by decide +kernel
theorem d_D_diskOf_2 : decode b_D_diskOf 2 = .ok (.invokevirtual 32, 3) := by decide +kernel
theorem d_D_diskOf_5 : decode b_D_diskOf 5 = .ok (.iconst 2, 1) := by decide +kernel
theorem d_D_diskOf_6 : decode b_D_diskOf 6 = .ok (.iadd, 1) := by decide +kernel
theorem d_D_diskOf_7 : decode b_D_diskOf 7 = .ok (.iload_n 1, 1) := by decide +kernel
theorem d_D_diskOf_8 : decode b_D_diskOf 8 = .ok (.iadd, 1) := by decide +kernel
theorem d_D_diskOf_9 : decode b_D_diskOf 9 = .ok (.aload_n 0, 1) := by decide +kernel
theorem d_D_diskOf_10 : decode b_D_diskOf 10 = .ok (.getfield 9, 3) := by decide +kernel
theorem d_D_diskOf_13 : decode b_D_diskOf 13 = .ok (.irem, 1) := by decide +kernel
theorem d_D_diskOf_14 : decode b_D_diskOf 14 = .ok (.ireturn, 1) := by decide +kernel
theorem d_D_slotOf_0 : decode b_D_slotOf 0 = .ok (.iload_n 1, 1) := by decide +kernel
theorem d_D_slotOf_1 : decode b_D_slotOf 1 = .ok (.iconst 2, 1) := by decide +kernel
theorem d_D_slotOf_2 : decode b_D_slotOf 2 = .ok (.aload_n 0, 1) := by decide +kernel
theorem d_D_slotOf_3 : decode b_D_slotOf 3 = .ok (.getfield 9, 3) := by decide +kernel
theorem d_D_slotOf_6 : decode b_D_slotOf 6 = .ok (.imul, 1) := by decide +kernel
theorem d_D_slotOf_7 : decode b_D_slotOf 7 = .ok (.iadd, 1) := by decide +kernel
theorem d_D_slotOf_8 : decode b_D_slotOf 8 = .ok (.iconst 2, 1) := by decide +kernel
theorem d_D_slotOf_9 : decode b_D_slotOf 9 = .ok (.isub, 1) := by decide +kernel
theorem d_D_slotOf_10 : decode b_D_slotOf 10 = .ok (.aload_n 0, 1) := by decide +kernel
theorem d_D_slotOf_11 : decode b_D_slotOf 11 = .ok (.iload_n 2, 1) := by decide +kernel
theorem d_D_slotOf_12 : decode b_D_slotOf 12 = .ok (.invokevirtual 32, 3) := by decide +kernel
theorem d_D_slotOf_15 : decode b_D_slotOf 15 = .ok (.isub, 1) := by decide +kernel
theorem d_D_slotOf_16 : decode b_D_slotOf 16 = .ok (.aload_n 0, 1) := by decide +kernel
theorem d_D_slotOf_17 : decode b_D_slotOf 17 = .ok (.getfield 9, 3) := by decide +kernel
theorem d_D_slotOf_20 : decode b_D_slotOf 20 = .ok (.irem, 1) := by decide +kernel
theorem d_D_slotOf_21 : decode b_D_slotOf 21 = .ok (.ireturn, 1) := by decide +kernel
theorem d_D_diskOfP_0 : decode b_D_diskOfP 0 = .ok (.aload_n 0, 1) := by decide +kernel
theorem d_D_diskOfP_1 : decode b_D_diskOfP 1 = .ok (.getfield 9, 3) := by decide +kernel
theorem d_D_diskOfP_4 : decode b_D_diskOfP 4 = .ok (.iconst 1, 1) := by decide +kernel
theorem d_D_diskOfP_5 : decode b_D_diskOfP 5 = .ok (.isub, 1) := by decide +kernel
theorem d_D_diskOfP_6 : decode b_D_diskOfP 6 = .ok (.iload_n 1, 1) := by decide +kernel
theorem d_D_diskOfP_7 : decode b_D_diskOfP 7 = .ok (.aload_n 0, 1) := by decide +kernel
theorem d_D_diskOfP_8 : decode b_D_diskOfP 8 = .ok (.getfield 9, 3) := by decide +kernel
theorem d_D_diskOfP_11 : decode b_D_diskOfP 11 = .ok (.irem, 1) := by decide +kernel
theorem d_D_diskOfP_12 : decode b_D_diskOfP 12 = .ok (.isub, 1) := by decide +kernel
theorem d_D_diskOfP_13 : decode b_D_diskOfP 13 = .ok (.ireturn, 1) := by decide +kernel
theorem d_D_available_0 : decode b_D_available 0 = .ok (.aload_n 0, 1) := by decide +kernel
theorem d_D_available_1 : decode b_D_available 1 = .ok (.getfield 22, 3) := by decide +kernel
theorem d_D_available_4 : decode b_D_available 4 = .ok (.iload_n 1, 1) := by decide +kernel
theorem d_D_available_5 : decode b_D_available 5 = .ok (.iaload, 1) := by decide +kernel
theorem d_D_available_6 : decode b_D_available 6 = .ok (.iload_n 2, 1) := by decide +kernel
theorem d_D_available_7 : decode b_D_available 7 = .ok (.if_icmp .le 7, 3) := by decide +kernel
theorem d_D_available_10 : decode b_D_available 10 = .ok (.iconst 1, 1) := by decide +kernel
theorem d_D_available_11 : decode b_D_available 11 = .ok (.goto 4, 3) := by decide +kernel
theorem d_D_available_14 : decode b_D_available 14 = .ok (.iconst 0, 1) := by decide +kernel
theorem d_D_available_15 : decode b_D_available 15 = .ok (.ireturn, 1) := by decide +kernel
theorem d_D_countAvailable_0 : decode b_D_countAvailable 0 = .ok (.iconst 0, 1) := by decide +kernel
theorem d_D_countAvailable_1 : decode b_D_countAvailable 1 = .ok (.istore_n 2, 1) := by decide +kernel
theorem d_D_countAvailable_2 : decode b_D_countAvailable 2 = .ok (.iconst 0, 1) := by decide +kernel
theorem d_D_countAvailable_3 : decode b_D_countAvailable 3 = .ok (.istore_n 3, 1) := by decide +kernel
theorem d_D_countAvailable_4 : decode b_D_countAvailable 4 = .ok (.iload_n 3, 1) := by decide +kernel
theorem d_D_countAvailable_5 : decode b_D_countAvailable 5 = .ok (.aload_n 0, 1) := by decide +kernel
theorem d_D_countAvailable_6 : decode b_D_countAvailable 6 = .ok (.getfield 9, 3) := by decide +kernel
theorem d_D_countAvailable_9 : decode b_D_countAvailable 9 = .ok (.if_icmp .ge 21, 3) := by decide +kernel
theorem d_D_countAvailable_12 : decode b_D_countAvailable 12 = .ok (.aload_n 0, 1) := by decide +kernel
theorem d_D_countAvailable_13 : decode b_D_countAvailable 13 = .ok (.iload_n 3, 1) := by decide +kernel
theorem d_D_countAvailable_14 : decode b_D_countAvailable 14 = .ok (.iload_n 1, 1) := by decide +kernel
theorem d_D_countAvailable_15 : decode b_D_countAvailable 15 = .ok (.invokevirtual 36, 3) := by decide +kernel
theorem d_D_countAvailable_18 : decode b_D_countAvailable 18 = .ok (.ifCond .eq 6, 3) := by decide +kernel
theorem d_D_countAvailable_21 : decode b_D_countAvailable 21 = .ok (.iinc 2 1, 3) := by decide +kernel
theorem d_D_countAvailable_24 : decode b_D_countAvailable 24 = .ok (.iinc 3 1, 3) := by decide +kernel
theorem d_D_countAvailable_27 : decode b_D_countAvailable 27 = .ok (.goto (-23), 3) := by decide +kernel
theorem d_D_countAvailable_30 : decode b_D_countAvailable 30 = .ok (.iload_n 2, 1) := by decide +kernel
theorem d_D_countAvailable_31 : decode b_D_countAvailable 31 = .ok (.ireturn, 1) := by decide +kernel
theorem d_D_allAvailable_0 : decode b_D_allAvailable 0 = .ok (.aload_n 0, 1) := by decide +kernel
theorem d_D_allAvailable_1 : decode b_D_allAvailable 1 = .ok (.iload_n 1, 1) := by decide +kernel
theorem d_D_allAvailable_2 : decode b_D_allAvailable 2 = .ok (.invokevirtual 40, 3) := by decide +kernel
theorem d_D_allAvailable_5 : decode b_D_allAvailable 5 = .ok (.aload_n 0, 1) := by decide +kernel
theorem d_D_allAvailable_6 : decode b_D_allAvailable 6 = .ok (.getfield 9, 3) := by decide +kernel
theorem d_D_allAvailable_9 : decode b_D_allAvailable 9 = .ok (.if_icmp .ne 7, 3) := by decide +kernel
theorem d_D_allAvailable_12 : decode b_D_allAvailable 12 = .ok (.iconst 1, 1) := by decide +kernel
theorem d_D_allAvailable_13 : decode b_D_allAvailable 13 = .ok (.goto 4, 3) := by decide +kernel
theorem d_D_allAvailable_16 : decode b_D_allAvailable 16 = .ok (.iconst 0, 1) := by decide +kernel
theorem d_D_allAvailable_17 : decode b_D_allAvailable 17 = .ok (.ireturn, 1) := by decide +kernel
theorem d_D_broken_0 : decode b_D_broken 0 = .ok (.iconst 0, 1) := by decide +kernel
theorem d_D_broken_1 : decode b_D_broken 1 = .ok (.istore_n 1, 1) := by decide +kernel
theorem d_D_broken_2 : decode b_D_broken 2 = .ok (.iconst 0, 1) := by decide +kernel
theorem d_D_broken_3 : decode b_D_broken 3 = .ok (.istore_n 2, 1) := by decide +kernel
theorem d_D_broken_4 : decode b_D_broken 4 = .ok (.iload_n 2, 1) := by decide +kernel
theorem d_D_broken_5 : decode b_D_broken 5 = .ok (.aload_n 0, 1) := by decide +kernel
theorem d_D_broken_6 : decode b_D_broken 6 = .ok (.getfield 9, 3) := by decide +kernel
theorem d_D_broken_9 : decode b_D_broken 9 = .ok (.if_icmp .ge 25, 3) := by decide +kernel
theorem d_D_broken_12 : decode b_D_broken 12 = .ok (.aload_n 0, 1) := by decide +kernel
theorem d_D_broken_13 : decode b_D_broken 13 = .ok (.getfield 22, 3) := by decide +kernel
theorem d_D_broken_16 : decode b_D_broken 16 = .ok (.iload_n 2, 1) := by decide +kernel
theorem d_D_broken_17 : decode b_D_broken 17 = .ok (.iaload, 1) := by decide +kernel
theorem d_D_broken_18 : decode b_D_broken 18 = .ok (.aload_n 0, 1) := by decide +kernel
theorem d_D_broken_19 : decode b_D_broken 19 = .ok (.getfield 15, 3) := by decide +kernel
theorem d_D_broken_22 : decode b_D_broken 22 = .ok (.if_icmp .ge 6, 3) := by decide +kernel
theorem d_D_broken_25 : decode b_D_broken 25 = .ok (.iinc 1 1, 3) := by decide +kernel
theorem d_D_broken_28 : decode b_D_broken 28 = .ok (.iinc 2 1, 3) := by decide +kernel
theorem d_D_broken_31 : decode b_D_broken 31 = .ok (.goto (-27), 3) := by decide +kernel
theorem d_D_broken_34 : decode b_D_broken 34 = .ok (.iload_n 1, 1) := by decide +kernel
theorem d_D_broken_35 : decode b_D_broken 35 = .ok (.iconst 2, 1) := by decide +kernel
theorem d_D_broken_36 : decode b_D_broken 36 = .ok (.if_icmp .le 7, 3) := by decide +kernel
theorem d_D_broken_39 : decode b_D_broken 39 = .ok (.iconst 1, 1) := by decide +kernel
theorem d_D_broken_40 : decode b_D_broken 40 = .ok (.goto 4, 3) := by decide +kernel
theorem d_D_broken_43 : decode b_D_broken 43 = .ok (.iconst 0, 1) := by decide +kernel
theorem d_D_broken_44 : decode b_D_broken 44 = .ok (.ireturn, 1) := by decide +kernel
theorem d_D_missing_0 : decode b_D_missing 0 = .ok (.aload_n 0, 1) := by decide +kernel
theorem d_D_missing_1 : decode b_D_missing 1 = .ok (.getfield 22, 3) := by decide +kernel
theorem d_D_missing_4 : decode b_D_missing 4 = .ok (.iload_n 1, 1) := by decide +kernel
theorem d_D_missing_5 : decode b_D_missing 5 = .ok (.iaload, 1) := by decide +kernel
theorem d_D_missing_6 : decode b_D_missing 6 = .ok (.iconst (-1), 1) := by decide +kernel
theorem d_D_missing_7 : decode b_D_missing 7 = .ok (.if_icmp .ne 7, 3) := by decide +kernel
theorem d_D_missing_10 : decode b_D_missing 10 = .ok (.iconst 1, 1) := by decide +kernel
theorem d_D_missing_11 : decode b_D_missing 11 = .ok (.goto 4, 3) := by decide +kernel
theorem d_D_missing_14 : decode b_D_missing 14 = .ok (.iconst 0, 1) := by decide +kernel
theorem d_D_missing_15 : decode b_D_missing 15 = .ok (.ireturn, 1) := by decide +kernel
theorem d_D_positionOf_0 : decode b_D_positionOf 0 = .ok (.aload_n 0, 1) := by decide +kernel
theorem d_D_positionOf_1 : decode b_D_positionOf 1 = .ok (.getfield 22, 3) := by decide +kernel
theorem d_D_positionOf_4 : decode b_D_positionOf 4 = .ok (.iload_n 1, 1) := by decide +kernel
theorem d_D_positionOf_5 : decode b_D_positionOf 5 = .ok (.iaload, 1) := by decide +kernel
theorem d_D_positionOf_6 : decode b_D_positionOf 6 = .ok (.ireturn, 1) := by decide +kernel
theorem d_D_remove_0 : decode b_D_remove 0 = .ok (.aload_n 0, 1) := by decide +kernel
theorem d_D_remove_1 : decode b_D_remove 1 = .ok (.getfield 22, 3) := by decide +kernel
theorem d_D_remove_4 : decode b_D_remove 4 = .ok (.iload_n 1, 1) := by decide +kernel
theorem d_D_remove_5 : decode b_D_remove 5 = .ok (.iconst (-1), 1) := by decide +kernel
theorem d_D_remove_6 : decode b_D_remove 6 = .ok (.iastore, 1) := by decide +kernel
theorem d_D_remove_7 : decode b_D_remove 7 = .ok (.return_, 1) := by decide +kernel
theorem d_D_beginRebuilding_0 : decode b_D_beginRebuilding 0 = .ok (.aload_n 0, 1) := by decide +kernel
theorem d_D_beginRebuilding_1 : decode b_D_beginRebuilding 1 = .ok (.getfield 22, 3) := by decide +kernel
theorem d_D_beginRebuilding_4 : decode b_D_beginRebuilding 4 = .ok (.iload_n 1, 1) := by decide +kernel
theorem d_D_beginRebuilding_5 : decode b_D_beginRebuilding 5 = .ok (.iconst 0, 1) := by decide +kernel
theorem d_D_beginRebuilding_6 : decode b_D_beginRebuilding 6 = .ok (.iastore, 1) := by decide +kernel
theorem d_D_beginRebuilding_7 : decode b_D_beginRebuilding 7 = .ok (.return_, 1) := by decide +kernel
theorem d_D_advance_0 : decode b_D_advance 0 = .ok (.aload_n 0, 1) := by decide +kernel
theorem d_D_advance_1 : decode b_D_advance 1 = .ok (.getfield 22, 3) := by decide +kernel
theorem d_D_advance_4 : decode b_D_advance 4 = .ok (.iload_n 1, 1) := by decide +kernel
theorem d_D_advance_5 : decode b_D_advance 5 = .ok (.dup2, 1) := by decide +kernel
theorem d_D_advance_6 : decode b_D_advance 6 = .ok (.iaload, 1) := by decide +kernel
theorem d_D_advance_7 : decode b_D_advance 7 = .ok (.iconst 1, 1) := by decide +kernel
theorem d_D_advance_8 : decode b_D_advance 8 = .ok (.iadd, 1) := by decide +kernel
theorem d_D_advance_9 : decode b_D_advance 9 = .ok (.iastore, 1) := by decide +kernel
theorem d_D_advance_10 : decode b_D_advance 10 = .ok (.return_, 1) := by decide +kernel
theorem d_D_nextToRebuild_0 : decode b_D_nextToRebuild 0 = .ok (.iconst (-1), 1) := by decide +kernel
theorem d_D_nextToRebuild_1 : decode b_D_nextToRebuild 1 = .ok (.istore_n 1, 1) := by decide +kernel
theorem d_D_nextToRebuild_2 : decode b_D_nextToRebuild 2 = .ok (.aload_n 0, 1) := by decide +kernel
theorem d_D_nextToRebuild_3 : decode b_D_nextToRebuild 3 = .ok (.getfield 15, 3) := by decide +kernel
theorem d_D_nextToRebuild_6 : decode b_D_nextToRebuild 6 = .ok (.istore_n 2, 1) := by decide +kernel
theorem d_D_nextToRebuild_7 : decode b_D_nextToRebuild 7 = .ok (.iconst 0, 1) := by decide +kernel
theorem d_D_nextToRebuild_8 : decode b_D_nextToRebuild 8 = .ok (.istore_n 3, 1) := by decide +kernel
theorem d_D_nextToRebuild_9 : decode b_D_nextToRebuild 9 = .ok (.iload_n 3, 1) := by decide +kernel
theorem d_D_nextToRebuild_10 : decode b_D_nextToRebuild 10 = .ok (.aload_n 0, 1) := by decide +kernel
theorem d_D_nextToRebuild_11 : decode b_D_nextToRebuild 11 = .ok (.getfield 9, 3) := by decide +kernel
theorem d_D_nextToRebuild_14 : decode b_D_nextToRebuild 14 = .ok (.if_icmp .ge 36, 3) := by decide +kernel
theorem d_D_nextToRebuild_17 : decode b_D_nextToRebuild 17 = .ok (.aload_n 0, 1) := by decide +kernel
theorem d_D_nextToRebuild_18 : decode b_D_nextToRebuild 18 = .ok (.iload_n 3, 1) := by decide +kernel
theorem d_D_nextToRebuild_19 : decode b_D_nextToRebuild 19 = .ok (.invokevirtual 43, 3) := by decide +kernel
theorem d_D_nextToRebuild_22 : decode b_D_nextToRebuild 22 = .ok (.ifCond .ne 22, 3) := by decide +kernel
theorem d_D_nextToRebuild_25 : decode b_D_nextToRebuild 25 = .ok (.aload_n 0, 1) := by decide +kernel
theorem d_D_nextToRebuild_26 : decode b_D_nextToRebuild 26 = .ok (.getfield 22, 3) := by decide +kernel
theorem d_D_nextToRebuild_29 : decode b_D_nextToRebuild 29 = .ok (.iload_n 3, 1) := by decide +kernel
theorem d_D_nextToRebuild_30 : decode b_D_nextToRebuild 30 = .ok (.iaload, 1) := by decide +kernel
theorem d_D_nextToRebuild_31 : decode b_D_nextToRebuild 31 = .ok (.iload_n 2, 1) := by decide +kernel
theorem d_D_nextToRebuild_32 : decode b_D_nextToRebuild 32 = .ok (.if_icmp .ge 12, 3) := by decide +kernel
theorem d_D_nextToRebuild_35 : decode b_D_nextToRebuild 35 = .ok (.iload_n 3, 1) := by decide +kernel
theorem d_D_nextToRebuild_36 : decode b_D_nextToRebuild 36 = .ok (.istore_n 1, 1) := by decide +kernel
theorem d_D_nextToRebuild_37 : decode b_D_nextToRebuild 37 = .ok (.aload_n 0, 1) := by decide +kernel
theorem d_D_nextToRebuild_38 : decode b_D_nextToRebuild 38 = .ok (.getfield 22, 3) := by decide +kernel
theorem d_D_nextToRebuild_41 : decode b_D_nextToRebuild 41 = .ok (.iload_n 3, 1) := by decide +kernel
theorem d_D_nextToRebuild_42 : decode b_D_nextToRebuild 42 = .ok (.iaload, 1) := by decide +kernel
theorem d_D_nextToRebuild_43 : decode b_D_nextToRebuild 43 = .ok (.istore_n 2, 1) := by decide +kernel
theorem d_D_nextToRebuild_44 : decode b_D_nextToRebuild 44 = .ok (.iinc 3 1, 3) := by decide +kernel
theorem d_D_nextToRebuild_47 : decode b_D_nextToRebuild 47 = .ok (.goto (-38), 3) := by decide +kernel
theorem d_D_nextToRebuild_50 : decode b_D_nextToRebuild 50 = .ok (.iload_n 1, 1) := by decide +kernel
theorem d_D_nextToRebuild_51 : decode b_D_nextToRebuild 51 = .ok (.ireturn, 1) := by decide +kernel
theorem d_D_wordAt_0 : decode b_D_wordAt 0 = .ok (.aload_n 0, 1) := by decide +kernel
theorem d_D_wordAt_1 : decode b_D_wordAt 1 = .ok (.getfield 18, 3) := by decide +kernel
theorem d_D_wordAt_4 : decode b_D_wordAt 4 = .ok (.iload_n 1, 1) := by decide +kernel
theorem d_D_wordAt_5 : decode b_D_wordAt 5 = .ok (.aload_n 0, 1) := by decide +kernel
theorem d_D_wordAt_6 : decode b_D_wordAt 6 = .ok (.getfield 15, 3) := by decide +kernel
theorem d_D_wordAt_9 : decode b_D_wordAt 9 = .ok (.imul, 1) := by decide +kernel
theorem d_D_wordAt_10 : decode b_D_wordAt 10 = .ok (.iload_n 2, 1) := by decide +kernel
theorem d_D_wordAt_11 : decode b_D_wordAt 11 = .ok (.iadd, 1) := by decide +kernel
theorem d_D_wordAt_12 : decode b_D_wordAt 12 = .ok (.iaload, 1) := by decide +kernel
theorem d_D_wordAt_13 : decode b_D_wordAt 13 = .ok (.ireturn, 1) := by decide +kernel
theorem d_D_put_0 : decode b_D_put 0 = .ok (.aload_n 0, 1) := by decide +kernel
theorem d_D_put_1 : decode b_D_put 1 = .ok (.getfield 18, 3) := by decide +kernel
theorem d_D_put_4 : decode b_D_put 4 = .ok (.iload_n 1, 1) := by decide +kernel
theorem d_D_put_5 : decode b_D_put 5 = .ok (.aload_n 0, 1) := by decide +kernel
theorem d_D_put_6 : decode b_D_put 6 = .ok (.getfield 15, 3) := by decide +kernel
theorem d_D_put_9 : decode b_D_put 9 = .ok (.imul, 1) := by decide +kernel
theorem d_D_put_10 : decode b_D_put 10 = .ok (.iload_n 2, 1) := by decide +kernel
theorem d_D_put_11 : decode b_D_put 11 = .ok (.iadd, 1) := by decide +kernel
theorem d_D_put_12 : decode b_D_put 12 = .ok (.iload_n 3, 1) := by decide +kernel
theorem d_D_put_13 : decode b_D_put 13 = .ok (.iastore, 1) := by decide +kernel
theorem d_D_put_14 : decode b_D_put 14 = .ok (.return_, 1) := by decide +kernel
theorem d_W_doubled_0 : decode b_W_doubled 0 = .ok (.iload_n 0, 1) := by decide +kernel
theorem d_W_doubled_1 : decode b_W_doubled 1 = .ok (.ldc 9, 2) := by decide +kernel
theorem d_W_doubled_3 : decode b_W_doubled 3 = .ok (.iand, 1) := by decide +kernel
theorem d_W_doubled_4 : decode b_W_doubled 4 = .ok (.iconst 1, 1) := by decide +kernel
theorem d_W_doubled_5 : decode b_W_doubled 5 = .ok (.ishl, 1) := by decide +kernel
theorem d_W_doubled_6 : decode b_W_doubled 6 = .ok (.iload_n 0, 1) := by decide +kernel
theorem d_W_doubled_7 : decode b_W_doubled 7 = .ok (.bipush 7, 2) := by decide +kernel
theorem d_W_doubled_9 : decode b_W_doubled 9 = .ok (.iushr, 1) := by decide +kernel
theorem d_W_doubled_10 : decode b_W_doubled 10 = .ok (.ldc 10, 2) := by decide +kernel
theorem d_W_doubled_12 : decode b_W_doubled 12 = .ok (.iand, 1) := by decide +kernel
theorem d_W_doubled_13 : decode b_W_doubled 13 = .ok (.bipush 29, 2) := by decide +kernel
theorem d_W_doubled_15 : decode b_W_doubled 15 = .ok (.imul, 1) := by decide +kernel
theorem d_W_doubled_16 : decode b_W_doubled 16 = .ok (.ixor, 1) := by decide +kernel
theorem d_W_doubled_17 : decode b_W_doubled 17 = .ok (.ireturn, 1) := by decide +kernel
theorem d_W_halved_0 : decode b_W_halved 0 = .ok (.iload_n 0, 1) := by decide +kernel
theorem d_W_halved_1 : decode b_W_halved 1 = .ok (.iconst 1, 1) := by decide +kernel
theorem d_W_halved_2 : decode b_W_halved 2 = .ok (.iushr, 1) := by decide +kernel
theorem d_W_halved_3 : decode b_W_halved 3 = .ok (.ldc 9, 2) := by decide +kernel
theorem d_W_halved_5 : decode b_W_halved 5 = .ok (.iand, 1) := by decide +kernel
theorem d_W_halved_6 : decode b_W_halved 6 = .ok (.iload_n 0, 1) := by decide +kernel
theorem d_W_halved_7 : decode b_W_halved 7 = .ok (.ldc 10, 2) := by decide +kernel
theorem d_W_halved_9 : decode b_W_halved 9 = .ok (.iand, 1) := by decide +kernel
theorem d_W_halved_10 : decode b_W_halved 10 = .ok (.sipush 142, 3) := by decide +kernel
theorem d_W_halved_13 : decode b_W_halved 13 = .ok (.imul, 1) := by decide +kernel
theorem d_W_halved_14 : decode b_W_halved 14 = .ok (.ixor, 1) := by decide +kernel
theorem d_W_halved_15 : decode b_W_halved 15 = .ok (.ireturn, 1) := by decide +kernel
theorem d_W_timesPower_0 : decode b_W_timesPower 0 = .ok (.iload_n 1, 1) := by decide +kernel
theorem d_W_timesPower_1 : decode b_W_timesPower 1 = .ok (.istore_n 2, 1) := by decide +kernel
theorem d_W_timesPower_2 : decode b_W_timesPower 2 = .ok (.iconst 0, 1) := by decide +kernel
theorem d_W_timesPower_3 : decode b_W_timesPower 3 = .ok (.istore_n 3, 1) := by decide +kernel
theorem d_W_timesPower_4 : decode b_W_timesPower 4 = .ok (.iload_n 3, 1) := by decide +kernel
theorem d_W_timesPower_5 : decode b_W_timesPower 5 = .ok (.iload_n 0, 1) := by decide +kernel
theorem d_W_timesPower_6 : decode b_W_timesPower 6 = .ok (.if_icmp .ge 14, 3) := by decide +kernel
theorem d_W_timesPower_9 : decode b_W_timesPower 9 = .ok (.iload_n 2, 1) := by decide +kernel
theorem d_W_timesPower_10 : decode b_W_timesPower 10 = .ok (.invokestatic 11, 3) := by decide +kernel
theorem d_W_timesPower_13 : decode b_W_timesPower 13 = .ok (.istore_n 2, 1) := by decide +kernel
theorem d_W_timesPower_14 : decode b_W_timesPower 14 = .ok (.iinc 3 1, 3) := by decide +kernel
theorem d_W_timesPower_17 : decode b_W_timesPower 17 = .ok (.goto (-13), 3) := by decide +kernel
theorem d_W_timesPower_20 : decode b_W_timesPower 20 = .ok (.iload_n 2, 1) := by decide +kernel
theorem d_W_timesPower_21 : decode b_W_timesPower 21 = .ok (.ireturn, 1) := by decide +kernel
theorem d_W_dividedByPower_0 : decode b_W_dividedByPower 0 = .ok (.iload_n 1, 1) := by decide +kernel
theorem d_W_dividedByPower_1 : decode b_W_dividedByPower 1 = .ok (.istore_n 2, 1) := by decide +kernel
theorem d_W_dividedByPower_2 : decode b_W_dividedByPower 2 = .ok (.iconst 0, 1) := by decide +kernel
theorem d_W_dividedByPower_3 : decode b_W_dividedByPower 3 = .ok (.istore_n 3, 1) := by decide +kernel
theorem d_W_dividedByPower_4 : decode b_W_dividedByPower 4 = .ok (.iload_n 3, 1) := by decide +kernel
theorem d_W_dividedByPower_5 : decode b_W_dividedByPower 5 = .ok (.iload_n 0, 1) := by decide +kernel
theorem d_W_dividedByPower_6 : decode b_W_dividedByPower 6 = .ok (.if_icmp .ge 14, 3) := by decide +kernel
theorem d_W_dividedByPower_9 : decode b_W_dividedByPower 9 = .ok (.iload_n 2, 1) := by decide +kernel
theorem d_W_dividedByPower_10 : decode b_W_dividedByPower 10 = .ok (.invokestatic 15, 3) := by decide +kernel
theorem d_W_dividedByPower_13 : decode b_W_dividedByPower 13 = .ok (.istore_n 2, 1) := by decide +kernel
theorem d_W_dividedByPower_14 : decode b_W_dividedByPower 14 = .ok (.iinc 3 1, 3) := by decide +kernel
theorem d_W_dividedByPower_17 : decode b_W_dividedByPower 17 = .ok (.goto (-13), 3) := by decide +kernel
theorem d_W_dividedByPower_20 : decode b_W_dividedByPower 20 = .ok (.iload_n 2, 1) := by decide +kernel
theorem d_W_dividedByPower_21 : decode b_W_dividedByPower 21 = .ok (.ireturn, 1) := by decide +kernel
theorem d_W_dividedBy1PlusPower_0 : decode b_W_dividedBy1PlusPower 0 = .ok (.getstatic 18, 3) := by decide +kernel
theorem d_W_dividedBy1PlusPower_3 : decode b_W_dividedBy1PlusPower 3 = .ok (.iload_n 0, 1) := by decide +kernel
theorem d_W_dividedBy1PlusPower_4 : decode b_W_dividedBy1PlusPower 4 = .ok (.bipush 7, 2) := by decide +kernel
theorem d_W_dividedBy1PlusPower_6 : decode b_W_dividedBy1PlusPower 6 = .ok (.iand, 1) := by decide +kernel
theorem d_W_dividedBy1PlusPower_7 : decode b_W_dividedBy1PlusPower 7 = .ok (.iaload, 1) := by decide +kernel
theorem d_W_dividedBy1PlusPower_8 : decode b_W_dividedBy1PlusPower 8 = .ok (.istore_n 2, 1) := by decide +kernel
theorem d_W_dividedBy1PlusPower_9 : decode b_W_dividedBy1PlusPower 9 = .ok (.iload_n 1, 1) := by decide +kernel
theorem d_W_dividedBy1PlusPower_10 : decode b_W_dividedBy1PlusPower 10 = .ok (.istore_n 3, 1) := by decide +kernel
theorem d_W_dividedBy1PlusPower_11 : decode b_W_dividedBy1PlusPower 11 = .ok (.iconst 0, 1) := by decide +kernel
theorem d_W_dividedBy1PlusPower_12 : decode b_W_dividedBy1PlusPower 12 = .ok (.istore 4, 2) := by decide +kernel
theorem d_W_dividedBy1PlusPower_14 : decode b_W_dividedBy1PlusPower 14 = .ok (.iconst 0, 1) := by decide +kernel
theorem d_W_dividedBy1PlusPower_15 : decode b_W_dividedBy1PlusPower 15 = .ok (.istore 5, 2) := by decide +kernel
theorem d_W_dividedBy1PlusPower_17 : decode b_W_dividedBy1PlusPower 17 = .ok (.iload 5, 2) := by decide +kernel
theorem d_W_dividedBy1PlusPower_19 : decode b_W_dividedBy1PlusPower 19 = .ok (.bipush 8, 2) := by decide +kernel
theorem d_W_dividedBy1PlusPower_21 : decode b_W_dividedBy1PlusPower 21 = .ok (.if_icmp .ge 29, 3) := by decide +kernel
theorem d_W_dividedBy1PlusPower_24 : decode b_W_dividedBy1PlusPower 24 = .ok (.iload_n 2, 1) := by decide +kernel
theorem d_W_dividedBy1PlusPower_25 : decode b_W_dividedBy1PlusPower 25 = .ok (.iload 5, 2) := by decide +kernel
theorem d_W_dividedBy1PlusPower_27 : decode b_W_dividedBy1PlusPower 27 = .ok (.iushr, 1) := by decide +kernel
theorem d_W_dividedBy1PlusPower_28 : decode b_W_dividedBy1PlusPower 28 = .ok (.iconst 1, 1) := by decide +kernel
theorem d_W_dividedBy1PlusPower_29 : decode b_W_dividedBy1PlusPower 29 = .ok (.iand, 1) := by decide +kernel
theorem d_W_dividedBy1PlusPower_30 : decode b_W_dividedBy1PlusPower 30 = .ok (.ifCond .eq 9, 3) := by decide +kernel
theorem d_W_dividedBy1PlusPower_33 : decode b_W_dividedBy1PlusPower 33 = .ok (.iload 4, 2) := by decide +kernel
theorem d_W_dividedBy1PlusPower_35 : decode b_W_dividedBy1PlusPower 35 = .ok (.iload_n 3, 1) := by decide +kernel
theorem d_W_dividedBy1PlusPower_36 : decode b_W_dividedBy1PlusPower 36 = .ok (.ixor, 1) := by decide +kernel
theorem d_W_dividedBy1PlusPower_37 : decode b_W_dividedBy1PlusPower 37 = .ok (.istore 4, 2) := by decide +kernel
theorem d_W_dividedBy1PlusPower_39 : decode b_W_dividedBy1PlusPower 39 = .ok (.iload_n 3, 1) := by decide +kernel
theorem d_W_dividedBy1PlusPower_40 : decode b_W_dividedBy1PlusPower 40 = .ok (.invokestatic 11, 3) := by decide +kernel
theorem d_W_dividedBy1PlusPower_43 : decode b_W_dividedBy1PlusPower 43 = .ok (.istore_n 3, 1) := by decide +kernel
theorem d_W_dividedBy1PlusPower_44 : decode b_W_dividedBy1PlusPower 44 = .ok (.iinc 5 1, 3) := by decide +kernel
theorem d_W_dividedBy1PlusPower_47 : decode b_W_dividedBy1PlusPower 47 = .ok (.goto (-30), 3) := by decide +kernel
theorem d_W_dividedBy1PlusPower_50 : decode b_W_dividedBy1PlusPower 50 = .ok (.iload 4, 2) := by decide +kernel
theorem d_W_dividedBy1PlusPower_52 : decode b_W_dividedBy1PlusPower 52 = .ok (.ireturn, 1) := by decide +kernel
