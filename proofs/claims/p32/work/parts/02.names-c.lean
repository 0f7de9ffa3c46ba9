theorem dX0_init_0 : decode cX0_init 0 = .ok (.aload_n 0, 1) := by decide +kernel
theorem dX0_init_1 : decode cX0_init 1 = .ok (.invokespecial 3, 3) := by decide +kernel
theorem dX0_init_4 : decode cX0_init 4 = .ok (.return_, 1) := by decide +kernel
theorem dX0_clear_0 : decode cX0_clear 0 = .ok (.aload_n 0, 1) := by decide +kernel
theorem dX0_clear_1 : decode cX0_clear 1 = .ok (.lconst 0, 1) := by decide +kernel
theorem dX0_clear_2 : decode cX0_clear 2 = .ok (.putfield 9, 3) := by decide +kernel
theorem dX0_clear_5 : decode cX0_clear 5 = .ok (.aload_n 0, 1) := by decide +kernel
theorem dX0_clear_6 : decode cX0_clear 6 = .ok (.lconst 0, 1) := by decide +kernel
theorem dX0_clear_7 : decode cX0_clear 7 = .ok (.putfield 15, 3) := by decide +kernel
theorem dX0_clear_10 : decode cX0_clear 10 = .ok (.aload_n 0, 1) := by decide +kernel
theorem dX0_clear_11 : decode cX0_clear 11 = .ok (.iconst 0, 1) := by decide +kernel
theorem dX0_clear_12 : decode cX0_clear 12 = .ok (.putfield 18, 3) := by decide +kernel
theorem dX0_clear_15 : decode cX0_clear 15 = .ok (.return_, 1) := by decide +kernel
theorem dX0_become_0 : decode cX0_become 0 = .ok (.aload_n 0, 1) := by decide +kernel
theorem dX0_become_1 : decode cX0_become 1 = .ok (.aload_n 1, 1) := by decide +kernel
theorem dX0_become_2 : decode cX0_become 2 = .ok (.getfield 9, 3) := by decide +kernel
theorem dX0_become_5 : decode cX0_become 5 = .ok (.putfield 9, 3) := by decide +kernel
theorem dX0_become_8 : decode cX0_become 8 = .ok (.aload_n 0, 1) := by decide +kernel
theorem dX0_become_9 : decode cX0_become 9 = .ok (.aload_n 1, 1) := by decide +kernel
theorem dX0_become_10 : decode cX0_become 10 = .ok (.getfield 15, 3) := by decide +kernel
theorem dX0_become_13 : decode cX0_become 13 = .ok (.putfield 15, 3) := by decide +kernel
theorem dX0_become_16 : decode cX0_become 16 = .ok (.aload_n 0, 1) := by decide +kernel
theorem dX0_become_17 : decode cX0_become 17 = .ok (.aload_n 1, 1) := by decide +kernel
theorem dX0_become_18 : decode cX0_become 18 = .ok (.getfield 18, 3) := by decide +kernel
theorem dX0_become_21 : decode cX0_become 21 = .ok (.putfield 18, 3) := by decide +kernel
theorem dX0_become_24 : decode cX0_become 24 = .ok (.return_, 1) := by decide +kernel
theorem dX0_sound_0 : decode cX0_sound 0 = .ok (.aload_n 0, 1) := by decide +kernel
theorem dX0_sound_1 : decode cX0_sound 1 = .ok (.getfield 9, 3) := by decide +kernel
theorem dX0_sound_4 : decode cX0_sound 4 = .ok (.aload_n 0, 1) := by decide +kernel
theorem dX0_sound_5 : decode cX0_sound 5 = .ok (.getfield 15, 3) := by decide +kernel
theorem dX0_sound_8 : decode cX0_sound 8 = .ok (.lxor, 1) := by decide +kernel
theorem dX0_sound_9 : decode cX0_sound 9 = .ok (.lreturn, 1) := by decide +kernel
theorem dX0_ones_0 : decode cX0_ones 0 = .ok (.aload_n 0, 1) := by decide +kernel
theorem dX0_ones_1 : decode cX0_ones 1 = .ok (.getfield 9, 3) := by decide +kernel
theorem dX0_ones_4 : decode cX0_ones 4 = .ok (.aload_n 0, 1) := by decide +kernel
theorem dX0_ones_5 : decode cX0_ones 5 = .ok (.getfield 15, 3) := by decide +kernel
theorem dX0_ones_8 : decode cX0_ones 8 = .ok (.ldc2_w 22, 3) := by decide +kernel
theorem dX0_ones_11 : decode cX0_ones 11 = .ok (.lxor, 1) := by decide +kernel
theorem dX0_ones_12 : decode cX0_ones 12 = .ok (.land, 1) := by decide +kernel
theorem dX0_ones_13 : decode cX0_ones 13 = .ok (.lreturn, 1) := by decide +kernel
theorem dX0_blank_0 : decode cX0_blank 0 = .ok (.aload_n 0, 1) := by decide +kernel
theorem dX0_blank_1 : decode cX0_blank 1 = .ok (.getfield 9, 3) := by decide +kernel
theorem dX0_blank_4 : decode cX0_blank 4 = .ok (.aload_n 0, 1) := by decide +kernel
theorem dX0_blank_5 : decode cX0_blank 5 = .ok (.getfield 15, 3) := by decide +kernel
theorem dX0_blank_8 : decode cX0_blank 8 = .ok (.lor, 1) := by decide +kernel
theorem dX0_blank_9 : decode cX0_blank 9 = .ok (.ldc2_w 22, 3) := by decide +kernel
theorem dX0_blank_12 : decode cX0_blank 12 = .ok (.lxor, 1) := by decide +kernel
theorem dX0_blank_13 : decode cX0_blank 13 = .ok (.lreturn, 1) := by decide +kernel
theorem dX0_cellsOfKind_0 : decode cX0_cellsOfKind 0 = .ok (.iload_n 1, 1) := by decide +kernel
theorem dX0_cellsOfKind_1 : decode cX0_cellsOfKind 1 = .ok (.tableswitch 51 0 2 #[27, 41, 46], 27) := by decide +kernel
theorem dX0_cellsOfKind_28 : decode cX0_cellsOfKind 28 = .ok (.aload_n 0, 1) := by decide +kernel
theorem dX0_cellsOfKind_29 : decode cX0_cellsOfKind 29 = .ok (.getfield 15, 3) := by decide +kernel
theorem dX0_cellsOfKind_32 : decode cX0_cellsOfKind 32 = .ok (.aload_n 0, 1) := by decide +kernel
theorem dX0_cellsOfKind_33 : decode cX0_cellsOfKind 33 = .ok (.getfield 9, 3) := by decide +kernel
theorem dX0_cellsOfKind_36 : decode cX0_cellsOfKind 36 = .ok (.ldc2_w 22, 3) := by decide +kernel
theorem dX0_cellsOfKind_39 : decode cX0_cellsOfKind 39 = .ok (.lxor, 1) := by decide +kernel
theorem dX0_cellsOfKind_40 : decode cX0_cellsOfKind 40 = .ok (.land, 1) := by decide +kernel
theorem dX0_cellsOfKind_41 : decode cX0_cellsOfKind 41 = .ok (.lreturn, 1) := by decide +kernel
theorem dX0_cellsOfKind_42 : decode cX0_cellsOfKind 42 = .ok (.aload_n 0, 1) := by decide +kernel
theorem dX0_cellsOfKind_43 : decode cX0_cellsOfKind 43 = .ok (.invokevirtual 24, 3) := by decide +kernel
theorem dX0_cellsOfKind_46 : decode cX0_cellsOfKind 46 = .ok (.lreturn, 1) := by decide +kernel
theorem dX0_cellsOfKind_47 : decode cX0_cellsOfKind 47 = .ok (.aload_n 0, 1) := by decide +kernel
theorem dX0_cellsOfKind_48 : decode cX0_cellsOfKind 48 = .ok (.invokevirtual 28, 3) := by decide +kernel
theorem dX0_cellsOfKind_51 : decode cX0_cellsOfKind 51 = .ok (.lreturn, 1) := by decide +kernel
theorem dX0_cellsOfKind_52 : decode cX0_cellsOfKind 52 = .ok (.aload_n 0, 1) := by decide +kernel
theorem dX0_cellsOfKind_53 : decode cX0_cellsOfKind 53 = .ok (.getfield 9, 3) := by decide +kernel
theorem dX0_cellsOfKind_56 : decode cX0_cellsOfKind 56 = .ok (.aload_n 0, 1) := by decide +kernel
theorem dX0_cellsOfKind_57 : decode cX0_cellsOfKind 57 = .ok (.getfield 15, 3) := by decide +kernel
theorem dX0_cellsOfKind_60 : decode cX0_cellsOfKind 60 = .ok (.land, 1) := by decide +kernel
theorem dX0_cellsOfKind_61 : decode cX0_cellsOfKind 61 = .ok (.lreturn, 1) := by decide +kernel
theorem dX0_kindAt_0 : decode cX0_kindAt 0 = .ok (.aload_n 0, 1) := by decide +kernel
theorem dX0_kindAt_1 : decode cX0_kindAt 1 = .ok (.getfield 9, 3) := by decide +kernel
theorem dX0_kindAt_4 : decode cX0_kindAt 4 = .ok (.iload_n 1, 1) := by decide +kernel
theorem dX0_kindAt_5 : decode cX0_kindAt 5 = .ok (.invokestatic 31, 3) := by decide +kernel
theorem dX0_kindAt_8 : decode cX0_kindAt 8 = .ok (.ifCond .eq 20, 3) := by decide +kernel
theorem dX0_kindAt_11 : decode cX0_kindAt 11 = .ok (.aload_n 0, 1) := by decide +kernel
theorem dX0_kindAt_12 : decode cX0_kindAt 12 = .ok (.getfield 15, 3) := by decide +kernel
theorem dX0_kindAt_15 : decode cX0_kindAt 15 = .ok (.iload_n 1, 1) := by decide +kernel
theorem dX0_kindAt_16 : decode cX0_kindAt 16 = .ok (.invokestatic 31, 3) := by decide +kernel
theorem dX0_kindAt_19 : decode cX0_kindAt 19 = .ok (.ifCond .eq 7, 3) := by decide +kernel
theorem dX0_kindAt_22 : decode cX0_kindAt 22 = .ok (.iconst 3, 1) := by decide +kernel
theorem dX0_kindAt_23 : decode cX0_kindAt 23 = .ok (.goto 4, 3) := by decide +kernel
theorem dX0_kindAt_26 : decode cX0_kindAt 26 = .ok (.iconst 1, 1) := by decide +kernel
theorem dX0_kindAt_27 : decode cX0_kindAt 27 = .ok (.ireturn, 1) := by decide +kernel
theorem dX0_kindAt_28 : decode cX0_kindAt 28 = .ok (.aload_n 0, 1) := by decide +kernel
theorem dX0_kindAt_29 : decode cX0_kindAt 29 = .ok (.getfield 15, 3) := by decide +kernel
theorem dX0_kindAt_32 : decode cX0_kindAt 32 = .ok (.iload_n 1, 1) := by decide +kernel
theorem dX0_kindAt_33 : decode cX0_kindAt 33 = .ok (.invokestatic 31, 3) := by decide +kernel
theorem dX0_kindAt_36 : decode cX0_kindAt 36 = .ok (.ifCond .eq 7, 3) := by decide +kernel
theorem dX0_kindAt_39 : decode cX0_kindAt 39 = .ok (.iconst 0, 1) := by decide +kernel
theorem dX0_kindAt_40 : decode cX0_kindAt 40 = .ok (.goto 4, 3) := by decide +kernel
theorem dX0_kindAt_43 : decode cX0_kindAt 43 = .ok (.iconst 2, 1) := by decide +kernel
theorem dX0_kindAt_44 : decode cX0_kindAt 44 = .ok (.ireturn, 1) := by decide +kernel
theorem dX0_hasHole_0 : decode cX0_hasHole 0 = .ok (.iload_n 1, 1) := by decide +kernel
theorem dX0_hasHole_1 : decode cX0_hasHole 1 = .ok (.ifCond .eq 10, 3) := by decide +kernel
theorem dX0_hasHole_4 : decode cX0_hasHole 4 = .ok (.aload_n 0, 1) := by decide +kernel
theorem dX0_hasHole_5 : decode cX0_hasHole 5 = .ok (.getfield 15, 3) := by decide +kernel
theorem dX0_hasHole_8 : decode cX0_hasHole 8 = .ok (.goto 7, 3) := by decide +kernel
theorem dX0_hasHole_11 : decode cX0_hasHole 11 = .ok (.aload_n 0, 1) := by decide +kernel
theorem dX0_hasHole_12 : decode cX0_hasHole 12 = .ok (.getfield 9, 3) := by decide +kernel
theorem dX0_hasHole_15 : decode cX0_hasHole 15 = .ok (.iload_n 2, 1) := by decide +kernel
theorem dX0_hasHole_16 : decode cX0_hasHole 16 = .ok (.invokestatic 31, 3) := by decide +kernel
theorem dX0_hasHole_19 : decode cX0_hasHole 19 = .ok (.ireturn, 1) := by decide +kernel
theorem dX0_setHole_0 : decode cX0_setHole 0 = .ok (.lconst 1, 1) := by decide +kernel
theorem dX0_setHole_1 : decode cX0_setHole 1 = .ok (.iload_n 2, 1) := by decide +kernel
theorem dX0_setHole_2 : decode cX0_setHole 2 = .ok (.lshl, 1) := by decide +kernel
theorem dX0_setHole_3 : decode cX0_setHole 3 = .ok (.lstore 4, 2) := by decide +kernel
theorem dX0_setHole_5 : decode cX0_setHole 5 = .ok (.iload_n 1, 1) := by decide +kernel
theorem dX0_setHole_6 : decode cX0_setHole 6 = .ok (.ifCond .eq 35, 3) := by decide +kernel
theorem dX0_setHole_9 : decode cX0_setHole 9 = .ok (.aload_n 0, 1) := by decide +kernel
theorem dX0_setHole_10 : decode cX0_setHole 10 = .ok (.iload_n 3, 1) := by decide +kernel
theorem dX0_setHole_11 : decode cX0_setHole 11 = .ok (.ifCond .eq 13, 3) := by decide +kernel
theorem dX0_setHole_14 : decode cX0_setHole 14 = .ok (.aload_n 0, 1) := by decide +kernel
theorem dX0_setHole_15 : decode cX0_setHole 15 = .ok (.getfield 15, 3) := by decide +kernel
theorem dX0_setHole_18 : decode cX0_setHole 18 = .ok (.lload 4, 2) := by decide +kernel
theorem dX0_setHole_20 : decode cX0_setHole 20 = .ok (.lor, 1) := by decide +kernel
theorem dX0_setHole_21 : decode cX0_setHole 21 = .ok (.goto 14, 3) := by decide +kernel
theorem dX0_setHole_24 : decode cX0_setHole 24 = .ok (.aload_n 0, 1) := by decide +kernel
theorem dX0_setHole_25 : decode cX0_setHole 25 = .ok (.getfield 15, 3) := by decide +kernel
theorem dX0_setHole_28 : decode cX0_setHole 28 = .ok (.lload 4, 2) := by decide +kernel
theorem dX0_setHole_30 : decode cX0_setHole 30 = .ok (.ldc2_w 22, 3) := by decide +kernel
theorem dX0_setHole_33 : decode cX0_setHole 33 = .ok (.lxor, 1) := by decide +kernel
theorem dX0_setHole_34 : decode cX0_setHole 34 = .ok (.land, 1) := by decide +kernel
theorem dX0_setHole_35 : decode cX0_setHole 35 = .ok (.putfield 15, 3) := by decide +kernel
theorem dX0_setHole_38 : decode cX0_setHole 38 = .ok (.goto 32, 3) := by decide +kernel
theorem dX0_setHole_41 : decode cX0_setHole 41 = .ok (.aload_n 0, 1) := by decide +kernel
theorem dX0_setHole_42 : decode cX0_setHole 42 = .ok (.iload_n 3, 1) := by decide +kernel
theorem dX0_setHole_43 : decode cX0_setHole 43 = .ok (.ifCond .eq 13, 3) := by decide +kernel
theorem dX0_setHole_46 : decode cX0_setHole 46 = .ok (.aload_n 0, 1) := by decide +kernel
theorem dX0_setHole_47 : decode cX0_setHole 47 = .ok (.getfield 9, 3) := by decide +kernel
theorem dX0_setHole_50 : decode cX0_setHole 50 = .ok (.lload 4, 2) := by decide +kernel
theorem dX0_setHole_52 : decode cX0_setHole 52 = .ok (.lor, 1) := by decide +kernel
theorem dX0_setHole_53 : decode cX0_setHole 53 = .ok (.goto 14, 3) := by decide +kernel
theorem dX0_setHole_56 : decode cX0_setHole 56 = .ok (.aload_n 0, 1) := by decide +kernel
theorem dX0_setHole_57 : decode cX0_setHole 57 = .ok (.getfield 9, 3) := by decide +kernel
theorem dX0_setHole_60 : decode cX0_setHole 60 = .ok (.lload 4, 2) := by decide +kernel
theorem dX0_setHole_62 : decode cX0_setHole 62 = .ok (.ldc2_w 22, 3) := by decide +kernel
theorem dX0_setHole_65 : decode cX0_setHole 65 = .ok (.lxor, 1) := by decide +kernel
theorem dX0_setHole_66 : decode cX0_setHole 66 = .ok (.land, 1) := by decide +kernel
theorem dX0_setHole_67 : decode cX0_setHole 67 = .ok (.putfield 9, 3) := by decide +kernel
theorem dX0_setHole_70 : decode cX0_setHole 70 = .ok (.return_, 1) := by decide +kernel
theorem dX0_punchBit_0 : decode cX0_punchBit 0 = .ok (.aload_n 0, 1) := by decide +kernel
theorem dX0_punchBit_1 : decode cX0_punchBit 1 = .ok (.iload_n 3, 1) := by decide +kernel
theorem dX0_punchBit_2 : decode cX0_punchBit 2 = .ok (.ifCond .ne 7, 3) := by decide +kernel
theorem dX0_punchBit_5 : decode cX0_punchBit 5 = .ok (.iconst 1, 1) := by decide +kernel
theorem dX0_punchBit_6 : decode cX0_punchBit 6 = .ok (.goto 4, 3) := by decide +kernel
theorem dX0_punchBit_9 : decode cX0_punchBit 9 = .ok (.iconst 0, 1) := by decide +kernel
theorem dX0_punchBit_10 : decode cX0_punchBit 10 = .ok (.iload_n 1, 1) := by decide +kernel
theorem dX0_punchBit_11 : decode cX0_punchBit 11 = .ok (.iload_n 2, 1) := by decide +kernel
theorem dX0_punchBit_12 : decode cX0_punchBit 12 = .ok (.invokestatic 35, 3) := by decide +kernel
theorem dX0_punchBit_15 : decode cX0_punchBit 15 = .ok (.iconst 1, 1) := by decide +kernel
theorem dX0_punchBit_16 : decode cX0_punchBit 16 = .ok (.invokevirtual 39, 3) := by decide +kernel
theorem dX0_punchBit_19 : decode cX0_punchBit 19 = .ok (.return_, 1) := by decide +kernel
theorem dX0_canPunch_0 : decode cX0_canPunch 0 = .ok (.iload_n 1, 1) := by decide +kernel
theorem dX0_canPunch_1 : decode cX0_canPunch 1 = .ok (.invokestatic 43, 3) := by decide +kernel
theorem dX0_canPunch_4 : decode cX0_canPunch 4 = .ok (.aload_n 0, 1) := by decide +kernel
theorem dX0_canPunch_5 : decode cX0_canPunch 5 = .ok (.invokevirtual 28, 3) := by decide +kernel
theorem dX0_canPunch_8 : decode cX0_canPunch 8 = .ok (.ldc2_w 22, 3) := by decide +kernel
theorem dX0_canPunch_11 : decode cX0_canPunch 11 = .ok (.lxor, 1) := by decide +kernel
theorem dX0_canPunch_12 : decode cX0_canPunch 12 = .ok (.land, 1) := by decide +kernel
theorem dX0_canPunch_13 : decode cX0_canPunch 13 = .ok (.lconst 0, 1) := by decide +kernel
theorem dX0_canPunch_14 : decode cX0_canPunch 14 = .ok (.lcmp, 1) := by decide +kernel
theorem dX0_canPunch_15 : decode cX0_canPunch 15 = .ok (.ifCond .ne 7, 3) := by decide +kernel
theorem dX0_canPunch_18 : decode cX0_canPunch 18 = .ok (.iconst 1, 1) := by decide +kernel
theorem dX0_canPunch_19 : decode cX0_canPunch 19 = .ok (.goto 4, 3) := by decide +kernel
theorem dX0_canPunch_22 : decode cX0_canPunch 22 = .ok (.iconst 0, 1) := by decide +kernel
theorem dX0_canPunch_23 : decode cX0_canPunch 23 = .ok (.ireturn, 1) := by decide +kernel
theorem dX0_punchRow_0 : decode cX0_punchRow 0 = .ok (.iconst 0, 1) := by decide +kernel
theorem dX0_punchRow_1 : decode cX0_punchRow 1 = .ok (.istore_n 3, 1) := by decide +kernel
theorem dX0_punchRow_2 : decode cX0_punchRow 2 = .ok (.iload_n 3, 1) := by decide +kernel
theorem dX0_punchRow_3 : decode cX0_punchRow 3 = .ok (.bipush 7, 2) := by decide +kernel
theorem dX0_punchRow_5 : decode cX0_punchRow 5 = .ok (.if_icmp .ge 23, 3) := by decide +kernel
theorem dX0_punchRow_8 : decode cX0_punchRow 8 = .ok (.aload_n 0, 1) := by decide +kernel
theorem dX0_punchRow_9 : decode cX0_punchRow 9 = .ok (.iload_n 1, 1) := by decide +kernel
theorem dX0_punchRow_10 : decode cX0_punchRow 10 = .ok (.iload_n 3, 1) := by decide +kernel
theorem dX0_punchRow_11 : decode cX0_punchRow 11 = .ok (.iload_n 2, 1) := by decide +kernel
theorem dX0_punchRow_12 : decode cX0_punchRow 12 = .ok (.bipush 6, 2) := by decide +kernel
theorem dX0_punchRow_14 : decode cX0_punchRow 14 = .ok (.iload_n 3, 1) := by decide +kernel
theorem dX0_punchRow_15 : decode cX0_punchRow 15 = .ok (.isub, 1) := by decide +kernel
theorem dX0_punchRow_16 : decode cX0_punchRow 16 = .ok (.ishr, 1) := by decide +kernel
theorem dX0_punchRow_17 : decode cX0_punchRow 17 = .ok (.iconst 1, 1) := by decide +kernel
theorem dX0_punchRow_18 : decode cX0_punchRow 18 = .ok (.iand, 1) := by decide +kernel
theorem dX0_punchRow_19 : decode cX0_punchRow 19 = .ok (.invokevirtual 47, 3) := by decide +kernel
theorem dX0_punchRow_22 : decode cX0_punchRow 22 = .ok (.iinc 3 1, 3) := by decide +kernel
theorem dX0_punchRow_25 : decode cX0_punchRow 25 = .ok (.goto (-23), 3) := by decide +kernel
theorem dX0_punchRow_28 : decode cX0_punchRow 28 = .ok (.iload_n 2, 1) := by decide +kernel
theorem dX0_punchRow_29 : decode cX0_punchRow 29 = .ok (.invokestatic 51, 3) := by decide +kernel
theorem dX0_punchRow_32 : decode cX0_punchRow 32 = .ok (.iconst 1, 1) := by decide +kernel
theorem dX0_punchRow_33 : decode cX0_punchRow 33 = .ok (.iand, 1) := by decide +kernel
theorem dX0_punchRow_34 : decode cX0_punchRow 34 = .ok (.istore_n 3, 1) := by decide +kernel
theorem dX0_punchRow_35 : decode cX0_punchRow 35 = .ok (.aload_n 0, 1) := by decide +kernel
theorem dX0_punchRow_36 : decode cX0_punchRow 36 = .ok (.iload_n 1, 1) := by decide +kernel
theorem dX0_punchRow_37 : decode cX0_punchRow 37 = .ok (.bipush 7, 2) := by decide +kernel
theorem dX0_punchRow_39 : decode cX0_punchRow 39 = .ok (.iload_n 3, 1) := by decide +kernel
theorem dX0_punchRow_40 : decode cX0_punchRow 40 = .ok (.invokevirtual 47, 3) := by decide +kernel
theorem dX0_punchRow_43 : decode cX0_punchRow 43 = .ok (.iload_n 3, 1) := by decide +kernel
theorem dX0_punchRow_44 : decode cX0_punchRow 44 = .ok (.ireturn, 1) := by decide +kernel
theorem dX0_canClose_0 : decode cX0_canClose 0 = .ok (.bipush 7, 2) := by decide +kernel
theorem dX0_canClose_2 : decode cX0_canClose 2 = .ok (.invokestatic 43, 3) := by decide +kernel
theorem dX0_canClose_5 : decode cX0_canClose 5 = .ok (.lstore_n 1, 1) := by decide +kernel
theorem dX0_canClose_6 : decode cX0_canClose 6 = .ok (.aload_n 0, 1) := by decide +kernel
theorem dX0_canClose_7 : decode cX0_canClose 7 = .ok (.invokevirtual 57, 3) := by decide +kernel
theorem dX0_canClose_10 : decode cX0_canClose 10 = .ok (.lload_n 1, 1) := by decide +kernel
theorem dX0_canClose_11 : decode cX0_canClose 11 = .ok (.lor, 1) := by decide +kernel
theorem dX0_canClose_12 : decode cX0_canClose 12 = .ok (.ldc2_w 22, 3) := by decide +kernel
theorem dX0_canClose_15 : decode cX0_canClose 15 = .ok (.lcmp, 1) := by decide +kernel
theorem dX0_canClose_16 : decode cX0_canClose 16 = .ok (.ifCond .ne 18, 3) := by decide +kernel
theorem dX0_canClose_19 : decode cX0_canClose 19 = .ok (.aload_n 0, 1) := by decide +kernel
theorem dX0_canClose_20 : decode cX0_canClose 20 = .ok (.invokevirtual 28, 3) := by decide +kernel
theorem dX0_canClose_23 : decode cX0_canClose 23 = .ok (.lload_n 1, 1) := by decide +kernel
theorem dX0_canClose_24 : decode cX0_canClose 24 = .ok (.land, 1) := by decide +kernel
theorem dX0_canClose_25 : decode cX0_canClose 25 = .ok (.lload_n 1, 1) := by decide +kernel
theorem dX0_canClose_26 : decode cX0_canClose 26 = .ok (.lcmp, 1) := by decide +kernel
theorem dX0_canClose_27 : decode cX0_canClose 27 = .ok (.ifCond .ne 7, 3) := by decide +kernel
theorem dX0_canClose_30 : decode cX0_canClose 30 = .ok (.iconst 1, 1) := by decide +kernel
theorem dX0_canClose_31 : decode cX0_canClose 31 = .ok (.goto 4, 3) := by decide +kernel
theorem dX0_canClose_34 : decode cX0_canClose 34 = .ok (.iconst 0, 1) := by decide +kernel
theorem dX0_canClose_35 : decode cX0_canClose 35 = .ok (.ireturn, 1) := by decide +kernel
theorem dX0_punchCheckRow_0 : decode cX0_punchCheckRow 0 = .ok (.aload_n 0, 1) := by decide +kernel
theorem dX0_punchCheckRow_1 : decode cX0_punchCheckRow 1 = .ok (.invokevirtual 24, 3) := by decide +kernel
theorem dX0_punchCheckRow_4 : decode cX0_punchCheckRow 4 = .ok (.bipush 7, 2) := by decide +kernel
theorem dX0_punchCheckRow_6 : decode cX0_punchCheckRow 6 = .ok (.invokestatic 43, 3) := by decide +kernel
theorem dX0_punchCheckRow_9 : decode cX0_punchCheckRow 9 = .ok (.ldc2_w 22, 3) := by decide +kernel
theorem dX0_punchCheckRow_12 : decode cX0_punchCheckRow 12 = .ok (.lxor, 1) := by decide +kernel
theorem dX0_punchCheckRow_13 : decode cX0_punchCheckRow 13 = .ok (.land, 1) := by decide +kernel
theorem dX0_punchCheckRow_14 : decode cX0_punchCheckRow 14 = .ok (.lstore_n 1, 1) := by decide +kernel
theorem dX0_punchCheckRow_15 : decode cX0_punchCheckRow 15 = .ok (.iconst 0, 1) := by decide +kernel
theorem dX0_punchCheckRow_16 : decode cX0_punchCheckRow 16 = .ok (.istore_n 3, 1) := by decide +kernel
theorem dX0_punchCheckRow_17 : decode cX0_punchCheckRow 17 = .ok (.iload_n 3, 1) := by decide +kernel
theorem dX0_punchCheckRow_18 : decode cX0_punchCheckRow 18 = .ok (.bipush 8, 2) := by decide +kernel
theorem dX0_punchCheckRow_20 : decode cX0_punchCheckRow 20 = .ok (.if_icmp .ge 33, 3) := by decide +kernel
theorem dX0_punchCheckRow_23 : decode cX0_punchCheckRow 23 = .ok (.aload_n 0, 1) := by decide +kernel
theorem dX0_punchCheckRow_24 : decode cX0_punchCheckRow 24 = .ok (.bipush 7, 2) := by decide +kernel
theorem dX0_punchCheckRow_26 : decode cX0_punchCheckRow 26 = .ok (.iload_n 3, 1) := by decide +kernel
theorem dX0_punchCheckRow_27 : decode cX0_punchCheckRow 27 = .ok (.lload_n 1, 1) := by decide +kernel
theorem dX0_punchCheckRow_28 : decode cX0_punchCheckRow 28 = .ok (.iload_n 3, 1) := by decide +kernel
theorem dX0_punchCheckRow_29 : decode cX0_punchCheckRow 29 = .ok (.invokestatic 60, 3) := by decide +kernel
theorem dX0_punchCheckRow_32 : decode cX0_punchCheckRow 32 = .ok (.land, 1) := by decide +kernel
theorem dX0_punchCheckRow_33 : decode cX0_punchCheckRow 33 = .ok (.invokestatic 63, 3) := by decide +kernel
theorem dX0_punchCheckRow_36 : decode cX0_punchCheckRow 36 = .ok (.ifCond .eq 7, 3) := by decide +kernel
theorem dX0_punchCheckRow_39 : decode cX0_punchCheckRow 39 = .ok (.iconst 1, 1) := by decide +kernel
theorem dX0_punchCheckRow_40 : decode cX0_punchCheckRow 40 = .ok (.goto 4, 3) := by decide +kernel
theorem dX0_punchCheckRow_43 : decode cX0_punchCheckRow 43 = .ok (.iconst 0, 1) := by decide +kernel
theorem dX0_punchCheckRow_44 : decode cX0_punchCheckRow 44 = .ok (.invokevirtual 47, 3) := by decide +kernel
theorem dX0_punchCheckRow_47 : decode cX0_punchCheckRow 47 = .ok (.iinc 3 1, 3) := by decide +kernel
theorem dX0_punchCheckRow_50 : decode cX0_punchCheckRow 50 = .ok (.goto (-33), 3) := by decide +kernel
theorem dX0_punchCheckRow_53 : decode cX0_punchCheckRow 53 = .ok (.aload_n 0, 1) := by decide +kernel
theorem dX0_punchCheckRow_54 : decode cX0_punchCheckRow 54 = .ok (.invokevirtual 24, 3) := by decide +kernel
theorem dX0_punchCheckRow_57 : decode cX0_punchCheckRow 57 = .ok (.bipush 7, 2) := by decide +kernel
theorem dX0_punchCheckRow_59 : decode cX0_punchCheckRow 59 = .ok (.invokestatic 43, 3) := by decide +kernel
theorem dX0_punchCheckRow_62 : decode cX0_punchCheckRow 62 = .ok (.land, 1) := by decide +kernel
theorem dX0_punchCheckRow_63 : decode cX0_punchCheckRow 63 = .ok (.invokestatic 67, 3) := by decide +kernel
theorem dX0_punchCheckRow_66 : decode cX0_punchCheckRow 66 = .ok (.ireturn, 1) := by decide +kernel
theorem dX0_showsBack_0 : decode cX0_showsBack 0 = .ok (.aload_n 0, 1) := by decide +kernel
theorem dX0_showsBack_1 : decode cX0_showsBack 1 = .ok (.getfield 18, 3) := by decide +kernel
theorem dX0_showsBack_4 : decode cX0_showsBack 4 = .ok (.iconst 2, 1) := by decide +kernel
theorem dX0_showsBack_5 : decode cX0_showsBack 5 = .ok (.if_icmp .lt 7, 3) := by decide +kernel
theorem dX0_showsBack_8 : decode cX0_showsBack 8 = .ok (.iconst 1, 1) := by decide +kernel
theorem dX0_showsBack_9 : decode cX0_showsBack 9 = .ok (.goto 4, 3) := by decide +kernel
theorem dX0_showsBack_12 : decode cX0_showsBack 12 = .ok (.iconst 0, 1) := by decide +kernel
theorem dX0_showsBack_13 : decode cX0_showsBack 13 = .ok (.ireturn, 1) := by decide +kernel
theorem dX0_seenCell_0 : decode cX0_seenCell 0 = .ok (.aload_n 0, 1) := by decide +kernel
theorem dX0_seenCell_1 : decode cX0_seenCell 1 = .ok (.getfield 18, 3) := by decide +kernel
theorem dX0_seenCell_4 : decode cX0_seenCell 4 = .ok (.iconst 1, 1) := by decide +kernel
theorem dX0_seenCell_5 : decode cX0_seenCell 5 = .ok (.if_icmp .eq 11, 3) := by decide +kernel
theorem dX0_seenCell_8 : decode cX0_seenCell 8 = .ok (.aload_n 0, 1) := by decide +kernel
theorem dX0_seenCell_9 : decode cX0_seenCell 9 = .ok (.getfield 18, 3) := by decide +kernel
theorem dX0_seenCell_12 : decode cX0_seenCell 12 = .ok (.iconst 3, 1) := by decide +kernel
theorem dX0_seenCell_13 : decode cX0_seenCell 13 = .ok (.if_icmp .ne 7, 3) := by decide +kernel
theorem dX0_seenCell_16 : decode cX0_seenCell 16 = .ok (.iconst 1, 1) := by decide +kernel
theorem dX0_seenCell_17 : decode cX0_seenCell 17 = .ok (.goto 4, 3) := by decide +kernel
theorem dX0_seenCell_20 : decode cX0_seenCell 20 = .ok (.iconst 0, 1) := by decide +kernel
theorem dX0_seenCell_21 : decode cX0_seenCell 21 = .ok (.istore_n 3, 1) := by decide +kernel
theorem dX0_seenCell_22 : decode cX0_seenCell 22 = .ok (.aload_n 0, 1) := by decide +kernel
theorem dX0_seenCell_23 : decode cX0_seenCell 23 = .ok (.getfield 18, 3) := by decide +kernel
theorem dX0_seenCell_26 : decode cX0_seenCell 26 = .ok (.iconst 1, 1) := by decide +kernel
theorem dX0_seenCell_27 : decode cX0_seenCell 27 = .ok (.if_icmp .eq 11, 3) := by decide +kernel
theorem dX0_seenCell_30 : decode cX0_seenCell 30 = .ok (.aload_n 0, 1) := by decide +kernel
theorem dX0_seenCell_31 : decode cX0_seenCell 31 = .ok (.getfield 18, 3) := by decide +kernel
theorem dX0_seenCell_34 : decode cX0_seenCell 34 = .ok (.iconst 2, 1) := by decide +kernel
theorem dX0_seenCell_35 : decode cX0_seenCell 35 = .ok (.if_icmp .ne 7, 3) := by decide +kernel
theorem dX0_seenCell_38 : decode cX0_seenCell 38 = .ok (.iconst 1, 1) := by decide +kernel
theorem dX0_seenCell_39 : decode cX0_seenCell 39 = .ok (.goto 4, 3) := by decide +kernel
theorem dX0_seenCell_42 : decode cX0_seenCell 42 = .ok (.iconst 0, 1) := by decide +kernel
theorem dX0_seenCell_43 : decode cX0_seenCell 43 = .ok (.istore 4, 2) := by decide +kernel
theorem dX0_seenCell_45 : decode cX0_seenCell 45 = .ok (.iload_n 3, 1) := by decide +kernel
theorem dX0_seenCell_46 : decode cX0_seenCell 46 = .ok (.ifCond .eq 10, 3) := by decide +kernel
theorem dX0_seenCell_49 : decode cX0_seenCell 49 = .ok (.bipush 7, 2) := by decide +kernel
theorem dX0_seenCell_51 : decode cX0_seenCell 51 = .ok (.iload_n 1, 1) := by decide +kernel
theorem dX0_seenCell_52 : decode cX0_seenCell 52 = .ok (.isub, 1) := by decide +kernel
theorem dX0_seenCell_53 : decode cX0_seenCell 53 = .ok (.goto 4, 3) := by decide +kernel
theorem dX0_seenCell_56 : decode cX0_seenCell 56 = .ok (.iload_n 1, 1) := by decide +kernel
theorem dX0_seenCell_57 : decode cX0_seenCell 57 = .ok (.iload 4, 2) := by decide +kernel
theorem dX0_seenCell_59 : decode cX0_seenCell 59 = .ok (.ifCond .eq 10, 3) := by decide +kernel
theorem dX0_seenCell_62 : decode cX0_seenCell 62 = .ok (.bipush 7, 2) := by decide +kernel
theorem dX0_seenCell_64 : decode cX0_seenCell 64 = .ok (.iload_n 2, 1) := by decide +kernel
theorem dX0_seenCell_65 : decode cX0_seenCell 65 = .ok (.isub, 1) := by decide +kernel
theorem dX0_seenCell_66 : decode cX0_seenCell 66 = .ok (.goto 4, 3) := by decide +kernel
theorem dX0_seenCell_69 : decode cX0_seenCell 69 = .ok (.iload_n 2, 1) := by decide +kernel
theorem dX0_seenCell_70 : decode cX0_seenCell 70 = .ok (.invokestatic 35, 3) := by decide +kernel
theorem dX0_seenCell_73 : decode cX0_seenCell 73 = .ok (.ireturn, 1) := by decide +kernel
theorem dX0_showsHole_0 : decode cX0_showsHole 0 = .ok (.aload_n 0, 1) := by decide +kernel
theorem dX0_showsHole_1 : decode cX0_showsHole 1 = .ok (.aload_n 0, 1) := by decide +kernel
theorem dX0_showsHole_2 : decode cX0_showsHole 2 = .ok (.invokevirtual 72, 3) := by decide +kernel
theorem dX0_showsHole_5 : decode cX0_showsHole 5 = .ok (.aload_n 0, 1) := by decide +kernel
theorem dX0_showsHole_6 : decode cX0_showsHole 6 = .ok (.iload_n 1, 1) := by decide +kernel
theorem dX0_showsHole_7 : decode cX0_showsHole 7 = .ok (.iload_n 2, 1) := by decide +kernel
theorem dX0_showsHole_8 : decode cX0_showsHole 8 = .ok (.invokevirtual 76, 3) := by decide +kernel
theorem dX0_showsHole_11 : decode cX0_showsHole 11 = .ok (.invokevirtual 79, 3) := by decide +kernel
theorem dX0_showsHole_14 : decode cX0_showsHole 14 = .ok (.ireturn, 1) := by decide +kernel
theorem dX0_rawNumber_0 : decode cX0_rawNumber 0 = .ok (.iconst 0, 1) := by decide +kernel
theorem dX0_rawNumber_1 : decode cX0_rawNumber 1 = .ok (.istore_n 2, 1) := by decide +kernel
theorem dX0_rawNumber_2 : decode cX0_rawNumber 2 = .ok (.iconst 0, 1) := by decide +kernel
theorem dX0_rawNumber_3 : decode cX0_rawNumber 3 = .ok (.istore_n 3, 1) := by decide +kernel
theorem dX0_rawNumber_4 : decode cX0_rawNumber 4 = .ok (.iload_n 3, 1) := by decide +kernel
theorem dX0_rawNumber_5 : decode cX0_rawNumber 5 = .ok (.bipush 8, 2) := by decide +kernel
theorem dX0_rawNumber_7 : decode cX0_rawNumber 7 = .ok (.if_icmp .ge 28, 3) := by decide +kernel
theorem dX0_rawNumber_10 : decode cX0_rawNumber 10 = .ok (.iconst 2, 1) := by decide +kernel
theorem dX0_rawNumber_11 : decode cX0_rawNumber 11 = .ok (.iload_n 2, 1) := by decide +kernel
theorem dX0_rawNumber_12 : decode cX0_rawNumber 12 = .ok (.imul, 1) := by decide +kernel
theorem dX0_rawNumber_13 : decode cX0_rawNumber 13 = .ok (.aload_n 0, 1) := by decide +kernel
theorem dX0_rawNumber_14 : decode cX0_rawNumber 14 = .ok (.iload_n 1, 1) := by decide +kernel
theorem dX0_rawNumber_15 : decode cX0_rawNumber 15 = .ok (.iload_n 3, 1) := by decide +kernel
theorem dX0_rawNumber_16 : decode cX0_rawNumber 16 = .ok (.invokevirtual 83, 3) := by decide +kernel
theorem dX0_rawNumber_19 : decode cX0_rawNumber 19 = .ok (.ifCond .eq 7, 3) := by decide +kernel
theorem dX0_rawNumber_22 : decode cX0_rawNumber 22 = .ok (.iconst 1, 1) := by decide +kernel
theorem dX0_rawNumber_23 : decode cX0_rawNumber 23 = .ok (.goto 4, 3) := by decide +kernel
theorem dX0_rawNumber_26 : decode cX0_rawNumber 26 = .ok (.iconst 0, 1) := by decide +kernel
theorem dX0_rawNumber_27 : decode cX0_rawNumber 27 = .ok (.iadd, 1) := by decide +kernel
theorem dX0_rawNumber_28 : decode cX0_rawNumber 28 = .ok (.istore_n 2, 1) := by decide +kernel
theorem dX0_rawNumber_29 : decode cX0_rawNumber 29 = .ok (.iinc 3 1, 3) := by decide +kernel
theorem dX0_rawNumber_32 : decode cX0_rawNumber 32 = .ok (.goto (-28), 3) := by decide +kernel
theorem dX0_rawNumber_35 : decode cX0_rawNumber 35 = .ok (.iload_n 2, 1) := by decide +kernel
theorem dX0_rawNumber_36 : decode cX0_rawNumber 36 = .ok (.ireturn, 1) := by decide +kernel
theorem dX1_init_0 : decode cX1_init 0 = .ok (.aload_n 0, 1) := by decide +kernel
theorem dX1_init_1 : decode cX1_init 1 = .ok (.invokespecial 3, 3) := by decide +kernel
theorem dX1_init_4 : decode cX1_init 4 = .ok (.aload_n 0, 1) := by decide +kernel
theorem dX1_init_5 : decode cX1_init 5 = .ok (.bipush 18, 2) := by decide +kernel
theorem dX1_init_7 : decode cX1_init 7 = .ok (.anewarray 9, 3) := by decide +kernel
theorem dX1_init_10 : decode cX1_init 10 = .ok (.putfield 11, 3) := by decide +kernel
theorem dX1_init_13 : decode cX1_init 13 = .ok (.iconst 0, 1) := by decide +kernel
theorem dX1_init_14 : decode cX1_init 14 = .ok (.istore_n 1, 1) := by decide +kernel
theorem dX1_init_15 : decode cX1_init 15 = .ok (.iload_n 1, 1) := by decide +kernel
theorem dX1_init_16 : decode cX1_init 16 = .ok (.aload_n 0, 1) := by decide +kernel
theorem dX1_init_17 : decode cX1_init 17 = .ok (.getfield 11, 3) := by decide +kernel
theorem dX1_init_20 : decode cX1_init 20 = .ok (.arraylength, 1) := by decide +kernel
theorem dX1_init_21 : decode cX1_init 21 = .ok (.if_icmp .ge 22, 3) := by decide +kernel
theorem dX1_init_24 : decode cX1_init 24 = .ok (.aload_n 0, 1) := by decide +kernel
theorem dX1_init_25 : decode cX1_init 25 = .ok (.getfield 11, 3) := by decide +kernel
theorem dX1_init_28 : decode cX1_init 28 = .ok (.iload_n 1, 1) := by decide +kernel
theorem dX1_init_29 : decode cX1_init 29 = .ok (.new 9, 3) := by decide +kernel
theorem dX1_init_32 : decode cX1_init 32 = .ok (.dup, 1) := by decide +kernel
theorem dX1_init_33 : decode cX1_init 33 = .ok (.invokespecial 17, 3) := by decide +kernel
theorem dX1_init_36 : decode cX1_init 36 = .ok (.aastore, 1) := by decide +kernel
theorem dX1_init_37 : decode cX1_init 37 = .ok (.iinc 1 1, 3) := by decide +kernel
theorem dX1_init_40 : decode cX1_init 40 = .ok (.goto (-25), 3) := by decide +kernel
theorem dX1_init_43 : decode cX1_init 43 = .ok (.aload_n 0, 1) := by decide +kernel
theorem dX1_init_44 : decode cX1_init 44 = .ok (.iconst 0, 1) := by decide +kernel
theorem dX1_init_45 : decode cX1_init 45 = .ok (.putfield 18, 3) := by decide +kernel
theorem dX1_init_48 : decode cX1_init 48 = .ok (.return_, 1) := by decide +kernel
theorem dX1_save_0 : decode cX1_save 0 = .ok (.aload_n 0, 1) := by decide +kernel
theorem dX1_save_1 : decode cX1_save 1 = .ok (.getfield 18, 3) := by decide +kernel
theorem dX1_save_4 : decode cX1_save 4 = .ok (.bipush 6, 2) := by decide +kernel
theorem dX1_save_6 : decode cX1_save 6 = .ok (.if_icmp .lt 7, 3) := by decide +kernel
theorem dX1_save_9 : decode cX1_save 9 = .ok (.aload_n 0, 1) := by decide +kernel
theorem dX1_save_10 : decode cX1_save 10 = .ok (.invokevirtual 22, 3) := by decide +kernel
theorem dX1_save_13 : decode cX1_save 13 = .ok (.aload_n 0, 1) := by decide +kernel
theorem dX1_save_14 : decode cX1_save 14 = .ok (.getfield 18, 3) := by decide +kernel
theorem dX1_save_17 : decode cX1_save 17 = .ok (.iconst 3, 1) := by decide +kernel
theorem dX1_save_18 : decode cX1_save 18 = .ok (.imul, 1) := by decide +kernel
theorem dX1_save_19 : decode cX1_save 19 = .ok (.istore_n 2, 1) := by decide +kernel
theorem dX1_save_20 : decode cX1_save 20 = .ok (.iconst 0, 1) := by decide +kernel
theorem dX1_save_21 : decode cX1_save 21 = .ok (.istore_n 3, 1) := by decide +kernel
theorem dX1_save_22 : decode cX1_save 22 = .ok (.iload_n 3, 1) := by decide +kernel
theorem dX1_save_23 : decode cX1_save 23 = .ok (.aload_n 1, 1) := by decide +kernel
theorem dX1_save_24 : decode cX1_save 24 = .ok (.arraylength, 1) := by decide +kernel
theorem dX1_save_25 : decode cX1_save 25 = .ok (.if_icmp .ge 34, 3) := by decide +kernel
theorem dX1_save_28 : decode cX1_save 28 = .ok (.iload_n 2, 1) := by decide +kernel
theorem dX1_save_29 : decode cX1_save 29 = .ok (.iload_n 3, 1) := by decide +kernel
theorem dX1_save_30 : decode cX1_save 30 = .ok (.iadd, 1) := by decide +kernel
theorem dX1_save_31 : decode cX1_save 31 = .ok (.aload_n 0, 1) := by decide +kernel
theorem dX1_save_32 : decode cX1_save 32 = .ok (.getfield 11, 3) := by decide +kernel
theorem dX1_save_35 : decode cX1_save 35 = .ok (.arraylength, 1) := by decide +kernel
theorem dX1_save_36 : decode cX1_save 36 = .ok (.if_icmp .ge 23, 3) := by decide +kernel
theorem dX1_save_39 : decode cX1_save 39 = .ok (.aload_n 0, 1) := by decide +kernel
theorem dX1_save_40 : decode cX1_save 40 = .ok (.getfield 11, 3) := by decide +kernel
theorem dX1_save_43 : decode cX1_save 43 = .ok (.iload_n 2, 1) := by decide +kernel
theorem dX1_save_44 : decode cX1_save 44 = .ok (.iload_n 3, 1) := by decide +kernel
theorem dX1_save_45 : decode cX1_save 45 = .ok (.iadd, 1) := by decide +kernel
theorem dX1_save_46 : decode cX1_save 46 = .ok (.aaload, 1) := by decide +kernel
theorem dX1_save_47 : decode cX1_save 47 = .ok (.aload_n 1, 1) := by decide +kernel
theorem dX1_save_48 : decode cX1_save 48 = .ok (.iload_n 3, 1) := by decide +kernel
theorem dX1_save_49 : decode cX1_save 49 = .ok (.aaload, 1) := by decide +kernel
theorem dX1_save_50 : decode cX1_save 50 = .ok (.invokevirtual 25, 3) := by decide +kernel
theorem dX1_save_53 : decode cX1_save 53 = .ok (.iinc 3 1, 3) := by decide +kernel
theorem dX1_save_56 : decode cX1_save 56 = .ok (.goto (-34), 3) := by decide +kernel
theorem dX1_save_59 : decode cX1_save 59 = .ok (.aload_n 0, 1) := by decide +kernel
theorem dX1_save_60 : decode cX1_save 60 = .ok (.dup, 1) := by decide +kernel
theorem dX1_save_61 : decode cX1_save 61 = .ok (.getfield 18, 3) := by decide +kernel
theorem dX1_save_64 : decode cX1_save 64 = .ok (.iconst 1, 1) := by decide +kernel
theorem dX1_save_65 : decode cX1_save 65 = .ok (.iadd, 1) := by decide +kernel
theorem dX1_save_66 : decode cX1_save 66 = .ok (.putfield 18, 3) := by decide +kernel
theorem dX1_save_69 : decode cX1_save 69 = .ok (.return_, 1) := by decide +kernel
theorem dX1_discardOldest_0 : decode cX1_discardOldest 0 = .ok (.iconst 0, 1) := by decide +kernel
theorem dX1_discardOldest_1 : decode cX1_discardOldest 1 = .ok (.istore_n 1, 1) := by decide +kernel
theorem dX1_discardOldest_2 : decode cX1_discardOldest 2 = .ok (.iload_n 1, 1) := by decide +kernel
theorem dX1_discardOldest_3 : decode cX1_discardOldest 3 = .ok (.iconst 3, 1) := by decide +kernel
theorem dX1_discardOldest_4 : decode cX1_discardOldest 4 = .ok (.iadd, 1) := by decide +kernel
theorem dX1_discardOldest_5 : decode cX1_discardOldest 5 = .ok (.aload_n 0, 1) := by decide +kernel
theorem dX1_discardOldest_6 : decode cX1_discardOldest 6 = .ok (.getfield 11, 3) := by decide +kernel
theorem dX1_discardOldest_9 : decode cX1_discardOldest 9 = .ok (.arraylength, 1) := by decide +kernel
theorem dX1_discardOldest_10 : decode cX1_discardOldest 10 = .ok (.if_icmp .ge 26, 3) := by decide +kernel
theorem dX1_discardOldest_13 : decode cX1_discardOldest 13 = .ok (.aload_n 0, 1) := by decide +kernel
theorem dX1_discardOldest_14 : decode cX1_discardOldest 14 = .ok (.getfield 11, 3) := by decide +kernel
theorem dX1_discardOldest_17 : decode cX1_discardOldest 17 = .ok (.iload_n 1, 1) := by decide +kernel
theorem dX1_discardOldest_18 : decode cX1_discardOldest 18 = .ok (.aaload, 1) := by decide +kernel
theorem dX1_discardOldest_19 : decode cX1_discardOldest 19 = .ok (.aload_n 0, 1) := by decide +kernel
theorem dX1_discardOldest_20 : decode cX1_discardOldest 20 = .ok (.getfield 11, 3) := by decide +kernel
theorem dX1_discardOldest_23 : decode cX1_discardOldest 23 = .ok (.iload_n 1, 1) := by decide +kernel
theorem dX1_discardOldest_24 : decode cX1_discardOldest 24 = .ok (.iconst 3, 1) := by decide +kernel
theorem dX1_discardOldest_25 : decode cX1_discardOldest 25 = .ok (.iadd, 1) := by decide +kernel
theorem dX1_discardOldest_26 : decode cX1_discardOldest 26 = .ok (.aaload, 1) := by decide +kernel
theorem dX1_discardOldest_27 : decode cX1_discardOldest 27 = .ok (.invokevirtual 25, 3) := by decide +kernel
theorem dX1_discardOldest_30 : decode cX1_discardOldest 30 = .ok (.iinc 1 1, 3) := by decide +kernel
theorem dX1_discardOldest_33 : decode cX1_discardOldest 33 = .ok (.goto (-31), 3) := by decide +kernel
theorem dX1_discardOldest_36 : decode cX1_discardOldest 36 = .ok (.aload_n 0, 1) := by decide +kernel
theorem dX1_discardOldest_37 : decode cX1_discardOldest 37 = .ok (.dup, 1) := by decide +kernel
theorem dX1_discardOldest_38 : decode cX1_discardOldest 38 = .ok (.getfield 18, 3) := by decide +kernel
theorem dX1_discardOldest_41 : decode cX1_discardOldest 41 = .ok (.iconst 1, 1) := by decide +kernel
theorem dX1_discardOldest_42 : decode cX1_discardOldest 42 = .ok (.isub, 1) := by decide +kernel
theorem dX1_discardOldest_43 : decode cX1_discardOldest 43 = .ok (.putfield 18, 3) := by decide +kernel
theorem dX1_discardOldest_46 : decode cX1_discardOldest 46 = .ok (.return_, 1) := by decide +kernel
theorem dX1_restores_0 : decode cX1_restores 0 = .ok (.aload_n 0, 1) := by decide +kernel
theorem dX1_restores_1 : decode cX1_restores 1 = .ok (.getfield 18, 3) := by decide +kernel
theorem dX1_restores_4 : decode cX1_restores 4 = .ok (.ifCond .gt 5, 3) := by decide +kernel
theorem dX1_restores_7 : decode cX1_restores 7 = .ok (.iconst 0, 1) := by decide +kernel
theorem dX1_restores_8 : decode cX1_restores 8 = .ok (.ireturn, 1) := by decide +kernel
theorem dX1_restores_9 : decode cX1_restores 9 = .ok (.aload_n 0, 1) := by decide +kernel
theorem dX1_restores_10 : decode cX1_restores 10 = .ok (.dup, 1) := by decide +kernel
theorem dX1_restores_11 : decode cX1_restores 11 = .ok (.getfield 18, 3) := by decide +kernel
theorem dX1_restores_14 : decode cX1_restores 14 = .ok (.iconst 1, 1) := by decide +kernel
theorem dX1_restores_15 : decode cX1_restores 15 = .ok (.isub, 1) := by decide +kernel
theorem dX1_restores_16 : decode cX1_restores 16 = .ok (.putfield 18, 3) := by decide +kernel
theorem dX1_restores_19 : decode cX1_restores 19 = .ok (.aload_n 0, 1) := by decide +kernel
theorem dX1_restores_20 : decode cX1_restores 20 = .ok (.getfield 18, 3) := by decide +kernel
theorem dX1_restores_23 : decode cX1_restores 23 = .ok (.iconst 3, 1) := by decide +kernel
theorem dX1_restores_24 : decode cX1_restores 24 = .ok (.imul, 1) := by decide +kernel
theorem dX1_restores_25 : decode cX1_restores 25 = .ok (.istore_n 2, 1) := by decide +kernel
theorem dX1_restores_26 : decode cX1_restores 26 = .ok (.iconst 0, 1) := by decide +kernel
theorem dX1_restores_27 : decode cX1_restores 27 = .ok (.istore_n 3, 1) := by decide +kernel
theorem dX1_restores_28 : decode cX1_restores 28 = .ok (.iload_n 3, 1) := by decide +kernel
theorem dX1_restores_29 : decode cX1_restores 29 = .ok (.aload_n 1, 1) := by decide +kernel
theorem dX1_restores_30 : decode cX1_restores 30 = .ok (.arraylength, 1) := by decide +kernel
theorem dX1_restores_31 : decode cX1_restores 31 = .ok (.if_icmp .ge 34, 3) := by decide +kernel
theorem dX1_restores_34 : decode cX1_restores 34 = .ok (.iload_n 2, 1) := by decide +kernel
theorem dX1_restores_35 : decode cX1_restores 35 = .ok (.iload_n 3, 1) := by decide +kernel
theorem dX1_restores_36 : decode cX1_restores 36 = .ok (.iadd, 1) := by decide +kernel
theorem dX1_restores_37 : decode cX1_restores 37 = .ok (.aload_n 0, 1) := by decide +kernel
theorem dX1_restores_38 : decode cX1_restores 38 = .ok (.getfield 11, 3) := by decide +kernel
theorem dX1_restores_41 : decode cX1_restores 41 = .ok (.arraylength, 1) := by decide +kernel
theorem dX1_restores_42 : decode cX1_restores 42 = .ok (.if_icmp .ge 23, 3) := by decide +kernel
theorem dX1_restores_45 : decode cX1_restores 45 = .ok (.aload_n 1, 1) := by decide +kernel
theorem dX1_restores_46 : decode cX1_restores 46 = .ok (.iload_n 3, 1) := by decide +kernel
theorem dX1_restores_47 : decode cX1_restores 47 = .ok (.aaload, 1) := by decide +kernel
theorem dX1_restores_48 : decode cX1_restores 48 = .ok (.aload_n 0, 1) := by decide +kernel
theorem dX1_restores_49 : decode cX1_restores 49 = .ok (.getfield 11, 3) := by decide +kernel
theorem dX1_restores_52 : decode cX1_restores 52 = .ok (.iload_n 2, 1) := by decide +kernel
theorem dX1_restores_53 : decode cX1_restores 53 = .ok (.iload_n 3, 1) := by decide +kernel
theorem dX1_restores_54 : decode cX1_restores 54 = .ok (.iadd, 1) := by decide +kernel
theorem dX1_restores_55 : decode cX1_restores 55 = .ok (.aaload, 1) := by decide +kernel
theorem dX1_restores_56 : decode cX1_restores 56 = .ok (.invokevirtual 25, 3) := by decide +kernel
theorem dX1_restores_59 : decode cX1_restores 59 = .ok (.iinc 3 1, 3) := by decide +kernel
theorem dX1_restores_62 : decode cX1_restores 62 = .ok (.goto (-34), 3) := by decide +kernel
theorem dX1_restores_65 : decode cX1_restores 65 = .ok (.iconst 1, 1) := by decide +kernel
theorem dX1_restores_66 : decode cX1_restores 66 = .ok (.ireturn, 1) := by decide +kernel
theorem dX2_init_0 : decode cX2_init 0 = .ok (.aload_n 0, 1) := by decide +kernel
theorem dX2_init_1 : decode cX2_init 1 = .ok (.invokespecial 3, 3) := by decide +kernel
theorem dX2_init_4 : decode cX2_init 4 = .ok (.return_, 1) := by decide +kernel
theorem dX3_init_0 : decode cX3_init 0 = .ok (.aload_n 0, 1) := by decide +kernel
theorem dX3_init_1 : decode cX3_init 1 = .ok (.invokespecial 3, 3) := by decide +kernel
theorem dX3_init_4 : decode cX3_init 4 = .ok (.return_, 1) := by decide +kernel
theorem dX3_findAll_0 : decode cX3_findAll 0 = .ok (.aload_n 0, 1) := by decide +kernel
theorem dX3_findAll_1 : decode cX3_findAll 1 = .ok (.lload_n 1, 1) := by decide +kernel
theorem dX3_findAll_2 : decode cX3_findAll 2 = .ok (.putfield 9, 3) := by decide +kernel
theorem dX3_findAll_5 : decode cX3_findAll 5 = .ok (.aload_n 0, 1) := by decide +kernel
theorem dX3_findAll_6 : decode cX3_findAll 6 = .ok (.lload_n 3, 1) := by decide +kernel
theorem dX3_findAll_7 : decode cX3_findAll 7 = .ok (.putfield 15, 3) := by decide +kernel
theorem dX3_findAll_10 : decode cX3_findAll 10 = .ok (.iconst 0, 1) := by decide +kernel
theorem dX3_findAll_11 : decode cX3_findAll 11 = .ok (.istore 5, 2) := by decide +kernel
theorem dX3_findAll_13 : decode cX3_findAll 13 = .ok (.iload 5, 2) := by decide +kernel
theorem dX3_findAll_15 : decode cX3_findAll 15 = .ok (.bipush 64, 2) := by decide +kernel
theorem dX3_findAll_17 : decode cX3_findAll 17 = .ok (.if_icmp .gt 76, 3) := by decide +kernel
theorem dX3_findAll_20 : decode cX3_findAll 20 = .ok (.aload_n 0, 1) := by decide +kernel
theorem dX3_findAll_21 : decode cX3_findAll 21 = .ok (.getfield 9, 3) := by decide +kernel
theorem dX3_findAll_24 : decode cX3_findAll 24 = .ok (.lstore 6, 2) := by decide +kernel
theorem dX3_findAll_26 : decode cX3_findAll 26 = .ok (.iconst 0, 1) := by decide +kernel
theorem dX3_findAll_27 : decode cX3_findAll 27 = .ok (.istore 8, 2) := by decide +kernel
theorem dX3_findAll_29 : decode cX3_findAll 29 = .ok (.iload 8, 2) := by decide +kernel
theorem dX3_findAll_31 : decode cX3_findAll 31 = .ok (.bipush 8, 2) := by decide +kernel
theorem dX3_findAll_33 : decode cX3_findAll 33 = .ok (.if_icmp .ge 18, 3) := by decide +kernel
theorem dX3_findAll_36 : decode cX3_findAll 36 = .ok (.aload_n 0, 1) := by decide +kernel
theorem dX3_findAll_37 : decode cX3_findAll 37 = .ok (.iload 8, 2) := by decide +kernel
theorem dX3_findAll_39 : decode cX3_findAll 39 = .ok (.invokestatic 18, 3) := by decide +kernel
theorem dX3_findAll_42 : decode cX3_findAll 42 = .ok (.invokevirtual 22, 3) := by decide +kernel
theorem dX3_findAll_45 : decode cX3_findAll 45 = .ok (.iinc 8 1, 3) := by decide +kernel
theorem dX3_findAll_48 : decode cX3_findAll 48 = .ok (.goto (-19), 3) := by decide +kernel
theorem dX3_findAll_51 : decode cX3_findAll 51 = .ok (.iconst 0, 1) := by decide +kernel
theorem dX3_findAll_52 : decode cX3_findAll 52 = .ok (.istore 8, 2) := by decide +kernel
theorem dX3_findAll_54 : decode cX3_findAll 54 = .ok (.iload 8, 2) := by decide +kernel
theorem dX3_findAll_56 : decode cX3_findAll 56 = .ok (.bipush 8, 2) := by decide +kernel
theorem dX3_findAll_58 : decode cX3_findAll 58 = .ok (.if_icmp .ge 18, 3) := by decide +kernel
theorem dX3_findAll_61 : decode cX3_findAll 61 = .ok (.aload_n 0, 1) := by decide +kernel
theorem dX3_findAll_62 : decode cX3_findAll 62 = .ok (.iload 8, 2) := by decide +kernel
theorem dX3_findAll_64 : decode cX3_findAll 64 = .ok (.invokestatic 26, 3) := by decide +kernel
theorem dX3_findAll_67 : decode cX3_findAll 67 = .ok (.invokevirtual 22, 3) := by decide +kernel
theorem dX3_findAll_70 : decode cX3_findAll 70 = .ok (.iinc 8 1, 3) := by decide +kernel
theorem dX3_findAll_73 : decode cX3_findAll 73 = .ok (.goto (-19), 3) := by decide +kernel
theorem dX3_findAll_76 : decode cX3_findAll 76 = .ok (.aload_n 0, 1) := by decide +kernel
theorem dX3_findAll_77 : decode cX3_findAll 77 = .ok (.getfield 9, 3) := by decide +kernel
theorem dX3_findAll_80 : decode cX3_findAll 80 = .ok (.lload 6, 2) := by decide +kernel
theorem dX3_findAll_82 : decode cX3_findAll 82 = .ok (.lcmp, 1) := by decide +kernel
theorem dX3_findAll_83 : decode cX3_findAll 83 = .ok (.ifCond .ne 4, 3) := by decide +kernel
theorem dX3_findAll_86 : decode cX3_findAll 86 = .ok (.return_, 1) := by decide +kernel
theorem dX3_findAll_87 : decode cX3_findAll 87 = .ok (.iinc 5 1, 3) := by decide +kernel
theorem dX3_findAll_90 : decode cX3_findAll 90 = .ok (.goto (-77), 3) := by decide +kernel
theorem dX3_findAll_93 : decode cX3_findAll 93 = .ok (.return_, 1) := by decide +kernel
theorem dX3_tellLastOf_0 : decode cX3_tellLastOf 0 = .ok (.lload_n 1, 1) := by decide +kernel
theorem dX3_tellLastOf_1 : decode cX3_tellLastOf 1 = .ok (.aload_n 0, 1) := by decide +kernel
theorem dX3_tellLastOf_2 : decode cX3_tellLastOf 2 = .ok (.getfield 9, 3) := by decide +kernel
theorem dX3_tellLastOf_5 : decode cX3_tellLastOf 5 = .ok (.ldc2_w 29, 3) := by decide +kernel
theorem dX3_tellLastOf_8 : decode cX3_tellLastOf 8 = .ok (.lxor, 1) := by decide +kernel
theorem dX3_tellLastOf_9 : decode cX3_tellLastOf 9 = .ok (.land, 1) := by decide +kernel
theorem dX3_tellLastOf_10 : decode cX3_tellLastOf 10 = .ok (.lstore_n 3, 1) := by decide +kernel
theorem dX3_tellLastOf_11 : decode cX3_tellLastOf 11 = .ok (.lload_n 3, 1) := by decide +kernel
theorem dX3_tellLastOf_12 : decode cX3_tellLastOf 12 = .ok (.invokestatic 31, 3) := by decide +kernel
theorem dX3_tellLastOf_15 : decode cX3_tellLastOf 15 = .ok (.iconst 1, 1) := by decide +kernel
theorem dX3_tellLastOf_16 : decode cX3_tellLastOf 16 = .ok (.if_icmp .eq 4, 3) := by decide +kernel
theorem dX3_tellLastOf_19 : decode cX3_tellLastOf 19 = .ok (.return_, 1) := by decide +kernel
theorem dX3_tellLastOf_20 : decode cX3_tellLastOf 20 = .ok (.lload_n 1, 1) := by decide +kernel
theorem dX3_tellLastOf_21 : decode cX3_tellLastOf 21 = .ok (.aload_n 0, 1) := by decide +kernel
theorem dX3_tellLastOf_22 : decode cX3_tellLastOf 22 = .ok (.getfield 15, 3) := by decide +kernel
theorem dX3_tellLastOf_25 : decode cX3_tellLastOf 25 = .ok (.land, 1) := by decide +kernel
theorem dX3_tellLastOf_26 : decode cX3_tellLastOf 26 = .ok (.invokestatic 37, 3) := by decide +kernel
theorem dX3_tellLastOf_29 : decode cX3_tellLastOf 29 = .ok (.ifCond .eq 13, 3) := by decide +kernel
theorem dX3_tellLastOf_32 : decode cX3_tellLastOf 32 = .ok (.aload_n 0, 1) := by decide +kernel
theorem dX3_tellLastOf_33 : decode cX3_tellLastOf 33 = .ok (.dup, 1) := by decide +kernel
theorem dX3_tellLastOf_34 : decode cX3_tellLastOf 34 = .ok (.getfield 15, 3) := by decide +kernel
theorem dX3_tellLastOf_37 : decode cX3_tellLastOf 37 = .ok (.lload_n 3, 1) := by decide +kernel
theorem dX3_tellLastOf_38 : decode cX3_tellLastOf 38 = .ok (.lor, 1) := by decide +kernel
theorem dX3_tellLastOf_39 : decode cX3_tellLastOf 39 = .ok (.putfield 15, 3) := by decide +kernel
theorem dX3_tellLastOf_42 : decode cX3_tellLastOf 42 = .ok (.aload_n 0, 1) := by decide +kernel
theorem dX3_tellLastOf_43 : decode cX3_tellLastOf 43 = .ok (.dup, 1) := by decide +kernel
theorem dX3_tellLastOf_44 : decode cX3_tellLastOf 44 = .ok (.getfield 9, 3) := by decide +kernel
theorem dX3_tellLastOf_47 : decode cX3_tellLastOf 47 = .ok (.lload_n 3, 1) := by decide +kernel
theorem dX3_tellLastOf_48 : decode cX3_tellLastOf 48 = .ok (.lor, 1) := by decide +kernel
theorem dX3_tellLastOf_49 : decode cX3_tellLastOf 49 = .ok (.putfield 9, 3) := by decide +kernel
theorem dX3_tellLastOf_52 : decode cX3_tellLastOf 52 = .ok (.return_, 1) := by decide +kernel
theorem dX3_unknownCells_0 : decode cX3_unknownCells 0 = .ok (.aload_n 0, 1) := by decide +kernel
theorem dX3_unknownCells_1 : decode cX3_unknownCells 1 = .ok (.getfield 9, 3) := by decide +kernel
theorem dX3_unknownCells_4 : decode cX3_unknownCells 4 = .ok (.ldc2_w 29, 3) := by decide +kernel
theorem dX3_unknownCells_7 : decode cX3_unknownCells 7 = .ok (.lxor, 1) := by decide +kernel
theorem dX3_unknownCells_8 : decode cX3_unknownCells 8 = .ok (.invokestatic 31, 3) := by decide +kernel
theorem dX3_unknownCells_11 : decode cX3_unknownCells 11 = .ok (.ireturn, 1) := by decide +kernel
theorem dX3_bitAt_0 : decode cX3_bitAt 0 = .ok (.aload_n 0, 1) := by decide +kernel
theorem dX3_bitAt_1 : decode cX3_bitAt 1 = .ok (.getfield 9, 3) := by decide +kernel
theorem dX3_bitAt_4 : decode cX3_bitAt 4 = .ok (.iload_n 1, 1) := by decide +kernel
theorem dX3_bitAt_5 : decode cX3_bitAt 5 = .ok (.invokestatic 41, 3) := by decide +kernel
theorem dX3_bitAt_8 : decode cX3_bitAt 8 = .ok (.ifCond .ne 5, 3) := by decide +kernel
theorem dX3_bitAt_11 : decode cX3_bitAt 11 = .ok (.iconst (-1), 1) := by decide +kernel
theorem dX3_bitAt_12 : decode cX3_bitAt 12 = .ok (.ireturn, 1) := by decide +kernel
theorem dX3_bitAt_13 : decode cX3_bitAt 13 = .ok (.aload_n 0, 1) := by decide +kernel
theorem dX3_bitAt_14 : decode cX3_bitAt 14 = .ok (.getfield 15, 3) := by decide +kernel
theorem dX3_bitAt_17 : decode cX3_bitAt 17 = .ok (.iload_n 1, 1) := by decide +kernel
theorem dX3_bitAt_18 : decode cX3_bitAt 18 = .ok (.invokestatic 41, 3) := by decide +kernel
theorem dX3_bitAt_21 : decode cX3_bitAt 21 = .ok (.ifCond .eq 7, 3) := by decide +kernel
theorem dX3_bitAt_24 : decode cX3_bitAt 24 = .ok (.iconst 1, 1) := by decide +kernel
theorem dX3_bitAt_25 : decode cX3_bitAt 25 = .ok (.goto 4, 3) := by decide +kernel
theorem dX3_bitAt_28 : decode cX3_bitAt 28 = .ok (.iconst 0, 1) := by decide +kernel
theorem dX3_bitAt_29 : decode cX3_bitAt 29 = .ok (.ireturn, 1) := by decide +kernel
theorem dX3_disagrees_0 : decode cX3_disagrees 0 = .ok (.iload_n 1, 1) := by decide +kernel
theorem dX3_disagrees_1 : decode cX3_disagrees 1 = .ok (.bipush 8, 2) := by decide +kernel
theorem dX3_disagrees_3 : decode cX3_disagrees 3 = .ok (.if_icmp .ge 10, 3) := by decide +kernel
theorem dX3_disagrees_6 : decode cX3_disagrees 6 = .ok (.iload_n 1, 1) := by decide +kernel
theorem dX3_disagrees_7 : decode cX3_disagrees 7 = .ok (.invokestatic 18, 3) := by decide +kernel
theorem dX3_disagrees_10 : decode cX3_disagrees 10 = .ok (.goto 10, 3) := by decide +kernel
theorem dX3_disagrees_13 : decode cX3_disagrees 13 = .ok (.iload_n 1, 1) := by decide +kernel
theorem dX3_disagrees_14 : decode cX3_disagrees 14 = .ok (.bipush 8, 2) := by decide +kernel
theorem dX3_disagrees_16 : decode cX3_disagrees 16 = .ok (.isub, 1) := by decide +kernel
theorem dX3_disagrees_17 : decode cX3_disagrees 17 = .ok (.invokestatic 26, 3) := by decide +kernel
theorem dX3_disagrees_20 : decode cX3_disagrees 20 = .ok (.lstore_n 2, 1) := by decide +kernel
theorem dX3_disagrees_21 : decode cX3_disagrees 21 = .ok (.lload_n 2, 1) := by decide +kernel
theorem dX3_disagrees_22 : decode cX3_disagrees 22 = .ok (.aload_n 0, 1) := by decide +kernel
theorem dX3_disagrees_23 : decode cX3_disagrees 23 = .ok (.getfield 9, 3) := by decide +kernel
theorem dX3_disagrees_26 : decode cX3_disagrees 26 = .ok (.ldc2_w 29, 3) := by decide +kernel
theorem dX3_disagrees_29 : decode cX3_disagrees 29 = .ok (.lxor, 1) := by decide +kernel
theorem dX3_disagrees_30 : decode cX3_disagrees 30 = .ok (.land, 1) := by decide +kernel
theorem dX3_disagrees_31 : decode cX3_disagrees 31 = .ok (.lconst 0, 1) := by decide +kernel
theorem dX3_disagrees_32 : decode cX3_disagrees 32 = .ok (.lcmp, 1) := by decide +kernel
theorem dX3_disagrees_33 : decode cX3_disagrees 33 = .ok (.ifCond .ne 19, 3) := by decide +kernel
theorem dX3_disagrees_36 : decode cX3_disagrees 36 = .ok (.lload_n 2, 1) := by decide +kernel
theorem dX3_disagrees_37 : decode cX3_disagrees 37 = .ok (.aload_n 0, 1) := by decide +kernel
theorem dX3_disagrees_38 : decode cX3_disagrees 38 = .ok (.getfield 15, 3) := by decide +kernel
theorem dX3_disagrees_41 : decode cX3_disagrees 41 = .ok (.land, 1) := by decide +kernel
theorem dX3_disagrees_42 : decode cX3_disagrees 42 = .ok (.invokestatic 37, 3) := by decide +kernel
theorem dX3_disagrees_45 : decode cX3_disagrees 45 = .ok (.ifCond .eq 7, 3) := by decide +kernel
theorem dX3_disagrees_48 : decode cX3_disagrees 48 = .ok (.iconst 1, 1) := by decide +kernel
theorem dX3_disagrees_49 : decode cX3_disagrees 49 = .ok (.goto 4, 3) := by decide +kernel
theorem dX3_disagrees_52 : decode cX3_disagrees 52 = .ok (.iconst 0, 1) := by decide +kernel
theorem dX3_disagrees_53 : decode cX3_disagrees 53 = .ok (.ireturn, 1) := by decide +kernel
theorem dX3_disagreeingLines_0 : decode cX3_disagreeingLines 0 = .ok (.iconst 0, 1) := by decide +kernel
theorem dX3_disagreeingLines_1 : decode cX3_disagreeingLines 1 = .ok (.istore_n 1, 1) := by decide +kernel
theorem dX3_disagreeingLines_2 : decode cX3_disagreeingLines 2 = .ok (.iconst 0, 1) := by decide +kernel
theorem dX3_disagreeingLines_3 : decode cX3_disagreeingLines 3 = .ok (.istore_n 2, 1) := by decide +kernel
theorem dX3_disagreeingLines_4 : decode cX3_disagreeingLines 4 = .ok (.iload_n 2, 1) := by decide +kernel
theorem dX3_disagreeingLines_5 : decode cX3_disagreeingLines 5 = .ok (.bipush 16, 2) := by decide +kernel
theorem dX3_disagreeingLines_7 : decode cX3_disagreeingLines 7 = .ok (.if_icmp .ge 20, 3) := by decide +kernel
theorem dX3_disagreeingLines_10 : decode cX3_disagreeingLines 10 = .ok (.aload_n 0, 1) := by decide +kernel
theorem dX3_disagreeingLines_11 : decode cX3_disagreeingLines 11 = .ok (.iload_n 2, 1) := by decide +kernel
theorem dX3_disagreeingLines_12 : decode cX3_disagreeingLines 12 = .ok (.invokevirtual 45, 3) := by decide +kernel
theorem dX3_disagreeingLines_15 : decode cX3_disagreeingLines 15 = .ok (.ifCond .eq 6, 3) := by decide +kernel
theorem dX3_disagreeingLines_18 : decode cX3_disagreeingLines 18 = .ok (.iinc 1 1, 3) := by decide +kernel
theorem dX3_disagreeingLines_21 : decode cX3_disagreeingLines 21 = .ok (.iinc 2 1, 3) := by decide +kernel
theorem dX3_disagreeingLines_24 : decode cX3_disagreeingLines 24 = .ok (.goto (-20), 3) := by decide +kernel
theorem dX3_disagreeingLines_27 : decode cX3_disagreeingLines 27 = .ok (.iload_n 1, 1) := by decide +kernel
theorem dX3_disagreeingLines_28 : decode cX3_disagreeingLines 28 = .ok (.ireturn, 1) := by decide +kernel
theorem dX3_disagreeingLine_0 : decode cX3_disagreeingLine 0 = .ok (.iconst 0, 1) := by decide +kernel
theorem dX3_disagreeingLine_1 : decode cX3_disagreeingLine 1 = .ok (.istore_n 2, 1) := by decide +kernel
theorem dX3_disagreeingLine_2 : decode cX3_disagreeingLine 2 = .ok (.iconst 0, 1) := by decide +kernel
theorem dX3_disagreeingLine_3 : decode cX3_disagreeingLine 3 = .ok (.istore_n 3, 1) := by decide +kernel
theorem dX3_disagreeingLine_4 : decode cX3_disagreeingLine 4 = .ok (.iload_n 3, 1) := by decide +kernel
theorem dX3_disagreeingLine_5 : decode cX3_disagreeingLine 5 = .ok (.bipush 16, 2) := by decide +kernel
theorem dX3_disagreeingLine_7 : decode cX3_disagreeingLine 7 = .ok (.if_icmp .ge 27, 3) := by decide +kernel
theorem dX3_disagreeingLine_10 : decode cX3_disagreeingLine 10 = .ok (.aload_n 0, 1) := by decide +kernel
theorem dX3_disagreeingLine_11 : decode cX3_disagreeingLine 11 = .ok (.iload_n 3, 1) := by decide +kernel
theorem dX3_disagreeingLine_12 : decode cX3_disagreeingLine 12 = .ok (.invokevirtual 45, 3) := by decide +kernel
theorem dX3_disagreeingLine_15 : decode cX3_disagreeingLine 15 = .ok (.ifCond .eq 13, 3) := by decide +kernel
theorem dX3_disagreeingLine_18 : decode cX3_disagreeingLine 18 = .ok (.iload_n 2, 1) := by decide +kernel
theorem dX3_disagreeingLine_19 : decode cX3_disagreeingLine 19 = .ok (.iload_n 1, 1) := by decide +kernel
theorem dX3_disagreeingLine_20 : decode cX3_disagreeingLine 20 = .ok (.if_icmp .ne 5, 3) := by decide +kernel
theorem dX3_disagreeingLine_23 : decode cX3_disagreeingLine 23 = .ok (.iload_n 3, 1) := by decide +kernel
theorem dX3_disagreeingLine_24 : decode cX3_disagreeingLine 24 = .ok (.ireturn, 1) := by decide +kernel
theorem dX3_disagreeingLine_25 : decode cX3_disagreeingLine 25 = .ok (.iinc 2 1, 3) := by decide +kernel
theorem dX3_disagreeingLine_28 : decode cX3_disagreeingLine 28 = .ok (.iinc 3 1, 3) := by decide +kernel
theorem dX3_disagreeingLine_31 : decode cX3_disagreeingLine 31 = .ok (.goto (-27), 3) := by decide +kernel
theorem dX3_disagreeingLine_34 : decode cX3_disagreeingLine 34 = .ok (.iconst (-1), 1) := by decide +kernel
theorem dX3_disagreeingLine_35 : decode cX3_disagreeingLine 35 = .ok (.ireturn, 1) := by decide +kernel
theorem dX4_init_0 : decode cX4_init 0 = .ok (.aload_n 0, 1) := by decide +kernel
theorem dX4_init_1 : decode cX4_init 1 = .ok (.invokespecial 1, 3) := by decide +kernel
theorem dX4_init_4 : decode cX4_init 4 = .ok (.aload_n 0, 1) := by decide +kernel
theorem dX4_init_5 : decode cX4_init 5 = .ok (.iconst 3, 1) := by decide +kernel
theorem dX4_init_6 : decode cX4_init 6 = .ok (.anewarray 9, 3) := by decide +kernel
theorem dX4_init_9 : decode cX4_init 9 = .ok (.putfield 11, 3) := by decide +kernel
theorem dX4_init_12 : decode cX4_init 12 = .ok (.iconst 0, 1) := by decide +kernel
theorem dX4_init_13 : decode cX4_init 13 = .ok (.istore_n 1, 1) := by decide +kernel
theorem dX4_init_14 : decode cX4_init 14 = .ok (.iload_n 1, 1) := by decide +kernel
theorem dX4_init_15 : decode cX4_init 15 = .ok (.iconst 3, 1) := by decide +kernel
theorem dX4_init_16 : decode cX4_init 16 = .ok (.if_icmp .ge 22, 3) := by decide +kernel
theorem dX4_init_19 : decode cX4_init 19 = .ok (.aload_n 0, 1) := by decide +kernel
theorem dX4_init_20 : decode cX4_init 20 = .ok (.getfield 11, 3) := by decide +kernel
theorem dX4_init_23 : decode cX4_init 23 = .ok (.iload_n 1, 1) := by decide +kernel
theorem dX4_init_24 : decode cX4_init 24 = .ok (.new 9, 3) := by decide +kernel
theorem dX4_init_27 : decode cX4_init 27 = .ok (.dup, 1) := by decide +kernel
theorem dX4_init_28 : decode cX4_init 28 = .ok (.invokespecial 15, 3) := by decide +kernel
theorem dX4_init_31 : decode cX4_init 31 = .ok (.aastore, 1) := by decide +kernel
theorem dX4_init_32 : decode cX4_init 32 = .ok (.iinc 1 1, 3) := by decide +kernel
theorem dX4_init_35 : decode cX4_init 35 = .ok (.goto (-21), 3) := by decide +kernel
theorem dX4_init_38 : decode cX4_init 38 = .ok (.aload_n 0, 1) := by decide +kernel
theorem dX4_init_39 : decode cX4_init 39 = .ok (.new 16, 3) := by decide +kernel
theorem dX4_init_42 : decode cX4_init 42 = .ok (.dup, 1) := by decide +kernel
theorem dX4_init_43 : decode cX4_init 43 = .ok (.invokespecial 18, 3) := by decide +kernel
theorem dX4_init_46 : decode cX4_init 46 = .ok (.putfield 19, 3) := by decide +kernel
theorem dX4_init_49 : decode cX4_init 49 = .ok (.aload_n 0, 1) := by decide +kernel
theorem dX4_init_50 : decode cX4_init 50 = .ok (.new 16, 3) := by decide +kernel
theorem dX4_init_53 : decode cX4_init 53 = .ok (.dup, 1) := by decide +kernel
theorem dX4_init_54 : decode cX4_init 54 = .ok (.invokespecial 18, 3) := by decide +kernel
theorem dX4_init_57 : decode cX4_init 57 = .ok (.putfield 23, 3) := by decide +kernel
theorem dX4_init_60 : decode cX4_init 60 = .ok (.aload_n 0, 1) := by decide +kernel
theorem dX4_init_61 : decode cX4_init 61 = .ok (.new 26, 3) := by decide +kernel
theorem dX4_init_64 : decode cX4_init 64 = .ok (.dup, 1) := by decide +kernel
theorem dX4_init_65 : decode cX4_init 65 = .ok (.invokespecial 28, 3) := by decide +kernel
theorem dX4_init_68 : decode cX4_init 68 = .ok (.putfield 29, 3) := by decide +kernel
theorem dX4_init_71 : decode cX4_init 71 = .ok (.aload_n 0, 1) := by decide +kernel
theorem dX4_init_72 : decode cX4_init 72 = .ok (.new 33, 3) := by decide +kernel
theorem dX4_init_75 : decode cX4_init 75 = .ok (.dup, 1) := by decide +kernel
theorem dX4_init_76 : decode cX4_init 76 = .ok (.invokespecial 35, 3) := by decide +kernel
theorem dX4_init_79 : decode cX4_init 79 = .ok (.putfield 36, 3) := by decide +kernel
theorem dX4_init_82 : decode cX4_init 82 = .ok (.aload_n 0, 1) := by decide +kernel
theorem dX4_init_83 : decode cX4_init 83 = .ok (.new 40, 3) := by decide +kernel
theorem dX4_init_86 : decode cX4_init 86 = .ok (.dup, 1) := by decide +kernel
theorem dX4_init_87 : decode cX4_init 87 = .ok (.invokespecial 42, 3) := by decide +kernel
theorem dX4_init_90 : decode cX4_init 90 = .ok (.putfield 43, 3) := by decide +kernel
theorem dX4_init_93 : decode cX4_init 93 = .ok (.return_, 1) := by decide +kernel
theorem dX4_punch_0 : decode cX4_punch 0 = .ok (.aload_n 0, 1) := by decide +kernel
theorem dX4_punch_1 : decode cX4_punch 1 = .ok (.iload_n 1, 1) := by decide +kernel
theorem dX4_punch_2 : decode cX4_punch 2 = .ok (.invokevirtual 47, 3) := by decide +kernel
theorem dX4_punch_5 : decode cX4_punch 5 = .ok (.astore 4, 2) := by decide +kernel
theorem dX4_punch_7 : decode cX4_punch 7 = .ok (.iload_n 2, 1) := by decide +kernel
theorem dX4_punch_8 : decode cX4_punch 8 = .ok (.invokestatic 51, 3) := by decide +kernel
theorem dX4_punch_11 : decode cX4_punch 11 = .ok (.iload_n 3, 1) := by decide +kernel
theorem dX4_punch_12 : decode cX4_punch 12 = .ok (.ifCond .lt 9, 3) := by decide +kernel
theorem dX4_punch_15 : decode cX4_punch 15 = .ok (.iload_n 3, 1) := by decide +kernel
theorem dX4_punch_16 : decode cX4_punch 16 = .ok (.bipush 127, 2) := by decide +kernel
theorem dX4_punch_18 : decode cX4_punch 18 = .ok (.if_icmp .le 13, 3) := by decide +kernel
theorem dX4_punch_21 : decode cX4_punch 21 = .ok (.new 55, 3) := by decide +kernel
theorem dX4_punch_24 : decode cX4_punch 24 = .ok (.dup, 1) := by decide +kernel
theorem dX4_punch_25 : decode cX4_punch 25 = .ok (.ldc 57, 2) := by decide +kernel
theorem dX4_punch_27 : decode cX4_punch 27 = .ok (.invokespecial 59, 3) := by decide +kernel
theorem dX4_punch_30 : decode cX4_punch 30 = .ok (.athrow, 1) := by decide +kernel
theorem dX4_punch_31 : decode cX4_punch 31 = .ok (.aload 4, 2) := by decide +kernel
theorem dX4_punch_33 : decode cX4_punch 33 = .ok (.iload_n 2, 1) := by decide +kernel
theorem dX4_punch_34 : decode cX4_punch 34 = .ok (.invokevirtual 62, 3) := by decide +kernel
theorem dX4_punch_37 : decode cX4_punch 37 = .ok (.ifCond .ne 13, 3) := by decide +kernel
theorem dX4_punch_40 : decode cX4_punch 40 = .ok (.new 66, 3) := by decide +kernel
theorem dX4_punch_43 : decode cX4_punch 43 = .ok (.dup, 1) := by decide +kernel
theorem dX4_punch_44 : decode cX4_punch 44 = .ok (.ldc 68, 2) := by decide +kernel
theorem dX4_punch_46 : decode cX4_punch 46 = .ok (.invokespecial 70, 3) := by decide +kernel
theorem dX4_punch_49 : decode cX4_punch 49 = .ok (.athrow, 1) := by decide +kernel
theorem dX4_punch_50 : decode cX4_punch 50 = .ok (.aload_n 0, 1) := by decide +kernel
theorem dX4_punch_51 : decode cX4_punch 51 = .ok (.getfield 29, 3) := by decide +kernel
theorem dX4_punch_54 : decode cX4_punch 54 = .ok (.aload_n 0, 1) := by decide +kernel
theorem dX4_punch_55 : decode cX4_punch 55 = .ok (.getfield 11, 3) := by decide +kernel
theorem dX4_punch_58 : decode cX4_punch 58 = .ok (.invokevirtual 71, 3) := by decide +kernel
theorem dX4_punch_61 : decode cX4_punch 61 = .ok (.aload 4, 2) := by decide +kernel
theorem dX4_punch_63 : decode cX4_punch 63 = .ok (.iload_n 2, 1) := by decide +kernel
theorem dX4_punch_64 : decode cX4_punch 64 = .ok (.iload_n 3, 1) := by decide +kernel
theorem dX4_punch_65 : decode cX4_punch 65 = .ok (.invokevirtual 75, 3) := by decide +kernel
theorem dX4_punch_68 : decode cX4_punch 68 = .ok (.ireturn, 1) := by decide +kernel
theorem dX4_close_0 : decode cX4_close 0 = .ok (.aload_n 0, 1) := by decide +kernel
theorem dX4_close_1 : decode cX4_close 1 = .ok (.iload_n 1, 1) := by decide +kernel
theorem dX4_close_2 : decode cX4_close 2 = .ok (.invokevirtual 47, 3) := by decide +kernel
theorem dX4_close_5 : decode cX4_close 5 = .ok (.astore_n 2, 1) := by decide +kernel
theorem dX4_close_6 : decode cX4_close 6 = .ok (.aload_n 2, 1) := by decide +kernel
theorem dX4_close_7 : decode cX4_close 7 = .ok (.invokevirtual 79, 3) := by decide +kernel
theorem dX4_close_10 : decode cX4_close 10 = .ok (.ifCond .ne 13, 3) := by decide +kernel
theorem dX4_close_13 : decode cX4_close 13 = .ok (.new 66, 3) := by decide +kernel
theorem dX4_close_16 : decode cX4_close 16 = .ok (.dup, 1) := by decide +kernel
theorem dX4_close_17 : decode cX4_close 17 = .ok (.ldc 83, 2) := by decide +kernel
theorem dX4_close_19 : decode cX4_close 19 = .ok (.invokespecial 70, 3) := by decide +kernel
theorem dX4_close_22 : decode cX4_close 22 = .ok (.athrow, 1) := by decide +kernel
theorem dX4_close_23 : decode cX4_close 23 = .ok (.aload_n 0, 1) := by decide +kernel
theorem dX4_close_24 : decode cX4_close 24 = .ok (.getfield 29, 3) := by decide +kernel
theorem dX4_close_27 : decode cX4_close 27 = .ok (.aload_n 0, 1) := by decide +kernel
theorem dX4_close_28 : decode cX4_close 28 = .ok (.getfield 11, 3) := by decide +kernel
theorem dX4_close_31 : decode cX4_close 31 = .ok (.invokevirtual 71, 3) := by decide +kernel
theorem dX4_close_34 : decode cX4_close 34 = .ok (.aload_n 2, 1) := by decide +kernel
theorem dX4_close_35 : decode cX4_close 35 = .ok (.invokevirtual 85, 3) := by decide +kernel
theorem dX4_close_38 : decode cX4_close 38 = .ok (.ireturn, 1) := by decide +kernel
theorem dX4_renew_0 : decode cX4_renew 0 = .ok (.aload_n 0, 1) := by decide +kernel
theorem dX4_renew_1 : decode cX4_renew 1 = .ok (.iload_n 1, 1) := by decide +kernel
theorem dX4_renew_2 : decode cX4_renew 2 = .ok (.invokevirtual 47, 3) := by decide +kernel
theorem dX4_renew_5 : decode cX4_renew 5 = .ok (.astore_n 2, 1) := by decide +kernel
theorem dX4_renew_6 : decode cX4_renew 6 = .ok (.aload_n 0, 1) := by decide +kernel
theorem dX4_renew_7 : decode cX4_renew 7 = .ok (.getfield 29, 3) := by decide +kernel
theorem dX4_renew_10 : decode cX4_renew 10 = .ok (.aload_n 0, 1) := by decide +kernel
theorem dX4_renew_11 : decode cX4_renew 11 = .ok (.getfield 11, 3) := by decide +kernel
theorem dX4_renew_14 : decode cX4_renew 14 = .ok (.invokevirtual 71, 3) := by decide +kernel
theorem dX4_renew_17 : decode cX4_renew 17 = .ok (.aload_n 2, 1) := by decide +kernel
theorem dX4_renew_18 : decode cX4_renew 18 = .ok (.getfield 89, 3) := by decide +kernel
theorem dX4_renew_21 : decode cX4_renew 21 = .ok (.invokestatic 93, 3) := by decide +kernel
theorem dX4_renew_24 : decode cX4_renew 24 = .ok (.aload_n 2, 1) := by decide +kernel
theorem dX4_renew_25 : decode cX4_renew 25 = .ok (.getfield 99, 3) := by decide +kernel
theorem dX4_renew_28 : decode cX4_renew 28 = .ok (.invokestatic 93, 3) := by decide +kernel
theorem dX4_renew_31 : decode cX4_renew 31 = .ok (.iadd, 1) := by decide +kernel
theorem dX4_renew_32 : decode cX4_renew 32 = .ok (.istore_n 3, 1) := by decide +kernel
theorem dX4_renew_33 : decode cX4_renew 33 = .ok (.aload_n 2, 1) := by decide +kernel
theorem dX4_renew_34 : decode cX4_renew 34 = .ok (.invokevirtual 102, 3) := by decide +kernel
theorem dX4_renew_37 : decode cX4_renew 37 = .ok (.iload_n 3, 1) := by decide +kernel
theorem dX4_renew_38 : decode cX4_renew 38 = .ok (.ireturn, 1) := by decide +kernel
theorem dX4_copy_0 : decode cX4_copy 0 = .ok (.aload_n 0, 1) := by decide +kernel
theorem dX4_copy_1 : decode cX4_copy 1 = .ok (.iload_n 1, 1) := by decide +kernel
theorem dX4_copy_2 : decode cX4_copy 2 = .ok (.invokevirtual 47, 3) := by decide +kernel
theorem dX4_copy_5 : decode cX4_copy 5 = .ok (.astore_n 3, 1) := by decide +kernel
theorem dX4_copy_6 : decode cX4_copy 6 = .ok (.aload_n 0, 1) := by decide +kernel
theorem dX4_copy_7 : decode cX4_copy 7 = .ok (.iload_n 2, 1) := by decide +kernel
theorem dX4_copy_8 : decode cX4_copy 8 = .ok (.invokevirtual 47, 3) := by decide +kernel
theorem dX4_copy_11 : decode cX4_copy 11 = .ok (.astore 4, 2) := by decide +kernel
theorem dX4_copy_13 : decode cX4_copy 13 = .ok (.iload_n 1, 1) := by decide +kernel
theorem dX4_copy_14 : decode cX4_copy 14 = .ok (.iload_n 2, 1) := by decide +kernel
theorem dX4_copy_15 : decode cX4_copy 15 = .ok (.if_icmp .ne 13, 3) := by decide +kernel
theorem dX4_copy_18 : decode cX4_copy 18 = .ok (.new 55, 3) := by decide +kernel
theorem dX4_copy_21 : decode cX4_copy 21 = .ok (.dup, 1) := by decide +kernel
theorem dX4_copy_22 : decode cX4_copy 22 = .ok (.ldc 105, 2) := by decide +kernel
theorem dX4_copy_24 : decode cX4_copy 24 = .ok (.invokespecial 59, 3) := by decide +kernel
theorem dX4_copy_27 : decode cX4_copy 27 = .ok (.athrow, 1) := by decide +kernel
theorem dX4_copy_28 : decode cX4_copy 28 = .ok (.aload_n 0, 1) := by decide +kernel
theorem dX4_copy_29 : decode cX4_copy 29 = .ok (.getfield 29, 3) := by decide +kernel
theorem dX4_copy_32 : decode cX4_copy 32 = .ok (.aload_n 0, 1) := by decide +kernel
theorem dX4_copy_33 : decode cX4_copy 33 = .ok (.getfield 11, 3) := by decide +kernel
theorem dX4_copy_36 : decode cX4_copy 36 = .ok (.invokevirtual 71, 3) := by decide +kernel
theorem dX4_copy_39 : decode cX4_copy 39 = .ok (.aload_n 0, 1) := by decide +kernel
theorem dX4_copy_40 : decode cX4_copy 40 = .ok (.aload_n 3, 1) := by decide +kernel
theorem dX4_copy_41 : decode cX4_copy 41 = .ok (.invokevirtual 107, 3) := by decide +kernel
theorem dX4_copy_44 : decode cX4_copy 44 = .ok (.astore 5, 2) := by decide +kernel
theorem dX4_copy_46 : decode cX4_copy 46 = .ok (.aload 4, 2) := by decide +kernel
theorem dX4_copy_48 : decode cX4_copy 48 = .ok (.invokevirtual 102, 3) := by decide +kernel
theorem dX4_copy_51 : decode cX4_copy 51 = .ok (.aload 4, 2) := by decide +kernel
theorem dX4_copy_53 : decode cX4_copy 53 = .ok (.aload 5, 2) := by decide +kernel
theorem dX4_copy_55 : decode cX4_copy 55 = .ok (.getfield 111, 3) := by decide +kernel
theorem dX4_copy_58 : decode cX4_copy 58 = .ok (.putfield 89, 3) := by decide +kernel
theorem dX4_copy_61 : decode cX4_copy 61 = .ok (.aload 4, 2) := by decide +kernel
theorem dX4_copy_63 : decode cX4_copy 63 = .ok (.aload 5, 2) := by decide +kernel
theorem dX4_copy_65 : decode cX4_copy 65 = .ok (.getfield 114, 3) := by decide +kernel
theorem dX4_copy_68 : decode cX4_copy 68 = .ok (.aload 5, 2) := by decide +kernel
theorem dX4_copy_70 : decode cX4_copy 70 = .ok (.getfield 111, 3) := by decide +kernel
theorem dX4_copy_73 : decode cX4_copy 73 = .ok (.ldc2_w 117, 3) := by decide +kernel
theorem dX4_copy_76 : decode cX4_copy 76 = .ok (.lxor, 1) := by decide +kernel
theorem dX4_copy_77 : decode cX4_copy 77 = .ok (.land, 1) := by decide +kernel
theorem dX4_copy_78 : decode cX4_copy 78 = .ok (.putfield 99, 3) := by decide +kernel
theorem dX4_copy_81 : decode cX4_copy 81 = .ok (.aload 4, 2) := by decide +kernel
theorem dX4_copy_83 : decode cX4_copy 83 = .ok (.invokevirtual 119, 3) := by decide +kernel
theorem dX4_copy_86 : decode cX4_copy 86 = .ok (.invokestatic 93, 3) := by decide +kernel
theorem dX4_copy_89 : decode cX4_copy 89 = .ok (.ireturn, 1) := by decide +kernel
theorem dX4_wear_0 : decode cX4_wear 0 = .ok (.aload_n 0, 1) := by decide +kernel
theorem dX4_wear_1 : decode cX4_wear 1 = .ok (.iload_n 1, 1) := by decide +kernel
theorem dX4_wear_2 : decode cX4_wear 2 = .ok (.invokevirtual 47, 3) := by decide +kernel
theorem dX4_wear_5 : decode cX4_wear 5 = .ok (.astore 4, 2) := by decide +kernel
theorem dX4_wear_7 : decode cX4_wear 7 = .ok (.iload_n 2, 1) := by decide +kernel
theorem dX4_wear_8 : decode cX4_wear 8 = .ok (.iload_n 3, 1) := by decide +kernel
theorem dX4_wear_9 : decode cX4_wear 9 = .ok (.invokestatic 123, 3) := by decide +kernel
theorem dX4_wear_12 : decode cX4_wear 12 = .ok (.aload 4, 2) := by decide +kernel
theorem dX4_wear_14 : decode cX4_wear 14 = .ok (.iload_n 2, 1) := by decide +kernel
theorem dX4_wear_15 : decode cX4_wear 15 = .ok (.iload_n 3, 1) := by decide +kernel
theorem dX4_wear_16 : decode cX4_wear 16 = .ok (.invokevirtual 127, 3) := by decide +kernel
theorem dX4_wear_19 : decode cX4_wear 19 = .ok (.istore 5, 2) := by decide +kernel
theorem dX4_wear_21 : decode cX4_wear 21 = .ok (.aload 4, 2) := by decide +kernel
theorem dX4_wear_23 : decode cX4_wear 23 = .ok (.aload 4, 2) := by decide +kernel
theorem dX4_wear_25 : decode cX4_wear 25 = .ok (.invokevirtual 130, 3) := by decide +kernel
theorem dX4_wear_28 : decode cX4_wear 28 = .ok (.iload 5, 2) := by decide +kernel
theorem dX4_wear_30 : decode cX4_wear 30 = .ok (.invokevirtual 133, 3) := by decide +kernel
theorem dX4_wear_33 : decode cX4_wear 33 = .ok (.ifCond .eq 13, 3) := by decide +kernel
theorem dX4_wear_36 : decode cX4_wear 36 = .ok (.new 66, 3) := by decide +kernel
theorem dX4_wear_39 : decode cX4_wear 39 = .ok (.dup, 1) := by decide +kernel
theorem dX4_wear_40 : decode cX4_wear 40 = .ok (.ldc 137, 2) := by decide +kernel
theorem dX4_wear_42 : decode cX4_wear 42 = .ok (.invokespecial 70, 3) := by decide +kernel
theorem dX4_wear_45 : decode cX4_wear 45 = .ok (.athrow, 1) := by decide +kernel
theorem dX4_wear_46 : decode cX4_wear 46 = .ok (.aload_n 0, 1) := by decide +kernel
theorem dX4_wear_47 : decode cX4_wear 47 = .ok (.getfield 29, 3) := by decide +kernel
theorem dX4_wear_50 : decode cX4_wear 50 = .ok (.aload_n 0, 1) := by decide +kernel
theorem dX4_wear_51 : decode cX4_wear 51 = .ok (.getfield 11, 3) := by decide +kernel
theorem dX4_wear_54 : decode cX4_wear 54 = .ok (.invokevirtual 71, 3) := by decide +kernel
theorem dX4_wear_57 : decode cX4_wear 57 = .ok (.aload 4, 2) := by decide +kernel
theorem dX4_wear_59 : decode cX4_wear 59 = .ok (.aload 4, 2) := by decide +kernel
theorem dX4_wear_61 : decode cX4_wear 61 = .ok (.invokevirtual 130, 3) := by decide +kernel
theorem dX4_wear_64 : decode cX4_wear 64 = .ok (.iload 5, 2) := by decide +kernel
theorem dX4_wear_66 : decode cX4_wear 66 = .ok (.iconst 1, 1) := by decide +kernel
theorem dX4_wear_67 : decode cX4_wear 67 = .ok (.invokevirtual 139, 3) := by decide +kernel
theorem dX4_wear_70 : decode cX4_wear 70 = .ok (.aload 4, 2) := by decide +kernel
theorem dX4_wear_72 : decode cX4_wear 72 = .ok (.iload 5, 2) := by decide +kernel
theorem dX4_wear_74 : decode cX4_wear 74 = .ok (.invokevirtual 143, 3) := by decide +kernel
theorem dX4_wear_77 : decode cX4_wear 77 = .ok (.ireturn, 1) := by decide +kernel
theorem dX4_lose_0 : decode cX4_lose 0 = .ok (.aload_n 0, 1) := by decide +kernel
theorem dX4_lose_1 : decode cX4_lose 1 = .ok (.iload_n 1, 1) := by decide +kernel
theorem dX4_lose_2 : decode cX4_lose 2 = .ok (.invokevirtual 47, 3) := by decide +kernel
theorem dX4_lose_5 : decode cX4_lose 5 = .ok (.astore 4, 2) := by decide +kernel
theorem dX4_lose_7 : decode cX4_lose 7 = .ok (.iload_n 2, 1) := by decide +kernel
theorem dX4_lose_8 : decode cX4_lose 8 = .ok (.iload_n 3, 1) := by decide +kernel
theorem dX4_lose_9 : decode cX4_lose 9 = .ok (.invokestatic 123, 3) := by decide +kernel
theorem dX4_lose_12 : decode cX4_lose 12 = .ok (.aload 4, 2) := by decide +kernel
theorem dX4_lose_14 : decode cX4_lose 14 = .ok (.iload_n 2, 1) := by decide +kernel
theorem dX4_lose_15 : decode cX4_lose 15 = .ok (.iload_n 3, 1) := by decide +kernel
theorem dX4_lose_16 : decode cX4_lose 16 = .ok (.invokevirtual 127, 3) := by decide +kernel
theorem dX4_lose_19 : decode cX4_lose 19 = .ok (.istore 5, 2) := by decide +kernel
theorem dX4_lose_21 : decode cX4_lose 21 = .ok (.aload 4, 2) := by decide +kernel
theorem dX4_lose_23 : decode cX4_lose 23 = .ok (.aload 4, 2) := by decide +kernel
theorem dX4_lose_25 : decode cX4_lose 25 = .ok (.invokevirtual 130, 3) := by decide +kernel
theorem dX4_lose_28 : decode cX4_lose 28 = .ok (.iload 5, 2) := by decide +kernel
theorem dX4_lose_30 : decode cX4_lose 30 = .ok (.invokevirtual 133, 3) := by decide +kernel
theorem dX4_lose_33 : decode cX4_lose 33 = .ok (.ifCond .ne 13, 3) := by decide +kernel
theorem dX4_lose_36 : decode cX4_lose 36 = .ok (.new 66, 3) := by decide +kernel
theorem dX4_lose_39 : decode cX4_lose 39 = .ok (.dup, 1) := by decide +kernel
theorem dX4_lose_40 : decode cX4_lose 40 = .ok (.ldc 147, 2) := by decide +kernel
theorem dX4_lose_42 : decode cX4_lose 42 = .ok (.invokespecial 70, 3) := by decide +kernel
theorem dX4_lose_45 : decode cX4_lose 45 = .ok (.athrow, 1) := by decide +kernel
theorem dX4_lose_46 : decode cX4_lose 46 = .ok (.aload_n 0, 1) := by decide +kernel
theorem dX4_lose_47 : decode cX4_lose 47 = .ok (.getfield 29, 3) := by decide +kernel
theorem dX4_lose_50 : decode cX4_lose 50 = .ok (.aload_n 0, 1) := by decide +kernel
theorem dX4_lose_51 : decode cX4_lose 51 = .ok (.getfield 11, 3) := by decide +kernel
theorem dX4_lose_54 : decode cX4_lose 54 = .ok (.invokevirtual 71, 3) := by decide +kernel
theorem dX4_lose_57 : decode cX4_lose 57 = .ok (.aload 4, 2) := by decide +kernel
theorem dX4_lose_59 : decode cX4_lose 59 = .ok (.aload 4, 2) := by decide +kernel
theorem dX4_lose_61 : decode cX4_lose 61 = .ok (.invokevirtual 130, 3) := by decide +kernel
theorem dX4_lose_64 : decode cX4_lose 64 = .ok (.iload 5, 2) := by decide +kernel
theorem dX4_lose_66 : decode cX4_lose 66 = .ok (.iconst 0, 1) := by decide +kernel
theorem dX4_lose_67 : decode cX4_lose 67 = .ok (.invokevirtual 139, 3) := by decide +kernel
theorem dX4_lose_70 : decode cX4_lose 70 = .ok (.aload 4, 2) := by decide +kernel
theorem dX4_lose_72 : decode cX4_lose 72 = .ok (.iload 5, 2) := by decide +kernel
theorem dX4_lose_74 : decode cX4_lose 74 = .ok (.invokevirtual 143, 3) := by decide +kernel
theorem dX4_lose_77 : decode cX4_lose 77 = .ok (.ireturn, 1) := by decide +kernel
theorem dX4_turn_0 : decode cX4_turn 0 = .ok (.aload_n 0, 1) := by decide +kernel
theorem dX4_turn_1 : decode cX4_turn 1 = .ok (.iload_n 1, 1) := by decide +kernel
theorem dX4_turn_2 : decode cX4_turn 2 = .ok (.invokevirtual 47, 3) := by decide +kernel
theorem dX4_turn_5 : decode cX4_turn 5 = .ok (.astore_n 3, 1) := by decide +kernel
theorem dX4_turn_6 : decode cX4_turn 6 = .ok (.iload_n 2, 1) := by decide +kernel
theorem dX4_turn_7 : decode cX4_turn 7 = .ok (.ifCond .lt 8, 3) := by decide +kernel
theorem dX4_turn_10 : decode cX4_turn 10 = .ok (.iload_n 2, 1) := by decide +kernel
theorem dX4_turn_11 : decode cX4_turn 11 = .ok (.iconst 4, 1) := by decide +kernel
theorem dX4_turn_12 : decode cX4_turn 12 = .ok (.if_icmp .lt 13, 3) := by decide +kernel
theorem dX4_turn_15 : decode cX4_turn 15 = .ok (.new 55, 3) := by decide +kernel
theorem dX4_turn_18 : decode cX4_turn 18 = .ok (.dup, 1) := by decide +kernel
theorem dX4_turn_19 : decode cX4_turn 19 = .ok (.ldc 149, 2) := by decide +kernel
theorem dX4_turn_21 : decode cX4_turn 21 = .ok (.invokespecial 59, 3) := by decide +kernel
theorem dX4_turn_24 : decode cX4_turn 24 = .ok (.athrow, 1) := by decide +kernel
theorem dX4_turn_25 : decode cX4_turn 25 = .ok (.aload_n 0, 1) := by decide +kernel
theorem dX4_turn_26 : decode cX4_turn 26 = .ok (.getfield 29, 3) := by decide +kernel
theorem dX4_turn_29 : decode cX4_turn 29 = .ok (.aload_n 0, 1) := by decide +kernel
theorem dX4_turn_30 : decode cX4_turn 30 = .ok (.getfield 11, 3) := by decide +kernel
theorem dX4_turn_33 : decode cX4_turn 33 = .ok (.invokevirtual 71, 3) := by decide +kernel
theorem dX4_turn_36 : decode cX4_turn 36 = .ok (.aload_n 3, 1) := by decide +kernel
theorem dX4_turn_37 : decode cX4_turn 37 = .ok (.getfield 151, 3) := by decide +kernel
theorem dX4_turn_40 : decode cX4_turn 40 = .ok (.istore 4, 2) := by decide +kernel
theorem dX4_turn_42 : decode cX4_turn 42 = .ok (.aload_n 3, 1) := by decide +kernel
theorem dX4_turn_43 : decode cX4_turn 43 = .ok (.iload_n 2, 1) := by decide +kernel
theorem dX4_turn_44 : decode cX4_turn 44 = .ok (.putfield 151, 3) := by decide +kernel
theorem dX4_turn_47 : decode cX4_turn 47 = .ok (.iload 4, 2) := by decide +kernel
theorem dX4_turn_49 : decode cX4_turn 49 = .ok (.ireturn, 1) := by decide +kernel
theorem dX4_view_0 : decode cX4_view 0 = .ok (.aload_n 0, 1) := by decide +kernel
theorem dX4_view_1 : decode cX4_view 1 = .ok (.iload_n 1, 1) := by decide +kernel
theorem dX4_view_2 : decode cX4_view 2 = .ok (.invokevirtual 47, 3) := by decide +kernel
theorem dX4_view_5 : decode cX4_view 5 = .ok (.getfield 151, 3) := by decide +kernel
theorem dX4_view_8 : decode cX4_view 8 = .ok (.ireturn, 1) := by decide +kernel
theorem dX4_sees_0 : decode cX4_sees 0 = .ok (.aload_n 0, 1) := by decide +kernel
theorem dX4_sees_1 : decode cX4_sees 1 = .ok (.iload_n 1, 1) := by decide +kernel
theorem dX4_sees_2 : decode cX4_sees 2 = .ok (.invokevirtual 47, 3) := by decide +kernel
theorem dX4_sees_5 : decode cX4_sees 5 = .ok (.astore 4, 2) := by decide +kernel
theorem dX4_sees_7 : decode cX4_sees 7 = .ok (.iload_n 2, 1) := by decide +kernel
theorem dX4_sees_8 : decode cX4_sees 8 = .ok (.iload_n 3, 1) := by decide +kernel
theorem dX4_sees_9 : decode cX4_sees 9 = .ok (.invokestatic 123, 3) := by decide +kernel
theorem dX4_sees_12 : decode cX4_sees 12 = .ok (.aload 4, 2) := by decide +kernel
theorem dX4_sees_14 : decode cX4_sees 14 = .ok (.iload_n 2, 1) := by decide +kernel
theorem dX4_sees_15 : decode cX4_sees 15 = .ok (.iload_n 3, 1) := by decide +kernel
theorem dX4_sees_16 : decode cX4_sees 16 = .ok (.invokevirtual 155, 3) := by decide +kernel
theorem dX4_sees_19 : decode cX4_sees 19 = .ok (.ireturn, 1) := by decide +kernel
theorem dX4_raw_0 : decode cX4_raw 0 = .ok (.aload_n 0, 1) := by decide +kernel
theorem dX4_raw_1 : decode cX4_raw 1 = .ok (.iload_n 1, 1) := by decide +kernel
theorem dX4_raw_2 : decode cX4_raw 2 = .ok (.invokevirtual 47, 3) := by decide +kernel
theorem dX4_raw_5 : decode cX4_raw 5 = .ok (.astore_n 3, 1) := by decide +kernel
theorem dX4_raw_6 : decode cX4_raw 6 = .ok (.iload_n 2, 1) := by decide +kernel
theorem dX4_raw_7 : decode cX4_raw 7 = .ok (.invokestatic 159, 3) := by decide +kernel
theorem dX4_raw_10 : decode cX4_raw 10 = .ok (.aload_n 3, 1) := by decide +kernel
theorem dX4_raw_11 : decode cX4_raw 11 = .ok (.iload_n 2, 1) := by decide +kernel
theorem dX4_raw_12 : decode cX4_raw 12 = .ok (.invokevirtual 162, 3) := by decide +kernel
theorem dX4_raw_15 : decode cX4_raw 15 = .ok (.ireturn, 1) := by decide +kernel
theorem dX4_kind_0 : decode cX4_kind 0 = .ok (.aload_n 0, 1) := by decide +kernel
theorem dX4_kind_1 : decode cX4_kind 1 = .ok (.iload_n 1, 1) := by decide +kernel
theorem dX4_kind_2 : decode cX4_kind 2 = .ok (.invokevirtual 47, 3) := by decide +kernel
theorem dX4_kind_5 : decode cX4_kind 5 = .ok (.astore 4, 2) := by decide +kernel
theorem dX4_kind_7 : decode cX4_kind 7 = .ok (.iload_n 2, 1) := by decide +kernel
theorem dX4_kind_8 : decode cX4_kind 8 = .ok (.iload_n 3, 1) := by decide +kernel
theorem dX4_kind_9 : decode cX4_kind 9 = .ok (.invokestatic 123, 3) := by decide +kernel
theorem dX4_kind_12 : decode cX4_kind 12 = .ok (.aload 4, 2) := by decide +kernel
theorem dX4_kind_14 : decode cX4_kind 14 = .ok (.iload_n 2, 1) := by decide +kernel
theorem dX4_kind_15 : decode cX4_kind 15 = .ok (.iload_n 3, 1) := by decide +kernel
theorem dX4_kind_16 : decode cX4_kind 16 = .ok (.invokestatic 165, 3) := by decide +kernel
theorem dX4_kind_19 : decode cX4_kind 19 = .ok (.invokevirtual 143, 3) := by decide +kernel
theorem dX4_kind_22 : decode cX4_kind 22 = .ok (.ireturn, 1) := by decide +kernel
theorem dX4_told_0 : decode cX4_told 0 = .ok (.aload_n 0, 1) := by decide +kernel
theorem dX4_told_1 : decode cX4_told 1 = .ok (.iload_n 1, 1) := by decide +kernel
theorem dX4_told_2 : decode cX4_told 2 = .ok (.invokevirtual 47, 3) := by decide +kernel
theorem dX4_told_5 : decode cX4_told 5 = .ok (.astore 4, 2) := by decide +kernel
theorem dX4_told_7 : decode cX4_told 7 = .ok (.iload_n 2, 1) := by decide +kernel
theorem dX4_told_8 : decode cX4_told 8 = .ok (.iload_n 3, 1) := by decide +kernel
theorem dX4_told_9 : decode cX4_told 9 = .ok (.invokestatic 123, 3) := by decide +kernel
theorem dX4_told_12 : decode cX4_told 12 = .ok (.aload_n 0, 1) := by decide +kernel
theorem dX4_told_13 : decode cX4_told 13 = .ok (.aload 4, 2) := by decide +kernel
theorem dX4_told_15 : decode cX4_told 15 = .ok (.invokevirtual 107, 3) := by decide +kernel
theorem dX4_told_18 : decode cX4_told 18 = .ok (.iload_n 2, 1) := by decide +kernel
theorem dX4_told_19 : decode cX4_told 19 = .ok (.iload_n 3, 1) := by decide +kernel
theorem dX4_told_20 : decode cX4_told 20 = .ok (.invokestatic 165, 3) := by decide +kernel
theorem dX4_told_23 : decode cX4_told 23 = .ok (.invokevirtual 168, 3) := by decide +kernel
theorem dX4_told_26 : decode cX4_told 26 = .ok (.ireturn, 1) := by decide +kernel
theorem dX4_count_0 : decode cX4_count 0 = .ok (.aload_n 0, 1) := by decide +kernel
theorem dX4_count_1 : decode cX4_count 1 = .ok (.iload_n 1, 1) := by decide +kernel
theorem dX4_count_2 : decode cX4_count 2 = .ok (.invokevirtual 47, 3) := by decide +kernel
theorem dX4_count_5 : decode cX4_count 5 = .ok (.astore_n 3, 1) := by decide +kernel
theorem dX4_count_6 : decode cX4_count 6 = .ok (.iload_n 2, 1) := by decide +kernel
theorem dX4_count_7 : decode cX4_count 7 = .ok (.ifCond .lt 8, 3) := by decide +kernel
theorem dX4_count_10 : decode cX4_count 10 = .ok (.iload_n 2, 1) := by decide +kernel
theorem dX4_count_11 : decode cX4_count 11 = .ok (.iconst 4, 1) := by decide +kernel
theorem dX4_count_12 : decode cX4_count 12 = .ok (.if_icmp .lt 13, 3) := by decide +kernel
theorem dX4_count_15 : decode cX4_count 15 = .ok (.new 171, 3) := by decide +kernel
theorem dX4_count_18 : decode cX4_count 18 = .ok (.dup, 1) := by decide +kernel
theorem dX4_count_19 : decode cX4_count 19 = .ok (.ldc 173, 2) := by decide +kernel
theorem dX4_count_21 : decode cX4_count 21 = .ok (.invokespecial 175, 3) := by decide +kernel
theorem dX4_count_24 : decode cX4_count 24 = .ok (.athrow, 1) := by decide +kernel
theorem dX4_count_25 : decode cX4_count 25 = .ok (.aload_n 3, 1) := by decide +kernel
theorem dX4_count_26 : decode cX4_count 26 = .ok (.iload_n 2, 1) := by decide +kernel
theorem dX4_count_27 : decode cX4_count 27 = .ok (.invokevirtual 176, 3) := by decide +kernel
theorem dX4_count_30 : decode cX4_count 30 = .ok (.invokestatic 93, 3) := by decide +kernel
theorem dX4_count_33 : decode cX4_count 33 = .ok (.ireturn, 1) := by decide +kernel
theorem dX4_read_0 : decode cX4_read 0 = .ok (.aload_n 0, 1) := by decide +kernel
theorem dX4_read_1 : decode cX4_read 1 = .ok (.iload_n 1, 1) := by decide +kernel
theorem dX4_read_2 : decode cX4_read 2 = .ok (.invokevirtual 47, 3) := by decide +kernel
theorem dX4_read_5 : decode cX4_read 5 = .ok (.astore_n 3, 1) := by decide +kernel
theorem dX4_read_6 : decode cX4_read 6 = .ok (.iload_n 2, 1) := by decide +kernel
theorem dX4_read_7 : decode cX4_read 7 = .ok (.invokestatic 51, 3) := by decide +kernel
theorem dX4_read_10 : decode cX4_read 10 = .ok (.aload_n 3, 1) := by decide +kernel
theorem dX4_read_11 : decode cX4_read 11 = .ok (.invokevirtual 180, 3) := by decide +kernel
theorem dX4_read_14 : decode cX4_read 14 = .ok (.aload_n 3, 1) := by decide +kernel
theorem dX4_read_15 : decode cX4_read 15 = .ok (.invokevirtual 183, 3) := by decide +kernel
theorem dX4_read_18 : decode cX4_read 18 = .ok (.iload_n 2, 1) := by decide +kernel
theorem dX4_read_19 : decode cX4_read 19 = .ok (.invokestatic 185, 3) := by decide +kernel
theorem dX4_read_22 : decode cX4_read 22 = .ok (.ireturn, 1) := by decide +kernel
theorem dX4_value_0 : decode cX4_value 0 = .ok (.aload_n 0, 1) := by decide +kernel
theorem dX4_value_1 : decode cX4_value 1 = .ok (.iload_n 1, 1) := by decide +kernel
theorem dX4_value_2 : decode cX4_value 2 = .ok (.invokevirtual 47, 3) := by decide +kernel
theorem dX4_value_5 : decode cX4_value 5 = .ok (.astore_n 3, 1) := by decide +kernel
theorem dX4_value_6 : decode cX4_value 6 = .ok (.iload_n 2, 1) := by decide +kernel
theorem dX4_value_7 : decode cX4_value 7 = .ok (.invokestatic 51, 3) := by decide +kernel
theorem dX4_value_10 : decode cX4_value 10 = .ok (.aload_n 0, 1) := by decide +kernel
theorem dX4_value_11 : decode cX4_value 11 = .ok (.aload_n 3, 1) := by decide +kernel
theorem dX4_value_12 : decode cX4_value 12 = .ok (.invokevirtual 107, 3) := by decide +kernel
theorem dX4_value_15 : decode cX4_value 15 = .ok (.astore 4, 2) := by decide +kernel
theorem dX4_value_17 : decode cX4_value 17 = .ok (.aload 4, 2) := by decide +kernel
theorem dX4_value_19 : decode cX4_value 19 = .ok (.getfield 114, 3) := by decide +kernel
theorem dX4_value_22 : decode cX4_value 22 = .ok (.aload 4, 2) := by decide +kernel
theorem dX4_value_24 : decode cX4_value 24 = .ok (.getfield 111, 3) := by decide +kernel
theorem dX4_value_27 : decode cX4_value 27 = .ok (.iload_n 2, 1) := by decide +kernel
theorem dX4_value_28 : decode cX4_value 28 = .ok (.invokestatic 185, 3) := by decide +kernel
theorem dX4_value_31 : decode cX4_value 31 = .ok (.ireturn, 1) := by decide +kernel
theorem dX4_untold_0 : decode cX4_untold 0 = .ok (.aload_n 0, 1) := by decide +kernel
theorem dX4_untold_1 : decode cX4_untold 1 = .ok (.aload_n 0, 1) := by decide +kernel
theorem dX4_untold_2 : decode cX4_untold 2 = .ok (.iload_n 1, 1) := by decide +kernel
theorem dX4_untold_3 : decode cX4_untold 3 = .ok (.invokevirtual 47, 3) := by decide +kernel
theorem dX4_untold_6 : decode cX4_untold 6 = .ok (.invokevirtual 107, 3) := by decide +kernel
theorem dX4_untold_9 : decode cX4_untold 9 = .ok (.invokevirtual 189, 3) := by decide +kernel
theorem dX4_untold_12 : decode cX4_untold 12 = .ok (.ireturn, 1) := by decide +kernel
theorem dX4_disagreements_0 : decode cX4_disagreements 0 = .ok (.aload_n 0, 1) := by decide +kernel
theorem dX4_disagreements_1 : decode cX4_disagreements 1 = .ok (.aload_n 0, 1) := by decide +kernel
theorem dX4_disagreements_2 : decode cX4_disagreements 2 = .ok (.iload_n 1, 1) := by decide +kernel
theorem dX4_disagreements_3 : decode cX4_disagreements 3 = .ok (.invokevirtual 47, 3) := by decide +kernel
theorem dX4_disagreements_6 : decode cX4_disagreements 6 = .ok (.invokevirtual 107, 3) := by decide +kernel
theorem dX4_disagreements_9 : decode cX4_disagreements 9 = .ok (.invokevirtual 192, 3) := by decide +kernel
theorem dX4_disagreements_12 : decode cX4_disagreements 12 = .ok (.ireturn, 1) := by decide +kernel
theorem dX4_disagreement_0 : decode cX4_disagreement 0 = .ok (.aload_n 0, 1) := by decide +kernel
theorem dX4_disagreement_1 : decode cX4_disagreement 1 = .ok (.iload_n 1, 1) := by decide +kernel
theorem dX4_disagreement_2 : decode cX4_disagreement 2 = .ok (.invokevirtual 47, 3) := by decide +kernel
theorem dX4_disagreement_5 : decode cX4_disagreement 5 = .ok (.astore_n 3, 1) := by decide +kernel
theorem dX4_disagreement_6 : decode cX4_disagreement 6 = .ok (.iload_n 2, 1) := by decide +kernel
theorem dX4_disagreement_7 : decode cX4_disagreement 7 = .ok (.ifCond .ge 13, 3) := by decide +kernel
theorem dX4_disagreement_10 : decode cX4_disagreement 10 = .ok (.new 171, 3) := by decide +kernel
theorem dX4_disagreement_13 : decode cX4_disagreement 13 = .ok (.dup, 1) := by decide +kernel
theorem dX4_disagreement_14 : decode cX4_disagreement 14 = .ok (.ldc 195, 2) := by decide +kernel
theorem dX4_disagreement_16 : decode cX4_disagreement 16 = .ok (.invokespecial 175, 3) := by decide +kernel
theorem dX4_disagreement_19 : decode cX4_disagreement 19 = .ok (.athrow, 1) := by decide +kernel
theorem dX4_disagreement_20 : decode cX4_disagreement 20 = .ok (.aload_n 0, 1) := by decide +kernel
theorem dX4_disagreement_21 : decode cX4_disagreement 21 = .ok (.aload_n 3, 1) := by decide +kernel
theorem dX4_disagreement_22 : decode cX4_disagreement 22 = .ok (.invokevirtual 107, 3) := by decide +kernel
theorem dX4_disagreement_25 : decode cX4_disagreement 25 = .ok (.iload_n 2, 1) := by decide +kernel
theorem dX4_disagreement_26 : decode cX4_disagreement 26 = .ok (.invokevirtual 197, 3) := by decide +kernel
theorem dX4_disagreement_29 : decode cX4_disagreement 29 = .ok (.ireturn, 1) := by decide +kernel
theorem dX4_soundShare_0 : decode cX4_soundShare 0 = .ok (.aload_n 0, 1) := by decide +kernel
theorem dX4_soundShare_1 : decode cX4_soundShare 1 = .ok (.iload_n 1, 1) := by decide +kernel
theorem dX4_soundShare_2 : decode cX4_soundShare 2 = .ok (.invokevirtual 47, 3) := by decide +kernel
theorem dX4_soundShare_5 : decode cX4_soundShare 5 = .ok (.astore_n 2, 1) := by decide +kernel
theorem dX4_soundShare_6 : decode cX4_soundShare 6 = .ok (.aload_n 2, 1) := by decide +kernel
theorem dX4_soundShare_7 : decode cX4_soundShare 7 = .ok (.invokevirtual 180, 3) := by decide +kernel
theorem dX4_soundShare_10 : decode cX4_soundShare 10 = .ok (.invokestatic 93, 3) := by decide +kernel
theorem dX4_soundShare_13 : decode cX4_soundShare 13 = .ok (.i2d, 1) := by decide +kernel
theorem dX4_soundShare_14 : decode cX4_soundShare 14 = .ok (.ldc2_w 200, 3) := by decide +kernel
theorem dX4_soundShare_17 : decode cX4_soundShare 17 = .ok (.ddiv, 1) := by decide +kernel
theorem dX4_soundShare_18 : decode cX4_soundShare 18 = .ok (.dreturn, 1) := by decide +kernel
theorem dX4_untoldIf_0 : decode cX4_untoldIf 0 = .ok (.aload_n 0, 1) := by decide +kernel
theorem dX4_untoldIf_1 : decode cX4_untoldIf 1 = .ok (.iload_n 1, 1) := by decide +kernel
theorem dX4_untoldIf_2 : decode cX4_untoldIf 2 = .ok (.invokevirtual 47, 3) := by decide +kernel
theorem dX4_untoldIf_5 : decode cX4_untoldIf 5 = .ok (.astore 4, 2) := by decide +kernel
theorem dX4_untoldIf_7 : decode cX4_untoldIf 7 = .ok (.iload_n 2, 1) := by decide +kernel
theorem dX4_untoldIf_8 : decode cX4_untoldIf 8 = .ok (.iload_n 3, 1) := by decide +kernel
theorem dX4_untoldIf_9 : decode cX4_untoldIf 9 = .ok (.invokestatic 123, 3) := by decide +kernel
theorem dX4_untoldIf_12 : decode cX4_untoldIf 12 = .ok (.aload_n 0, 1) := by decide +kernel
theorem dX4_untoldIf_13 : decode cX4_untoldIf 13 = .ok (.aload 4, 2) := by decide +kernel
theorem dX4_untoldIf_15 : decode cX4_untoldIf 15 = .ok (.iload_n 2, 1) := by decide +kernel
theorem dX4_untoldIf_16 : decode cX4_untoldIf 16 = .ok (.iload_n 3, 1) := by decide +kernel
theorem dX4_untoldIf_17 : decode cX4_untoldIf 17 = .ok (.invokestatic 165, 3) := by decide +kernel
theorem dX4_untoldIf_20 : decode cX4_untoldIf 20 = .ok (.invokevirtual 202, 3) := by decide +kernel
theorem dX4_untoldIf_23 : decode cX4_untoldIf 23 = .ok (.ireturn, 1) := by decide +kernel
theorem dX4_worst_0 : decode cX4_worst 0 = .ok (.aload_n 0, 1) := by decide +kernel
theorem dX4_worst_1 : decode cX4_worst 1 = .ok (.aload_n 0, 1) := by decide +kernel
theorem dX4_worst_2 : decode cX4_worst 2 = .ok (.iload_n 1, 1) := by decide +kernel
theorem dX4_worst_3 : decode cX4_worst 3 = .ok (.invokevirtual 47, 3) := by decide +kernel
theorem dX4_worst_6 : decode cX4_worst 6 = .ok (.invokevirtual 206, 3) := by decide +kernel
theorem dX4_worst_9 : decode cX4_worst 9 = .ok (.ireturn, 1) := by decide +kernel
theorem dX4_difference_0 : decode cX4_difference 0 = .ok (.aload_n 0, 1) := by decide +kernel
theorem dX4_difference_1 : decode cX4_difference 1 = .ok (.iload_n 1, 1) := by decide +kernel
theorem dX4_difference_2 : decode cX4_difference 2 = .ok (.invokevirtual 47, 3) := by decide +kernel
theorem dX4_difference_5 : decode cX4_difference 5 = .ok (.astore_n 3, 1) := by decide +kernel
theorem dX4_difference_6 : decode cX4_difference 6 = .ok (.aload_n 0, 1) := by decide +kernel
theorem dX4_difference_7 : decode cX4_difference 7 = .ok (.iload_n 2, 1) := by decide +kernel
theorem dX4_difference_8 : decode cX4_difference 8 = .ok (.invokevirtual 47, 3) := by decide +kernel
theorem dX4_difference_11 : decode cX4_difference 11 = .ok (.astore 4, 2) := by decide +kernel
theorem dX4_difference_13 : decode cX4_difference 13 = .ok (.aload_n 0, 1) := by decide +kernel
theorem dX4_difference_14 : decode cX4_difference 14 = .ok (.aload_n 3, 1) := by decide +kernel
theorem dX4_difference_15 : decode cX4_difference 15 = .ok (.invokevirtual 107, 3) := by decide +kernel
theorem dX4_difference_18 : decode cX4_difference 18 = .ok (.astore 5, 2) := by decide +kernel
theorem dX4_difference_20 : decode cX4_difference 20 = .ok (.aload 5, 2) := by decide +kernel
theorem dX4_difference_22 : decode cX4_difference 22 = .ok (.getfield 114, 3) := by decide +kernel
theorem dX4_difference_25 : decode cX4_difference 25 = .ok (.lstore 6, 2) := by decide +kernel
theorem dX4_difference_27 : decode cX4_difference 27 = .ok (.aload 5, 2) := by decide +kernel
theorem dX4_difference_29 : decode cX4_difference 29 = .ok (.getfield 111, 3) := by decide +kernel
theorem dX4_difference_32 : decode cX4_difference 32 = .ok (.lstore 8, 2) := by decide +kernel
theorem dX4_difference_34 : decode cX4_difference 34 = .ok (.aload_n 0, 1) := by decide +kernel
theorem dX4_difference_35 : decode cX4_difference 35 = .ok (.aload 4, 2) := by decide +kernel
theorem dX4_difference_37 : decode cX4_difference 37 = .ok (.invokevirtual 107, 3) := by decide +kernel
theorem dX4_difference_40 : decode cX4_difference 40 = .ok (.astore 5, 2) := by decide +kernel
theorem dX4_difference_42 : decode cX4_difference 42 = .ok (.lload 6, 2) := by decide +kernel
theorem dX4_difference_44 : decode cX4_difference 44 = .ok (.aload 5, 2) := by decide +kernel
theorem dX4_difference_46 : decode cX4_difference 46 = .ok (.getfield 114, 3) := by decide +kernel
theorem dX4_difference_49 : decode cX4_difference 49 = .ok (.land, 1) := by decide +kernel
theorem dX4_difference_50 : decode cX4_difference 50 = .ok (.lload 8, 2) := by decide +kernel
theorem dX4_difference_52 : decode cX4_difference 52 = .ok (.aload 5, 2) := by decide +kernel
theorem dX4_difference_54 : decode cX4_difference 54 = .ok (.getfield 111, 3) := by decide +kernel
theorem dX4_difference_57 : decode cX4_difference 57 = .ok (.lxor, 1) := by decide +kernel
theorem dX4_difference_58 : decode cX4_difference 58 = .ok (.land, 1) := by decide +kernel
theorem dX4_difference_59 : decode cX4_difference 59 = .ok (.invokestatic 93, 3) := by decide +kernel
theorem dX4_difference_62 : decode cX4_difference 62 = .ok (.ireturn, 1) := by decide +kernel
theorem dX4_undo_0 : decode cX4_undo 0 = .ok (.aload_n 0, 1) := by decide +kernel
theorem dX4_undo_1 : decode cX4_undo 1 = .ok (.getfield 29, 3) := by decide +kernel
theorem dX4_undo_4 : decode cX4_undo 4 = .ok (.aload_n 0, 1) := by decide +kernel
theorem dX4_undo_5 : decode cX4_undo 5 = .ok (.getfield 11, 3) := by decide +kernel
theorem dX4_undo_8 : decode cX4_undo 8 = .ok (.invokevirtual 235, 3) := by decide +kernel
theorem dX4_undo_11 : decode cX4_undo 11 = .ok (.ifCond .ne 13, 3) := by decide +kernel
theorem dX4_undo_14 : decode cX4_undo 14 = .ok (.new 66, 3) := by decide +kernel
theorem dX4_undo_17 : decode cX4_undo 17 = .ok (.dup, 1) := by decide +kernel
theorem dX4_undo_18 : decode cX4_undo 18 = .ok (.ldc 239, 2) := by decide +kernel
theorem dX4_undo_20 : decode cX4_undo 20 = .ok (.invokespecial 70, 3) := by decide +kernel
theorem dX4_undo_23 : decode cX4_undo 23 = .ok (.athrow, 1) := by decide +kernel
theorem dX4_undo_24 : decode cX4_undo 24 = .ok (.aload_n 0, 1) := by decide +kernel
theorem dX4_undo_25 : decode cX4_undo 25 = .ok (.getfield 29, 3) := by decide +kernel
theorem dX4_undo_28 : decode cX4_undo 28 = .ok (.getfield 241, 3) := by decide +kernel
theorem dX4_undo_31 : decode cX4_undo 31 = .ok (.ireturn, 1) := by decide +kernel
theorem dX4_savedStates_0 : decode cX4_savedStates 0 = .ok (.aload_n 0, 1) := by decide +kernel
theorem dX4_savedStates_1 : decode cX4_savedStates 1 = .ok (.getfield 29, 3) := by decide +kernel
theorem dX4_savedStates_4 : decode cX4_savedStates 4 = .ok (.getfield 241, 3) := by decide +kernel
theorem dX4_savedStates_7 : decode cX4_savedStates 7 = .ok (.ireturn, 1) := by decide +kernel
theorem dX4_digest_0 : decode cX4_digest 0 = .ok (.ldc2_w 244, 3) := by decide +kernel
theorem dX4_digest_3 : decode cX4_digest 3 = .ok (.lstore_n 1, 1) := by decide +kernel
theorem dX4_digest_4 : decode cX4_digest 4 = .ok (.iconst 0, 1) := by decide +kernel
theorem dX4_digest_5 : decode cX4_digest 5 = .ok (.istore_n 3, 1) := by decide +kernel
theorem dX4_digest_6 : decode cX4_digest 6 = .ok (.iload_n 3, 1) := by decide +kernel
theorem dX4_digest_7 : decode cX4_digest 7 = .ok (.aload_n 0, 1) := by decide +kernel
theorem dX4_digest_8 : decode cX4_digest 8 = .ok (.getfield 11, 3) := by decide +kernel
theorem dX4_digest_11 : decode cX4_digest 11 = .ok (.arraylength, 1) := by decide +kernel
theorem dX4_digest_12 : decode cX4_digest 12 = .ok (.if_icmp .ge 91, 3) := by decide +kernel
theorem dX4_digest_15 : decode cX4_digest 15 = .ok (.aload_n 0, 1) := by decide +kernel
theorem dX4_digest_16 : decode cX4_digest 16 = .ok (.getfield 11, 3) := by decide +kernel
theorem dX4_digest_19 : decode cX4_digest 19 = .ok (.iload_n 3, 1) := by decide +kernel
theorem dX4_digest_20 : decode cX4_digest 20 = .ok (.aaload, 1) := by decide +kernel
theorem dX4_digest_21 : decode cX4_digest 21 = .ok (.astore 4, 2) := by decide +kernel
theorem dX4_digest_23 : decode cX4_digest 23 = .ok (.aload_n 0, 1) := by decide +kernel
theorem dX4_digest_24 : decode cX4_digest 24 = .ok (.aload 4, 2) := by decide +kernel
theorem dX4_digest_26 : decode cX4_digest 26 = .ok (.invokevirtual 107, 3) := by decide +kernel
theorem dX4_digest_29 : decode cX4_digest 29 = .ok (.astore 5, 2) := by decide +kernel
theorem dX4_digest_31 : decode cX4_digest 31 = .ok (.lload_n 1, 1) := by decide +kernel
theorem dX4_digest_32 : decode cX4_digest 32 = .ok (.aload 4, 2) := by decide +kernel
theorem dX4_digest_34 : decode cX4_digest 34 = .ok (.getfield 151, 3) := by decide +kernel
theorem dX4_digest_37 : decode cX4_digest 37 = .ok (.invokestatic 246, 3) := by decide +kernel
theorem dX4_digest_40 : decode cX4_digest 40 = .ok (.lstore_n 1, 1) := by decide +kernel
theorem dX4_digest_41 : decode cX4_digest 41 = .ok (.lload_n 1, 1) := by decide +kernel
theorem dX4_digest_42 : decode cX4_digest 42 = .ok (.aload 4, 2) := by decide +kernel
theorem dX4_digest_44 : decode cX4_digest 44 = .ok (.invokestatic 250, 3) := by decide +kernel
theorem dX4_digest_47 : decode cX4_digest 47 = .ok (.lstore_n 1, 1) := by decide +kernel
theorem dX4_digest_48 : decode cX4_digest 48 = .ok (.lload_n 1, 1) := by decide +kernel
theorem dX4_digest_49 : decode cX4_digest 49 = .ok (.aload 5, 2) := by decide +kernel
theorem dX4_digest_51 : decode cX4_digest 51 = .ok (.invokevirtual 189, 3) := by decide +kernel
theorem dX4_digest_54 : decode cX4_digest 54 = .ok (.invokestatic 246, 3) := by decide +kernel
theorem dX4_digest_57 : decode cX4_digest 57 = .ok (.lstore_n 1, 1) := by decide +kernel
theorem dX4_digest_58 : decode cX4_digest 58 = .ok (.lload_n 1, 1) := by decide +kernel
theorem dX4_digest_59 : decode cX4_digest 59 = .ok (.aload 5, 2) := by decide +kernel
theorem dX4_digest_61 : decode cX4_digest 61 = .ok (.invokevirtual 192, 3) := by decide +kernel
theorem dX4_digest_64 : decode cX4_digest 64 = .ok (.invokestatic 246, 3) := by decide +kernel
theorem dX4_digest_67 : decode cX4_digest 67 = .ok (.lstore_n 1, 1) := by decide +kernel
theorem dX4_digest_68 : decode cX4_digest 68 = .ok (.lload_n 1, 1) := by decide +kernel
theorem dX4_digest_69 : decode cX4_digest 69 = .ok (.aload_n 0, 1) := by decide +kernel
theorem dX4_digest_70 : decode cX4_digest 70 = .ok (.aload 4, 2) := by decide +kernel
theorem dX4_digest_72 : decode cX4_digest 72 = .ok (.invokevirtual 206, 3) := by decide +kernel
theorem dX4_digest_75 : decode cX4_digest 75 = .ok (.invokestatic 246, 3) := by decide +kernel
theorem dX4_digest_78 : decode cX4_digest 78 = .ok (.lstore_n 1, 1) := by decide +kernel
theorem dX4_digest_79 : decode cX4_digest 79 = .ok (.lload_n 1, 1) := by decide +kernel
theorem dX4_digest_80 : decode cX4_digest 80 = .ok (.aload 4, 2) := by decide +kernel
theorem dX4_digest_82 : decode cX4_digest 82 = .ok (.aload 5, 2) := by decide +kernel
theorem dX4_digest_84 : decode cX4_digest 84 = .ok (.invokestatic 254, 3) := by decide +kernel
theorem dX4_digest_87 : decode cX4_digest 87 = .ok (.lstore_n 1, 1) := by decide +kernel
theorem dX4_digest_88 : decode cX4_digest 88 = .ok (.lload_n 1, 1) := by decide +kernel
theorem dX4_digest_89 : decode cX4_digest 89 = .ok (.aload 4, 2) := by decide +kernel
theorem dX4_digest_91 : decode cX4_digest 91 = .ok (.aload 5, 2) := by decide +kernel
theorem dX4_digest_93 : decode cX4_digest 93 = .ok (.invokestatic 258, 3) := by decide +kernel
theorem dX4_digest_96 : decode cX4_digest 96 = .ok (.lstore_n 1, 1) := by decide +kernel
theorem dX4_digest_97 : decode cX4_digest 97 = .ok (.iinc 3 1, 3) := by decide +kernel
theorem dX4_digest_100 : decode cX4_digest 100 = .ok (.goto (-94), 3) := by decide +kernel
theorem dX4_digest_103 : decode cX4_digest 103 = .ok (.lload_n 1, 1) := by decide +kernel
theorem dX4_digest_104 : decode cX4_digest 104 = .ok (.lreturn, 1) := by decide +kernel
theorem dX4_mixed_0 : decode cX4_mixed 0 = .ok (.ldc2_w 261, 3) := by decide +kernel
theorem dX4_mixed_3 : decode cX4_mixed 3 = .ok (.lload_n 0, 1) := by decide +kernel
theorem dX4_mixed_4 : decode cX4_mixed 4 = .ok (.lmul, 1) := by decide +kernel
theorem dX4_mixed_5 : decode cX4_mixed 5 = .ok (.iload_n 2, 1) := by decide +kernel
theorem dX4_mixed_6 : decode cX4_mixed 6 = .ok (.i2l, 1) := by decide +kernel
theorem dX4_mixed_7 : decode cX4_mixed 7 = .ok (.ladd, 1) := by decide +kernel
theorem dX4_mixed_8 : decode cX4_mixed 8 = .ok (.lreturn, 1) := by decide +kernel
theorem dX4_mixedWithCounts_0 : decode cX4_mixedWithCounts 0 = .ok (.lload_n 0, 1) := by decide +kernel
theorem dX4_mixedWithCounts_1 : decode cX4_mixedWithCounts 1 = .ok (.lstore_n 3, 1) := by decide +kernel
theorem dX4_mixedWithCounts_2 : decode cX4_mixedWithCounts 2 = .ok (.iconst 0, 1) := by decide +kernel
theorem dX4_mixedWithCounts_3 : decode cX4_mixedWithCounts 3 = .ok (.istore 5, 2) := by decide +kernel
theorem dX4_mixedWithCounts_5 : decode cX4_mixedWithCounts 5 = .ok (.iload 5, 2) := by decide +kernel
theorem dX4_mixedWithCounts_7 : decode cX4_mixedWithCounts 7 = .ok (.iconst 4, 1) := by decide +kernel
theorem dX4_mixedWithCounts_8 : decode cX4_mixedWithCounts 8 = .ok (.if_icmp .ge 23, 3) := by decide +kernel
theorem dX4_mixedWithCounts_11 : decode cX4_mixedWithCounts 11 = .ok (.lload_n 3, 1) := by decide +kernel
theorem dX4_mixedWithCounts_12 : decode cX4_mixedWithCounts 12 = .ok (.aload_n 2, 1) := by decide +kernel
theorem dX4_mixedWithCounts_13 : decode cX4_mixedWithCounts 13 = .ok (.iload 5, 2) := by decide +kernel
theorem dX4_mixedWithCounts_15 : decode cX4_mixedWithCounts 15 = .ok (.invokevirtual 176, 3) := by decide +kernel
theorem dX4_mixedWithCounts_18 : decode cX4_mixedWithCounts 18 = .ok (.invokestatic 93, 3) := by decide +kernel
theorem dX4_mixedWithCounts_21 : decode cX4_mixedWithCounts 21 = .ok (.invokestatic 246, 3) := by decide +kernel
theorem dX4_mixedWithCounts_24 : decode cX4_mixedWithCounts 24 = .ok (.lstore_n 3, 1) := by decide +kernel
theorem dX4_mixedWithCounts_25 : decode cX4_mixedWithCounts 25 = .ok (.iinc 5 1, 3) := by decide +kernel
theorem dX4_mixedWithCounts_28 : decode cX4_mixedWithCounts 28 = .ok (.goto (-23), 3) := by decide +kernel
theorem dX4_mixedWithCounts_31 : decode cX4_mixedWithCounts 31 = .ok (.lload_n 3, 1) := by decide +kernel
theorem dX4_mixedWithCounts_32 : decode cX4_mixedWithCounts 32 = .ok (.lreturn, 1) := by decide +kernel
theorem dX4_mixedWithRows_0 : decode cX4_mixedWithRows 0 = .ok (.lload_n 0, 1) := by decide +kernel
theorem dX4_mixedWithRows_1 : decode cX4_mixedWithRows 1 = .ok (.lstore 4, 2) := by decide +kernel
theorem dX4_mixedWithRows_3 : decode cX4_mixedWithRows 3 = .ok (.iconst 0, 1) := by decide +kernel
theorem dX4_mixedWithRows_4 : decode cX4_mixedWithRows 4 = .ok (.istore 6, 2) := by decide +kernel
theorem dX4_mixedWithRows_6 : decode cX4_mixedWithRows 6 = .ok (.iload 6, 2) := by decide +kernel
theorem dX4_mixedWithRows_8 : decode cX4_mixedWithRows 8 = .ok (.bipush 8, 2) := by decide +kernel
theorem dX4_mixedWithRows_10 : decode cX4_mixedWithRows 10 = .ok (.if_icmp .ge 22, 3) := by decide +kernel
theorem dX4_mixedWithRows_13 : decode cX4_mixedWithRows 13 = .ok (.lload 4, 2) := by decide +kernel
theorem dX4_mixedWithRows_15 : decode cX4_mixedWithRows 15 = .ok (.aload_n 2, 1) := by decide +kernel
theorem dX4_mixedWithRows_16 : decode cX4_mixedWithRows 16 = .ok (.iload 6, 2) := by decide +kernel
theorem dX4_mixedWithRows_18 : decode cX4_mixedWithRows 18 = .ok (.invokevirtual 162, 3) := by decide +kernel
theorem dX4_mixedWithRows_21 : decode cX4_mixedWithRows 21 = .ok (.invokestatic 246, 3) := by decide +kernel
theorem dX4_mixedWithRows_24 : decode cX4_mixedWithRows 24 = .ok (.lstore 4, 2) := by decide +kernel
theorem dX4_mixedWithRows_26 : decode cX4_mixedWithRows 26 = .ok (.iinc 6 1, 3) := by decide +kernel
theorem dX4_mixedWithRows_29 : decode cX4_mixedWithRows 29 = .ok (.goto (-23), 3) := by decide +kernel
theorem dX4_mixedWithRows_32 : decode cX4_mixedWithRows 32 = .ok (.iconst 0, 1) := by decide +kernel
theorem dX4_mixedWithRows_33 : decode cX4_mixedWithRows 33 = .ok (.istore 6, 2) := by decide +kernel
theorem dX4_mixedWithRows_35 : decode cX4_mixedWithRows 35 = .ok (.iload 6, 2) := by decide +kernel
theorem dX4_mixedWithRows_37 : decode cX4_mixedWithRows 37 = .ok (.bipush 7, 2) := by decide +kernel
theorem dX4_mixedWithRows_39 : decode cX4_mixedWithRows 39 = .ok (.if_icmp .ge 49, 3) := by decide +kernel
theorem dX4_mixedWithRows_42 : decode cX4_mixedWithRows 42 = .ok (.lload 4, 2) := by decide +kernel
theorem dX4_mixedWithRows_44 : decode cX4_mixedWithRows 44 = .ok (.aload_n 2, 1) := by decide +kernel
theorem dX4_mixedWithRows_45 : decode cX4_mixedWithRows 45 = .ok (.invokevirtual 180, 3) := by decide +kernel
theorem dX4_mixedWithRows_48 : decode cX4_mixedWithRows 48 = .ok (.aload_n 2, 1) := by decide +kernel
theorem dX4_mixedWithRows_49 : decode cX4_mixedWithRows 49 = .ok (.invokevirtual 183, 3) := by decide +kernel
theorem dX4_mixedWithRows_52 : decode cX4_mixedWithRows 52 = .ok (.iload 6, 2) := by decide +kernel
theorem dX4_mixedWithRows_54 : decode cX4_mixedWithRows 54 = .ok (.invokestatic 185, 3) := by decide +kernel
theorem dX4_mixedWithRows_57 : decode cX4_mixedWithRows 57 = .ok (.invokestatic 246, 3) := by decide +kernel
theorem dX4_mixedWithRows_60 : decode cX4_mixedWithRows 60 = .ok (.lstore 4, 2) := by decide +kernel
theorem dX4_mixedWithRows_62 : decode cX4_mixedWithRows 62 = .ok (.lload 4, 2) := by decide +kernel
theorem dX4_mixedWithRows_64 : decode cX4_mixedWithRows 64 = .ok (.aload_n 3, 1) := by decide +kernel
theorem dX4_mixedWithRows_65 : decode cX4_mixedWithRows 65 = .ok (.getfield 114, 3) := by decide +kernel
theorem dX4_mixedWithRows_68 : decode cX4_mixedWithRows 68 = .ok (.aload_n 3, 1) := by decide +kernel
theorem dX4_mixedWithRows_69 : decode cX4_mixedWithRows 69 = .ok (.getfield 111, 3) := by decide +kernel
theorem dX4_mixedWithRows_72 : decode cX4_mixedWithRows 72 = .ok (.iload 6, 2) := by decide +kernel
theorem dX4_mixedWithRows_74 : decode cX4_mixedWithRows 74 = .ok (.invokestatic 185, 3) := by decide +kernel
theorem dX4_mixedWithRows_77 : decode cX4_mixedWithRows 77 = .ok (.invokestatic 246, 3) := by decide +kernel
theorem dX4_mixedWithRows_80 : decode cX4_mixedWithRows 80 = .ok (.lstore 4, 2) := by decide +kernel
theorem dX4_mixedWithRows_82 : decode cX4_mixedWithRows 82 = .ok (.iinc 6 1, 3) := by decide +kernel
theorem dX4_mixedWithRows_85 : decode cX4_mixedWithRows 85 = .ok (.goto (-50), 3) := by decide +kernel
theorem dX4_mixedWithRows_88 : decode cX4_mixedWithRows 88 = .ok (.lload 4, 2) := by decide +kernel
theorem dX4_mixedWithRows_90 : decode cX4_mixedWithRows 90 = .ok (.lreturn, 1) := by decide +kernel
theorem dX4_mixedWithCells_0 : decode cX4_mixedWithCells 0 = .ok (.lload_n 0, 1) := by decide +kernel
theorem dX4_mixedWithCells_1 : decode cX4_mixedWithCells 1 = .ok (.lstore 4, 2) := by decide +kernel
theorem dX4_mixedWithCells_3 : decode cX4_mixedWithCells 3 = .ok (.iconst 0, 1) := by decide +kernel
theorem dX4_mixedWithCells_4 : decode cX4_mixedWithCells 4 = .ok (.istore 6, 2) := by decide +kernel
theorem dX4_mixedWithCells_6 : decode cX4_mixedWithCells 6 = .ok (.iload 6, 2) := by decide +kernel
theorem dX4_mixedWithCells_8 : decode cX4_mixedWithCells 8 = .ok (.bipush 64, 2) := by decide +kernel
theorem dX4_mixedWithCells_10 : decode cX4_mixedWithCells 10 = .ok (.if_icmp .ge 35, 3) := by decide +kernel
theorem dX4_mixedWithCells_13 : decode cX4_mixedWithCells 13 = .ok (.lload 4, 2) := by decide +kernel
theorem dX4_mixedWithCells_15 : decode cX4_mixedWithCells 15 = .ok (.aload_n 2, 1) := by decide +kernel
theorem dX4_mixedWithCells_16 : decode cX4_mixedWithCells 16 = .ok (.iload 6, 2) := by decide +kernel
theorem dX4_mixedWithCells_18 : decode cX4_mixedWithCells 18 = .ok (.invokevirtual 143, 3) := by decide +kernel
theorem dX4_mixedWithCells_21 : decode cX4_mixedWithCells 21 = .ok (.invokestatic 246, 3) := by decide +kernel
theorem dX4_mixedWithCells_24 : decode cX4_mixedWithCells 24 = .ok (.lstore 4, 2) := by decide +kernel
theorem dX4_mixedWithCells_26 : decode cX4_mixedWithCells 26 = .ok (.lload 4, 2) := by decide +kernel
theorem dX4_mixedWithCells_28 : decode cX4_mixedWithCells 28 = .ok (.aload_n 3, 1) := by decide +kernel
theorem dX4_mixedWithCells_29 : decode cX4_mixedWithCells 29 = .ok (.iload 6, 2) := by decide +kernel
theorem dX4_mixedWithCells_31 : decode cX4_mixedWithCells 31 = .ok (.invokevirtual 168, 3) := by decide +kernel
theorem dX4_mixedWithCells_34 : decode cX4_mixedWithCells 34 = .ok (.invokestatic 246, 3) := by decide +kernel
theorem dX4_mixedWithCells_37 : decode cX4_mixedWithCells 37 = .ok (.lstore 4, 2) := by decide +kernel
theorem dX4_mixedWithCells_39 : decode cX4_mixedWithCells 39 = .ok (.iinc 6 1, 3) := by decide +kernel
theorem dX4_mixedWithCells_42 : decode cX4_mixedWithCells 42 = .ok (.goto (-36), 3) := by decide +kernel
theorem dX4_mixedWithCells_45 : decode cX4_mixedWithCells 45 = .ok (.lload 4, 2) := by decide +kernel
theorem dX4_mixedWithCells_47 : decode cX4_mixedWithCells 47 = .ok (.lreturn, 1) := by decide +kernel
theorem dX4_cardAt_0 : decode cX4_cardAt 0 = .ok (.iload_n 1, 1) := by decide +kernel
theorem dX4_cardAt_1 : decode cX4_cardAt 1 = .ok (.ifCond .lt 12, 3) := by decide +kernel
theorem dX4_cardAt_4 : decode cX4_cardAt 4 = .ok (.iload_n 1, 1) := by decide +kernel
theorem dX4_cardAt_5 : decode cX4_cardAt 5 = .ok (.aload_n 0, 1) := by decide +kernel
theorem dX4_cardAt_6 : decode cX4_cardAt 6 = .ok (.getfield 11, 3) := by decide +kernel
theorem dX4_cardAt_9 : decode cX4_cardAt 9 = .ok (.arraylength, 1) := by decide +kernel
theorem dX4_cardAt_10 : decode cX4_cardAt 10 = .ok (.if_icmp .lt 14, 3) := by decide +kernel
theorem dX4_cardAt_13 : decode cX4_cardAt 13 = .ok (.new 171, 3) := by decide +kernel
theorem dX4_cardAt_16 : decode cX4_cardAt 16 = .ok (.dup, 1) := by decide +kernel
theorem dX4_cardAt_17 : decode cX4_cardAt 17 = .ok (.ldc_w 263, 3) := by decide +kernel
theorem dX4_cardAt_20 : decode cX4_cardAt 20 = .ok (.invokespecial 175, 3) := by decide +kernel
theorem dX4_cardAt_23 : decode cX4_cardAt 23 = .ok (.athrow, 1) := by decide +kernel
theorem dX4_cardAt_24 : decode cX4_cardAt 24 = .ok (.aload_n 0, 1) := by decide +kernel
theorem dX4_cardAt_25 : decode cX4_cardAt 25 = .ok (.getfield 11, 3) := by decide +kernel
theorem dX4_cardAt_28 : decode cX4_cardAt 28 = .ok (.iload_n 1, 1) := by decide +kernel
theorem dX4_cardAt_29 : decode cX4_cardAt 29 = .ok (.aaload, 1) := by decide +kernel
theorem dX4_cardAt_30 : decode cX4_cardAt 30 = .ok (.areturn, 1) := by decide +kernel
theorem dX4_tellingOf_0 : decode cX4_tellingOf 0 = .ok (.aload_n 0, 1) := by decide +kernel
theorem dX4_tellingOf_1 : decode cX4_tellingOf 1 = .ok (.getfield 19, 3) := by decide +kernel
theorem dX4_tellingOf_4 : decode cX4_tellingOf 4 = .ok (.aload_n 1, 1) := by decide +kernel
theorem dX4_tellingOf_5 : decode cX4_tellingOf 5 = .ok (.invokevirtual 180, 3) := by decide +kernel
theorem dX4_tellingOf_8 : decode cX4_tellingOf 8 = .ok (.aload_n 1, 1) := by decide +kernel
theorem dX4_tellingOf_9 : decode cX4_tellingOf 9 = .ok (.invokevirtual 183, 3) := by decide +kernel
theorem dX4_tellingOf_12 : decode cX4_tellingOf 12 = .ok (.invokevirtual 265, 3) := by decide +kernel
theorem dX4_tellingOf_15 : decode cX4_tellingOf 15 = .ok (.aload_n 0, 1) := by decide +kernel
theorem dX4_tellingOf_16 : decode cX4_tellingOf 16 = .ok (.getfield 19, 3) := by decide +kernel
theorem dX4_tellingOf_19 : decode cX4_tellingOf 19 = .ok (.areturn, 1) := by decide +kernel
theorem dX4_requireInSide_0 : decode cX4_requireInSide 0 = .ok (.iload_n 0, 1) := by decide +kernel
theorem dX4_requireInSide_1 : decode cX4_requireInSide 1 = .ok (.ifCond .lt 9, 3) := by decide +kernel
theorem dX4_requireInSide_4 : decode cX4_requireInSide 4 = .ok (.iload_n 0, 1) := by decide +kernel
theorem dX4_requireInSide_5 : decode cX4_requireInSide 5 = .ok (.bipush 8, 2) := by decide +kernel
theorem dX4_requireInSide_7 : decode cX4_requireInSide 7 = .ok (.if_icmp .lt 14, 3) := by decide +kernel
theorem dX4_requireInSide_10 : decode cX4_requireInSide 10 = .ok (.new 171, 3) := by decide +kernel
theorem dX4_requireInSide_13 : decode cX4_requireInSide 13 = .ok (.dup, 1) := by decide +kernel
theorem dX4_requireInSide_14 : decode cX4_requireInSide 14 = .ok (.ldc_w 269, 3) := by decide +kernel
theorem dX4_requireInSide_17 : decode cX4_requireInSide 17 = .ok (.invokespecial 175, 3) := by decide +kernel
theorem dX4_requireInSide_20 : decode cX4_requireInSide 20 = .ok (.athrow, 1) := by decide +kernel
theorem dX4_requireInSide_21 : decode cX4_requireInSide 21 = .ok (.return_, 1) := by decide +kernel
theorem dX4_requireCell_0 : decode cX4_requireCell 0 = .ok (.iload_n 0, 1) := by decide +kernel
theorem dX4_requireCell_1 : decode cX4_requireCell 1 = .ok (.invokestatic 159, 3) := by decide +kernel
theorem dX4_requireCell_4 : decode cX4_requireCell 4 = .ok (.iload_n 1, 1) := by decide +kernel
theorem dX4_requireCell_5 : decode cX4_requireCell 5 = .ok (.invokestatic 159, 3) := by decide +kernel
theorem dX4_requireCell_8 : decode cX4_requireCell 8 = .ok (.return_, 1) := by decide +kernel
theorem dX4_requireRowWithValue_0 : decode cX4_requireRowWithValue 0 = .ok (.iload_n 0, 1) := by decide +kernel
theorem dX4_requireRowWithValue_1 : decode cX4_requireRowWithValue 1 = .ok (.ifCond .lt 9, 3) := by decide +kernel
theorem dX4_requireRowWithValue_4 : decode cX4_requireRowWithValue 4 = .ok (.iload_n 0, 1) := by decide +kernel
theorem dX4_requireRowWithValue_5 : decode cX4_requireRowWithValue 5 = .ok (.bipush 7, 2) := by decide +kernel
theorem dX4_requireRowWithValue_7 : decode cX4_requireRowWithValue 7 = .ok (.if_icmp .lt 14, 3) := by decide +kernel
theorem dX4_requireRowWithValue_10 : decode cX4_requireRowWithValue 10 = .ok (.new 171, 3) := by decide +kernel
theorem dX4_requireRowWithValue_13 : decode cX4_requireRowWithValue 13 = .ok (.dup, 1) := by decide +kernel
theorem dX4_requireRowWithValue_14 : decode cX4_requireRowWithValue 14 = .ok (.ldc_w 271, 3) := by decide +kernel
theorem dX4_requireRowWithValue_17 : decode cX4_requireRowWithValue 17 = .ok (.invokespecial 175, 3) := by decide +kernel
theorem dX4_requireRowWithValue_20 : decode cX4_requireRowWithValue 20 = .ok (.athrow, 1) := by decide +kernel
theorem dX4_requireRowWithValue_21 : decode cX4_requireRowWithValue 21 = .ok (.return_, 1) := by decide +kernel
theorem dX4_cellNumber_0 : decode cX4_cellNumber 0 = .ok (.bipush 8, 2) := by decide +kernel
theorem dX4_cellNumber_2 : decode cX4_cellNumber 2 = .ok (.iload_n 0, 1) := by decide +kernel
theorem dX4_cellNumber_3 : decode cX4_cellNumber 3 = .ok (.imul, 1) := by decide +kernel
theorem dX4_cellNumber_4 : decode cX4_cellNumber 4 = .ok (.iload_n 1, 1) := by decide +kernel
theorem dX4_cellNumber_5 : decode cX4_cellNumber 5 = .ok (.iadd, 1) := by decide +kernel
theorem dX4_cellNumber_6 : decode cX4_cellNumber 6 = .ok (.ireturn, 1) := by decide +kernel
theorem dX4_isIn_0 : decode cX4_isIn 0 = .ok (.lload_n 0, 1) := by decide +kernel
theorem dX4_isIn_1 : decode cX4_isIn 1 = .ok (.iload_n 2, 1) := by decide +kernel
theorem dX4_isIn_2 : decode cX4_isIn 2 = .ok (.lushr, 1) := by decide +kernel
theorem dX4_isIn_3 : decode cX4_isIn 3 = .ok (.lconst 1, 1) := by decide +kernel
theorem dX4_isIn_4 : decode cX4_isIn 4 = .ok (.land, 1) := by decide +kernel
theorem dX4_isIn_5 : decode cX4_isIn 5 = .ok (.lconst 0, 1) := by decide +kernel
theorem dX4_isIn_6 : decode cX4_isIn 6 = .ok (.lcmp, 1) := by decide +kernel
theorem dX4_isIn_7 : decode cX4_isIn 7 = .ok (.ifCond .eq 7, 3) := by decide +kernel
theorem dX4_isIn_10 : decode cX4_isIn 10 = .ok (.iconst 1, 1) := by decide +kernel
theorem dX4_isIn_11 : decode cX4_isIn 11 = .ok (.goto 4, 3) := by decide +kernel
theorem dX4_isIn_14 : decode cX4_isIn 14 = .ok (.iconst 0, 1) := by decide +kernel
theorem dX4_isIn_15 : decode cX4_isIn 15 = .ok (.ireturn, 1) := by decide +kernel
theorem dX4_isOdd_0 : decode cX4_isOdd 0 = .ok (.lload_n 0, 1) := by decide +kernel
theorem dX4_isOdd_1 : decode cX4_isOdd 1 = .ok (.invokestatic 93, 3) := by decide +kernel
theorem dX4_isOdd_4 : decode cX4_isOdd 4 = .ok (.iconst 1, 1) := by decide +kernel
theorem dX4_isOdd_5 : decode cX4_isOdd 5 = .ok (.iand, 1) := by decide +kernel
theorem dX4_isOdd_6 : decode cX4_isOdd 6 = .ok (.iconst 1, 1) := by decide +kernel
theorem dX4_isOdd_7 : decode cX4_isOdd 7 = .ok (.if_icmp .ne 7, 3) := by decide +kernel
theorem dX4_isOdd_10 : decode cX4_isOdd 10 = .ok (.iconst 1, 1) := by decide +kernel
theorem dX4_isOdd_11 : decode cX4_isOdd 11 = .ok (.goto 4, 3) := by decide +kernel
theorem dX4_isOdd_14 : decode cX4_isOdd 14 = .ok (.iconst 0, 1) := by decide +kernel
theorem dX4_isOdd_15 : decode cX4_isOdd 15 = .ok (.ireturn, 1) := by decide +kernel
theorem dX4_rowCells_0 : decode cX4_rowCells 0 = .ok (.ldc2_w 273, 3) := by decide +kernel
theorem dX4_rowCells_3 : decode cX4_rowCells 3 = .ok (.bipush 8, 2) := by decide +kernel
theorem dX4_rowCells_5 : decode cX4_rowCells 5 = .ok (.iload_n 0, 1) := by decide +kernel
theorem dX4_rowCells_6 : decode cX4_rowCells 6 = .ok (.imul, 1) := by decide +kernel
theorem dX4_rowCells_7 : decode cX4_rowCells 7 = .ok (.lshl, 1) := by decide +kernel
theorem dX4_rowCells_8 : decode cX4_rowCells 8 = .ok (.lreturn, 1) := by decide +kernel
theorem dX4_columnCells_0 : decode cX4_columnCells 0 = .ok (.ldc2_w 275, 3) := by decide +kernel
theorem dX4_columnCells_3 : decode cX4_columnCells 3 = .ok (.iload_n 0, 1) := by decide +kernel
theorem dX4_columnCells_4 : decode cX4_columnCells 4 = .ok (.lshl, 1) := by decide +kernel
theorem dX4_columnCells_5 : decode cX4_columnCells 5 = .ok (.lreturn, 1) := by decide +kernel
theorem dX4_rowValue_0 : decode cX4_rowValue 0 = .ok (.iconst 0, 1) := by decide +kernel
theorem dX4_rowValue_1 : decode cX4_rowValue 1 = .ok (.istore 5, 2) := by decide +kernel
theorem dX4_rowValue_3 : decode cX4_rowValue 3 = .ok (.iconst 0, 1) := by decide +kernel
theorem dX4_rowValue_4 : decode cX4_rowValue 4 = .ok (.istore 6, 2) := by decide +kernel
theorem dX4_rowValue_6 : decode cX4_rowValue 6 = .ok (.iload 6, 2) := by decide +kernel
theorem dX4_rowValue_8 : decode cX4_rowValue 8 = .ok (.bipush 7, 2) := by decide +kernel
theorem dX4_rowValue_10 : decode cX4_rowValue 10 = .ok (.if_icmp .ge 50, 3) := by decide +kernel
theorem dX4_rowValue_13 : decode cX4_rowValue 13 = .ok (.iload 4, 2) := by decide +kernel
theorem dX4_rowValue_15 : decode cX4_rowValue 15 = .ok (.iload 6, 2) := by decide +kernel
theorem dX4_rowValue_17 : decode cX4_rowValue 17 = .ok (.invokestatic 165, 3) := by decide +kernel
theorem dX4_rowValue_20 : decode cX4_rowValue 20 = .ok (.istore 7, 2) := by decide +kernel
theorem dX4_rowValue_22 : decode cX4_rowValue 22 = .ok (.lload_n 0, 1) := by decide +kernel
theorem dX4_rowValue_23 : decode cX4_rowValue 23 = .ok (.iload 7, 2) := by decide +kernel
theorem dX4_rowValue_25 : decode cX4_rowValue 25 = .ok (.invokestatic 277, 3) := by decide +kernel
theorem dX4_rowValue_28 : decode cX4_rowValue 28 = .ok (.ifCond .ne 5, 3) := by decide +kernel
theorem dX4_rowValue_31 : decode cX4_rowValue 31 = .ok (.iconst (-1), 1) := by decide +kernel
theorem dX4_rowValue_32 : decode cX4_rowValue 32 = .ok (.ireturn, 1) := by decide +kernel
theorem dX4_rowValue_33 : decode cX4_rowValue 33 = .ok (.iconst 2, 1) := by decide +kernel
theorem dX4_rowValue_34 : decode cX4_rowValue 34 = .ok (.iload 5, 2) := by decide +kernel
theorem dX4_rowValue_36 : decode cX4_rowValue 36 = .ok (.imul, 1) := by decide +kernel
theorem dX4_rowValue_37 : decode cX4_rowValue 37 = .ok (.lload_n 2, 1) := by decide +kernel
theorem dX4_rowValue_38 : decode cX4_rowValue 38 = .ok (.iload 7, 2) := by decide +kernel
theorem dX4_rowValue_40 : decode cX4_rowValue 40 = .ok (.invokestatic 277, 3) := by decide +kernel
theorem dX4_rowValue_43 : decode cX4_rowValue 43 = .ok (.ifCond .eq 7, 3) := by decide +kernel
theorem dX4_rowValue_46 : decode cX4_rowValue 46 = .ok (.iconst 1, 1) := by decide +kernel
theorem dX4_rowValue_47 : decode cX4_rowValue 47 = .ok (.goto 4, 3) := by decide +kernel
theorem dX4_rowValue_50 : decode cX4_rowValue 50 = .ok (.iconst 0, 1) := by decide +kernel
theorem dX4_rowValue_51 : decode cX4_rowValue 51 = .ok (.iadd, 1) := by decide +kernel
theorem dX4_rowValue_52 : decode cX4_rowValue 52 = .ok (.istore 5, 2) := by decide +kernel
theorem dX4_rowValue_54 : decode cX4_rowValue 54 = .ok (.iinc 6 1, 3) := by decide +kernel
theorem dX4_rowValue_57 : decode cX4_rowValue 57 = .ok (.goto (-51), 3) := by decide +kernel
theorem dX4_rowValue_60 : decode cX4_rowValue 60 = .ok (.iload 5, 2) := by decide +kernel
theorem dX4_rowValue_62 : decode cX4_rowValue 62 = .ok (.ireturn, 1) := by decide +kernel
theorem dX4_untoldWithout_0 : decode cX4_untoldWithout 0 = .ok (.aload_n 1, 1) := by decide +kernel
theorem dX4_untoldWithout_1 : decode cX4_untoldWithout 1 = .ok (.invokevirtual 180, 3) := by decide +kernel
theorem dX4_untoldWithout_4 : decode cX4_untoldWithout 4 = .ok (.iload_n 2, 1) := by decide +kernel
theorem dX4_untoldWithout_5 : decode cX4_untoldWithout 5 = .ok (.invokestatic 277, 3) := by decide +kernel
theorem dX4_untoldWithout_8 : decode cX4_untoldWithout 8 = .ok (.ifCond .ne 5, 3) := by decide +kernel
theorem dX4_untoldWithout_11 : decode cX4_untoldWithout 11 = .ok (.iconst (-1), 1) := by decide +kernel
theorem dX4_untoldWithout_12 : decode cX4_untoldWithout 12 = .ok (.ireturn, 1) := by decide +kernel
theorem dX4_untoldWithout_13 : decode cX4_untoldWithout 13 = .ok (.aload_n 1, 1) := by decide +kernel
theorem dX4_untoldWithout_14 : decode cX4_untoldWithout 14 = .ok (.invokevirtual 180, 3) := by decide +kernel
theorem dX4_untoldWithout_17 : decode cX4_untoldWithout 17 = .ok (.lconst 1, 1) := by decide +kernel
theorem dX4_untoldWithout_18 : decode cX4_untoldWithout 18 = .ok (.iload_n 2, 1) := by decide +kernel
theorem dX4_untoldWithout_19 : decode cX4_untoldWithout 19 = .ok (.lshl, 1) := by decide +kernel
theorem dX4_untoldWithout_20 : decode cX4_untoldWithout 20 = .ok (.ldc2_w 117, 3) := by decide +kernel
theorem dX4_untoldWithout_23 : decode cX4_untoldWithout 23 = .ok (.lxor, 1) := by decide +kernel
theorem dX4_untoldWithout_24 : decode cX4_untoldWithout 24 = .ok (.land, 1) := by decide +kernel
theorem dX4_untoldWithout_25 : decode cX4_untoldWithout 25 = .ok (.lstore_n 3, 1) := by decide +kernel
theorem dX4_untoldWithout_26 : decode cX4_untoldWithout 26 = .ok (.aload_n 0, 1) := by decide +kernel
theorem dX4_untoldWithout_27 : decode cX4_untoldWithout 27 = .ok (.getfield 23, 3) := by decide +kernel
theorem dX4_untoldWithout_30 : decode cX4_untoldWithout 30 = .ok (.lload_n 3, 1) := by decide +kernel
theorem dX4_untoldWithout_31 : decode cX4_untoldWithout 31 = .ok (.aload_n 1, 1) := by decide +kernel
theorem dX4_untoldWithout_32 : decode cX4_untoldWithout 32 = .ok (.invokevirtual 183, 3) := by decide +kernel
theorem dX4_untoldWithout_35 : decode cX4_untoldWithout 35 = .ok (.lload_n 3, 1) := by decide +kernel
theorem dX4_untoldWithout_36 : decode cX4_untoldWithout 36 = .ok (.land, 1) := by decide +kernel
theorem dX4_untoldWithout_37 : decode cX4_untoldWithout 37 = .ok (.invokevirtual 265, 3) := by decide +kernel
theorem dX4_untoldWithout_40 : decode cX4_untoldWithout 40 = .ok (.aload_n 0, 1) := by decide +kernel
theorem dX4_untoldWithout_41 : decode cX4_untoldWithout 41 = .ok (.getfield 23, 3) := by decide +kernel
theorem dX4_untoldWithout_44 : decode cX4_untoldWithout 44 = .ok (.invokevirtual 189, 3) := by decide +kernel
theorem dX4_untoldWithout_47 : decode cX4_untoldWithout 47 = .ok (.ireturn, 1) := by decide +kernel
theorem dX4_worstCell_0 : decode cX4_worstCell 0 = .ok (.iconst (-1), 1) := by decide +kernel
theorem dX4_worstCell_1 : decode cX4_worstCell 1 = .ok (.istore_n 2, 1) := by decide +kernel
theorem dX4_worstCell_2 : decode cX4_worstCell 2 = .ok (.iconst (-1), 1) := by decide +kernel
theorem dX4_worstCell_3 : decode cX4_worstCell 3 = .ok (.istore_n 3, 1) := by decide +kernel
theorem dX4_worstCell_4 : decode cX4_worstCell 4 = .ok (.iconst 0, 1) := by decide +kernel
theorem dX4_worstCell_5 : decode cX4_worstCell 5 = .ok (.istore 4, 2) := by decide +kernel
theorem dX4_worstCell_7 : decode cX4_worstCell 7 = .ok (.iload 4, 2) := by decide +kernel
theorem dX4_worstCell_9 : decode cX4_worstCell 9 = .ok (.bipush 64, 2) := by decide +kernel
theorem dX4_worstCell_11 : decode cX4_worstCell 11 = .ok (.if_icmp .ge 30, 3) := by decide +kernel
theorem dX4_worstCell_14 : decode cX4_worstCell 14 = .ok (.aload_n 0, 1) := by decide +kernel
theorem dX4_worstCell_15 : decode cX4_worstCell 15 = .ok (.aload_n 1, 1) := by decide +kernel
theorem dX4_worstCell_16 : decode cX4_worstCell 16 = .ok (.iload 4, 2) := by decide +kernel
theorem dX4_worstCell_18 : decode cX4_worstCell 18 = .ok (.invokevirtual 202, 3) := by decide +kernel
theorem dX4_worstCell_21 : decode cX4_worstCell 21 = .ok (.istore 5, 2) := by decide +kernel
theorem dX4_worstCell_23 : decode cX4_worstCell 23 = .ok (.iload 5, 2) := by decide +kernel
theorem dX4_worstCell_25 : decode cX4_worstCell 25 = .ok (.iload_n 3, 1) := by decide +kernel
theorem dX4_worstCell_26 : decode cX4_worstCell 26 = .ok (.if_icmp .le 9, 3) := by decide +kernel
theorem dX4_worstCell_29 : decode cX4_worstCell 29 = .ok (.iload 5, 2) := by decide +kernel
theorem dX4_worstCell_31 : decode cX4_worstCell 31 = .ok (.istore_n 3, 1) := by decide +kernel
theorem dX4_worstCell_32 : decode cX4_worstCell 32 = .ok (.iload 4, 2) := by decide +kernel
theorem dX4_worstCell_34 : decode cX4_worstCell 34 = .ok (.istore_n 2, 1) := by decide +kernel
theorem dX4_worstCell_35 : decode cX4_worstCell 35 = .ok (.iinc 4 1, 3) := by decide +kernel
theorem dX4_worstCell_38 : decode cX4_worstCell 38 = .ok (.goto (-31), 3) := by decide +kernel
theorem dX4_worstCell_41 : decode cX4_worstCell 41 = .ok (.iload_n 2, 1) := by decide +kernel
theorem dX4_worstCell_42 : decode cX4_worstCell 42 = .ok (.ireturn, 1) := by decide +kernel
theorem dJ5_init_d00df_0 : decode cJ5_init_d00df 0 = .ok (.aload_n 0, 1) := by decide +kernel
theorem dJ5_init_d00df_1 : decode cJ5_init_d00df 1 = .ok (.invokespecial 3, 3) := by decide +kernel
theorem dJ5_init_d00df_4 : decode cJ5_init_d00df 4 = .ok (.getstatic 18, 3) := by decide +kernel
theorem dJ5_init_d00df_7 : decode cJ5_init_d00df 7 = .ok (.ifCond .eq 18, 3) := by decide +kernel
theorem dJ5_init_d00df_10 : decode cJ5_init_d00df 10 = .ok (.aload_n 0, 1) := by decide +kernel
theorem dJ5_init_d00df_11 : decode cJ5_init_d00df 11 = .ok (.iload_n 1, 1) := by decide +kernel
theorem dJ5_init_d00df_12 : decode cJ5_init_d00df 12 = .ok (.newarray .byte, 2) := by decide +kernel
theorem dJ5_init_d00df_14 : decode cJ5_init_d00df 14 = .ok (.putfield 15, 3) := by decide +kernel
theorem dJ5_init_d00df_17 : decode cJ5_init_d00df 17 = .ok (.aload_n 0, 1) := by decide +kernel
theorem dJ5_init_d00df_18 : decode cJ5_init_d00df 18 = .ok (.iconst 0, 1) := by decide +kernel
theorem dJ5_init_d00df_19 : decode cJ5_init_d00df 19 = .ok (.putfield 22, 3) := by decide +kernel
theorem dJ5_init_d00df_22 : decode cJ5_init_d00df 22 = .ok (.goto 16, 3) := by decide +kernel
theorem dJ5_init_d00df_25 : decode cJ5_init_d00df 25 = .ok (.aload_n 0, 1) := by decide +kernel
theorem dJ5_init_d00df_26 : decode cJ5_init_d00df 26 = .ok (.iload_n 1, 1) := by decide +kernel
theorem dJ5_init_d00df_27 : decode cJ5_init_d00df 27 = .ok (.invokestatic 26, 3) := by decide +kernel
theorem dJ5_init_d00df_30 : decode cJ5_init_d00df 30 = .ok (.putfield 15, 3) := by decide +kernel
theorem dJ5_init_d00df_33 : decode cJ5_init_d00df 33 = .ok (.aload_n 0, 1) := by decide +kernel
theorem dJ5_init_d00df_34 : decode cJ5_init_d00df 34 = .ok (.iconst 1, 1) := by decide +kernel
theorem dJ5_init_d00df_35 : decode cJ5_init_d00df 35 = .ok (.putfield 22, 3) := by decide +kernel
theorem dJ5_init_d00df_38 : decode cJ5_init_d00df 38 = .ok (.return_, 1) := by decide +kernel
theorem dJ6_bitCount_0f7a4_0 : decode cJ6_bitCount_0f7a4 0 = .ok (.iload_n 0, 1) := by decide +kernel
theorem dJ6_bitCount_0f7a4_1 : decode cJ6_bitCount_0f7a4 1 = .ok (.iload_n 0, 1) := by decide +kernel
theorem dJ6_bitCount_0f7a4_2 : decode cJ6_bitCount_0f7a4 2 = .ok (.iconst 1, 1) := by decide +kernel
theorem dJ6_bitCount_0f7a4_3 : decode cJ6_bitCount_0f7a4 3 = .ok (.iushr, 1) := by decide +kernel
theorem dJ6_bitCount_0f7a4_4 : decode cJ6_bitCount_0f7a4 4 = .ok (.ldc_w 265, 3) := by decide +kernel
theorem dJ6_bitCount_0f7a4_7 : decode cJ6_bitCount_0f7a4 7 = .ok (.iand, 1) := by decide +kernel
theorem dJ6_bitCount_0f7a4_8 : decode cJ6_bitCount_0f7a4 8 = .ok (.isub, 1) := by decide +kernel
theorem dJ6_bitCount_0f7a4_9 : decode cJ6_bitCount_0f7a4 9 = .ok (.istore_n 0, 1) := by decide +kernel
theorem dJ6_bitCount_0f7a4_10 : decode cJ6_bitCount_0f7a4 10 = .ok (.iload_n 0, 1) := by decide +kernel
theorem dJ6_bitCount_0f7a4_11 : decode cJ6_bitCount_0f7a4 11 = .ok (.ldc_w 266, 3) := by decide +kernel
theorem dJ6_bitCount_0f7a4_14 : decode cJ6_bitCount_0f7a4 14 = .ok (.iand, 1) := by decide +kernel
theorem dJ6_bitCount_0f7a4_15 : decode cJ6_bitCount_0f7a4 15 = .ok (.iload_n 0, 1) := by decide +kernel
theorem dJ6_bitCount_0f7a4_16 : decode cJ6_bitCount_0f7a4 16 = .ok (.iconst 2, 1) := by decide +kernel
theorem dJ6_bitCount_0f7a4_17 : decode cJ6_bitCount_0f7a4 17 = .ok (.iushr, 1) := by decide +kernel
theorem dJ6_bitCount_0f7a4_18 : decode cJ6_bitCount_0f7a4 18 = .ok (.ldc_w 266, 3) := by decide +kernel
theorem dJ6_bitCount_0f7a4_21 : decode cJ6_bitCount_0f7a4 21 = .ok (.iand, 1) := by decide +kernel
theorem dJ6_bitCount_0f7a4_22 : decode cJ6_bitCount_0f7a4 22 = .ok (.iadd, 1) := by decide +kernel
theorem dJ6_bitCount_0f7a4_23 : decode cJ6_bitCount_0f7a4 23 = .ok (.istore_n 0, 1) := by decide +kernel
theorem dJ6_bitCount_0f7a4_24 : decode cJ6_bitCount_0f7a4 24 = .ok (.iload_n 0, 1) := by decide +kernel
theorem dJ6_bitCount_0f7a4_25 : decode cJ6_bitCount_0f7a4 25 = .ok (.iload_n 0, 1) := by decide +kernel
theorem dJ6_bitCount_0f7a4_26 : decode cJ6_bitCount_0f7a4 26 = .ok (.iconst 4, 1) := by decide +kernel
theorem dJ6_bitCount_0f7a4_27 : decode cJ6_bitCount_0f7a4 27 = .ok (.iushr, 1) := by decide +kernel
theorem dJ6_bitCount_0f7a4_28 : decode cJ6_bitCount_0f7a4 28 = .ok (.iadd, 1) := by decide +kernel
theorem dJ6_bitCount_0f7a4_29 : decode cJ6_bitCount_0f7a4 29 = .ok (.ldc_w 267, 3) := by decide +kernel
theorem dJ6_bitCount_0f7a4_32 : decode cJ6_bitCount_0f7a4 32 = .ok (.iand, 1) := by decide +kernel
theorem dJ6_bitCount_0f7a4_33 : decode cJ6_bitCount_0f7a4 33 = .ok (.istore_n 0, 1) := by decide +kernel
theorem dJ6_bitCount_0f7a4_34 : decode cJ6_bitCount_0f7a4 34 = .ok (.iload_n 0, 1) := by decide +kernel
theorem dJ6_bitCount_0f7a4_35 : decode cJ6_bitCount_0f7a4 35 = .ok (.iload_n 0, 1) := by decide +kernel
theorem dJ6_bitCount_0f7a4_36 : decode cJ6_bitCount_0f7a4 36 = .ok (.bipush 8, 2) := by decide +kernel
theorem dJ6_bitCount_0f7a4_38 : decode cJ6_bitCount_0f7a4 38 = .ok (.iushr, 1) := by decide +kernel
theorem dJ6_bitCount_0f7a4_39 : decode cJ6_bitCount_0f7a4 39 = .ok (.iadd, 1) := by decide +kernel
theorem dJ6_bitCount_0f7a4_40 : decode cJ6_bitCount_0f7a4 40 = .ok (.istore_n 0, 1) := by decide +kernel
theorem dJ6_bitCount_0f7a4_41 : decode cJ6_bitCount_0f7a4 41 = .ok (.iload_n 0, 1) := by decide +kernel
theorem dJ6_bitCount_0f7a4_42 : decode cJ6_bitCount_0f7a4 42 = .ok (.iload_n 0, 1) := by decide +kernel
theorem dJ6_bitCount_0f7a4_43 : decode cJ6_bitCount_0f7a4 43 = .ok (.bipush 16, 2) := by decide +kernel
theorem dJ6_bitCount_0f7a4_45 : decode cJ6_bitCount_0f7a4 45 = .ok (.iushr, 1) := by decide +kernel
theorem dJ6_bitCount_0f7a4_46 : decode cJ6_bitCount_0f7a4 46 = .ok (.iadd, 1) := by decide +kernel
theorem dJ6_bitCount_0f7a4_47 : decode cJ6_bitCount_0f7a4 47 = .ok (.istore_n 0, 1) := by decide +kernel
theorem dJ6_bitCount_0f7a4_48 : decode cJ6_bitCount_0f7a4 48 = .ok (.iload_n 0, 1) := by decide +kernel
theorem dJ6_bitCount_0f7a4_49 : decode cJ6_bitCount_0f7a4 49 = .ok (.bipush 63, 2) := by decide +kernel
theorem dJ6_bitCount_0f7a4_51 : decode cJ6_bitCount_0f7a4 51 = .ok (.iand, 1) := by decide +kernel
theorem dJ6_bitCount_0f7a4_52 : decode cJ6_bitCount_0f7a4 52 = .ok (.ireturn, 1) := by decide +kernel
theorem dJ13_bitCount_95d88_0 : decode cJ13_bitCount_95d88 0 = .ok (.lload_n 0, 1) := by decide +kernel
theorem dJ13_bitCount_95d88_1 : decode cJ13_bitCount_95d88 1 = .ok (.lload_n 0, 1) := by decide +kernel
theorem dJ13_bitCount_95d88_2 : decode cJ13_bitCount_95d88 2 = .ok (.iconst 1, 1) := by decide +kernel
theorem dJ13_bitCount_95d88_3 : decode cJ13_bitCount_95d88 3 = .ok (.lushr, 1) := by decide +kernel
theorem dJ13_bitCount_95d88_4 : decode cJ13_bitCount_95d88 4 = .ok (.ldc2_w 314, 3) := by decide +kernel
theorem dJ13_bitCount_95d88_7 : decode cJ13_bitCount_95d88 7 = .ok (.land, 1) := by decide +kernel
theorem dJ13_bitCount_95d88_8 : decode cJ13_bitCount_95d88 8 = .ok (.lsub, 1) := by decide +kernel
theorem dJ13_bitCount_95d88_9 : decode cJ13_bitCount_95d88 9 = .ok (.lstore_n 0, 1) := by decide +kernel
theorem dJ13_bitCount_95d88_10 : decode cJ13_bitCount_95d88 10 = .ok (.lload_n 0, 1) := by decide +kernel
theorem dJ13_bitCount_95d88_11 : decode cJ13_bitCount_95d88 11 = .ok (.ldc2_w 316, 3) := by decide +kernel
theorem dJ13_bitCount_95d88_14 : decode cJ13_bitCount_95d88 14 = .ok (.land, 1) := by decide +kernel
theorem dJ13_bitCount_95d88_15 : decode cJ13_bitCount_95d88 15 = .ok (.lload_n 0, 1) := by decide +kernel
theorem dJ13_bitCount_95d88_16 : decode cJ13_bitCount_95d88 16 = .ok (.iconst 2, 1) := by decide +kernel
theorem dJ13_bitCount_95d88_17 : decode cJ13_bitCount_95d88 17 = .ok (.lushr, 1) := by decide +kernel
theorem dJ13_bitCount_95d88_18 : decode cJ13_bitCount_95d88 18 = .ok (.ldc2_w 316, 3) := by decide +kernel
theorem dJ13_bitCount_95d88_21 : decode cJ13_bitCount_95d88 21 = .ok (.land, 1) := by decide +kernel
theorem dJ13_bitCount_95d88_22 : decode cJ13_bitCount_95d88 22 = .ok (.ladd, 1) := by decide +kernel
theorem dJ13_bitCount_95d88_23 : decode cJ13_bitCount_95d88 23 = .ok (.lstore_n 0, 1) := by decide +kernel
theorem dJ13_bitCount_95d88_24 : decode cJ13_bitCount_95d88 24 = .ok (.lload_n 0, 1) := by decide +kernel
theorem dJ13_bitCount_95d88_25 : decode cJ13_bitCount_95d88 25 = .ok (.lload_n 0, 1) := by decide +kernel
theorem dJ13_bitCount_95d88_26 : decode cJ13_bitCount_95d88 26 = .ok (.iconst 4, 1) := by decide +kernel
theorem dJ13_bitCount_95d88_27 : decode cJ13_bitCount_95d88 27 = .ok (.lushr, 1) := by decide +kernel
theorem dJ13_bitCount_95d88_28 : decode cJ13_bitCount_95d88 28 = .ok (.ladd, 1) := by decide +kernel
theorem dJ13_bitCount_95d88_29 : decode cJ13_bitCount_95d88 29 = .ok (.ldc2_w 318, 3) := by decide +kernel
theorem dJ13_bitCount_95d88_32 : decode cJ13_bitCount_95d88 32 = .ok (.land, 1) := by decide +kernel
theorem dJ13_bitCount_95d88_33 : decode cJ13_bitCount_95d88 33 = .ok (.lstore_n 0, 1) := by decide +kernel
theorem dJ13_bitCount_95d88_34 : decode cJ13_bitCount_95d88 34 = .ok (.lload_n 0, 1) := by decide +kernel
theorem dJ13_bitCount_95d88_35 : decode cJ13_bitCount_95d88 35 = .ok (.lload_n 0, 1) := by decide +kernel
theorem dJ13_bitCount_95d88_36 : decode cJ13_bitCount_95d88 36 = .ok (.bipush 8, 2) := by decide +kernel
theorem dJ13_bitCount_95d88_38 : decode cJ13_bitCount_95d88 38 = .ok (.lushr, 1) := by decide +kernel
theorem dJ13_bitCount_95d88_39 : decode cJ13_bitCount_95d88 39 = .ok (.ladd, 1) := by decide +kernel
theorem dJ13_bitCount_95d88_40 : decode cJ13_bitCount_95d88 40 = .ok (.lstore_n 0, 1) := by decide +kernel
theorem dJ13_bitCount_95d88_41 : decode cJ13_bitCount_95d88 41 = .ok (.lload_n 0, 1) := by decide +kernel
theorem dJ13_bitCount_95d88_42 : decode cJ13_bitCount_95d88 42 = .ok (.lload_n 0, 1) := by decide +kernel
theorem dJ13_bitCount_95d88_43 : decode cJ13_bitCount_95d88 43 = .ok (.bipush 16, 2) := by decide +kernel
theorem dJ13_bitCount_95d88_45 : decode cJ13_bitCount_95d88 45 = .ok (.lushr, 1) := by decide +kernel
theorem dJ13_bitCount_95d88_46 : decode cJ13_bitCount_95d88 46 = .ok (.ladd, 1) := by decide +kernel
theorem dJ13_bitCount_95d88_47 : decode cJ13_bitCount_95d88 47 = .ok (.lstore_n 0, 1) := by decide +kernel
theorem dJ13_bitCount_95d88_48 : decode cJ13_bitCount_95d88 48 = .ok (.lload_n 0, 1) := by decide +kernel
theorem dJ13_bitCount_95d88_49 : decode cJ13_bitCount_95d88 49 = .ok (.lload_n 0, 1) := by decide +kernel
theorem dJ13_bitCount_95d88_50 : decode cJ13_bitCount_95d88 50 = .ok (.bipush 32, 2) := by decide +kernel
theorem dJ13_bitCount_95d88_52 : decode cJ13_bitCount_95d88 52 = .ok (.lushr, 1) := by decide +kernel
theorem dJ13_bitCount_95d88_53 : decode cJ13_bitCount_95d88 53 = .ok (.ladd, 1) := by decide +kernel
theorem dJ13_bitCount_95d88_54 : decode cJ13_bitCount_95d88 54 = .ok (.lstore_n 0, 1) := by decide +kernel
theorem dJ13_bitCount_95d88_55 : decode cJ13_bitCount_95d88 55 = .ok (.lload_n 0, 1) := by decide +kernel
theorem dJ13_bitCount_95d88_56 : decode cJ13_bitCount_95d88 56 = .ok (.l2i, 1) := by decide +kernel
theorem dJ13_bitCount_95d88_57 : decode cJ13_bitCount_95d88 57 = .ok (.bipush 127, 2) := by decide +kernel
theorem dJ13_bitCount_95d88_59 : decode cJ13_bitCount_95d88 59 = .ok (.iand, 1) := by decide +kernel
theorem dJ13_bitCount_95d88_60 : decode cJ13_bitCount_95d88 60 = .ok (.ireturn, 1) := by decide +kernel
theorem dJ4_init_da8c8_0 : decode cJ4_init_da8c8 0 = .ok (.aload_n 0, 1) := by decide +kernel
theorem dJ4_init_da8c8_1 : decode cJ4_init_da8c8 1 = .ok (.bipush 16, 2) := by decide +kernel
theorem dJ4_init_da8c8_3 : decode cJ4_init_da8c8 3 = .ok (.invokespecial 1, 3) := by decide +kernel
theorem dJ4_init_da8c8_6 : decode cJ4_init_da8c8 6 = .ok (.return_, 1) := by decide +kernel
theorem dJ2_newBytesFor_77867_0 : decode cJ2_newBytesFor_77867 0 = .ok (.iload_n 0, 1) := by decide +kernel
theorem dJ2_newBytesFor_77867_1 : decode cJ2_newBytesFor_77867 1 = .ok (.invokestatic 11, 3) := by decide +kernel
theorem dJ2_newBytesFor_77867_4 : decode cJ2_newBytesFor_77867 4 = .ok (.newarray .byte, 2) := by decide +kernel
theorem dJ2_newBytesFor_77867_6 : decode cJ2_newBytesFor_77867 6 = .ok (.areturn, 1) := by decide +kernel
theorem dJ2_newBytesLength_0f7a4_0 : decode cJ2_newBytesLength_0f7a4 0 = .ok (.iload_n 0, 1) := by decide +kernel
theorem dJ2_newBytesLength_0f7a4_1 : decode cJ2_newBytesLength_0f7a4 1 = .ok (.ifCond .ge 11, 3) := by decide +kernel
theorem dJ2_newBytesLength_0f7a4_4 : decode cJ2_newBytesLength_0f7a4 4 = .ok (.new 17, 3) := by decide +kernel
theorem dJ2_newBytesLength_0f7a4_7 : decode cJ2_newBytesLength_0f7a4 7 = .ok (.dup, 1) := by decide +kernel
theorem dJ2_newBytesLength_0f7a4_8 : decode cJ2_newBytesLength_0f7a4 8 = .ok (.invokespecial 19, 3) := by decide +kernel
theorem dJ2_newBytesLength_0f7a4_11 : decode cJ2_newBytesLength_0f7a4 11 = .ok (.athrow, 1) := by decide +kernel
theorem dJ2_newBytesLength_0f7a4_12 : decode cJ2_newBytesLength_0f7a4 12 = .ok (.iload_n 0, 1) := by decide +kernel
theorem dJ2_newBytesLength_0f7a4_13 : decode cJ2_newBytesLength_0f7a4 13 = .ok (.ldc 20, 2) := by decide +kernel
theorem dJ2_newBytesLength_0f7a4_15 : decode cJ2_newBytesLength_0f7a4 15 = .ok (.if_icmp .lt 40, 3) := by decide +kernel
theorem dJ2_newBytesLength_0f7a4_18 : decode cJ2_newBytesLength_0f7a4 18 = .ok (.new 21, 3) := by decide +kernel
theorem dJ2_newBytesLength_0f7a4_21 : decode cJ2_newBytesLength_0f7a4 21 = .ok (.dup, 1) := by decide +kernel
theorem dJ2_newBytesLength_0f7a4_22 : decode cJ2_newBytesLength_0f7a4 22 = .ok (.new 23, 3) := by decide +kernel
theorem dJ2_newBytesLength_0f7a4_25 : decode cJ2_newBytesLength_0f7a4 25 = .ok (.dup, 1) := by decide +kernel
theorem dJ2_newBytesLength_0f7a4_26 : decode cJ2_newBytesLength_0f7a4 26 = .ok (.invokespecial 25, 3) := by decide +kernel
theorem dJ2_newBytesLength_0f7a4_29 : decode cJ2_newBytesLength_0f7a4 29 = .ok (.ldc 26, 2) := by decide +kernel
theorem dJ2_newBytesLength_0f7a4_31 : decode cJ2_newBytesLength_0f7a4 31 = .ok (.invokevirtual 28, 3) := by decide +kernel
theorem dJ2_newBytesLength_0f7a4_34 : decode cJ2_newBytesLength_0f7a4 34 = .ok (.iload_n 0, 1) := by decide +kernel
theorem dJ2_newBytesLength_0f7a4_35 : decode cJ2_newBytesLength_0f7a4 35 = .ok (.invokevirtual 32, 3) := by decide +kernel
theorem dJ2_newBytesLength_0f7a4_38 : decode cJ2_newBytesLength_0f7a4 38 = .ok (.ldc 35, 2) := by decide +kernel
theorem dJ2_newBytesLength_0f7a4_40 : decode cJ2_newBytesLength_0f7a4 40 = .ok (.invokevirtual 28, 3) := by decide +kernel
theorem dJ2_newBytesLength_0f7a4_43 : decode cJ2_newBytesLength_0f7a4 43 = .ok (.ldc 20, 2) := by decide +kernel
theorem dJ2_newBytesLength_0f7a4_45 : decode cJ2_newBytesLength_0f7a4 45 = .ok (.invokevirtual 32, 3) := by decide +kernel
theorem dJ2_newBytesLength_0f7a4_48 : decode cJ2_newBytesLength_0f7a4 48 = .ok (.invokevirtual 37, 3) := by decide +kernel
theorem dJ2_newBytesLength_0f7a4_51 : decode cJ2_newBytesLength_0f7a4 51 = .ok (.invokespecial 41, 3) := by decide +kernel
theorem dJ2_newBytesLength_0f7a4_54 : decode cJ2_newBytesLength_0f7a4 54 = .ok (.athrow, 1) := by decide +kernel
theorem dJ2_newBytesLength_0f7a4_55 : decode cJ2_newBytesLength_0f7a4 55 = .ok (.iload_n 0, 1) := by decide +kernel
theorem dJ2_newBytesLength_0f7a4_56 : decode cJ2_newBytesLength_0f7a4 56 = .ok (.iconst 1, 1) := by decide +kernel
theorem dJ2_newBytesLength_0f7a4_57 : decode cJ2_newBytesLength_0f7a4 57 = .ok (.ishl, 1) := by decide +kernel
theorem dJ2_newBytesLength_0f7a4_58 : decode cJ2_newBytesLength_0f7a4 58 = .ok (.ireturn, 1) := by decide +kernel
theorem dL_cell_0 : decode cL_cell 0 = .ok (.iload_n 1, 1) := by decide +kernel
theorem dL_cell_1 : decode cL_cell 1 = .ok (.aload_n 0, 1) := by decide +kernel
theorem dL_cell_2 : decode cL_cell 2 = .ok (.arraylength, 1) := by decide +kernel
theorem dL_cell_3 : decode cL_cell 3 = .ok (.if_icmp .ge 9, 3) := by decide +kernel
theorem dL_cell_6 : decode cL_cell 6 = .ok (.aload_n 0, 1) := by decide +kernel
theorem dL_cell_7 : decode cL_cell 7 = .ok (.iload_n 1, 1) := by decide +kernel
theorem dL_cell_8 : decode cL_cell 8 = .ok (.iaload, 1) := by decide +kernel
theorem dL_cell_9 : decode cL_cell 9 = .ok (.goto 11, 3) := by decide +kernel
theorem dL_cell_12 : decode cL_cell 12 = .ok (.ldc 7, 2) := by decide +kernel
theorem dL_cell_14 : decode cL_cell 14 = .ok (.iload_n 1, 1) := by decide +kernel
theorem dL_cell_15 : decode cL_cell 15 = .ok (.sipush 317, 3) := by decide +kernel
theorem dL_cell_18 : decode cL_cell 18 = .ok (.iadd, 1) := by decide +kernel
theorem dL_cell_19 : decode cL_cell 19 = .ok (.imul, 1) := by decide +kernel
theorem dL_cell_20 : decode cL_cell 20 = .ok (.ireturn, 1) := by decide +kernel
theorem dL_up_0 : decode cL_up 0 = .ok (.iload_n 0, 1) := by decide +kernel
theorem dL_up_1 : decode cL_up 1 = .ok (.ldc 8, 2) := by decide +kernel
theorem dL_up_3 : decode cL_up 3 = .ok (.iand, 1) := by decide +kernel
theorem dL_up_4 : decode cL_up 4 = .ok (.iload_n 1, 1) := by decide +kernel
theorem dL_up_5 : decode cL_up 5 = .ok (.irem, 1) := by decide +kernel
theorem dL_up_6 : decode cL_up 6 = .ok (.ireturn, 1) := by decide +kernel
theorem dL_kinds_0 : decode cL_kinds 0 = .ok (.ldc2_w 9, 3) := by decide +kernel
theorem dL_kinds_3 : decode cL_kinds 3 = .ok (.lstore_n 1, 1) := by decide +kernel
theorem dL_kinds_4 : decode cL_kinds 4 = .ok (.iconst 0, 1) := by decide +kernel
theorem dL_kinds_5 : decode cL_kinds 5 = .ok (.istore_n 3, 1) := by decide +kernel
theorem dL_kinds_6 : decode cL_kinds 6 = .ok (.iload_n 3, 1) := by decide +kernel
theorem dL_kinds_7 : decode cL_kinds 7 = .ok (.sipush 192, 3) := by decide +kernel
theorem dL_kinds_10 : decode cL_kinds 10 = .ok (.if_icmp .ge 36, 3) := by decide +kernel
theorem dL_kinds_13 : decode cL_kinds 13 = .ok (.ldc2_w 11, 3) := by decide +kernel
theorem dL_kinds_16 : decode cL_kinds 16 = .ok (.lload_n 1, 1) := by decide +kernel
theorem dL_kinds_17 : decode cL_kinds 17 = .ok (.lmul, 1) := by decide +kernel
theorem dL_kinds_18 : decode cL_kinds 18 = .ok (.aload_n 0, 1) := by decide +kernel
theorem dL_kinds_19 : decode cL_kinds 19 = .ok (.iload_n 3, 1) := by decide +kernel
theorem dL_kinds_20 : decode cL_kinds 20 = .ok (.bipush 64, 2) := by decide +kernel
theorem dL_kinds_22 : decode cL_kinds 22 = .ok (.idiv, 1) := by decide +kernel
theorem dL_kinds_23 : decode cL_kinds 23 = .ok (.iload_n 3, 1) := by decide +kernel
theorem dL_kinds_24 : decode cL_kinds 24 = .ok (.bipush 8, 2) := by decide +kernel
theorem dL_kinds_26 : decode cL_kinds 26 = .ok (.idiv, 1) := by decide +kernel
theorem dL_kinds_27 : decode cL_kinds 27 = .ok (.bipush 8, 2) := by decide +kernel
theorem dL_kinds_29 : decode cL_kinds 29 = .ok (.irem, 1) := by decide +kernel
theorem dL_kinds_30 : decode cL_kinds 30 = .ok (.iload_n 3, 1) := by decide +kernel
theorem dL_kinds_31 : decode cL_kinds 31 = .ok (.bipush 8, 2) := by decide +kernel
theorem dL_kinds_33 : decode cL_kinds 33 = .ok (.irem, 1) := by decide +kernel
theorem dL_kinds_34 : decode cL_kinds 34 = .ok (.invokevirtual 13, 3) := by decide +kernel
theorem dL_kinds_37 : decode cL_kinds 37 = .ok (.i2l, 1) := by decide +kernel
theorem dL_kinds_38 : decode cL_kinds 38 = .ok (.ladd, 1) := by decide +kernel
theorem dL_kinds_39 : decode cL_kinds 39 = .ok (.lstore_n 1, 1) := by decide +kernel
theorem dL_kinds_40 : decode cL_kinds 40 = .ok (.iinc 3 1, 3) := by decide +kernel
theorem dL_kinds_43 : decode cL_kinds 43 = .ok (.goto (-37), 3) := by decide +kernel
theorem dL_kinds_46 : decode cL_kinds 46 = .ok (.ldc2_w 11, 3) := by decide +kernel
theorem dL_kinds_49 : decode cL_kinds 49 = .ok (.ldc2_w 11, 3) := by decide +kernel
theorem dL_kinds_52 : decode cL_kinds 52 = .ok (.ldc2_w 11, 3) := by decide +kernel
theorem dL_kinds_55 : decode cL_kinds 55 = .ok (.lload_n 1, 1) := by decide +kernel
theorem dL_kinds_56 : decode cL_kinds 56 = .ok (.lmul, 1) := by decide +kernel
theorem dL_kinds_57 : decode cL_kinds 57 = .ok (.aload_n 0, 1) := by decide +kernel
theorem dL_kinds_58 : decode cL_kinds 58 = .ok (.iconst 0, 1) := by decide +kernel
theorem dL_kinds_59 : decode cL_kinds 59 = .ok (.invokevirtual 19, 3) := by decide +kernel
theorem dL_kinds_62 : decode cL_kinds 62 = .ok (.i2l, 1) := by decide +kernel
theorem dL_kinds_63 : decode cL_kinds 63 = .ok (.ladd, 1) := by decide +kernel
theorem dL_kinds_64 : decode cL_kinds 64 = .ok (.lmul, 1) := by decide +kernel
theorem dL_kinds_65 : decode cL_kinds 65 = .ok (.aload_n 0, 1) := by decide +kernel
theorem dL_kinds_66 : decode cL_kinds 66 = .ok (.iconst 1, 1) := by decide +kernel
theorem dL_kinds_67 : decode cL_kinds 67 = .ok (.invokevirtual 19, 3) := by decide +kernel
theorem dL_kinds_70 : decode cL_kinds 70 = .ok (.i2l, 1) := by decide +kernel
theorem dL_kinds_71 : decode cL_kinds 71 = .ok (.ladd, 1) := by decide +kernel
theorem dL_kinds_72 : decode cL_kinds 72 = .ok (.lmul, 1) := by decide +kernel
theorem dL_kinds_73 : decode cL_kinds 73 = .ok (.aload_n 0, 1) := by decide +kernel
theorem dL_kinds_74 : decode cL_kinds 74 = .ok (.iconst 2, 1) := by decide +kernel
theorem dL_kinds_75 : decode cL_kinds 75 = .ok (.invokevirtual 19, 3) := by decide +kernel
theorem dL_kinds_78 : decode cL_kinds 78 = .ok (.i2l, 1) := by decide +kernel
theorem dL_kinds_79 : decode cL_kinds 79 = .ok (.ladd, 1) := by decide +kernel
theorem dL_kinds_80 : decode cL_kinds 80 = .ok (.lreturn, 1) := by decide +kernel
theorem dL_isBlank_0 : decode cL_isBlank 0 = .ok (.iconst 1, 1) := by decide +kernel
theorem dL_isBlank_1 : decode cL_isBlank 1 = .ok (.istore_n 3, 1) := by decide +kernel
theorem dL_isBlank_2 : decode cL_isBlank 2 = .ok (.iconst 0, 1) := by decide +kernel
theorem dL_isBlank_3 : decode cL_isBlank 3 = .ok (.istore 4, 2) := by decide +kernel
theorem dL_isBlank_5 : decode cL_isBlank 5 = .ok (.iload 4, 2) := by decide +kernel
theorem dL_isBlank_7 : decode cL_isBlank 7 = .ok (.bipush 8, 2) := by decide +kernel
theorem dL_isBlank_9 : decode cL_isBlank 9 = .ok (.if_icmp .ge 31, 3) := by decide +kernel
theorem dL_isBlank_12 : decode cL_isBlank 12 = .ok (.iload_n 3, 1) := by decide +kernel
theorem dL_isBlank_13 : decode cL_isBlank 13 = .ok (.ifCond .eq 19, 3) := by decide +kernel
theorem dL_isBlank_16 : decode cL_isBlank 16 = .ok (.aload_n 0, 1) := by decide +kernel
theorem dL_isBlank_17 : decode cL_isBlank 17 = .ok (.iload_n 1, 1) := by decide +kernel
theorem dL_isBlank_18 : decode cL_isBlank 18 = .ok (.iload_n 2, 1) := by decide +kernel
theorem dL_isBlank_19 : decode cL_isBlank 19 = .ok (.iload 4, 2) := by decide +kernel
theorem dL_isBlank_21 : decode cL_isBlank 21 = .ok (.invokevirtual 13, 3) := by decide +kernel
theorem dL_isBlank_24 : decode cL_isBlank 24 = .ok (.iconst 2, 1) := by decide +kernel
theorem dL_isBlank_25 : decode cL_isBlank 25 = .ok (.if_icmp .ne 7, 3) := by decide +kernel
theorem dL_isBlank_28 : decode cL_isBlank 28 = .ok (.iconst 1, 1) := by decide +kernel
theorem dL_isBlank_29 : decode cL_isBlank 29 = .ok (.goto 4, 3) := by decide +kernel
theorem dL_isBlank_32 : decode cL_isBlank 32 = .ok (.iconst 0, 1) := by decide +kernel
theorem dL_isBlank_33 : decode cL_isBlank 33 = .ok (.istore_n 3, 1) := by decide +kernel
theorem dL_isBlank_34 : decode cL_isBlank 34 = .ok (.iinc 4 1, 3) := by decide +kernel
theorem dL_isBlank_37 : decode cL_isBlank 37 = .ok (.goto (-32), 3) := by decide +kernel
theorem dL_isBlank_40 : decode cL_isBlank 40 = .ok (.iload_n 3, 1) := by decide +kernel
theorem dL_isBlank_41 : decode cL_isBlank 41 = .ok (.ireturn, 1) := by decide +kernel
theorem dL_canClose_0 : decode cL_canClose 0 = .ok (.aload_n 0, 1) := by decide +kernel
theorem dL_canClose_1 : decode cL_canClose 1 = .ok (.iload_n 1, 1) := by decide +kernel
theorem dL_canClose_2 : decode cL_canClose 2 = .ok (.bipush 7, 2) := by decide +kernel
theorem dL_canClose_4 : decode cL_canClose 4 = .ok (.invokestatic 23, 3) := by decide +kernel
theorem dL_canClose_7 : decode cL_canClose 7 = .ok (.istore_n 2, 1) := by decide +kernel
theorem dL_canClose_8 : decode cL_canClose 8 = .ok (.iconst 0, 1) := by decide +kernel
theorem dL_canClose_9 : decode cL_canClose 9 = .ok (.istore_n 3, 1) := by decide +kernel
theorem dL_canClose_10 : decode cL_canClose 10 = .ok (.iload_n 3, 1) := by decide +kernel
theorem dL_canClose_11 : decode cL_canClose 11 = .ok (.bipush 56, 2) := by decide +kernel
theorem dL_canClose_13 : decode cL_canClose 13 = .ok (.if_icmp .ge 36, 3) := by decide +kernel
theorem dL_canClose_16 : decode cL_canClose 16 = .ok (.iload_n 2, 1) := by decide +kernel
theorem dL_canClose_17 : decode cL_canClose 17 = .ok (.ifCond .eq 24, 3) := by decide +kernel
theorem dL_canClose_20 : decode cL_canClose 20 = .ok (.aload_n 0, 1) := by decide +kernel
theorem dL_canClose_21 : decode cL_canClose 21 = .ok (.iload_n 1, 1) := by decide +kernel
theorem dL_canClose_22 : decode cL_canClose 22 = .ok (.iload_n 3, 1) := by decide +kernel
theorem dL_canClose_23 : decode cL_canClose 23 = .ok (.bipush 8, 2) := by decide +kernel
theorem dL_canClose_25 : decode cL_canClose 25 = .ok (.idiv, 1) := by decide +kernel
theorem dL_canClose_26 : decode cL_canClose 26 = .ok (.iload_n 3, 1) := by decide +kernel
theorem dL_canClose_27 : decode cL_canClose 27 = .ok (.bipush 8, 2) := by decide +kernel
theorem dL_canClose_29 : decode cL_canClose 29 = .ok (.irem, 1) := by decide +kernel
theorem dL_canClose_30 : decode cL_canClose 30 = .ok (.invokevirtual 13, 3) := by decide +kernel
theorem dL_canClose_33 : decode cL_canClose 33 = .ok (.iconst 2, 1) := by decide +kernel
theorem dL_canClose_34 : decode cL_canClose 34 = .ok (.if_icmp .ge 7, 3) := by decide +kernel
theorem dL_canClose_37 : decode cL_canClose 37 = .ok (.iconst 1, 1) := by decide +kernel
theorem dL_canClose_38 : decode cL_canClose 38 = .ok (.goto 4, 3) := by decide +kernel
theorem dL_canClose_41 : decode cL_canClose 41 = .ok (.iconst 0, 1) := by decide +kernel
theorem dL_canClose_42 : decode cL_canClose 42 = .ok (.istore_n 2, 1) := by decide +kernel
theorem dL_canClose_43 : decode cL_canClose 43 = .ok (.iinc 3 1, 3) := by decide +kernel
theorem dL_canClose_46 : decode cL_canClose 46 = .ok (.goto (-36), 3) := by decide +kernel
theorem dL_canClose_49 : decode cL_canClose 49 = .ok (.iload_n 2, 1) := by decide +kernel
theorem dL_canClose_50 : decode cL_canClose 50 = .ok (.ireturn, 1) := by decide +kernel
theorem dL_acts_0 : decode cL_acts 0 = .ok (.iload_n 2, 1) := by decide +kernel
theorem dL_acts_1 : decode cL_acts 1 = .ok (.iconst 3, 1) := by decide +kernel
theorem dL_acts_2 : decode cL_acts 2 = .ok (.invokestatic 29, 3) := by decide +kernel
theorem dL_acts_5 : decode cL_acts 5 = .ok (.istore_n 3, 1) := by decide +kernel
theorem dL_acts_6 : decode cL_acts 6 = .ok (.iload_n 2, 1) := by decide +kernel
theorem dL_acts_7 : decode cL_acts 7 = .ok (.iconst 2, 1) := by decide +kernel
theorem dL_acts_8 : decode cL_acts 8 = .ok (.ishr, 1) := by decide +kernel
theorem dL_acts_9 : decode cL_acts 9 = .ok (.bipush 8, 2) := by decide +kernel
theorem dL_acts_11 : decode cL_acts 11 = .ok (.invokestatic 29, 3) := by decide +kernel
theorem dL_acts_14 : decode cL_acts 14 = .ok (.istore 4, 2) := by decide +kernel
theorem dL_acts_16 : decode cL_acts 16 = .ok (.iload_n 2, 1) := by decide +kernel
theorem dL_acts_17 : decode cL_acts 17 = .ok (.iconst 5, 1) := by decide +kernel
theorem dL_acts_18 : decode cL_acts 18 = .ok (.ishr, 1) := by decide +kernel
theorem dL_acts_19 : decode cL_acts 19 = .ok (.bipush 8, 2) := by decide +kernel
theorem dL_acts_21 : decode cL_acts 21 = .ok (.invokestatic 29, 3) := by decide +kernel
theorem dL_acts_24 : decode cL_acts 24 = .ok (.istore 5, 2) := by decide +kernel
theorem dL_acts_26 : decode cL_acts 26 = .ok (.aload_n 0, 1) := by decide +kernel
theorem dL_acts_27 : decode cL_acts 27 = .ok (.iload_n 3, 1) := by decide +kernel
theorem dL_acts_28 : decode cL_acts 28 = .ok (.invokevirtual 19, 3) := by decide +kernel
theorem dL_acts_31 : decode cL_acts 31 = .ok (.istore 6, 2) := by decide +kernel
theorem dL_acts_33 : decode cL_acts 33 = .ok (.iload_n 1, 1) := by decide +kernel
theorem dL_acts_34 : decode cL_acts 34 = .ok (.bipush 16, 2) := by decide +kernel
theorem dL_acts_36 : decode cL_acts 36 = .ok (.invokestatic 29, 3) := by decide +kernel
theorem dL_acts_39 : decode cL_acts 39 = .ok (.tableswitch 461 0 7 #[45, 78, 159, 288, 288, 340, 340, 340], 45) := by decide +kernel
theorem dL_acts_84 : decode cL_acts 84 = .ok (.aload_n 0, 1) := by decide +kernel
theorem dL_acts_85 : decode cL_acts 85 = .ok (.iload_n 3, 1) := by decide +kernel
theorem dL_acts_86 : decode cL_acts 86 = .ok (.invokevirtual 33, 3) := by decide +kernel
theorem dL_acts_89 : decode cL_acts 89 = .ok (.ifCond .lt 26, 3) := by decide +kernel
theorem dL_acts_92 : decode cL_acts 92 = .ok (.aload_n 0, 1) := by decide +kernel
theorem dL_acts_93 : decode cL_acts 93 = .ok (.iload_n 3, 1) := by decide +kernel
theorem dL_acts_94 : decode cL_acts 94 = .ok (.iconst 2, 1) := by decide +kernel
theorem dL_acts_95 : decode cL_acts 95 = .ok (.invokevirtual 36, 3) := by decide +kernel
theorem dL_acts_98 : decode cL_acts 98 = .ok (.bipush 64, 2) := by decide +kernel
theorem dL_acts_100 : decode cL_acts 100 = .ok (.if_icmp .ne 15, 3) := by decide +kernel
theorem dL_acts_103 : decode cL_acts 103 = .ok (.aload_n 0, 1) := by decide +kernel
theorem dL_acts_104 : decode cL_acts 104 = .ok (.iload_n 3, 1) := by decide +kernel
theorem dL_acts_105 : decode cL_acts 105 = .ok (.invokevirtual 19, 3) := by decide +kernel
theorem dL_acts_108 : decode cL_acts 108 = .ok (.ifCond .ne 7, 3) := by decide +kernel
theorem dL_acts_111 : decode cL_acts 111 = .ok (.iconst 1, 1) := by decide +kernel
theorem dL_acts_112 : decode cL_acts 112 = .ok (.goto 4, 3) := by decide +kernel
theorem dL_acts_115 : decode cL_acts 115 = .ok (.iconst 0, 1) := by decide +kernel
theorem dL_acts_116 : decode cL_acts 116 = .ok (.ireturn, 1) := by decide +kernel
theorem dL_acts_117 : decode cL_acts 117 = .ok (.iload_n 3, 1) := by decide +kernel
theorem dL_acts_118 : decode cL_acts 118 = .ok (.iconst 1, 1) := by decide +kernel
theorem dL_acts_119 : decode cL_acts 119 = .ok (.iadd, 1) := by decide +kernel
theorem dL_acts_120 : decode cL_acts 120 = .ok (.iload_n 2, 1) := by decide +kernel
theorem dL_acts_121 : decode cL_acts 121 = .ok (.iconst 2, 1) := by decide +kernel
theorem dL_acts_122 : decode cL_acts 122 = .ok (.ishr, 1) := by decide +kernel
theorem dL_acts_123 : decode cL_acts 123 = .ok (.iconst 2, 1) := by decide +kernel
theorem dL_acts_124 : decode cL_acts 124 = .ok (.invokestatic 29, 3) := by decide +kernel
theorem dL_acts_127 : decode cL_acts 127 = .ok (.iadd, 1) := by decide +kernel
theorem dL_acts_128 : decode cL_acts 128 = .ok (.iconst 3, 1) := by decide +kernel
theorem dL_acts_129 : decode cL_acts 129 = .ok (.irem, 1) := by decide +kernel
theorem dL_acts_130 : decode cL_acts 130 = .ok (.istore 7, 2) := by decide +kernel
theorem dL_acts_132 : decode cL_acts 132 = .ok (.aload_n 0, 1) := by decide +kernel
theorem dL_acts_133 : decode cL_acts 133 = .ok (.iload_n 3, 1) := by decide +kernel
theorem dL_acts_134 : decode cL_acts 134 = .ok (.invokevirtual 39, 3) := by decide +kernel
theorem dL_acts_137 : decode cL_acts 137 = .ok (.istore 8, 2) := by decide +kernel
theorem dL_acts_139 : decode cL_acts 139 = .ok (.aload_n 0, 1) := by decide +kernel
theorem dL_acts_140 : decode cL_acts 140 = .ok (.iload_n 3, 1) := by decide +kernel
theorem dL_acts_141 : decode cL_acts 141 = .ok (.iload 7, 2) := by decide +kernel
theorem dL_acts_143 : decode cL_acts 143 = .ok (.invokevirtual 42, 3) := by decide +kernel
theorem dL_acts_146 : decode cL_acts 146 = .ok (.iload 8, 2) := by decide +kernel
theorem dL_acts_148 : decode cL_acts 148 = .ok (.if_icmp .ne 48, 3) := by decide +kernel
theorem dL_acts_151 : decode cL_acts 151 = .ok (.aload_n 0, 1) := by decide +kernel
theorem dL_acts_152 : decode cL_acts 152 = .ok (.iload 7, 2) := by decide +kernel
theorem dL_acts_154 : decode cL_acts 154 = .ok (.iconst 2, 1) := by decide +kernel
theorem dL_acts_155 : decode cL_acts 155 = .ok (.invokevirtual 36, 3) := by decide +kernel
theorem dL_acts_158 : decode cL_acts 158 = .ok (.iload 8, 2) := by decide +kernel
theorem dL_acts_160 : decode cL_acts 160 = .ok (.if_icmp .ne 36, 3) := by decide +kernel
theorem dL_acts_163 : decode cL_acts 163 = .ok (.aload_n 0, 1) := by decide +kernel
theorem dL_acts_164 : decode cL_acts 164 = .ok (.iload 7, 2) := by decide +kernel
theorem dL_acts_166 : decode cL_acts 166 = .ok (.iconst 3, 1) := by decide +kernel
theorem dL_acts_167 : decode cL_acts 167 = .ok (.invokevirtual 36, 3) := by decide +kernel
theorem dL_acts_170 : decode cL_acts 170 = .ok (.ifCond .ne 26, 3) := by decide +kernel
theorem dL_acts_173 : decode cL_acts 173 = .ok (.aload_n 0, 1) := by decide +kernel
theorem dL_acts_174 : decode cL_acts 174 = .ok (.iload_n 3, 1) := by decide +kernel
theorem dL_acts_175 : decode cL_acts 175 = .ok (.iload 7, 2) := by decide +kernel
theorem dL_acts_177 : decode cL_acts 177 = .ok (.invokevirtual 45, 3) := by decide +kernel
theorem dL_acts_180 : decode cL_acts 180 = .ok (.ifCond .ne 16, 3) := by decide +kernel
theorem dL_acts_183 : decode cL_acts 183 = .ok (.aload_n 0, 1) := by decide +kernel
theorem dL_acts_184 : decode cL_acts 184 = .ok (.iload 7, 2) := by decide +kernel
theorem dL_acts_186 : decode cL_acts 186 = .ok (.invokevirtual 19, 3) := by decide +kernel
theorem dL_acts_189 : decode cL_acts 189 = .ok (.ifCond .ne 7, 3) := by decide +kernel
theorem dL_acts_192 : decode cL_acts 192 = .ok (.iconst 1, 1) := by decide +kernel
theorem dL_acts_193 : decode cL_acts 193 = .ok (.goto 4, 3) := by decide +kernel
theorem dL_acts_196 : decode cL_acts 196 = .ok (.iconst 0, 1) := by decide +kernel
theorem dL_acts_197 : decode cL_acts 197 = .ok (.ireturn, 1) := by decide +kernel
theorem dL_acts_198 : decode cL_acts 198 = .ok (.aload_n 0, 1) := by decide +kernel
theorem dL_acts_199 : decode cL_acts 199 = .ok (.invokestatic 48, 3) := by decide +kernel
theorem dL_acts_202 : decode cL_acts 202 = .ok (.aload_n 0, 1) := by decide +kernel
theorem dL_acts_203 : decode cL_acts 203 = .ok (.iconst 2, 1) := by decide +kernel
theorem dL_acts_204 : decode cL_acts 204 = .ok (.invokevirtual 19, 3) := by decide +kernel
theorem dL_acts_207 : decode cL_acts 207 = .ok (.i2l, 1) := by decide +kernel
theorem dL_acts_208 : decode cL_acts 208 = .ok (.lsub, 1) := by decide +kernel
theorem dL_acts_209 : decode cL_acts 209 = .ok (.ldc2_w 11, 3) := by decide +kernel
theorem dL_acts_212 : decode cL_acts 212 = .ok (.aload_n 0, 1) := by decide +kernel
theorem dL_acts_213 : decode cL_acts 213 = .ok (.iconst 1, 1) := by decide +kernel
theorem dL_acts_214 : decode cL_acts 214 = .ok (.invokevirtual 19, 3) := by decide +kernel
theorem dL_acts_217 : decode cL_acts 217 = .ok (.i2l, 1) := by decide +kernel
theorem dL_acts_218 : decode cL_acts 218 = .ok (.lmul, 1) := by decide +kernel
theorem dL_acts_219 : decode cL_acts 219 = .ok (.lsub, 1) := by decide +kernel
theorem dL_acts_220 : decode cL_acts 220 = .ok (.ldc2_w 52, 3) := by decide +kernel
theorem dL_acts_223 : decode cL_acts 223 = .ok (.aload_n 0, 1) := by decide +kernel
theorem dL_acts_224 : decode cL_acts 224 = .ok (.iconst 0, 1) := by decide +kernel
theorem dL_acts_225 : decode cL_acts 225 = .ok (.invokevirtual 19, 3) := by decide +kernel
theorem dL_acts_228 : decode cL_acts 228 = .ok (.i2l, 1) := by decide +kernel
theorem dL_acts_229 : decode cL_acts 229 = .ok (.lmul, 1) := by decide +kernel
theorem dL_acts_230 : decode cL_acts 230 = .ok (.lsub, 1) := by decide +kernel
theorem dL_acts_231 : decode cL_acts 231 = .ok (.lstore 9, 2) := by decide +kernel
theorem dL_acts_233 : decode cL_acts 233 = .ok (.aload_n 0, 1) := by decide +kernel
theorem dL_acts_234 : decode cL_acts 234 = .ok (.iload_n 3, 1) := by decide +kernel
theorem dL_acts_235 : decode cL_acts 235 = .ok (.invokevirtual 39, 3) := by decide +kernel
theorem dL_acts_238 : decode cL_acts 238 = .ok (.istore 11, 2) := by decide +kernel
theorem dL_acts_240 : decode cL_acts 240 = .ok (.aload_n 0, 1) := by decide +kernel
theorem dL_acts_241 : decode cL_acts 241 = .ok (.iload_n 3, 1) := by decide +kernel
theorem dL_acts_242 : decode cL_acts 242 = .ok (.iload_n 2, 1) := by decide +kernel
theorem dL_acts_243 : decode cL_acts 243 = .ok (.iconst 2, 1) := by decide +kernel
theorem dL_acts_244 : decode cL_acts 244 = .ok (.ishr, 1) := by decide +kernel
theorem dL_acts_245 : decode cL_acts 245 = .ok (.iconst 4, 1) := by decide +kernel
theorem dL_acts_246 : decode cL_acts 246 = .ok (.invokestatic 29, 3) := by decide +kernel
theorem dL_acts_249 : decode cL_acts 249 = .ok (.invokevirtual 54, 3) := by decide +kernel
theorem dL_acts_252 : decode cL_acts 252 = .ok (.iload 6, 2) := by decide +kernel
theorem dL_acts_254 : decode cL_acts 254 = .ok (.if_icmp .ne 71, 3) := by decide +kernel
theorem dL_acts_257 : decode cL_acts 257 = .ok (.aload_n 0, 1) := by decide +kernel
theorem dL_acts_258 : decode cL_acts 258 = .ok (.iload_n 3, 1) := by decide +kernel
theorem dL_acts_259 : decode cL_acts 259 = .ok (.invokevirtual 19, 3) := by decide +kernel
theorem dL_acts_262 : decode cL_acts 262 = .ok (.iload_n 2, 1) := by decide +kernel
theorem dL_acts_263 : decode cL_acts 263 = .ok (.iconst 2, 1) := by decide +kernel
theorem dL_acts_264 : decode cL_acts 264 = .ok (.ishr, 1) := by decide +kernel
theorem dL_acts_265 : decode cL_acts 265 = .ok (.iconst 4, 1) := by decide +kernel
theorem dL_acts_266 : decode cL_acts 266 = .ok (.invokestatic 29, 3) := by decide +kernel
theorem dL_acts_269 : decode cL_acts 269 = .ok (.if_icmp .ne 56, 3) := by decide +kernel
theorem dL_acts_272 : decode cL_acts 272 = .ok (.aload_n 0, 1) := by decide +kernel
theorem dL_acts_273 : decode cL_acts 273 = .ok (.invokestatic 48, 3) := by decide +kernel
theorem dL_acts_276 : decode cL_acts 276 = .ok (.aload_n 0, 1) := by decide +kernel
theorem dL_acts_277 : decode cL_acts 277 = .ok (.iconst 2, 1) := by decide +kernel
theorem dL_acts_278 : decode cL_acts 278 = .ok (.invokevirtual 19, 3) := by decide +kernel
theorem dL_acts_281 : decode cL_acts 281 = .ok (.i2l, 1) := by decide +kernel
theorem dL_acts_282 : decode cL_acts 282 = .ok (.lsub, 1) := by decide +kernel
theorem dL_acts_283 : decode cL_acts 283 = .ok (.ldc2_w 11, 3) := by decide +kernel
theorem dL_acts_286 : decode cL_acts 286 = .ok (.aload_n 0, 1) := by decide +kernel
theorem dL_acts_287 : decode cL_acts 287 = .ok (.iconst 1, 1) := by decide +kernel
theorem dL_acts_288 : decode cL_acts 288 = .ok (.invokevirtual 19, 3) := by decide +kernel
theorem dL_acts_291 : decode cL_acts 291 = .ok (.i2l, 1) := by decide +kernel
theorem dL_acts_292 : decode cL_acts 292 = .ok (.lmul, 1) := by decide +kernel
theorem dL_acts_293 : decode cL_acts 293 = .ok (.lsub, 1) := by decide +kernel
theorem dL_acts_294 : decode cL_acts 294 = .ok (.ldc2_w 52, 3) := by decide +kernel
theorem dL_acts_297 : decode cL_acts 297 = .ok (.aload_n 0, 1) := by decide +kernel
theorem dL_acts_298 : decode cL_acts 298 = .ok (.iconst 0, 1) := by decide +kernel
theorem dL_acts_299 : decode cL_acts 299 = .ok (.invokevirtual 19, 3) := by decide +kernel
theorem dL_acts_302 : decode cL_acts 302 = .ok (.i2l, 1) := by decide +kernel
theorem dL_acts_303 : decode cL_acts 303 = .ok (.lmul, 1) := by decide +kernel
theorem dL_acts_304 : decode cL_acts 304 = .ok (.lsub, 1) := by decide +kernel
theorem dL_acts_305 : decode cL_acts 305 = .ok (.lload 9, 2) := by decide +kernel
theorem dL_acts_307 : decode cL_acts 307 = .ok (.lcmp, 1) := by decide +kernel
theorem dL_acts_308 : decode cL_acts 308 = .ok (.ifCond .ne 17, 3) := by decide +kernel
theorem dL_acts_311 : decode cL_acts 311 = .ok (.aload_n 0, 1) := by decide +kernel
theorem dL_acts_312 : decode cL_acts 312 = .ok (.iload_n 3, 1) := by decide +kernel
theorem dL_acts_313 : decode cL_acts 313 = .ok (.invokevirtual 39, 3) := by decide +kernel
theorem dL_acts_316 : decode cL_acts 316 = .ok (.iload 11, 2) := by decide +kernel
theorem dL_acts_318 : decode cL_acts 318 = .ok (.if_icmp .ne 7, 3) := by decide +kernel
theorem dL_acts_321 : decode cL_acts 321 = .ok (.iconst 1, 1) := by decide +kernel
theorem dL_acts_322 : decode cL_acts 322 = .ok (.goto 4, 3) := by decide +kernel
theorem dL_acts_325 : decode cL_acts 325 = .ok (.iconst 0, 1) := by decide +kernel
theorem dL_acts_326 : decode cL_acts 326 = .ok (.ireturn, 1) := by decide +kernel
theorem dL_acts_327 : decode cL_acts 327 = .ok (.aload_n 0, 1) := by decide +kernel
theorem dL_acts_328 : decode cL_acts 328 = .ok (.iload_n 3, 1) := by decide +kernel
theorem dL_acts_329 : decode cL_acts 329 = .ok (.invokestatic 57, 3) := by decide +kernel
theorem dL_acts_332 : decode cL_acts 332 = .ok (.ifCond .eq 29, 3) := by decide +kernel
theorem dL_acts_335 : decode cL_acts 335 = .ok (.aload_n 0, 1) := by decide +kernel
theorem dL_acts_336 : decode cL_acts 336 = .ok (.iload_n 3, 1) := by decide +kernel
theorem dL_acts_337 : decode cL_acts 337 = .ok (.invokevirtual 61, 3) := by decide +kernel
theorem dL_acts_340 : decode cL_acts 340 = .ok (.ifCond .lt 17, 3) := by decide +kernel
theorem dL_acts_343 : decode cL_acts 343 = .ok (.aload_n 0, 1) := by decide +kernel
theorem dL_acts_344 : decode cL_acts 344 = .ok (.iload_n 3, 1) := by decide +kernel
theorem dL_acts_345 : decode cL_acts 345 = .ok (.invokevirtual 64, 3) := by decide +kernel
theorem dL_acts_348 : decode cL_acts 348 = .ok (.dconst 1, 1) := by decide +kernel
theorem dL_acts_349 : decode cL_acts 349 = .ok (.dcmp .l, 1) := by decide +kernel
theorem dL_acts_350 : decode cL_acts 350 = .ok (.ifCond .ne 7, 3) := by decide +kernel
theorem dL_acts_353 : decode cL_acts 353 = .ok (.iconst 1, 1) := by decide +kernel
theorem dL_acts_354 : decode cL_acts 354 = .ok (.goto 24, 3) := by decide +kernel
theorem dL_acts_357 : decode cL_acts 357 = .ok (.iconst 0, 1) := by decide +kernel
theorem dL_acts_358 : decode cL_acts 358 = .ok (.goto 20, 3) := by decide +kernel
theorem dL_acts_361 : decode cL_acts 361 = .ok (.aload_n 0, 1) := by decide +kernel
theorem dL_acts_362 : decode cL_acts 362 = .ok (.iload_n 3, 1) := by decide +kernel
theorem dL_acts_363 : decode cL_acts 363 = .ok (.iload 6, 2) := by decide +kernel
theorem dL_acts_365 : decode cL_acts 365 = .ok (.invokevirtual 54, 3) := by decide +kernel
theorem dL_acts_368 : decode cL_acts 368 = .ok (.iload 6, 2) := by decide +kernel
theorem dL_acts_370 : decode cL_acts 370 = .ok (.if_icmp .ne 7, 3) := by decide +kernel
theorem dL_acts_373 : decode cL_acts 373 = .ok (.iconst 1, 1) := by decide +kernel
theorem dL_acts_374 : decode cL_acts 374 = .ok (.goto 4, 3) := by decide +kernel
theorem dL_acts_377 : decode cL_acts 377 = .ok (.iconst 0, 1) := by decide +kernel
theorem dL_acts_378 : decode cL_acts 378 = .ok (.ireturn, 1) := by decide +kernel
theorem dL_acts_379 : decode cL_acts 379 = .ok (.aload_n 0, 1) := by decide +kernel
theorem dL_acts_380 : decode cL_acts 380 = .ok (.iload_n 3, 1) := by decide +kernel
theorem dL_acts_381 : decode cL_acts 381 = .ok (.iload 4, 2) := by decide +kernel
theorem dL_acts_383 : decode cL_acts 383 = .ok (.iload 5, 2) := by decide +kernel
theorem dL_acts_385 : decode cL_acts 385 = .ok (.invokevirtual 68, 3) := by decide +kernel
theorem dL_acts_388 : decode cL_acts 388 = .ok (.istore 12, 2) := by decide +kernel
theorem dL_acts_390 : decode cL_acts 390 = .ok (.aload_n 0, 1) := by decide +kernel
theorem dL_acts_391 : decode cL_acts 391 = .ok (.iload_n 3, 1) := by decide +kernel
theorem dL_acts_392 : decode cL_acts 392 = .ok (.iload 4, 2) := by decide +kernel
theorem dL_acts_394 : decode cL_acts 394 = .ok (.invokevirtual 72, 3) := by decide +kernel
theorem dL_acts_397 : decode cL_acts 397 = .ok (.istore 13, 2) := by decide +kernel
theorem dL_acts_399 : decode cL_acts 399 = .ok (.iload 12, 2) := by decide +kernel
theorem dL_acts_401 : decode cL_acts 401 = .ok (.ifCond .eq 15, 3) := by decide +kernel
theorem dL_acts_404 : decode cL_acts 404 = .ok (.aload_n 0, 1) := by decide +kernel
theorem dL_acts_405 : decode cL_acts 405 = .ok (.iload_n 3, 1) := by decide +kernel
theorem dL_acts_406 : decode cL_acts 406 = .ok (.iload 4, 2) := by decide +kernel
theorem dL_acts_408 : decode cL_acts 408 = .ok (.iload 5, 2) := by decide +kernel
theorem dL_acts_410 : decode cL_acts 410 = .ok (.invokevirtual 75, 3) := by decide +kernel
theorem dL_acts_413 : decode cL_acts 413 = .ok (.goto 12, 3) := by decide +kernel
theorem dL_acts_416 : decode cL_acts 416 = .ok (.aload_n 0, 1) := by decide +kernel
theorem dL_acts_417 : decode cL_acts 417 = .ok (.iload_n 3, 1) := by decide +kernel
theorem dL_acts_418 : decode cL_acts 418 = .ok (.iload 4, 2) := by decide +kernel
theorem dL_acts_420 : decode cL_acts 420 = .ok (.iload 5, 2) := by decide +kernel
theorem dL_acts_422 : decode cL_acts 422 = .ok (.invokevirtual 78, 3) := by decide +kernel
theorem dL_acts_425 : decode cL_acts 425 = .ok (.istore 14, 2) := by decide +kernel
theorem dL_acts_427 : decode cL_acts 427 = .ok (.iload 14, 2) := by decide +kernel
theorem dL_acts_429 : decode cL_acts 429 = .ok (.ifCond .lt 69, 3) := by decide +kernel
theorem dL_acts_432 : decode cL_acts 432 = .ok (.iload 14, 2) := by decide +kernel
theorem dL_acts_434 : decode cL_acts 434 = .ok (.iconst 3, 1) := by decide +kernel
theorem dL_acts_435 : decode cL_acts 435 = .ok (.if_icmp .gt 63, 3) := by decide +kernel
theorem dL_acts_438 : decode cL_acts 438 = .ok (.aload_n 0, 1) := by decide +kernel
theorem dL_acts_439 : decode cL_acts 439 = .ok (.iload_n 3, 1) := by decide +kernel
theorem dL_acts_440 : decode cL_acts 440 = .ok (.iload 4, 2) := by decide +kernel
theorem dL_acts_442 : decode cL_acts 442 = .ok (.iload 5, 2) := by decide +kernel
theorem dL_acts_444 : decode cL_acts 444 = .ok (.invokevirtual 68, 3) := by decide +kernel
theorem dL_acts_447 : decode cL_acts 447 = .ok (.iload 12, 2) := by decide +kernel
theorem dL_acts_449 : decode cL_acts 449 = .ok (.ifCond .ne 7, 3) := by decide +kernel
theorem dL_acts_452 : decode cL_acts 452 = .ok (.iconst 1, 1) := by decide +kernel
theorem dL_acts_453 : decode cL_acts 453 = .ok (.goto 4, 3) := by decide +kernel
theorem dL_acts_456 : decode cL_acts 456 = .ok (.iconst 0, 1) := by decide +kernel
theorem dL_acts_457 : decode cL_acts 457 = .ok (.if_icmp .ne 41, 3) := by decide +kernel
theorem dL_acts_460 : decode cL_acts 460 = .ok (.aload_n 0, 1) := by decide +kernel
theorem dL_acts_461 : decode cL_acts 461 = .ok (.iload_n 3, 1) := by decide +kernel
theorem dL_acts_462 : decode cL_acts 462 = .ok (.iload 4, 2) := by decide +kernel
theorem dL_acts_464 : decode cL_acts 464 = .ok (.invokevirtual 72, 3) := by decide +kernel
theorem dL_acts_467 : decode cL_acts 467 = .ok (.iload 13, 2) := by decide +kernel
theorem dL_acts_469 : decode cL_acts 469 = .ok (.iload 12, 2) := by decide +kernel
theorem dL_acts_471 : decode cL_acts 471 = .ok (.ifCond .eq 13, 3) := by decide +kernel
theorem dL_acts_474 : decode cL_acts 474 = .ok (.sipush 128, 3) := by decide +kernel
theorem dL_acts_477 : decode cL_acts 477 = .ok (.iload 5, 2) := by decide +kernel
theorem dL_acts_479 : decode cL_acts 479 = .ok (.ishr, 1) := by decide +kernel
theorem dL_acts_480 : decode cL_acts 480 = .ok (.ineg, 1) := by decide +kernel
theorem dL_acts_481 : decode cL_acts 481 = .ok (.goto 9, 3) := by decide +kernel
theorem dL_acts_484 : decode cL_acts 484 = .ok (.sipush 128, 3) := by decide +kernel
theorem dL_acts_487 : decode cL_acts 487 = .ok (.iload 5, 2) := by decide +kernel
theorem dL_acts_489 : decode cL_acts 489 = .ok (.ishr, 1) := by decide +kernel
theorem dL_acts_490 : decode cL_acts 490 = .ok (.iadd, 1) := by decide +kernel
theorem dL_acts_491 : decode cL_acts 491 = .ok (.if_icmp .ne 7, 3) := by decide +kernel
theorem dL_acts_494 : decode cL_acts 494 = .ok (.iconst 1, 1) := by decide +kernel
theorem dL_acts_495 : decode cL_acts 495 = .ok (.goto 4, 3) := by decide +kernel
theorem dL_acts_498 : decode cL_acts 498 = .ok (.iconst 0, 1) := by decide +kernel
theorem dL_acts_499 : decode cL_acts 499 = .ok (.ireturn, 1) := by decide +kernel
theorem dL_acts_500 : decode cL_acts 500 = .ok (.iload_n 2, 1) := by decide +kernel
theorem dL_acts_501 : decode cL_acts 501 = .ok (.iconst 5, 1) := by decide +kernel
theorem dL_acts_502 : decode cL_acts 502 = .ok (.ishr, 1) := by decide +kernel
theorem dL_acts_503 : decode cL_acts 503 = .ok (.sipush 128, 3) := by decide +kernel
theorem dL_acts_506 : decode cL_acts 506 = .ok (.invokestatic 29, 3) := by decide +kernel
theorem dL_acts_509 : decode cL_acts 509 = .ok (.istore 15, 2) := by decide +kernel
theorem dL_acts_511 : decode cL_acts 511 = .ok (.iload 4, 2) := by decide +kernel
theorem dL_acts_513 : decode cL_acts 513 = .ok (.bipush 7, 2) := by decide +kernel
theorem dL_acts_515 : decode cL_acts 515 = .ok (.irem, 1) := by decide +kernel
theorem dL_acts_516 : decode cL_acts 516 = .ok (.istore 16, 2) := by decide +kernel
theorem dL_acts_518 : decode cL_acts 518 = .ok (.iconst 0, 1) := by decide +kernel
theorem dL_acts_519 : decode cL_acts 519 = .ok (.istore 17, 2) := by decide +kernel
theorem dL_acts_521 : decode cL_acts 521 = .ok (.iload 17, 2) := by decide +kernel
theorem dL_acts_523 : decode cL_acts 523 = .ok (.bipush 7, 2) := by decide +kernel
theorem dL_acts_525 : decode cL_acts 525 = .ok (.if_icmp .ge 28, 3) := by decide +kernel
theorem dL_acts_528 : decode cL_acts 528 = .ok (.aload_n 0, 1) := by decide +kernel
theorem dL_acts_529 : decode cL_acts 529 = .ok (.iload_n 3, 1) := by decide +kernel
theorem dL_acts_530 : decode cL_acts 530 = .ok (.iload 16, 2) := by decide +kernel
theorem dL_acts_532 : decode cL_acts 532 = .ok (.invokestatic 23, 3) := by decide +kernel
theorem dL_acts_535 : decode cL_acts 535 = .ok (.ifCond .ne 18, 3) := by decide +kernel
theorem dL_acts_538 : decode cL_acts 538 = .ok (.iload 16, 2) := by decide +kernel
theorem dL_acts_540 : decode cL_acts 540 = .ok (.iconst 1, 1) := by decide +kernel
theorem dL_acts_541 : decode cL_acts 541 = .ok (.iadd, 1) := by decide +kernel
theorem dL_acts_542 : decode cL_acts 542 = .ok (.bipush 7, 2) := by decide +kernel
theorem dL_acts_544 : decode cL_acts 544 = .ok (.irem, 1) := by decide +kernel
theorem dL_acts_545 : decode cL_acts 545 = .ok (.istore 16, 2) := by decide +kernel
theorem dL_acts_547 : decode cL_acts 547 = .ok (.iinc 17 1, 3) := by decide +kernel
theorem dL_acts_550 : decode cL_acts 550 = .ok (.goto (-29), 3) := by decide +kernel
theorem dL_acts_553 : decode cL_acts 553 = .ok (.aload_n 0, 1) := by decide +kernel
theorem dL_acts_554 : decode cL_acts 554 = .ok (.iload_n 3, 1) := by decide +kernel
theorem dL_acts_555 : decode cL_acts 555 = .ok (.iload 16, 2) := by decide +kernel
theorem dL_acts_557 : decode cL_acts 557 = .ok (.invokestatic 23, 3) := by decide +kernel
theorem dL_acts_560 : decode cL_acts 560 = .ok (.ifCond .ne 21, 3) := by decide +kernel
theorem dL_acts_563 : decode cL_acts 563 = .ok (.aload_n 0, 1) := by decide +kernel
theorem dL_acts_564 : decode cL_acts 564 = .ok (.iload_n 3, 1) := by decide +kernel
theorem dL_acts_565 : decode cL_acts 565 = .ok (.iload 6, 2) := by decide +kernel
theorem dL_acts_567 : decode cL_acts 567 = .ok (.invokevirtual 54, 3) := by decide +kernel
theorem dL_acts_570 : decode cL_acts 570 = .ok (.iload 6, 2) := by decide +kernel
theorem dL_acts_572 : decode cL_acts 572 = .ok (.if_icmp .ne 7, 3) := by decide +kernel
theorem dL_acts_575 : decode cL_acts 575 = .ok (.iconst 1, 1) := by decide +kernel
theorem dL_acts_576 : decode cL_acts 576 = .ok (.goto 4, 3) := by decide +kernel
theorem dL_acts_579 : decode cL_acts 579 = .ok (.iconst 0, 1) := by decide +kernel
theorem dL_acts_580 : decode cL_acts 580 = .ok (.ireturn, 1) := by decide +kernel
theorem dL_acts_581 : decode cL_acts 581 = .ok (.iconst 0, 1) := by decide +kernel
theorem dL_acts_582 : decode cL_acts 582 = .ok (.istore 17, 2) := by decide +kernel
theorem dL_acts_584 : decode cL_acts 584 = .ok (.iconst 0, 1) := by decide +kernel
theorem dL_acts_585 : decode cL_acts 585 = .ok (.istore 18, 2) := by decide +kernel
theorem dL_acts_587 : decode cL_acts 587 = .ok (.iload 18, 2) := by decide +kernel
theorem dL_acts_589 : decode cL_acts 589 = .ok (.bipush 7, 2) := by decide +kernel
theorem dL_acts_591 : decode cL_acts 591 = .ok (.if_icmp .ge 21, 3) := by decide +kernel
theorem dL_acts_594 : decode cL_acts 594 = .ok (.iload 17, 2) := by decide +kernel
theorem dL_acts_596 : decode cL_acts 596 = .ok (.iload 15, 2) := by decide +kernel
theorem dL_acts_598 : decode cL_acts 598 = .ok (.iload 18, 2) := by decide +kernel
theorem dL_acts_600 : decode cL_acts 600 = .ok (.ishr, 1) := by decide +kernel
theorem dL_acts_601 : decode cL_acts 601 = .ok (.iconst 1, 1) := by decide +kernel
theorem dL_acts_602 : decode cL_acts 602 = .ok (.iand, 1) := by decide +kernel
theorem dL_acts_603 : decode cL_acts 603 = .ok (.ixor, 1) := by decide +kernel
theorem dL_acts_604 : decode cL_acts 604 = .ok (.istore 17, 2) := by decide +kernel
theorem dL_acts_606 : decode cL_acts 606 = .ok (.iinc 18 1, 3) := by decide +kernel
theorem dL_acts_609 : decode cL_acts 609 = .ok (.goto (-22), 3) := by decide +kernel
theorem dL_acts_612 : decode cL_acts 612 = .ok (.aload_n 0, 1) := by decide +kernel
theorem dL_acts_613 : decode cL_acts 613 = .ok (.iload_n 3, 1) := by decide +kernel
theorem dL_acts_614 : decode cL_acts 614 = .ok (.iload 16, 2) := by decide +kernel
theorem dL_acts_616 : decode cL_acts 616 = .ok (.iload 15, 2) := by decide +kernel
theorem dL_acts_618 : decode cL_acts 618 = .ok (.invokevirtual 81, 3) := by decide +kernel
theorem dL_acts_621 : decode cL_acts 621 = .ok (.iload 17, 2) := by decide +kernel
theorem dL_acts_623 : decode cL_acts 623 = .ok (.if_icmp .ne 45, 3) := by decide +kernel
theorem dL_acts_626 : decode cL_acts 626 = .ok (.aload_n 0, 1) := by decide +kernel
theorem dL_acts_627 : decode cL_acts 627 = .ok (.iload_n 3, 1) := by decide +kernel
theorem dL_acts_628 : decode cL_acts 628 = .ok (.iload 16, 2) := by decide +kernel
theorem dL_acts_630 : decode cL_acts 630 = .ok (.invokevirtual 84, 3) := by decide +kernel
theorem dL_acts_633 : decode cL_acts 633 = .ok (.iload 15, 2) := by decide +kernel
theorem dL_acts_635 : decode cL_acts 635 = .ok (.if_icmp .ne 33, 3) := by decide +kernel
theorem dL_acts_638 : decode cL_acts 638 = .ok (.aload_n 0, 1) := by decide +kernel
theorem dL_acts_639 : decode cL_acts 639 = .ok (.iload_n 3, 1) := by decide +kernel
theorem dL_acts_640 : decode cL_acts 640 = .ok (.iload 16, 2) := by decide +kernel
theorem dL_acts_642 : decode cL_acts 642 = .ok (.invokevirtual 87, 3) := by decide +kernel
theorem dL_acts_645 : decode cL_acts 645 = .ok (.iload 15, 2) := by decide +kernel
theorem dL_acts_647 : decode cL_acts 647 = .ok (.if_icmp .ne 21, 3) := by decide +kernel
theorem dL_acts_650 : decode cL_acts 650 = .ok (.aload_n 0, 1) := by decide +kernel
theorem dL_acts_651 : decode cL_acts 651 = .ok (.iload_n 3, 1) := by decide +kernel
theorem dL_acts_652 : decode cL_acts 652 = .ok (.iload 16, 2) := by decide +kernel
theorem dL_acts_654 : decode cL_acts 654 = .ok (.bipush 7, 2) := by decide +kernel
theorem dL_acts_656 : decode cL_acts 656 = .ok (.invokevirtual 13, 3) := by decide +kernel
theorem dL_acts_659 : decode cL_acts 659 = .ok (.iload 17, 2) := by decide +kernel
theorem dL_acts_661 : decode cL_acts 661 = .ok (.if_icmp .ne 7, 3) := by decide +kernel
theorem dL_acts_664 : decode cL_acts 664 = .ok (.iconst 1, 1) := by decide +kernel
theorem dL_acts_665 : decode cL_acts 665 = .ok (.goto 4, 3) := by decide +kernel
theorem dL_acts_668 : decode cL_acts 668 = .ok (.iconst 0, 1) := by decide +kernel
theorem dL_acts_669 : decode cL_acts 669 = .ok (.ireturn, 1) := by decide +kernel
theorem dL_reversed_0 : decode cL_reversed 0 = .ok (.iconst 0, 1) := by decide +kernel
theorem dL_reversed_1 : decode cL_reversed 1 = .ok (.istore_n 1, 1) := by decide +kernel
theorem dL_reversed_2 : decode cL_reversed 2 = .ok (.iconst 0, 1) := by decide +kernel
theorem dL_reversed_3 : decode cL_reversed 3 = .ok (.istore_n 2, 1) := by decide +kernel
theorem dL_reversed_4 : decode cL_reversed 4 = .ok (.iload_n 2, 1) := by decide +kernel
theorem dL_reversed_5 : decode cL_reversed 5 = .ok (.bipush 8, 2) := by decide +kernel
theorem dL_reversed_7 : decode cL_reversed 7 = .ok (.if_icmp .ge 19, 3) := by decide +kernel
theorem dL_reversed_10 : decode cL_reversed 10 = .ok (.iconst 2, 1) := by decide +kernel
theorem dL_reversed_11 : decode cL_reversed 11 = .ok (.iload_n 1, 1) := by decide +kernel
theorem dL_reversed_12 : decode cL_reversed 12 = .ok (.imul, 1) := by decide +kernel
theorem dL_reversed_13 : decode cL_reversed 13 = .ok (.iload_n 0, 1) := by decide +kernel
theorem dL_reversed_14 : decode cL_reversed 14 = .ok (.iload_n 2, 1) := by decide +kernel
theorem dL_reversed_15 : decode cL_reversed 15 = .ok (.ishr, 1) := by decide +kernel
theorem dL_reversed_16 : decode cL_reversed 16 = .ok (.iconst 1, 1) := by decide +kernel
theorem dL_reversed_17 : decode cL_reversed 17 = .ok (.iand, 1) := by decide +kernel
theorem dL_reversed_18 : decode cL_reversed 18 = .ok (.iadd, 1) := by decide +kernel
theorem dL_reversed_19 : decode cL_reversed 19 = .ok (.istore_n 1, 1) := by decide +kernel
theorem dL_reversed_20 : decode cL_reversed 20 = .ok (.iinc 2 1, 3) := by decide +kernel
theorem dL_reversed_23 : decode cL_reversed 23 = .ok (.goto (-19), 3) := by decide +kernel
theorem dL_reversed_26 : decode cL_reversed 26 = .ok (.iload_n 1, 1) := by decide +kernel
theorem dL_reversed_27 : decode cL_reversed 27 = .ok (.ireturn, 1) := by decide +kernel
theorem dL_holds_0 : decode cL_holds 0 = .ok (.iconst 0, 1) := by decide +kernel
theorem dL_holds_1 : decode cL_holds 1 = .ok (.istore_n 2, 1) := by decide +kernel
theorem dL_holds_2 : decode cL_holds 2 = .ok (.iconst (-1), 1) := by decide +kernel
theorem dL_holds_3 : decode cL_holds 3 = .ok (.istore_n 3, 1) := by decide +kernel
theorem dL_holds_4 : decode cL_holds 4 = .ok (.aload_n 0, 1) := by decide +kernel
theorem dL_holds_5 : decode cL_holds 5 = .ok (.iload_n 1, 1) := by decide +kernel
theorem dL_holds_6 : decode cL_holds 6 = .ok (.invokevirtual 90, 3) := by decide +kernel
theorem dL_holds_9 : decode cL_holds 9 = .ok (.istore 4, 2) := by decide +kernel
theorem dL_holds_11 : decode cL_holds 11 = .ok (.iload 4, 2) := by decide +kernel
theorem dL_holds_13 : decode cL_holds 13 = .ok (.ifCond .lt 43, 3) := by decide +kernel
theorem dL_holds_16 : decode cL_holds 16 = .ok (.iload 4, 2) := by decide +kernel
theorem dL_holds_18 : decode cL_holds 18 = .ok (.bipush 16, 2) := by decide +kernel
theorem dL_holds_20 : decode cL_holds 20 = .ok (.if_icmp .gt 36, 3) := by decide +kernel
theorem dL_holds_23 : decode cL_holds 23 = .ok (.aload_n 0, 1) := by decide +kernel
theorem dL_holds_24 : decode cL_holds 24 = .ok (.iload_n 1, 1) := by decide +kernel
theorem dL_holds_25 : decode cL_holds 25 = .ok (.invokevirtual 39, 3) := by decide +kernel
theorem dL_holds_28 : decode cL_holds 28 = .ok (.ifCond .lt 28, 3) := by decide +kernel
theorem dL_holds_31 : decode cL_holds 31 = .ok (.aload_n 0, 1) := by decide +kernel
theorem dL_holds_32 : decode cL_holds 32 = .ok (.iload_n 1, 1) := by decide +kernel
theorem dL_holds_33 : decode cL_holds 33 = .ok (.invokevirtual 39, 3) := by decide +kernel
theorem dL_holds_36 : decode cL_holds 36 = .ok (.aload_n 0, 1) := by decide +kernel
theorem dL_holds_37 : decode cL_holds 37 = .ok (.iload_n 1, 1) := by decide +kernel
theorem dL_holds_38 : decode cL_holds 38 = .ok (.iconst 2, 1) := by decide +kernel
theorem dL_holds_39 : decode cL_holds 39 = .ok (.invokevirtual 36, 3) := by decide +kernel
theorem dL_holds_42 : decode cL_holds 42 = .ok (.aload_n 0, 1) := by decide +kernel
theorem dL_holds_43 : decode cL_holds 43 = .ok (.iload_n 1, 1) := by decide +kernel
theorem dL_holds_44 : decode cL_holds 44 = .ok (.iconst 3, 1) := by decide +kernel
theorem dL_holds_45 : decode cL_holds 45 = .ok (.invokevirtual 36, 3) := by decide +kernel
theorem dL_holds_48 : decode cL_holds 48 = .ok (.iadd, 1) := by decide +kernel
theorem dL_holds_49 : decode cL_holds 49 = .ok (.if_icmp .gt 7, 3) := by decide +kernel
theorem dL_holds_52 : decode cL_holds 52 = .ok (.iconst 1, 1) := by decide +kernel
theorem dL_holds_53 : decode cL_holds 53 = .ok (.goto 4, 3) := by decide +kernel
theorem dL_holds_56 : decode cL_holds 56 = .ok (.iconst 0, 1) := by decide +kernel
theorem dL_holds_57 : decode cL_holds 57 = .ok (.istore 5, 2) := by decide +kernel
theorem dL_holds_59 : decode cL_holds 59 = .ok (.iconst 0, 1) := by decide +kernel
theorem dL_holds_60 : decode cL_holds 60 = .ok (.istore 6, 2) := by decide +kernel
theorem dL_holds_62 : decode cL_holds 62 = .ok (.iload 6, 2) := by decide +kernel
theorem dL_holds_64 : decode cL_holds 64 = .ok (.iconst 4, 1) := by decide +kernel
theorem dL_holds_65 : decode cL_holds 65 = .ok (.if_icmp .ge 19, 3) := by decide +kernel
theorem dL_holds_68 : decode cL_holds 68 = .ok (.iload_n 2, 1) := by decide +kernel
theorem dL_holds_69 : decode cL_holds 69 = .ok (.aload_n 0, 1) := by decide +kernel
theorem dL_holds_70 : decode cL_holds 70 = .ok (.iload_n 1, 1) := by decide +kernel
theorem dL_holds_71 : decode cL_holds 71 = .ok (.iload 6, 2) := by decide +kernel
theorem dL_holds_73 : decode cL_holds 73 = .ok (.invokevirtual 36, 3) := by decide +kernel
theorem dL_holds_76 : decode cL_holds 76 = .ok (.iadd, 1) := by decide +kernel
theorem dL_holds_77 : decode cL_holds 77 = .ok (.istore_n 2, 1) := by decide +kernel
theorem dL_holds_78 : decode cL_holds 78 = .ok (.iinc 6 1, 3) := by decide +kernel
theorem dL_holds_81 : decode cL_holds 81 = .ok (.goto (-19), 3) := by decide +kernel
theorem dL_holds_84 : decode cL_holds 84 = .ok (.iconst 0, 1) := by decide +kernel
theorem dL_holds_85 : decode cL_holds 85 = .ok (.istore 6, 2) := by decide +kernel
theorem dL_holds_87 : decode cL_holds 87 = .ok (.iload 6, 2) := by decide +kernel
theorem dL_holds_89 : decode cL_holds 89 = .ok (.bipush 7, 2) := by decide +kernel
theorem dL_holds_91 : decode cL_holds 91 = .ok (.if_icmp .ge 49, 3) := by decide +kernel
theorem dL_holds_94 : decode cL_holds 94 = .ok (.iload 5, 2) := by decide +kernel
theorem dL_holds_96 : decode cL_holds 96 = .ok (.ifCond .eq 35, 3) := by decide +kernel
theorem dL_holds_99 : decode cL_holds 99 = .ok (.aload_n 0, 1) := by decide +kernel
theorem dL_holds_100 : decode cL_holds 100 = .ok (.iload_n 1, 1) := by decide +kernel
theorem dL_holds_101 : decode cL_holds 101 = .ok (.iload 6, 2) := by decide +kernel
theorem dL_holds_103 : decode cL_holds 103 = .ok (.invokevirtual 84, 3) := by decide +kernel
theorem dL_holds_106 : decode cL_holds 106 = .ok (.iconst (-1), 1) := by decide +kernel
theorem dL_holds_107 : decode cL_holds 107 = .ok (.if_icmp .eq 20, 3) := by decide +kernel
theorem dL_holds_110 : decode cL_holds 110 = .ok (.aload_n 0, 1) := by decide +kernel
theorem dL_holds_111 : decode cL_holds 111 = .ok (.iload_n 1, 1) := by decide +kernel
theorem dL_holds_112 : decode cL_holds 112 = .ok (.iload 6, 2) := by decide +kernel
theorem dL_holds_114 : decode cL_holds 114 = .ok (.invokevirtual 87, 3) := by decide +kernel
theorem dL_holds_117 : decode cL_holds 117 = .ok (.aload_n 0, 1) := by decide +kernel
theorem dL_holds_118 : decode cL_holds 118 = .ok (.iload_n 1, 1) := by decide +kernel
theorem dL_holds_119 : decode cL_holds 119 = .ok (.iload 6, 2) := by decide +kernel
theorem dL_holds_121 : decode cL_holds 121 = .ok (.invokevirtual 84, 3) := by decide +kernel
theorem dL_holds_124 : decode cL_holds 124 = .ok (.if_icmp .ne 7, 3) := by decide +kernel
theorem dL_holds_127 : decode cL_holds 127 = .ok (.iconst 1, 1) := by decide +kernel
theorem dL_holds_128 : decode cL_holds 128 = .ok (.goto 4, 3) := by decide +kernel
theorem dL_holds_131 : decode cL_holds 131 = .ok (.iconst 0, 1) := by decide +kernel
theorem dL_holds_132 : decode cL_holds 132 = .ok (.istore 5, 2) := by decide +kernel
theorem dL_holds_134 : decode cL_holds 134 = .ok (.iinc 6 1, 3) := by decide +kernel
theorem dL_holds_137 : decode cL_holds 137 = .ok (.goto (-50), 3) := by decide +kernel
theorem dL_holds_140 : decode cL_holds 140 = .ok (.iconst 0, 1) := by decide +kernel
theorem dL_holds_141 : decode cL_holds 141 = .ok (.istore 6, 2) := by decide +kernel
theorem dL_holds_143 : decode cL_holds 143 = .ok (.iload 6, 2) := by decide +kernel
theorem dL_holds_145 : decode cL_holds 145 = .ok (.iload 4, 2) := by decide +kernel
theorem dL_holds_147 : decode cL_holds 147 = .ok (.if_icmp .ge 128, 3) := by decide +kernel
theorem dL_holds_150 : decode cL_holds 150 = .ok (.iload 5, 2) := by decide +kernel
theorem dL_holds_152 : decode cL_holds 152 = .ok (.ifCond .eq 123, 3) := by decide +kernel
theorem dL_holds_155 : decode cL_holds 155 = .ok (.aload_n 0, 1) := by decide +kernel
theorem dL_holds_156 : decode cL_holds 156 = .ok (.iload_n 1, 1) := by decide +kernel
theorem dL_holds_157 : decode cL_holds 157 = .ok (.iload 6, 2) := by decide +kernel
theorem dL_holds_159 : decode cL_holds 159 = .ok (.invokevirtual 93, 3) := by decide +kernel
theorem dL_holds_162 : decode cL_holds 162 = .ok (.istore 7, 2) := by decide +kernel
theorem dL_holds_164 : decode cL_holds 164 = .ok (.iconst 0, 1) := by decide +kernel
theorem dL_holds_165 : decode cL_holds 165 = .ok (.istore 8, 2) := by decide +kernel
theorem dL_holds_167 : decode cL_holds 167 = .ok (.iconst 0, 1) := by decide +kernel
theorem dL_holds_168 : decode cL_holds 168 = .ok (.istore 9, 2) := by decide +kernel
theorem dL_holds_170 : decode cL_holds 170 = .ok (.iload 9, 2) := by decide +kernel
theorem dL_holds_172 : decode cL_holds 172 = .ok (.bipush 8, 2) := by decide +kernel
theorem dL_holds_174 : decode cL_holds 174 = .ok (.if_icmp .ge 66, 3) := by decide +kernel
theorem dL_holds_177 : decode cL_holds 177 = .ok (.iload 7, 2) := by decide +kernel
theorem dL_holds_179 : decode cL_holds 179 = .ok (.bipush 8, 2) := by decide +kernel
theorem dL_holds_181 : decode cL_holds 181 = .ok (.if_icmp .ge 15, 3) := by decide +kernel
theorem dL_holds_184 : decode cL_holds 184 = .ok (.aload_n 0, 1) := by decide +kernel
theorem dL_holds_185 : decode cL_holds 185 = .ok (.iload_n 1, 1) := by decide +kernel
theorem dL_holds_186 : decode cL_holds 186 = .ok (.iload 7, 2) := by decide +kernel
theorem dL_holds_188 : decode cL_holds 188 = .ok (.iload 9, 2) := by decide +kernel
theorem dL_holds_190 : decode cL_holds 190 = .ok (.invokevirtual 96, 3) := by decide +kernel
theorem dL_holds_193 : decode cL_holds 193 = .ok (.goto 15, 3) := by decide +kernel
theorem dL_holds_196 : decode cL_holds 196 = .ok (.aload_n 0, 1) := by decide +kernel
theorem dL_holds_197 : decode cL_holds 197 = .ok (.iload_n 1, 1) := by decide +kernel
theorem dL_holds_198 : decode cL_holds 198 = .ok (.iload 9, 2) := by decide +kernel
theorem dL_holds_200 : decode cL_holds 200 = .ok (.iload 7, 2) := by decide +kernel
theorem dL_holds_202 : decode cL_holds 202 = .ok (.bipush 8, 2) := by decide +kernel
theorem dL_holds_204 : decode cL_holds 204 = .ok (.isub, 1) := by decide +kernel
theorem dL_holds_205 : decode cL_holds 205 = .ok (.invokevirtual 96, 3) := by decide +kernel
theorem dL_holds_208 : decode cL_holds 208 = .ok (.istore 10, 2) := by decide +kernel
theorem dL_holds_210 : decode cL_holds 210 = .ok (.iload 5, 2) := by decide +kernel
theorem dL_holds_212 : decode cL_holds 212 = .ok (.ifCond .eq 12, 3) := by decide +kernel
theorem dL_holds_215 : decode cL_holds 215 = .ok (.iload 10, 2) := by decide +kernel
theorem dL_holds_217 : decode cL_holds 217 = .ok (.ifCond .lt 7, 3) := by decide +kernel
theorem dL_holds_220 : decode cL_holds 220 = .ok (.iconst 1, 1) := by decide +kernel
theorem dL_holds_221 : decode cL_holds 221 = .ok (.goto 4, 3) := by decide +kernel
theorem dL_holds_224 : decode cL_holds 224 = .ok (.iconst 0, 1) := by decide +kernel
theorem dL_holds_225 : decode cL_holds 225 = .ok (.istore 5, 2) := by decide +kernel
theorem dL_holds_227 : decode cL_holds 227 = .ok (.iload 8, 2) := by decide +kernel
theorem dL_holds_229 : decode cL_holds 229 = .ok (.iload 10, 2) := by decide +kernel
theorem dL_holds_231 : decode cL_holds 231 = .ok (.iadd, 1) := by decide +kernel
theorem dL_holds_232 : decode cL_holds 232 = .ok (.istore 8, 2) := by decide +kernel
theorem dL_holds_234 : decode cL_holds 234 = .ok (.iinc 9 1, 3) := by decide +kernel
theorem dL_holds_237 : decode cL_holds 237 = .ok (.goto (-67), 3) := by decide +kernel
theorem dL_holds_240 : decode cL_holds 240 = .ok (.iload 5, 2) := by decide +kernel
theorem dL_holds_242 : decode cL_holds 242 = .ok (.ifCond .eq 21, 3) := by decide +kernel
theorem dL_holds_245 : decode cL_holds 245 = .ok (.iload 7, 2) := by decide +kernel
theorem dL_holds_247 : decode cL_holds 247 = .ok (.iload_n 3, 1) := by decide +kernel
theorem dL_holds_248 : decode cL_holds 248 = .ok (.if_icmp .le 15, 3) := by decide +kernel
theorem dL_holds_251 : decode cL_holds 251 = .ok (.iload 8, 2) := by decide +kernel
theorem dL_holds_253 : decode cL_holds 253 = .ok (.iconst 2, 1) := by decide +kernel
theorem dL_holds_254 : decode cL_holds 254 = .ok (.irem, 1) := by decide +kernel
theorem dL_holds_255 : decode cL_holds 255 = .ok (.iconst 1, 1) := by decide +kernel
theorem dL_holds_256 : decode cL_holds 256 = .ok (.if_icmp .ne 7, 3) := by decide +kernel
theorem dL_holds_259 : decode cL_holds 259 = .ok (.iconst 1, 1) := by decide +kernel
theorem dL_holds_260 : decode cL_holds 260 = .ok (.goto 4, 3) := by decide +kernel
theorem dL_holds_263 : decode cL_holds 263 = .ok (.iconst 0, 1) := by decide +kernel
theorem dL_holds_264 : decode cL_holds 264 = .ok (.istore 5, 2) := by decide +kernel
theorem dL_holds_266 : decode cL_holds 266 = .ok (.iload 7, 2) := by decide +kernel
theorem dL_holds_268 : decode cL_holds 268 = .ok (.istore_n 3, 1) := by decide +kernel
theorem dL_holds_269 : decode cL_holds 269 = .ok (.iinc 6 1, 3) := by decide +kernel
theorem dL_holds_272 : decode cL_holds 272 = .ok (.goto (-129), 3) := by decide +kernel
theorem dL_holds_275 : decode cL_holds 275 = .ok (.iconst 0, 1) := by decide +kernel
theorem dL_holds_276 : decode cL_holds 276 = .ok (.istore 6, 2) := by decide +kernel
theorem dL_holds_278 : decode cL_holds 278 = .ok (.iconst 0, 1) := by decide +kernel
theorem dL_holds_279 : decode cL_holds 279 = .ok (.istore 7, 2) := by decide +kernel
theorem dL_holds_281 : decode cL_holds 281 = .ok (.iload 7, 2) := by decide +kernel
theorem dL_holds_283 : decode cL_holds 283 = .ok (.bipush 64, 2) := by decide +kernel
theorem dL_holds_285 : decode cL_holds 285 = .ok (.if_icmp .ge 122, 3) := by decide +kernel
theorem dL_holds_288 : decode cL_holds 288 = .ok (.aload_n 0, 1) := by decide +kernel
theorem dL_holds_289 : decode cL_holds 289 = .ok (.iload_n 1, 1) := by decide +kernel
theorem dL_holds_290 : decode cL_holds 290 = .ok (.iload 7, 2) := by decide +kernel
theorem dL_holds_292 : decode cL_holds 292 = .ok (.bipush 8, 2) := by decide +kernel
theorem dL_holds_294 : decode cL_holds 294 = .ok (.idiv, 1) := by decide +kernel
theorem dL_holds_295 : decode cL_holds 295 = .ok (.iload 7, 2) := by decide +kernel
theorem dL_holds_297 : decode cL_holds 297 = .ok (.bipush 8, 2) := by decide +kernel
theorem dL_holds_299 : decode cL_holds 299 = .ok (.irem, 1) := by decide +kernel
theorem dL_holds_300 : decode cL_holds 300 = .ok (.invokevirtual 13, 3) := by decide +kernel
theorem dL_holds_303 : decode cL_holds 303 = .ok (.istore 8, 2) := by decide +kernel
theorem dL_holds_305 : decode cL_holds 305 = .ok (.aload_n 0, 1) := by decide +kernel
theorem dL_holds_306 : decode cL_holds 306 = .ok (.iload_n 1, 1) := by decide +kernel
theorem dL_holds_307 : decode cL_holds 307 = .ok (.iload 7, 2) := by decide +kernel
theorem dL_holds_309 : decode cL_holds 309 = .ok (.bipush 8, 2) := by decide +kernel
theorem dL_holds_311 : decode cL_holds 311 = .ok (.idiv, 1) := by decide +kernel
theorem dL_holds_312 : decode cL_holds 312 = .ok (.iload 7, 2) := by decide +kernel
theorem dL_holds_314 : decode cL_holds 314 = .ok (.bipush 8, 2) := by decide +kernel
theorem dL_holds_316 : decode cL_holds 316 = .ok (.irem, 1) := by decide +kernel
theorem dL_holds_317 : decode cL_holds 317 = .ok (.invokevirtual 96, 3) := by decide +kernel
theorem dL_holds_320 : decode cL_holds 320 = .ok (.istore 9, 2) := by decide +kernel
theorem dL_holds_322 : decode cL_holds 322 = .ok (.iload 6, 2) := by decide +kernel
theorem dL_holds_324 : decode cL_holds 324 = .ok (.iload 9, 2) := by decide +kernel
theorem dL_holds_326 : decode cL_holds 326 = .ok (.iconst (-1), 1) := by decide +kernel
theorem dL_holds_327 : decode cL_holds 327 = .ok (.if_icmp .ne 7, 3) := by decide +kernel
theorem dL_holds_330 : decode cL_holds 330 = .ok (.iconst 1, 1) := by decide +kernel
theorem dL_holds_331 : decode cL_holds 331 = .ok (.goto 4, 3) := by decide +kernel
theorem dL_holds_334 : decode cL_holds 334 = .ok (.iconst 0, 1) := by decide +kernel
theorem dL_holds_335 : decode cL_holds 335 = .ok (.iadd, 1) := by decide +kernel
theorem dL_holds_336 : decode cL_holds 336 = .ok (.istore 6, 2) := by decide +kernel
theorem dL_holds_338 : decode cL_holds 338 = .ok (.iload 5, 2) := by decide +kernel
theorem dL_holds_340 : decode cL_holds 340 = .ok (.ifCond .eq 58, 3) := by decide +kernel
theorem dL_holds_343 : decode cL_holds 343 = .ok (.iload 8, 2) := by decide +kernel
theorem dL_holds_345 : decode cL_holds 345 = .ok (.iconst 1, 1) := by decide +kernel
theorem dL_holds_346 : decode cL_holds 346 = .ok (.if_icmp .gt 10, 3) := by decide +kernel
theorem dL_holds_349 : decode cL_holds 349 = .ok (.iload 9, 2) := by decide +kernel
theorem dL_holds_351 : decode cL_holds 351 = .ok (.iload 8, 2) := by decide +kernel
theorem dL_holds_353 : decode cL_holds 353 = .ok (.if_icmp .ne 45, 3) := by decide +kernel
theorem dL_holds_356 : decode cL_holds 356 = .ok (.iload 8, 2) := by decide +kernel
theorem dL_holds_358 : decode cL_holds 358 = .ok (.iconst 2, 1) := by decide +kernel
theorem dL_holds_359 : decode cL_holds 359 = .ok (.if_icmp .ge 7, 3) := by decide +kernel
theorem dL_holds_362 : decode cL_holds 362 = .ok (.iconst 1, 1) := by decide +kernel
theorem dL_holds_363 : decode cL_holds 363 = .ok (.goto 4, 3) := by decide +kernel
theorem dL_holds_366 : decode cL_holds 366 = .ok (.iconst 0, 1) := by decide +kernel
theorem dL_holds_367 : decode cL_holds 367 = .ok (.aload_n 0, 1) := by decide +kernel
theorem dL_holds_368 : decode cL_holds 368 = .ok (.iload_n 1, 1) := by decide +kernel
theorem dL_holds_369 : decode cL_holds 369 = .ok (.iload 7, 2) := by decide +kernel
theorem dL_holds_371 : decode cL_holds 371 = .ok (.bipush 8, 2) := by decide +kernel
theorem dL_holds_373 : decode cL_holds 373 = .ok (.idiv, 1) := by decide +kernel
theorem dL_holds_374 : decode cL_holds 374 = .ok (.iload 7, 2) := by decide +kernel
theorem dL_holds_376 : decode cL_holds 376 = .ok (.bipush 8, 2) := by decide +kernel
theorem dL_holds_378 : decode cL_holds 378 = .ok (.irem, 1) := by decide +kernel
theorem dL_holds_379 : decode cL_holds 379 = .ok (.invokevirtual 99, 3) := by decide +kernel
theorem dL_holds_382 : decode cL_holds 382 = .ok (.iconst (-1), 1) := by decide +kernel
theorem dL_holds_383 : decode cL_holds 383 = .ok (.if_icmp .eq 7, 3) := by decide +kernel
theorem dL_holds_386 : decode cL_holds 386 = .ok (.iconst 1, 1) := by decide +kernel
theorem dL_holds_387 : decode cL_holds 387 = .ok (.goto 4, 3) := by decide +kernel
theorem dL_holds_390 : decode cL_holds 390 = .ok (.iconst 0, 1) := by decide +kernel
theorem dL_holds_391 : decode cL_holds 391 = .ok (.if_icmp .ne 7, 3) := by decide +kernel
theorem dL_holds_394 : decode cL_holds 394 = .ok (.iconst 1, 1) := by decide +kernel
theorem dL_holds_395 : decode cL_holds 395 = .ok (.goto 4, 3) := by decide +kernel
theorem dL_holds_398 : decode cL_holds 398 = .ok (.iconst 0, 1) := by decide +kernel
theorem dL_holds_399 : decode cL_holds 399 = .ok (.istore 5, 2) := by decide +kernel
theorem dL_holds_401 : decode cL_holds 401 = .ok (.iinc 7 1, 3) := by decide +kernel
theorem dL_holds_404 : decode cL_holds 404 = .ok (.goto (-123), 3) := by decide +kernel
theorem dL_holds_407 : decode cL_holds 407 = .ok (.aload_n 0, 1) := by decide +kernel
theorem dL_holds_408 : decode cL_holds 408 = .ok (.iload_n 1, 1) := by decide +kernel
theorem dL_holds_409 : decode cL_holds 409 = .ok (.iconst 0, 1) := by decide +kernel
theorem dL_holds_410 : decode cL_holds 410 = .ok (.invokevirtual 36, 3) := by decide +kernel
theorem dL_holds_413 : decode cL_holds 413 = .ok (.aload_n 0, 1) := by decide +kernel
theorem dL_holds_414 : decode cL_holds 414 = .ok (.iload_n 1, 1) := by decide +kernel
theorem dL_holds_415 : decode cL_holds 415 = .ok (.iconst 1, 1) := by decide +kernel
theorem dL_holds_416 : decode cL_holds 416 = .ok (.invokevirtual 36, 3) := by decide +kernel
theorem dL_holds_419 : decode cL_holds 419 = .ok (.iadd, 1) := by decide +kernel
theorem dL_holds_420 : decode cL_holds 420 = .ok (.i2d, 1) := by decide +kernel
theorem dL_holds_421 : decode cL_holds 421 = .ok (.ldc2_w 102, 3) := by decide +kernel
theorem dL_holds_424 : decode cL_holds 424 = .ok (.ddiv, 1) := by decide +kernel
theorem dL_holds_425 : decode cL_holds 425 = .ok (.dstore 7, 2) := by decide +kernel
theorem dL_holds_427 : decode cL_holds 427 = .ok (.iload 5, 2) := by decide +kernel
theorem dL_holds_429 : decode cL_holds 429 = .ok (.ifCond .eq 45, 3) := by decide +kernel
theorem dL_holds_432 : decode cL_holds 432 = .ok (.iload_n 2, 1) := by decide +kernel
theorem dL_holds_433 : decode cL_holds 433 = .ok (.bipush 64, 2) := by decide +kernel
theorem dL_holds_435 : decode cL_holds 435 = .ok (.if_icmp .ne 39, 3) := by decide +kernel
theorem dL_holds_438 : decode cL_holds 438 = .ok (.iload 6, 2) := by decide +kernel
theorem dL_holds_440 : decode cL_holds 440 = .ok (.aload_n 0, 1) := by decide +kernel
theorem dL_holds_441 : decode cL_holds 441 = .ok (.iload_n 1, 1) := by decide +kernel
theorem dL_holds_442 : decode cL_holds 442 = .ok (.invokevirtual 39, 3) := by decide +kernel
theorem dL_holds_445 : decode cL_holds 445 = .ok (.if_icmp .ne 29, 3) := by decide +kernel
theorem dL_holds_448 : decode cL_holds 448 = .ok (.aload_n 0, 1) := by decide +kernel
theorem dL_holds_449 : decode cL_holds 449 = .ok (.iload_n 1, 1) := by decide +kernel
theorem dL_holds_450 : decode cL_holds 450 = .ok (.iload 4, 2) := by decide +kernel
theorem dL_holds_452 : decode cL_holds 452 = .ok (.invokevirtual 93, 3) := by decide +kernel
theorem dL_holds_455 : decode cL_holds 455 = .ok (.iconst (-1), 1) := by decide +kernel
theorem dL_holds_456 : decode cL_holds 456 = .ok (.if_icmp .ne 18, 3) := by decide +kernel
theorem dL_holds_459 : decode cL_holds 459 = .ok (.aload_n 0, 1) := by decide +kernel
theorem dL_holds_460 : decode cL_holds 460 = .ok (.iload_n 1, 1) := by decide +kernel
theorem dL_holds_461 : decode cL_holds 461 = .ok (.invokevirtual 64, 3) := by decide +kernel
theorem dL_holds_464 : decode cL_holds 464 = .ok (.dload 7, 2) := by decide +kernel
theorem dL_holds_466 : decode cL_holds 466 = .ok (.dcmp .l, 1) := by decide +kernel
theorem dL_holds_467 : decode cL_holds 467 = .ok (.ifCond .ne 7, 3) := by decide +kernel
theorem dL_holds_470 : decode cL_holds 470 = .ok (.iconst 1, 1) := by decide +kernel
theorem dL_holds_471 : decode cL_holds 471 = .ok (.goto 4, 3) := by decide +kernel
theorem dL_holds_474 : decode cL_holds 474 = .ok (.iconst 0, 1) := by decide +kernel
theorem dL_holds_475 : decode cL_holds 475 = .ok (.ireturn, 1) := by decide +kernel
theorem dL_isSeen_0 : decode cL_isSeen 0 = .ok (.iconst 1, 1) := by decide +kernel
theorem dL_isSeen_1 : decode cL_isSeen 1 = .ok (.istore_n 3, 1) := by decide +kernel
theorem dL_isSeen_2 : decode cL_isSeen 2 = .ok (.iconst 0, 1) := by decide +kernel
theorem dL_isSeen_3 : decode cL_isSeen 3 = .ok (.istore 4, 2) := by decide +kernel
theorem dL_isSeen_5 : decode cL_isSeen 5 = .ok (.iload 4, 2) := by decide +kernel
theorem dL_isSeen_7 : decode cL_isSeen 7 = .ok (.bipush 8, 2) := by decide +kernel
theorem dL_isSeen_9 : decode cL_isSeen 9 = .ok (.if_icmp .ge 31, 3) := by decide +kernel
theorem dL_isSeen_12 : decode cL_isSeen 12 = .ok (.iload_n 3, 1) := by decide +kernel
theorem dL_isSeen_13 : decode cL_isSeen 13 = .ok (.ifCond .eq 19, 3) := by decide +kernel
theorem dL_isSeen_16 : decode cL_isSeen 16 = .ok (.aload_n 0, 1) := by decide +kernel
theorem dL_isSeen_17 : decode cL_isSeen 17 = .ok (.iload_n 1, 1) := by decide +kernel
theorem dL_isSeen_18 : decode cL_isSeen 18 = .ok (.iload_n 2, 1) := by decide +kernel
theorem dL_isSeen_19 : decode cL_isSeen 19 = .ok (.iload 4, 2) := by decide +kernel
theorem dL_isSeen_21 : decode cL_isSeen 21 = .ok (.invokevirtual 13, 3) := by decide +kernel
theorem dL_isSeen_24 : decode cL_isSeen 24 = .ok (.iconst 2, 1) := by decide +kernel
theorem dL_isSeen_25 : decode cL_isSeen 25 = .ok (.if_icmp .ge 7, 3) := by decide +kernel
theorem dL_isSeen_28 : decode cL_isSeen 28 = .ok (.iconst 1, 1) := by decide +kernel
theorem dL_isSeen_29 : decode cL_isSeen 29 = .ok (.goto 4, 3) := by decide +kernel
theorem dL_isSeen_32 : decode cL_isSeen 32 = .ok (.iconst 0, 1) := by decide +kernel
theorem dL_isSeen_33 : decode cL_isSeen 33 = .ok (.istore_n 3, 1) := by decide +kernel
theorem dL_isSeen_34 : decode cL_isSeen 34 = .ok (.iinc 4 1, 3) := by decide +kernel
theorem dL_isSeen_37 : decode cL_isSeen 37 = .ok (.goto (-32), 3) := by decide +kernel
theorem dL_isSeen_40 : decode cL_isSeen 40 = .ok (.aload_n 0, 1) := by decide +kernel
theorem dL_isSeen_41 : decode cL_isSeen 41 = .ok (.iload_n 1, 1) := by decide +kernel
theorem dL_isSeen_42 : decode cL_isSeen 42 = .ok (.invokevirtual 19, 3) := by decide +kernel
theorem dL_isSeen_45 : decode cL_isSeen 45 = .ok (.istore 4, 2) := by decide +kernel
theorem dL_isSeen_47 : decode cL_isSeen 47 = .ok (.aload_n 0, 1) := by decide +kernel
theorem dL_isSeen_48 : decode cL_isSeen 48 = .ok (.invokevirtual 104, 3) := by decide +kernel
theorem dL_isSeen_51 : decode cL_isSeen 51 = .ok (.lstore 5, 2) := by decide +kernel
theorem dL_isSeen_53 : decode cL_isSeen 53 = .ok (.aload_n 0, 1) := by decide +kernel
theorem dL_isSeen_54 : decode cL_isSeen 54 = .ok (.iload_n 1, 1) := by decide +kernel
theorem dL_isSeen_55 : decode cL_isSeen 55 = .ok (.iconst 0, 1) := by decide +kernel
theorem dL_isSeen_56 : decode cL_isSeen 56 = .ok (.invokevirtual 54, 3) := by decide +kernel
theorem dL_isSeen_59 : decode cL_isSeen 59 = .ok (.istore 7, 2) := by decide +kernel
theorem dL_isSeen_61 : decode cL_isSeen 61 = .ok (.aload_n 0, 1) := by decide +kernel
theorem dL_isSeen_62 : decode cL_isSeen 62 = .ok (.iload_n 1, 1) := by decide +kernel
theorem dL_isSeen_63 : decode cL_isSeen 63 = .ok (.iload_n 2, 1) := by decide +kernel
theorem dL_isSeen_64 : decode cL_isSeen 64 = .ok (.invokevirtual 72, 3) := by decide +kernel
theorem dL_isSeen_67 : decode cL_isSeen 67 = .ok (.istore 8, 2) := by decide +kernel
theorem dL_isSeen_69 : decode cL_isSeen 69 = .ok (.aload_n 0, 1) := by decide +kernel
theorem dL_isSeen_70 : decode cL_isSeen 70 = .ok (.iload_n 1, 1) := by decide +kernel
theorem dL_isSeen_71 : decode cL_isSeen 71 = .ok (.iconst 2, 1) := by decide +kernel
theorem dL_isSeen_72 : decode cL_isSeen 72 = .ok (.invokevirtual 54, 3) := by decide +kernel
theorem dL_isSeen_75 : decode cL_isSeen 75 = .ok (.istore 9, 2) := by decide +kernel
theorem dL_isSeen_77 : decode cL_isSeen 77 = .ok (.aload_n 0, 1) := by decide +kernel
theorem dL_isSeen_78 : decode cL_isSeen 78 = .ok (.iload_n 1, 1) := by decide +kernel
theorem dL_isSeen_79 : decode cL_isSeen 79 = .ok (.iload_n 2, 1) := by decide +kernel
theorem dL_isSeen_80 : decode cL_isSeen 80 = .ok (.invokevirtual 72, 3) := by decide +kernel
theorem dL_isSeen_83 : decode cL_isSeen 83 = .ok (.istore 10, 2) := by decide +kernel
theorem dL_isSeen_85 : decode cL_isSeen 85 = .ok (.aload_n 0, 1) := by decide +kernel
theorem dL_isSeen_86 : decode cL_isSeen 86 = .ok (.iload_n 1, 1) := by decide +kernel
theorem dL_isSeen_87 : decode cL_isSeen 87 = .ok (.iconst 1, 1) := by decide +kernel
theorem dL_isSeen_88 : decode cL_isSeen 88 = .ok (.invokevirtual 54, 3) := by decide +kernel
theorem dL_isSeen_91 : decode cL_isSeen 91 = .ok (.istore 11, 2) := by decide +kernel
theorem dL_isSeen_93 : decode cL_isSeen 93 = .ok (.aload_n 0, 1) := by decide +kernel
theorem dL_isSeen_94 : decode cL_isSeen 94 = .ok (.iload_n 1, 1) := by decide +kernel
theorem dL_isSeen_95 : decode cL_isSeen 95 = .ok (.bipush 7, 2) := by decide +kernel
theorem dL_isSeen_97 : decode cL_isSeen 97 = .ok (.iload_n 2, 1) := by decide +kernel
theorem dL_isSeen_98 : decode cL_isSeen 98 = .ok (.isub, 1) := by decide +kernel
theorem dL_isSeen_99 : decode cL_isSeen 99 = .ok (.invokevirtual 72, 3) := by decide +kernel
theorem dL_isSeen_102 : decode cL_isSeen 102 = .ok (.istore 12, 2) := by decide +kernel
theorem dL_isSeen_104 : decode cL_isSeen 104 = .ok (.aload_n 0, 1) := by decide +kernel
theorem dL_isSeen_105 : decode cL_isSeen 105 = .ok (.iload_n 1, 1) := by decide +kernel
theorem dL_isSeen_106 : decode cL_isSeen 106 = .ok (.iconst 3, 1) := by decide +kernel
theorem dL_isSeen_107 : decode cL_isSeen 107 = .ok (.invokevirtual 54, 3) := by decide +kernel
theorem dL_isSeen_110 : decode cL_isSeen 110 = .ok (.istore 13, 2) := by decide +kernel
theorem dL_isSeen_112 : decode cL_isSeen 112 = .ok (.aload_n 0, 1) := by decide +kernel
theorem dL_isSeen_113 : decode cL_isSeen 113 = .ok (.iload_n 1, 1) := by decide +kernel
theorem dL_isSeen_114 : decode cL_isSeen 114 = .ok (.bipush 7, 2) := by decide +kernel
theorem dL_isSeen_116 : decode cL_isSeen 116 = .ok (.iload_n 2, 1) := by decide +kernel
theorem dL_isSeen_117 : decode cL_isSeen 117 = .ok (.isub, 1) := by decide +kernel
theorem dL_isSeen_118 : decode cL_isSeen 118 = .ok (.invokevirtual 72, 3) := by decide +kernel
theorem dL_isSeen_121 : decode cL_isSeen 121 = .ok (.istore 14, 2) := by decide +kernel
theorem dL_isSeen_123 : decode cL_isSeen 123 = .ok (.iload 7, 2) := by decide +kernel
theorem dL_isSeen_125 : decode cL_isSeen 125 = .ok (.iload 4, 2) := by decide +kernel
theorem dL_isSeen_127 : decode cL_isSeen 127 = .ok (.if_icmp .ne 66, 3) := by decide +kernel
theorem dL_isSeen_130 : decode cL_isSeen 130 = .ok (.iload 9, 2) := by decide +kernel
theorem dL_isSeen_132 : decode cL_isSeen 132 = .ok (.ifCond .ne 61, 3) := by decide +kernel
theorem dL_isSeen_135 : decode cL_isSeen 135 = .ok (.iload 11, 2) := by decide +kernel
theorem dL_isSeen_137 : decode cL_isSeen 137 = .ok (.iconst 2, 1) := by decide +kernel
theorem dL_isSeen_138 : decode cL_isSeen 138 = .ok (.if_icmp .ne 55, 3) := by decide +kernel
theorem dL_isSeen_141 : decode cL_isSeen 141 = .ok (.iload 13, 2) := by decide +kernel
theorem dL_isSeen_143 : decode cL_isSeen 143 = .ok (.iconst 1, 1) := by decide +kernel
theorem dL_isSeen_144 : decode cL_isSeen 144 = .ok (.if_icmp .ne 49, 3) := by decide +kernel
theorem dL_isSeen_147 : decode cL_isSeen 147 = .ok (.iload_n 3, 1) := by decide +kernel
theorem dL_isSeen_148 : decode cL_isSeen 148 = .ok (.ifCond .eq 31, 3) := by decide +kernel
theorem dL_isSeen_151 : decode cL_isSeen 151 = .ok (.iload 8, 2) := by decide +kernel
theorem dL_isSeen_153 : decode cL_isSeen 153 = .ok (.iload 10, 2) := by decide +kernel
theorem dL_isSeen_155 : decode cL_isSeen 155 = .ok (.invokestatic 108, 3) := by decide +kernel
theorem dL_isSeen_158 : decode cL_isSeen 158 = .ok (.iadd, 1) := by decide +kernel
theorem dL_isSeen_159 : decode cL_isSeen 159 = .ok (.sipush 255, 3) := by decide +kernel
theorem dL_isSeen_162 : decode cL_isSeen 162 = .ok (.if_icmp .ne 31, 3) := by decide +kernel
theorem dL_isSeen_165 : decode cL_isSeen 165 = .ok (.iload 12, 2) := by decide +kernel
theorem dL_isSeen_167 : decode cL_isSeen 167 = .ok (.iload 14, 2) := by decide +kernel
theorem dL_isSeen_169 : decode cL_isSeen 169 = .ok (.invokestatic 108, 3) := by decide +kernel
theorem dL_isSeen_172 : decode cL_isSeen 172 = .ok (.iadd, 1) := by decide +kernel
theorem dL_isSeen_173 : decode cL_isSeen 173 = .ok (.sipush 255, 3) := by decide +kernel
theorem dL_isSeen_176 : decode cL_isSeen 176 = .ok (.if_icmp .ne 17, 3) := by decide +kernel
theorem dL_isSeen_179 : decode cL_isSeen 179 = .ok (.iload 12, 2) := by decide +kernel
theorem dL_isSeen_181 : decode cL_isSeen 181 = .ok (.iload 8, 2) := by decide +kernel
theorem dL_isSeen_183 : decode cL_isSeen 183 = .ok (.invokestatic 108, 3) := by decide +kernel
theorem dL_isSeen_186 : decode cL_isSeen 186 = .ok (.if_icmp .ne 7, 3) := by decide +kernel
theorem dL_isSeen_189 : decode cL_isSeen 189 = .ok (.iconst 1, 1) := by decide +kernel
theorem dL_isSeen_190 : decode cL_isSeen 190 = .ok (.goto 4, 3) := by decide +kernel
theorem dL_isSeen_193 : decode cL_isSeen 193 = .ok (.iconst 0, 1) := by decide +kernel
theorem dL_isSeen_194 : decode cL_isSeen 194 = .ok (.istore 15, 2) := by decide +kernel
theorem dL_isSeen_196 : decode cL_isSeen 196 = .ok (.iload 15, 2) := by decide +kernel
theorem dL_isSeen_198 : decode cL_isSeen 198 = .ok (.ifCond .eq 45, 3) := by decide +kernel
theorem dL_isSeen_201 : decode cL_isSeen 201 = .ok (.aload_n 0, 1) := by decide +kernel
theorem dL_isSeen_202 : decode cL_isSeen 202 = .ok (.invokevirtual 111, 3) := by decide +kernel
theorem dL_isSeen_205 : decode cL_isSeen 205 = .ok (.ifCond .lt 38, 3) := by decide +kernel
theorem dL_isSeen_208 : decode cL_isSeen 208 = .ok (.aload_n 0, 1) := by decide +kernel
theorem dL_isSeen_209 : decode cL_isSeen 209 = .ok (.invokevirtual 111, 3) := by decide +kernel
theorem dL_isSeen_212 : decode cL_isSeen 212 = .ok (.ifCond .lt 31, 3) := by decide +kernel
theorem dL_isSeen_215 : decode cL_isSeen 215 = .ok (.aload_n 0, 1) := by decide +kernel
theorem dL_isSeen_216 : decode cL_isSeen 216 = .ok (.invokevirtual 111, 3) := by decide +kernel
theorem dL_isSeen_219 : decode cL_isSeen 219 = .ok (.ifCond .lt 24, 3) := by decide +kernel
theorem dL_isSeen_222 : decode cL_isSeen 222 = .ok (.aload_n 0, 1) := by decide +kernel
theorem dL_isSeen_223 : decode cL_isSeen 223 = .ok (.invokevirtual 111, 3) := by decide +kernel
theorem dL_isSeen_226 : decode cL_isSeen 226 = .ok (.ifCond .lt 17, 3) := by decide +kernel
theorem dL_isSeen_229 : decode cL_isSeen 229 = .ok (.aload_n 0, 1) := by decide +kernel
theorem dL_isSeen_230 : decode cL_isSeen 230 = .ok (.invokevirtual 104, 3) := by decide +kernel
theorem dL_isSeen_233 : decode cL_isSeen 233 = .ok (.lload 5, 2) := by decide +kernel
theorem dL_isSeen_235 : decode cL_isSeen 235 = .ok (.lcmp, 1) := by decide +kernel
theorem dL_isSeen_236 : decode cL_isSeen 236 = .ok (.ifCond .ne 7, 3) := by decide +kernel
theorem dL_isSeen_239 : decode cL_isSeen 239 = .ok (.iconst 1, 1) := by decide +kernel
theorem dL_isSeen_240 : decode cL_isSeen 240 = .ok (.goto 4, 3) := by decide +kernel
theorem dL_isSeen_243 : decode cL_isSeen 243 = .ok (.iconst 0, 1) := by decide +kernel
theorem dL_isSeen_244 : decode cL_isSeen 244 = .ok (.ireturn, 1) := by decide +kernel
theorem dL_isAhead_0 : decode cL_isAhead 0 = .ok (.aload_n 0, 1) := by decide +kernel
theorem dL_isAhead_1 : decode cL_isAhead 1 = .ok (.invokevirtual 104, 3) := by decide +kernel
theorem dL_isAhead_4 : decode cL_isAhead 4 = .ok (.lstore_n 3, 1) := by decide +kernel
theorem dL_isAhead_5 : decode cL_isAhead 5 = .ok (.aload_n 0, 1) := by decide +kernel
theorem dL_isAhead_6 : decode cL_isAhead 6 = .ok (.iload_n 1, 1) := by decide +kernel
theorem dL_isAhead_7 : decode cL_isAhead 7 = .ok (.iload_n 2, 1) := by decide +kernel
theorem dL_isAhead_8 : decode cL_isAhead 8 = .ok (.bipush 8, 2) := by decide +kernel
theorem dL_isAhead_10 : decode cL_isAhead 10 = .ok (.idiv, 1) := by decide +kernel
theorem dL_isAhead_11 : decode cL_isAhead 11 = .ok (.iload_n 2, 1) := by decide +kernel
theorem dL_isAhead_12 : decode cL_isAhead 12 = .ok (.bipush 8, 2) := by decide +kernel
theorem dL_isAhead_14 : decode cL_isAhead 14 = .ok (.irem, 1) := by decide +kernel
theorem dL_isAhead_15 : decode cL_isAhead 15 = .ok (.invokevirtual 99, 3) := by decide +kernel
theorem dL_isAhead_18 : decode cL_isAhead 18 = .ok (.istore 5, 2) := by decide +kernel
theorem dL_isAhead_20 : decode cL_isAhead 20 = .ok (.aload_n 0, 1) := by decide +kernel
theorem dL_isAhead_21 : decode cL_isAhead 21 = .ok (.iload_n 1, 1) := by decide +kernel
theorem dL_isAhead_22 : decode cL_isAhead 22 = .ok (.invokevirtual 115, 3) := by decide +kernel
theorem dL_isAhead_25 : decode cL_isAhead 25 = .ok (.istore 6, 2) := by decide +kernel
theorem dL_isAhead_27 : decode cL_isAhead 27 = .ok (.iload 6, 2) := by decide +kernel
theorem dL_isAhead_29 : decode cL_isAhead 29 = .ok (.iconst (-1), 1) := by decide +kernel
theorem dL_isAhead_30 : decode cL_isAhead 30 = .ok (.if_icmp .ne 7, 3) := by decide +kernel
theorem dL_isAhead_33 : decode cL_isAhead 33 = .ok (.iconst 1, 1) := by decide +kernel
theorem dL_isAhead_34 : decode cL_isAhead 34 = .ok (.goto 4, 3) := by decide +kernel
theorem dL_isAhead_37 : decode cL_isAhead 37 = .ok (.iconst 0, 1) := by decide +kernel
theorem dL_isAhead_38 : decode cL_isAhead 38 = .ok (.aload_n 0, 1) := by decide +kernel
theorem dL_isAhead_39 : decode cL_isAhead 39 = .ok (.iload_n 1, 1) := by decide +kernel
theorem dL_isAhead_40 : decode cL_isAhead 40 = .ok (.iconst 0, 1) := by decide +kernel
theorem dL_isAhead_41 : decode cL_isAhead 41 = .ok (.invokevirtual 36, 3) := by decide +kernel
theorem dL_isAhead_44 : decode cL_isAhead 44 = .ok (.aload_n 0, 1) := by decide +kernel
theorem dL_isAhead_45 : decode cL_isAhead 45 = .ok (.iload_n 1, 1) := by decide +kernel
theorem dL_isAhead_46 : decode cL_isAhead 46 = .ok (.iconst 1, 1) := by decide +kernel
theorem dL_isAhead_47 : decode cL_isAhead 47 = .ok (.invokevirtual 36, 3) := by decide +kernel
theorem dL_isAhead_50 : decode cL_isAhead 50 = .ok (.iadd, 1) := by decide +kernel
theorem dL_isAhead_51 : decode cL_isAhead 51 = .ok (.ifCond .ne 7, 3) := by decide +kernel
theorem dL_isAhead_54 : decode cL_isAhead 54 = .ok (.iconst 1, 1) := by decide +kernel
theorem dL_isAhead_55 : decode cL_isAhead 55 = .ok (.goto 4, 3) := by decide +kernel
theorem dL_isAhead_58 : decode cL_isAhead 58 = .ok (.iconst 0, 1) := by decide +kernel
theorem dL_isAhead_59 : decode cL_isAhead 59 = .ok (.if_icmp .ne 32, 3) := by decide +kernel
theorem dL_isAhead_62 : decode cL_isAhead 62 = .ok (.iload 5, 2) := by decide +kernel
theorem dL_isAhead_64 : decode cL_isAhead 64 = .ok (.ifCond .lt 23, 3) := by decide +kernel
theorem dL_isAhead_67 : decode cL_isAhead 67 = .ok (.iload 5, 2) := by decide +kernel
theorem dL_isAhead_69 : decode cL_isAhead 69 = .ok (.aload_n 0, 1) := by decide +kernel
theorem dL_isAhead_70 : decode cL_isAhead 70 = .ok (.iload_n 1, 1) := by decide +kernel
theorem dL_isAhead_71 : decode cL_isAhead 71 = .ok (.iload 6, 2) := by decide +kernel
theorem dL_isAhead_73 : decode cL_isAhead 73 = .ok (.bipush 8, 2) := by decide +kernel
theorem dL_isAhead_75 : decode cL_isAhead 75 = .ok (.idiv, 1) := by decide +kernel
theorem dL_isAhead_76 : decode cL_isAhead 76 = .ok (.iload 6, 2) := by decide +kernel
theorem dL_isAhead_78 : decode cL_isAhead 78 = .ok (.bipush 8, 2) := by decide +kernel
theorem dL_isAhead_80 : decode cL_isAhead 80 = .ok (.irem, 1) := by decide +kernel
theorem dL_isAhead_81 : decode cL_isAhead 81 = .ok (.invokevirtual 99, 3) := by decide +kernel
theorem dL_isAhead_84 : decode cL_isAhead 84 = .ok (.if_icmp .gt 7, 3) := by decide +kernel
theorem dL_isAhead_87 : decode cL_isAhead 87 = .ok (.iconst 1, 1) := by decide +kernel
theorem dL_isAhead_88 : decode cL_isAhead 88 = .ok (.goto 4, 3) := by decide +kernel
theorem dL_isAhead_91 : decode cL_isAhead 91 = .ok (.iconst 0, 1) := by decide +kernel
theorem dL_isAhead_92 : decode cL_isAhead 92 = .ok (.istore 7, 2) := by decide +kernel
theorem dL_isAhead_94 : decode cL_isAhead 94 = .ok (.iload 7, 2) := by decide +kernel
theorem dL_isAhead_96 : decode cL_isAhead 96 = .ok (.ifCond .eq 170, 3) := by decide +kernel
theorem dL_isAhead_99 : decode cL_isAhead 99 = .ok (.iload 5, 2) := by decide +kernel
theorem dL_isAhead_101 : decode cL_isAhead 101 = .ok (.ifCond .lt 165, 3) := by decide +kernel
theorem dL_isAhead_104 : decode cL_isAhead 104 = .ok (.aload_n 0, 1) := by decide +kernel
theorem dL_isAhead_105 : decode cL_isAhead 105 = .ok (.iload_n 1, 1) := by decide +kernel
theorem dL_isAhead_106 : decode cL_isAhead 106 = .ok (.iconst 0, 1) := by decide +kernel
theorem dL_isAhead_107 : decode cL_isAhead 107 = .ok (.invokevirtual 54, 3) := by decide +kernel
theorem dL_isAhead_110 : decode cL_isAhead 110 = .ok (.istore 8, 2) := by decide +kernel
theorem dL_isAhead_112 : decode cL_isAhead 112 = .ok (.aload_n 0, 1) := by decide +kernel
theorem dL_isAhead_113 : decode cL_isAhead 113 = .ok (.iload_n 1, 1) := by decide +kernel
theorem dL_isAhead_114 : decode cL_isAhead 114 = .ok (.iload_n 2, 1) := by decide +kernel
theorem dL_isAhead_115 : decode cL_isAhead 115 = .ok (.bipush 8, 2) := by decide +kernel
theorem dL_isAhead_117 : decode cL_isAhead 117 = .ok (.idiv, 1) := by decide +kernel
theorem dL_isAhead_118 : decode cL_isAhead 118 = .ok (.iload_n 2, 1) := by decide +kernel
theorem dL_isAhead_119 : decode cL_isAhead 119 = .ok (.bipush 8, 2) := by decide +kernel
theorem dL_isAhead_121 : decode cL_isAhead 121 = .ok (.irem, 1) := by decide +kernel
theorem dL_isAhead_122 : decode cL_isAhead 122 = .ok (.invokevirtual 68, 3) := by decide +kernel
theorem dL_isAhead_125 : decode cL_isAhead 125 = .ok (.istore 9, 2) := by decide +kernel
theorem dL_isAhead_127 : decode cL_isAhead 127 = .ok (.iload 9, 2) := by decide +kernel
theorem dL_isAhead_129 : decode cL_isAhead 129 = .ok (.ifCond .eq 19, 3) := by decide +kernel
theorem dL_isAhead_132 : decode cL_isAhead 132 = .ok (.aload_n 0, 1) := by decide +kernel
theorem dL_isAhead_133 : decode cL_isAhead 133 = .ok (.iload_n 1, 1) := by decide +kernel
theorem dL_isAhead_134 : decode cL_isAhead 134 = .ok (.iload_n 2, 1) := by decide +kernel
theorem dL_isAhead_135 : decode cL_isAhead 135 = .ok (.bipush 8, 2) := by decide +kernel
theorem dL_isAhead_137 : decode cL_isAhead 137 = .ok (.idiv, 1) := by decide +kernel
theorem dL_isAhead_138 : decode cL_isAhead 138 = .ok (.iload_n 2, 1) := by decide +kernel
theorem dL_isAhead_139 : decode cL_isAhead 139 = .ok (.bipush 8, 2) := by decide +kernel
theorem dL_isAhead_141 : decode cL_isAhead 141 = .ok (.irem, 1) := by decide +kernel
theorem dL_isAhead_142 : decode cL_isAhead 142 = .ok (.invokevirtual 75, 3) := by decide +kernel
theorem dL_isAhead_145 : decode cL_isAhead 145 = .ok (.goto 16, 3) := by decide +kernel
theorem dL_isAhead_148 : decode cL_isAhead 148 = .ok (.aload_n 0, 1) := by decide +kernel
theorem dL_isAhead_149 : decode cL_isAhead 149 = .ok (.iload_n 1, 1) := by decide +kernel
theorem dL_isAhead_150 : decode cL_isAhead 150 = .ok (.iload_n 2, 1) := by decide +kernel
theorem dL_isAhead_151 : decode cL_isAhead 151 = .ok (.bipush 8, 2) := by decide +kernel
theorem dL_isAhead_153 : decode cL_isAhead 153 = .ok (.idiv, 1) := by decide +kernel
theorem dL_isAhead_154 : decode cL_isAhead 154 = .ok (.iload_n 2, 1) := by decide +kernel
theorem dL_isAhead_155 : decode cL_isAhead 155 = .ok (.bipush 8, 2) := by decide +kernel
theorem dL_isAhead_157 : decode cL_isAhead 157 = .ok (.irem, 1) := by decide +kernel
theorem dL_isAhead_158 : decode cL_isAhead 158 = .ok (.invokevirtual 78, 3) := by decide +kernel
theorem dL_isAhead_161 : decode cL_isAhead 161 = .ok (.istore 10, 2) := by decide +kernel
theorem dL_isAhead_163 : decode cL_isAhead 163 = .ok (.iload 8, 2) := by decide +kernel
theorem dL_isAhead_165 : decode cL_isAhead 165 = .ok (.ifCond .lt 23, 3) := by decide +kernel
theorem dL_isAhead_168 : decode cL_isAhead 168 = .ok (.iload 10, 2) := by decide +kernel
theorem dL_isAhead_170 : decode cL_isAhead 170 = .ok (.iconst 1, 1) := by decide +kernel
theorem dL_isAhead_171 : decode cL_isAhead 171 = .ok (.if_icmp .le 17, 3) := by decide +kernel
theorem dL_isAhead_174 : decode cL_isAhead 174 = .ok (.aload_n 0, 1) := by decide +kernel
theorem dL_isAhead_175 : decode cL_isAhead 175 = .ok (.iload_n 1, 1) := by decide +kernel
theorem dL_isAhead_176 : decode cL_isAhead 176 = .ok (.invokevirtual 39, 3) := by decide +kernel
theorem dL_isAhead_179 : decode cL_isAhead 179 = .ok (.iload 5, 2) := by decide +kernel
theorem dL_isAhead_181 : decode cL_isAhead 181 = .ok (.if_icmp .ne 7, 3) := by decide +kernel
theorem dL_isAhead_184 : decode cL_isAhead 184 = .ok (.iconst 1, 1) := by decide +kernel
theorem dL_isAhead_185 : decode cL_isAhead 185 = .ok (.goto 4, 3) := by decide +kernel
theorem dL_isAhead_188 : decode cL_isAhead 188 = .ok (.iconst 0, 1) := by decide +kernel
theorem dL_isAhead_189 : decode cL_isAhead 189 = .ok (.istore 7, 2) := by decide +kernel
theorem dL_isAhead_191 : decode cL_isAhead 191 = .ok (.iload 9, 2) := by decide +kernel
theorem dL_isAhead_193 : decode cL_isAhead 193 = .ok (.ifCond .eq 19, 3) := by decide +kernel
theorem dL_isAhead_196 : decode cL_isAhead 196 = .ok (.aload_n 0, 1) := by decide +kernel
theorem dL_isAhead_197 : decode cL_isAhead 197 = .ok (.iload_n 1, 1) := by decide +kernel
theorem dL_isAhead_198 : decode cL_isAhead 198 = .ok (.iload_n 2, 1) := by decide +kernel
theorem dL_isAhead_199 : decode cL_isAhead 199 = .ok (.bipush 8, 2) := by decide +kernel
theorem dL_isAhead_201 : decode cL_isAhead 201 = .ok (.idiv, 1) := by decide +kernel
theorem dL_isAhead_202 : decode cL_isAhead 202 = .ok (.iload_n 2, 1) := by decide +kernel
theorem dL_isAhead_203 : decode cL_isAhead 203 = .ok (.bipush 8, 2) := by decide +kernel
theorem dL_isAhead_205 : decode cL_isAhead 205 = .ok (.irem, 1) := by decide +kernel
theorem dL_isAhead_206 : decode cL_isAhead 206 = .ok (.invokevirtual 78, 3) := by decide +kernel
theorem dL_isAhead_209 : decode cL_isAhead 209 = .ok (.goto 16, 3) := by decide +kernel
theorem dL_isAhead_212 : decode cL_isAhead 212 = .ok (.aload_n 0, 1) := by decide +kernel
theorem dL_isAhead_213 : decode cL_isAhead 213 = .ok (.iload_n 1, 1) := by decide +kernel
theorem dL_isAhead_214 : decode cL_isAhead 214 = .ok (.iload_n 2, 1) := by decide +kernel
theorem dL_isAhead_215 : decode cL_isAhead 215 = .ok (.bipush 8, 2) := by decide +kernel
theorem dL_isAhead_217 : decode cL_isAhead 217 = .ok (.idiv, 1) := by decide +kernel
theorem dL_isAhead_218 : decode cL_isAhead 218 = .ok (.iload_n 2, 1) := by decide +kernel
theorem dL_isAhead_219 : decode cL_isAhead 219 = .ok (.bipush 8, 2) := by decide +kernel
theorem dL_isAhead_221 : decode cL_isAhead 221 = .ok (.irem, 1) := by decide +kernel
theorem dL_isAhead_222 : decode cL_isAhead 222 = .ok (.invokevirtual 75, 3) := by decide +kernel
theorem dL_isAhead_225 : decode cL_isAhead 225 = .ok (.istore 11, 2) := by decide +kernel
theorem dL_isAhead_227 : decode cL_isAhead 227 = .ok (.iload 7, 2) := by decide +kernel
theorem dL_isAhead_229 : decode cL_isAhead 229 = .ok (.ifCond .eq 34, 3) := by decide +kernel
theorem dL_isAhead_232 : decode cL_isAhead 232 = .ok (.iload 11, 2) := by decide +kernel
theorem dL_isAhead_234 : decode cL_isAhead 234 = .ok (.iconst 2, 1) := by decide +kernel
theorem dL_isAhead_235 : decode cL_isAhead 235 = .ok (.if_icmp .ge 28, 3) := by decide +kernel
theorem dL_isAhead_238 : decode cL_isAhead 238 = .ok (.aload_n 0, 1) := by decide +kernel
theorem dL_isAhead_239 : decode cL_isAhead 239 = .ok (.invokevirtual 111, 3) := by decide +kernel
theorem dL_isAhead_242 : decode cL_isAhead 242 = .ok (.ifCond .lt 21, 3) := by decide +kernel
theorem dL_isAhead_245 : decode cL_isAhead 245 = .ok (.aload_n 0, 1) := by decide +kernel
theorem dL_isAhead_246 : decode cL_isAhead 246 = .ok (.invokevirtual 111, 3) := by decide +kernel
theorem dL_isAhead_249 : decode cL_isAhead 249 = .ok (.ifCond .lt 14, 3) := by decide +kernel
theorem dL_isAhead_252 : decode cL_isAhead 252 = .ok (.aload_n 0, 1) := by decide +kernel
theorem dL_isAhead_253 : decode cL_isAhead 253 = .ok (.invokevirtual 111, 3) := by decide +kernel
theorem dL_isAhead_256 : decode cL_isAhead 256 = .ok (.ifCond .lt 7, 3) := by decide +kernel
theorem dL_isAhead_259 : decode cL_isAhead 259 = .ok (.iconst 1, 1) := by decide +kernel
theorem dL_isAhead_260 : decode cL_isAhead 260 = .ok (.goto 4, 3) := by decide +kernel
theorem dL_isAhead_263 : decode cL_isAhead 263 = .ok (.iconst 0, 1) := by decide +kernel
theorem dL_isAhead_264 : decode cL_isAhead 264 = .ok (.istore 7, 2) := by decide +kernel
theorem dL_isAhead_266 : decode cL_isAhead 266 = .ok (.iload 7, 2) := by decide +kernel
theorem dL_isAhead_268 : decode cL_isAhead 268 = .ok (.ifCond .eq 16, 3) := by decide +kernel
theorem dL_isAhead_271 : decode cL_isAhead 271 = .ok (.aload_n 0, 1) := by decide +kernel
theorem dL_isAhead_272 : decode cL_isAhead 272 = .ok (.invokevirtual 104, 3) := by decide +kernel
theorem dL_isAhead_275 : decode cL_isAhead 275 = .ok (.lload_n 3, 1) := by decide +kernel
theorem dL_isAhead_276 : decode cL_isAhead 276 = .ok (.lcmp, 1) := by decide +kernel
theorem dL_isAhead_277 : decode cL_isAhead 277 = .ok (.ifCond .ne 7, 3) := by decide +kernel
theorem dL_isAhead_280 : decode cL_isAhead 280 = .ok (.iconst 1, 1) := by decide +kernel
theorem dL_isAhead_281 : decode cL_isAhead 281 = .ok (.goto 4, 3) := by decide +kernel
theorem dL_isAhead_284 : decode cL_isAhead 284 = .ok (.iconst 0, 1) := by decide +kernel
theorem dL_isAhead_285 : decode cL_isAhead 285 = .ok (.ireturn, 1) := by decide +kernel
theorem dL_law_0 : decode cL_law 0 = .ok (.new 14, 3) := by decide +kernel
theorem dL_law_3 : decode cL_law 3 = .ok (.dup, 1) := by decide +kernel
theorem dL_law_4 : decode cL_law 4 = .ok (.invokespecial 118, 3) := by decide +kernel
theorem dL_law_7 : decode cL_law 7 = .ok (.astore_n 1, 1) := by decide +kernel
theorem dL_law_8 : decode cL_law 8 = .ok (.aload_n 1, 1) := by decide +kernel
theorem dL_law_9 : decode cL_law 9 = .ok (.iconst 0, 1) := by decide +kernel
theorem dL_law_10 : decode cL_law 10 = .ok (.invokestatic 119, 3) := by decide +kernel
theorem dL_law_13 : decode cL_law 13 = .ok (.ifCond .eq 16, 3) := by decide +kernel
theorem dL_law_16 : decode cL_law 16 = .ok (.aload_n 1, 1) := by decide +kernel
theorem dL_law_17 : decode cL_law 17 = .ok (.iconst 0, 1) := by decide +kernel
theorem dL_law_18 : decode cL_law 18 = .ok (.invokevirtual 115, 3) := by decide +kernel
theorem dL_law_21 : decode cL_law 21 = .ok (.iconst (-1), 1) := by decide +kernel
theorem dL_law_22 : decode cL_law 22 = .ok (.if_icmp .ne 7, 3) := by decide +kernel
theorem dL_law_25 : decode cL_law 25 = .ok (.iconst 1, 1) := by decide +kernel
theorem dL_law_26 : decode cL_law 26 = .ok (.goto 4, 3) := by decide +kernel
theorem dL_law_29 : decode cL_law 29 = .ok (.iconst 0, 1) := by decide +kernel
theorem dL_law_30 : decode cL_law 30 = .ok (.istore_n 2, 1) := by decide +kernel
theorem dL_law_31 : decode cL_law 31 = .ok (.iconst 0, 1) := by decide +kernel
theorem dL_law_32 : decode cL_law 32 = .ok (.istore_n 3, 1) := by decide +kernel
theorem dL_law_33 : decode cL_law 33 = .ok (.iload_n 3, 1) := by decide +kernel
theorem dL_law_34 : decode cL_law 34 = .ok (.bipush 40, 2) := by decide +kernel
theorem dL_law_36 : decode cL_law 36 = .ok (.if_icmp .ge 237, 3) := by decide +kernel
theorem dL_law_39 : decode cL_law 39 = .ok (.iload_n 2, 1) := by decide +kernel
theorem dL_law_40 : decode cL_law 40 = .ok (.ifCond .eq 233, 3) := by decide +kernel
theorem dL_law_43 : decode cL_law 43 = .ok (.aload_n 0, 1) := by decide +kernel
theorem dL_law_44 : decode cL_law 44 = .ok (.iconst 2, 1) := by decide +kernel
theorem dL_law_45 : decode cL_law 45 = .ok (.iload_n 3, 1) := by decide +kernel
theorem dL_law_46 : decode cL_law 46 = .ok (.imul, 1) := by decide +kernel
theorem dL_law_47 : decode cL_law 47 = .ok (.invokestatic 122, 3) := by decide +kernel
theorem dL_law_50 : decode cL_law 50 = .ok (.istore 4, 2) := by decide +kernel
theorem dL_law_52 : decode cL_law 52 = .ok (.aload_n 0, 1) := by decide +kernel
theorem dL_law_53 : decode cL_law 53 = .ok (.iconst 2, 1) := by decide +kernel
theorem dL_law_54 : decode cL_law 54 = .ok (.iload_n 3, 1) := by decide +kernel
theorem dL_law_55 : decode cL_law 55 = .ok (.imul, 1) := by decide +kernel
theorem dL_law_56 : decode cL_law 56 = .ok (.iconst 1, 1) := by decide +kernel
theorem dL_law_57 : decode cL_law 57 = .ok (.iadd, 1) := by decide +kernel
theorem dL_law_58 : decode cL_law 58 = .ok (.invokestatic 122, 3) := by decide +kernel
theorem dL_law_61 : decode cL_law 61 = .ok (.istore 5, 2) := by decide +kernel
theorem dL_law_63 : decode cL_law 63 = .ok (.iload 5, 2) := by decide +kernel
theorem dL_law_65 : decode cL_law 65 = .ok (.iconst 3, 1) := by decide +kernel
theorem dL_law_66 : decode cL_law 66 = .ok (.invokestatic 29, 3) := by decide +kernel
theorem dL_law_69 : decode cL_law 69 = .ok (.istore 6, 2) := by decide +kernel
theorem dL_law_71 : decode cL_law 71 = .ok (.aload_n 1, 1) := by decide +kernel
theorem dL_law_72 : decode cL_law 72 = .ok (.invokestatic 48, 3) := by decide +kernel
theorem dL_law_75 : decode cL_law 75 = .ok (.lstore 7, 2) := by decide +kernel
theorem dL_law_77 : decode cL_law 77 = .ok (.aload_n 1, 1) := by decide +kernel
theorem dL_law_78 : decode cL_law 78 = .ok (.invokevirtual 126, 3) := by decide +kernel
theorem dL_law_81 : decode cL_law 81 = .ok (.istore 9, 2) := by decide +kernel
theorem dL_law_83 : decode cL_law 83 = .ok (.aload_n 1, 1) := by decide +kernel
theorem dL_law_84 : decode cL_law 84 = .ok (.iload 4, 2) := by decide +kernel
theorem dL_law_86 : decode cL_law 86 = .ok (.iload 5, 2) := by decide +kernel
theorem dL_law_88 : decode cL_law 88 = .ok (.invokestatic 129, 3) := by decide +kernel
theorem dL_law_91 : decode cL_law 91 = .ok (.ifCond .eq 30, 3) := by decide +kernel
theorem dL_law_94 : decode cL_law 94 = .ok (.aload_n 1, 1) := by decide +kernel
theorem dL_law_95 : decode cL_law 95 = .ok (.invokevirtual 126, 3) := by decide +kernel
theorem dL_law_98 : decode cL_law 98 = .ok (.iload 9, 2) := by decide +kernel
theorem dL_law_100 : decode cL_law 100 = .ok (.bipush 6, 2) := by decide +kernel
theorem dL_law_102 : decode cL_law 102 = .ok (.if_icmp .ge 10, 3) := by decide +kernel
theorem dL_law_105 : decode cL_law 105 = .ok (.iload 9, 2) := by decide +kernel
theorem dL_law_107 : decode cL_law 107 = .ok (.iconst 1, 1) := by decide +kernel
theorem dL_law_108 : decode cL_law 108 = .ok (.iadd, 1) := by decide +kernel
theorem dL_law_109 : decode cL_law 109 = .ok (.goto 5, 3) := by decide +kernel
theorem dL_law_112 : decode cL_law 112 = .ok (.bipush 6, 2) := by decide +kernel
theorem dL_law_114 : decode cL_law 114 = .ok (.if_icmp .ne 7, 3) := by decide +kernel
theorem dL_law_117 : decode cL_law 117 = .ok (.iconst 1, 1) := by decide +kernel
theorem dL_law_118 : decode cL_law 118 = .ok (.goto 4, 3) := by decide +kernel
theorem dL_law_121 : decode cL_law 121 = .ok (.iconst 0, 1) := by decide +kernel
theorem dL_law_122 : decode cL_law 122 = .ok (.istore_n 2, 1) := by decide +kernel
theorem dL_law_123 : decode cL_law 123 = .ok (.iload_n 2, 1) := by decide +kernel
theorem dL_law_124 : decode cL_law 124 = .ok (.ifCond .eq 73, 3) := by decide +kernel
theorem dL_law_127 : decode cL_law 127 = .ok (.iload 4, 2) := by decide +kernel
theorem dL_law_129 : decode cL_law 129 = .ok (.bipush 8, 2) := by decide +kernel
theorem dL_law_131 : decode cL_law 131 = .ok (.ishr, 1) := by decide +kernel
theorem dL_law_132 : decode cL_law 132 = .ok (.iconst 3, 1) := by decide +kernel
theorem dL_law_133 : decode cL_law 133 = .ok (.iand, 1) := by decide +kernel
theorem dL_law_134 : decode cL_law 134 = .ok (.ifCond .ne 63, 3) := by decide +kernel
theorem dL_law_137 : decode cL_law 137 = .ok (.aload_n 1, 1) := by decide +kernel
theorem dL_law_138 : decode cL_law 138 = .ok (.invokestatic 48, 3) := by decide +kernel
theorem dL_law_141 : decode cL_law 141 = .ok (.lstore 10, 2) := by decide +kernel
theorem dL_law_143 : decode cL_law 143 = .ok (.aload_n 1, 1) := by decide +kernel
theorem dL_law_144 : decode cL_law 144 = .ok (.invokevirtual 126, 3) := by decide +kernel
theorem dL_law_147 : decode cL_law 147 = .ok (.iconst 1, 1) := by decide +kernel
theorem dL_law_148 : decode cL_law 148 = .ok (.isub, 1) := by decide +kernel
theorem dL_law_149 : decode cL_law 149 = .ok (.istore 12, 2) := by decide +kernel
theorem dL_law_151 : decode cL_law 151 = .ok (.aload_n 1, 1) := by decide +kernel
theorem dL_law_152 : decode cL_law 152 = .ok (.invokevirtual 111, 3) := by decide +kernel
theorem dL_law_155 : decode cL_law 155 = .ok (.iload 12, 2) := by decide +kernel
theorem dL_law_157 : decode cL_law 157 = .ok (.if_icmp .ne 38, 3) := by decide +kernel
theorem dL_law_160 : decode cL_law 160 = .ok (.aload_n 1, 1) := by decide +kernel
theorem dL_law_161 : decode cL_law 161 = .ok (.invokestatic 48, 3) := by decide +kernel
theorem dL_law_164 : decode cL_law 164 = .ok (.lload 7, 2) := by decide +kernel
theorem dL_law_166 : decode cL_law 166 = .ok (.lcmp, 1) := by decide +kernel
theorem dL_law_167 : decode cL_law 167 = .ok (.ifCond .ne 28, 3) := by decide +kernel
theorem dL_law_170 : decode cL_law 170 = .ok (.aload_n 1, 1) := by decide +kernel
theorem dL_law_171 : decode cL_law 171 = .ok (.iload 4, 2) := by decide +kernel
theorem dL_law_173 : decode cL_law 173 = .ok (.iload 5, 2) := by decide +kernel
theorem dL_law_175 : decode cL_law 175 = .ok (.invokestatic 129, 3) := by decide +kernel
theorem dL_law_178 : decode cL_law 178 = .ok (.ifCond .eq 17, 3) := by decide +kernel
theorem dL_law_181 : decode cL_law 181 = .ok (.aload_n 1, 1) := by decide +kernel
theorem dL_law_182 : decode cL_law 182 = .ok (.invokestatic 48, 3) := by decide +kernel
theorem dL_law_185 : decode cL_law 185 = .ok (.lload 10, 2) := by decide +kernel
theorem dL_law_187 : decode cL_law 187 = .ok (.lcmp, 1) := by decide +kernel
theorem dL_law_188 : decode cL_law 188 = .ok (.ifCond .ne 7, 3) := by decide +kernel
theorem dL_law_191 : decode cL_law 191 = .ok (.iconst 1, 1) := by decide +kernel
theorem dL_law_192 : decode cL_law 192 = .ok (.goto 4, 3) := by decide +kernel
theorem dL_law_195 : decode cL_law 195 = .ok (.iconst 0, 1) := by decide +kernel
theorem dL_law_196 : decode cL_law 196 = .ok (.istore_n 2, 1) := by decide +kernel
theorem dL_law_197 : decode cL_law 197 = .ok (.iload_n 2, 1) := by decide +kernel
theorem dL_law_198 : decode cL_law 198 = .ok (.ifCond .eq 67, 3) := by decide +kernel
theorem dL_law_201 : decode cL_law 201 = .ok (.aload_n 1, 1) := by decide +kernel
theorem dL_law_202 : decode cL_law 202 = .ok (.iload 6, 2) := by decide +kernel
theorem dL_law_204 : decode cL_law 204 = .ok (.invokestatic 119, 3) := by decide +kernel
theorem dL_law_207 : decode cL_law 207 = .ok (.ifCond .eq 58, 3) := by decide +kernel
theorem dL_law_210 : decode cL_law 210 = .ok (.iload_n 3, 1) := by decide +kernel
theorem dL_law_211 : decode cL_law 211 = .ok (.iconst 3, 1) := by decide +kernel
theorem dL_law_212 : decode cL_law 212 = .ok (.irem, 1) := by decide +kernel
theorem dL_law_213 : decode cL_law 213 = .ok (.iconst 1, 1) := by decide +kernel
theorem dL_law_214 : decode cL_law 214 = .ok (.if_icmp .ne 21, 3) := by decide +kernel
theorem dL_law_217 : decode cL_law 217 = .ok (.aload_n 1, 1) := by decide +kernel
theorem dL_law_218 : decode cL_law 218 = .ok (.iload 6, 2) := by decide +kernel
theorem dL_law_220 : decode cL_law 220 = .ok (.iload 4, 2) := by decide +kernel
theorem dL_law_222 : decode cL_law 222 = .ok (.iconst 5, 1) := by decide +kernel
theorem dL_law_223 : decode cL_law 223 = .ok (.ishr, 1) := by decide +kernel
theorem dL_law_224 : decode cL_law 224 = .ok (.bipush 8, 2) := by decide +kernel
theorem dL_law_226 : decode cL_law 226 = .ok (.invokestatic 29, 3) := by decide +kernel
theorem dL_law_229 : decode cL_law 229 = .ok (.invokestatic 132, 3) := by decide +kernel
theorem dL_law_232 : decode cL_law 232 = .ok (.ifCond .eq 33, 3) := by decide +kernel
theorem dL_law_235 : decode cL_law 235 = .ok (.iload_n 3, 1) := by decide +kernel
theorem dL_law_236 : decode cL_law 236 = .ok (.iconst 3, 1) := by decide +kernel
theorem dL_law_237 : decode cL_law 237 = .ok (.irem, 1) := by decide +kernel
theorem dL_law_238 : decode cL_law 238 = .ok (.iconst 2, 1) := by decide +kernel
theorem dL_law_239 : decode cL_law 239 = .ok (.if_icmp .ne 22, 3) := by decide +kernel
theorem dL_law_242 : decode cL_law 242 = .ok (.aload_n 1, 1) := by decide +kernel
theorem dL_law_243 : decode cL_law 243 = .ok (.iload 6, 2) := by decide +kernel
theorem dL_law_245 : decode cL_law 245 = .ok (.iload 5, 2) := by decide +kernel
theorem dL_law_247 : decode cL_law 247 = .ok (.bipush 9, 2) := by decide +kernel
theorem dL_law_249 : decode cL_law 249 = .ok (.ishr, 1) := by decide +kernel
theorem dL_law_250 : decode cL_law 250 = .ok (.bipush 64, 2) := by decide +kernel
theorem dL_law_252 : decode cL_law 252 = .ok (.invokestatic 29, 3) := by decide +kernel
theorem dL_law_255 : decode cL_law 255 = .ok (.invokestatic 135, 3) := by decide +kernel
theorem dL_law_258 : decode cL_law 258 = .ok (.ifCond .eq 7, 3) := by decide +kernel
theorem dL_law_261 : decode cL_law 261 = .ok (.iconst 1, 1) := by decide +kernel
theorem dL_law_262 : decode cL_law 262 = .ok (.goto 4, 3) := by decide +kernel
theorem dL_law_265 : decode cL_law 265 = .ok (.iconst 0, 1) := by decide +kernel
theorem dL_law_266 : decode cL_law 266 = .ok (.istore_n 2, 1) := by decide +kernel
theorem dL_law_267 : decode cL_law 267 = .ok (.iinc 3 1, 3) := by decide +kernel
theorem dL_law_270 : decode cL_law 270 = .ok (.goto (-237), 3) := by decide +kernel
theorem dL_law_273 : decode cL_law 273 = .ok (.iload_n 2, 1) := by decide +kernel
theorem dL_law_274 : decode cL_law 274 = .ok (.ireturn, 1) := by decide +kernel
