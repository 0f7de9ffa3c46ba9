theorem dX0_init_0 : decode cX0_init 0 = .ok (.aload_n 0, 1) := by decide +kernel
theorem dX0_init_1 : decode cX0_init 1 = .ok (.invokespecial 3, 3) := by decide +kernel
theorem dX0_init_4 : decode cX0_init 4 = .ok (.return_, 1) := by decide +kernel
theorem dX0_clear_0 : decode cX0_clear 0 = .ok (.aload_n 0, 1) := by decide +kernel
theorem dX0_clear_1 : decode cX0_clear 1 = .ok (.lconst 0, 1) := by decide +kernel
theorem dX0_clear_2 : decode cX0_clear 2 = .ok (.putfield 9, 3) := by decide +kernel
theorem dX0_clear_5 : decode cX0_clear 5 = .ok (.aload_n 0, 1) := by decide +kernel
theorem dX0_clear_6 : decode cX0_clear 6 = .ok (.lconst 0, 1) := by decide +kernel
theorem dX0_clear_7 : decode cX0_clear 7 = .ok (.putfield 15, 3) := by decide +kernel
theorem dX0_clear_10 : decode cX0_clear 10 = .ok (.aload_n 0, 1) := by decide +kernel
theorem dX0_clear_11 : decode cX0_clear 11 = .ok (.iconst 0, 1) := by decide +kernel
theorem dX0_clear_12 : decode cX0_clear 12 = .ok (.putfield 18, 3) := by decide +kernel
theorem dX0_clear_15 : decode cX0_clear 15 = .ok (.return_, 1) := by decide +kernel
theorem dX0_become_0 : decode cX0_become 0 = .ok (.aload_n 0, 1) := by decide +kernel
theorem dX0_become_1 : decode cX0_become 1 = .ok (.aload_n 1, 1) := by decide +kernel
theorem dX0_become_2 : decode cX0_become 2 = .ok (.getfield 9, 3) := by decide +kernel
theorem dX0_become_5 : decode cX0_become 5 = .ok (.putfield 9, 3) := by decide +kernel
theorem dX0_become_8 : decode cX0_become 8 = .ok (.aload_n 0, 1) := by decide +kernel
theorem dX0_become_9 : decode cX0_become 9 = .ok (.aload_n 1, 1) := by decide +kernel
theorem dX0_become_10 : decode cX0_become 10 = .ok (.getfield 15, 3) := by decide +kernel
theorem dX0_become_13 : decode cX0_become 13 = .ok (.putfield 15, 3) := by decide +kernel
theorem dX0_become_16 : decode cX0_become 16 = .ok (.aload_n 0, 1) := by decide +kernel
theorem dX0_become_17 : decode cX0_become 17 = .ok (.aload_n 1, 1) := by decide +kernel
theorem dX0_become_18 : decode cX0_become 18 = .ok (.getfield 18, 3) := by decide +kernel
theorem dX0_become_21 : decode cX0_become 21 = .ok (.putfield 18, 3) := by decide +kernel
theorem dX0_become_24 : decode cX0_become 24 = .ok (.return_, 1) := by decide +kernel
theorem dX0_sound_0 : decode cX0_sound 0 = .ok (.aload_n 0, 1) := by decide +kernel
theorem dX0_sound_1 : decode cX0_sound 1 = .ok (.getfield 9, 3) := by decide +kernel
theorem dX0_sound_4 : decode cX0_sound 4 = .ok (.aload_n 0, 1) := by decide +kernel
theorem dX0_sound_5 : decode cX0_sound 5 = .ok (.getfield 15, 3) := by decide +kernel
theorem dX0_sound_8 : decode cX0_sound 8 = .ok (.lxor, 1) := by decide +kernel
theorem dX0_sound_9 : decode cX0_sound 9 = .ok (.lreturn, 1) := by decide +kernel
theorem dX0_ones_0 : decode cX0_ones 0 = .ok (.aload_n 0, 1) := by decide +kernel
theorem dX0_ones_1 : decode cX0_ones 1 = .ok (.getfield 9, 3) := by decide +kernel
theorem dX0_ones_4 : decode cX0_ones 4 = .ok (.aload_n 0, 1) := by decide +kernel
theorem dX0_ones_5 : decode cX0_ones 5 = .ok (.getfield 15, 3) := by decide +kernel
theorem dX0_ones_8 : decode cX0_ones 8 = .ok (.ldc2_w 22, 3) := by decide +kernel
theorem dX0_ones_11 : decode cX0_ones 11 = .ok (.lxor, 1) := by decide +kernel
theorem dX0_ones_12 : decode cX0_ones 12 = .ok (.land, 1) := by decide +kernel
theorem dX0_ones_13 : decode cX0_ones 13 = .ok (.lreturn, 1) := by decide +kernel
theorem dX0_blank_0 : decode cX0_blank 0 = .ok (.aload_n 0, 1) := by decide +kernel
theorem dX0_blank_1 : decode cX0_blank 1 = .ok (.getfield 9, 3) := by decide +kernel
theorem dX0_blank_4 : decode cX0_blank 4 = .ok (.aload_n 0, 1) := by decide +kernel
theorem dX0_blank_5 : decode cX0_blank 5 = .ok (.getfield 15, 3) := by decide +kernel
theorem dX0_blank_8 : decode cX0_blank 8 = .ok (.lor, 1) := by decide +kernel
theorem dX0_blank_9 : decode cX0_blank 9 = .ok (.ldc2_w 22, 3) := by decide +kernel
theorem dX0_blank_12 : decode cX0_blank 12 = .ok (.lxor, 1) := by decide +kernel
theorem dX0_blank_13 : decode cX0_blank 13 = .ok (.lreturn, 1) := by decide +kernel
theorem dX0_cellsOfKind_0 : decode cX0_cellsOfKind 0 = .ok (.iload_n 1, 1) := by decide +kernel
theorem dX0_cellsOfKind_1 : decode cX0_cellsOfKind 1 = .ok (.tableswitch 51 0 2 #[27, 41, 46], 27) := by decide +kernel
theorem dX0_cellsOfKind_28 : decode cX0_cellsOfKind 28 = .ok (.aload_n 0, 1) := by decide +kernel
theorem dX0_cellsOfKind_29 : decode cX0_cellsOfKind 29 = .ok (.getfield 15, 3) := by decide +kernel
theorem dX0_cellsOfKind_32 : decode cX0_cellsOfKind 32 = .ok (.aload_n 0, 1) := by decide +kernel
theorem dX0_cellsOfKind_33 : decode cX0_cellsOfKind 33 = .ok (.getfield 9, 3) := by decide +kernel
theorem dX0_cellsOfKind_36 : decode cX0_cellsOfKind 36 = .ok (.ldc2_w 22, 3) := by decide +kernel
theorem dX0_cellsOfKind_39 : decode cX0_cellsOfKind 39 = .ok (.lxor, 1) := by decide +kernel
theorem dX0_cellsOfKind_40 : decode cX0_cellsOfKind 40 = .ok (.land, 1) := by decide +kernel
theorem dX0_cellsOfKind_41 : decode cX0_cellsOfKind 41 = .ok (.lreturn, 1) := by decide +kernel
theorem dX0_cellsOfKind_42 : decode cX0_cellsOfKind 42 = .ok (.aload_n 0, 1) := by decide +kernel
theorem dX0_cellsOfKind_43 : decode cX0_cellsOfKind 43 = .ok (.invokevirtual 24, 3) := by decide +kernel
theorem dX0_cellsOfKind_46 : decode cX0_cellsOfKind 46 = .ok (.lreturn, 1) := by decide +kernel
theorem dX0_cellsOfKind_47 : decode cX0_cellsOfKind 47 = .ok (.aload_n 0, 1) := by decide +kernel
theorem dX0_cellsOfKind_48 : decode cX0_cellsOfKind 48 = .ok (.invokevirtual 28, 3) := by decide +kernel
theorem dX0_cellsOfKind_51 : decode cX0_cellsOfKind 51 = .ok (.lreturn, 1) := by decide +kernel
theorem dX0_cellsOfKind_52 : decode cX0_cellsOfKind 52 = .ok (.aload_n 0, 1) := by decide +kernel
theorem dX0_cellsOfKind_53 : decode cX0_cellsOfKind 53 = .ok (.getfield 9, 3) := by decide +kernel
theorem dX0_cellsOfKind_56 : decode cX0_cellsOfKind 56 = .ok (.aload_n 0, 1) := by decide +kernel
theorem dX0_cellsOfKind_57 : decode cX0_cellsOfKind 57 = .ok (.getfield 15, 3) := by decide +kernel
theorem dX0_cellsOfKind_60 : decode cX0_cellsOfKind 60 = .ok (.land, 1) := by decide +kernel
theorem dX0_cellsOfKind_61 : decode cX0_cellsOfKind 61 = .ok (.lreturn, 1) := by decide +kernel
theorem dX0_kindAt_0 : decode cX0_kindAt 0 = .ok (.aload_n 0, 1) := by decide +kernel
theorem dX0_kindAt_1 : decode cX0_kindAt 1 = .ok (.getfield 9, 3) := by decide +kernel
theorem dX0_kindAt_4 : decode cX0_kindAt 4 = .ok (.iload_n 1, 1) := by decide +kernel
theorem dX0_kindAt_5 : decode cX0_kindAt 5 = .ok (.invokestatic 31, 3) := by decide +kernel
theorem dX0_kindAt_8 : decode cX0_kindAt 8 = .ok (.ifCond .eq 20, 3) := by decide +kernel
theorem dX0_kindAt_11 : decode cX0_kindAt 11 = .ok (.aload_n 0, 1) := by decide +kernel
theorem dX0_kindAt_12 : decode cX0_kindAt 12 = .ok (.getfield 15, 3) := by decide +kernel
theorem dX0_kindAt_15 : decode cX0_kindAt 15 = .ok (.iload_n 1, 1) := by decide +kernel
theorem dX0_kindAt_16 : decode cX0_kindAt 16 = .ok (.invokestatic 31, 3) := by decide +kernel
theorem dX0_kindAt_19 : decode cX0_kindAt 19 = .ok (.ifCond .eq 7, 3) := by decide +kernel
theorem dX0_kindAt_22 : decode cX0_kindAt 22 = .ok (.iconst 3, 1) := by decide +kernel
theorem dX0_kindAt_23 : decode cX0_kindAt 23 = .ok (.goto 4, 3) := by decide +kernel
theorem dX0_kindAt_26 : decode cX0_kindAt 26 = .ok (.iconst 1, 1) := by decide +kernel
theorem dX0_kindAt_27 : decode cX0_kindAt 27 = .ok (.ireturn, 1) := by decide +kernel
theorem dX0_kindAt_28 : decode cX0_kindAt 28 = .ok (.aload_n 0, 1) := by decide +kernel
theorem dX0_kindAt_29 : decode cX0_kindAt 29 = .ok (.getfield 15, 3) := by decide +kernel
theorem dX0_kindAt_32 : decode cX0_kindAt 32 = .ok (.iload_n 1, 1) := by decide +kernel
theorem dX0_kindAt_33 : decode cX0_kindAt 33 = .ok (.invokestatic 31, 3) := by decide +kernel
theorem dX0_kindAt_36 : decode cX0_kindAt 36 = .ok (.ifCond .eq 7, 3) := by decide +kernel
theorem dX0_kindAt_39 : decode cX0_kindAt 39 = .ok (.iconst 0, 1) := by decide +kernel
theorem dX0_kindAt_40 : decode cX0_kindAt 40 = .ok (.goto 4, 3) := by decide +kernel
theorem dX0_kindAt_43 : decode cX0_kindAt 43 = .ok (.iconst 2, 1) := by decide +kernel
theorem dX0_kindAt_44 : decode cX0_kindAt 44 = .ok (.ireturn, 1) := by decide +kernel
theorem dX0_hasHole_0 : decode cX0_hasHole 0 = .ok (.iload_n 1, 1) := by decide +kernel
theorem dX0_hasHole_1 : decode cX0_hasHole 1 = .ok (.ifCond .eq 10, 3) := by decide +kernel
theorem dX0_hasHole_4 : decode cX0_hasHole 4 = .ok (.aload_n 0, 1) := by decide +kernel
theorem dX0_hasHole_5 : decode cX0_hasHole 5 = .ok (.getfield 15, 3) := by decide +kernel
theorem dX0_hasHole_8 : decode cX0_hasHole 8 = .ok (.goto 7, 3) := by decide +kernel
theorem dX0_hasHole_11 : decode cX0_hasHole 11 = .ok (.aload_n 0, 1) := by decide +kernel
theorem dX0_hasHole_12 : decode cX0_hasHole 12 = .ok (.getfield 9, 3) := by decide +kernel
theorem dX0_hasHole_15 : decode cX0_hasHole 15 = .ok (.iload_n 2, 1) := by decide +kernel
theorem dX0_hasHole_16 : decode cX0_hasHole 16 = .ok (.invokestatic 31, 3) := by decide +kernel
theorem dX0_hasHole_19 : decode cX0_hasHole 19 = .ok (.ireturn, 1) := by decide +kernel
theorem dX0_setHole_0 : decode cX0_setHole 0 = .ok (.lconst 1, 1) := by decide +kernel
theorem dX0_setHole_1 : decode cX0_setHole 1 = .ok (.iload_n 2, 1) := by decide +kernel
theorem dX0_setHole_2 : decode cX0_setHole 2 = .ok (.lshl, 1) := by decide +kernel
theorem dX0_setHole_3 : decode cX0_setHole 3 = .ok (.lstore 4, 2) := by decide +kernel
theorem dX0_setHole_5 : decode cX0_setHole 5 = .ok (.iload_n 1, 1) := by decide +kernel
theorem dX0_setHole_6 : decode cX0_setHole 6 = .ok (.ifCond .eq 35, 3) := by decide +kernel
theorem dX0_setHole_9 : decode cX0_setHole 9 = .ok (.aload_n 0, 1) := by decide +kernel
theorem dX0_setHole_10 : decode cX0_setHole 10 = .ok (.iload_n 3, 1) := by decide +kernel
theorem dX0_setHole_11 : decode cX0_setHole 11 = .ok (.ifCond .eq 13, 3) := by decide +kernel
theorem dX0_setHole_14 : decode cX0_setHole 14 = .ok (.aload_n 0, 1) := by decide +kernel
theorem dX0_setHole_15 : decode cX0_setHole 15 = .ok (.getfield 15, 3) := by decide +kernel
theorem dX0_setHole_18 : decode cX0_setHole 18 = .ok (.lload 4, 2) := by decide +kernel
theorem dX0_setHole_20 : decode cX0_setHole 20 = .ok (.lor, 1) := by decide +kernel
theorem dX0_setHole_21 : decode cX0_setHole 21 = .ok (.goto 14, 3) := by decide +kernel
theorem dX0_setHole_24 : decode cX0_setHole 24 = .ok (.aload_n 0, 1) := by decide +kernel
theorem dX0_setHole_25 : decode cX0_setHole 25 = .ok (.getfield 15, 3) := by decide +kernel
theorem dX0_setHole_28 : decode cX0_setHole 28 = .ok (.lload 4, 2) := by decide +kernel
theorem dX0_setHole_30 : decode cX0_setHole 30 = .ok (.ldc2_w 22, 3) := by decide +kernel
theorem dX0_setHole_33 : decode cX0_setHole 33 = .ok (.lxor, 1) := by decide +kernel
theorem dX0_setHole_34 : decode cX0_setHole 34 = .ok (.land, 1) := by decide +kernel
theorem dX0_setHole_35 : decode cX0_setHole 35 = .ok (.putfield 15, 3) := by decide +kernel
theorem dX0_setHole_38 : decode cX0_setHole 38 = .ok (.goto 32, 3) := by decide +kernel
theorem dX0_setHole_41 : decode cX0_setHole 41 = .ok (.aload_n 0, 1) := by decide +kernel
theorem dX0_setHole_42 : decode cX0_setHole 42 = .ok (.iload_n 3, 1) := by decide +kernel
theorem dX0_setHole_43 : decode cX0_setHole 43 = .ok (.ifCond .eq 13, 3) := by decide +kernel
theorem dX0_setHole_46 : decode cX0_setHole 46 = .ok (.aload_n 0, 1) := by decide +kernel
theorem dX0_setHole_47 : decode cX0_setHole 47 = .ok (.getfield 9, 3) := by decide +kernel
theorem dX0_setHole_50 : decode cX0_setHole 50 = .ok (.lload 4, 2) := by decide +kernel
theorem dX0_setHole_52 : decode cX0_setHole 52 = .ok (.lor, 1) := by decide +kernel
theorem dX0_setHole_53 : decode cX0_setHole 53 = .ok (.goto 14, 3) := by decide +kernel
theorem dX0_setHole_56 : decode cX0_setHole 56 = .ok (.aload_n 0, 1) := by decide +kernel
theorem dX0_setHole_57 : decode cX0_setHole 57 = .ok (.getfield 9, 3) := by decide +kernel
theorem dX0_setHole_60 : decode cX0_setHole 60 = .ok (.lload 4, 2) := by decide +kernel
theorem dX0_setHole_62 : decode cX0_setHole 62 = .ok (.ldc2_w 22, 3) := by decide +kernel
theorem dX0_setHole_65 : decode cX0_setHole 65 = .ok (.lxor, 1) := by decide +kernel
theorem dX0_setHole_66 : decode cX0_setHole 66 = .ok (.land, 1) := by decide +kernel
theorem dX0_setHole_67 : decode cX0_setHole 67 = .ok (.putfield 9, 3) := by decide +kernel
theorem dX0_setHole_70 : decode cX0_setHole 70 = .ok (.return_, 1) := by decide +kernel
theorem dX0_punchBit_0 : decode cX0_punchBit 0 = .ok (.aload_n 0, 1) := by decide +kernel
theorem dX0_punchBit_1 : decode cX0_punchBit 1 = .ok (.iload_n 3, 1) := by decide +kernel
theorem dX0_punchBit_2 : decode cX0_punchBit 2 = .ok (.ifCond .ne 7, 3) := by decide +kernel
theorem dX0_punchBit_5 : decode cX0_punchBit 5 = .ok (.iconst 1, 1) := by decide +kernel
theorem dX0_punchBit_6 : decode cX0_punchBit 6 = .ok (.goto 4, 3) := by decide +kernel
theorem dX0_punchBit_9 : decode cX0_punchBit 9 = .ok (.iconst 0, 1) := by decide +kernel
theorem dX0_punchBit_10 : decode cX0_punchBit 10 = .ok (.iload_n 1, 1) := by decide +kernel
theorem dX0_punchBit_11 : decode cX0_punchBit 11 = .ok (.iload_n 2, 1) := by decide +kernel
theorem dX0_punchBit_12 : decode cX0_punchBit 12 = .ok (.invokestatic 35, 3) := by decide +kernel
theorem dX0_punchBit_15 : decode cX0_punchBit 15 = .ok (.iconst 1, 1) := by decide +kernel
theorem dX0_punchBit_16 : decode cX0_punchBit 16 = .ok (.invokevirtual 39, 3) := by decide +kernel
theorem dX0_punchBit_19 : decode cX0_punchBit 19 = .ok (.return_, 1) := by decide +kernel
theorem dX0_canPunch_0 : decode cX0_canPunch 0 = .ok (.iload_n 1, 1) := by decide +kernel
theorem dX0_canPunch_1 : decode cX0_canPunch 1 = .ok (.invokestatic 43, 3) := by decide +kernel
theorem dX0_canPunch_4 : decode cX0_canPunch 4 = .ok (.aload_n 0, 1) := by decide +kernel
theorem dX0_canPunch_5 : decode cX0_canPunch 5 = .ok (.invokevirtual 28, 3) := by decide +kernel
theorem dX0_canPunch_8 : decode cX0_canPunch 8 = .ok (.ldc2_w 22, 3) := by decide +kernel
theorem dX0_canPunch_11 : decode cX0_canPunch 11 = .ok (.lxor, 1) := by decide +kernel
theorem dX0_canPunch_12 : decode cX0_canPunch 12 = .ok (.land, 1) := by decide +kernel
theorem dX0_canPunch_13 : decode cX0_canPunch 13 = .ok (.lconst 0, 1) := by decide +kernel
theorem dX0_canPunch_14 : decode cX0_canPunch 14 = .ok (.lcmp, 1) := by decide +kernel
theorem dX0_canPunch_15 : decode cX0_canPunch 15 = .ok (.ifCond .ne 7, 3) := by decide +kernel
theorem dX0_canPunch_18 : decode cX0_canPunch 18 = .ok (.iconst 1, 1) := by decide +kernel
theorem dX0_canPunch_19 : decode cX0_canPunch 19 = .ok (.goto 4, 3) := by decide +kernel
theorem dX0_canPunch_22 : decode cX0_canPunch 22 = .ok (.iconst 0, 1) := by decide +kernel
theorem dX0_canPunch_23 : decode cX0_canPunch 23 = .ok (.ireturn, 1) := by decide +kernel
theorem dX0_punchRow_0 : decode cX0_punchRow 0 = .ok (.iconst 0, 1) := by decide +kernel
theorem dX0_punchRow_1 : decode cX0_punchRow 1 = .ok (.istore_n 3, 1) := by decide +kernel
theorem dX0_punchRow_2 : decode cX0_punchRow 2 = .ok (.iload_n 3, 1) := by decide +kernel
theorem dX0_punchRow_3 : decode cX0_punchRow 3 = .ok (.bipush 7, 2) := by decide +kernel
theorem dX0_punchRow_5 : decode cX0_punchRow 5 = .ok (.if_icmp .ge 23, 3) := by decide +kernel
theorem dX0_punchRow_8 : decode cX0_punchRow 8 = .ok (.aload_n 0, 1) := by decide +kernel
theorem dX0_punchRow_9 : decode cX0_punchRow 9 = .ok (.iload_n 1, 1) := by decide +kernel
theorem dX0_punchRow_10 : decode cX0_punchRow 10 = .ok (.iload_n 3, 1) := by decide +kernel
theorem dX0_punchRow_11 : decode cX0_punchRow 11 = .ok (.iload_n 2, 1) := by decide +kernel
theorem dX0_punchRow_12 : decode cX0_punchRow 12 = .ok (.bipush 6, 2) := by decide +kernel
theorem dX0_punchRow_14 : decode cX0_punchRow 14 = .ok (.iload_n 3, 1) := by decide +kernel
theorem dX0_punchRow_15 : decode cX0_punchRow 15 = .ok (.isub, 1) := by decide +kernel
theorem dX0_punchRow_16 : decode cX0_punchRow 16 = .ok (.ishr, 1) := by decide +kernel
theorem dX0_punchRow_17 : decode cX0_punchRow 17 = .ok (.iconst 1, 1) := by decide +kernel
theorem dX0_punchRow_18 : decode cX0_punchRow 18 = .ok (.iand, 1) := by decide +kernel
theorem dX0_punchRow_19 : decode cX0_punchRow 19 = .ok (.invokevirtual 47, 3) := by decide +kernel
theorem dX0_punchRow_22 : decode cX0_punchRow 22 = .ok (.iinc 3 1, 3) := by decide +kernel
theorem dX0_punchRow_25 : decode cX0_punchRow 25 = .ok (.goto (-23), 3) := by decide +kernel
theorem dX0_punchRow_28 : decode cX0_punchRow 28 = .ok (.iload_n 2, 1) := by decide +kernel
theorem dX0_punchRow_29 : decode cX0_punchRow 29 = .ok (.invokestatic 51, 3) := by decide +kernel
theorem dX0_punchRow_32 : decode cX0_punchRow 32 = .ok (.iconst 1, 1) := by decide +kernel
theorem dX0_punchRow_33 : decode cX0_punchRow 33 = .ok (.iand, 1) := by decide +kernel
theorem dX0_punchRow_34 : decode cX0_punchRow 34 = .ok (.istore_n 3, 1) := by decide +kernel
theorem dX0_punchRow_35 : decode cX0_punchRow 35 = .ok (.aload_n 0, 1) := by decide +kernel
theorem dX0_punchRow_36 : decode cX0_punchRow 36 = .ok (.iload_n 1, 1) := by decide +kernel
theorem dX0_punchRow_37 : decode cX0_punchRow 37 = .ok (.bipush 7, 2) := by decide +kernel
theorem dX0_punchRow_39 : decode cX0_punchRow 39 = .ok (.iload_n 3, 1) := by decide +kernel
theorem dX0_punchRow_40 : decode cX0_punchRow 40 = .ok (.invokevirtual 47, 3) := by decide +kernel
theorem dX0_punchRow_43 : decode cX0_punchRow 43 = .ok (.iload_n 3, 1) := by decide +kernel
theorem dX0_punchRow_44 : decode cX0_punchRow 44 = .ok (.ireturn, 1) := by decide +kernel
theorem dX0_canClose_0 : decode cX0_canClose 0 = .ok (.bipush 7, 2) := by decide +kernel
theorem dX0_canClose_2 : decode cX0_canClose 2 = .ok (.invokestatic 43, 3) := by decide +kernel
theorem dX0_canClose_5 : decode cX0_canClose 5 = .ok (.lstore_n 1, 1) := by decide +kernel
theorem dX0_canClose_6 : decode cX0_canClose 6 = .ok (.aload_n 0, 1) := by decide +kernel
theorem dX0_canClose_7 : decode cX0_canClose 7 = .ok (.invokevirtual 57, 3) := by decide +kernel
theorem dX0_canClose_10 : decode cX0_canClose 10 = .ok (.lload_n 1, 1) := by decide +kernel
theorem dX0_canClose_11 : decode cX0_canClose 11 = .ok (.lor, 1) := by decide +kernel
theorem dX0_canClose_12 : decode cX0_canClose 12 = .ok (.ldc2_w 22, 3) := by decide +kernel
theorem dX0_canClose_15 : decode cX0_canClose 15 = .ok (.lcmp, 1) := by decide +kernel
theorem dX0_canClose_16 : decode cX0_canClose 16 = .ok (.ifCond .ne 18, 3) := by decide +kernel
theorem dX0_canClose_19 : decode cX0_canClose 19 = .ok (.aload_n 0, 1) := by decide +kernel
theorem dX0_canClose_20 : decode cX0_canClose 20 = .ok (.invokevirtual 28, 3) := by decide +kernel
theorem dX0_canClose_23 : decode cX0_canClose 23 = .ok (.lload_n 1, 1) := by decide +kernel
theorem dX0_canClose_24 : decode cX0_canClose 24 = .ok (.land, 1) := by decide +kernel
theorem dX0_canClose_25 : decode cX0_canClose 25 = .ok (.lload_n 1, 1) := by decide +kernel
theorem dX0_canClose_26 : decode cX0_canClose 26 = .ok (.lcmp, 1) := by decide +kernel
theorem dX0_canClose_27 : decode cX0_canClose 27 = .ok (.ifCond .ne 7, 3) := by decide +kernel
theorem dX0_canClose_30 : decode cX0_canClose 30 = .ok (.iconst 1, 1) := by decide +kernel
theorem dX0_canClose_31 : decode cX0_canClose 31 = .ok (.goto 4, 3) := by decide +kernel
theorem dX0_canClose_34 : decode cX0_canClose 34 = .ok (.iconst 0, 1) := by decide +kernel
theorem dX0_canClose_35 : decode cX0_canClose 35 = .ok (.ireturn, 1) := by decide +kernel
theorem dX0_punchCheckRow_0 : decode cX0_punchCheckRow 0 = .ok (.aload_n 0, 1) := by decide +kernel
theorem dX0_punchCheckRow_1 : decode cX0_punchCheckRow 1 = .ok (.invokevirtual 24, 3) := by decide +kernel
theorem dX0_punchCheckRow_4 : decode cX0_punchCheckRow 4 = .ok (.bipush 7, 2) := by decide +kernel
theorem dX0_punchCheckRow_6 : decode cX0_punchCheckRow 6 = .ok (.invokestatic 43, 3) := by decide +kernel
theorem dX0_punchCheckRow_9 : decode cX0_punchCheckRow 9 = .ok (.ldc2_w 22, 3) := by decide +kernel
theorem dX0_punchCheckRow_12 : decode cX0_punchCheckRow 12 = .ok (.lxor, 1) := by decide +kernel
theorem dX0_punchCheckRow_13 : decode cX0_punchCheckRow 13 = .ok (.land, 1) := by decide +kernel
theorem dX0_punchCheckRow_14 : decode cX0_punchCheckRow 14 = .ok (.lstore_n 1, 1) := by decide +kernel
theorem dX0_punchCheckRow_15 : decode cX0_punchCheckRow 15 = .ok (.iconst 0, 1) := by decide +kernel
theorem dX0_punchCheckRow_16 : decode cX0_punchCheckRow 16 = .ok (.istore_n 3, 1) := by decide +kernel
theorem dX0_punchCheckRow_17 : decode cX0_punchCheckRow 17 = .ok (.iload_n 3, 1) := by decide +kernel
theorem dX0_punchCheckRow_18 : decode cX0_punchCheckRow 18 = .ok (.bipush 8, 2) := by decide +kernel
theorem dX0_punchCheckRow_20 : decode cX0_punchCheckRow 20 = .ok (.if_icmp .ge 33, 3) := by decide +kernel
theorem dX0_punchCheckRow_23 : decode cX0_punchCheckRow 23 = .ok (.aload_n 0, 1) := by decide +kernel
theorem dX0_punchCheckRow_24 : decode cX0_punchCheckRow 24 = .ok (.bipush 7, 2) := by decide +kernel
theorem dX0_punchCheckRow_26 : decode cX0_punchCheckRow 26 = .ok (.iload_n 3, 1) := by decide +kernel
theorem dX0_punchCheckRow_27 : decode cX0_punchCheckRow 27 = .ok (.lload_n 1, 1) := by decide +kernel
theorem dX0_punchCheckRow_28 : decode cX0_punchCheckRow 28 = .ok (.iload_n 3, 1) := by decide +kernel
theorem dX0_punchCheckRow_29 : decode cX0_punchCheckRow 29 = .ok (.invokestatic 60, 3) := by decide +kernel
theorem dX0_punchCheckRow_32 : decode cX0_punchCheckRow 32 = .ok (.land, 1) := by decide +kernel
theorem dX0_punchCheckRow_33 : decode cX0_punchCheckRow 33 = .ok (.invokestatic 63, 3) := by decide +kernel
theorem dX0_punchCheckRow_36 : decode cX0_punchCheckRow 36 = .ok (.ifCond .eq 7, 3) := by decide +kernel
theorem dX0_punchCheckRow_39 : decode cX0_punchCheckRow 39 = .ok (.iconst 1, 1) := by decide +kernel
theorem dX0_punchCheckRow_40 : decode cX0_punchCheckRow 40 = .ok (.goto 4, 3) := by decide +kernel
theorem dX0_punchCheckRow_43 : decode cX0_punchCheckRow 43 = .ok (.iconst 0, 1) := by decide +kernel
theorem dX0_punchCheckRow_44 : decode cX0_punchCheckRow 44 = .ok (.invokevirtual 47, 3) := by decide +kernel
theorem dX0_punchCheckRow_47 : decode cX0_punchCheckRow 47 = .ok (.iinc 3 1, 3) := by decide +kernel
theorem dX0_punchCheckRow_50 : decode cX0_punchCheckRow 50 = .ok (.goto (-33), 3) := by decide +kernel
theorem dX0_punchCheckRow_53 : decode cX0_punchCheckRow 53 = .ok (.aload_n 0, 1) := by decide +kernel
theorem dX0_punchCheckRow_54 : decode cX0_punchCheckRow 54 = .ok (.invokevirtual 24, 3) := by decide +kernel
theorem dX0_punchCheckRow_57 : decode cX0_punchCheckRow 57 = .ok (.bipush 7, 2) := by decide +kernel
theorem dX0_punchCheckRow_59 : decode cX0_punchCheckRow 59 = .ok (.invokestatic 43, 3) := by decide +kernel
theorem dX0_punchCheckRow_62 : decode cX0_punchCheckRow 62 = .ok (.land, 1) := by decide +kernel
theorem dX0_punchCheckRow_63 : decode cX0_punchCheckRow 63 = .ok (.invokestatic 67, 3) := by decide +kernel
theorem dX0_punchCheckRow_66 : decode cX0_punchCheckRow 66 = .ok (.ireturn, 1) := by decide +kernel
theorem dX0_showsBack_0 : decode cX0_showsBack 0 = .ok (.aload_n 0, 1) := by decide +kernel
theorem dX0_showsBack_1 : decode cX0_showsBack 1 = .ok (.getfield 18, 3) := by decide +kernel
theorem dX0_showsBack_4 : decode cX0_showsBack 4 = .ok (.iconst 2, 1) := by decide +kernel
theorem dX0_showsBack_5 : decode cX0_showsBack 5 = .ok (.if_icmp .lt 7, 3) := by decide +kernel
theorem dX0_showsBack_8 : decode cX0_showsBack 8 = .ok (.iconst 1, 1) := by decide +kernel
theorem dX0_showsBack_9 : decode cX0_showsBack 9 = .ok (.goto 4, 3) := by decide +kernel
theorem dX0_showsBack_12 : decode cX0_showsBack 12 = .ok (.iconst 0, 1) := by decide +kernel
theorem dX0_showsBack_13 : decode cX0_showsBack 13 = .ok (.ireturn, 1) := by decide +kernel
theorem dX0_seenCell_0 : decode cX0_seenCell 0 = .ok (.aload_n 0, 1) := by decide +kernel
theorem dX0_seenCell_1 : decode cX0_seenCell 1 = .ok (.getfield 18, 3) := by decide +kernel
theorem dX0_seenCell_4 : decode cX0_seenCell 4 = .ok (.iconst 1, 1) := by decide +kernel
theorem dX0_seenCell_5 : decode cX0_seenCell 5 = .ok (.if_icmp .eq 11, 3) := by decide +kernel
theorem dX0_seenCell_8 : decode cX0_seenCell 8 = .ok (.aload_n 0, 1) := by decide +kernel
theorem dX0_seenCell_9 : decode cX0_seenCell 9 = .ok (.getfield 18, 3) := by decide +kernel
theorem dX0_seenCell_12 : decode cX0_seenCell 12 = .ok (.iconst 3, 1) := by decide +kernel
theorem dX0_seenCell_13 : decode cX0_seenCell 13 = .ok (.if_icmp .ne 7, 3) := by decide +kernel
theorem dX0_seenCell_16 : decode cX0_seenCell 16 = .ok (.iconst 1, 1) := by decide +kernel
theorem dX0_seenCell_17 : decode cX0_seenCell 17 = .ok (.goto 4, 3) := by decide +kernel
theorem dX0_seenCell_20 : decode cX0_seenCell 20 = .ok (.iconst 0, 1) := by decide +kernel
theorem dX0_seenCell_21 : decode cX0_seenCell 21 = .ok (.istore_n 3, 1) := by decide +kernel
theorem dX0_seenCell_22 : decode cX0_seenCell 22 = .ok (.aload_n 0, 1) := by decide +kernel
theorem dX0_seenCell_23 : decode cX0_seenCell 23 = .ok (.getfield 18, 3) := by decide +kernel
theorem dX0_seenCell_26 : decode cX0_seenCell 26 = .ok (.iconst 1, 1) := by decide +kernel
theorem dX0_seenCell_27 : decode cX0_seenCell 27 = .ok (.if_icmp .eq 11, 3) := by decide +kernel
theorem dX0_seenCell_30 : decode cX0_seenCell 30 = .ok (.aload_n 0, 1) := by decide +kernel
theorem dX0_seenCell_31 : decode cX0_seenCell 31 = .ok (.getfield 18, 3) := by decide +kernel
theorem dX0_seenCell_34 : decode cX0_seenCell 34 = .ok (.iconst 2, 1) := by decide +kernel
theorem dX0_seenCell_35 : decode cX0_seenCell 35 = .ok (.if_icmp .ne 7, 3) := by decide +kernel
theorem dX0_seenCell_38 : decode cX0_seenCell 38 = .ok (.iconst 1, 1) := by decide +kernel
theorem dX0_seenCell_39 : decode cX0_seenCell 39 = .ok (.goto 4, 3) := by decide +kernel
theorem dX0_seenCell_42 : decode cX0_seenCell 42 = .ok (.iconst 0, 1) := by decide +kernel
theorem dX0_seenCell_43 : decode cX0_seenCell 43 = .ok (.istore 4, 2) := by decide +kernel
theorem dX0_seenCell_45 : decode cX0_seenCell 45 = .ok (.iload_n 3, 1) := by decide +kernel
theorem dX0_seenCell_46 : decode cX0_seenCell 46 = .ok (.ifCond .eq 10, 3) := by decide +kernel
theorem dX0_seenCell_49 : decode cX0_seenCell 49 = .ok (.bipush 7, 2) := by decide +kernel
theorem dX0_seenCell_51 : decode cX0_seenCell 51 = .ok (.iload_n 1, 1) := by decide +kernel
theorem dX0_seenCell_52 : decode cX0_seenCell 52 = .ok (.isub, 1) := by decide +kernel
theorem dX0_seenCell_53 : decode cX0_seenCell 53 = .ok (.goto 4, 3) := by decide +kernel
theorem dX0_seenCell_56 : decode cX0_seenCell 56 = .ok (.iload_n 1, 1) := by decide +kernel
theorem dX0_seenCell_57 : decode cX0_seenCell 57 = .ok (.iload 4, 2) := by decide +kernel
theorem dX0_seenCell_59 : decode cX0_seenCell 59 = .ok (.ifCond .eq 10, 3) := by decide +kernel
theorem dX0_seenCell_62 : decode cX0_seenCell 62 = .ok (.bipush 7, 2) := by decide +kernel
theorem dX0_seenCell_64 : decode cX0_seenCell 64 = .ok (.iload_n 2, 1) := by decide +kernel
theorem dX0_seenCell_65 : decode cX0_seenCell 65 = .ok (.isub, 1) := by decide +kernel
theorem dX0_seenCell_66 : decode cX0_seenCell 66 = .ok (.goto 4, 3) := by decide +kernel
theorem dX0_seenCell_69 : decode cX0_seenCell 69 = .ok (.iload_n 2, 1) := by decide +kernel
theorem dX0_seenCell_70 : decode cX0_seenCell 70 = .ok (.invokestatic 35, 3) := by decide +kernel
theorem dX0_seenCell_73 : decode cX0_seenCell 73 = .ok (.ireturn, 1) := by decide +kernel
theorem dX0_showsHole_0 : decode cX0_showsHole 0 = .ok (.aload_n 0, 1) := by decide +kernel
theorem dX0_showsHole_1 : decode cX0_showsHole 1 = .ok (.aload_n 0, 1) := by decide +kernel
theorem dX0_showsHole_2 : decode cX0_showsHole 2 = .ok (.invokevirtual 72, 3) := by decide +kernel
theorem dX0_showsHole_5 : decode cX0_showsHole 5 = .ok (.aload_n 0, 1) := by decide +kernel
theorem dX0_showsHole_6 : decode cX0_showsHole 6 = .ok (.iload_n 1, 1) := by decide +kernel
theorem dX0_showsHole_7 : decode cX0_showsHole 7 = .ok (.iload_n 2, 1) := by decide +kernel
theorem dX0_showsHole_8 : decode cX0_showsHole 8 = .ok (.invokevirtual 76, 3) := by decide +kernel
theorem dX0_showsHole_11 : decode cX0_showsHole 11 = .ok (.invokevirtual 79, 3) := by decide +kernel
theorem dX0_showsHole_14 : decode cX0_showsHole 14 = .ok (.ireturn, 1) := by decide +kernel
theorem dX0_rawNumber_0 : decode cX0_rawNumber 0 = .ok (.iconst 0, 1) := by decide +kernel
theorem dX0_rawNumber_1 : decode cX0_rawNumber 1 = .ok (.istore_n 2, 1) := by decide +kernel
theorem dX0_rawNumber_2 : decode cX0_rawNumber 2 = .ok (.iconst 0, 1) := by decide +kernel
theorem dX0_rawNumber_3 : decode cX0_rawNumber 3 = .ok (.istore_n 3, 1) := by decide +kernel
theorem dX0_rawNumber_4 : decode cX0_rawNumber 4 = .ok (.iload_n 3, 1) := by decide +kernel
theorem dX0_rawNumber_5 : decode cX0_rawNumber 5 = .ok (.bipush 8, 2) := by decide +kernel
theorem dX0_rawNumber_7 : decode cX0_rawNumber 7 = .ok (.if_icmp .ge 28, 3) := by decide +kernel
theorem dX0_rawNumber_10 : decode cX0_rawNumber 10 = .ok (.iconst 2, 1) := by decide +kernel
theorem dX0_rawNumber_11 : decode cX0_rawNumber 11 = .ok (.iload_n 2, 1) := by decide +kernel
theorem dX0_rawNumber_12 : decode cX0_rawNumber 12 = .ok (.imul, 1) := by decide +kernel
theorem dX0_rawNumber_13 : decode cX0_rawNumber 13 = .ok (.aload_n 0, 1) := by decide +kernel
theorem dX0_rawNumber_14 : decode cX0_rawNumber 14 = .ok (.iload_n 1, 1) := by decide +kernel
theorem dX0_rawNumber_15 : decode cX0_rawNumber 15 = .ok (.iload_n 3, 1) := by decide +kernel
theorem dX0_rawNumber_16 : decode cX0_rawNumber 16 = .ok (.invokevirtual 83, 3) := by decide +kernel
theorem dX0_rawNumber_19 : decode cX0_rawNumber 19 = .ok (.ifCond .eq 7, 3) := by decide +kernel
theorem dX0_rawNumber_22 : decode cX0_rawNumber 22 = .ok (.iconst 1, 1) := by decide +kernel
theorem dX0_rawNumber_23 : decode cX0_rawNumber 23 = .ok (.goto 4, 3) := by decide +kernel
theorem dX0_rawNumber_26 : decode cX0_rawNumber 26 = .ok (.iconst 0, 1) := by decide +kernel
theorem dX0_rawNumber_27 : decode cX0_rawNumber 27 = .ok (.iadd, 1) := by decide +kernel
theorem dX0_rawNumber_28 : decode cX0_rawNumber 28 = .ok (.istore_n 2, 1) := by decide +kernel
theorem dX0_rawNumber_29 : decode cX0_rawNumber 29 = .ok (.iinc 3 1, 3) := by decide +kernel
theorem dX0_rawNumber_32 : decode cX0_rawNumber 32 = .ok (.goto (-28), 3) := by decide +kernel
theorem dX0_rawNumber_35 : decode cX0_rawNumber 35 = .ok (.iload_n 2, 1) := by decide +kernel
theorem dX0_rawNumber_36 : decode cX0_rawNumber 36 = .ok (.ireturn, 1) := by decide +kernel
theorem dX1_init_0 : decode cX1_init 0 = .ok (.aload_n 0, 1) := by decide +kernel
theorem dX1_init_1 : decode cX1_init 1 = .ok (.invokespecial 3, 3) := by decide +kernel
theorem dX1_init_4 : decode cX1_init 4 = .ok (.aload_n 0, 1) := by decide +kernel
theorem dX1_init_5 : decode cX1_init 5 = .ok (.bipush 18, 2) := by decide +kernel
theorem dX1_init_7 : decode cX1_init 7 = .ok (.anewarray 9, 3) := by decide +kernel
theorem dX1_init_10 : decode cX1_init 10 = .ok (.putfield 11, 3) := by decide +kernel
theorem dX1_init_13 : decode cX1_init 13 = .ok (.iconst 0, 1) := by decide +kernel
theorem dX1_init_14 : decode cX1_init 14 = .ok (.istore_n 1, 1) := by decide +kernel
theorem dX1_init_15 : decode cX1_init 15 = .ok (.iload_n 1, 1) := by decide +kernel
theorem dX1_init_16 : decode cX1_init 16 = .ok (.aload_n 0, 1) := by decide +kernel
theorem dX1_init_17 : decode cX1_init 17 = .ok (.getfield 11, 3) := by decide +kernel
theorem dX1_init_20 : decode cX1_init 20 = .ok (.arraylength, 1) := by decide +kernel
theorem dX1_init_21 : decode cX1_init 21 = .ok (.if_icmp .ge 22, 3) := by decide +kernel
theorem dX1_init_24 : decode cX1_init 24 = .ok (.aload_n 0, 1) := by decide +kernel
theorem dX1_init_25 : decode cX1_init 25 = .ok (.getfield 11, 3) := by decide +kernel
theorem dX1_init_28 : decode cX1_init 28 = .ok (.iload_n 1, 1) := by decide +kernel
theorem dX1_init_29 : decode cX1_init 29 = .ok (.new 9, 3) := by decide +kernel
theorem dX1_init_32 : decode cX1_init 32 = .ok (.dup, 1) := by decide +kernel
theorem dX1_init_33 : decode cX1_init 33 = .ok (.invokespecial 17, 3) := by decide +kernel
theorem dX1_init_36 : decode cX1_init 36 = .ok (.aastore, 1) := by decide +kernel
theorem dX1_init_37 : decode cX1_init 37 = .ok (.iinc 1 1, 3) := by decide +kernel
theorem dX1_init_40 : decode cX1_init 40 = .ok (.goto (-25), 3) := by decide +kernel
theorem dX1_init_43 : decode cX1_init 43 = .ok (.aload_n 0, 1) := by decide +kernel
theorem dX1_init_44 : decode cX1_init 44 = .ok (.iconst 0, 1) := by decide +kernel
theorem dX1_init_45 : decode cX1_init 45 = .ok (.putfield 18, 3) := by decide +kernel
theorem dX1_init_48 : decode cX1_init 48 = .ok (.return_, 1) := by decide +kernel
theorem dX1_save_0 : decode cX1_save 0 = .ok (.aload_n 0, 1) := by decide +kernel
theorem dX1_save_1 : decode cX1_save 1 = .ok (.getfield 18, 3) := by decide +kernel
theorem dX1_save_4 : decode cX1_save 4 = .ok (.bipush 6, 2) := by decide +kernel
theorem dX1_save_6 : decode cX1_save 6 = .ok (.if_icmp .lt 7, 3) := by decide +kernel
theorem dX1_save_9 : decode cX1_save 9 = .ok (.aload_n 0, 1) := by decide +kernel
theorem dX1_save_10 : decode cX1_save 10 = .ok (.invokevirtual 22, 3) := by decide +kernel
theorem dX1_save_13 : decode cX1_save 13 = .ok (.aload_n 0, 1) := by decide +kernel
theorem dX1_save_14 : decode cX1_save 14 = .ok (.getfield 18, 3) := by decide +kernel
theorem dX1_save_17 : decode cX1_save 17 = .ok (.iconst 3, 1) := by decide +kernel
theorem dX1_save_18 : decode cX1_save 18 = .ok (.imul, 1) := by decide +kernel
theorem dX1_save_19 : decode cX1_save 19 = .ok (.istore_n 2, 1) := by decide +kernel
theorem dX1_save_20 : decode cX1_save 20 = .ok (.iconst 0, 1) := by decide +kernel
theorem dX1_save_21 : decode cX1_save 21 = .ok (.istore_n 3, 1) := by decide +kernel
theorem dX1_save_22 : decode cX1_save 22 = .ok (.iload_n 3, 1) := by decide +kernel
theorem dX1_save_23 : decode cX1_save 23 = .ok (.aload_n 1, 1) := by decide +kernel
theorem dX1_save_24 : decode cX1_save 24 = .ok (.arraylength, 1) := by decide +kernel
theorem dX1_save_25 : decode cX1_save 25 = .ok (.if_icmp .ge 34, 3) := by decide +kernel
theorem dX1_save_28 : decode cX1_save 28 = .ok (.iload_n 2, 1) := by decide +kernel
theorem dX1_save_29 : decode cX1_save 29 = .ok (.iload_n 3, 1) := by decide +kernel
theorem dX1_save_30 : decode cX1_save 30 = .ok (.iadd, 1) := by decide +kernel
theorem dX1_save_31 : decode cX1_save 31 = .ok (.aload_n 0, 1) := by decide +kernel
theorem dX1_save_32 : decode cX1_save 32 = .ok (.getfield 11, 3) := by decide +kernel
theorem dX1_save_35 : decode cX1_save 35 = .ok (.arraylength, 1) := by decide +kernel
theorem dX1_save_36 : decode cX1_save 36 = .ok (.if_icmp .ge 23, 3) := by decide +kernel
theorem dX1_save_39 : decode cX1_save 39 = .ok (.aload_n 0, 1) := by decide +kernel
theorem dX1_save_40 : decode cX1_save 40 = .ok (.getfield 11, 3) := by decide +kernel
theorem dX1_save_43 : decode cX1_save 43 = .ok (.iload_n 2, 1) := by decide +kernel
theorem dX1_save_44 : decode cX1_save 44 = .ok (.iload_n 3, 1) := by decide +kernel
theorem dX1_save_45 : decode cX1_save 45 = .ok (.iadd, 1) := by decide +kernel
theorem dX1_save_46 : decode cX1_save 46 = .ok (.aaload, 1) := by decide +kernel
theorem dX1_save_47 : decode cX1_save 47 = .ok (.aload_n 1, 1) := by decide +kernel
theorem dX1_save_48 : decode cX1_save 48 = .ok (.iload_n 3, 1) := by decide +kernel
theorem dX1_save_49 : decode cX1_save 49 = .ok (.aaload, 1) := by decide +kernel
theorem dX1_save_50 : decode cX1_save 50 = .ok (.invokevirtual 25, 3) := by decide +kernel
theorem dX1_save_53 : decode cX1_save 53 = .ok (.iinc 3 1, 3) := by decide +kernel
theorem dX1_save_56 : decode cX1_save 56 = .ok (.goto (-34), 3) := by decide +kernel
theorem dX1_save_59 : decode cX1_save 59 = .ok (.aload_n 0, 1) := by decide +kernel
theorem dX1_save_60 : decode cX1_save 60 = .ok (.dup, 1) := by decide +kernel
theorem dX1_save_61 : decode cX1_save 61 = .ok (.getfield 18, 3) := by decide +kernel
theorem dX1_save_64 : decode cX1_save 64 = .ok (.iconst 1, 1) := by decide +kernel
theorem dX1_save_65 : decode cX1_save 65 = .ok (.iadd, 1) := by decide +kernel
theorem dX1_save_66 : decode cX1_save 66 = .ok (.putfield 18, 3) := by decide +kernel
theorem dX1_save_69 : decode cX1_save 69 = .ok (.return_, 1) := by decide +kernel
theorem dX1_discardOldest_0 : decode cX1_discardOldest 0 = .ok (.iconst 0, 1) := by decide +kernel
theorem dX1_discardOldest_1 : decode cX1_discardOldest 1 = .ok (.istore_n 1, 1) := by decide +kernel
theorem dX1_discardOldest_2 : decode cX1_discardOldest 2 = .ok (.iload_n 1, 1) := by decide +kernel
theorem dX1_discardOldest_3 : decode cX1_discardOldest 3 = .ok (.iconst 3, 1) := by decide +kernel
theorem dX1_discardOldest_4 : decode cX1_discardOldest 4 = .ok (.iadd, 1) := by decide +kernel
theorem dX1_discardOldest_5 : decode cX1_discardOldest 5 = .ok (.aload_n 0, 1) := by decide +kernel
theorem dX1_discardOldest_6 : decode cX1_discardOldest 6 = .ok (.getfield 11, 3) := by decide +kernel
theorem dX1_discardOldest_9 : decode cX1_discardOldest 9 = .ok (.arraylength, 1) := by decide +kernel
theorem dX1_discardOldest_10 : decode cX1_discardOldest 10 = .ok (.if_icmp .ge 26, 3) := by decide +kernel
theorem dX1_discardOldest_13 : decode cX1_discardOldest 13 = .ok (.aload_n 0, 1) := by decide +kernel
theorem dX1_discardOldest_14 : decode cX1_discardOldest 14 = .ok (.getfield 11, 3) := by decide +kernel
theorem dX1_discardOldest_17 : decode cX1_discardOldest 17 = .ok (.iload_n 1, 1) := by decide +kernel
theorem dX1_discardOldest_18 : decode cX1_discardOldest 18 = .ok (.aaload, 1) := by decide +kernel
theorem dX1_discardOldest_19 : decode cX1_discardOldest 19 = .ok (.aload_n 0, 1) := by decide +kernel
theorem dX1_discardOldest_20 : decode cX1_discardOldest 20 = .ok (.getfield 11, 3) := by decide +kernel
theorem dX1_discardOldest_23 : decode cX1_discardOldest 23 = .ok (.iload_n 1, 1) := by decide +kernel
theorem dX1_discardOldest_24 : decode cX1_discardOldest 24 = .ok (.iconst 3, 1) := by decide +kernel
theorem dX1_discardOldest_25 : decode cX1_discardOldest 25 = .ok (.iadd, 1) := by decide +kernel
theorem dX1_discardOldest_26 : decode cX1_discardOldest 26 = .ok (.aaload, 1) := by decide +kernel
theorem dX1_discardOldest_27 : decode cX1_discardOldest 27 = .ok (.invokevirtual 25, 3) := by decide +kernel
theorem dX1_discardOldest_30 : decode cX1_discardOldest 30 = .ok (.iinc 1 1, 3) := by decide +kernel
theorem dX1_discardOldest_33 : decode cX1_discardOldest 33 = .ok (.goto (-31), 3) := by decide +kernel
theorem dX1_discardOldest_36 : decode cX1_discardOldest 36 = .ok (.aload_n 0, 1) := by decide +kernel
theorem dX1_discardOldest_37 : decode cX1_discardOldest 37 = .ok (.dup, 1) := by decide +kernel
theorem dX1_discardOldest_38 : decode cX1_discardOldest 38 = .ok (.getfield 18, 3) := by decide +kernel
theorem dX1_discardOldest_41 : decode cX1_discardOldest 41 = .ok (.iconst 1, 1) := by decide +kernel
theorem dX1_discardOldest_42 : decode cX1_discardOldest 42 = .ok (.isub, 1) := by decide +kernel
theorem dX1_discardOldest_43 : decode cX1_discardOldest 43 = .ok (.putfield 18, 3) := by decide +kernel
theorem dX1_discardOldest_46 : decode cX1_discardOldest 46 = .ok (.return_, 1) := by decide +kernel
theorem dX1_restores_0 : decode cX1_restores 0 = .ok (.aload_n 0, 1) := by decide +kernel
theorem dX1_restores_1 : decode cX1_restores 1 = .ok (.getfield 18, 3) := by decide +kernel
theorem dX1_restores_4 : decode cX1_restores 4 = .ok (.ifCond .gt 5, 3) := by decide +kernel
theorem dX1_restores_7 : decode cX1_restores 7 = .ok (.iconst 0, 1) := by decide +kernel
theorem dX1_restores_8 : decode cX1_restores 8 = .ok (.ireturn, 1) := by decide +kernel
theorem dX1_restores_9 : decode cX1_restores 9 = .ok (.aload_n 0, 1) := by decide +kernel
theorem dX1_restores_10 : decode cX1_restores 10 = .ok (.dup, 1) := by decide +kernel
theorem dX1_restores_11 : decode cX1_restores 11 = .ok (.getfield 18, 3) := by decide +kernel
theorem dX1_restores_14 : decode cX1_restores 14 = .ok (.iconst 1, 1) := by decide +kernel
theorem dX1_restores_15 : decode cX1_restores 15 = .ok (.isub, 1) := by decide +kernel
theorem dX1_restores_16 : decode cX1_restores 16 = .ok (.putfield 18, 3) := by decide +kernel
theorem dX1_restores_19 : decode cX1_restores 19 = .ok (.aload_n 0, 1) := by decide +kernel
theorem dX1_restores_20 : decode cX1_restores 20 = .ok (.getfield 18, 3) := by decide +kernel
theorem dX1_restores_23 : decode cX1_restores 23 = .ok (.iconst 3, 1) := by decide +kernel
theorem dX1_restores_24 : decode cX1_restores 24 = .ok (.imul, 1) := by decide +kernel
theorem dX1_restores_25 : decode cX1_restores 25 = .ok (.istore_n 2, 1) := by decide +kernel
theorem dX1_restores_26 : decode cX1_restores 26 = .ok (.iconst 0, 1) := by decide +kernel
theorem dX1_restores_27 : decode cX1_restores 27 = .ok (.istore_n 3, 1) := by decide +kernel
theorem dX1_restores_28 : decode cX1_restores 28 = .ok (.iload_n 3, 1) := by decide +kernel
theorem dX1_restores_29 : decode cX1_restores 29 = .ok (.aload_n 1, 1) := by decide +kernel
theorem dX1_restores_30 : decode cX1_restores 30 = .ok (.arraylength, 1) := by decide +kernel
theorem dX1_restores_31 : decode cX1_restores 31 = .ok (.if_icmp .ge 34, 3) := by decide +kernel
theorem dX1_restores_34 : decode cX1_restores 34 = .ok (.iload_n 2, 1) := by decide +kernel
theorem dX1_restores_35 : decode cX1_restores 35 = .ok (.iload_n 3, 1) := by decide +kernel
theorem dX1_restores_36 : decode cX1_restores 36 = .ok (.iadd, 1) := by decide +kernel
theorem dX1_restores_37 : decode cX1_restores 37 = .ok (.aload_n 0, 1) := by decide +kernel
theorem dX1_restores_38 : decode cX1_restores 38 = .ok (.getfield 11, 3) := by decide +kernel
theorem dX1_restores_41 : decode cX1_restores 41 = .ok (.arraylength, 1) := by decide +kernel
theorem dX1_restores_42 : decode cX1_restores 42 = .ok (.if_icmp .ge 23, 3) := by decide +kernel
theorem dX1_restores_45 : decode cX1_restores 45 = .ok (.aload_n 1, 1) := by decide +kernel
theorem dX1_restores_46 : decode cX1_restores 46 = .ok (.iload_n 3, 1) := by decide +kernel
theorem dX1_restores_47 : decode cX1_restores 47 = .ok (.aaload, 1) := by decide +kernel
theorem dX1_restores_48 : decode cX1_restores 48 = .ok (.aload_n 0, 1) := by decide +kernel
theorem dX1_restores_49 : decode cX1_restores 49 = .ok (.getfield 11, 3) := by decide +kernel
theorem dX1_restores_52 : decode cX1_restores 52 = .ok (.iload_n 2, 1) := by decide +kernel
theorem dX1_restores_53 : decode cX1_restores 53 = .ok (.iload_n 3, 1) := by decide +kernel
theorem dX1_restores_54 : decode cX1_restores 54 = .ok (.iadd, 1) := by decide +kernel
theorem dX1_restores_55 : decode cX1_restores 55 = .ok (.aaload, 1) := by decide +kernel
theorem dX1_restores_56 : decode cX1_restores 56 = .ok (.invokevirtual 25, 3) := by decide +kernel
theorem dX1_restores_59 : decode cX1_restores 59 = .ok (.iinc 3 1, 3) := by decide +kernel
theorem dX1_restores_62 : decode cX1_restores 62 = .ok (.goto (-34), 3) := by decide +kernel
theorem dX1_restores_65 : decode cX1_restores 65 = .ok (.iconst 1, 1) := by decide +kernel
theorem dX1_restores_66 : decode cX1_restores 66 = .ok (.ireturn, 1) := by decide +kernel
theorem dX2_init_0 : decode cX2_init 0 = .ok (.aload_n 0, 1) := by decide +kernel
theorem dX2_init_1 : decode cX2_init 1 = .ok (.invokespecial 3, 3) := by decide +kernel
theorem dX2_init_4 : decode cX2_init 4 = .ok (.return_, 1) := by decide +kernel
theorem dX2_begin_0 : decode cX2_begin 0 = .ok (.aload_n 0, 1) := by decide +kernel
theorem dX2_begin_1 : decode cX2_begin 1 = .ok (.iconst 0, 1) := by decide +kernel
theorem dX2_begin_2 : decode cX2_begin 2 = .ok (.putfield 11, 3) := by decide +kernel
theorem dX2_begin_5 : decode cX2_begin 5 = .ok (.return_, 1) := by decide +kernel
theorem dX2_isPartWhole_0 : decode cX2_isPartWhole 0 = .ok (.aload_n 0, 1) := by decide +kernel
theorem dX2_isPartWhole_1 : decode cX2_isPartWhole 1 = .ok (.getfield 11, 3) := by decide +kernel
theorem dX2_isPartWhole_4 : decode cX2_isPartWhole 4 = .ok (.bipush 6, 2) := by decide +kernel
theorem dX2_isPartWhole_6 : decode cX2_isPartWhole 6 = .ok (.if_icmp .eq 12, 3) := by decide +kernel
theorem dX2_isPartWhole_9 : decode cX2_isPartWhole 9 = .ok (.aload_n 0, 1) := by decide +kernel
theorem dX2_isPartWhole_10 : decode cX2_isPartWhole 10 = .ok (.getfield 11, 3) := by decide +kernel
theorem dX2_isPartWhole_13 : decode cX2_isPartWhole 13 = .ok (.bipush 8, 2) := by decide +kernel
theorem dX2_isPartWhole_15 : decode cX2_isPartWhole 15 = .ok (.if_icmp .ne 7, 3) := by decide +kernel
theorem dX2_isPartWhole_18 : decode cX2_isPartWhole 18 = .ok (.iconst 1, 1) := by decide +kernel
theorem dX2_isPartWhole_19 : decode cX2_isPartWhole 19 = .ok (.goto 4, 3) := by decide +kernel
theorem dX2_isPartWhole_22 : decode cX2_isPartWhole 22 = .ok (.iconst 0, 1) := by decide +kernel
theorem dX2_isPartWhole_23 : decode cX2_isPartWhole 23 = .ok (.ireturn, 1) := by decide +kernel
theorem dX2_takes_0 : decode cX2_takes 0 = .ok (.aload_n 0, 1) := by decide +kernel
theorem dX2_takes_1 : decode cX2_takes 1 = .ok (.getfield 11, 3) := by decide +kernel
theorem dX2_takes_4 : decode cX2_takes 4 = .ok (.tableswitch 106 0 7 #[48, 54, 60, 66, 72, 81, 91, 97], 48) := by decide +kernel
theorem dX2_takes_52 : decode cX2_takes 52 = .ok (.aload_n 0, 1) := by decide +kernel
theorem dX2_takes_53 : decode cX2_takes 53 = .ok (.iload_n 1, 1) := by decide +kernel
theorem dX2_takes_54 : decode cX2_takes 54 = .ok (.invokevirtual 15, 3) := by decide +kernel
theorem dX2_takes_57 : decode cX2_takes 57 = .ok (.ireturn, 1) := by decide +kernel
theorem dX2_takes_58 : decode cX2_takes 58 = .ok (.aload_n 0, 1) := by decide +kernel
theorem dX2_takes_59 : decode cX2_takes 59 = .ok (.iload_n 1, 1) := by decide +kernel
theorem dX2_takes_60 : decode cX2_takes 60 = .ok (.invokevirtual 19, 3) := by decide +kernel
theorem dX2_takes_63 : decode cX2_takes 63 = .ok (.ireturn, 1) := by decide +kernel
theorem dX2_takes_64 : decode cX2_takes 64 = .ok (.aload_n 0, 1) := by decide +kernel
theorem dX2_takes_65 : decode cX2_takes 65 = .ok (.iload_n 1, 1) := by decide +kernel
theorem dX2_takes_66 : decode cX2_takes 66 = .ok (.invokevirtual 22, 3) := by decide +kernel
theorem dX2_takes_69 : decode cX2_takes 69 = .ok (.ireturn, 1) := by decide +kernel
theorem dX2_takes_70 : decode cX2_takes 70 = .ok (.aload_n 0, 1) := by decide +kernel
theorem dX2_takes_71 : decode cX2_takes 71 = .ok (.iload_n 1, 1) := by decide +kernel
theorem dX2_takes_72 : decode cX2_takes 72 = .ok (.invokevirtual 25, 3) := by decide +kernel
theorem dX2_takes_75 : decode cX2_takes 75 = .ok (.ireturn, 1) := by decide +kernel
theorem dX2_takes_76 : decode cX2_takes 76 = .ok (.aload_n 0, 1) := by decide +kernel
theorem dX2_takes_77 : decode cX2_takes 77 = .ok (.iload_n 1, 1) := by decide +kernel
theorem dX2_takes_78 : decode cX2_takes 78 = .ok (.bipush 61, 2) := by decide +kernel
theorem dX2_takes_80 : decode cX2_takes 80 = .ok (.iconst 5, 1) := by decide +kernel
theorem dX2_takes_81 : decode cX2_takes 81 = .ok (.invokevirtual 28, 3) := by decide +kernel
theorem dX2_takes_84 : decode cX2_takes 84 = .ok (.ireturn, 1) := by decide +kernel
theorem dX2_takes_85 : decode cX2_takes 85 = .ok (.aload_n 0, 1) := by decide +kernel
theorem dX2_takes_86 : decode cX2_takes 86 = .ok (.iload_n 1, 1) := by decide +kernel
theorem dX2_takes_87 : decode cX2_takes 87 = .ok (.bipush 9, 2) := by decide +kernel
theorem dX2_takes_89 : decode cX2_takes 89 = .ok (.bipush 6, 2) := by decide +kernel
theorem dX2_takes_91 : decode cX2_takes 91 = .ok (.invokevirtual 32, 3) := by decide +kernel
theorem dX2_takes_94 : decode cX2_takes 94 = .ok (.ireturn, 1) := by decide +kernel
theorem dX2_takes_95 : decode cX2_takes 95 = .ok (.aload_n 0, 1) := by decide +kernel
theorem dX2_takes_96 : decode cX2_takes 96 = .ok (.iload_n 1, 1) := by decide +kernel
theorem dX2_takes_97 : decode cX2_takes 97 = .ok (.invokevirtual 36, 3) := by decide +kernel
theorem dX2_takes_100 : decode cX2_takes 100 = .ok (.ireturn, 1) := by decide +kernel
theorem dX2_takes_101 : decode cX2_takes 101 = .ok (.aload_n 0, 1) := by decide +kernel
theorem dX2_takes_102 : decode cX2_takes 102 = .ok (.iload_n 1, 1) := by decide +kernel
theorem dX2_takes_103 : decode cX2_takes 103 = .ok (.iconst 3, 1) := by decide +kernel
theorem dX2_takes_104 : decode cX2_takes 104 = .ok (.bipush 8, 2) := by decide +kernel
theorem dX2_takes_106 : decode cX2_takes 106 = .ok (.invokevirtual 32, 3) := by decide +kernel
theorem dX2_takes_109 : decode cX2_takes 109 = .ok (.ireturn, 1) := by decide +kernel
theorem dX2_takes_110 : decode cX2_takes 110 = .ok (.aload_n 0, 1) := by decide +kernel
theorem dX2_takes_111 : decode cX2_takes 111 = .ok (.iload_n 1, 1) := by decide +kernel
theorem dX2_takes_112 : decode cX2_takes 112 = .ok (.bipush 59, 2) := by decide +kernel
theorem dX2_takes_114 : decode cX2_takes 114 = .ok (.iconst 0, 1) := by decide +kernel
theorem dX2_takes_115 : decode cX2_takes 115 = .ok (.invokevirtual 28, 3) := by decide +kernel
theorem dX2_takes_118 : decode cX2_takes 118 = .ok (.ireturn, 1) := by decide +kernel
theorem dX2_takesLetter_0 : decode cX2_takesLetter 0 = .ok (.aload_n 0, 1) := by decide +kernel
theorem dX2_takesLetter_1 : decode cX2_takesLetter 1 = .ok (.iload_n 1, 1) := by decide +kernel
theorem dX2_takesLetter_2 : decode cX2_takesLetter 2 = .ok (.putfield 39, 3) := by decide +kernel
theorem dX2_takesLetter_5 : decode cX2_takesLetter 5 = .ok (.iload_n 1, 1) := by decide +kernel
theorem dX2_takesLetter_6 : decode cX2_takesLetter 6 = .ok (.lookupswitch 80 #[(99, 57), (112, 50), (118, 72), (119, 65), (120, 65)], 50) := by decide +kernel
theorem dX2_takesLetter_56 : decode cX2_takesLetter 56 = .ok (.aload_n 0, 1) := by decide +kernel
theorem dX2_takesLetter_57 : decode cX2_takesLetter 57 = .ok (.iconst 2, 1) := by decide +kernel
theorem dX2_takesLetter_58 : decode cX2_takesLetter 58 = .ok (.putfield 11, 3) := by decide +kernel
theorem dX2_takesLetter_61 : decode cX2_takesLetter 61 = .ok (.iconst 1, 1) := by decide +kernel
theorem dX2_takesLetter_62 : decode cX2_takesLetter 62 = .ok (.ireturn, 1) := by decide +kernel
theorem dX2_takesLetter_63 : decode cX2_takesLetter 63 = .ok (.aload_n 0, 1) := by decide +kernel
theorem dX2_takesLetter_64 : decode cX2_takesLetter 64 = .ok (.bipush 8, 2) := by decide +kernel
theorem dX2_takesLetter_66 : decode cX2_takesLetter 66 = .ok (.putfield 11, 3) := by decide +kernel
theorem dX2_takesLetter_69 : decode cX2_takesLetter 69 = .ok (.iconst 1, 1) := by decide +kernel
theorem dX2_takesLetter_70 : decode cX2_takesLetter 70 = .ok (.ireturn, 1) := by decide +kernel
theorem dX2_takesLetter_71 : decode cX2_takesLetter 71 = .ok (.aload_n 0, 1) := by decide +kernel
theorem dX2_takesLetter_72 : decode cX2_takesLetter 72 = .ok (.iconst 1, 1) := by decide +kernel
theorem dX2_takesLetter_73 : decode cX2_takesLetter 73 = .ok (.putfield 11, 3) := by decide +kernel
theorem dX2_takesLetter_76 : decode cX2_takesLetter 76 = .ok (.iconst 1, 1) := by decide +kernel
theorem dX2_takesLetter_77 : decode cX2_takesLetter 77 = .ok (.ireturn, 1) := by decide +kernel
theorem dX2_takesLetter_78 : decode cX2_takesLetter 78 = .ok (.aload_n 0, 1) := by decide +kernel
theorem dX2_takesLetter_79 : decode cX2_takesLetter 79 = .ok (.bipush 7, 2) := by decide +kernel
theorem dX2_takesLetter_81 : decode cX2_takesLetter 81 = .ok (.putfield 11, 3) := by decide +kernel
theorem dX2_takesLetter_84 : decode cX2_takesLetter 84 = .ok (.iconst 1, 1) := by decide +kernel
theorem dX2_takesLetter_85 : decode cX2_takesLetter 85 = .ok (.ireturn, 1) := by decide +kernel
theorem dX2_takesLetter_86 : decode cX2_takesLetter 86 = .ok (.iconst 0, 1) := by decide +kernel
theorem dX2_takesLetter_87 : decode cX2_takesLetter 87 = .ok (.ireturn, 1) := by decide +kernel
theorem dX2_takesFace_0 : decode cX2_takesFace 0 = .ok (.iload_n 1, 1) := by decide +kernel
theorem dX2_takesFace_1 : decode cX2_takesFace 1 = .ok (.bipush 102, 2) := by decide +kernel
theorem dX2_takesFace_3 : decode cX2_takesFace 3 = .ok (.if_icmp .eq 11, 3) := by decide +kernel
theorem dX2_takesFace_6 : decode cX2_takesFace 6 = .ok (.iload_n 1, 1) := by decide +kernel
theorem dX2_takesFace_7 : decode cX2_takesFace 7 = .ok (.bipush 98, 2) := by decide +kernel
theorem dX2_takesFace_9 : decode cX2_takesFace 9 = .ok (.if_icmp .eq 5, 3) := by decide +kernel
theorem dX2_takesFace_12 : decode cX2_takesFace 12 = .ok (.iconst 0, 1) := by decide +kernel
theorem dX2_takesFace_13 : decode cX2_takesFace 13 = .ok (.ireturn, 1) := by decide +kernel
theorem dX2_takesFace_14 : decode cX2_takesFace 14 = .ok (.aload_n 0, 1) := by decide +kernel
theorem dX2_takesFace_15 : decode cX2_takesFace 15 = .ok (.iload_n 1, 1) := by decide +kernel
theorem dX2_takesFace_16 : decode cX2_takesFace 16 = .ok (.bipush 98, 2) := by decide +kernel
theorem dX2_takesFace_18 : decode cX2_takesFace 18 = .ok (.if_icmp .ne 7, 3) := by decide +kernel
theorem dX2_takesFace_21 : decode cX2_takesFace 21 = .ok (.iconst 1, 1) := by decide +kernel
theorem dX2_takesFace_22 : decode cX2_takesFace 22 = .ok (.goto 4, 3) := by decide +kernel
theorem dX2_takesFace_25 : decode cX2_takesFace 25 = .ok (.iconst 0, 1) := by decide +kernel
theorem dX2_takesFace_26 : decode cX2_takesFace 26 = .ok (.putfield 43, 3) := by decide +kernel
theorem dX2_takesFace_29 : decode cX2_takesFace 29 = .ok (.aload_n 0, 1) := by decide +kernel
theorem dX2_takesFace_30 : decode cX2_takesFace 30 = .ok (.iconst 2, 1) := by decide +kernel
theorem dX2_takesFace_31 : decode cX2_takesFace 31 = .ok (.putfield 11, 3) := by decide +kernel
theorem dX2_takesFace_34 : decode cX2_takesFace 34 = .ok (.iconst 1, 1) := by decide +kernel
theorem dX2_takesFace_35 : decode cX2_takesFace 35 = .ok (.ireturn, 1) := by decide +kernel
theorem dX2_takesRow_0 : decode cX2_takesRow 0 = .ok (.aload_n 0, 1) := by decide +kernel
theorem dX2_takesRow_1 : decode cX2_takesRow 1 = .ok (.getfield 39, 3) := by decide +kernel
theorem dX2_takesRow_4 : decode cX2_takesRow 4 = .ok (.bipush 112, 2) := by decide +kernel
theorem dX2_takesRow_6 : decode cX2_takesRow 6 = .ok (.if_icmp .ne 7, 3) := by decide +kernel
theorem dX2_takesRow_9 : decode cX2_takesRow 9 = .ok (.iconst 1, 1) := by decide +kernel
theorem dX2_takesRow_10 : decode cX2_takesRow 10 = .ok (.goto 4, 3) := by decide +kernel
theorem dX2_takesRow_13 : decode cX2_takesRow 13 = .ok (.iconst 0, 1) := by decide +kernel
theorem dX2_takesRow_14 : decode cX2_takesRow 14 = .ok (.istore_n 2, 1) := by decide +kernel
theorem dX2_takesRow_15 : decode cX2_takesRow 15 = .ok (.iload_n 2, 1) := by decide +kernel
theorem dX2_takesRow_16 : decode cX2_takesRow 16 = .ok (.ifCond .eq 8, 3) := by decide +kernel
theorem dX2_takesRow_19 : decode cX2_takesRow 19 = .ok (.bipush 6, 2) := by decide +kernel
theorem dX2_takesRow_21 : decode cX2_takesRow 21 = .ok (.goto 5, 3) := by decide +kernel
theorem dX2_takesRow_24 : decode cX2_takesRow 24 = .ok (.bipush 7, 2) := by decide +kernel
theorem dX2_takesRow_26 : decode cX2_takesRow 26 = .ok (.iload_n 1, 1) := by decide +kernel
theorem dX2_takesRow_27 : decode cX2_takesRow 27 = .ok (.invokestatic 47, 3) := by decide +kernel
theorem dX2_takesRow_30 : decode cX2_takesRow 30 = .ok (.istore_n 3, 1) := by decide +kernel
theorem dX2_takesRow_31 : decode cX2_takesRow 31 = .ok (.iload_n 3, 1) := by decide +kernel
theorem dX2_takesRow_32 : decode cX2_takesRow 32 = .ok (.iconst (-1), 1) := by decide +kernel
theorem dX2_takesRow_33 : decode cX2_takesRow 33 = .ok (.if_icmp .ne 5, 3) := by decide +kernel
theorem dX2_takesRow_36 : decode cX2_takesRow 36 = .ok (.iconst 0, 1) := by decide +kernel
theorem dX2_takesRow_37 : decode cX2_takesRow 37 = .ok (.ireturn, 1) := by decide +kernel
theorem dX2_takesRow_38 : decode cX2_takesRow 38 = .ok (.aload_n 0, 1) := by decide +kernel
theorem dX2_takesRow_39 : decode cX2_takesRow 39 = .ok (.iload_n 3, 1) := by decide +kernel
theorem dX2_takesRow_40 : decode cX2_takesRow 40 = .ok (.putfield 51, 3) := by decide +kernel
theorem dX2_takesRow_43 : decode cX2_takesRow 43 = .ok (.aload_n 0, 1) := by decide +kernel
theorem dX2_takesRow_44 : decode cX2_takesRow 44 = .ok (.iload_n 2, 1) := by decide +kernel
theorem dX2_takesRow_45 : decode cX2_takesRow 45 = .ok (.ifCond .eq 7, 3) := by decide +kernel
theorem dX2_takesRow_48 : decode cX2_takesRow 48 = .ok (.iconst 4, 1) := by decide +kernel
theorem dX2_takesRow_49 : decode cX2_takesRow 49 = .ok (.goto 4, 3) := by decide +kernel
theorem dX2_takesRow_52 : decode cX2_takesRow 52 = .ok (.iconst 3, 1) := by decide +kernel
theorem dX2_takesRow_53 : decode cX2_takesRow 53 = .ok (.putfield 11, 3) := by decide +kernel
theorem dX2_takesRow_56 : decode cX2_takesRow 56 = .ok (.iconst 1, 1) := by decide +kernel
theorem dX2_takesRow_57 : decode cX2_takesRow 57 = .ok (.ireturn, 1) := by decide +kernel
theorem dX2_takesColumn_0 : decode cX2_takesColumn 0 = .ok (.bipush 7, 2) := by decide +kernel
theorem dX2_takesColumn_2 : decode cX2_takesColumn 2 = .ok (.iload_n 1, 1) := by decide +kernel
theorem dX2_takesColumn_3 : decode cX2_takesColumn 3 = .ok (.invokestatic 47, 3) := by decide +kernel
theorem dX2_takesColumn_6 : decode cX2_takesColumn 6 = .ok (.istore_n 2, 1) := by decide +kernel
theorem dX2_takesColumn_7 : decode cX2_takesColumn 7 = .ok (.iload_n 2, 1) := by decide +kernel
theorem dX2_takesColumn_8 : decode cX2_takesColumn 8 = .ok (.iconst (-1), 1) := by decide +kernel
theorem dX2_takesColumn_9 : decode cX2_takesColumn 9 = .ok (.if_icmp .ne 5, 3) := by decide +kernel
theorem dX2_takesColumn_12 : decode cX2_takesColumn 12 = .ok (.iconst 0, 1) := by decide +kernel
theorem dX2_takesColumn_13 : decode cX2_takesColumn 13 = .ok (.ireturn, 1) := by decide +kernel
theorem dX2_takesColumn_14 : decode cX2_takesColumn 14 = .ok (.aload_n 0, 1) := by decide +kernel
theorem dX2_takesColumn_15 : decode cX2_takesColumn 15 = .ok (.iload_n 2, 1) := by decide +kernel
theorem dX2_takesColumn_16 : decode cX2_takesColumn 16 = .ok (.putfield 54, 3) := by decide +kernel
theorem dX2_takesColumn_19 : decode cX2_takesColumn 19 = .ok (.aload_n 0, 1) := by decide +kernel
theorem dX2_takesColumn_20 : decode cX2_takesColumn 20 = .ok (.bipush 8, 2) := by decide +kernel
theorem dX2_takesColumn_22 : decode cX2_takesColumn 22 = .ok (.putfield 11, 3) := by decide +kernel
theorem dX2_takesColumn_25 : decode cX2_takesColumn 25 = .ok (.iconst 1, 1) := by decide +kernel
theorem dX2_takesColumn_26 : decode cX2_takesColumn 26 = .ok (.ireturn, 1) := by decide +kernel
theorem dX2_takesSign_0 : decode cX2_takesSign 0 = .ok (.iload_n 1, 1) := by decide +kernel
theorem dX2_takesSign_1 : decode cX2_takesSign 1 = .ok (.iload_n 2, 1) := by decide +kernel
theorem dX2_takesSign_2 : decode cX2_takesSign 2 = .ok (.if_icmp .eq 5, 3) := by decide +kernel
theorem dX2_takesSign_5 : decode cX2_takesSign 5 = .ok (.iconst 0, 1) := by decide +kernel
theorem dX2_takesSign_6 : decode cX2_takesSign 6 = .ok (.ireturn, 1) := by decide +kernel
theorem dX2_takesSign_7 : decode cX2_takesSign 7 = .ok (.aload_n 0, 1) := by decide +kernel
theorem dX2_takesSign_8 : decode cX2_takesSign 8 = .ok (.iload_n 3, 1) := by decide +kernel
theorem dX2_takesSign_9 : decode cX2_takesSign 9 = .ok (.putfield 11, 3) := by decide +kernel
theorem dX2_takesSign_12 : decode cX2_takesSign 12 = .ok (.iconst 1, 1) := by decide +kernel
theorem dX2_takesSign_13 : decode cX2_takesSign 13 = .ok (.ireturn, 1) := by decide +kernel
theorem dX2_takesNumber_0 : decode cX2_takesNumber 0 = .ok (.iload_n 2, 1) := by decide +kernel
theorem dX2_takesNumber_1 : decode cX2_takesNumber 1 = .ok (.iload_n 1, 1) := by decide +kernel
theorem dX2_takesNumber_2 : decode cX2_takesNumber 2 = .ok (.invokestatic 47, 3) := by decide +kernel
theorem dX2_takesNumber_5 : decode cX2_takesNumber 5 = .ok (.istore 4, 2) := by decide +kernel
theorem dX2_takesNumber_7 : decode cX2_takesNumber 7 = .ok (.iload 4, 2) := by decide +kernel
theorem dX2_takesNumber_9 : decode cX2_takesNumber 9 = .ok (.iconst (-1), 1) := by decide +kernel
theorem dX2_takesNumber_10 : decode cX2_takesNumber 10 = .ok (.if_icmp .ne 5, 3) := by decide +kernel
theorem dX2_takesNumber_13 : decode cX2_takesNumber 13 = .ok (.iconst 0, 1) := by decide +kernel
theorem dX2_takesNumber_14 : decode cX2_takesNumber 14 = .ok (.ireturn, 1) := by decide +kernel
theorem dX2_takesNumber_15 : decode cX2_takesNumber 15 = .ok (.aload_n 0, 1) := by decide +kernel
theorem dX2_takesNumber_16 : decode cX2_takesNumber 16 = .ok (.iload 4, 2) := by decide +kernel
theorem dX2_takesNumber_18 : decode cX2_takesNumber 18 = .ok (.putfield 57, 3) := by decide +kernel
theorem dX2_takesNumber_21 : decode cX2_takesNumber 21 = .ok (.aload_n 0, 1) := by decide +kernel
theorem dX2_takesNumber_22 : decode cX2_takesNumber 22 = .ok (.iload_n 3, 1) := by decide +kernel
theorem dX2_takesNumber_23 : decode cX2_takesNumber 23 = .ok (.putfield 11, 3) := by decide +kernel
theorem dX2_takesNumber_26 : decode cX2_takesNumber 26 = .ok (.iconst 1, 1) := by decide +kernel
theorem dX2_takesNumber_27 : decode cX2_takesNumber 27 = .ok (.ireturn, 1) := by decide +kernel
theorem dX2_takesMoreOfValue_0 : decode cX2_takesMoreOfValue 0 = .ok (.bipush 9, 2) := by decide +kernel
theorem dX2_takesMoreOfValue_2 : decode cX2_takesMoreOfValue 2 = .ok (.iload_n 1, 1) := by decide +kernel
theorem dX2_takesMoreOfValue_3 : decode cX2_takesMoreOfValue 3 = .ok (.invokestatic 47, 3) := by decide +kernel
theorem dX2_takesMoreOfValue_6 : decode cX2_takesMoreOfValue 6 = .ok (.istore_n 2, 1) := by decide +kernel
theorem dX2_takesMoreOfValue_7 : decode cX2_takesMoreOfValue 7 = .ok (.iload_n 2, 1) := by decide +kernel
theorem dX2_takesMoreOfValue_8 : decode cX2_takesMoreOfValue 8 = .ok (.iconst (-1), 1) := by decide +kernel
theorem dX2_takesMoreOfValue_9 : decode cX2_takesMoreOfValue 9 = .ok (.if_icmp .ne 12, 3) := by decide +kernel
theorem dX2_takesMoreOfValue_12 : decode cX2_takesMoreOfValue 12 = .ok (.aload_n 0, 1) := by decide +kernel
theorem dX2_takesMoreOfValue_13 : decode cX2_takesMoreOfValue 13 = .ok (.iload_n 1, 1) := by decide +kernel
theorem dX2_takesMoreOfValue_14 : decode cX2_takesMoreOfValue 14 = .ok (.bipush 59, 2) := by decide +kernel
theorem dX2_takesMoreOfValue_16 : decode cX2_takesMoreOfValue 16 = .ok (.iconst 0, 1) := by decide +kernel
theorem dX2_takesMoreOfValue_17 : decode cX2_takesMoreOfValue 17 = .ok (.invokevirtual 28, 3) := by decide +kernel
theorem dX2_takesMoreOfValue_20 : decode cX2_takesMoreOfValue 20 = .ok (.ireturn, 1) := by decide +kernel
theorem dX2_takesMoreOfValue_21 : decode cX2_takesMoreOfValue 21 = .ok (.aload_n 0, 1) := by decide +kernel
theorem dX2_takesMoreOfValue_22 : decode cX2_takesMoreOfValue 22 = .ok (.getfield 57, 3) := by decide +kernel
theorem dX2_takesMoreOfValue_25 : decode cX2_takesMoreOfValue 25 = .ok (.ifCond .eq 17, 3) := by decide +kernel
theorem dX2_takesMoreOfValue_28 : decode cX2_takesMoreOfValue 28 = .ok (.bipush 10, 2) := by decide +kernel
theorem dX2_takesMoreOfValue_30 : decode cX2_takesMoreOfValue 30 = .ok (.aload_n 0, 1) := by decide +kernel
theorem dX2_takesMoreOfValue_31 : decode cX2_takesMoreOfValue 31 = .ok (.getfield 57, 3) := by decide +kernel
theorem dX2_takesMoreOfValue_34 : decode cX2_takesMoreOfValue 34 = .ok (.imul, 1) := by decide +kernel
theorem dX2_takesMoreOfValue_35 : decode cX2_takesMoreOfValue 35 = .ok (.iload_n 2, 1) := by decide +kernel
theorem dX2_takesMoreOfValue_36 : decode cX2_takesMoreOfValue 36 = .ok (.iadd, 1) := by decide +kernel
theorem dX2_takesMoreOfValue_37 : decode cX2_takesMoreOfValue 37 = .ok (.bipush 127, 2) := by decide +kernel
theorem dX2_takesMoreOfValue_39 : decode cX2_takesMoreOfValue 39 = .ok (.if_icmp .le 5, 3) := by decide +kernel
theorem dX2_takesMoreOfValue_42 : decode cX2_takesMoreOfValue 42 = .ok (.iconst 0, 1) := by decide +kernel
theorem dX2_takesMoreOfValue_43 : decode cX2_takesMoreOfValue 43 = .ok (.ireturn, 1) := by decide +kernel
theorem dX2_takesMoreOfValue_44 : decode cX2_takesMoreOfValue 44 = .ok (.aload_n 0, 1) := by decide +kernel
theorem dX2_takesMoreOfValue_45 : decode cX2_takesMoreOfValue 45 = .ok (.bipush 10, 2) := by decide +kernel
theorem dX2_takesMoreOfValue_47 : decode cX2_takesMoreOfValue 47 = .ok (.aload_n 0, 1) := by decide +kernel
theorem dX2_takesMoreOfValue_48 : decode cX2_takesMoreOfValue 48 = .ok (.getfield 57, 3) := by decide +kernel
theorem dX2_takesMoreOfValue_51 : decode cX2_takesMoreOfValue 51 = .ok (.imul, 1) := by decide +kernel
theorem dX2_takesMoreOfValue_52 : decode cX2_takesMoreOfValue 52 = .ok (.iload_n 2, 1) := by decide +kernel
theorem dX2_takesMoreOfValue_53 : decode cX2_takesMoreOfValue 53 = .ok (.iadd, 1) := by decide +kernel
theorem dX2_takesMoreOfValue_54 : decode cX2_takesMoreOfValue 54 = .ok (.putfield 57, 3) := by decide +kernel
theorem dX2_takesMoreOfValue_57 : decode cX2_takesMoreOfValue 57 = .ok (.iconst 1, 1) := by decide +kernel
theorem dX2_takesMoreOfValue_58 : decode cX2_takesMoreOfValue 58 = .ok (.ireturn, 1) := by decide +kernel
theorem dX2_digitUpTo_0 : decode cX2_digitUpTo 0 = .ok (.iload_n 1, 1) := by decide +kernel
theorem dX2_digitUpTo_1 : decode cX2_digitUpTo 1 = .ok (.bipush 48, 2) := by decide +kernel
theorem dX2_digitUpTo_3 : decode cX2_digitUpTo 3 = .ok (.isub, 1) := by decide +kernel
theorem dX2_digitUpTo_4 : decode cX2_digitUpTo 4 = .ok (.istore_n 2, 1) := by decide +kernel
theorem dX2_digitUpTo_5 : decode cX2_digitUpTo 5 = .ok (.iload_n 2, 1) := by decide +kernel
theorem dX2_digitUpTo_6 : decode cX2_digitUpTo 6 = .ok (.ifCond .lt 12, 3) := by decide +kernel
theorem dX2_digitUpTo_9 : decode cX2_digitUpTo 9 = .ok (.iload_n 2, 1) := by decide +kernel
theorem dX2_digitUpTo_10 : decode cX2_digitUpTo 10 = .ok (.iload_n 0, 1) := by decide +kernel
theorem dX2_digitUpTo_11 : decode cX2_digitUpTo 11 = .ok (.if_icmp .gt 7, 3) := by decide +kernel
theorem dX2_digitUpTo_14 : decode cX2_digitUpTo 14 = .ok (.iload_n 2, 1) := by decide +kernel
theorem dX2_digitUpTo_15 : decode cX2_digitUpTo 15 = .ok (.goto 4, 3) := by decide +kernel
theorem dX2_digitUpTo_18 : decode cX2_digitUpTo 18 = .ok (.iconst (-1), 1) := by decide +kernel
theorem dX2_digitUpTo_19 : decode cX2_digitUpTo 19 = .ok (.ireturn, 1) := by decide +kernel
theorem dX3_init_0 : decode cX3_init 0 = .ok (.aload_n 0, 1) := by decide +kernel
theorem dX3_init_1 : decode cX3_init 1 = .ok (.invokespecial 3, 3) := by decide +kernel
theorem dX3_init_4 : decode cX3_init 4 = .ok (.return_, 1) := by decide +kernel
theorem dX3_findAll_0 : decode cX3_findAll 0 = .ok (.aload_n 0, 1) := by decide +kernel
theorem dX3_findAll_1 : decode cX3_findAll 1 = .ok (.lload_n 1, 1) := by decide +kernel
theorem dX3_findAll_2 : decode cX3_findAll 2 = .ok (.putfield 9, 3) := by decide +kernel
theorem dX3_findAll_5 : decode cX3_findAll 5 = .ok (.aload_n 0, 1) := by decide +kernel
theorem dX3_findAll_6 : decode cX3_findAll 6 = .ok (.lload_n 3, 1) := by decide +kernel
theorem dX3_findAll_7 : decode cX3_findAll 7 = .ok (.putfield 15, 3) := by decide +kernel
theorem dX3_findAll_10 : decode cX3_findAll 10 = .ok (.iconst 0, 1) := by decide +kernel
theorem dX3_findAll_11 : decode cX3_findAll 11 = .ok (.istore 5, 2) := by decide +kernel
theorem dX3_findAll_13 : decode cX3_findAll 13 = .ok (.iload 5, 2) := by decide +kernel
theorem dX3_findAll_15 : decode cX3_findAll 15 = .ok (.bipush 64, 2) := by decide +kernel
theorem dX3_findAll_17 : decode cX3_findAll 17 = .ok (.if_icmp .gt 76, 3) := by decide +kernel
theorem dX3_findAll_20 : decode cX3_findAll 20 = .ok (.aload_n 0, 1) := by decide +kernel
theorem dX3_findAll_21 : decode cX3_findAll 21 = .ok (.getfield 9, 3) := by decide +kernel
theorem dX3_findAll_24 : decode cX3_findAll 24 = .ok (.lstore 6, 2) := by decide +kernel
theorem dX3_findAll_26 : decode cX3_findAll 26 = .ok (.iconst 0, 1) := by decide +kernel
theorem dX3_findAll_27 : decode cX3_findAll 27 = .ok (.istore 8, 2) := by decide +kernel
theorem dX3_findAll_29 : decode cX3_findAll 29 = .ok (.iload 8, 2) := by decide +kernel
theorem dX3_findAll_31 : decode cX3_findAll 31 = .ok (.bipush 8, 2) := by decide +kernel
theorem dX3_findAll_33 : decode cX3_findAll 33 = .ok (.if_icmp .ge 18, 3) := by decide +kernel
theorem dX3_findAll_36 : decode cX3_findAll 36 = .ok (.aload_n 0, 1) := by decide +kernel
theorem dX3_findAll_37 : decode cX3_findAll 37 = .ok (.iload 8, 2) := by decide +kernel
theorem dX3_findAll_39 : decode cX3_findAll 39 = .ok (.invokestatic 18, 3) := by decide +kernel
theorem dX3_findAll_42 : decode cX3_findAll 42 = .ok (.invokevirtual 22, 3) := by decide +kernel
theorem dX3_findAll_45 : decode cX3_findAll 45 = .ok (.iinc 8 1, 3) := by decide +kernel
theorem dX3_findAll_48 : decode cX3_findAll 48 = .ok (.goto (-19), 3) := by decide +kernel
theorem dX3_findAll_51 : decode cX3_findAll 51 = .ok (.iconst 0, 1) := by decide +kernel
theorem dX3_findAll_52 : decode cX3_findAll 52 = .ok (.istore 8, 2) := by decide +kernel
theorem dX3_findAll_54 : decode cX3_findAll 54 = .ok (.iload 8, 2) := by decide +kernel
theorem dX3_findAll_56 : decode cX3_findAll 56 = .ok (.bipush 8, 2) := by decide +kernel
theorem dX3_findAll_58 : decode cX3_findAll 58 = .ok (.if_icmp .ge 18, 3) := by decide +kernel
theorem dX3_findAll_61 : decode cX3_findAll 61 = .ok (.aload_n 0, 1) := by decide +kernel
theorem dX3_findAll_62 : decode cX3_findAll 62 = .ok (.iload 8, 2) := by decide +kernel
theorem dX3_findAll_64 : decode cX3_findAll 64 = .ok (.invokestatic 26, 3) := by decide +kernel
theorem dX3_findAll_67 : decode cX3_findAll 67 = .ok (.invokevirtual 22, 3) := by decide +kernel
theorem dX3_findAll_70 : decode cX3_findAll 70 = .ok (.iinc 8 1, 3) := by decide +kernel
theorem dX3_findAll_73 : decode cX3_findAll 73 = .ok (.goto (-19), 3) := by decide +kernel
theorem dX3_findAll_76 : decode cX3_findAll 76 = .ok (.aload_n 0, 1) := by decide +kernel
theorem dX3_findAll_77 : decode cX3_findAll 77 = .ok (.getfield 9, 3) := by decide +kernel
theorem dX3_findAll_80 : decode cX3_findAll 80 = .ok (.lload 6, 2) := by decide +kernel
theorem dX3_findAll_82 : decode cX3_findAll 82 = .ok (.lcmp, 1) := by decide +kernel
theorem dX3_findAll_83 : decode cX3_findAll 83 = .ok (.ifCond .ne 4, 3) := by decide +kernel
theorem dX3_findAll_86 : decode cX3_findAll 86 = .ok (.return_, 1) := by decide +kernel
theorem dX3_findAll_87 : decode cX3_findAll 87 = .ok (.iinc 5 1, 3) := by decide +kernel
theorem dX3_findAll_90 : decode cX3_findAll 90 = .ok (.goto (-77), 3) := by decide +kernel
theorem dX3_findAll_93 : decode cX3_findAll 93 = .ok (.return_, 1) := by decide +kernel
theorem dX3_tellLastOf_0 : decode cX3_tellLastOf 0 = .ok (.lload_n 1, 1) := by decide +kernel
theorem dX3_tellLastOf_1 : decode cX3_tellLastOf 1 = .ok (.aload_n 0, 1) := by decide +kernel
theorem dX3_tellLastOf_2 : decode cX3_tellLastOf 2 = .ok (.getfield 9, 3) := by decide +kernel
theorem dX3_tellLastOf_5 : decode cX3_tellLastOf 5 = .ok (.ldc2_w 29, 3) := by decide +kernel
theorem dX3_tellLastOf_8 : decode cX3_tellLastOf 8 = .ok (.lxor, 1) := by decide +kernel
theorem dX3_tellLastOf_9 : decode cX3_tellLastOf 9 = .ok (.land, 1) := by decide +kernel
theorem dX3_tellLastOf_10 : decode cX3_tellLastOf 10 = .ok (.lstore_n 3, 1) := by decide +kernel
theorem dX3_tellLastOf_11 : decode cX3_tellLastOf 11 = .ok (.lload_n 3, 1) := by decide +kernel
theorem dX3_tellLastOf_12 : decode cX3_tellLastOf 12 = .ok (.invokestatic 31, 3) := by decide +kernel
theorem dX3_tellLastOf_15 : decode cX3_tellLastOf 15 = .ok (.iconst 1, 1) := by decide +kernel
theorem dX3_tellLastOf_16 : decode cX3_tellLastOf 16 = .ok (.if_icmp .eq 4, 3) := by decide +kernel
theorem dX3_tellLastOf_19 : decode cX3_tellLastOf 19 = .ok (.return_, 1) := by decide +kernel
theorem dX3_tellLastOf_20 : decode cX3_tellLastOf 20 = .ok (.lload_n 1, 1) := by decide +kernel
theorem dX3_tellLastOf_21 : decode cX3_tellLastOf 21 = .ok (.aload_n 0, 1) := by decide +kernel
theorem dX3_tellLastOf_22 : decode cX3_tellLastOf 22 = .ok (.getfield 15, 3) := by decide +kernel
theorem dX3_tellLastOf_25 : decode cX3_tellLastOf 25 = .ok (.land, 1) := by decide +kernel
theorem dX3_tellLastOf_26 : decode cX3_tellLastOf 26 = .ok (.invokestatic 37, 3) := by decide +kernel
theorem dX3_tellLastOf_29 : decode cX3_tellLastOf 29 = .ok (.ifCond .eq 13, 3) := by decide +kernel
theorem dX3_tellLastOf_32 : decode cX3_tellLastOf 32 = .ok (.aload_n 0, 1) := by decide +kernel
theorem dX3_tellLastOf_33 : decode cX3_tellLastOf 33 = .ok (.dup, 1) := by decide +kernel
theorem dX3_tellLastOf_34 : decode cX3_tellLastOf 34 = .ok (.getfield 15, 3) := by decide +kernel
theorem dX3_tellLastOf_37 : decode cX3_tellLastOf 37 = .ok (.lload_n 3, 1) := by decide +kernel
theorem dX3_tellLastOf_38 : decode cX3_tellLastOf 38 = .ok (.lor, 1) := by decide +kernel
theorem dX3_tellLastOf_39 : decode cX3_tellLastOf 39 = .ok (.putfield 15, 3) := by decide +kernel
theorem dX3_tellLastOf_42 : decode cX3_tellLastOf 42 = .ok (.aload_n 0, 1) := by decide +kernel
theorem dX3_tellLastOf_43 : decode cX3_tellLastOf 43 = .ok (.dup, 1) := by decide +kernel
theorem dX3_tellLastOf_44 : decode cX3_tellLastOf 44 = .ok (.getfield 9, 3) := by decide +kernel
theorem dX3_tellLastOf_47 : decode cX3_tellLastOf 47 = .ok (.lload_n 3, 1) := by decide +kernel
theorem dX3_tellLastOf_48 : decode cX3_tellLastOf 48 = .ok (.lor, 1) := by decide +kernel
theorem dX3_tellLastOf_49 : decode cX3_tellLastOf 49 = .ok (.putfield 9, 3) := by decide +kernel
theorem dX3_tellLastOf_52 : decode cX3_tellLastOf 52 = .ok (.return_, 1) := by decide +kernel
theorem dX3_unknownCells_0 : decode cX3_unknownCells 0 = .ok (.aload_n 0, 1) := by decide +kernel
theorem dX3_unknownCells_1 : decode cX3_unknownCells 1 = .ok (.getfield 9, 3) := by decide +kernel
theorem dX3_unknownCells_4 : decode cX3_unknownCells 4 = .ok (.ldc2_w 29, 3) := by decide +kernel
theorem dX3_unknownCells_7 : decode cX3_unknownCells 7 = .ok (.lxor, 1) := by decide +kernel
theorem dX3_unknownCells_8 : decode cX3_unknownCells 8 = .ok (.invokestatic 31, 3) := by decide +kernel
theorem dX3_unknownCells_11 : decode cX3_unknownCells 11 = .ok (.ireturn, 1) := by decide +kernel
theorem dX3_bitAt_0 : decode cX3_bitAt 0 = .ok (.aload_n 0, 1) := by decide +kernel
theorem dX3_bitAt_1 : decode cX3_bitAt 1 = .ok (.getfield 9, 3) := by decide +kernel
theorem dX3_bitAt_4 : decode cX3_bitAt 4 = .ok (.iload_n 1, 1) := by decide +kernel
theorem dX3_bitAt_5 : decode cX3_bitAt 5 = .ok (.invokestatic 41, 3) := by decide +kernel
theorem dX3_bitAt_8 : decode cX3_bitAt 8 = .ok (.ifCond .ne 5, 3) := by decide +kernel
theorem dX3_bitAt_11 : decode cX3_bitAt 11 = .ok (.iconst (-1), 1) := by decide +kernel
theorem dX3_bitAt_12 : decode cX3_bitAt 12 = .ok (.ireturn, 1) := by decide +kernel
theorem dX3_bitAt_13 : decode cX3_bitAt 13 = .ok (.aload_n 0, 1) := by decide +kernel
theorem dX3_bitAt_14 : decode cX3_bitAt 14 = .ok (.getfield 15, 3) := by decide +kernel
theorem dX3_bitAt_17 : decode cX3_bitAt 17 = .ok (.iload_n 1, 1) := by decide +kernel
theorem dX3_bitAt_18 : decode cX3_bitAt 18 = .ok (.invokestatic 41, 3) := by decide +kernel
theorem dX3_bitAt_21 : decode cX3_bitAt 21 = .ok (.ifCond .eq 7, 3) := by decide +kernel
theorem dX3_bitAt_24 : decode cX3_bitAt 24 = .ok (.iconst 1, 1) := by decide +kernel
theorem dX3_bitAt_25 : decode cX3_bitAt 25 = .ok (.goto 4, 3) := by decide +kernel
theorem dX3_bitAt_28 : decode cX3_bitAt 28 = .ok (.iconst 0, 1) := by decide +kernel
theorem dX3_bitAt_29 : decode cX3_bitAt 29 = .ok (.ireturn, 1) := by decide +kernel
theorem dX3_disagrees_0 : decode cX3_disagrees 0 = .ok (.iload_n 1, 1) := by decide +kernel
theorem dX3_disagrees_1 : decode cX3_disagrees 1 = .ok (.bipush 8, 2) := by decide +kernel
theorem dX3_disagrees_3 : decode cX3_disagrees 3 = .ok (.if_icmp .ge 10, 3) := by decide +kernel
theorem dX3_disagrees_6 : decode cX3_disagrees 6 = .ok (.iload_n 1, 1) := by decide +kernel
theorem dX3_disagrees_7 : decode cX3_disagrees 7 = .ok (.invokestatic 18, 3) := by decide +kernel
theorem dX3_disagrees_10 : decode cX3_disagrees 10 = .ok (.goto 10, 3) := by decide +kernel
theorem dX3_disagrees_13 : decode cX3_disagrees 13 = .ok (.iload_n 1, 1) := by decide +kernel
theorem dX3_disagrees_14 : decode cX3_disagrees 14 = .ok (.bipush 8, 2) := by decide +kernel
theorem dX3_disagrees_16 : decode cX3_disagrees 16 = .ok (.isub, 1) := by decide +kernel
theorem dX3_disagrees_17 : decode cX3_disagrees 17 = .ok (.invokestatic 26, 3) := by decide +kernel
theorem dX3_disagrees_20 : decode cX3_disagrees 20 = .ok (.lstore_n 2, 1) := by decide +kernel
theorem dX3_disagrees_21 : decode cX3_disagrees 21 = .ok (.lload_n 2, 1) := by decide +kernel
theorem dX3_disagrees_22 : decode cX3_disagrees 22 = .ok (.aload_n 0, 1) := by decide +kernel
theorem dX3_disagrees_23 : decode cX3_disagrees 23 = .ok (.getfield 9, 3) := by decide +kernel
theorem dX3_disagrees_26 : decode cX3_disagrees 26 = .ok (.ldc2_w 29, 3) := by decide +kernel
theorem dX3_disagrees_29 : decode cX3_disagrees 29 = .ok (.lxor, 1) := by decide +kernel
theorem dX3_disagrees_30 : decode cX3_disagrees 30 = .ok (.land, 1) := by decide +kernel
theorem dX3_disagrees_31 : decode cX3_disagrees 31 = .ok (.lconst 0, 1) := by decide +kernel
theorem dX3_disagrees_32 : decode cX3_disagrees 32 = .ok (.lcmp, 1) := by decide +kernel
theorem dX3_disagrees_33 : decode cX3_disagrees 33 = .ok (.ifCond .ne 19, 3) := by decide +kernel
theorem dX3_disagrees_36 : decode cX3_disagrees 36 = .ok (.lload_n 2, 1) := by decide +kernel
theorem dX3_disagrees_37 : decode cX3_disagrees 37 = .ok (.aload_n 0, 1) := by decide +kernel
theorem dX3_disagrees_38 : decode cX3_disagrees 38 = .ok (.getfield 15, 3) := by decide +kernel
theorem dX3_disagrees_41 : decode cX3_disagrees 41 = .ok (.land, 1) := by decide +kernel
theorem dX3_disagrees_42 : decode cX3_disagrees 42 = .ok (.invokestatic 37, 3) := by decide +kernel
theorem dX3_disagrees_45 : decode cX3_disagrees 45 = .ok (.ifCond .eq 7, 3) := by decide +kernel
theorem dX3_disagrees_48 : decode cX3_disagrees 48 = .ok (.iconst 1, 1) := by decide +kernel
theorem dX3_disagrees_49 : decode cX3_disagrees 49 = .ok (.goto 4, 3) := by decide +kernel
theorem dX3_disagrees_52 : decode cX3_disagrees 52 = .ok (.iconst 0, 1) := by decide +kernel
theorem dX3_disagrees_53 : decode cX3_disagrees 53 = .ok (.ireturn, 1) := by decide +kernel
theorem dX3_disagreeingLines_0 : decode cX3_disagreeingLines 0 = .ok (.iconst 0, 1) := by decide +kernel
theorem dX3_disagreeingLines_1 : decode cX3_disagreeingLines 1 = .ok (.istore_n 1, 1) := by decide +kernel
theorem dX3_disagreeingLines_2 : decode cX3_disagreeingLines 2 = .ok (.iconst 0, 1) := by decide +kernel
theorem dX3_disagreeingLines_3 : decode cX3_disagreeingLines 3 = .ok (.istore_n 2, 1) := by decide +kernel
theorem dX3_disagreeingLines_4 : decode cX3_disagreeingLines 4 = .ok (.iload_n 2, 1) := by decide +kernel
theorem dX3_disagreeingLines_5 : decode cX3_disagreeingLines 5 = .ok (.bipush 16, 2) := by decide +kernel
theorem dX3_disagreeingLines_7 : decode cX3_disagreeingLines 7 = .ok (.if_icmp .ge 20, 3) := by decide +kernel
theorem dX3_disagreeingLines_10 : decode cX3_disagreeingLines 10 = .ok (.aload_n 0, 1) := by decide +kernel
theorem dX3_disagreeingLines_11 : decode cX3_disagreeingLines 11 = .ok (.iload_n 2, 1) := by decide +kernel
theorem dX3_disagreeingLines_12 : decode cX3_disagreeingLines 12 = .ok (.invokevirtual 45, 3) := by decide +kernel
theorem dX3_disagreeingLines_15 : decode cX3_disagreeingLines 15 = .ok (.ifCond .eq 6, 3) := by decide +kernel
theorem dX3_disagreeingLines_18 : decode cX3_disagreeingLines 18 = .ok (.iinc 1 1, 3) := by decide +kernel
theorem dX3_disagreeingLines_21 : decode cX3_disagreeingLines 21 = .ok (.iinc 2 1, 3) := by decide +kernel
theorem dX3_disagreeingLines_24 : decode cX3_disagreeingLines 24 = .ok (.goto (-20), 3) := by decide +kernel
theorem dX3_disagreeingLines_27 : decode cX3_disagreeingLines 27 = .ok (.iload_n 1, 1) := by decide +kernel
theorem dX3_disagreeingLines_28 : decode cX3_disagreeingLines 28 = .ok (.ireturn, 1) := by decide +kernel
theorem dX3_disagreeingLine_0 : decode cX3_disagreeingLine 0 = .ok (.iconst 0, 1) := by decide +kernel
theorem dX3_disagreeingLine_1 : decode cX3_disagreeingLine 1 = .ok (.istore_n 2, 1) := by decide +kernel
theorem dX3_disagreeingLine_2 : decode cX3_disagreeingLine 2 = .ok (.iconst 0, 1) := by decide +kernel
theorem dX3_disagreeingLine_3 : decode cX3_disagreeingLine 3 = .ok (.istore_n 3, 1) := by decide +kernel
theorem dX3_disagreeingLine_4 : decode cX3_disagreeingLine 4 = .ok (.iload_n 3, 1) := by decide +kernel
theorem dX3_disagreeingLine_5 : decode cX3_disagreeingLine 5 = .ok (.bipush 16, 2) := by decide +kernel
theorem dX3_disagreeingLine_7 : decode cX3_disagreeingLine 7 = .ok (.if_icmp .ge 27, 3) := by decide +kernel
theorem dX3_disagreeingLine_10 : decode cX3_disagreeingLine 10 = .ok (.aload_n 0, 1) := by decide +kernel
theorem dX3_disagreeingLine_11 : decode cX3_disagreeingLine 11 = .ok (.iload_n 3, 1) := by decide +kernel
theorem dX3_disagreeingLine_12 : decode cX3_disagreeingLine 12 = .ok (.invokevirtual 45, 3) := by decide +kernel
theorem dX3_disagreeingLine_15 : decode cX3_disagreeingLine 15 = .ok (.ifCond .eq 13, 3) := by decide +kernel
theorem dX3_disagreeingLine_18 : decode cX3_disagreeingLine 18 = .ok (.iload_n 2, 1) := by decide +kernel
theorem dX3_disagreeingLine_19 : decode cX3_disagreeingLine 19 = .ok (.iload_n 1, 1) := by decide +kernel
theorem dX3_disagreeingLine_20 : decode cX3_disagreeingLine 20 = .ok (.if_icmp .ne 5, 3) := by decide +kernel
theorem dX3_disagreeingLine_23 : decode cX3_disagreeingLine 23 = .ok (.iload_n 3, 1) := by decide +kernel
theorem dX3_disagreeingLine_24 : decode cX3_disagreeingLine 24 = .ok (.ireturn, 1) := by decide +kernel
theorem dX3_disagreeingLine_25 : decode cX3_disagreeingLine 25 = .ok (.iinc 2 1, 3) := by decide +kernel
theorem dX3_disagreeingLine_28 : decode cX3_disagreeingLine 28 = .ok (.iinc 3 1, 3) := by decide +kernel
theorem dX3_disagreeingLine_31 : decode cX3_disagreeingLine 31 = .ok (.goto (-27), 3) := by decide +kernel
theorem dX3_disagreeingLine_34 : decode cX3_disagreeingLine 34 = .ok (.iconst (-1), 1) := by decide +kernel
theorem dX3_disagreeingLine_35 : decode cX3_disagreeingLine 35 = .ok (.ireturn, 1) := by decide +kernel
theorem dX4_init_0 : decode cX4_init 0 = .ok (.aload_n 0, 1) := by decide +kernel
theorem dX4_init_1 : decode cX4_init 1 = .ok (.invokespecial 1, 3) := by decide +kernel
theorem dX4_init_4 : decode cX4_init 4 = .ok (.aload_n 0, 1) := by decide +kernel
theorem dX4_init_5 : decode cX4_init 5 = .ok (.iconst 3, 1) := by decide +kernel
theorem dX4_init_6 : decode cX4_init 6 = .ok (.anewarray 9, 3) := by decide +kernel
theorem dX4_init_9 : decode cX4_init 9 = .ok (.putfield 11, 3) := by decide +kernel
theorem dX4_init_12 : decode cX4_init 12 = .ok (.iconst 0, 1) := by decide +kernel
theorem dX4_init_13 : decode cX4_init 13 = .ok (.istore_n 1, 1) := by decide +kernel
theorem dX4_init_14 : decode cX4_init 14 = .ok (.iload_n 1, 1) := by decide +kernel
theorem dX4_init_15 : decode cX4_init 15 = .ok (.iconst 3, 1) := by decide +kernel
theorem dX4_init_16 : decode cX4_init 16 = .ok (.if_icmp .ge 22, 3) := by decide +kernel
theorem dX4_init_19 : decode cX4_init 19 = .ok (.aload_n 0, 1) := by decide +kernel
theorem dX4_init_20 : decode cX4_init 20 = .ok (.getfield 11, 3) := by decide +kernel
theorem dX4_init_23 : decode cX4_init 23 = .ok (.iload_n 1, 1) := by decide +kernel
theorem dX4_init_24 : decode cX4_init 24 = .ok (.new 9, 3) := by decide +kernel
theorem dX4_init_27 : decode cX4_init 27 = .ok (.dup, 1) := by decide +kernel
theorem dX4_init_28 : decode cX4_init 28 = .ok (.invokespecial 15, 3) := by decide +kernel
theorem dX4_init_31 : decode cX4_init 31 = .ok (.aastore, 1) := by decide +kernel
theorem dX4_init_32 : decode cX4_init 32 = .ok (.iinc 1 1, 3) := by decide +kernel
theorem dX4_init_35 : decode cX4_init 35 = .ok (.goto (-21), 3) := by decide +kernel
theorem dX4_init_38 : decode cX4_init 38 = .ok (.aload_n 0, 1) := by decide +kernel
theorem dX4_init_39 : decode cX4_init 39 = .ok (.new 16, 3) := by decide +kernel
theorem dX4_init_42 : decode cX4_init 42 = .ok (.dup, 1) := by decide +kernel
theorem dX4_init_43 : decode cX4_init 43 = .ok (.invokespecial 18, 3) := by decide +kernel
theorem dX4_init_46 : decode cX4_init 46 = .ok (.putfield 19, 3) := by decide +kernel
theorem dX4_init_49 : decode cX4_init 49 = .ok (.aload_n 0, 1) := by decide +kernel
theorem dX4_init_50 : decode cX4_init 50 = .ok (.new 16, 3) := by decide +kernel
theorem dX4_init_53 : decode cX4_init 53 = .ok (.dup, 1) := by decide +kernel
theorem dX4_init_54 : decode cX4_init 54 = .ok (.invokespecial 18, 3) := by decide +kernel
theorem dX4_init_57 : decode cX4_init 57 = .ok (.putfield 23, 3) := by decide +kernel
theorem dX4_init_60 : decode cX4_init 60 = .ok (.aload_n 0, 1) := by decide +kernel
theorem dX4_init_61 : decode cX4_init 61 = .ok (.new 26, 3) := by decide +kernel
theorem dX4_init_64 : decode cX4_init 64 = .ok (.dup, 1) := by decide +kernel
theorem dX4_init_65 : decode cX4_init 65 = .ok (.invokespecial 28, 3) := by decide +kernel
theorem dX4_init_68 : decode cX4_init 68 = .ok (.putfield 29, 3) := by decide +kernel
theorem dX4_init_71 : decode cX4_init 71 = .ok (.aload_n 0, 1) := by decide +kernel
theorem dX4_init_72 : decode cX4_init 72 = .ok (.new 33, 3) := by decide +kernel
theorem dX4_init_75 : decode cX4_init 75 = .ok (.dup, 1) := by decide +kernel
theorem dX4_init_76 : decode cX4_init 76 = .ok (.invokespecial 35, 3) := by decide +kernel
theorem dX4_init_79 : decode cX4_init 79 = .ok (.putfield 36, 3) := by decide +kernel
theorem dX4_init_82 : decode cX4_init 82 = .ok (.aload_n 0, 1) := by decide +kernel
theorem dX4_init_83 : decode cX4_init 83 = .ok (.new 40, 3) := by decide +kernel
theorem dX4_init_86 : decode cX4_init 86 = .ok (.dup, 1) := by decide +kernel
theorem dX4_init_87 : decode cX4_init 87 = .ok (.invokespecial 42, 3) := by decide +kernel
theorem dX4_init_90 : decode cX4_init 90 = .ok (.putfield 43, 3) := by decide +kernel
theorem dX4_init_93 : decode cX4_init 93 = .ok (.return_, 1) := by decide +kernel
theorem dX4_punch_0 : decode cX4_punch 0 = .ok (.aload_n 0, 1) := by decide +kernel
theorem dX4_punch_1 : decode cX4_punch 1 = .ok (.iload_n 1, 1) := by decide +kernel
theorem dX4_punch_2 : decode cX4_punch 2 = .ok (.invokevirtual 47, 3) := by decide +kernel
theorem dX4_punch_5 : decode cX4_punch 5 = .ok (.astore 4, 2) := by decide +kernel
theorem dX4_punch_7 : decode cX4_punch 7 = .ok (.iload_n 2, 1) := by decide +kernel
theorem dX4_punch_8 : decode cX4_punch 8 = .ok (.invokestatic 51, 3) := by decide +kernel
theorem dX4_punch_11 : decode cX4_punch 11 = .ok (.iload_n 3, 1) := by decide +kernel
theorem dX4_punch_12 : decode cX4_punch 12 = .ok (.ifCond .lt 9, 3) := by decide +kernel
theorem dX4_punch_15 : decode cX4_punch 15 = .ok (.iload_n 3, 1) := by decide +kernel
theorem dX4_punch_16 : decode cX4_punch 16 = .ok (.bipush 127, 2) := by decide +kernel
theorem dX4_punch_18 : decode cX4_punch 18 = .ok (.if_icmp .le 13, 3) := by decide +kernel
theorem dX4_punch_21 : decode cX4_punch 21 = .ok (.new 55, 3) := by decide +kernel
theorem dX4_punch_24 : decode cX4_punch 24 = .ok (.dup, 1) := by decide +kernel
theorem dX4_punch_25 : decode cX4_punch 25 = .ok (.ldc 57, 2) := by decide +kernel
theorem dX4_punch_27 : decode cX4_punch 27 = .ok (.invokespecial 59, 3) := by decide +kernel
theorem dX4_punch_30 : decode cX4_punch 30 = .ok (.athrow, 1) := by decide +kernel
theorem dX4_punch_31 : decode cX4_punch 31 = .ok (.aload 4, 2) := by decide +kernel
theorem dX4_punch_33 : decode cX4_punch 33 = .ok (.iload_n 2, 1) := by decide +kernel
theorem dX4_punch_34 : decode cX4_punch 34 = .ok (.invokevirtual 62, 3) := by decide +kernel
theorem dX4_punch_37 : decode cX4_punch 37 = .ok (.ifCond .ne 13, 3) := by decide +kernel
theorem dX4_punch_40 : decode cX4_punch 40 = .ok (.new 66, 3) := by decide +kernel
theorem dX4_punch_43 : decode cX4_punch 43 = .ok (.dup, 1) := by decide +kernel
theorem dX4_punch_44 : decode cX4_punch 44 = .ok (.ldc 68, 2) := by decide +kernel
theorem dX4_punch_46 : decode cX4_punch 46 = .ok (.invokespecial 70, 3) := by decide +kernel
theorem dX4_punch_49 : decode cX4_punch 49 = .ok (.athrow, 1) := by decide +kernel
theorem dX4_punch_50 : decode cX4_punch 50 = .ok (.aload_n 0, 1) := by decide +kernel
theorem dX4_punch_51 : decode cX4_punch 51 = .ok (.getfield 29, 3) := by decide +kernel
theorem dX4_punch_54 : decode cX4_punch 54 = .ok (.aload_n 0, 1) := by decide +kernel
theorem dX4_punch_55 : decode cX4_punch 55 = .ok (.getfield 11, 3) := by decide +kernel
theorem dX4_punch_58 : decode cX4_punch 58 = .ok (.invokevirtual 71, 3) := by decide +kernel
theorem dX4_punch_61 : decode cX4_punch 61 = .ok (.aload 4, 2) := by decide +kernel
theorem dX4_punch_63 : decode cX4_punch 63 = .ok (.iload_n 2, 1) := by decide +kernel
theorem dX4_punch_64 : decode cX4_punch 64 = .ok (.iload_n 3, 1) := by decide +kernel
theorem dX4_punch_65 : decode cX4_punch 65 = .ok (.invokevirtual 75, 3) := by decide +kernel
theorem dX4_punch_68 : decode cX4_punch 68 = .ok (.ireturn, 1) := by decide +kernel
theorem dX4_close_0 : decode cX4_close 0 = .ok (.aload_n 0, 1) := by decide +kernel
theorem dX4_close_1 : decode cX4_close 1 = .ok (.iload_n 1, 1) := by decide +kernel
theorem dX4_close_2 : decode cX4_close 2 = .ok (.invokevirtual 47, 3) := by decide +kernel
theorem dX4_close_5 : decode cX4_close 5 = .ok (.astore_n 2, 1) := by decide +kernel
theorem dX4_close_6 : decode cX4_close 6 = .ok (.aload_n 2, 1) := by decide +kernel
theorem dX4_close_7 : decode cX4_close 7 = .ok (.invokevirtual 79, 3) := by decide +kernel
theorem dX4_close_10 : decode cX4_close 10 = .ok (.ifCond .ne 13, 3) := by decide +kernel
theorem dX4_close_13 : decode cX4_close 13 = .ok (.new 66, 3) := by decide +kernel
theorem dX4_close_16 : decode cX4_close 16 = .ok (.dup, 1) := by decide +kernel
theorem dX4_close_17 : decode cX4_close 17 = .ok (.ldc 83, 2) := by decide +kernel
theorem dX4_close_19 : decode cX4_close 19 = .ok (.invokespecial 70, 3) := by decide +kernel
theorem dX4_close_22 : decode cX4_close 22 = .ok (.athrow, 1) := by decide +kernel
theorem dX4_close_23 : decode cX4_close 23 = .ok (.aload_n 0, 1) := by decide +kernel
theorem dX4_close_24 : decode cX4_close 24 = .ok (.getfield 29, 3) := by decide +kernel
theorem dX4_close_27 : decode cX4_close 27 = .ok (.aload_n 0, 1) := by decide +kernel
theorem dX4_close_28 : decode cX4_close 28 = .ok (.getfield 11, 3) := by decide +kernel
theorem dX4_close_31 : decode cX4_close 31 = .ok (.invokevirtual 71, 3) := by decide +kernel
theorem dX4_close_34 : decode cX4_close 34 = .ok (.aload_n 2, 1) := by decide +kernel
theorem dX4_close_35 : decode cX4_close 35 = .ok (.invokevirtual 85, 3) := by decide +kernel
theorem dX4_close_38 : decode cX4_close 38 = .ok (.ireturn, 1) := by decide +kernel
theorem dX4_renew_0 : decode cX4_renew 0 = .ok (.aload_n 0, 1) := by decide +kernel
theorem dX4_renew_1 : decode cX4_renew 1 = .ok (.iload_n 1, 1) := by decide +kernel
theorem dX4_renew_2 : decode cX4_renew 2 = .ok (.invokevirtual 47, 3) := by decide +kernel
theorem dX4_renew_5 : decode cX4_renew 5 = .ok (.astore_n 2, 1) := by decide +kernel
theorem dX4_renew_6 : decode cX4_renew 6 = .ok (.aload_n 0, 1) := by decide +kernel
theorem dX4_renew_7 : decode cX4_renew 7 = .ok (.getfield 29, 3) := by decide +kernel
theorem dX4_renew_10 : decode cX4_renew 10 = .ok (.aload_n 0, 1) := by decide +kernel
theorem dX4_renew_11 : decode cX4_renew 11 = .ok (.getfield 11, 3) := by decide +kernel
theorem dX4_renew_14 : decode cX4_renew 14 = .ok (.invokevirtual 71, 3) := by decide +kernel
theorem dX4_renew_17 : decode cX4_renew 17 = .ok (.aload_n 2, 1) := by decide +kernel
theorem dX4_renew_18 : decode cX4_renew 18 = .ok (.getfield 89, 3) := by decide +kernel
theorem dX4_renew_21 : decode cX4_renew 21 = .ok (.invokestatic 93, 3) := by decide +kernel
theorem dX4_renew_24 : decode cX4_renew 24 = .ok (.aload_n 2, 1) := by decide +kernel
theorem dX4_renew_25 : decode cX4_renew 25 = .ok (.getfield 99, 3) := by decide +kernel
theorem dX4_renew_28 : decode cX4_renew 28 = .ok (.invokestatic 93, 3) := by decide +kernel
theorem dX4_renew_31 : decode cX4_renew 31 = .ok (.iadd, 1) := by decide +kernel
theorem dX4_renew_32 : decode cX4_renew 32 = .ok (.istore_n 3, 1) := by decide +kernel
theorem dX4_renew_33 : decode cX4_renew 33 = .ok (.aload_n 2, 1) := by decide +kernel
theorem dX4_renew_34 : decode cX4_renew 34 = .ok (.invokevirtual 102, 3) := by decide +kernel
theorem dX4_renew_37 : decode cX4_renew 37 = .ok (.iload_n 3, 1) := by decide +kernel
theorem dX4_renew_38 : decode cX4_renew 38 = .ok (.ireturn, 1) := by decide +kernel
theorem dX4_copy_0 : decode cX4_copy 0 = .ok (.aload_n 0, 1) := by decide +kernel
theorem dX4_copy_1 : decode cX4_copy 1 = .ok (.iload_n 1, 1) := by decide +kernel
theorem dX4_copy_2 : decode cX4_copy 2 = .ok (.invokevirtual 47, 3) := by decide +kernel
theorem dX4_copy_5 : decode cX4_copy 5 = .ok (.astore_n 3, 1) := by decide +kernel
theorem dX4_copy_6 : decode cX4_copy 6 = .ok (.aload_n 0, 1) := by decide +kernel
theorem dX4_copy_7 : decode cX4_copy 7 = .ok (.iload_n 2, 1) := by decide +kernel
theorem dX4_copy_8 : decode cX4_copy 8 = .ok (.invokevirtual 47, 3) := by decide +kernel
theorem dX4_copy_11 : decode cX4_copy 11 = .ok (.astore 4, 2) := by decide +kernel
theorem dX4_copy_13 : decode cX4_copy 13 = .ok (.iload_n 1, 1) := by decide +kernel
theorem dX4_copy_14 : decode cX4_copy 14 = .ok (.iload_n 2, 1) := by decide +kernel
theorem dX4_copy_15 : decode cX4_copy 15 = .ok (.if_icmp .ne 13, 3) := by decide +kernel
theorem dX4_copy_18 : decode cX4_copy 18 = .ok (.new 55, 3) := by decide +kernel
theorem dX4_copy_21 : decode cX4_copy 21 = .ok (.dup, 1) := by decide +kernel
theorem dX4_copy_22 : decode cX4_copy 22 = .ok (.ldc 105, 2) := by decide +kernel
theorem dX4_copy_24 : decode cX4_copy 24 = .ok (.invokespecial 59, 3) := by decide +kernel
theorem dX4_copy_27 : decode cX4_copy 27 = .ok (.athrow, 1) := by decide +kernel
theorem dX4_copy_28 : decode cX4_copy 28 = .ok (.aload_n 0, 1) := by decide +kernel
theorem dX4_copy_29 : decode cX4_copy 29 = .ok (.getfield 29, 3) := by decide +kernel
theorem dX4_copy_32 : decode cX4_copy 32 = .ok (.aload_n 0, 1) := by decide +kernel
theorem dX4_copy_33 : decode cX4_copy 33 = .ok (.getfield 11, 3) := by decide +kernel
theorem dX4_copy_36 : decode cX4_copy 36 = .ok (.invokevirtual 71, 3) := by decide +kernel
theorem dX4_copy_39 : decode cX4_copy 39 = .ok (.aload_n 0, 1) := by decide +kernel
theorem dX4_copy_40 : decode cX4_copy 40 = .ok (.aload_n 3, 1) := by decide +kernel
theorem dX4_copy_41 : decode cX4_copy 41 = .ok (.invokevirtual 107, 3) := by decide +kernel
theorem dX4_copy_44 : decode cX4_copy 44 = .ok (.astore 5, 2) := by decide +kernel
theorem dX4_copy_46 : decode cX4_copy 46 = .ok (.aload 4, 2) := by decide +kernel
theorem dX4_copy_48 : decode cX4_copy 48 = .ok (.invokevirtual 102, 3) := by decide +kernel
theorem dX4_copy_51 : decode cX4_copy 51 = .ok (.aload 4, 2) := by decide +kernel
theorem dX4_copy_53 : decode cX4_copy 53 = .ok (.aload 5, 2) := by decide +kernel
theorem dX4_copy_55 : decode cX4_copy 55 = .ok (.getfield 111, 3) := by decide +kernel
theorem dX4_copy_58 : decode cX4_copy 58 = .ok (.putfield 89, 3) := by decide +kernel
theorem dX4_copy_61 : decode cX4_copy 61 = .ok (.aload 4, 2) := by decide +kernel
theorem dX4_copy_63 : decode cX4_copy 63 = .ok (.aload 5, 2) := by decide +kernel
theorem dX4_copy_65 : decode cX4_copy 65 = .ok (.getfield 114, 3) := by decide +kernel
theorem dX4_copy_68 : decode cX4_copy 68 = .ok (.aload 5, 2) := by decide +kernel
theorem dX4_copy_70 : decode cX4_copy 70 = .ok (.getfield 111, 3) := by decide +kernel
theorem dX4_copy_73 : decode cX4_copy 73 = .ok (.ldc2_w 117, 3) := by decide +kernel
theorem dX4_copy_76 : decode cX4_copy 76 = .ok (.lxor, 1) := by decide +kernel
theorem dX4_copy_77 : decode cX4_copy 77 = .ok (.land, 1) := by decide +kernel
theorem dX4_copy_78 : decode cX4_copy 78 = .ok (.putfield 99, 3) := by decide +kernel
theorem dX4_copy_81 : decode cX4_copy 81 = .ok (.aload 4, 2) := by decide +kernel
theorem dX4_copy_83 : decode cX4_copy 83 = .ok (.invokevirtual 119, 3) := by decide +kernel
theorem dX4_copy_86 : decode cX4_copy 86 = .ok (.invokestatic 93, 3) := by decide +kernel
theorem dX4_copy_89 : decode cX4_copy 89 = .ok (.ireturn, 1) := by decide +kernel
theorem dX4_wear_0 : decode cX4_wear 0 = .ok (.aload_n 0, 1) := by decide +kernel
theorem dX4_wear_1 : decode cX4_wear 1 = .ok (.iload_n 1, 1) := by decide +kernel
theorem dX4_wear_2 : decode cX4_wear 2 = .ok (.invokevirtual 47, 3) := by decide +kernel
theorem dX4_wear_5 : decode cX4_wear 5 = .ok (.astore 4, 2) := by decide +kernel
theorem dX4_wear_7 : decode cX4_wear 7 = .ok (.iload_n 2, 1) := by decide +kernel
theorem dX4_wear_8 : decode cX4_wear 8 = .ok (.iload_n 3, 1) := by decide +kernel
theorem dX4_wear_9 : decode cX4_wear 9 = .ok (.invokestatic 123, 3) := by decide +kernel
theorem dX4_wear_12 : decode cX4_wear 12 = .ok (.aload 4, 2) := by decide +kernel
theorem dX4_wear_14 : decode cX4_wear 14 = .ok (.iload_n 2, 1) := by decide +kernel
theorem dX4_wear_15 : decode cX4_wear 15 = .ok (.iload_n 3, 1) := by decide +kernel
theorem dX4_wear_16 : decode cX4_wear 16 = .ok (.invokevirtual 127, 3) := by decide +kernel
theorem dX4_wear_19 : decode cX4_wear 19 = .ok (.istore 5, 2) := by decide +kernel
theorem dX4_wear_21 : decode cX4_wear 21 = .ok (.aload 4, 2) := by decide +kernel
theorem dX4_wear_23 : decode cX4_wear 23 = .ok (.aload 4, 2) := by decide +kernel
theorem dX4_wear_25 : decode cX4_wear 25 = .ok (.invokevirtual 130, 3) := by decide +kernel
theorem dX4_wear_28 : decode cX4_wear 28 = .ok (.iload 5, 2) := by decide +kernel
theorem dX4_wear_30 : decode cX4_wear 30 = .ok (.invokevirtual 133, 3) := by decide +kernel
theorem dX4_wear_33 : decode cX4_wear 33 = .ok (.ifCond .eq 13, 3) := by decide +kernel
theorem dX4_wear_36 : decode cX4_wear 36 = .ok (.new 66, 3) := by decide +kernel
theorem dX4_wear_39 : decode cX4_wear 39 = .ok (.dup, 1) := by decide +kernel
theorem dX4_wear_40 : decode cX4_wear 40 = .ok (.ldc 137, 2) := by decide +kernel
theorem dX4_wear_42 : decode cX4_wear 42 = .ok (.invokespecial 70, 3) := by decide +kernel
theorem dX4_wear_45 : decode cX4_wear 45 = .ok (.athrow, 1) := by decide +kernel
theorem dX4_wear_46 : decode cX4_wear 46 = .ok (.aload_n 0, 1) := by decide +kernel
theorem dX4_wear_47 : decode cX4_wear 47 = .ok (.getfield 29, 3) := by decide +kernel
theorem dX4_wear_50 : decode cX4_wear 50 = .ok (.aload_n 0, 1) := by decide +kernel
theorem dX4_wear_51 : decode cX4_wear 51 = .ok (.getfield 11, 3) := by decide +kernel
theorem dX4_wear_54 : decode cX4_wear 54 = .ok (.invokevirtual 71, 3) := by decide +kernel
theorem dX4_wear_57 : decode cX4_wear 57 = .ok (.aload 4, 2) := by decide +kernel
theorem dX4_wear_59 : decode cX4_wear 59 = .ok (.aload 4, 2) := by decide +kernel
theorem dX4_wear_61 : decode cX4_wear 61 = .ok (.invokevirtual 130, 3) := by decide +kernel
theorem dX4_wear_64 : decode cX4_wear 64 = .ok (.iload 5, 2) := by decide +kernel
theorem dX4_wear_66 : decode cX4_wear 66 = .ok (.iconst 1, 1) := by decide +kernel
theorem dX4_wear_67 : decode cX4_wear 67 = .ok (.invokevirtual 139, 3) := by decide +kernel
theorem dX4_wear_70 : decode cX4_wear 70 = .ok (.aload 4, 2) := by decide +kernel
theorem dX4_wear_72 : decode cX4_wear 72 = .ok (.iload 5, 2) := by decide +kernel
theorem dX4_wear_74 : decode cX4_wear 74 = .ok (.invokevirtual 143, 3) := by decide +kernel
theorem dX4_wear_77 : decode cX4_wear 77 = .ok (.ireturn, 1) := by decide +kernel
theorem dX4_lose_0 : decode cX4_lose 0 = .ok (.aload_n 0, 1) := by decide +kernel
theorem dX4_lose_1 : decode cX4_lose 1 = .ok (.iload_n 1, 1) := by decide +kernel
theorem dX4_lose_2 : decode cX4_lose 2 = .ok (.invokevirtual 47, 3) := by decide +kernel
theorem dX4_lose_5 : decode cX4_lose 5 = .ok (.astore 4, 2) := by decide +kernel
theorem dX4_lose_7 : decode cX4_lose 7 = .ok (.iload_n 2, 1) := by decide +kernel
theorem dX4_lose_8 : decode cX4_lose 8 = .ok (.iload_n 3, 1) := by decide +kernel
theorem dX4_lose_9 : decode cX4_lose 9 = .ok (.invokestatic 123, 3) := by decide +kernel
theorem dX4_lose_12 : decode cX4_lose 12 = .ok (.aload 4, 2) := by decide +kernel
theorem dX4_lose_14 : decode cX4_lose 14 = .ok (.iload_n 2, 1) := by decide +kernel
theorem dX4_lose_15 : decode cX4_lose 15 = .ok (.iload_n 3, 1) := by decide +kernel
theorem dX4_lose_16 : decode cX4_lose 16 = .ok (.invokevirtual 127, 3) := by decide +kernel
theorem dX4_lose_19 : decode cX4_lose 19 = .ok (.istore 5, 2) := by decide +kernel
theorem dX4_lose_21 : decode cX4_lose 21 = .ok (.aload 4, 2) := by decide +kernel
theorem dX4_lose_23 : decode cX4_lose 23 = .ok (.aload 4, 2) := by decide +kernel
theorem dX4_lose_25 : decode cX4_lose 25 = .ok (.invokevirtual 130, 3) := by decide +kernel
theorem dX4_lose_28 : decode cX4_lose 28 = .ok (.iload 5, 2) := by decide +kernel
theorem dX4_lose_30 : decode cX4_lose 30 = .ok (.invokevirtual 133, 3) := by decide +kernel
theorem dX4_lose_33 : decode cX4_lose 33 = .ok (.ifCond .ne 13, 3) := by decide +kernel
theorem dX4_lose_36 : decode cX4_lose 36 = .ok (.new 66, 3) := by decide +kernel
theorem dX4_lose_39 : decode cX4_lose 39 = .ok (.dup, 1) := by decide +kernel
theorem dX4_lose_40 : decode cX4_lose 40 = .ok (.ldc 147, 2) := by decide +kernel
theorem dX4_lose_42 : decode cX4_lose 42 = .ok (.invokespecial 70, 3) := by decide +kernel
theorem dX4_lose_45 : decode cX4_lose 45 = .ok (.athrow, 1) := by decide +kernel
theorem dX4_lose_46 : decode cX4_lose 46 = .ok (.aload_n 0, 1) := by decide +kernel
theorem dX4_lose_47 : decode cX4_lose 47 = .ok (.getfield 29, 3) := by decide +kernel
theorem dX4_lose_50 : decode cX4_lose 50 = .ok (.aload_n 0, 1) := by decide +kernel
theorem dX4_lose_51 : decode cX4_lose 51 = .ok (.getfield 11, 3) := by decide +kernel
theorem dX4_lose_54 : decode cX4_lose 54 = .ok (.invokevirtual 71, 3) := by decide +kernel
theorem dX4_lose_57 : decode cX4_lose 57 = .ok (.aload 4, 2) := by decide +kernel
theorem dX4_lose_59 : decode cX4_lose 59 = .ok (.aload 4, 2) := by decide +kernel
theorem dX4_lose_61 : decode cX4_lose 61 = .ok (.invokevirtual 130, 3) := by decide +kernel
theorem dX4_lose_64 : decode cX4_lose 64 = .ok (.iload 5, 2) := by decide +kernel
theorem dX4_lose_66 : decode cX4_lose 66 = .ok (.iconst 0, 1) := by decide +kernel
theorem dX4_lose_67 : decode cX4_lose 67 = .ok (.invokevirtual 139, 3) := by decide +kernel
theorem dX4_lose_70 : decode cX4_lose 70 = .ok (.aload 4, 2) := by decide +kernel
theorem dX4_lose_72 : decode cX4_lose 72 = .ok (.iload 5, 2) := by decide +kernel
theorem dX4_lose_74 : decode cX4_lose 74 = .ok (.invokevirtual 143, 3) := by decide +kernel
theorem dX4_lose_77 : decode cX4_lose 77 = .ok (.ireturn, 1) := by decide +kernel
theorem dX4_turn_0 : decode cX4_turn 0 = .ok (.aload_n 0, 1) := by decide +kernel
theorem dX4_turn_1 : decode cX4_turn 1 = .ok (.iload_n 1, 1) := by decide +kernel
theorem dX4_turn_2 : decode cX4_turn 2 = .ok (.invokevirtual 47, 3) := by decide +kernel
theorem dX4_turn_5 : decode cX4_turn 5 = .ok (.astore_n 3, 1) := by decide +kernel
theorem dX4_turn_6 : decode cX4_turn 6 = .ok (.iload_n 2, 1) := by decide +kernel
theorem dX4_turn_7 : decode cX4_turn 7 = .ok (.ifCond .lt 8, 3) := by decide +kernel
theorem dX4_turn_10 : decode cX4_turn 10 = .ok (.iload_n 2, 1) := by decide +kernel
theorem dX4_turn_11 : decode cX4_turn 11 = .ok (.iconst 4, 1) := by decide +kernel
theorem dX4_turn_12 : decode cX4_turn 12 = .ok (.if_icmp .lt 13, 3) := by decide +kernel
theorem dX4_turn_15 : decode cX4_turn 15 = .ok (.new 55, 3) := by decide +kernel
theorem dX4_turn_18 : decode cX4_turn 18 = .ok (.dup, 1) := by decide +kernel
theorem dX4_turn_19 : decode cX4_turn 19 = .ok (.ldc 149, 2) := by decide +kernel
theorem dX4_turn_21 : decode cX4_turn 21 = .ok (.invokespecial 59, 3) := by decide +kernel
theorem dX4_turn_24 : decode cX4_turn 24 = .ok (.athrow, 1) := by decide +kernel
theorem dX4_turn_25 : decode cX4_turn 25 = .ok (.aload_n 0, 1) := by decide +kernel
theorem dX4_turn_26 : decode cX4_turn 26 = .ok (.getfield 29, 3) := by decide +kernel
theorem dX4_turn_29 : decode cX4_turn 29 = .ok (.aload_n 0, 1) := by decide +kernel
theorem dX4_turn_30 : decode cX4_turn 30 = .ok (.getfield 11, 3) := by decide +kernel
theorem dX4_turn_33 : decode cX4_turn 33 = .ok (.invokevirtual 71, 3) := by decide +kernel
theorem dX4_turn_36 : decode cX4_turn 36 = .ok (.aload_n 3, 1) := by decide +kernel
theorem dX4_turn_37 : decode cX4_turn 37 = .ok (.getfield 151, 3) := by decide +kernel
theorem dX4_turn_40 : decode cX4_turn 40 = .ok (.istore 4, 2) := by decide +kernel
theorem dX4_turn_42 : decode cX4_turn 42 = .ok (.aload_n 3, 1) := by decide +kernel
theorem dX4_turn_43 : decode cX4_turn 43 = .ok (.iload_n 2, 1) := by decide +kernel
theorem dX4_turn_44 : decode cX4_turn 44 = .ok (.putfield 151, 3) := by decide +kernel
theorem dX4_turn_47 : decode cX4_turn 47 = .ok (.iload 4, 2) := by decide +kernel
theorem dX4_turn_49 : decode cX4_turn 49 = .ok (.ireturn, 1) := by decide +kernel
theorem dX4_view_0 : decode cX4_view 0 = .ok (.aload_n 0, 1) := by decide +kernel
theorem dX4_view_1 : decode cX4_view 1 = .ok (.iload_n 1, 1) := by decide +kernel
theorem dX4_view_2 : decode cX4_view 2 = .ok (.invokevirtual 47, 3) := by decide +kernel
theorem dX4_view_5 : decode cX4_view 5 = .ok (.getfield 151, 3) := by decide +kernel
theorem dX4_view_8 : decode cX4_view 8 = .ok (.ireturn, 1) := by decide +kernel
theorem dX4_sees_0 : decode cX4_sees 0 = .ok (.aload_n 0, 1) := by decide +kernel
theorem dX4_sees_1 : decode cX4_sees 1 = .ok (.iload_n 1, 1) := by decide +kernel
theorem dX4_sees_2 : decode cX4_sees 2 = .ok (.invokevirtual 47, 3) := by decide +kernel
theorem dX4_sees_5 : decode cX4_sees 5 = .ok (.astore 4, 2) := by decide +kernel
theorem dX4_sees_7 : decode cX4_sees 7 = .ok (.iload_n 2, 1) := by decide +kernel
theorem dX4_sees_8 : decode cX4_sees 8 = .ok (.iload_n 3, 1) := by decide +kernel
theorem dX4_sees_9 : decode cX4_sees 9 = .ok (.invokestatic 123, 3) := by decide +kernel
theorem dX4_sees_12 : decode cX4_sees 12 = .ok (.aload 4, 2) := by decide +kernel
theorem dX4_sees_14 : decode cX4_sees 14 = .ok (.iload_n 2, 1) := by decide +kernel
theorem dX4_sees_15 : decode cX4_sees 15 = .ok (.iload_n 3, 1) := by decide +kernel
theorem dX4_sees_16 : decode cX4_sees 16 = .ok (.invokevirtual 155, 3) := by decide +kernel
theorem dX4_sees_19 : decode cX4_sees 19 = .ok (.ireturn, 1) := by decide +kernel
theorem dX4_raw_0 : decode cX4_raw 0 = .ok (.aload_n 0, 1) := by decide +kernel
theorem dX4_raw_1 : decode cX4_raw 1 = .ok (.iload_n 1, 1) := by decide +kernel
theorem dX4_raw_2 : decode cX4_raw 2 = .ok (.invokevirtual 47, 3) := by decide +kernel
theorem dX4_raw_5 : decode cX4_raw 5 = .ok (.astore_n 3, 1) := by decide +kernel
theorem dX4_raw_6 : decode cX4_raw 6 = .ok (.iload_n 2, 1) := by decide +kernel
theorem dX4_raw_7 : decode cX4_raw 7 = .ok (.invokestatic 159, 3) := by decide +kernel
theorem dX4_raw_10 : decode cX4_raw 10 = .ok (.aload_n 3, 1) := by decide +kernel
theorem dX4_raw_11 : decode cX4_raw 11 = .ok (.iload_n 2, 1) := by decide +kernel
theorem dX4_raw_12 : decode cX4_raw 12 = .ok (.invokevirtual 162, 3) := by decide +kernel
theorem dX4_raw_15 : decode cX4_raw 15 = .ok (.ireturn, 1) := by decide +kernel
theorem dX4_kind_0 : decode cX4_kind 0 = .ok (.aload_n 0, 1) := by decide +kernel
theorem dX4_kind_1 : decode cX4_kind 1 = .ok (.iload_n 1, 1) := by decide +kernel
theorem dX4_kind_2 : decode cX4_kind 2 = .ok (.invokevirtual 47, 3) := by decide +kernel
theorem dX4_kind_5 : decode cX4_kind 5 = .ok (.astore 4, 2) := by decide +kernel
theorem dX4_kind_7 : decode cX4_kind 7 = .ok (.iload_n 2, 1) := by decide +kernel
theorem dX4_kind_8 : decode cX4_kind 8 = .ok (.iload_n 3, 1) := by decide +kernel
theorem dX4_kind_9 : decode cX4_kind 9 = .ok (.invokestatic 123, 3) := by decide +kernel
theorem dX4_kind_12 : decode cX4_kind 12 = .ok (.aload 4, 2) := by decide +kernel
theorem dX4_kind_14 : decode cX4_kind 14 = .ok (.iload_n 2, 1) := by decide +kernel
theorem dX4_kind_15 : decode cX4_kind 15 = .ok (.iload_n 3, 1) := by decide +kernel
theorem dX4_kind_16 : decode cX4_kind 16 = .ok (.invokestatic 165, 3) := by decide +kernel
theorem dX4_kind_19 : decode cX4_kind 19 = .ok (.invokevirtual 143, 3) := by decide +kernel
theorem dX4_kind_22 : decode cX4_kind 22 = .ok (.ireturn, 1) := by decide +kernel
theorem dX4_told_0 : decode cX4_told 0 = .ok (.aload_n 0, 1) := by decide +kernel
theorem dX4_told_1 : decode cX4_told 1 = .ok (.iload_n 1, 1) := by decide +kernel
theorem dX4_told_2 : decode cX4_told 2 = .ok (.invokevirtual 47, 3) := by decide +kernel
theorem dX4_told_5 : decode cX4_told 5 = .ok (.astore 4, 2) := by decide +kernel
theorem dX4_told_7 : decode cX4_told 7 = .ok (.iload_n 2, 1) := by decide +kernel
theorem dX4_told_8 : decode cX4_told 8 = .ok (.iload_n 3, 1) := by decide +kernel
theorem dX4_told_9 : decode cX4_told 9 = .ok (.invokestatic 123, 3) := by decide +kernel
theorem dX4_told_12 : decode cX4_told 12 = .ok (.aload_n 0, 1) := by decide +kernel
theorem dX4_told_13 : decode cX4_told 13 = .ok (.aload 4, 2) := by decide +kernel
theorem dX4_told_15 : decode cX4_told 15 = .ok (.invokevirtual 107, 3) := by decide +kernel
theorem dX4_told_18 : decode cX4_told 18 = .ok (.iload_n 2, 1) := by decide +kernel
theorem dX4_told_19 : decode cX4_told 19 = .ok (.iload_n 3, 1) := by decide +kernel
theorem dX4_told_20 : decode cX4_told 20 = .ok (.invokestatic 165, 3) := by decide +kernel
theorem dX4_told_23 : decode cX4_told 23 = .ok (.invokevirtual 168, 3) := by decide +kernel
theorem dX4_told_26 : decode cX4_told 26 = .ok (.ireturn, 1) := by decide +kernel
theorem dX4_count_0 : decode cX4_count 0 = .ok (.aload_n 0, 1) := by decide +kernel
theorem dX4_count_1 : decode cX4_count 1 = .ok (.iload_n 1, 1) := by decide +kernel
theorem dX4_count_2 : decode cX4_count 2 = .ok (.invokevirtual 47, 3) := by decide +kernel
theorem dX4_count_5 : decode cX4_count 5 = .ok (.astore_n 3, 1) := by decide +kernel
theorem dX4_count_6 : decode cX4_count 6 = .ok (.iload_n 2, 1) := by decide +kernel
theorem dX4_count_7 : decode cX4_count 7 = .ok (.ifCond .lt 8, 3) := by decide +kernel
theorem dX4_count_10 : decode cX4_count 10 = .ok (.iload_n 2, 1) := by decide +kernel
theorem dX4_count_11 : decode cX4_count 11 = .ok (.iconst 4, 1) := by decide +kernel
theorem dX4_count_12 : decode cX4_count 12 = .ok (.if_icmp .lt 13, 3) := by decide +kernel
theorem dX4_count_15 : decode cX4_count 15 = .ok (.new 171, 3) := by decide +kernel
theorem dX4_count_18 : decode cX4_count 18 = .ok (.dup, 1) := by decide +kernel
theorem dX4_count_19 : decode cX4_count 19 = .ok (.ldc 173, 2) := by decide +kernel
theorem dX4_count_21 : decode cX4_count 21 = .ok (.invokespecial 175, 3) := by decide +kernel
theorem dX4_count_24 : decode cX4_count 24 = .ok (.athrow, 1) := by decide +kernel
theorem dX4_count_25 : decode cX4_count 25 = .ok (.aload_n 3, 1) := by decide +kernel
theorem dX4_count_26 : decode cX4_count 26 = .ok (.iload_n 2, 1) := by decide +kernel
theorem dX4_count_27 : decode cX4_count 27 = .ok (.invokevirtual 176, 3) := by decide +kernel
theorem dX4_count_30 : decode cX4_count 30 = .ok (.invokestatic 93, 3) := by decide +kernel
theorem dX4_count_33 : decode cX4_count 33 = .ok (.ireturn, 1) := by decide +kernel
theorem dX4_read_0 : decode cX4_read 0 = .ok (.aload_n 0, 1) := by decide +kernel
theorem dX4_read_1 : decode cX4_read 1 = .ok (.iload_n 1, 1) := by decide +kernel
theorem dX4_read_2 : decode cX4_read 2 = .ok (.invokevirtual 47, 3) := by decide +kernel
theorem dX4_read_5 : decode cX4_read 5 = .ok (.astore_n 3, 1) := by decide +kernel
theorem dX4_read_6 : decode cX4_read 6 = .ok (.iload_n 2, 1) := by decide +kernel
theorem dX4_read_7 : decode cX4_read 7 = .ok (.invokestatic 51, 3) := by decide +kernel
theorem dX4_read_10 : decode cX4_read 10 = .ok (.aload_n 3, 1) := by decide +kernel
theorem dX4_read_11 : decode cX4_read 11 = .ok (.invokevirtual 180, 3) := by decide +kernel
theorem dX4_read_14 : decode cX4_read 14 = .ok (.aload_n 3, 1) := by decide +kernel
theorem dX4_read_15 : decode cX4_read 15 = .ok (.invokevirtual 183, 3) := by decide +kernel
theorem dX4_read_18 : decode cX4_read 18 = .ok (.iload_n 2, 1) := by decide +kernel
theorem dX4_read_19 : decode cX4_read 19 = .ok (.invokestatic 185, 3) := by decide +kernel
theorem dX4_read_22 : decode cX4_read 22 = .ok (.ireturn, 1) := by decide +kernel
theorem dX4_value_0 : decode cX4_value 0 = .ok (.aload_n 0, 1) := by decide +kernel
theorem dX4_value_1 : decode cX4_value 1 = .ok (.iload_n 1, 1) := by decide +kernel
theorem dX4_value_2 : decode cX4_value 2 = .ok (.invokevirtual 47, 3) := by decide +kernel
theorem dX4_value_5 : decode cX4_value 5 = .ok (.astore_n 3, 1) := by decide +kernel
theorem dX4_value_6 : decode cX4_value 6 = .ok (.iload_n 2, 1) := by decide +kernel
theorem dX4_value_7 : decode cX4_value 7 = .ok (.invokestatic 51, 3) := by decide +kernel
theorem dX4_value_10 : decode cX4_value 10 = .ok (.aload_n 0, 1) := by decide +kernel
theorem dX4_value_11 : decode cX4_value 11 = .ok (.aload_n 3, 1) := by decide +kernel
theorem dX4_value_12 : decode cX4_value 12 = .ok (.invokevirtual 107, 3) := by decide +kernel
theorem dX4_value_15 : decode cX4_value 15 = .ok (.astore 4, 2) := by decide +kernel
theorem dX4_value_17 : decode cX4_value 17 = .ok (.aload 4, 2) := by decide +kernel
theorem dX4_value_19 : decode cX4_value 19 = .ok (.getfield 114, 3) := by decide +kernel
theorem dX4_value_22 : decode cX4_value 22 = .ok (.aload 4, 2) := by decide +kernel
theorem dX4_value_24 : decode cX4_value 24 = .ok (.getfield 111, 3) := by decide +kernel
theorem dX4_value_27 : decode cX4_value 27 = .ok (.iload_n 2, 1) := by decide +kernel
theorem dX4_value_28 : decode cX4_value 28 = .ok (.invokestatic 185, 3) := by decide +kernel
theorem dX4_value_31 : decode cX4_value 31 = .ok (.ireturn, 1) := by decide +kernel
theorem dX4_untold_0 : decode cX4_untold 0 = .ok (.aload_n 0, 1) := by decide +kernel
theorem dX4_untold_1 : decode cX4_untold 1 = .ok (.aload_n 0, 1) := by decide +kernel
theorem dX4_untold_2 : decode cX4_untold 2 = .ok (.iload_n 1, 1) := by decide +kernel
theorem dX4_untold_3 : decode cX4_untold 3 = .ok (.invokevirtual 47, 3) := by decide +kernel
theorem dX4_untold_6 : decode cX4_untold 6 = .ok (.invokevirtual 107, 3) := by decide +kernel
theorem dX4_untold_9 : decode cX4_untold 9 = .ok (.invokevirtual 189, 3) := by decide +kernel
theorem dX4_untold_12 : decode cX4_untold 12 = .ok (.ireturn, 1) := by decide +kernel
theorem dX4_disagreements_0 : decode cX4_disagreements 0 = .ok (.aload_n 0, 1) := by decide +kernel
theorem dX4_disagreements_1 : decode cX4_disagreements 1 = .ok (.aload_n 0, 1) := by decide +kernel
theorem dX4_disagreements_2 : decode cX4_disagreements 2 = .ok (.iload_n 1, 1) := by decide +kernel
theorem dX4_disagreements_3 : decode cX4_disagreements 3 = .ok (.invokevirtual 47, 3) := by decide +kernel
theorem dX4_disagreements_6 : decode cX4_disagreements 6 = .ok (.invokevirtual 107, 3) := by decide +kernel
theorem dX4_disagreements_9 : decode cX4_disagreements 9 = .ok (.invokevirtual 192, 3) := by decide +kernel
theorem dX4_disagreements_12 : decode cX4_disagreements 12 = .ok (.ireturn, 1) := by decide +kernel
theorem dX4_disagreement_0 : decode cX4_disagreement 0 = .ok (.aload_n 0, 1) := by decide +kernel
theorem dX4_disagreement_1 : decode cX4_disagreement 1 = .ok (.iload_n 1, 1) := by decide +kernel
theorem dX4_disagreement_2 : decode cX4_disagreement 2 = .ok (.invokevirtual 47, 3) := by decide +kernel
theorem dX4_disagreement_5 : decode cX4_disagreement 5 = .ok (.astore_n 3, 1) := by decide +kernel
theorem dX4_disagreement_6 : decode cX4_disagreement 6 = .ok (.iload_n 2, 1) := by decide +kernel
theorem dX4_disagreement_7 : decode cX4_disagreement 7 = .ok (.ifCond .ge 13, 3) := by decide +kernel
theorem dX4_disagreement_10 : decode cX4_disagreement 10 = .ok (.new 171, 3) := by decide +kernel
theorem dX4_disagreement_13 : decode cX4_disagreement 13 = .ok (.dup, 1) := by decide +kernel
theorem dX4_disagreement_14 : decode cX4_disagreement 14 = .ok (.ldc 195, 2) := by decide +kernel
theorem dX4_disagreement_16 : decode cX4_disagreement 16 = .ok (.invokespecial 175, 3) := by decide +kernel
theorem dX4_disagreement_19 : decode cX4_disagreement 19 = .ok (.athrow, 1) := by decide +kernel
theorem dX4_disagreement_20 : decode cX4_disagreement 20 = .ok (.aload_n 0, 1) := by decide +kernel
theorem dX4_disagreement_21 : decode cX4_disagreement 21 = .ok (.aload_n 3, 1) := by decide +kernel
theorem dX4_disagreement_22 : decode cX4_disagreement 22 = .ok (.invokevirtual 107, 3) := by decide +kernel
theorem dX4_disagreement_25 : decode cX4_disagreement 25 = .ok (.iload_n 2, 1) := by decide +kernel
theorem dX4_disagreement_26 : decode cX4_disagreement 26 = .ok (.invokevirtual 197, 3) := by decide +kernel
theorem dX4_disagreement_29 : decode cX4_disagreement 29 = .ok (.ireturn, 1) := by decide +kernel
theorem dX4_soundShare_0 : decode cX4_soundShare 0 = .ok (.aload_n 0, 1) := by decide +kernel
theorem dX4_soundShare_1 : decode cX4_soundShare 1 = .ok (.iload_n 1, 1) := by decide +kernel
theorem dX4_soundShare_2 : decode cX4_soundShare 2 = .ok (.invokevirtual 47, 3) := by decide +kernel
theorem dX4_soundShare_5 : decode cX4_soundShare 5 = .ok (.astore_n 2, 1) := by decide +kernel
theorem dX4_soundShare_6 : decode cX4_soundShare 6 = .ok (.aload_n 2, 1) := by decide +kernel
theorem dX4_soundShare_7 : decode cX4_soundShare 7 = .ok (.invokevirtual 180, 3) := by decide +kernel
theorem dX4_soundShare_10 : decode cX4_soundShare 10 = .ok (.invokestatic 93, 3) := by decide +kernel
theorem dX4_soundShare_13 : decode cX4_soundShare 13 = .ok (.i2d, 1) := by decide +kernel
theorem dX4_soundShare_14 : decode cX4_soundShare 14 = .ok (.ldc2_w 200, 3) := by decide +kernel
theorem dX4_soundShare_17 : decode cX4_soundShare 17 = .ok (.ddiv, 1) := by decide +kernel
theorem dX4_soundShare_18 : decode cX4_soundShare 18 = .ok (.dreturn, 1) := by decide +kernel
theorem dX4_untoldIf_0 : decode cX4_untoldIf 0 = .ok (.aload_n 0, 1) := by decide +kernel
theorem dX4_untoldIf_1 : decode cX4_untoldIf 1 = .ok (.iload_n 1, 1) := by decide +kernel
theorem dX4_untoldIf_2 : decode cX4_untoldIf 2 = .ok (.invokevirtual 47, 3) := by decide +kernel
theorem dX4_untoldIf_5 : decode cX4_untoldIf 5 = .ok (.astore 4, 2) := by decide +kernel
theorem dX4_untoldIf_7 : decode cX4_untoldIf 7 = .ok (.iload_n 2, 1) := by decide +kernel
theorem dX4_untoldIf_8 : decode cX4_untoldIf 8 = .ok (.iload_n 3, 1) := by decide +kernel
theorem dX4_untoldIf_9 : decode cX4_untoldIf 9 = .ok (.invokestatic 123, 3) := by decide +kernel
theorem dX4_untoldIf_12 : decode cX4_untoldIf 12 = .ok (.aload_n 0, 1) := by decide +kernel
theorem dX4_untoldIf_13 : decode cX4_untoldIf 13 = .ok (.aload 4, 2) := by decide +kernel
theorem dX4_untoldIf_15 : decode cX4_untoldIf 15 = .ok (.iload_n 2, 1) := by decide +kernel
theorem dX4_untoldIf_16 : decode cX4_untoldIf 16 = .ok (.iload_n 3, 1) := by decide +kernel
theorem dX4_untoldIf_17 : decode cX4_untoldIf 17 = .ok (.invokestatic 165, 3) := by decide +kernel
theorem dX4_untoldIf_20 : decode cX4_untoldIf 20 = .ok (.invokevirtual 202, 3) := by decide +kernel
theorem dX4_untoldIf_23 : decode cX4_untoldIf 23 = .ok (.ireturn, 1) := by decide +kernel
theorem dX4_worst_0 : decode cX4_worst 0 = .ok (.aload_n 0, 1) := by decide +kernel
theorem dX4_worst_1 : decode cX4_worst 1 = .ok (.aload_n 0, 1) := by decide +kernel
theorem dX4_worst_2 : decode cX4_worst 2 = .ok (.iload_n 1, 1) := by decide +kernel
theorem dX4_worst_3 : decode cX4_worst 3 = .ok (.invokevirtual 47, 3) := by decide +kernel
theorem dX4_worst_6 : decode cX4_worst 6 = .ok (.invokevirtual 206, 3) := by decide +kernel
theorem dX4_worst_9 : decode cX4_worst 9 = .ok (.ireturn, 1) := by decide +kernel
theorem dX4_difference_0 : decode cX4_difference 0 = .ok (.aload_n 0, 1) := by decide +kernel
theorem dX4_difference_1 : decode cX4_difference 1 = .ok (.iload_n 1, 1) := by decide +kernel
theorem dX4_difference_2 : decode cX4_difference 2 = .ok (.invokevirtual 47, 3) := by decide +kernel
theorem dX4_difference_5 : decode cX4_difference 5 = .ok (.astore_n 3, 1) := by decide +kernel
theorem dX4_difference_6 : decode cX4_difference 6 = .ok (.aload_n 0, 1) := by decide +kernel
theorem dX4_difference_7 : decode cX4_difference 7 = .ok (.iload_n 2, 1) := by decide +kernel
theorem dX4_difference_8 : decode cX4_difference 8 = .ok (.invokevirtual 47, 3) := by decide +kernel
theorem dX4_difference_11 : decode cX4_difference 11 = .ok (.astore 4, 2) := by decide +kernel
theorem dX4_difference_13 : decode cX4_difference 13 = .ok (.aload_n 0, 1) := by decide +kernel
theorem dX4_difference_14 : decode cX4_difference 14 = .ok (.aload_n 3, 1) := by decide +kernel
theorem dX4_difference_15 : decode cX4_difference 15 = .ok (.invokevirtual 107, 3) := by decide +kernel
theorem dX4_difference_18 : decode cX4_difference 18 = .ok (.astore 5, 2) := by decide +kernel
theorem dX4_difference_20 : decode cX4_difference 20 = .ok (.aload 5, 2) := by decide +kernel
theorem dX4_difference_22 : decode cX4_difference 22 = .ok (.getfield 114, 3) := by decide +kernel
theorem dX4_difference_25 : decode cX4_difference 25 = .ok (.lstore 6, 2) := by decide +kernel
theorem dX4_difference_27 : decode cX4_difference 27 = .ok (.aload 5, 2) := by decide +kernel
theorem dX4_difference_29 : decode cX4_difference 29 = .ok (.getfield 111, 3) := by decide +kernel
theorem dX4_difference_32 : decode cX4_difference 32 = .ok (.lstore 8, 2) := by decide +kernel
theorem dX4_difference_34 : decode cX4_difference 34 = .ok (.aload_n 0, 1) := by decide +kernel
theorem dX4_difference_35 : decode cX4_difference 35 = .ok (.aload 4, 2) := by decide +kernel
theorem dX4_difference_37 : decode cX4_difference 37 = .ok (.invokevirtual 107, 3) := by decide +kernel
theorem dX4_difference_40 : decode cX4_difference 40 = .ok (.astore 5, 2) := by decide +kernel
theorem dX4_difference_42 : decode cX4_difference 42 = .ok (.lload 6, 2) := by decide +kernel
theorem dX4_difference_44 : decode cX4_difference 44 = .ok (.aload 5, 2) := by decide +kernel
theorem dX4_difference_46 : decode cX4_difference 46 = .ok (.getfield 114, 3) := by decide +kernel
theorem dX4_difference_49 : decode cX4_difference 49 = .ok (.land, 1) := by decide +kernel
theorem dX4_difference_50 : decode cX4_difference 50 = .ok (.lload 8, 2) := by decide +kernel
theorem dX4_difference_52 : decode cX4_difference 52 = .ok (.aload 5, 2) := by decide +kernel
theorem dX4_difference_54 : decode cX4_difference 54 = .ok (.getfield 111, 3) := by decide +kernel
theorem dX4_difference_57 : decode cX4_difference 57 = .ok (.lxor, 1) := by decide +kernel
theorem dX4_difference_58 : decode cX4_difference 58 = .ok (.land, 1) := by decide +kernel
theorem dX4_difference_59 : decode cX4_difference 59 = .ok (.invokestatic 93, 3) := by decide +kernel
theorem dX4_difference_62 : decode cX4_difference 62 = .ok (.ireturn, 1) := by decide +kernel
theorem dX4_append_0 : decode cX4_append 0 = .ok (.iload_n 1, 1) := by decide +kernel
theorem dX4_append_1 : decode cX4_append 1 = .ok (.bipush 33, 2) := by decide +kernel
theorem dX4_append_3 : decode cX4_append 3 = .ok (.if_icmp .lt 9, 3) := by decide +kernel
theorem dX4_append_6 : decode cX4_append 6 = .ok (.iload_n 1, 1) := by decide +kernel
theorem dX4_append_7 : decode cX4_append 7 = .ok (.bipush 126, 2) := by decide +kernel
theorem dX4_append_9 : decode cX4_append 9 = .ok (.if_icmp .le 13, 3) := by decide +kernel
theorem dX4_append_12 : decode cX4_append 12 = .ok (.new 55, 3) := by decide +kernel
theorem dX4_append_15 : decode cX4_append 15 = .ok (.dup, 1) := by decide +kernel
theorem dX4_append_16 : decode cX4_append 16 = .ok (.ldc 210, 2) := by decide +kernel
theorem dX4_append_18 : decode cX4_append 18 = .ok (.invokespecial 59, 3) := by decide +kernel
theorem dX4_append_21 : decode cX4_append 21 = .ok (.athrow, 1) := by decide +kernel
theorem dX4_append_22 : decode cX4_append 22 = .ok (.aload_n 0, 1) := by decide +kernel
theorem dX4_append_23 : decode cX4_append 23 = .ok (.getfield 43, 3) := by decide +kernel
theorem dX4_append_26 : decode cX4_append 26 = .ok (.invokevirtual 212, 3) := by decide +kernel
theorem dX4_append_29 : decode cX4_append 29 = .ok (.bipush 60, 2) := by decide +kernel
theorem dX4_append_31 : decode cX4_append 31 = .ok (.if_icmp .lt 13, 3) := by decide +kernel
theorem dX4_append_34 : decode cX4_append 34 = .ok (.new 66, 3) := by decide +kernel
theorem dX4_append_37 : decode cX4_append 37 = .ok (.dup, 1) := by decide +kernel
theorem dX4_append_38 : decode cX4_append 38 = .ok (.ldc 215, 2) := by decide +kernel
theorem dX4_append_40 : decode cX4_append 40 = .ok (.invokespecial 70, 3) := by decide +kernel
theorem dX4_append_43 : decode cX4_append 43 = .ok (.athrow, 1) := by decide +kernel
theorem dX4_append_44 : decode cX4_append 44 = .ok (.aload_n 0, 1) := by decide +kernel
theorem dX4_append_45 : decode cX4_append 45 = .ok (.getfield 43, 3) := by decide +kernel
theorem dX4_append_48 : decode cX4_append 48 = .ok (.iload_n 1, 1) := by decide +kernel
theorem dX4_append_49 : decode cX4_append 49 = .ok (.i2c, 1) := by decide +kernel
theorem dX4_append_50 : decode cX4_append 50 = .ok (.invokevirtual 217, 3) := by decide +kernel
theorem dX4_append_53 : decode cX4_append 53 = .ok (.pop, 1) := by decide +kernel
theorem dX4_append_54 : decode cX4_append 54 = .ok (.aload_n 0, 1) := by decide +kernel
theorem dX4_append_55 : decode cX4_append 55 = .ok (.getfield 43, 3) := by decide +kernel
theorem dX4_append_58 : decode cX4_append 58 = .ok (.invokevirtual 212, 3) := by decide +kernel
theorem dX4_append_61 : decode cX4_append 61 = .ok (.ireturn, 1) := by decide +kernel
theorem dX4_clearText_0 : decode cX4_clearText 0 = .ok (.aload_n 0, 1) := by decide +kernel
theorem dX4_clearText_1 : decode cX4_clearText 1 = .ok (.getfield 43, 3) := by decide +kernel
theorem dX4_clearText_4 : decode cX4_clearText 4 = .ok (.invokevirtual 212, 3) := by decide +kernel
theorem dX4_clearText_7 : decode cX4_clearText 7 = .ok (.istore_n 1, 1) := by decide +kernel
theorem dX4_clearText_8 : decode cX4_clearText 8 = .ok (.aload_n 0, 1) := by decide +kernel
theorem dX4_clearText_9 : decode cX4_clearText 9 = .ok (.getfield 43, 3) := by decide +kernel
theorem dX4_clearText_12 : decode cX4_clearText 12 = .ok (.iconst 0, 1) := by decide +kernel
theorem dX4_clearText_13 : decode cX4_clearText 13 = .ok (.invokevirtual 221, 3) := by decide +kernel
theorem dX4_clearText_16 : decode cX4_clearText 16 = .ok (.iload_n 1, 1) := by decide +kernel
theorem dX4_clearText_17 : decode cX4_clearText 17 = .ok (.ireturn, 1) := by decide +kernel
theorem dX4_firstError_0 : decode cX4_firstError 0 = .ok (.aload_n 0, 1) := by decide +kernel
theorem dX4_firstError_1 : decode cX4_firstError 1 = .ok (.invokevirtual 224, 3) := by decide +kernel
theorem dX4_firstError_4 : decode cX4_firstError 4 = .ok (.ireturn, 1) := by decide +kernel
theorem dX4_run_0 : decode cX4_run 0 = .ok (.aload_n 0, 1) := by decide +kernel
theorem dX4_run_1 : decode cX4_run 1 = .ok (.invokevirtual 224, 3) := by decide +kernel
theorem dX4_run_4 : decode cX4_run 4 = .ok (.aload_n 0, 1) := by decide +kernel
theorem dX4_run_5 : decode cX4_run 5 = .ok (.getfield 43, 3) := by decide +kernel
theorem dX4_run_8 : decode cX4_run 8 = .ok (.invokevirtual 212, 3) := by decide +kernel
theorem dX4_run_11 : decode cX4_run 11 = .ok (.if_icmp .lt 13, 3) := by decide +kernel
theorem dX4_run_14 : decode cX4_run 14 = .ok (.aload_n 0, 1) := by decide +kernel
theorem dX4_run_15 : decode cX4_run 15 = .ok (.getfield 36, 3) := by decide +kernel
theorem dX4_run_18 : decode cX4_run 18 = .ok (.invokevirtual 227, 3) := by decide +kernel
theorem dX4_run_21 : decode cX4_run 21 = .ok (.ifCond .ne 13, 3) := by decide +kernel
theorem dX4_run_24 : decode cX4_run 24 = .ok (.new 55, 3) := by decide +kernel
theorem dX4_run_27 : decode cX4_run 27 = .ok (.dup, 1) := by decide +kernel
theorem dX4_run_28 : decode cX4_run 28 = .ok (.ldc 230, 2) := by decide +kernel
theorem dX4_run_30 : decode cX4_run 30 = .ok (.invokespecial 59, 3) := by decide +kernel
theorem dX4_run_33 : decode cX4_run 33 = .ok (.athrow, 1) := by decide +kernel
theorem dX4_run_34 : decode cX4_run 34 = .ok (.aload_n 0, 1) := by decide +kernel
theorem dX4_run_35 : decode cX4_run 35 = .ok (.getfield 29, 3) := by decide +kernel
theorem dX4_run_38 : decode cX4_run 38 = .ok (.aload_n 0, 1) := by decide +kernel
theorem dX4_run_39 : decode cX4_run 39 = .ok (.getfield 11, 3) := by decide +kernel
theorem dX4_run_42 : decode cX4_run 42 = .ok (.invokevirtual 71, 3) := by decide +kernel
theorem dX4_run_45 : decode cX4_run 45 = .ok (.aload_n 0, 1) := by decide +kernel
theorem dX4_run_46 : decode cX4_run 46 = .ok (.aload_n 0, 1) := by decide +kernel
theorem dX4_run_47 : decode cX4_run 47 = .ok (.iconst 0, 1) := by decide +kernel
theorem dX4_run_48 : decode cX4_run 48 = .ok (.invokevirtual 47, 3) := by decide +kernel
theorem dX4_run_51 : decode cX4_run 51 = .ok (.invokevirtual 232, 3) := by decide +kernel
theorem dX4_run_54 : decode cX4_run 54 = .ok (.istore_n 1, 1) := by decide +kernel
theorem dX4_run_55 : decode cX4_run 55 = .ok (.aload_n 0, 1) := by decide +kernel
theorem dX4_run_56 : decode cX4_run 56 = .ok (.getfield 43, 3) := by decide +kernel
theorem dX4_run_59 : decode cX4_run 59 = .ok (.iconst 0, 1) := by decide +kernel
theorem dX4_run_60 : decode cX4_run 60 = .ok (.invokevirtual 221, 3) := by decide +kernel
theorem dX4_run_63 : decode cX4_run 63 = .ok (.iload_n 1, 1) := by decide +kernel
theorem dX4_run_64 : decode cX4_run 64 = .ok (.ireturn, 1) := by decide +kernel
theorem dX4_undo_0 : decode cX4_undo 0 = .ok (.aload_n 0, 1) := by decide +kernel
theorem dX4_undo_1 : decode cX4_undo 1 = .ok (.getfield 29, 3) := by decide +kernel
theorem dX4_undo_4 : decode cX4_undo 4 = .ok (.aload_n 0, 1) := by decide +kernel
theorem dX4_undo_5 : decode cX4_undo 5 = .ok (.getfield 11, 3) := by decide +kernel
theorem dX4_undo_8 : decode cX4_undo 8 = .ok (.invokevirtual 235, 3) := by decide +kernel
theorem dX4_undo_11 : decode cX4_undo 11 = .ok (.ifCond .ne 13, 3) := by decide +kernel
theorem dX4_undo_14 : decode cX4_undo 14 = .ok (.new 66, 3) := by decide +kernel
theorem dX4_undo_17 : decode cX4_undo 17 = .ok (.dup, 1) := by decide +kernel
theorem dX4_undo_18 : decode cX4_undo 18 = .ok (.ldc 239, 2) := by decide +kernel
theorem dX4_undo_20 : decode cX4_undo 20 = .ok (.invokespecial 70, 3) := by decide +kernel
theorem dX4_undo_23 : decode cX4_undo 23 = .ok (.athrow, 1) := by decide +kernel
theorem dX4_undo_24 : decode cX4_undo 24 = .ok (.aload_n 0, 1) := by decide +kernel
theorem dX4_undo_25 : decode cX4_undo 25 = .ok (.getfield 29, 3) := by decide +kernel
theorem dX4_undo_28 : decode cX4_undo 28 = .ok (.getfield 241, 3) := by decide +kernel
theorem dX4_undo_31 : decode cX4_undo 31 = .ok (.ireturn, 1) := by decide +kernel
theorem dX4_savedStates_0 : decode cX4_savedStates 0 = .ok (.aload_n 0, 1) := by decide +kernel
theorem dX4_savedStates_1 : decode cX4_savedStates 1 = .ok (.getfield 29, 3) := by decide +kernel
theorem dX4_savedStates_4 : decode cX4_savedStates 4 = .ok (.getfield 241, 3) := by decide +kernel
theorem dX4_savedStates_7 : decode cX4_savedStates 7 = .ok (.ireturn, 1) := by decide +kernel
theorem dX4_digest_0 : decode cX4_digest 0 = .ok (.ldc2_w 244, 3) := by decide +kernel
theorem dX4_digest_3 : decode cX4_digest 3 = .ok (.lstore_n 1, 1) := by decide +kernel
theorem dX4_digest_4 : decode cX4_digest 4 = .ok (.iconst 0, 1) := by decide +kernel
theorem dX4_digest_5 : decode cX4_digest 5 = .ok (.istore_n 3, 1) := by decide +kernel
theorem dX4_digest_6 : decode cX4_digest 6 = .ok (.iload_n 3, 1) := by decide +kernel
theorem dX4_digest_7 : decode cX4_digest 7 = .ok (.aload_n 0, 1) := by decide +kernel
theorem dX4_digest_8 : decode cX4_digest 8 = .ok (.getfield 11, 3) := by decide +kernel
theorem dX4_digest_11 : decode cX4_digest 11 = .ok (.arraylength, 1) := by decide +kernel
theorem dX4_digest_12 : decode cX4_digest 12 = .ok (.if_icmp .ge 91, 3) := by decide +kernel
theorem dX4_digest_15 : decode cX4_digest 15 = .ok (.aload_n 0, 1) := by decide +kernel
theorem dX4_digest_16 : decode cX4_digest 16 = .ok (.getfield 11, 3) := by decide +kernel
theorem dX4_digest_19 : decode cX4_digest 19 = .ok (.iload_n 3, 1) := by decide +kernel
theorem dX4_digest_20 : decode cX4_digest 20 = .ok (.aaload, 1) := by decide +kernel
theorem dX4_digest_21 : decode cX4_digest 21 = .ok (.astore 4, 2) := by decide +kernel
theorem dX4_digest_23 : decode cX4_digest 23 = .ok (.aload_n 0, 1) := by decide +kernel
theorem dX4_digest_24 : decode cX4_digest 24 = .ok (.aload 4, 2) := by decide +kernel
theorem dX4_digest_26 : decode cX4_digest 26 = .ok (.invokevirtual 107, 3) := by decide +kernel
theorem dX4_digest_29 : decode cX4_digest 29 = .ok (.astore 5, 2) := by decide +kernel
theorem dX4_digest_31 : decode cX4_digest 31 = .ok (.lload_n 1, 1) := by decide +kernel
theorem dX4_digest_32 : decode cX4_digest 32 = .ok (.aload 4, 2) := by decide +kernel
theorem dX4_digest_34 : decode cX4_digest 34 = .ok (.getfield 151, 3) := by decide +kernel
theorem dX4_digest_37 : decode cX4_digest 37 = .ok (.invokestatic 246, 3) := by decide +kernel
theorem dX4_digest_40 : decode cX4_digest 40 = .ok (.lstore_n 1, 1) := by decide +kernel
theorem dX4_digest_41 : decode cX4_digest 41 = .ok (.lload_n 1, 1) := by decide +kernel
theorem dX4_digest_42 : decode cX4_digest 42 = .ok (.aload 4, 2) := by decide +kernel
theorem dX4_digest_44 : decode cX4_digest 44 = .ok (.invokestatic 250, 3) := by decide +kernel
theorem dX4_digest_47 : decode cX4_digest 47 = .ok (.lstore_n 1, 1) := by decide +kernel
theorem dX4_digest_48 : decode cX4_digest 48 = .ok (.lload_n 1, 1) := by decide +kernel
theorem dX4_digest_49 : decode cX4_digest 49 = .ok (.aload 5, 2) := by decide +kernel
theorem dX4_digest_51 : decode cX4_digest 51 = .ok (.invokevirtual 189, 3) := by decide +kernel
theorem dX4_digest_54 : decode cX4_digest 54 = .ok (.invokestatic 246, 3) := by decide +kernel
theorem dX4_digest_57 : decode cX4_digest 57 = .ok (.lstore_n 1, 1) := by decide +kernel
theorem dX4_digest_58 : decode cX4_digest 58 = .ok (.lload_n 1, 1) := by decide +kernel
theorem dX4_digest_59 : decode cX4_digest 59 = .ok (.aload 5, 2) := by decide +kernel
theorem dX4_digest_61 : decode cX4_digest 61 = .ok (.invokevirtual 192, 3) := by decide +kernel
theorem dX4_digest_64 : decode cX4_digest 64 = .ok (.invokestatic 246, 3) := by decide +kernel
theorem dX4_digest_67 : decode cX4_digest 67 = .ok (.lstore_n 1, 1) := by decide +kernel
theorem dX4_digest_68 : decode cX4_digest 68 = .ok (.lload_n 1, 1) := by decide +kernel
theorem dX4_digest_69 : decode cX4_digest 69 = .ok (.aload_n 0, 1) := by decide +kernel
theorem dX4_digest_70 : decode cX4_digest 70 = .ok (.aload 4, 2) := by decide +kernel
theorem dX4_digest_72 : decode cX4_digest 72 = .ok (.invokevirtual 206, 3) := by decide +kernel
theorem dX4_digest_75 : decode cX4_digest 75 = .ok (.invokestatic 246, 3) := by decide +kernel
theorem dX4_digest_78 : decode cX4_digest 78 = .ok (.lstore_n 1, 1) := by decide +kernel
theorem dX4_digest_79 : decode cX4_digest 79 = .ok (.lload_n 1, 1) := by decide +kernel
theorem dX4_digest_80 : decode cX4_digest 80 = .ok (.aload 4, 2) := by decide +kernel
theorem dX4_digest_82 : decode cX4_digest 82 = .ok (.aload 5, 2) := by decide +kernel
theorem dX4_digest_84 : decode cX4_digest 84 = .ok (.invokestatic 254, 3) := by decide +kernel
theorem dX4_digest_87 : decode cX4_digest 87 = .ok (.lstore_n 1, 1) := by decide +kernel
theorem dX4_digest_88 : decode cX4_digest 88 = .ok (.lload_n 1, 1) := by decide +kernel
theorem dX4_digest_89 : decode cX4_digest 89 = .ok (.aload 4, 2) := by decide +kernel
theorem dX4_digest_91 : decode cX4_digest 91 = .ok (.aload 5, 2) := by decide +kernel
theorem dX4_digest_93 : decode cX4_digest 93 = .ok (.invokestatic 258, 3) := by decide +kernel
theorem dX4_digest_96 : decode cX4_digest 96 = .ok (.lstore_n 1, 1) := by decide +kernel
theorem dX4_digest_97 : decode cX4_digest 97 = .ok (.iinc 3 1, 3) := by decide +kernel
theorem dX4_digest_100 : decode cX4_digest 100 = .ok (.goto (-94), 3) := by decide +kernel
theorem dX4_digest_103 : decode cX4_digest 103 = .ok (.lload_n 1, 1) := by decide +kernel
theorem dX4_digest_104 : decode cX4_digest 104 = .ok (.lreturn, 1) := by decide +kernel
theorem dX4_mixed_0 : decode cX4_mixed 0 = .ok (.ldc2_w 261, 3) := by decide +kernel
theorem dX4_mixed_3 : decode cX4_mixed 3 = .ok (.lload_n 0, 1) := by decide +kernel
theorem dX4_mixed_4 : decode cX4_mixed 4 = .ok (.lmul, 1) := by decide +kernel
theorem dX4_mixed_5 : decode cX4_mixed 5 = .ok (.iload_n 2, 1) := by decide +kernel
theorem dX4_mixed_6 : decode cX4_mixed 6 = .ok (.i2l, 1) := by decide +kernel
theorem dX4_mixed_7 : decode cX4_mixed 7 = .ok (.ladd, 1) := by decide +kernel
theorem dX4_mixed_8 : decode cX4_mixed 8 = .ok (.lreturn, 1) := by decide +kernel
theorem dX4_mixedWithCounts_0 : decode cX4_mixedWithCounts 0 = .ok (.lload_n 0, 1) := by decide +kernel
theorem dX4_mixedWithCounts_1 : decode cX4_mixedWithCounts 1 = .ok (.lstore_n 3, 1) := by decide +kernel
theorem dX4_mixedWithCounts_2 : decode cX4_mixedWithCounts 2 = .ok (.iconst 0, 1) := by decide +kernel
theorem dX4_mixedWithCounts_3 : decode cX4_mixedWithCounts 3 = .ok (.istore 5, 2) := by decide +kernel
theorem dX4_mixedWithCounts_5 : decode cX4_mixedWithCounts 5 = .ok (.iload 5, 2) := by decide +kernel
theorem dX4_mixedWithCounts_7 : decode cX4_mixedWithCounts 7 = .ok (.iconst 4, 1) := by decide +kernel
theorem dX4_mixedWithCounts_8 : decode cX4_mixedWithCounts 8 = .ok (.if_icmp .ge 23, 3) := by decide +kernel
theorem dX4_mixedWithCounts_11 : decode cX4_mixedWithCounts 11 = .ok (.lload_n 3, 1) := by decide +kernel
theorem dX4_mixedWithCounts_12 : decode cX4_mixedWithCounts 12 = .ok (.aload_n 2, 1) := by decide +kernel
theorem dX4_mixedWithCounts_13 : decode cX4_mixedWithCounts 13 = .ok (.iload 5, 2) := by decide +kernel
theorem dX4_mixedWithCounts_15 : decode cX4_mixedWithCounts 15 = .ok (.invokevirtual 176, 3) := by decide +kernel
theorem dX4_mixedWithCounts_18 : decode cX4_mixedWithCounts 18 = .ok (.invokestatic 93, 3) := by decide +kernel
theorem dX4_mixedWithCounts_21 : decode cX4_mixedWithCounts 21 = .ok (.invokestatic 246, 3) := by decide +kernel
theorem dX4_mixedWithCounts_24 : decode cX4_mixedWithCounts 24 = .ok (.lstore_n 3, 1) := by decide +kernel
theorem dX4_mixedWithCounts_25 : decode cX4_mixedWithCounts 25 = .ok (.iinc 5 1, 3) := by decide +kernel
theorem dX4_mixedWithCounts_28 : decode cX4_mixedWithCounts 28 = .ok (.goto (-23), 3) := by decide +kernel
theorem dX4_mixedWithCounts_31 : decode cX4_mixedWithCounts 31 = .ok (.lload_n 3, 1) := by decide +kernel
theorem dX4_mixedWithCounts_32 : decode cX4_mixedWithCounts 32 = .ok (.lreturn, 1) := by decide +kernel
theorem dX4_mixedWithRows_0 : decode cX4_mixedWithRows 0 = .ok (.lload_n 0, 1) := by decide +kernel
theorem dX4_mixedWithRows_1 : decode cX4_mixedWithRows 1 = .ok (.lstore 4, 2) := by decide +kernel
theorem dX4_mixedWithRows_3 : decode cX4_mixedWithRows 3 = .ok (.iconst 0, 1) := by decide +kernel
theorem dX4_mixedWithRows_4 : decode cX4_mixedWithRows 4 = .ok (.istore 6, 2) := by decide +kernel
theorem dX4_mixedWithRows_6 : decode cX4_mixedWithRows 6 = .ok (.iload 6, 2) := by decide +kernel
theorem dX4_mixedWithRows_8 : decode cX4_mixedWithRows 8 = .ok (.bipush 8, 2) := by decide +kernel
theorem dX4_mixedWithRows_10 : decode cX4_mixedWithRows 10 = .ok (.if_icmp .ge 22, 3) := by decide +kernel
theorem dX4_mixedWithRows_13 : decode cX4_mixedWithRows 13 = .ok (.lload 4, 2) := by decide +kernel
theorem dX4_mixedWithRows_15 : decode cX4_mixedWithRows 15 = .ok (.aload_n 2, 1) := by decide +kernel
theorem dX4_mixedWithRows_16 : decode cX4_mixedWithRows 16 = .ok (.iload 6, 2) := by decide +kernel
theorem dX4_mixedWithRows_18 : decode cX4_mixedWithRows 18 = .ok (.invokevirtual 162, 3) := by decide +kernel
theorem dX4_mixedWithRows_21 : decode cX4_mixedWithRows 21 = .ok (.invokestatic 246, 3) := by decide +kernel
theorem dX4_mixedWithRows_24 : decode cX4_mixedWithRows 24 = .ok (.lstore 4, 2) := by decide +kernel
theorem dX4_mixedWithRows_26 : decode cX4_mixedWithRows 26 = .ok (.iinc 6 1, 3) := by decide +kernel
theorem dX4_mixedWithRows_29 : decode cX4_mixedWithRows 29 = .ok (.goto (-23), 3) := by decide +kernel
theorem dX4_mixedWithRows_32 : decode cX4_mixedWithRows 32 = .ok (.iconst 0, 1) := by decide +kernel
theorem dX4_mixedWithRows_33 : decode cX4_mixedWithRows 33 = .ok (.istore 6, 2) := by decide +kernel
theorem dX4_mixedWithRows_35 : decode cX4_mixedWithRows 35 = .ok (.iload 6, 2) := by decide +kernel
theorem dX4_mixedWithRows_37 : decode cX4_mixedWithRows 37 = .ok (.bipush 7, 2) := by decide +kernel
theorem dX4_mixedWithRows_39 : decode cX4_mixedWithRows 39 = .ok (.if_icmp .ge 49, 3) := by decide +kernel
theorem dX4_mixedWithRows_42 : decode cX4_mixedWithRows 42 = .ok (.lload 4, 2) := by decide +kernel
theorem dX4_mixedWithRows_44 : decode cX4_mixedWithRows 44 = .ok (.aload_n 2, 1) := by decide +kernel
theorem dX4_mixedWithRows_45 : decode cX4_mixedWithRows 45 = .ok (.invokevirtual 180, 3) := by decide +kernel
theorem dX4_mixedWithRows_48 : decode cX4_mixedWithRows 48 = .ok (.aload_n 2, 1) := by decide +kernel
theorem dX4_mixedWithRows_49 : decode cX4_mixedWithRows 49 = .ok (.invokevirtual 183, 3) := by decide +kernel
theorem dX4_mixedWithRows_52 : decode cX4_mixedWithRows 52 = .ok (.iload 6, 2) := by decide +kernel
theorem dX4_mixedWithRows_54 : decode cX4_mixedWithRows 54 = .ok (.invokestatic 185, 3) := by decide +kernel
theorem dX4_mixedWithRows_57 : decode cX4_mixedWithRows 57 = .ok (.invokestatic 246, 3) := by decide +kernel
theorem dX4_mixedWithRows_60 : decode cX4_mixedWithRows 60 = .ok (.lstore 4, 2) := by decide +kernel
theorem dX4_mixedWithRows_62 : decode cX4_mixedWithRows 62 = .ok (.lload 4, 2) := by decide +kernel
theorem dX4_mixedWithRows_64 : decode cX4_mixedWithRows 64 = .ok (.aload_n 3, 1) := by decide +kernel
theorem dX4_mixedWithRows_65 : decode cX4_mixedWithRows 65 = .ok (.getfield 114, 3) := by decide +kernel
theorem dX4_mixedWithRows_68 : decode cX4_mixedWithRows 68 = .ok (.aload_n 3, 1) := by decide +kernel
theorem dX4_mixedWithRows_69 : decode cX4_mixedWithRows 69 = .ok (.getfield 111, 3) := by decide +kernel
theorem dX4_mixedWithRows_72 : decode cX4_mixedWithRows 72 = .ok (.iload 6, 2) := by decide +kernel
theorem dX4_mixedWithRows_74 : decode cX4_mixedWithRows 74 = .ok (.invokestatic 185, 3) := by decide +kernel
theorem dX4_mixedWithRows_77 : decode cX4_mixedWithRows 77 = .ok (.invokestatic 246, 3) := by decide +kernel
theorem dX4_mixedWithRows_80 : decode cX4_mixedWithRows 80 = .ok (.lstore 4, 2) := by decide +kernel
theorem dX4_mixedWithRows_82 : decode cX4_mixedWithRows 82 = .ok (.iinc 6 1, 3) := by decide +kernel
theorem dX4_mixedWithRows_85 : decode cX4_mixedWithRows 85 = .ok (.goto (-50), 3) := by decide +kernel
theorem dX4_mixedWithRows_88 : decode cX4_mixedWithRows 88 = .ok (.lload 4, 2) := by decide +kernel
theorem dX4_mixedWithRows_90 : decode cX4_mixedWithRows 90 = .ok (.lreturn, 1) := by decide +kernel
theorem dX4_mixedWithCells_0 : decode cX4_mixedWithCells 0 = .ok (.lload_n 0, 1) := by decide +kernel
theorem dX4_mixedWithCells_1 : decode cX4_mixedWithCells 1 = .ok (.lstore 4, 2) := by decide +kernel
theorem dX4_mixedWithCells_3 : decode cX4_mixedWithCells 3 = .ok (.iconst 0, 1) := by decide +kernel
theorem dX4_mixedWithCells_4 : decode cX4_mixedWithCells 4 = .ok (.istore 6, 2) := by decide +kernel
theorem dX4_mixedWithCells_6 : decode cX4_mixedWithCells 6 = .ok (.iload 6, 2) := by decide +kernel
theorem dX4_mixedWithCells_8 : decode cX4_mixedWithCells 8 = .ok (.bipush 64, 2) := by decide +kernel
theorem dX4_mixedWithCells_10 : decode cX4_mixedWithCells 10 = .ok (.if_icmp .ge 35, 3) := by decide +kernel
theorem dX4_mixedWithCells_13 : decode cX4_mixedWithCells 13 = .ok (.lload 4, 2) := by decide +kernel
theorem dX4_mixedWithCells_15 : decode cX4_mixedWithCells 15 = .ok (.aload_n 2, 1) := by decide +kernel
theorem dX4_mixedWithCells_16 : decode cX4_mixedWithCells 16 = .ok (.iload 6, 2) := by decide +kernel
theorem dX4_mixedWithCells_18 : decode cX4_mixedWithCells 18 = .ok (.invokevirtual 143, 3) := by decide +kernel
theorem dX4_mixedWithCells_21 : decode cX4_mixedWithCells 21 = .ok (.invokestatic 246, 3) := by decide +kernel
theorem dX4_mixedWithCells_24 : decode cX4_mixedWithCells 24 = .ok (.lstore 4, 2) := by decide +kernel
theorem dX4_mixedWithCells_26 : decode cX4_mixedWithCells 26 = .ok (.lload 4, 2) := by decide +kernel
theorem dX4_mixedWithCells_28 : decode cX4_mixedWithCells 28 = .ok (.aload_n 3, 1) := by decide +kernel
theorem dX4_mixedWithCells_29 : decode cX4_mixedWithCells 29 = .ok (.iload 6, 2) := by decide +kernel
theorem dX4_mixedWithCells_31 : decode cX4_mixedWithCells 31 = .ok (.invokevirtual 168, 3) := by decide +kernel
theorem dX4_mixedWithCells_34 : decode cX4_mixedWithCells 34 = .ok (.invokestatic 246, 3) := by decide +kernel
theorem dX4_mixedWithCells_37 : decode cX4_mixedWithCells 37 = .ok (.lstore 4, 2) := by decide +kernel
theorem dX4_mixedWithCells_39 : decode cX4_mixedWithCells 39 = .ok (.iinc 6 1, 3) := by decide +kernel
theorem dX4_mixedWithCells_42 : decode cX4_mixedWithCells 42 = .ok (.goto (-36), 3) := by decide +kernel
theorem dX4_mixedWithCells_45 : decode cX4_mixedWithCells 45 = .ok (.lload 4, 2) := by decide +kernel
theorem dX4_mixedWithCells_47 : decode cX4_mixedWithCells 47 = .ok (.lreturn, 1) := by decide +kernel
theorem dX4_cardAt_0 : decode cX4_cardAt 0 = .ok (.iload_n 1, 1) := by decide +kernel
theorem dX4_cardAt_1 : decode cX4_cardAt 1 = .ok (.ifCond .lt 12, 3) := by decide +kernel
theorem dX4_cardAt_4 : decode cX4_cardAt 4 = .ok (.iload_n 1, 1) := by decide +kernel
theorem dX4_cardAt_5 : decode cX4_cardAt 5 = .ok (.aload_n 0, 1) := by decide +kernel
theorem dX4_cardAt_6 : decode cX4_cardAt 6 = .ok (.getfield 11, 3) := by decide +kernel
theorem dX4_cardAt_9 : decode cX4_cardAt 9 = .ok (.arraylength, 1) := by decide +kernel
theorem dX4_cardAt_10 : decode cX4_cardAt 10 = .ok (.if_icmp .lt 14, 3) := by decide +kernel
theorem dX4_cardAt_13 : decode cX4_cardAt 13 = .ok (.new 171, 3) := by decide +kernel
theorem dX4_cardAt_16 : decode cX4_cardAt 16 = .ok (.dup, 1) := by decide +kernel
theorem dX4_cardAt_17 : decode cX4_cardAt 17 = .ok (.ldc_w 263, 3) := by decide +kernel
theorem dX4_cardAt_20 : decode cX4_cardAt 20 = .ok (.invokespecial 175, 3) := by decide +kernel
theorem dX4_cardAt_23 : decode cX4_cardAt 23 = .ok (.athrow, 1) := by decide +kernel
theorem dX4_cardAt_24 : decode cX4_cardAt 24 = .ok (.aload_n 0, 1) := by decide +kernel
theorem dX4_cardAt_25 : decode cX4_cardAt 25 = .ok (.getfield 11, 3) := by decide +kernel
theorem dX4_cardAt_28 : decode cX4_cardAt 28 = .ok (.iload_n 1, 1) := by decide +kernel
theorem dX4_cardAt_29 : decode cX4_cardAt 29 = .ok (.aaload, 1) := by decide +kernel
theorem dX4_cardAt_30 : decode cX4_cardAt 30 = .ok (.areturn, 1) := by decide +kernel
theorem dX4_tellingOf_0 : decode cX4_tellingOf 0 = .ok (.aload_n 0, 1) := by decide +kernel
theorem dX4_tellingOf_1 : decode cX4_tellingOf 1 = .ok (.getfield 19, 3) := by decide +kernel
theorem dX4_tellingOf_4 : decode cX4_tellingOf 4 = .ok (.aload_n 1, 1) := by decide +kernel
theorem dX4_tellingOf_5 : decode cX4_tellingOf 5 = .ok (.invokevirtual 180, 3) := by decide +kernel
theorem dX4_tellingOf_8 : decode cX4_tellingOf 8 = .ok (.aload_n 1, 1) := by decide +kernel
theorem dX4_tellingOf_9 : decode cX4_tellingOf 9 = .ok (.invokevirtual 183, 3) := by decide +kernel
theorem dX4_tellingOf_12 : decode cX4_tellingOf 12 = .ok (.invokevirtual 265, 3) := by decide +kernel
theorem dX4_tellingOf_15 : decode cX4_tellingOf 15 = .ok (.aload_n 0, 1) := by decide +kernel
theorem dX4_tellingOf_16 : decode cX4_tellingOf 16 = .ok (.getfield 19, 3) := by decide +kernel
theorem dX4_tellingOf_19 : decode cX4_tellingOf 19 = .ok (.areturn, 1) := by decide +kernel
theorem dX4_requireInSide_0 : decode cX4_requireInSide 0 = .ok (.iload_n 0, 1) := by decide +kernel
theorem dX4_requireInSide_1 : decode cX4_requireInSide 1 = .ok (.ifCond .lt 9, 3) := by decide +kernel
theorem dX4_requireInSide_4 : decode cX4_requireInSide 4 = .ok (.iload_n 0, 1) := by decide +kernel
theorem dX4_requireInSide_5 : decode cX4_requireInSide 5 = .ok (.bipush 8, 2) := by decide +kernel
theorem dX4_requireInSide_7 : decode cX4_requireInSide 7 = .ok (.if_icmp .lt 14, 3) := by decide +kernel
theorem dX4_requireInSide_10 : decode cX4_requireInSide 10 = .ok (.new 171, 3) := by decide +kernel
theorem dX4_requireInSide_13 : decode cX4_requireInSide 13 = .ok (.dup, 1) := by decide +kernel
theorem dX4_requireInSide_14 : decode cX4_requireInSide 14 = .ok (.ldc_w 269, 3) := by decide +kernel
theorem dX4_requireInSide_17 : decode cX4_requireInSide 17 = .ok (.invokespecial 175, 3) := by decide +kernel
theorem dX4_requireInSide_20 : decode cX4_requireInSide 20 = .ok (.athrow, 1) := by decide +kernel
theorem dX4_requireInSide_21 : decode cX4_requireInSide 21 = .ok (.return_, 1) := by decide +kernel
theorem dX4_requireCell_0 : decode cX4_requireCell 0 = .ok (.iload_n 0, 1) := by decide +kernel
theorem dX4_requireCell_1 : decode cX4_requireCell 1 = .ok (.invokestatic 159, 3) := by decide +kernel
theorem dX4_requireCell_4 : decode cX4_requireCell 4 = .ok (.iload_n 1, 1) := by decide +kernel
theorem dX4_requireCell_5 : decode cX4_requireCell 5 = .ok (.invokestatic 159, 3) := by decide +kernel
theorem dX4_requireCell_8 : decode cX4_requireCell 8 = .ok (.return_, 1) := by decide +kernel
theorem dX4_requireRowWithValue_0 : decode cX4_requireRowWithValue 0 = .ok (.iload_n 0, 1) := by decide +kernel
theorem dX4_requireRowWithValue_1 : decode cX4_requireRowWithValue 1 = .ok (.ifCond .lt 9, 3) := by decide +kernel
theorem dX4_requireRowWithValue_4 : decode cX4_requireRowWithValue 4 = .ok (.iload_n 0, 1) := by decide +kernel
theorem dX4_requireRowWithValue_5 : decode cX4_requireRowWithValue 5 = .ok (.bipush 7, 2) := by decide +kernel
theorem dX4_requireRowWithValue_7 : decode cX4_requireRowWithValue 7 = .ok (.if_icmp .lt 14, 3) := by decide +kernel
theorem dX4_requireRowWithValue_10 : decode cX4_requireRowWithValue 10 = .ok (.new 171, 3) := by decide +kernel
theorem dX4_requireRowWithValue_13 : decode cX4_requireRowWithValue 13 = .ok (.dup, 1) := by decide +kernel
theorem dX4_requireRowWithValue_14 : decode cX4_requireRowWithValue 14 = .ok (.ldc_w 271, 3) := by decide +kernel
theorem dX4_requireRowWithValue_17 : decode cX4_requireRowWithValue 17 = .ok (.invokespecial 175, 3) := by decide +kernel
theorem dX4_requireRowWithValue_20 : decode cX4_requireRowWithValue 20 = .ok (.athrow, 1) := by decide +kernel
theorem dX4_requireRowWithValue_21 : decode cX4_requireRowWithValue 21 = .ok (.return_, 1) := by decide +kernel
theorem dX4_cellNumber_0 : decode cX4_cellNumber 0 = .ok (.bipush 8, 2) := by decide +kernel
theorem dX4_cellNumber_2 : decode cX4_cellNumber 2 = .ok (.iload_n 0, 1) := by decide +kernel
theorem dX4_cellNumber_3 : decode cX4_cellNumber 3 = .ok (.imul, 1) := by decide +kernel
theorem dX4_cellNumber_4 : decode cX4_cellNumber 4 = .ok (.iload_n 1, 1) := by decide +kernel
theorem dX4_cellNumber_5 : decode cX4_cellNumber 5 = .ok (.iadd, 1) := by decide +kernel
theorem dX4_cellNumber_6 : decode cX4_cellNumber 6 = .ok (.ireturn, 1) := by decide +kernel
theorem dX4_isIn_0 : decode cX4_isIn 0 = .ok (.lload_n 0, 1) := by decide +kernel
theorem dX4_isIn_1 : decode cX4_isIn 1 = .ok (.iload_n 2, 1) := by decide +kernel
theorem dX4_isIn_2 : decode cX4_isIn 2 = .ok (.lushr, 1) := by decide +kernel
theorem dX4_isIn_3 : decode cX4_isIn 3 = .ok (.lconst 1, 1) := by decide +kernel
theorem dX4_isIn_4 : decode cX4_isIn 4 = .ok (.land, 1) := by decide +kernel
theorem dX4_isIn_5 : decode cX4_isIn 5 = .ok (.lconst 0, 1) := by decide +kernel
theorem dX4_isIn_6 : decode cX4_isIn 6 = .ok (.lcmp, 1) := by decide +kernel
theorem dX4_isIn_7 : decode cX4_isIn 7 = .ok (.ifCond .eq 7, 3) := by decide +kernel
theorem dX4_isIn_10 : decode cX4_isIn 10 = .ok (.iconst 1, 1) := by decide +kernel
theorem dX4_isIn_11 : decode cX4_isIn 11 = .ok (.goto 4, 3) := by decide +kernel
theorem dX4_isIn_14 : decode cX4_isIn 14 = .ok (.iconst 0, 1) := by decide +kernel
theorem dX4_isIn_15 : decode cX4_isIn 15 = .ok (.ireturn, 1) := by decide +kernel
theorem dX4_isOdd_0 : decode cX4_isOdd 0 = .ok (.lload_n 0, 1) := by decide +kernel
theorem dX4_isOdd_1 : decode cX4_isOdd 1 = .ok (.invokestatic 93, 3) := by decide +kernel
theorem dX4_isOdd_4 : decode cX4_isOdd 4 = .ok (.iconst 1, 1) := by decide +kernel
theorem dX4_isOdd_5 : decode cX4_isOdd 5 = .ok (.iand, 1) := by decide +kernel
theorem dX4_isOdd_6 : decode cX4_isOdd 6 = .ok (.iconst 1, 1) := by decide +kernel
theorem dX4_isOdd_7 : decode cX4_isOdd 7 = .ok (.if_icmp .ne 7, 3) := by decide +kernel
theorem dX4_isOdd_10 : decode cX4_isOdd 10 = .ok (.iconst 1, 1) := by decide +kernel
theorem dX4_isOdd_11 : decode cX4_isOdd 11 = .ok (.goto 4, 3) := by decide +kernel
theorem dX4_isOdd_14 : decode cX4_isOdd 14 = .ok (.iconst 0, 1) := by decide +kernel
theorem dX4_isOdd_15 : decode cX4_isOdd 15 = .ok (.ireturn, 1) := by decide +kernel
theorem dX4_rowCells_0 : decode cX4_rowCells 0 = .ok (.ldc2_w 273, 3) := by decide +kernel
theorem dX4_rowCells_3 : decode cX4_rowCells 3 = .ok (.bipush 8, 2) := by decide +kernel
theorem dX4_rowCells_5 : decode cX4_rowCells 5 = .ok (.iload_n 0, 1) := by decide +kernel
theorem dX4_rowCells_6 : decode cX4_rowCells 6 = .ok (.imul, 1) := by decide +kernel
theorem dX4_rowCells_7 : decode cX4_rowCells 7 = .ok (.lshl, 1) := by decide +kernel
theorem dX4_rowCells_8 : decode cX4_rowCells 8 = .ok (.lreturn, 1) := by decide +kernel
theorem dX4_columnCells_0 : decode cX4_columnCells 0 = .ok (.ldc2_w 275, 3) := by decide +kernel
theorem dX4_columnCells_3 : decode cX4_columnCells 3 = .ok (.iload_n 0, 1) := by decide +kernel
theorem dX4_columnCells_4 : decode cX4_columnCells 4 = .ok (.lshl, 1) := by decide +kernel
theorem dX4_columnCells_5 : decode cX4_columnCells 5 = .ok (.lreturn, 1) := by decide +kernel
theorem dX4_rowValue_0 : decode cX4_rowValue 0 = .ok (.iconst 0, 1) := by decide +kernel
theorem dX4_rowValue_1 : decode cX4_rowValue 1 = .ok (.istore 5, 2) := by decide +kernel
theorem dX4_rowValue_3 : decode cX4_rowValue 3 = .ok (.iconst 0, 1) := by decide +kernel
theorem dX4_rowValue_4 : decode cX4_rowValue 4 = .ok (.istore 6, 2) := by decide +kernel
theorem dX4_rowValue_6 : decode cX4_rowValue 6 = .ok (.iload 6, 2) := by decide +kernel
theorem dX4_rowValue_8 : decode cX4_rowValue 8 = .ok (.bipush 7, 2) := by decide +kernel
theorem dX4_rowValue_10 : decode cX4_rowValue 10 = .ok (.if_icmp .ge 50, 3) := by decide +kernel
theorem dX4_rowValue_13 : decode cX4_rowValue 13 = .ok (.iload 4, 2) := by decide +kernel
theorem dX4_rowValue_15 : decode cX4_rowValue 15 = .ok (.iload 6, 2) := by decide +kernel
theorem dX4_rowValue_17 : decode cX4_rowValue 17 = .ok (.invokestatic 165, 3) := by decide +kernel
theorem dX4_rowValue_20 : decode cX4_rowValue 20 = .ok (.istore 7, 2) := by decide +kernel
theorem dX4_rowValue_22 : decode cX4_rowValue 22 = .ok (.lload_n 0, 1) := by decide +kernel
theorem dX4_rowValue_23 : decode cX4_rowValue 23 = .ok (.iload 7, 2) := by decide +kernel
theorem dX4_rowValue_25 : decode cX4_rowValue 25 = .ok (.invokestatic 277, 3) := by decide +kernel
theorem dX4_rowValue_28 : decode cX4_rowValue 28 = .ok (.ifCond .ne 5, 3) := by decide +kernel
theorem dX4_rowValue_31 : decode cX4_rowValue 31 = .ok (.iconst (-1), 1) := by decide +kernel
theorem dX4_rowValue_32 : decode cX4_rowValue 32 = .ok (.ireturn, 1) := by decide +kernel
theorem dX4_rowValue_33 : decode cX4_rowValue 33 = .ok (.iconst 2, 1) := by decide +kernel
theorem dX4_rowValue_34 : decode cX4_rowValue 34 = .ok (.iload 5, 2) := by decide +kernel
theorem dX4_rowValue_36 : decode cX4_rowValue 36 = .ok (.imul, 1) := by decide +kernel
theorem dX4_rowValue_37 : decode cX4_rowValue 37 = .ok (.lload_n 2, 1) := by decide +kernel
theorem dX4_rowValue_38 : decode cX4_rowValue 38 = .ok (.iload 7, 2) := by decide +kernel
theorem dX4_rowValue_40 : decode cX4_rowValue 40 = .ok (.invokestatic 277, 3) := by decide +kernel
theorem dX4_rowValue_43 : decode cX4_rowValue 43 = .ok (.ifCond .eq 7, 3) := by decide +kernel
theorem dX4_rowValue_46 : decode cX4_rowValue 46 = .ok (.iconst 1, 1) := by decide +kernel
theorem dX4_rowValue_47 : decode cX4_rowValue 47 = .ok (.goto 4, 3) := by decide +kernel
theorem dX4_rowValue_50 : decode cX4_rowValue 50 = .ok (.iconst 0, 1) := by decide +kernel
theorem dX4_rowValue_51 : decode cX4_rowValue 51 = .ok (.iadd, 1) := by decide +kernel
theorem dX4_rowValue_52 : decode cX4_rowValue 52 = .ok (.istore 5, 2) := by decide +kernel
theorem dX4_rowValue_54 : decode cX4_rowValue 54 = .ok (.iinc 6 1, 3) := by decide +kernel
theorem dX4_rowValue_57 : decode cX4_rowValue 57 = .ok (.goto (-51), 3) := by decide +kernel
theorem dX4_rowValue_60 : decode cX4_rowValue 60 = .ok (.iload 5, 2) := by decide +kernel
theorem dX4_rowValue_62 : decode cX4_rowValue 62 = .ok (.ireturn, 1) := by decide +kernel
theorem dX4_untoldWithout_0 : decode cX4_untoldWithout 0 = .ok (.aload_n 1, 1) := by decide +kernel
theorem dX4_untoldWithout_1 : decode cX4_untoldWithout 1 = .ok (.invokevirtual 180, 3) := by decide +kernel
theorem dX4_untoldWithout_4 : decode cX4_untoldWithout 4 = .ok (.iload_n 2, 1) := by decide +kernel
theorem dX4_untoldWithout_5 : decode cX4_untoldWithout 5 = .ok (.invokestatic 277, 3) := by decide +kernel
theorem dX4_untoldWithout_8 : decode cX4_untoldWithout 8 = .ok (.ifCond .ne 5, 3) := by decide +kernel
theorem dX4_untoldWithout_11 : decode cX4_untoldWithout 11 = .ok (.iconst (-1), 1) := by decide +kernel
theorem dX4_untoldWithout_12 : decode cX4_untoldWithout 12 = .ok (.ireturn, 1) := by decide +kernel
theorem dX4_untoldWithout_13 : decode cX4_untoldWithout 13 = .ok (.aload_n 1, 1) := by decide +kernel
theorem dX4_untoldWithout_14 : decode cX4_untoldWithout 14 = .ok (.invokevirtual 180, 3) := by decide +kernel
theorem dX4_untoldWithout_17 : decode cX4_untoldWithout 17 = .ok (.lconst 1, 1) := by decide +kernel
theorem dX4_untoldWithout_18 : decode cX4_untoldWithout 18 = .ok (.iload_n 2, 1) := by decide +kernel
theorem dX4_untoldWithout_19 : decode cX4_untoldWithout 19 = .ok (.lshl, 1) := by decide +kernel
theorem dX4_untoldWithout_20 : decode cX4_untoldWithout 20 = .ok (.ldc2_w 117, 3) := by decide +kernel
theorem dX4_untoldWithout_23 : decode cX4_untoldWithout 23 = .ok (.lxor, 1) := by decide +kernel
theorem dX4_untoldWithout_24 : decode cX4_untoldWithout 24 = .ok (.land, 1) := by decide +kernel
theorem dX4_untoldWithout_25 : decode cX4_untoldWithout 25 = .ok (.lstore_n 3, 1) := by decide +kernel
theorem dX4_untoldWithout_26 : decode cX4_untoldWithout 26 = .ok (.aload_n 0, 1) := by decide +kernel
theorem dX4_untoldWithout_27 : decode cX4_untoldWithout 27 = .ok (.getfield 23, 3) := by decide +kernel
theorem dX4_untoldWithout_30 : decode cX4_untoldWithout 30 = .ok (.lload_n 3, 1) := by decide +kernel
theorem dX4_untoldWithout_31 : decode cX4_untoldWithout 31 = .ok (.aload_n 1, 1) := by decide +kernel
theorem dX4_untoldWithout_32 : decode cX4_untoldWithout 32 = .ok (.invokevirtual 183, 3) := by decide +kernel
theorem dX4_untoldWithout_35 : decode cX4_untoldWithout 35 = .ok (.lload_n 3, 1) := by decide +kernel
theorem dX4_untoldWithout_36 : decode cX4_untoldWithout 36 = .ok (.land, 1) := by decide +kernel
theorem dX4_untoldWithout_37 : decode cX4_untoldWithout 37 = .ok (.invokevirtual 265, 3) := by decide +kernel
theorem dX4_untoldWithout_40 : decode cX4_untoldWithout 40 = .ok (.aload_n 0, 1) := by decide +kernel
theorem dX4_untoldWithout_41 : decode cX4_untoldWithout 41 = .ok (.getfield 23, 3) := by decide +kernel
theorem dX4_untoldWithout_44 : decode cX4_untoldWithout 44 = .ok (.invokevirtual 189, 3) := by decide +kernel
theorem dX4_untoldWithout_47 : decode cX4_untoldWithout 47 = .ok (.ireturn, 1) := by decide +kernel
theorem dX4_worstCell_0 : decode cX4_worstCell 0 = .ok (.iconst (-1), 1) := by decide +kernel
theorem dX4_worstCell_1 : decode cX4_worstCell 1 = .ok (.istore_n 2, 1) := by decide +kernel
theorem dX4_worstCell_2 : decode cX4_worstCell 2 = .ok (.iconst (-1), 1) := by decide +kernel
theorem dX4_worstCell_3 : decode cX4_worstCell 3 = .ok (.istore_n 3, 1) := by decide +kernel
theorem dX4_worstCell_4 : decode cX4_worstCell 4 = .ok (.iconst 0, 1) := by decide +kernel
theorem dX4_worstCell_5 : decode cX4_worstCell 5 = .ok (.istore 4, 2) := by decide +kernel
theorem dX4_worstCell_7 : decode cX4_worstCell 7 = .ok (.iload 4, 2) := by decide +kernel
theorem dX4_worstCell_9 : decode cX4_worstCell 9 = .ok (.bipush 64, 2) := by decide +kernel
theorem dX4_worstCell_11 : decode cX4_worstCell 11 = .ok (.if_icmp .ge 30, 3) := by decide +kernel
theorem dX4_worstCell_14 : decode cX4_worstCell 14 = .ok (.aload_n 0, 1) := by decide +kernel
theorem dX4_worstCell_15 : decode cX4_worstCell 15 = .ok (.aload_n 1, 1) := by decide +kernel
theorem dX4_worstCell_16 : decode cX4_worstCell 16 = .ok (.iload 4, 2) := by decide +kernel
theorem dX4_worstCell_18 : decode cX4_worstCell 18 = .ok (.invokevirtual 202, 3) := by decide +kernel
theorem dX4_worstCell_21 : decode cX4_worstCell 21 = .ok (.istore 5, 2) := by decide +kernel
theorem dX4_worstCell_23 : decode cX4_worstCell 23 = .ok (.iload 5, 2) := by decide +kernel
theorem dX4_worstCell_25 : decode cX4_worstCell 25 = .ok (.iload_n 3, 1) := by decide +kernel
theorem dX4_worstCell_26 : decode cX4_worstCell 26 = .ok (.if_icmp .le 9, 3) := by decide +kernel
theorem dX4_worstCell_29 : decode cX4_worstCell 29 = .ok (.iload 5, 2) := by decide +kernel
theorem dX4_worstCell_31 : decode cX4_worstCell 31 = .ok (.istore_n 3, 1) := by decide +kernel
theorem dX4_worstCell_32 : decode cX4_worstCell 32 = .ok (.iload 4, 2) := by decide +kernel
theorem dX4_worstCell_34 : decode cX4_worstCell 34 = .ok (.istore_n 2, 1) := by decide +kernel
theorem dX4_worstCell_35 : decode cX4_worstCell 35 = .ok (.iinc 4 1, 3) := by decide +kernel
theorem dX4_worstCell_38 : decode cX4_worstCell 38 = .ok (.goto (-31), 3) := by decide +kernel
theorem dX4_worstCell_41 : decode cX4_worstCell 41 = .ok (.iload_n 2, 1) := by decide +kernel
theorem dX4_worstCell_42 : decode cX4_worstCell 42 = .ok (.ireturn, 1) := by decide +kernel
theorem dX4_readText_0 : decode cX4_readText 0 = .ok (.aload_n 0, 1) := by decide +kernel
theorem dX4_readText_1 : decode cX4_readText 1 = .ok (.getfield 36, 3) := by decide +kernel
theorem dX4_readText_4 : decode cX4_readText 4 = .ok (.invokevirtual 281, 3) := by decide +kernel
theorem dX4_readText_7 : decode cX4_readText 7 = .ok (.iconst 0, 1) := by decide +kernel
theorem dX4_readText_8 : decode cX4_readText 8 = .ok (.istore_n 1, 1) := by decide +kernel
theorem dX4_readText_9 : decode cX4_readText 9 = .ok (.iload_n 1, 1) := by decide +kernel
theorem dX4_readText_10 : decode cX4_readText 10 = .ok (.aload_n 0, 1) := by decide +kernel
theorem dX4_readText_11 : decode cX4_readText 11 = .ok (.getfield 43, 3) := by decide +kernel
theorem dX4_readText_14 : decode cX4_readText 14 = .ok (.invokevirtual 212, 3) := by decide +kernel
theorem dX4_readText_17 : decode cX4_readText 17 = .ok (.if_icmp .ge 29, 3) := by decide +kernel
theorem dX4_readText_20 : decode cX4_readText 20 = .ok (.aload_n 0, 1) := by decide +kernel
theorem dX4_readText_21 : decode cX4_readText 21 = .ok (.getfield 36, 3) := by decide +kernel
theorem dX4_readText_24 : decode cX4_readText 24 = .ok (.aload_n 0, 1) := by decide +kernel
theorem dX4_readText_25 : decode cX4_readText 25 = .ok (.getfield 43, 3) := by decide +kernel
theorem dX4_readText_28 : decode cX4_readText 28 = .ok (.iload_n 1, 1) := by decide +kernel
theorem dX4_readText_29 : decode cX4_readText 29 = .ok (.invokevirtual 284, 3) := by decide +kernel
theorem dX4_readText_32 : decode cX4_readText 32 = .ok (.invokevirtual 288, 3) := by decide +kernel
theorem dX4_readText_35 : decode cX4_readText 35 = .ok (.ifCond .ne 5, 3) := by decide +kernel
theorem dX4_readText_38 : decode cX4_readText 38 = .ok (.iload_n 1, 1) := by decide +kernel
theorem dX4_readText_39 : decode cX4_readText 39 = .ok (.ireturn, 1) := by decide +kernel
theorem dX4_readText_40 : decode cX4_readText 40 = .ok (.iinc 1 1, 3) := by decide +kernel
theorem dX4_readText_43 : decode cX4_readText 43 = .ok (.goto (-34), 3) := by decide +kernel
theorem dX4_readText_46 : decode cX4_readText 46 = .ok (.aload_n 0, 1) := by decide +kernel
theorem dX4_readText_47 : decode cX4_readText 47 = .ok (.getfield 43, 3) := by decide +kernel
theorem dX4_readText_50 : decode cX4_readText 50 = .ok (.invokevirtual 212, 3) := by decide +kernel
theorem dX4_readText_53 : decode cX4_readText 53 = .ok (.ireturn, 1) := by decide +kernel
theorem dX4_doParts_0 : decode cX4_doParts 0 = .ok (.iconst 0, 1) := by decide +kernel
theorem dX4_doParts_1 : decode cX4_doParts 1 = .ok (.istore_n 2, 1) := by decide +kernel
theorem dX4_doParts_2 : decode cX4_doParts 2 = .ok (.aload_n 0, 1) := by decide +kernel
theorem dX4_doParts_3 : decode cX4_doParts 3 = .ok (.getfield 36, 3) := by decide +kernel
theorem dX4_doParts_6 : decode cX4_doParts 6 = .ok (.invokevirtual 281, 3) := by decide +kernel
theorem dX4_doParts_9 : decode cX4_doParts 9 = .ok (.iconst 0, 1) := by decide +kernel
theorem dX4_doParts_10 : decode cX4_doParts 10 = .ok (.istore_n 3, 1) := by decide +kernel
theorem dX4_doParts_11 : decode cX4_doParts 11 = .ok (.iload_n 3, 1) := by decide +kernel
theorem dX4_doParts_12 : decode cX4_doParts 12 = .ok (.aload_n 0, 1) := by decide +kernel
theorem dX4_doParts_13 : decode cX4_doParts 13 = .ok (.getfield 43, 3) := by decide +kernel
theorem dX4_doParts_16 : decode cX4_doParts 16 = .ok (.invokevirtual 212, 3) := by decide +kernel
theorem dX4_doParts_19 : decode cX4_doParts 19 = .ok (.if_icmp .ge 66, 3) := by decide +kernel
theorem dX4_doParts_22 : decode cX4_doParts 22 = .ok (.aload_n 0, 1) := by decide +kernel
theorem dX4_doParts_23 : decode cX4_doParts 23 = .ok (.getfield 36, 3) := by decide +kernel
theorem dX4_doParts_26 : decode cX4_doParts 26 = .ok (.aload_n 0, 1) := by decide +kernel
theorem dX4_doParts_27 : decode cX4_doParts 27 = .ok (.getfield 43, 3) := by decide +kernel
theorem dX4_doParts_30 : decode cX4_doParts 30 = .ok (.iload_n 3, 1) := by decide +kernel
theorem dX4_doParts_31 : decode cX4_doParts 31 = .ok (.invokevirtual 284, 3) := by decide +kernel
theorem dX4_doParts_34 : decode cX4_doParts 34 = .ok (.invokevirtual 288, 3) := by decide +kernel
theorem dX4_doParts_37 : decode cX4_doParts 37 = .ok (.pop, 1) := by decide +kernel
theorem dX4_doParts_38 : decode cX4_doParts 38 = .ok (.iload_n 3, 1) := by decide +kernel
theorem dX4_doParts_39 : decode cX4_doParts 39 = .ok (.iconst 1, 1) := by decide +kernel
theorem dX4_doParts_40 : decode cX4_doParts 40 = .ok (.iadd, 1) := by decide +kernel
theorem dX4_doParts_41 : decode cX4_doParts 41 = .ok (.aload_n 0, 1) := by decide +kernel
theorem dX4_doParts_42 : decode cX4_doParts 42 = .ok (.getfield 43, 3) := by decide +kernel
theorem dX4_doParts_45 : decode cX4_doParts 45 = .ok (.invokevirtual 212, 3) := by decide +kernel
theorem dX4_doParts_48 : decode cX4_doParts 48 = .ok (.if_icmp .ge 18, 3) := by decide +kernel
theorem dX4_doParts_51 : decode cX4_doParts 51 = .ok (.aload_n 0, 1) := by decide +kernel
theorem dX4_doParts_52 : decode cX4_doParts 52 = .ok (.getfield 43, 3) := by decide +kernel
theorem dX4_doParts_55 : decode cX4_doParts 55 = .ok (.iload_n 3, 1) := by decide +kernel
theorem dX4_doParts_56 : decode cX4_doParts 56 = .ok (.iconst 1, 1) := by decide +kernel
theorem dX4_doParts_57 : decode cX4_doParts 57 = .ok (.iadd, 1) := by decide +kernel
theorem dX4_doParts_58 : decode cX4_doParts 58 = .ok (.invokevirtual 284, 3) := by decide +kernel
theorem dX4_doParts_61 : decode cX4_doParts 61 = .ok (.bipush 59, 2) := by decide +kernel
theorem dX4_doParts_63 : decode cX4_doParts 63 = .ok (.if_icmp .ne 16, 3) := by decide +kernel
theorem dX4_doParts_66 : decode cX4_doParts 66 = .ok (.aload_n 0, 1) := by decide +kernel
theorem dX4_doParts_67 : decode cX4_doParts 67 = .ok (.aload_n 1, 1) := by decide +kernel
theorem dX4_doParts_68 : decode cX4_doParts 68 = .ok (.invokevirtual 292, 3) := by decide +kernel
theorem dX4_doParts_71 : decode cX4_doParts 71 = .ok (.ifCond .ne 5, 3) := by decide +kernel
theorem dX4_doParts_74 : decode cX4_doParts 74 = .ok (.iload_n 2, 1) := by decide +kernel
theorem dX4_doParts_75 : decode cX4_doParts 75 = .ok (.ireturn, 1) := by decide +kernel
theorem dX4_doParts_76 : decode cX4_doParts 76 = .ok (.iinc 2 1, 3) := by decide +kernel
theorem dX4_doParts_79 : decode cX4_doParts 79 = .ok (.iinc 3 1, 3) := by decide +kernel
theorem dX4_doParts_82 : decode cX4_doParts 82 = .ok (.goto (-71), 3) := by decide +kernel
theorem dX4_doParts_85 : decode cX4_doParts 85 = .ok (.iload_n 2, 1) := by decide +kernel
theorem dX4_doParts_86 : decode cX4_doParts 86 = .ok (.ireturn, 1) := by decide +kernel
theorem dX4_tryPart_0 : decode cX4_tryPart 0 = .ok (.aload_n 0, 1) := by decide +kernel
theorem dX4_tryPart_1 : decode cX4_tryPart 1 = .ok (.getfield 36, 3) := by decide +kernel
theorem dX4_tryPart_4 : decode cX4_tryPart 4 = .ok (.getfield 296, 3) := by decide +kernel
theorem dX4_tryPart_7 : decode cX4_tryPart 7 = .ok (.lookupswitch 85 #[(99, 60), (112, 41), (118, 65), (119, 78)], 41) := by decide +kernel
theorem dX4_tryPart_48 : decode cX4_tryPart 48 = .ok (.aload_n 1, 1) := by decide +kernel
theorem dX4_tryPart_49 : decode cX4_tryPart 49 = .ok (.aload_n 0, 1) := by decide +kernel
theorem dX4_tryPart_50 : decode cX4_tryPart 50 = .ok (.getfield 36, 3) := by decide +kernel
theorem dX4_tryPart_53 : decode cX4_tryPart 53 = .ok (.getfield 300, 3) := by decide +kernel
theorem dX4_tryPart_56 : decode cX4_tryPart 56 = .ok (.aload_n 0, 1) := by decide +kernel
theorem dX4_tryPart_57 : decode cX4_tryPart 57 = .ok (.getfield 36, 3) := by decide +kernel
theorem dX4_tryPart_60 : decode cX4_tryPart 60 = .ok (.getfield 303, 3) := by decide +kernel
theorem dX4_tryPart_63 : decode cX4_tryPart 63 = .ok (.invokestatic 306, 3) := by decide +kernel
theorem dX4_tryPart_66 : decode cX4_tryPart 66 = .ok (.ireturn, 1) := by decide +kernel
theorem dX4_tryPart_67 : decode cX4_tryPart 67 = .ok (.aload_n 1, 1) := by decide +kernel
theorem dX4_tryPart_68 : decode cX4_tryPart 68 = .ok (.invokestatic 310, 3) := by decide +kernel
theorem dX4_tryPart_71 : decode cX4_tryPart 71 = .ok (.ireturn, 1) := by decide +kernel
theorem dX4_tryPart_72 : decode cX4_tryPart 72 = .ok (.aload_n 1, 1) := by decide +kernel
theorem dX4_tryPart_73 : decode cX4_tryPart 73 = .ok (.aload_n 0, 1) := by decide +kernel
theorem dX4_tryPart_74 : decode cX4_tryPart 74 = .ok (.getfield 36, 3) := by decide +kernel
theorem dX4_tryPart_77 : decode cX4_tryPart 77 = .ok (.getfield 303, 3) := by decide +kernel
theorem dX4_tryPart_80 : decode cX4_tryPart 80 = .ok (.putfield 151, 3) := by decide +kernel
theorem dX4_tryPart_83 : decode cX4_tryPart 83 = .ok (.iconst 1, 1) := by decide +kernel
theorem dX4_tryPart_84 : decode cX4_tryPart 84 = .ok (.ireturn, 1) := by decide +kernel
theorem dX4_tryPart_85 : decode cX4_tryPart 85 = .ok (.aload_n 0, 1) := by decide +kernel
theorem dX4_tryPart_86 : decode cX4_tryPart 86 = .ok (.aload_n 1, 1) := by decide +kernel
theorem dX4_tryPart_87 : decode cX4_tryPart 87 = .ok (.iconst 1, 1) := by decide +kernel
theorem dX4_tryPart_88 : decode cX4_tryPart 88 = .ok (.invokevirtual 313, 3) := by decide +kernel
theorem dX4_tryPart_91 : decode cX4_tryPart 91 = .ok (.ireturn, 1) := by decide +kernel
theorem dX4_tryPart_92 : decode cX4_tryPart 92 = .ok (.aload_n 0, 1) := by decide +kernel
theorem dX4_tryPart_93 : decode cX4_tryPart 93 = .ok (.aload_n 1, 1) := by decide +kernel
theorem dX4_tryPart_94 : decode cX4_tryPart 94 = .ok (.iconst 0, 1) := by decide +kernel
theorem dX4_tryPart_95 : decode cX4_tryPart 95 = .ok (.invokevirtual 313, 3) := by decide +kernel
theorem dX4_tryPart_98 : decode cX4_tryPart 98 = .ok (.ireturn, 1) := by decide +kernel
theorem dX4_tryPunching_0 : decode cX4_tryPunching 0 = .ok (.aload_n 0, 1) := by decide +kernel
theorem dX4_tryPunching_1 : decode cX4_tryPunching 1 = .ok (.iload_n 1, 1) := by decide +kernel
theorem dX4_tryPunching_2 : decode cX4_tryPunching 2 = .ok (.invokevirtual 62, 3) := by decide +kernel
theorem dX4_tryPunching_5 : decode cX4_tryPunching 5 = .ok (.ifCond .ne 5, 3) := by decide +kernel
theorem dX4_tryPunching_8 : decode cX4_tryPunching 8 = .ok (.iconst 0, 1) := by decide +kernel
theorem dX4_tryPunching_9 : decode cX4_tryPunching 9 = .ok (.ireturn, 1) := by decide +kernel
theorem dX4_tryPunching_10 : decode cX4_tryPunching 10 = .ok (.aload_n 0, 1) := by decide +kernel
theorem dX4_tryPunching_11 : decode cX4_tryPunching 11 = .ok (.iload_n 1, 1) := by decide +kernel
theorem dX4_tryPunching_12 : decode cX4_tryPunching 12 = .ok (.iload_n 2, 1) := by decide +kernel
theorem dX4_tryPunching_13 : decode cX4_tryPunching 13 = .ok (.invokevirtual 75, 3) := by decide +kernel
theorem dX4_tryPunching_16 : decode cX4_tryPunching 16 = .ok (.pop, 1) := by decide +kernel
theorem dX4_tryPunching_17 : decode cX4_tryPunching 17 = .ok (.iconst 1, 1) := by decide +kernel
theorem dX4_tryPunching_18 : decode cX4_tryPunching 18 = .ok (.ireturn, 1) := by decide +kernel
theorem dX4_tryClosing_0 : decode cX4_tryClosing 0 = .ok (.aload_n 0, 1) := by decide +kernel
theorem dX4_tryClosing_1 : decode cX4_tryClosing 1 = .ok (.invokevirtual 79, 3) := by decide +kernel
theorem dX4_tryClosing_4 : decode cX4_tryClosing 4 = .ok (.ifCond .ne 5, 3) := by decide +kernel
theorem dX4_tryClosing_7 : decode cX4_tryClosing 7 = .ok (.iconst 0, 1) := by decide +kernel
theorem dX4_tryClosing_8 : decode cX4_tryClosing 8 = .ok (.ireturn, 1) := by decide +kernel
theorem dX4_tryClosing_9 : decode cX4_tryClosing 9 = .ok (.aload_n 0, 1) := by decide +kernel
theorem dX4_tryClosing_10 : decode cX4_tryClosing 10 = .ok (.invokevirtual 85, 3) := by decide +kernel
theorem dX4_tryClosing_13 : decode cX4_tryClosing 13 = .ok (.pop, 1) := by decide +kernel
theorem dX4_tryClosing_14 : decode cX4_tryClosing 14 = .ok (.iconst 1, 1) := by decide +kernel
theorem dX4_tryClosing_15 : decode cX4_tryClosing 15 = .ok (.ireturn, 1) := by decide +kernel
theorem dX4_tryHole_0 : decode cX4_tryHole 0 = .ok (.aload_n 0, 1) := by decide +kernel
theorem dX4_tryHole_1 : decode cX4_tryHole 1 = .ok (.getfield 36, 3) := by decide +kernel
theorem dX4_tryHole_4 : decode cX4_tryHole 4 = .ok (.getfield 300, 3) := by decide +kernel
theorem dX4_tryHole_7 : decode cX4_tryHole 7 = .ok (.aload_n 0, 1) := by decide +kernel
theorem dX4_tryHole_8 : decode cX4_tryHole 8 = .ok (.getfield 36, 3) := by decide +kernel
theorem dX4_tryHole_11 : decode cX4_tryHole 11 = .ok (.getfield 317, 3) := by decide +kernel
theorem dX4_tryHole_14 : decode cX4_tryHole 14 = .ok (.invokestatic 165, 3) := by decide +kernel
theorem dX4_tryHole_17 : decode cX4_tryHole 17 = .ok (.istore_n 3, 1) := by decide +kernel
theorem dX4_tryHole_18 : decode cX4_tryHole 18 = .ok (.aload_n 1, 1) := by decide +kernel
theorem dX4_tryHole_19 : decode cX4_tryHole 19 = .ok (.aload_n 0, 1) := by decide +kernel
theorem dX4_tryHole_20 : decode cX4_tryHole 20 = .ok (.getfield 36, 3) := by decide +kernel
theorem dX4_tryHole_23 : decode cX4_tryHole 23 = .ok (.getfield 320, 3) := by decide +kernel
theorem dX4_tryHole_26 : decode cX4_tryHole 26 = .ok (.iload_n 3, 1) := by decide +kernel
theorem dX4_tryHole_27 : decode cX4_tryHole 27 = .ok (.invokevirtual 133, 3) := by decide +kernel
theorem dX4_tryHole_30 : decode cX4_tryHole 30 = .ok (.iload_n 2, 1) := by decide +kernel
theorem dX4_tryHole_31 : decode cX4_tryHole 31 = .ok (.if_icmp .ne 5, 3) := by decide +kernel
theorem dX4_tryHole_34 : decode cX4_tryHole 34 = .ok (.iconst 0, 1) := by decide +kernel
theorem dX4_tryHole_35 : decode cX4_tryHole 35 = .ok (.ireturn, 1) := by decide +kernel
theorem dX4_tryHole_36 : decode cX4_tryHole 36 = .ok (.aload_n 1, 1) := by decide +kernel
theorem dX4_tryHole_37 : decode cX4_tryHole 37 = .ok (.aload_n 0, 1) := by decide +kernel
theorem dX4_tryHole_38 : decode cX4_tryHole 38 = .ok (.getfield 36, 3) := by decide +kernel
theorem dX4_tryHole_41 : decode cX4_tryHole 41 = .ok (.getfield 320, 3) := by decide +kernel
theorem dX4_tryHole_44 : decode cX4_tryHole 44 = .ok (.iload_n 3, 1) := by decide +kernel
theorem dX4_tryHole_45 : decode cX4_tryHole 45 = .ok (.iload_n 2, 1) := by decide +kernel
theorem dX4_tryHole_46 : decode cX4_tryHole 46 = .ok (.invokevirtual 139, 3) := by decide +kernel
theorem dX4_tryHole_49 : decode cX4_tryHole 49 = .ok (.iconst 1, 1) := by decide +kernel
theorem dX4_tryHole_50 : decode cX4_tryHole 50 = .ok (.ireturn, 1) := by decide +kernel
theorem dX5_init_0 : decode cX5_init 0 = .ok (.aload_n 0, 1) := by decide +kernel
theorem dX5_init_1 : decode cX5_init 1 = .ok (.invokespecial 1, 3) := by decide +kernel
theorem dX5_init_4 : decode cX5_init 4 = .ok (.aload_n 0, 1) := by decide +kernel
theorem dX5_init_5 : decode cX5_init 5 = .ok (.sipush 1365, 3) := by decide +kernel
theorem dX5_init_8 : decode cX5_init 8 = .ok (.newarray .int, 2) := by decide +kernel
theorem dX5_init_10 : decode cX5_init 10 = .ok (.putfield 7, 3) := by decide +kernel
theorem dX5_init_13 : decode cX5_init 13 = .ok (.aload_n 0, 1) := by decide +kernel
theorem dX5_init_14 : decode cX5_init 14 = .ok (.bipush 60, 2) := by decide +kernel
theorem dX5_init_16 : decode cX5_init 16 = .ok (.newarray .int, 2) := by decide +kernel
theorem dX5_init_18 : decode cX5_init 18 = .ok (.putfield 13, 3) := by decide +kernel
theorem dX5_init_21 : decode cX5_init 21 = .ok (.aload_n 0, 1) := by decide +kernel
theorem dX5_init_22 : decode cX5_init 22 = .ok (.bipush 64, 2) := by decide +kernel
theorem dX5_init_24 : decode cX5_init 24 = .ok (.newarray .int, 2) := by decide +kernel
theorem dX5_init_26 : decode cX5_init 26 = .ok (.putfield 16, 3) := by decide +kernel
theorem dX5_init_29 : decode cX5_init 29 = .ok (.iconst 0, 1) := by decide +kernel
theorem dX5_init_30 : decode cX5_init 30 = .ok (.istore_n 1, 1) := by decide +kernel
theorem dX5_init_31 : decode cX5_init 31 = .ok (.iload_n 1, 1) := by decide +kernel
theorem dX5_init_32 : decode cX5_init 32 = .ok (.iconst 3, 1) := by decide +kernel
theorem dX5_init_33 : decode cX5_init 33 = .ok (.if_icmp .ge 14, 3) := by decide +kernel
theorem dX5_init_36 : decode cX5_init 36 = .ok (.aload_n 0, 1) := by decide +kernel
theorem dX5_init_37 : decode cX5_init 37 = .ok (.iload_n 1, 1) := by decide +kernel
theorem dX5_init_38 : decode cX5_init 38 = .ok (.invokevirtual 19, 3) := by decide +kernel
theorem dX5_init_41 : decode cX5_init 41 = .ok (.iinc 1 1, 3) := by decide +kernel
theorem dX5_init_44 : decode cX5_init 44 = .ok (.goto (-13), 3) := by decide +kernel
theorem dX5_init_47 : decode cX5_init 47 = .ok (.return_, 1) := by decide +kernel
theorem dX5_thrown_0 : decode cX5_thrown 0 = .ok (.aload_n 0, 1) := by decide +kernel
theorem dX5_thrown_1 : decode cX5_thrown 1 = .ok (.getfield 23, 3) := by decide +kernel
theorem dX5_thrown_4 : decode cX5_thrown 4 = .ok (.ireturn, 1) := by decide +kernel
theorem dX5_in_0 : decode cX5_in 0 = .ok (.iload_n 0, 1) := by decide +kernel
theorem dX5_in_1 : decode cX5_in 1 = .ok (.iload_n 1, 1) := by decide +kernel
theorem dX5_in_2 : decode cX5_in 2 = .ok (.if_icmp .lt 12, 3) := by decide +kernel
theorem dX5_in_5 : decode cX5_in 5 = .ok (.iload_n 0, 1) := by decide +kernel
theorem dX5_in_6 : decode cX5_in 6 = .ok (.iload_n 2, 1) := by decide +kernel
theorem dX5_in_7 : decode cX5_in 7 = .ok (.if_icmp .gt 7, 3) := by decide +kernel
theorem dX5_in_10 : decode cX5_in 10 = .ok (.iconst 1, 1) := by decide +kernel
theorem dX5_in_11 : decode cX5_in 11 = .ok (.goto 4, 3) := by decide +kernel
theorem dX5_in_14 : decode cX5_in 14 = .ok (.iconst 0, 1) := by decide +kernel
theorem dX5_in_15 : decode cX5_in 15 = .ok (.ireturn, 1) := by decide +kernel
theorem dX5_holds_0 : decode cX5_holds 0 = .ok (.aload_n 0, 1) := by decide +kernel
theorem dX5_holds_1 : decode cX5_holds 1 = .ok (.iload_n 1, 1) := by decide +kernel
theorem dX5_holds_2 : decode cX5_holds 2 = .ok (.putfield 23, 3) := by decide +kernel
theorem dX5_holds_5 : decode cX5_holds 5 = .ok (.iload_n 1, 1) := by decide +kernel
theorem dX5_holds_6 : decode cX5_holds 6 = .ok (.ifCond .ne 7, 3) := by decide +kernel
theorem dX5_holds_9 : decode cX5_holds 9 = .ok (.iconst 1, 1) := by decide +kernel
theorem dX5_holds_10 : decode cX5_holds 10 = .ok (.goto 4, 3) := by decide +kernel
theorem dX5_holds_13 : decode cX5_holds 13 = .ok (.iconst 0, 1) := by decide +kernel
theorem dX5_holds_14 : decode cX5_holds 14 = .ok (.ireturn, 1) := by decide +kernel
theorem dX5_isCard_0 : decode cX5_isCard 0 = .ok (.iload_n 0, 1) := by decide +kernel
theorem dX5_isCard_1 : decode cX5_isCard 1 = .ok (.iconst 0, 1) := by decide +kernel
theorem dX5_isCard_2 : decode cX5_isCard 2 = .ok (.iconst 2, 1) := by decide +kernel
theorem dX5_isCard_3 : decode cX5_isCard 3 = .ok (.invokestatic 27, 3) := by decide +kernel
theorem dX5_isCard_6 : decode cX5_isCard 6 = .ok (.ireturn, 1) := by decide +kernel
theorem dX5_isCell_0 : decode cX5_isCell 0 = .ok (.iload_n 0, 1) := by decide +kernel
theorem dX5_isCell_1 : decode cX5_isCell 1 = .ok (.iconst 0, 1) := by decide +kernel
theorem dX5_isCell_2 : decode cX5_isCell 2 = .ok (.bipush 7, 2) := by decide +kernel
theorem dX5_isCell_4 : decode cX5_isCell 4 = .ok (.invokestatic 27, 3) := by decide +kernel
theorem dX5_isCell_7 : decode cX5_isCell 7 = .ok (.ifCond .eq 17, 3) := by decide +kernel
theorem dX5_isCell_10 : decode cX5_isCell 10 = .ok (.iload_n 1, 1) := by decide +kernel
theorem dX5_isCell_11 : decode cX5_isCell 11 = .ok (.iconst 0, 1) := by decide +kernel
theorem dX5_isCell_12 : decode cX5_isCell 12 = .ok (.bipush 7, 2) := by decide +kernel
theorem dX5_isCell_14 : decode cX5_isCell 14 = .ok (.invokestatic 27, 3) := by decide +kernel
theorem dX5_isCell_17 : decode cX5_isCell 17 = .ok (.ifCond .eq 7, 3) := by decide +kernel
theorem dX5_isCell_20 : decode cX5_isCell 20 = .ok (.iconst 1, 1) := by decide +kernel
theorem dX5_isCell_21 : decode cX5_isCell 21 = .ok (.goto 4, 3) := by decide +kernel
theorem dX5_isCell_24 : decode cX5_isCell 24 = .ok (.iconst 0, 1) := by decide +kernel
theorem dX5_isCell_25 : decode cX5_isCell 25 = .ok (.ireturn, 1) := by decide +kernel
theorem dX5_of_0 : decode cX5_of 0 = .ok (.aload_n 0, 1) := by decide +kernel
theorem dX5_of_1 : decode cX5_of 1 = .ok (.getfield 7, 3) := by decide +kernel
theorem dX5_of_4 : decode cX5_of 4 = .ok (.bipush 65, 2) := by decide +kernel
theorem dX5_of_6 : decode cX5_of 6 = .ok (.iload_n 1, 1) := by decide +kernel
theorem dX5_of_7 : decode cX5_of 7 = .ok (.imul, 1) := by decide +kernel
theorem dX5_of_8 : decode cX5_of 8 = .ok (.iconst 1, 1) := by decide +kernel
theorem dX5_of_9 : decode cX5_of 9 = .ok (.iadd, 1) := by decide +kernel
theorem dX5_of_10 : decode cX5_of 10 = .ok (.iload_n 2, 1) := by decide +kernel
theorem dX5_of_11 : decode cX5_of 11 = .ok (.iadd, 1) := by decide +kernel
theorem dX5_of_12 : decode cX5_of 12 = .ok (.iaload, 1) := by decide +kernel
theorem dX5_of_13 : decode cX5_of 13 = .ok (.ireturn, 1) := by decide +kernel
theorem dX5_lay_0 : decode cX5_lay 0 = .ok (.aload_n 0, 1) := by decide +kernel
theorem dX5_lay_1 : decode cX5_lay 1 = .ok (.getfield 7, 3) := by decide +kernel
theorem dX5_lay_4 : decode cX5_lay 4 = .ok (.bipush 65, 2) := by decide +kernel
theorem dX5_lay_6 : decode cX5_lay 6 = .ok (.iload_n 1, 1) := by decide +kernel
theorem dX5_lay_7 : decode cX5_lay 7 = .ok (.imul, 1) := by decide +kernel
theorem dX5_lay_8 : decode cX5_lay 8 = .ok (.iconst 1, 1) := by decide +kernel
theorem dX5_lay_9 : decode cX5_lay 9 = .ok (.iadd, 1) := by decide +kernel
theorem dX5_lay_10 : decode cX5_lay 10 = .ok (.iload_n 2, 1) := by decide +kernel
theorem dX5_lay_11 : decode cX5_lay 11 = .ok (.iadd, 1) := by decide +kernel
theorem dX5_lay_12 : decode cX5_lay 12 = .ok (.iload_n 3, 1) := by decide +kernel
theorem dX5_lay_13 : decode cX5_lay 13 = .ok (.iastore, 1) := by decide +kernel
theorem dX5_lay_14 : decode cX5_lay 14 = .ok (.return_, 1) := by decide +kernel
theorem dX5_viewOf_0 : decode cX5_viewOf 0 = .ok (.aload_n 0, 1) := by decide +kernel
theorem dX5_viewOf_1 : decode cX5_viewOf 1 = .ok (.getfield 7, 3) := by decide +kernel
theorem dX5_viewOf_4 : decode cX5_viewOf 4 = .ok (.bipush 65, 2) := by decide +kernel
theorem dX5_viewOf_6 : decode cX5_viewOf 6 = .ok (.iload_n 1, 1) := by decide +kernel
theorem dX5_viewOf_7 : decode cX5_viewOf 7 = .ok (.imul, 1) := by decide +kernel
theorem dX5_viewOf_8 : decode cX5_viewOf 8 = .ok (.iaload, 1) := by decide +kernel
theorem dX5_viewOf_9 : decode cX5_viewOf 9 = .ok (.ireturn, 1) := by decide +kernel
theorem dX5_isSound_0 : decode cX5_isSound 0 = .ok (.iload_n 0, 1) := by decide +kernel
theorem dX5_isSound_1 : decode cX5_isSound 1 = .ok (.iconst 2, 1) := by decide +kernel
theorem dX5_isSound_2 : decode cX5_isSound 2 = .ok (.if_icmp .ge 7, 3) := by decide +kernel
theorem dX5_isSound_5 : decode cX5_isSound 5 = .ok (.iconst 1, 1) := by decide +kernel
theorem dX5_isSound_6 : decode cX5_isSound 6 = .ok (.goto 4, 3) := by decide +kernel
theorem dX5_isSound_9 : decode cX5_isSound 9 = .ok (.iconst 0, 1) := by decide +kernel
theorem dX5_isSound_10 : decode cX5_isSound 10 = .ok (.ireturn, 1) := by decide +kernel
theorem dX5_blanks_0 : decode cX5_blanks 0 = .ok (.aload_n 0, 1) := by decide +kernel
theorem dX5_blanks_1 : decode cX5_blanks 1 = .ok (.getfield 7, 3) := by decide +kernel
theorem dX5_blanks_4 : decode cX5_blanks 4 = .ok (.bipush 65, 2) := by decide +kernel
theorem dX5_blanks_6 : decode cX5_blanks 6 = .ok (.iload_n 1, 1) := by decide +kernel
theorem dX5_blanks_7 : decode cX5_blanks 7 = .ok (.imul, 1) := by decide +kernel
theorem dX5_blanks_8 : decode cX5_blanks 8 = .ok (.iconst 0, 1) := by decide +kernel
theorem dX5_blanks_9 : decode cX5_blanks 9 = .ok (.iastore, 1) := by decide +kernel
theorem dX5_blanks_10 : decode cX5_blanks 10 = .ok (.iconst 0, 1) := by decide +kernel
theorem dX5_blanks_11 : decode cX5_blanks 11 = .ok (.istore_n 2, 1) := by decide +kernel
theorem dX5_blanks_12 : decode cX5_blanks 12 = .ok (.iload_n 2, 1) := by decide +kernel
theorem dX5_blanks_13 : decode cX5_blanks 13 = .ok (.bipush 64, 2) := by decide +kernel
theorem dX5_blanks_15 : decode cX5_blanks 15 = .ok (.if_icmp .ge 16, 3) := by decide +kernel
theorem dX5_blanks_18 : decode cX5_blanks 18 = .ok (.aload_n 0, 1) := by decide +kernel
theorem dX5_blanks_19 : decode cX5_blanks 19 = .ok (.iload_n 1, 1) := by decide +kernel
theorem dX5_blanks_20 : decode cX5_blanks 20 = .ok (.iload_n 2, 1) := by decide +kernel
theorem dX5_blanks_21 : decode cX5_blanks 21 = .ok (.iconst 2, 1) := by decide +kernel
theorem dX5_blanks_22 : decode cX5_blanks 22 = .ok (.invokevirtual 31, 3) := by decide +kernel
theorem dX5_blanks_25 : decode cX5_blanks 25 = .ok (.iinc 2 1, 3) := by decide +kernel
theorem dX5_blanks_28 : decode cX5_blanks 28 = .ok (.goto (-16), 3) := by decide +kernel
theorem dX5_blanks_31 : decode cX5_blanks 31 = .ok (.return_, 1) := by decide +kernel
theorem dX5_counted_0 : decode cX5_counted 0 = .ok (.iconst 0, 1) := by decide +kernel
theorem dX5_counted_1 : decode cX5_counted 1 = .ok (.istore_n 3, 1) := by decide +kernel
theorem dX5_counted_2 : decode cX5_counted 2 = .ok (.iconst 0, 1) := by decide +kernel
theorem dX5_counted_3 : decode cX5_counted 3 = .ok (.istore 4, 2) := by decide +kernel
theorem dX5_counted_5 : decode cX5_counted 5 = .ok (.iload 4, 2) := by decide +kernel
theorem dX5_counted_7 : decode cX5_counted 7 = .ok (.bipush 64, 2) := by decide +kernel
theorem dX5_counted_9 : decode cX5_counted 9 = .ok (.if_icmp .ge 28, 3) := by decide +kernel
theorem dX5_counted_12 : decode cX5_counted 12 = .ok (.iload_n 3, 1) := by decide +kernel
theorem dX5_counted_13 : decode cX5_counted 13 = .ok (.aload_n 0, 1) := by decide +kernel
theorem dX5_counted_14 : decode cX5_counted 14 = .ok (.iload_n 1, 1) := by decide +kernel
theorem dX5_counted_15 : decode cX5_counted 15 = .ok (.iload 4, 2) := by decide +kernel
theorem dX5_counted_17 : decode cX5_counted 17 = .ok (.invokevirtual 35, 3) := by decide +kernel
theorem dX5_counted_20 : decode cX5_counted 20 = .ok (.iload_n 2, 1) := by decide +kernel
theorem dX5_counted_21 : decode cX5_counted 21 = .ok (.if_icmp .ne 7, 3) := by decide +kernel
theorem dX5_counted_24 : decode cX5_counted 24 = .ok (.iconst 1, 1) := by decide +kernel
theorem dX5_counted_25 : decode cX5_counted 25 = .ok (.goto 4, 3) := by decide +kernel
theorem dX5_counted_28 : decode cX5_counted 28 = .ok (.iconst 0, 1) := by decide +kernel
theorem dX5_counted_29 : decode cX5_counted 29 = .ok (.iadd, 1) := by decide +kernel
theorem dX5_counted_30 : decode cX5_counted 30 = .ok (.istore_n 3, 1) := by decide +kernel
theorem dX5_counted_31 : decode cX5_counted 31 = .ok (.iinc 4 1, 3) := by decide +kernel
theorem dX5_counted_34 : decode cX5_counted 34 = .ok (.goto (-29), 3) := by decide +kernel
theorem dX5_counted_37 : decode cX5_counted 37 = .ok (.iload_n 3, 1) := by decide +kernel
theorem dX5_counted_38 : decode cX5_counted 38 = .ok (.ireturn, 1) := by decide +kernel
theorem dX5_hasHole_0 : decode cX5_hasHole 0 = .ok (.iload_n 0, 1) := by decide +kernel
theorem dX5_hasHole_1 : decode cX5_hasHole 1 = .ok (.iconst 3, 1) := by decide +kernel
theorem dX5_hasHole_2 : decode cX5_hasHole 2 = .ok (.if_icmp .eq 8, 3) := by decide +kernel
theorem dX5_hasHole_5 : decode cX5_hasHole 5 = .ok (.iload_n 0, 1) := by decide +kernel
theorem dX5_hasHole_6 : decode cX5_hasHole 6 = .ok (.iload_n 1, 1) := by decide +kernel
theorem dX5_hasHole_7 : decode cX5_hasHole 7 = .ok (.if_icmp .ne 7, 3) := by decide +kernel
theorem dX5_hasHole_10 : decode cX5_hasHole 10 = .ok (.iconst 1, 1) := by decide +kernel
theorem dX5_hasHole_11 : decode cX5_hasHole 11 = .ok (.goto 4, 3) := by decide +kernel
theorem dX5_hasHole_14 : decode cX5_hasHole 14 = .ok (.iconst 0, 1) := by decide +kernel
theorem dX5_hasHole_15 : decode cX5_hasHole 15 = .ok (.ireturn, 1) := by decide +kernel
theorem dX5_turned_0 : decode cX5_turned 0 = .ok (.iload_n 0, 1) := by decide +kernel
theorem dX5_turned_1 : decode cX5_turned 1 = .ok (.lookupswitch 33 #[(2, 27), (3, 29)], 27) := by decide +kernel
theorem dX5_turned_28 : decode cX5_turned 28 = .ok (.iload_n 1, 1) := by decide +kernel
theorem dX5_turned_29 : decode cX5_turned 29 = .ok (.ireturn, 1) := by decide +kernel
theorem dX5_turned_30 : decode cX5_turned 30 = .ok (.iconst 1, 1) := by decide +kernel
theorem dX5_turned_31 : decode cX5_turned 31 = .ok (.iload_n 1, 1) := by decide +kernel
theorem dX5_turned_32 : decode cX5_turned 32 = .ok (.isub, 1) := by decide +kernel
theorem dX5_turned_33 : decode cX5_turned 33 = .ok (.ireturn, 1) := by decide +kernel
theorem dX5_turned_34 : decode cX5_turned 34 = .ok (.iload_n 0, 1) := by decide +kernel
theorem dX5_turned_35 : decode cX5_turned 35 = .ok (.iload_n 1, 1) := by decide +kernel
theorem dX5_turned_36 : decode cX5_turned 36 = .ok (.if_icmp .ne 7, 3) := by decide +kernel
theorem dX5_turned_39 : decode cX5_turned 39 = .ok (.iconst 2, 1) := by decide +kernel
theorem dX5_turned_40 : decode cX5_turned 40 = .ok (.goto 4, 3) := by decide +kernel
theorem dX5_turned_43 : decode cX5_turned 43 = .ok (.iconst 3, 1) := by decide +kernel
theorem dX5_turned_44 : decode cX5_turned 44 = .ok (.ireturn, 1) := by decide +kernel
theorem dX5_seenCell_0 : decode cX5_seenCell 0 = .ok (.iload_n 0, 1) := by decide +kernel
theorem dX5_seenCell_1 : decode cX5_seenCell 1 = .ok (.iconst 2, 1) := by decide +kernel
theorem dX5_seenCell_2 : decode cX5_seenCell 2 = .ok (.irem, 1) := by decide +kernel
theorem dX5_seenCell_3 : decode cX5_seenCell 3 = .ok (.ifCond .ne 7, 3) := by decide +kernel
theorem dX5_seenCell_6 : decode cX5_seenCell 6 = .ok (.iload_n 1, 1) := by decide +kernel
theorem dX5_seenCell_7 : decode cX5_seenCell 7 = .ok (.goto 7, 3) := by decide +kernel
theorem dX5_seenCell_10 : decode cX5_seenCell 10 = .ok (.bipush 7, 2) := by decide +kernel
theorem dX5_seenCell_12 : decode cX5_seenCell 12 = .ok (.iload_n 1, 1) := by decide +kernel
theorem dX5_seenCell_13 : decode cX5_seenCell 13 = .ok (.isub, 1) := by decide +kernel
theorem dX5_seenCell_14 : decode cX5_seenCell 14 = .ok (.istore_n 3, 1) := by decide +kernel
theorem dX5_seenCell_15 : decode cX5_seenCell 15 = .ok (.iload_n 0, 1) := by decide +kernel
theorem dX5_seenCell_16 : decode cX5_seenCell 16 = .ok (.ifCond .eq 8, 3) := by decide +kernel
theorem dX5_seenCell_19 : decode cX5_seenCell 19 = .ok (.iload_n 0, 1) := by decide +kernel
theorem dX5_seenCell_20 : decode cX5_seenCell 20 = .ok (.iconst 3, 1) := by decide +kernel
theorem dX5_seenCell_21 : decode cX5_seenCell 21 = .ok (.if_icmp .ne 7, 3) := by decide +kernel
theorem dX5_seenCell_24 : decode cX5_seenCell 24 = .ok (.iload_n 2, 1) := by decide +kernel
theorem dX5_seenCell_25 : decode cX5_seenCell 25 = .ok (.goto 7, 3) := by decide +kernel
theorem dX5_seenCell_28 : decode cX5_seenCell 28 = .ok (.bipush 7, 2) := by decide +kernel
theorem dX5_seenCell_30 : decode cX5_seenCell 30 = .ok (.iload_n 2, 1) := by decide +kernel
theorem dX5_seenCell_31 : decode cX5_seenCell 31 = .ok (.isub, 1) := by decide +kernel
theorem dX5_seenCell_32 : decode cX5_seenCell 32 = .ok (.istore 4, 2) := by decide +kernel
theorem dX5_seenCell_34 : decode cX5_seenCell 34 = .ok (.bipush 8, 2) := by decide +kernel
theorem dX5_seenCell_36 : decode cX5_seenCell 36 = .ok (.iload_n 3, 1) := by decide +kernel
theorem dX5_seenCell_37 : decode cX5_seenCell 37 = .ok (.imul, 1) := by decide +kernel
theorem dX5_seenCell_38 : decode cX5_seenCell 38 = .ok (.iload 4, 2) := by decide +kernel
theorem dX5_seenCell_40 : decode cX5_seenCell 40 = .ok (.iadd, 1) := by decide +kernel
theorem dX5_seenCell_41 : decode cX5_seenCell 41 = .ok (.ireturn, 1) := by decide +kernel
theorem dX5_faceOf_0 : decode cX5_faceOf 0 = .ok (.iload_n 0, 1) := by decide +kernel
theorem dX5_faceOf_1 : decode cX5_faceOf 1 = .ok (.iconst 2, 1) := by decide +kernel
theorem dX5_faceOf_2 : decode cX5_faceOf 2 = .ok (.if_icmp .ge 7, 3) := by decide +kernel
theorem dX5_faceOf_5 : decode cX5_faceOf 5 = .ok (.iconst 1, 1) := by decide +kernel
theorem dX5_faceOf_6 : decode cX5_faceOf 6 = .ok (.goto 4, 3) := by decide +kernel
theorem dX5_faceOf_9 : decode cX5_faceOf 9 = .ok (.iconst 0, 1) := by decide +kernel
theorem dX5_faceOf_10 : decode cX5_faceOf 10 = .ok (.ireturn, 1) := by decide +kernel
theorem dX5_isSeen_0 : decode cX5_isSeen 0 = .ok (.aload_n 0, 1) := by decide +kernel
theorem dX5_isSeen_1 : decode cX5_isSeen 1 = .ok (.iload_n 1, 1) := by decide +kernel
theorem dX5_isSeen_2 : decode cX5_isSeen 2 = .ok (.aload_n 0, 1) := by decide +kernel
theorem dX5_isSeen_3 : decode cX5_isSeen 3 = .ok (.iload_n 1, 1) := by decide +kernel
theorem dX5_isSeen_4 : decode cX5_isSeen 4 = .ok (.invokevirtual 39, 3) := by decide +kernel
theorem dX5_isSeen_7 : decode cX5_isSeen 7 = .ok (.iload_n 2, 1) := by decide +kernel
theorem dX5_isSeen_8 : decode cX5_isSeen 8 = .ok (.iload_n 3, 1) := by decide +kernel
theorem dX5_isSeen_9 : decode cX5_isSeen 9 = .ok (.invokestatic 43, 3) := by decide +kernel
theorem dX5_isSeen_12 : decode cX5_isSeen 12 = .ok (.invokevirtual 35, 3) := by decide +kernel
theorem dX5_isSeen_15 : decode cX5_isSeen 15 = .ok (.aload_n 0, 1) := by decide +kernel
theorem dX5_isSeen_16 : decode cX5_isSeen 16 = .ok (.iload_n 1, 1) := by decide +kernel
theorem dX5_isSeen_17 : decode cX5_isSeen 17 = .ok (.invokevirtual 39, 3) := by decide +kernel
theorem dX5_isSeen_20 : decode cX5_isSeen 20 = .ok (.invokestatic 47, 3) := by decide +kernel
theorem dX5_isSeen_23 : decode cX5_isSeen 23 = .ok (.invokestatic 50, 3) := by decide +kernel
theorem dX5_isSeen_26 : decode cX5_isSeen 26 = .ok (.ireturn, 1) := by decide +kernel
theorem dX5_rawOf_0 : decode cX5_rawOf 0 = .ok (.iconst 0, 1) := by decide +kernel
theorem dX5_rawOf_1 : decode cX5_rawOf 1 = .ok (.istore_n 3, 1) := by decide +kernel
theorem dX5_rawOf_2 : decode cX5_rawOf 2 = .ok (.iconst 0, 1) := by decide +kernel
theorem dX5_rawOf_3 : decode cX5_rawOf 3 = .ok (.istore 4, 2) := by decide +kernel
theorem dX5_rawOf_5 : decode cX5_rawOf 5 = .ok (.iload 4, 2) := by decide +kernel
theorem dX5_rawOf_7 : decode cX5_rawOf 7 = .ok (.bipush 8, 2) := by decide +kernel
theorem dX5_rawOf_9 : decode cX5_rawOf 9 = .ok (.if_icmp .ge 30, 3) := by decide +kernel
theorem dX5_rawOf_12 : decode cX5_rawOf 12 = .ok (.iconst 2, 1) := by decide +kernel
theorem dX5_rawOf_13 : decode cX5_rawOf 13 = .ok (.iload_n 3, 1) := by decide +kernel
theorem dX5_rawOf_14 : decode cX5_rawOf 14 = .ok (.imul, 1) := by decide +kernel
theorem dX5_rawOf_15 : decode cX5_rawOf 15 = .ok (.aload_n 0, 1) := by decide +kernel
theorem dX5_rawOf_16 : decode cX5_rawOf 16 = .ok (.iload_n 1, 1) := by decide +kernel
theorem dX5_rawOf_17 : decode cX5_rawOf 17 = .ok (.iload_n 2, 1) := by decide +kernel
theorem dX5_rawOf_18 : decode cX5_rawOf 18 = .ok (.iload 4, 2) := by decide +kernel
theorem dX5_rawOf_20 : decode cX5_rawOf 20 = .ok (.invokevirtual 54, 3) := by decide +kernel
theorem dX5_rawOf_23 : decode cX5_rawOf 23 = .ok (.ifCond .eq 7, 3) := by decide +kernel
theorem dX5_rawOf_26 : decode cX5_rawOf 26 = .ok (.iconst 1, 1) := by decide +kernel
theorem dX5_rawOf_27 : decode cX5_rawOf 27 = .ok (.goto 4, 3) := by decide +kernel
theorem dX5_rawOf_30 : decode cX5_rawOf 30 = .ok (.iconst 0, 1) := by decide +kernel
theorem dX5_rawOf_31 : decode cX5_rawOf 31 = .ok (.iadd, 1) := by decide +kernel
theorem dX5_rawOf_32 : decode cX5_rawOf 32 = .ok (.istore_n 3, 1) := by decide +kernel
theorem dX5_rawOf_33 : decode cX5_rawOf 33 = .ok (.iinc 4 1, 3) := by decide +kernel
theorem dX5_rawOf_36 : decode cX5_rawOf 36 = .ok (.goto (-31), 3) := by decide +kernel
theorem dX5_rawOf_39 : decode cX5_rawOf 39 = .ok (.iload_n 3, 1) := by decide +kernel
theorem dX5_rawOf_40 : decode cX5_rawOf 40 = .ok (.ireturn, 1) := by decide +kernel
theorem dX5_lineCell_0 : decode cX5_lineCell 0 = .ok (.iload_n 0, 1) := by decide +kernel
theorem dX5_lineCell_1 : decode cX5_lineCell 1 = .ok (.bipush 8, 2) := by decide +kernel
theorem dX5_lineCell_3 : decode cX5_lineCell 3 = .ok (.if_icmp .ge 12, 3) := by decide +kernel
theorem dX5_lineCell_6 : decode cX5_lineCell 6 = .ok (.bipush 8, 2) := by decide +kernel
theorem dX5_lineCell_8 : decode cX5_lineCell 8 = .ok (.iload_n 0, 1) := by decide +kernel
theorem dX5_lineCell_9 : decode cX5_lineCell 9 = .ok (.imul, 1) := by decide +kernel
theorem dX5_lineCell_10 : decode cX5_lineCell 10 = .ok (.iload_n 1, 1) := by decide +kernel
theorem dX5_lineCell_11 : decode cX5_lineCell 11 = .ok (.iadd, 1) := by decide +kernel
theorem dX5_lineCell_12 : decode cX5_lineCell 12 = .ok (.goto 12, 3) := by decide +kernel
theorem dX5_lineCell_15 : decode cX5_lineCell 15 = .ok (.bipush 8, 2) := by decide +kernel
theorem dX5_lineCell_17 : decode cX5_lineCell 17 = .ok (.iload_n 1, 1) := by decide +kernel
theorem dX5_lineCell_18 : decode cX5_lineCell 18 = .ok (.imul, 1) := by decide +kernel
theorem dX5_lineCell_19 : decode cX5_lineCell 19 = .ok (.iload_n 0, 1) := by decide +kernel
theorem dX5_lineCell_20 : decode cX5_lineCell 20 = .ok (.iadd, 1) := by decide +kernel
theorem dX5_lineCell_21 : decode cX5_lineCell 21 = .ok (.bipush 8, 2) := by decide +kernel
theorem dX5_lineCell_23 : decode cX5_lineCell 23 = .ok (.isub, 1) := by decide +kernel
theorem dX5_lineCell_24 : decode cX5_lineCell 24 = .ok (.ireturn, 1) := by decide +kernel
theorem dX5_missing_0 : decode cX5_missing 0 = .ok (.iconst 0, 1) := by decide +kernel
theorem dX5_missing_1 : decode cX5_missing 1 = .ok (.istore_n 2, 1) := by decide +kernel
theorem dX5_missing_2 : decode cX5_missing 2 = .ok (.iconst 0, 1) := by decide +kernel
theorem dX5_missing_3 : decode cX5_missing 3 = .ok (.istore_n 3, 1) := by decide +kernel
theorem dX5_missing_4 : decode cX5_missing 4 = .ok (.iload_n 3, 1) := by decide +kernel
theorem dX5_missing_5 : decode cX5_missing 5 = .ok (.bipush 8, 2) := by decide +kernel
theorem dX5_missing_7 : decode cX5_missing 7 = .ok (.if_icmp .ge 31, 3) := by decide +kernel
theorem dX5_missing_10 : decode cX5_missing 10 = .ok (.iload_n 2, 1) := by decide +kernel
theorem dX5_missing_11 : decode cX5_missing 11 = .ok (.aload_n 0, 1) := by decide +kernel
theorem dX5_missing_12 : decode cX5_missing 12 = .ok (.getfield 16, 3) := by decide +kernel
theorem dX5_missing_15 : decode cX5_missing 15 = .ok (.iload_n 1, 1) := by decide +kernel
theorem dX5_missing_16 : decode cX5_missing 16 = .ok (.iload_n 3, 1) := by decide +kernel
theorem dX5_missing_17 : decode cX5_missing 17 = .ok (.invokestatic 57, 3) := by decide +kernel
theorem dX5_missing_20 : decode cX5_missing 20 = .ok (.iaload, 1) := by decide +kernel
theorem dX5_missing_21 : decode cX5_missing 21 = .ok (.iconst (-1), 1) := by decide +kernel
theorem dX5_missing_22 : decode cX5_missing 22 = .ok (.if_icmp .ne 7, 3) := by decide +kernel
theorem dX5_missing_25 : decode cX5_missing 25 = .ok (.iconst 1, 1) := by decide +kernel
theorem dX5_missing_26 : decode cX5_missing 26 = .ok (.goto 4, 3) := by decide +kernel
theorem dX5_missing_29 : decode cX5_missing 29 = .ok (.iconst 0, 1) := by decide +kernel
theorem dX5_missing_30 : decode cX5_missing 30 = .ok (.iadd, 1) := by decide +kernel
theorem dX5_missing_31 : decode cX5_missing 31 = .ok (.istore_n 2, 1) := by decide +kernel
theorem dX5_missing_32 : decode cX5_missing 32 = .ok (.iinc 3 1, 3) := by decide +kernel
theorem dX5_missing_35 : decode cX5_missing 35 = .ok (.goto (-31), 3) := by decide +kernel
theorem dX5_missing_38 : decode cX5_missing 38 = .ok (.iload_n 2, 1) := by decide +kernel
theorem dX5_missing_39 : decode cX5_missing 39 = .ok (.ireturn, 1) := by decide +kernel
theorem dX5_parity_0 : decode cX5_parity 0 = .ok (.iconst 0, 1) := by decide +kernel
theorem dX5_parity_1 : decode cX5_parity 1 = .ok (.istore_n 2, 1) := by decide +kernel
theorem dX5_parity_2 : decode cX5_parity 2 = .ok (.iconst 0, 1) := by decide +kernel
theorem dX5_parity_3 : decode cX5_parity 3 = .ok (.istore_n 3, 1) := by decide +kernel
theorem dX5_parity_4 : decode cX5_parity 4 = .ok (.iload_n 3, 1) := by decide +kernel
theorem dX5_parity_5 : decode cX5_parity 5 = .ok (.bipush 8, 2) := by decide +kernel
theorem dX5_parity_7 : decode cX5_parity 7 = .ok (.if_icmp .ge 31, 3) := by decide +kernel
theorem dX5_parity_10 : decode cX5_parity 10 = .ok (.iload_n 2, 1) := by decide +kernel
theorem dX5_parity_11 : decode cX5_parity 11 = .ok (.aload_n 0, 1) := by decide +kernel
theorem dX5_parity_12 : decode cX5_parity 12 = .ok (.getfield 16, 3) := by decide +kernel
theorem dX5_parity_15 : decode cX5_parity 15 = .ok (.iload_n 1, 1) := by decide +kernel
theorem dX5_parity_16 : decode cX5_parity 16 = .ok (.iload_n 3, 1) := by decide +kernel
theorem dX5_parity_17 : decode cX5_parity 17 = .ok (.invokestatic 57, 3) := by decide +kernel
theorem dX5_parity_20 : decode cX5_parity 20 = .ok (.iaload, 1) := by decide +kernel
theorem dX5_parity_21 : decode cX5_parity 21 = .ok (.iconst 1, 1) := by decide +kernel
theorem dX5_parity_22 : decode cX5_parity 22 = .ok (.if_icmp .ne 7, 3) := by decide +kernel
theorem dX5_parity_25 : decode cX5_parity 25 = .ok (.iconst 1, 1) := by decide +kernel
theorem dX5_parity_26 : decode cX5_parity 26 = .ok (.goto 4, 3) := by decide +kernel
theorem dX5_parity_29 : decode cX5_parity 29 = .ok (.iconst 0, 1) := by decide +kernel
theorem dX5_parity_30 : decode cX5_parity 30 = .ok (.iadd, 1) := by decide +kernel
theorem dX5_parity_31 : decode cX5_parity 31 = .ok (.istore_n 2, 1) := by decide +kernel
theorem dX5_parity_32 : decode cX5_parity 32 = .ok (.iinc 3 1, 3) := by decide +kernel
theorem dX5_parity_35 : decode cX5_parity 35 = .ok (.goto (-31), 3) := by decide +kernel
theorem dX5_parity_38 : decode cX5_parity 38 = .ok (.iload_n 2, 1) := by decide +kernel
theorem dX5_parity_39 : decode cX5_parity 39 = .ok (.iconst 2, 1) := by decide +kernel
theorem dX5_parity_40 : decode cX5_parity 40 = .ok (.irem, 1) := by decide +kernel
theorem dX5_parity_41 : decode cX5_parity 41 = .ok (.ireturn, 1) := by decide +kernel
theorem dX5_tellsLine_0 : decode cX5_tellsLine 0 = .ok (.aload_n 0, 1) := by decide +kernel
theorem dX5_tellsLine_1 : decode cX5_tellsLine 1 = .ok (.iload_n 1, 1) := by decide +kernel
theorem dX5_tellsLine_2 : decode cX5_tellsLine 2 = .ok (.invokevirtual 60, 3) := by decide +kernel
theorem dX5_tellsLine_5 : decode cX5_tellsLine 5 = .ok (.iconst 1, 1) := by decide +kernel
theorem dX5_tellsLine_6 : decode cX5_tellsLine 6 = .ok (.if_icmp .eq 5, 3) := by decide +kernel
theorem dX5_tellsLine_9 : decode cX5_tellsLine 9 = .ok (.iconst 0, 1) := by decide +kernel
theorem dX5_tellsLine_10 : decode cX5_tellsLine 10 = .ok (.ireturn, 1) := by decide +kernel
theorem dX5_tellsLine_11 : decode cX5_tellsLine 11 = .ok (.aload_n 0, 1) := by decide +kernel
theorem dX5_tellsLine_12 : decode cX5_tellsLine 12 = .ok (.iload_n 1, 1) := by decide +kernel
theorem dX5_tellsLine_13 : decode cX5_tellsLine 13 = .ok (.invokevirtual 63, 3) := by decide +kernel
theorem dX5_tellsLine_16 : decode cX5_tellsLine 16 = .ok (.istore_n 2, 1) := by decide +kernel
theorem dX5_tellsLine_17 : decode cX5_tellsLine 17 = .ok (.iconst 0, 1) := by decide +kernel
theorem dX5_tellsLine_18 : decode cX5_tellsLine 18 = .ok (.istore_n 3, 1) := by decide +kernel
theorem dX5_tellsLine_19 : decode cX5_tellsLine 19 = .ok (.iload_n 3, 1) := by decide +kernel
theorem dX5_tellsLine_20 : decode cX5_tellsLine 20 = .ok (.bipush 8, 2) := by decide +kernel
theorem dX5_tellsLine_22 : decode cX5_tellsLine 22 = .ok (.if_icmp .ge 45, 3) := by decide +kernel
theorem dX5_tellsLine_25 : decode cX5_tellsLine 25 = .ok (.iload_n 1, 1) := by decide +kernel
theorem dX5_tellsLine_26 : decode cX5_tellsLine 26 = .ok (.iload_n 3, 1) := by decide +kernel
theorem dX5_tellsLine_27 : decode cX5_tellsLine 27 = .ok (.invokestatic 57, 3) := by decide +kernel
theorem dX5_tellsLine_30 : decode cX5_tellsLine 30 = .ok (.istore 4, 2) := by decide +kernel
theorem dX5_tellsLine_32 : decode cX5_tellsLine 32 = .ok (.aload_n 0, 1) := by decide +kernel
theorem dX5_tellsLine_33 : decode cX5_tellsLine 33 = .ok (.getfield 16, 3) := by decide +kernel
theorem dX5_tellsLine_36 : decode cX5_tellsLine 36 = .ok (.iload 4, 2) := by decide +kernel
theorem dX5_tellsLine_38 : decode cX5_tellsLine 38 = .ok (.aload_n 0, 1) := by decide +kernel
theorem dX5_tellsLine_39 : decode cX5_tellsLine 39 = .ok (.getfield 16, 3) := by decide +kernel
theorem dX5_tellsLine_42 : decode cX5_tellsLine 42 = .ok (.iload 4, 2) := by decide +kernel
theorem dX5_tellsLine_44 : decode cX5_tellsLine 44 = .ok (.iaload, 1) := by decide +kernel
theorem dX5_tellsLine_45 : decode cX5_tellsLine 45 = .ok (.iconst (-1), 1) := by decide +kernel
theorem dX5_tellsLine_46 : decode cX5_tellsLine 46 = .ok (.if_icmp .ne 7, 3) := by decide +kernel
theorem dX5_tellsLine_49 : decode cX5_tellsLine 49 = .ok (.iload_n 2, 1) := by decide +kernel
theorem dX5_tellsLine_50 : decode cX5_tellsLine 50 = .ok (.goto 10, 3) := by decide +kernel
theorem dX5_tellsLine_53 : decode cX5_tellsLine 53 = .ok (.aload_n 0, 1) := by decide +kernel
theorem dX5_tellsLine_54 : decode cX5_tellsLine 54 = .ok (.getfield 16, 3) := by decide +kernel
theorem dX5_tellsLine_57 : decode cX5_tellsLine 57 = .ok (.iload 4, 2) := by decide +kernel
theorem dX5_tellsLine_59 : decode cX5_tellsLine 59 = .ok (.iaload, 1) := by decide +kernel
theorem dX5_tellsLine_60 : decode cX5_tellsLine 60 = .ok (.iastore, 1) := by decide +kernel
theorem dX5_tellsLine_61 : decode cX5_tellsLine 61 = .ok (.iinc 3 1, 3) := by decide +kernel
theorem dX5_tellsLine_64 : decode cX5_tellsLine 64 = .ok (.goto (-45), 3) := by decide +kernel
theorem dX5_tellsLine_67 : decode cX5_tellsLine 67 = .ok (.iconst 1, 1) := by decide +kernel
theorem dX5_tellsLine_68 : decode cX5_tellsLine 68 = .ok (.ireturn, 1) := by decide +kernel
theorem dX5_tells_0 : decode cX5_tells 0 = .ok (.iconst 0, 1) := by decide +kernel
theorem dX5_tells_1 : decode cX5_tells 1 = .ok (.istore_n 3, 1) := by decide +kernel
theorem dX5_tells_2 : decode cX5_tells 2 = .ok (.iload_n 3, 1) := by decide +kernel
theorem dX5_tells_3 : decode cX5_tells 3 = .ok (.bipush 64, 2) := by decide +kernel
theorem dX5_tells_5 : decode cX5_tells 5 = .ok (.if_icmp .ge 42, 3) := by decide +kernel
theorem dX5_tells_8 : decode cX5_tells 8 = .ok (.aload_n 0, 1) := by decide +kernel
theorem dX5_tells_9 : decode cX5_tells 9 = .ok (.getfield 16, 3) := by decide +kernel
theorem dX5_tells_12 : decode cX5_tells 12 = .ok (.iload_n 3, 1) := by decide +kernel
theorem dX5_tells_13 : decode cX5_tells 13 = .ok (.aload_n 0, 1) := by decide +kernel
theorem dX5_tells_14 : decode cX5_tells 14 = .ok (.iload_n 1, 1) := by decide +kernel
theorem dX5_tells_15 : decode cX5_tells 15 = .ok (.iload_n 3, 1) := by decide +kernel
theorem dX5_tells_16 : decode cX5_tells 16 = .ok (.invokevirtual 35, 3) := by decide +kernel
theorem dX5_tells_19 : decode cX5_tells 19 = .ok (.invokestatic 66, 3) := by decide +kernel
theorem dX5_tells_22 : decode cX5_tells 22 = .ok (.ifCond .eq 17, 3) := by decide +kernel
theorem dX5_tells_25 : decode cX5_tells 25 = .ok (.iload_n 3, 1) := by decide +kernel
theorem dX5_tells_26 : decode cX5_tells 26 = .ok (.iload_n 2, 1) := by decide +kernel
theorem dX5_tells_27 : decode cX5_tells 27 = .ok (.if_icmp .eq 12, 3) := by decide +kernel
theorem dX5_tells_30 : decode cX5_tells 30 = .ok (.aload_n 0, 1) := by decide +kernel
theorem dX5_tells_31 : decode cX5_tells 31 = .ok (.iload_n 1, 1) := by decide +kernel
theorem dX5_tells_32 : decode cX5_tells 32 = .ok (.iload_n 3, 1) := by decide +kernel
theorem dX5_tells_33 : decode cX5_tells 33 = .ok (.invokevirtual 35, 3) := by decide +kernel
theorem dX5_tells_36 : decode cX5_tells 36 = .ok (.goto 4, 3) := by decide +kernel
theorem dX5_tells_39 : decode cX5_tells 39 = .ok (.iconst (-1), 1) := by decide +kernel
theorem dX5_tells_40 : decode cX5_tells 40 = .ok (.iastore, 1) := by decide +kernel
theorem dX5_tells_41 : decode cX5_tells 41 = .ok (.iinc 3 1, 3) := by decide +kernel
theorem dX5_tells_44 : decode cX5_tells 44 = .ok (.goto (-42), 3) := by decide +kernel
theorem dX5_tells_47 : decode cX5_tells 47 = .ok (.iconst 1, 1) := by decide +kernel
theorem dX5_tells_48 : decode cX5_tells 48 = .ok (.istore_n 3, 1) := by decide +kernel
theorem dX5_tells_49 : decode cX5_tells 49 = .ok (.iload_n 3, 1) := by decide +kernel
theorem dX5_tells_50 : decode cX5_tells 50 = .ok (.ifCond .eq 43, 3) := by decide +kernel
theorem dX5_tells_53 : decode cX5_tells 53 = .ok (.iconst 0, 1) := by decide +kernel
theorem dX5_tells_54 : decode cX5_tells 54 = .ok (.istore_n 3, 1) := by decide +kernel
theorem dX5_tells_55 : decode cX5_tells 55 = .ok (.iconst 0, 1) := by decide +kernel
theorem dX5_tells_56 : decode cX5_tells 56 = .ok (.istore 4, 2) := by decide +kernel
theorem dX5_tells_58 : decode cX5_tells 58 = .ok (.iload 4, 2) := by decide +kernel
theorem dX5_tells_60 : decode cX5_tells 60 = .ok (.bipush 16, 2) := by decide +kernel
theorem dX5_tells_62 : decode cX5_tells 62 = .ok (.if_icmp .ge 28, 3) := by decide +kernel
theorem dX5_tells_65 : decode cX5_tells 65 = .ok (.aload_n 0, 1) := by decide +kernel
theorem dX5_tells_66 : decode cX5_tells 66 = .ok (.iload 4, 2) := by decide +kernel
theorem dX5_tells_68 : decode cX5_tells 68 = .ok (.invokevirtual 70, 3) := by decide +kernel
theorem dX5_tells_71 : decode cX5_tells 71 = .ok (.ifCond .ne 7, 3) := by decide +kernel
theorem dX5_tells_74 : decode cX5_tells 74 = .ok (.iload_n 3, 1) := by decide +kernel
theorem dX5_tells_75 : decode cX5_tells 75 = .ok (.ifCond .eq 7, 3) := by decide +kernel
theorem dX5_tells_78 : decode cX5_tells 78 = .ok (.iconst 1, 1) := by decide +kernel
theorem dX5_tells_79 : decode cX5_tells 79 = .ok (.goto 4, 3) := by decide +kernel
theorem dX5_tells_82 : decode cX5_tells 82 = .ok (.iconst 0, 1) := by decide +kernel
theorem dX5_tells_83 : decode cX5_tells 83 = .ok (.istore_n 3, 1) := by decide +kernel
theorem dX5_tells_84 : decode cX5_tells 84 = .ok (.iinc 4 1, 3) := by decide +kernel
theorem dX5_tells_87 : decode cX5_tells 87 = .ok (.goto (-29), 3) := by decide +kernel
theorem dX5_tells_90 : decode cX5_tells 90 = .ok (.goto (-41), 3) := by decide +kernel
theorem dX5_tells_93 : decode cX5_tells 93 = .ok (.iconst 0, 1) := by decide +kernel
theorem dX5_tells_94 : decode cX5_tells 94 = .ok (.istore 4, 2) := by decide +kernel
theorem dX5_tells_96 : decode cX5_tells 96 = .ok (.iconst 0, 1) := by decide +kernel
theorem dX5_tells_97 : decode cX5_tells 97 = .ok (.istore 5, 2) := by decide +kernel
theorem dX5_tells_99 : decode cX5_tells 99 = .ok (.iload 5, 2) := by decide +kernel
theorem dX5_tells_101 : decode cX5_tells 101 = .ok (.bipush 64, 2) := by decide +kernel
theorem dX5_tells_103 : decode cX5_tells 103 = .ok (.if_icmp .ge 30, 3) := by decide +kernel
theorem dX5_tells_106 : decode cX5_tells 106 = .ok (.iload 4, 2) := by decide +kernel
theorem dX5_tells_108 : decode cX5_tells 108 = .ok (.aload_n 0, 1) := by decide +kernel
theorem dX5_tells_109 : decode cX5_tells 109 = .ok (.getfield 16, 3) := by decide +kernel
theorem dX5_tells_112 : decode cX5_tells 112 = .ok (.iload 5, 2) := by decide +kernel
theorem dX5_tells_114 : decode cX5_tells 114 = .ok (.iaload, 1) := by decide +kernel
theorem dX5_tells_115 : decode cX5_tells 115 = .ok (.iconst (-1), 1) := by decide +kernel
theorem dX5_tells_116 : decode cX5_tells 116 = .ok (.if_icmp .ne 7, 3) := by decide +kernel
theorem dX5_tells_119 : decode cX5_tells 119 = .ok (.iconst 1, 1) := by decide +kernel
theorem dX5_tells_120 : decode cX5_tells 120 = .ok (.goto 4, 3) := by decide +kernel
theorem dX5_tells_123 : decode cX5_tells 123 = .ok (.iconst 0, 1) := by decide +kernel
theorem dX5_tells_124 : decode cX5_tells 124 = .ok (.iadd, 1) := by decide +kernel
theorem dX5_tells_125 : decode cX5_tells 125 = .ok (.istore 4, 2) := by decide +kernel
theorem dX5_tells_127 : decode cX5_tells 127 = .ok (.iinc 5 1, 3) := by decide +kernel
theorem dX5_tells_130 : decode cX5_tells 130 = .ok (.goto (-31), 3) := by decide +kernel
theorem dX5_tells_133 : decode cX5_tells 133 = .ok (.iload 4, 2) := by decide +kernel
theorem dX5_tells_135 : decode cX5_tells 135 = .ok (.ireturn, 1) := by decide +kernel
theorem dX5_disagreeing_0 : decode cX5_disagreeing 0 = .ok (.iload_n 1, 1) := by decide +kernel
theorem dX5_disagreeing_1 : decode cX5_disagreeing 1 = .ok (.istore_n 2, 1) := by decide +kernel
theorem dX5_disagreeing_2 : decode cX5_disagreeing 2 = .ok (.iconst 0, 1) := by decide +kernel
theorem dX5_disagreeing_3 : decode cX5_disagreeing 3 = .ok (.istore_n 3, 1) := by decide +kernel
theorem dX5_disagreeing_4 : decode cX5_disagreeing 4 = .ok (.iload_n 3, 1) := by decide +kernel
theorem dX5_disagreeing_5 : decode cX5_disagreeing 5 = .ok (.bipush 16, 2) := by decide +kernel
theorem dX5_disagreeing_7 : decode cX5_disagreeing 7 = .ok (.if_icmp .ge 35, 3) := by decide +kernel
theorem dX5_disagreeing_10 : decode cX5_disagreeing 10 = .ok (.aload_n 0, 1) := by decide +kernel
theorem dX5_disagreeing_11 : decode cX5_disagreeing 11 = .ok (.iload_n 3, 1) := by decide +kernel
theorem dX5_disagreeing_12 : decode cX5_disagreeing 12 = .ok (.invokevirtual 60, 3) := by decide +kernel
theorem dX5_disagreeing_15 : decode cX5_disagreeing 15 = .ok (.ifCond .ne 21, 3) := by decide +kernel
theorem dX5_disagreeing_18 : decode cX5_disagreeing 18 = .ok (.aload_n 0, 1) := by decide +kernel
theorem dX5_disagreeing_19 : decode cX5_disagreeing 19 = .ok (.iload_n 3, 1) := by decide +kernel
theorem dX5_disagreeing_20 : decode cX5_disagreeing 20 = .ok (.invokevirtual 63, 3) := by decide +kernel
theorem dX5_disagreeing_23 : decode cX5_disagreeing 23 = .ok (.iconst 1, 1) := by decide +kernel
theorem dX5_disagreeing_24 : decode cX5_disagreeing 24 = .ok (.if_icmp .ne 12, 3) := by decide +kernel
theorem dX5_disagreeing_27 : decode cX5_disagreeing 27 = .ok (.iload_n 2, 1) := by decide +kernel
theorem dX5_disagreeing_28 : decode cX5_disagreeing 28 = .ok (.ifCond .ne 5, 3) := by decide +kernel
theorem dX5_disagreeing_31 : decode cX5_disagreeing 31 = .ok (.iload_n 3, 1) := by decide +kernel
theorem dX5_disagreeing_32 : decode cX5_disagreeing 32 = .ok (.ireturn, 1) := by decide +kernel
theorem dX5_disagreeing_33 : decode cX5_disagreeing 33 = .ok (.iinc 2 (-1), 3) := by decide +kernel
theorem dX5_disagreeing_36 : decode cX5_disagreeing 36 = .ok (.iinc 3 1, 3) := by decide +kernel
theorem dX5_disagreeing_39 : decode cX5_disagreeing 39 = .ok (.goto (-35), 3) := by decide +kernel
theorem dX5_disagreeing_42 : decode cX5_disagreeing 42 = .ok (.iconst (-1), 1) := by decide +kernel
theorem dX5_disagreeing_43 : decode cX5_disagreeing 43 = .ok (.ireturn, 1) := by decide +kernel
theorem dX5_disagreeingAll_0 : decode cX5_disagreeingAll 0 = .ok (.aload_n 0, 1) := by decide +kernel
theorem dX5_disagreeingAll_1 : decode cX5_disagreeingAll 1 = .ok (.iload_n 1, 1) := by decide +kernel
theorem dX5_disagreeingAll_2 : decode cX5_disagreeingAll 2 = .ok (.iconst (-1), 1) := by decide +kernel
theorem dX5_disagreeingAll_3 : decode cX5_disagreeingAll 3 = .ok (.invokevirtual 73, 3) := by decide +kernel
theorem dX5_disagreeingAll_6 : decode cX5_disagreeingAll 6 = .ok (.pop, 1) := by decide +kernel
theorem dX5_disagreeingAll_7 : decode cX5_disagreeingAll 7 = .ok (.iconst 0, 1) := by decide +kernel
theorem dX5_disagreeingAll_8 : decode cX5_disagreeingAll 8 = .ok (.istore_n 2, 1) := by decide +kernel
theorem dX5_disagreeingAll_9 : decode cX5_disagreeingAll 9 = .ok (.aload_n 0, 1) := by decide +kernel
theorem dX5_disagreeingAll_10 : decode cX5_disagreeingAll 10 = .ok (.iload_n 2, 1) := by decide +kernel
theorem dX5_disagreeingAll_11 : decode cX5_disagreeingAll 11 = .ok (.invokevirtual 76, 3) := by decide +kernel
theorem dX5_disagreeingAll_14 : decode cX5_disagreeingAll 14 = .ok (.iconst (-1), 1) := by decide +kernel
theorem dX5_disagreeingAll_15 : decode cX5_disagreeingAll 15 = .ok (.if_icmp .eq 9, 3) := by decide +kernel
theorem dX5_disagreeingAll_18 : decode cX5_disagreeingAll 18 = .ok (.iinc 2 1, 3) := by decide +kernel
theorem dX5_disagreeingAll_21 : decode cX5_disagreeingAll 21 = .ok (.goto (-12), 3) := by decide +kernel
theorem dX5_disagreeingAll_24 : decode cX5_disagreeingAll 24 = .ok (.iload_n 2, 1) := by decide +kernel
theorem dX5_disagreeingAll_25 : decode cX5_disagreeingAll 25 = .ok (.ireturn, 1) := by decide +kernel
theorem dX5_isBlank_0 : decode cX5_isBlank 0 = .ok (.iconst 1, 1) := by decide +kernel
theorem dX5_isBlank_1 : decode cX5_isBlank 1 = .ok (.istore_n 3, 1) := by decide +kernel
theorem dX5_isBlank_2 : decode cX5_isBlank 2 = .ok (.iconst 0, 1) := by decide +kernel
theorem dX5_isBlank_3 : decode cX5_isBlank 3 = .ok (.istore 4, 2) := by decide +kernel
theorem dX5_isBlank_5 : decode cX5_isBlank 5 = .ok (.iload 4, 2) := by decide +kernel
theorem dX5_isBlank_7 : decode cX5_isBlank 7 = .ok (.bipush 8, 2) := by decide +kernel
theorem dX5_isBlank_9 : decode cX5_isBlank 9 = .ok (.if_icmp .ge 35, 3) := by decide +kernel
theorem dX5_isBlank_12 : decode cX5_isBlank 12 = .ok (.iload_n 3, 1) := by decide +kernel
theorem dX5_isBlank_13 : decode cX5_isBlank 13 = .ok (.ifCond .eq 23, 3) := by decide +kernel
theorem dX5_isBlank_16 : decode cX5_isBlank 16 = .ok (.aload_n 0, 1) := by decide +kernel
theorem dX5_isBlank_17 : decode cX5_isBlank 17 = .ok (.iload_n 1, 1) := by decide +kernel
theorem dX5_isBlank_18 : decode cX5_isBlank 18 = .ok (.bipush 8, 2) := by decide +kernel
theorem dX5_isBlank_20 : decode cX5_isBlank 20 = .ok (.iload_n 2, 1) := by decide +kernel
theorem dX5_isBlank_21 : decode cX5_isBlank 21 = .ok (.imul, 1) := by decide +kernel
theorem dX5_isBlank_22 : decode cX5_isBlank 22 = .ok (.iload 4, 2) := by decide +kernel
theorem dX5_isBlank_24 : decode cX5_isBlank 24 = .ok (.iadd, 1) := by decide +kernel
theorem dX5_isBlank_25 : decode cX5_isBlank 25 = .ok (.invokevirtual 35, 3) := by decide +kernel
theorem dX5_isBlank_28 : decode cX5_isBlank 28 = .ok (.iconst 2, 1) := by decide +kernel
theorem dX5_isBlank_29 : decode cX5_isBlank 29 = .ok (.if_icmp .ne 7, 3) := by decide +kernel
theorem dX5_isBlank_32 : decode cX5_isBlank 32 = .ok (.iconst 1, 1) := by decide +kernel
theorem dX5_isBlank_33 : decode cX5_isBlank 33 = .ok (.goto 4, 3) := by decide +kernel
theorem dX5_isBlank_36 : decode cX5_isBlank 36 = .ok (.iconst 0, 1) := by decide +kernel
theorem dX5_isBlank_37 : decode cX5_isBlank 37 = .ok (.istore_n 3, 1) := by decide +kernel
theorem dX5_isBlank_38 : decode cX5_isBlank 38 = .ok (.iinc 4 1, 3) := by decide +kernel
theorem dX5_isBlank_41 : decode cX5_isBlank 41 = .ok (.goto (-36), 3) := by decide +kernel
theorem dX5_isBlank_44 : decode cX5_isBlank 44 = .ok (.iload_n 3, 1) := by decide +kernel
theorem dX5_isBlank_45 : decode cX5_isBlank 45 = .ok (.ireturn, 1) := by decide +kernel
theorem dX5_punches_0 : decode cX5_punches 0 = .ok (.iconst 0, 1) := by decide +kernel
theorem dX5_punches_1 : decode cX5_punches 1 = .ok (.istore 4, 2) := by decide +kernel
theorem dX5_punches_3 : decode cX5_punches 3 = .ok (.iconst 0, 1) := by decide +kernel
theorem dX5_punches_4 : decode cX5_punches 4 = .ok (.istore 5, 2) := by decide +kernel
theorem dX5_punches_6 : decode cX5_punches 6 = .ok (.iload 5, 2) := by decide +kernel
theorem dX5_punches_8 : decode cX5_punches 8 = .ok (.bipush 7, 2) := by decide +kernel
theorem dX5_punches_10 : decode cX5_punches 10 = .ok (.if_icmp .ge 41, 3) := by decide +kernel
theorem dX5_punches_13 : decode cX5_punches 13 = .ok (.iload_n 3, 1) := by decide +kernel
theorem dX5_punches_14 : decode cX5_punches 14 = .ok (.bipush 6, 2) := by decide +kernel
theorem dX5_punches_16 : decode cX5_punches 16 = .ok (.iload 5, 2) := by decide +kernel
theorem dX5_punches_18 : decode cX5_punches 18 = .ok (.isub, 1) := by decide +kernel
theorem dX5_punches_19 : decode cX5_punches 19 = .ok (.ishr, 1) := by decide +kernel
theorem dX5_punches_20 : decode cX5_punches 20 = .ok (.iconst 1, 1) := by decide +kernel
theorem dX5_punches_21 : decode cX5_punches 21 = .ok (.iand, 1) := by decide +kernel
theorem dX5_punches_22 : decode cX5_punches 22 = .ok (.istore 6, 2) := by decide +kernel
theorem dX5_punches_24 : decode cX5_punches 24 = .ok (.aload_n 0, 1) := by decide +kernel
theorem dX5_punches_25 : decode cX5_punches 25 = .ok (.iload_n 1, 1) := by decide +kernel
theorem dX5_punches_26 : decode cX5_punches 26 = .ok (.bipush 8, 2) := by decide +kernel
theorem dX5_punches_28 : decode cX5_punches 28 = .ok (.iload_n 2, 1) := by decide +kernel
theorem dX5_punches_29 : decode cX5_punches 29 = .ok (.imul, 1) := by decide +kernel
theorem dX5_punches_30 : decode cX5_punches 30 = .ok (.iload 5, 2) := by decide +kernel
theorem dX5_punches_32 : decode cX5_punches 32 = .ok (.iadd, 1) := by decide +kernel
theorem dX5_punches_33 : decode cX5_punches 33 = .ok (.iload 6, 2) := by decide +kernel
theorem dX5_punches_35 : decode cX5_punches 35 = .ok (.invokevirtual 31, 3) := by decide +kernel
theorem dX5_punches_38 : decode cX5_punches 38 = .ok (.iload 4, 2) := by decide +kernel
theorem dX5_punches_40 : decode cX5_punches 40 = .ok (.iload 6, 2) := by decide +kernel
theorem dX5_punches_42 : decode cX5_punches 42 = .ok (.ixor, 1) := by decide +kernel
theorem dX5_punches_43 : decode cX5_punches 43 = .ok (.istore 4, 2) := by decide +kernel
theorem dX5_punches_45 : decode cX5_punches 45 = .ok (.iinc 5 1, 3) := by decide +kernel
theorem dX5_punches_48 : decode cX5_punches 48 = .ok (.goto (-42), 3) := by decide +kernel
theorem dX5_punches_51 : decode cX5_punches 51 = .ok (.aload_n 0, 1) := by decide +kernel
theorem dX5_punches_52 : decode cX5_punches 52 = .ok (.iload_n 1, 1) := by decide +kernel
theorem dX5_punches_53 : decode cX5_punches 53 = .ok (.bipush 8, 2) := by decide +kernel
theorem dX5_punches_55 : decode cX5_punches 55 = .ok (.iload_n 2, 1) := by decide +kernel
theorem dX5_punches_56 : decode cX5_punches 56 = .ok (.imul, 1) := by decide +kernel
theorem dX5_punches_57 : decode cX5_punches 57 = .ok (.bipush 8, 2) := by decide +kernel
theorem dX5_punches_59 : decode cX5_punches 59 = .ok (.iadd, 1) := by decide +kernel
theorem dX5_punches_60 : decode cX5_punches 60 = .ok (.iconst 1, 1) := by decide +kernel
theorem dX5_punches_61 : decode cX5_punches 61 = .ok (.isub, 1) := by decide +kernel
theorem dX5_punches_62 : decode cX5_punches 62 = .ok (.iload 4, 2) := by decide +kernel
theorem dX5_punches_64 : decode cX5_punches 64 = .ok (.invokevirtual 31, 3) := by decide +kernel
theorem dX5_punches_67 : decode cX5_punches 67 = .ok (.iload 4, 2) := by decide +kernel
theorem dX5_punches_69 : decode cX5_punches 69 = .ok (.ireturn, 1) := by decide +kernel
theorem dX5_canClose_0 : decode cX5_canClose 0 = .ok (.aload_n 0, 1) := by decide +kernel
theorem dX5_canClose_1 : decode cX5_canClose 1 = .ok (.iload_n 1, 1) := by decide +kernel
theorem dX5_canClose_2 : decode cX5_canClose 2 = .ok (.bipush 7, 2) := by decide +kernel
theorem dX5_canClose_4 : decode cX5_canClose 4 = .ok (.invokevirtual 79, 3) := by decide +kernel
theorem dX5_canClose_7 : decode cX5_canClose 7 = .ok (.istore_n 2, 1) := by decide +kernel
theorem dX5_canClose_8 : decode cX5_canClose 8 = .ok (.iconst 0, 1) := by decide +kernel
theorem dX5_canClose_9 : decode cX5_canClose 9 = .ok (.istore_n 3, 1) := by decide +kernel
theorem dX5_canClose_10 : decode cX5_canClose 10 = .ok (.iload_n 3, 1) := by decide +kernel
theorem dX5_canClose_11 : decode cX5_canClose 11 = .ok (.bipush 56, 2) := by decide +kernel
theorem dX5_canClose_13 : decode cX5_canClose 13 = .ok (.if_icmp .ge 31, 3) := by decide +kernel
theorem dX5_canClose_16 : decode cX5_canClose 16 = .ok (.iload_n 2, 1) := by decide +kernel
theorem dX5_canClose_17 : decode cX5_canClose 17 = .ok (.ifCond .eq 19, 3) := by decide +kernel
theorem dX5_canClose_20 : decode cX5_canClose 20 = .ok (.aload_n 0, 1) := by decide +kernel
theorem dX5_canClose_21 : decode cX5_canClose 21 = .ok (.iload_n 1, 1) := by decide +kernel
theorem dX5_canClose_22 : decode cX5_canClose 22 = .ok (.iload_n 3, 1) := by decide +kernel
theorem dX5_canClose_23 : decode cX5_canClose 23 = .ok (.invokevirtual 35, 3) := by decide +kernel
theorem dX5_canClose_26 : decode cX5_canClose 26 = .ok (.invokestatic 66, 3) := by decide +kernel
theorem dX5_canClose_29 : decode cX5_canClose 29 = .ok (.ifCond .eq 7, 3) := by decide +kernel
theorem dX5_canClose_32 : decode cX5_canClose 32 = .ok (.iconst 1, 1) := by decide +kernel
theorem dX5_canClose_33 : decode cX5_canClose 33 = .ok (.goto 4, 3) := by decide +kernel
theorem dX5_canClose_36 : decode cX5_canClose 36 = .ok (.iconst 0, 1) := by decide +kernel
theorem dX5_canClose_37 : decode cX5_canClose 37 = .ok (.istore_n 2, 1) := by decide +kernel
theorem dX5_canClose_38 : decode cX5_canClose 38 = .ok (.iinc 3 1, 3) := by decide +kernel
theorem dX5_canClose_41 : decode cX5_canClose 41 = .ok (.goto (-31), 3) := by decide +kernel
theorem dX5_canClose_44 : decode cX5_canClose 44 = .ok (.iload_n 2, 1) := by decide +kernel
theorem dX5_canClose_45 : decode cX5_canClose 45 = .ok (.ireturn, 1) := by decide +kernel
theorem dX5_closes_0 : decode cX5_closes 0 = .ok (.iconst 0, 1) := by decide +kernel
theorem dX5_closes_1 : decode cX5_closes 1 = .ok (.istore_n 2, 1) := by decide +kernel
theorem dX5_closes_2 : decode cX5_closes 2 = .ok (.iconst 0, 1) := by decide +kernel
theorem dX5_closes_3 : decode cX5_closes 3 = .ok (.istore_n 3, 1) := by decide +kernel
theorem dX5_closes_4 : decode cX5_closes 4 = .ok (.iload_n 3, 1) := by decide +kernel
theorem dX5_closes_5 : decode cX5_closes 5 = .ok (.bipush 8, 2) := by decide +kernel
theorem dX5_closes_7 : decode cX5_closes 7 = .ok (.if_icmp .ge 61, 3) := by decide +kernel
theorem dX5_closes_10 : decode cX5_closes 10 = .ok (.iconst 0, 1) := by decide +kernel
theorem dX5_closes_11 : decode cX5_closes 11 = .ok (.istore 4, 2) := by decide +kernel
theorem dX5_closes_13 : decode cX5_closes 13 = .ok (.iconst 0, 1) := by decide +kernel
theorem dX5_closes_14 : decode cX5_closes 14 = .ok (.istore 5, 2) := by decide +kernel
theorem dX5_closes_16 : decode cX5_closes 16 = .ok (.iload 5, 2) := by decide +kernel
theorem dX5_closes_18 : decode cX5_closes 18 = .ok (.bipush 7, 2) := by decide +kernel
theorem dX5_closes_20 : decode cX5_closes 20 = .ok (.if_icmp .ge 26, 3) := by decide +kernel
theorem dX5_closes_23 : decode cX5_closes 23 = .ok (.iload 4, 2) := by decide +kernel
theorem dX5_closes_25 : decode cX5_closes 25 = .ok (.aload_n 0, 1) := by decide +kernel
theorem dX5_closes_26 : decode cX5_closes 26 = .ok (.iload_n 1, 1) := by decide +kernel
theorem dX5_closes_27 : decode cX5_closes 27 = .ok (.bipush 8, 2) := by decide +kernel
theorem dX5_closes_29 : decode cX5_closes 29 = .ok (.iload 5, 2) := by decide +kernel
theorem dX5_closes_31 : decode cX5_closes 31 = .ok (.imul, 1) := by decide +kernel
theorem dX5_closes_32 : decode cX5_closes 32 = .ok (.iload_n 3, 1) := by decide +kernel
theorem dX5_closes_33 : decode cX5_closes 33 = .ok (.iadd, 1) := by decide +kernel
theorem dX5_closes_34 : decode cX5_closes 34 = .ok (.invokevirtual 35, 3) := by decide +kernel
theorem dX5_closes_37 : decode cX5_closes 37 = .ok (.ixor, 1) := by decide +kernel
theorem dX5_closes_38 : decode cX5_closes 38 = .ok (.istore 4, 2) := by decide +kernel
theorem dX5_closes_40 : decode cX5_closes 40 = .ok (.iinc 5 1, 3) := by decide +kernel
theorem dX5_closes_43 : decode cX5_closes 43 = .ok (.goto (-27), 3) := by decide +kernel
theorem dX5_closes_46 : decode cX5_closes 46 = .ok (.aload_n 0, 1) := by decide +kernel
theorem dX5_closes_47 : decode cX5_closes 47 = .ok (.iload_n 1, 1) := by decide +kernel
theorem dX5_closes_48 : decode cX5_closes 48 = .ok (.bipush 56, 2) := by decide +kernel
theorem dX5_closes_50 : decode cX5_closes 50 = .ok (.iload_n 3, 1) := by decide +kernel
theorem dX5_closes_51 : decode cX5_closes 51 = .ok (.iadd, 1) := by decide +kernel
theorem dX5_closes_52 : decode cX5_closes 52 = .ok (.iload 4, 2) := by decide +kernel
theorem dX5_closes_54 : decode cX5_closes 54 = .ok (.invokevirtual 31, 3) := by decide +kernel
theorem dX5_closes_57 : decode cX5_closes 57 = .ok (.iload_n 2, 1) := by decide +kernel
theorem dX5_closes_58 : decode cX5_closes 58 = .ok (.iload 4, 2) := by decide +kernel
theorem dX5_closes_60 : decode cX5_closes 60 = .ok (.iadd, 1) := by decide +kernel
theorem dX5_closes_61 : decode cX5_closes 61 = .ok (.istore_n 2, 1) := by decide +kernel
theorem dX5_closes_62 : decode cX5_closes 62 = .ok (.iinc 3 1, 3) := by decide +kernel
theorem dX5_closes_65 : decode cX5_closes 65 = .ok (.goto (-61), 3) := by decide +kernel
theorem dX5_closes_68 : decode cX5_closes 68 = .ok (.iload_n 2, 1) := by decide +kernel
theorem dX5_closes_69 : decode cX5_closes 69 = .ok (.ireturn, 1) := by decide +kernel
theorem dX5_copies_0 : decode cX5_copies 0 = .ok (.iconst 0, 1) := by decide +kernel
theorem dX5_copies_1 : decode cX5_copies 1 = .ok (.istore_n 3, 1) := by decide +kernel
theorem dX5_copies_2 : decode cX5_copies 2 = .ok (.iload_n 3, 1) := by decide +kernel
theorem dX5_copies_3 : decode cX5_copies 3 = .ok (.sipush 195, 3) := by decide +kernel
theorem dX5_copies_6 : decode cX5_copies 6 = .ok (.if_icmp .ge 33, 3) := by decide +kernel
theorem dX5_copies_9 : decode cX5_copies 9 = .ok (.aload_n 0, 1) := by decide +kernel
theorem dX5_copies_10 : decode cX5_copies 10 = .ok (.getfield 7, 3) := by decide +kernel
theorem dX5_copies_13 : decode cX5_copies 13 = .ok (.sipush 195, 3) := by decide +kernel
theorem dX5_copies_16 : decode cX5_copies 16 = .ok (.iload_n 2, 1) := by decide +kernel
theorem dX5_copies_17 : decode cX5_copies 17 = .ok (.imul, 1) := by decide +kernel
theorem dX5_copies_18 : decode cX5_copies 18 = .ok (.iload_n 3, 1) := by decide +kernel
theorem dX5_copies_19 : decode cX5_copies 19 = .ok (.iadd, 1) := by decide +kernel
theorem dX5_copies_20 : decode cX5_copies 20 = .ok (.aload_n 0, 1) := by decide +kernel
theorem dX5_copies_21 : decode cX5_copies 21 = .ok (.getfield 7, 3) := by decide +kernel
theorem dX5_copies_24 : decode cX5_copies 24 = .ok (.sipush 195, 3) := by decide +kernel
theorem dX5_copies_27 : decode cX5_copies 27 = .ok (.iload_n 1, 1) := by decide +kernel
theorem dX5_copies_28 : decode cX5_copies 28 = .ok (.imul, 1) := by decide +kernel
theorem dX5_copies_29 : decode cX5_copies 29 = .ok (.iload_n 3, 1) := by decide +kernel
theorem dX5_copies_30 : decode cX5_copies 30 = .ok (.iadd, 1) := by decide +kernel
theorem dX5_copies_31 : decode cX5_copies 31 = .ok (.iaload, 1) := by decide +kernel
theorem dX5_copies_32 : decode cX5_copies 32 = .ok (.iastore, 1) := by decide +kernel
theorem dX5_copies_33 : decode cX5_copies 33 = .ok (.iinc 3 1, 3) := by decide +kernel
theorem dX5_copies_36 : decode cX5_copies 36 = .ok (.goto (-34), 3) := by decide +kernel
theorem dX5_copies_39 : decode cX5_copies 39 = .ok (.return_, 1) := by decide +kernel
theorem dX5_save_0 : decode cX5_save 0 = .ok (.iconst 1, 1) := by decide +kernel
theorem dX5_save_1 : decode cX5_save 1 = .ok (.istore_n 1, 1) := by decide +kernel
theorem dX5_save_2 : decode cX5_save 2 = .ok (.iload_n 1, 1) := by decide +kernel
theorem dX5_save_3 : decode cX5_save 3 = .ok (.bipush 6, 2) := by decide +kernel
theorem dX5_save_5 : decode cX5_save 5 = .ok (.if_icmp .ge 26, 3) := by decide +kernel
theorem dX5_save_8 : decode cX5_save 8 = .ok (.aload_n 0, 1) := by decide +kernel
theorem dX5_save_9 : decode cX5_save 9 = .ok (.getfield 82, 3) := by decide +kernel
theorem dX5_save_12 : decode cX5_save 12 = .ok (.bipush 6, 2) := by decide +kernel
theorem dX5_save_14 : decode cX5_save 14 = .ok (.if_icmp .ne 17, 3) := by decide +kernel
theorem dX5_save_17 : decode cX5_save 17 = .ok (.aload_n 0, 1) := by decide +kernel
theorem dX5_save_18 : decode cX5_save 18 = .ok (.iload_n 1, 1) := by decide +kernel
theorem dX5_save_19 : decode cX5_save 19 = .ok (.iconst 1, 1) := by decide +kernel
theorem dX5_save_20 : decode cX5_save 20 = .ok (.iadd, 1) := by decide +kernel
theorem dX5_save_21 : decode cX5_save 21 = .ok (.iload_n 1, 1) := by decide +kernel
theorem dX5_save_22 : decode cX5_save 22 = .ok (.invokevirtual 85, 3) := by decide +kernel
theorem dX5_save_25 : decode cX5_save 25 = .ok (.iinc 1 1, 3) := by decide +kernel
theorem dX5_save_28 : decode cX5_save 28 = .ok (.goto (-26), 3) := by decide +kernel
theorem dX5_save_31 : decode cX5_save 31 = .ok (.aload_n 0, 1) := by decide +kernel
theorem dX5_save_32 : decode cX5_save 32 = .ok (.dup, 1) := by decide +kernel
theorem dX5_save_33 : decode cX5_save 33 = .ok (.getfield 82, 3) := by decide +kernel
theorem dX5_save_36 : decode cX5_save 36 = .ok (.aload_n 0, 1) := by decide +kernel
theorem dX5_save_37 : decode cX5_save 37 = .ok (.getfield 82, 3) := by decide +kernel
theorem dX5_save_40 : decode cX5_save 40 = .ok (.bipush 6, 2) := by decide +kernel
theorem dX5_save_42 : decode cX5_save 42 = .ok (.if_icmp .ge 7, 3) := by decide +kernel
theorem dX5_save_45 : decode cX5_save 45 = .ok (.iconst 1, 1) := by decide +kernel
theorem dX5_save_46 : decode cX5_save 46 = .ok (.goto 4, 3) := by decide +kernel
theorem dX5_save_49 : decode cX5_save 49 = .ok (.iconst 0, 1) := by decide +kernel
theorem dX5_save_50 : decode cX5_save 50 = .ok (.iadd, 1) := by decide +kernel
theorem dX5_save_51 : decode cX5_save 51 = .ok (.putfield 82, 3) := by decide +kernel
theorem dX5_save_54 : decode cX5_save 54 = .ok (.aload_n 0, 1) := by decide +kernel
theorem dX5_save_55 : decode cX5_save 55 = .ok (.iconst 0, 1) := by decide +kernel
theorem dX5_save_56 : decode cX5_save 56 = .ok (.aload_n 0, 1) := by decide +kernel
theorem dX5_save_57 : decode cX5_save 57 = .ok (.getfield 82, 3) := by decide +kernel
theorem dX5_save_60 : decode cX5_save 60 = .ok (.invokevirtual 85, 3) := by decide +kernel
theorem dX5_save_63 : decode cX5_save 63 = .ok (.return_, 1) := by decide +kernel
theorem dX5_punch_0 : decode cX5_punch 0 = .ok (.iload_n 1, 1) := by decide +kernel
theorem dX5_punch_1 : decode cX5_punch 1 = .ok (.invokestatic 89, 3) := by decide +kernel
theorem dX5_punch_4 : decode cX5_punch 4 = .ok (.ifCond .eq 17, 3) := by decide +kernel
theorem dX5_punch_7 : decode cX5_punch 7 = .ok (.iload_n 2, 1) := by decide +kernel
theorem dX5_punch_8 : decode cX5_punch 8 = .ok (.iconst 0, 1) := by decide +kernel
theorem dX5_punch_9 : decode cX5_punch 9 = .ok (.bipush 6, 2) := by decide +kernel
theorem dX5_punch_11 : decode cX5_punch 11 = .ok (.invokestatic 27, 3) := by decide +kernel
theorem dX5_punch_14 : decode cX5_punch 14 = .ok (.ifCond .eq 7, 3) := by decide +kernel
theorem dX5_punch_17 : decode cX5_punch 17 = .ok (.iconst 1, 1) := by decide +kernel
theorem dX5_punch_18 : decode cX5_punch 18 = .ok (.goto 4, 3) := by decide +kernel
theorem dX5_punch_21 : decode cX5_punch 21 = .ok (.iconst 0, 1) := by decide +kernel
theorem dX5_punch_22 : decode cX5_punch 22 = .ok (.istore 4, 2) := by decide +kernel
theorem dX5_punch_24 : decode cX5_punch 24 = .ok (.aload_n 0, 1) := by decide +kernel
theorem dX5_punch_25 : decode cX5_punch 25 = .ok (.iload 4, 2) := by decide +kernel
theorem dX5_punch_27 : decode cX5_punch 27 = .ok (.ifCond .ne 7, 3) := by decide +kernel
theorem dX5_punch_30 : decode cX5_punch 30 = .ok (.iconst 1, 1) := by decide +kernel
theorem dX5_punch_31 : decode cX5_punch 31 = .ok (.goto 31, 3) := by decide +kernel
theorem dX5_punch_34 : decode cX5_punch 34 = .ok (.iload_n 3, 1) := by decide +kernel
theorem dX5_punch_35 : decode cX5_punch 35 = .ok (.iconst 0, 1) := by decide +kernel
theorem dX5_punch_36 : decode cX5_punch 36 = .ok (.bipush 127, 2) := by decide +kernel
theorem dX5_punch_38 : decode cX5_punch 38 = .ok (.invokestatic 27, 3) := by decide +kernel
theorem dX5_punch_41 : decode cX5_punch 41 = .ok (.ifCond .ne 7, 3) := by decide +kernel
theorem dX5_punch_44 : decode cX5_punch 44 = .ok (.iconst 2, 1) := by decide +kernel
theorem dX5_punch_45 : decode cX5_punch 45 = .ok (.goto 17, 3) := by decide +kernel
theorem dX5_punch_48 : decode cX5_punch 48 = .ok (.aload_n 0, 1) := by decide +kernel
theorem dX5_punch_49 : decode cX5_punch 49 = .ok (.iload_n 1, 1) := by decide +kernel
theorem dX5_punch_50 : decode cX5_punch 50 = .ok (.iload_n 2, 1) := by decide +kernel
theorem dX5_punch_51 : decode cX5_punch 51 = .ok (.invokevirtual 79, 3) := by decide +kernel
theorem dX5_punch_54 : decode cX5_punch 54 = .ok (.ifCond .ne 7, 3) := by decide +kernel
theorem dX5_punch_57 : decode cX5_punch 57 = .ok (.iconst 3, 1) := by decide +kernel
theorem dX5_punch_58 : decode cX5_punch 58 = .ok (.goto 4, 3) := by decide +kernel
theorem dX5_punch_61 : decode cX5_punch 61 = .ok (.iconst 0, 1) := by decide +kernel
theorem dX5_punch_62 : decode cX5_punch 62 = .ok (.invokevirtual 92, 3) := by decide +kernel
theorem dX5_punch_65 : decode cX5_punch 65 = .ok (.ifCond .ne 5, 3) := by decide +kernel
theorem dX5_punch_68 : decode cX5_punch 68 = .ok (.iconst 0, 1) := by decide +kernel
theorem dX5_punch_69 : decode cX5_punch 69 = .ok (.ireturn, 1) := by decide +kernel
theorem dX5_punch_70 : decode cX5_punch 70 = .ok (.aload_n 0, 1) := by decide +kernel
theorem dX5_punch_71 : decode cX5_punch 71 = .ok (.invokevirtual 95, 3) := by decide +kernel
theorem dX5_punch_74 : decode cX5_punch 74 = .ok (.aload_n 0, 1) := by decide +kernel
theorem dX5_punch_75 : decode cX5_punch 75 = .ok (.iload_n 1, 1) := by decide +kernel
theorem dX5_punch_76 : decode cX5_punch 76 = .ok (.iload_n 2, 1) := by decide +kernel
theorem dX5_punch_77 : decode cX5_punch 77 = .ok (.iload_n 3, 1) := by decide +kernel
theorem dX5_punch_78 : decode cX5_punch 78 = .ok (.invokevirtual 98, 3) := by decide +kernel
theorem dX5_punch_81 : decode cX5_punch 81 = .ok (.ireturn, 1) := by decide +kernel
theorem dX5_close_0 : decode cX5_close 0 = .ok (.iload_n 1, 1) := by decide +kernel
theorem dX5_close_1 : decode cX5_close 1 = .ok (.invokestatic 89, 3) := by decide +kernel
theorem dX5_close_4 : decode cX5_close 4 = .ok (.istore_n 2, 1) := by decide +kernel
theorem dX5_close_5 : decode cX5_close 5 = .ok (.aload_n 0, 1) := by decide +kernel
theorem dX5_close_6 : decode cX5_close 6 = .ok (.iload_n 2, 1) := by decide +kernel
theorem dX5_close_7 : decode cX5_close 7 = .ok (.ifCond .ne 7, 3) := by decide +kernel
theorem dX5_close_10 : decode cX5_close 10 = .ok (.iconst 1, 1) := by decide +kernel
theorem dX5_close_11 : decode cX5_close 11 = .ok (.goto 16, 3) := by decide +kernel
theorem dX5_close_14 : decode cX5_close 14 = .ok (.aload_n 0, 1) := by decide +kernel
theorem dX5_close_15 : decode cX5_close 15 = .ok (.iload_n 1, 1) := by decide +kernel
theorem dX5_close_16 : decode cX5_close 16 = .ok (.invokevirtual 101, 3) := by decide +kernel
theorem dX5_close_19 : decode cX5_close 19 = .ok (.ifCond .ne 7, 3) := by decide +kernel
theorem dX5_close_22 : decode cX5_close 22 = .ok (.iconst 2, 1) := by decide +kernel
theorem dX5_close_23 : decode cX5_close 23 = .ok (.goto 4, 3) := by decide +kernel
theorem dX5_close_26 : decode cX5_close 26 = .ok (.iconst 0, 1) := by decide +kernel
theorem dX5_close_27 : decode cX5_close 27 = .ok (.invokevirtual 92, 3) := by decide +kernel
theorem dX5_close_30 : decode cX5_close 30 = .ok (.ifCond .ne 5, 3) := by decide +kernel
theorem dX5_close_33 : decode cX5_close 33 = .ok (.iconst 0, 1) := by decide +kernel
theorem dX5_close_34 : decode cX5_close 34 = .ok (.ireturn, 1) := by decide +kernel
theorem dX5_close_35 : decode cX5_close 35 = .ok (.aload_n 0, 1) := by decide +kernel
theorem dX5_close_36 : decode cX5_close 36 = .ok (.invokevirtual 95, 3) := by decide +kernel
theorem dX5_close_39 : decode cX5_close 39 = .ok (.aload_n 0, 1) := by decide +kernel
theorem dX5_close_40 : decode cX5_close 40 = .ok (.iload_n 1, 1) := by decide +kernel
theorem dX5_close_41 : decode cX5_close 41 = .ok (.invokevirtual 104, 3) := by decide +kernel
theorem dX5_close_44 : decode cX5_close 44 = .ok (.ireturn, 1) := by decide +kernel
theorem dX5_renew_0 : decode cX5_renew 0 = .ok (.aload_n 0, 1) := by decide +kernel
theorem dX5_renew_1 : decode cX5_renew 1 = .ok (.iload_n 1, 1) := by decide +kernel
theorem dX5_renew_2 : decode cX5_renew 2 = .ok (.invokestatic 89, 3) := by decide +kernel
theorem dX5_renew_5 : decode cX5_renew 5 = .ok (.ifCond .eq 7, 3) := by decide +kernel
theorem dX5_renew_8 : decode cX5_renew 8 = .ok (.iconst 0, 1) := by decide +kernel
theorem dX5_renew_9 : decode cX5_renew 9 = .ok (.goto 4, 3) := by decide +kernel
theorem dX5_renew_12 : decode cX5_renew 12 = .ok (.iconst 1, 1) := by decide +kernel
theorem dX5_renew_13 : decode cX5_renew 13 = .ok (.invokevirtual 92, 3) := by decide +kernel
theorem dX5_renew_16 : decode cX5_renew 16 = .ok (.ifCond .ne 5, 3) := by decide +kernel
theorem dX5_renew_19 : decode cX5_renew 19 = .ok (.iconst 0, 1) := by decide +kernel
theorem dX5_renew_20 : decode cX5_renew 20 = .ok (.ireturn, 1) := by decide +kernel
theorem dX5_renew_21 : decode cX5_renew 21 = .ok (.aload_n 0, 1) := by decide +kernel
theorem dX5_renew_22 : decode cX5_renew 22 = .ok (.invokevirtual 95, 3) := by decide +kernel
theorem dX5_renew_25 : decode cX5_renew 25 = .ok (.aload_n 0, 1) := by decide +kernel
theorem dX5_renew_26 : decode cX5_renew 26 = .ok (.iload_n 1, 1) := by decide +kernel
theorem dX5_renew_27 : decode cX5_renew 27 = .ok (.iconst 0, 1) := by decide +kernel
theorem dX5_renew_28 : decode cX5_renew 28 = .ok (.invokevirtual 107, 3) := by decide +kernel
theorem dX5_renew_31 : decode cX5_renew 31 = .ok (.aload_n 0, 1) := by decide +kernel
theorem dX5_renew_32 : decode cX5_renew 32 = .ok (.iload_n 1, 1) := by decide +kernel
theorem dX5_renew_33 : decode cX5_renew 33 = .ok (.iconst 1, 1) := by decide +kernel
theorem dX5_renew_34 : decode cX5_renew 34 = .ok (.invokevirtual 107, 3) := by decide +kernel
theorem dX5_renew_37 : decode cX5_renew 37 = .ok (.iadd, 1) := by decide +kernel
theorem dX5_renew_38 : decode cX5_renew 38 = .ok (.iconst 2, 1) := by decide +kernel
theorem dX5_renew_39 : decode cX5_renew 39 = .ok (.aload_n 0, 1) := by decide +kernel
theorem dX5_renew_40 : decode cX5_renew 40 = .ok (.iload_n 1, 1) := by decide +kernel
theorem dX5_renew_41 : decode cX5_renew 41 = .ok (.iconst 3, 1) := by decide +kernel
theorem dX5_renew_42 : decode cX5_renew 42 = .ok (.invokevirtual 107, 3) := by decide +kernel
theorem dX5_renew_45 : decode cX5_renew 45 = .ok (.imul, 1) := by decide +kernel
theorem dX5_renew_46 : decode cX5_renew 46 = .ok (.iadd, 1) := by decide +kernel
theorem dX5_renew_47 : decode cX5_renew 47 = .ok (.istore_n 2, 1) := by decide +kernel
theorem dX5_renew_48 : decode cX5_renew 48 = .ok (.aload_n 0, 1) := by decide +kernel
theorem dX5_renew_49 : decode cX5_renew 49 = .ok (.iload_n 1, 1) := by decide +kernel
theorem dX5_renew_50 : decode cX5_renew 50 = .ok (.invokevirtual 19, 3) := by decide +kernel
theorem dX5_renew_53 : decode cX5_renew 53 = .ok (.iload_n 2, 1) := by decide +kernel
theorem dX5_renew_54 : decode cX5_renew 54 = .ok (.ireturn, 1) := by decide +kernel
theorem dX5_copy_0 : decode cX5_copy 0 = .ok (.aload_n 0, 1) := by decide +kernel
theorem dX5_copy_1 : decode cX5_copy 1 = .ok (.iload_n 1, 1) := by decide +kernel
theorem dX5_copy_2 : decode cX5_copy 2 = .ok (.invokestatic 89, 3) := by decide +kernel
theorem dX5_copy_5 : decode cX5_copy 5 = .ok (.ifCond .eq 10, 3) := by decide +kernel
theorem dX5_copy_8 : decode cX5_copy 8 = .ok (.iload_n 2, 1) := by decide +kernel
theorem dX5_copy_9 : decode cX5_copy 9 = .ok (.invokestatic 89, 3) := by decide +kernel
theorem dX5_copy_12 : decode cX5_copy 12 = .ok (.ifCond .ne 7, 3) := by decide +kernel
theorem dX5_copy_15 : decode cX5_copy 15 = .ok (.iconst 1, 1) := by decide +kernel
theorem dX5_copy_16 : decode cX5_copy 16 = .ok (.goto 13, 3) := by decide +kernel
theorem dX5_copy_19 : decode cX5_copy 19 = .ok (.iload_n 1, 1) := by decide +kernel
theorem dX5_copy_20 : decode cX5_copy 20 = .ok (.iload_n 2, 1) := by decide +kernel
theorem dX5_copy_21 : decode cX5_copy 21 = .ok (.if_icmp .ne 7, 3) := by decide +kernel
theorem dX5_copy_24 : decode cX5_copy 24 = .ok (.iconst 2, 1) := by decide +kernel
theorem dX5_copy_25 : decode cX5_copy 25 = .ok (.goto 4, 3) := by decide +kernel
theorem dX5_copy_28 : decode cX5_copy 28 = .ok (.iconst 0, 1) := by decide +kernel
theorem dX5_copy_29 : decode cX5_copy 29 = .ok (.invokevirtual 92, 3) := by decide +kernel
theorem dX5_copy_32 : decode cX5_copy 32 = .ok (.ifCond .ne 5, 3) := by decide +kernel
theorem dX5_copy_35 : decode cX5_copy 35 = .ok (.iconst 0, 1) := by decide +kernel
theorem dX5_copy_36 : decode cX5_copy 36 = .ok (.ireturn, 1) := by decide +kernel
theorem dX5_copy_37 : decode cX5_copy 37 = .ok (.aload_n 0, 1) := by decide +kernel
theorem dX5_copy_38 : decode cX5_copy 38 = .ok (.invokevirtual 95, 3) := by decide +kernel
theorem dX5_copy_41 : decode cX5_copy 41 = .ok (.aload_n 0, 1) := by decide +kernel
theorem dX5_copy_42 : decode cX5_copy 42 = .ok (.iload_n 1, 1) := by decide +kernel
theorem dX5_copy_43 : decode cX5_copy 43 = .ok (.iconst (-1), 1) := by decide +kernel
theorem dX5_copy_44 : decode cX5_copy 44 = .ok (.invokevirtual 73, 3) := by decide +kernel
theorem dX5_copy_47 : decode cX5_copy 47 = .ok (.istore_n 3, 1) := by decide +kernel
theorem dX5_copy_48 : decode cX5_copy 48 = .ok (.aload_n 0, 1) := by decide +kernel
theorem dX5_copy_49 : decode cX5_copy 49 = .ok (.iload_n 2, 1) := by decide +kernel
theorem dX5_copy_50 : decode cX5_copy 50 = .ok (.invokevirtual 19, 3) := by decide +kernel
theorem dX5_copy_53 : decode cX5_copy 53 = .ok (.iconst 0, 1) := by decide +kernel
theorem dX5_copy_54 : decode cX5_copy 54 = .ok (.istore 4, 2) := by decide +kernel
theorem dX5_copy_56 : decode cX5_copy 56 = .ok (.iload 4, 2) := by decide +kernel
theorem dX5_copy_58 : decode cX5_copy 58 = .ok (.bipush 64, 2) := by decide +kernel
theorem dX5_copy_60 : decode cX5_copy 60 = .ok (.if_icmp .ge 38, 3) := by decide +kernel
theorem dX5_copy_63 : decode cX5_copy 63 = .ok (.aload_n 0, 1) := by decide +kernel
theorem dX5_copy_64 : decode cX5_copy 64 = .ok (.iload_n 2, 1) := by decide +kernel
theorem dX5_copy_65 : decode cX5_copy 65 = .ok (.iload 4, 2) := by decide +kernel
theorem dX5_copy_67 : decode cX5_copy 67 = .ok (.aload_n 0, 1) := by decide +kernel
theorem dX5_copy_68 : decode cX5_copy 68 = .ok (.getfield 16, 3) := by decide +kernel
theorem dX5_copy_71 : decode cX5_copy 71 = .ok (.iload 4, 2) := by decide +kernel
theorem dX5_copy_73 : decode cX5_copy 73 = .ok (.iaload, 1) := by decide +kernel
theorem dX5_copy_74 : decode cX5_copy 74 = .ok (.iconst (-1), 1) := by decide +kernel
theorem dX5_copy_75 : decode cX5_copy 75 = .ok (.if_icmp .ne 7, 3) := by decide +kernel
theorem dX5_copy_78 : decode cX5_copy 78 = .ok (.iconst 2, 1) := by decide +kernel
theorem dX5_copy_79 : decode cX5_copy 79 = .ok (.goto 10, 3) := by decide +kernel
theorem dX5_copy_82 : decode cX5_copy 82 = .ok (.aload_n 0, 1) := by decide +kernel
theorem dX5_copy_83 : decode cX5_copy 83 = .ok (.getfield 16, 3) := by decide +kernel
theorem dX5_copy_86 : decode cX5_copy 86 = .ok (.iload 4, 2) := by decide +kernel
theorem dX5_copy_88 : decode cX5_copy 88 = .ok (.iaload, 1) := by decide +kernel
theorem dX5_copy_89 : decode cX5_copy 89 = .ok (.invokevirtual 31, 3) := by decide +kernel
theorem dX5_copy_92 : decode cX5_copy 92 = .ok (.iinc 4 1, 3) := by decide +kernel
theorem dX5_copy_95 : decode cX5_copy 95 = .ok (.goto (-39), 3) := by decide +kernel
theorem dX5_copy_98 : decode cX5_copy 98 = .ok (.iload_n 3, 1) := by decide +kernel
theorem dX5_copy_99 : decode cX5_copy 99 = .ok (.ireturn, 1) := by decide +kernel
theorem dX5_changes_0 : decode cX5_changes 0 = .ok (.iload_n 1, 1) := by decide +kernel
theorem dX5_changes_1 : decode cX5_changes 1 = .ok (.invokestatic 89, 3) := by decide +kernel
theorem dX5_changes_4 : decode cX5_changes 4 = .ok (.ifCond .eq 15, 3) := by decide +kernel
theorem dX5_changes_7 : decode cX5_changes 7 = .ok (.iload_n 2, 1) := by decide +kernel
theorem dX5_changes_8 : decode cX5_changes 8 = .ok (.iload_n 3, 1) := by decide +kernel
theorem dX5_changes_9 : decode cX5_changes 9 = .ok (.invokestatic 110, 3) := by decide +kernel
theorem dX5_changes_12 : decode cX5_changes 12 = .ok (.ifCond .eq 7, 3) := by decide +kernel
theorem dX5_changes_15 : decode cX5_changes 15 = .ok (.iconst 1, 1) := by decide +kernel
theorem dX5_changes_16 : decode cX5_changes 16 = .ok (.goto 4, 3) := by decide +kernel
theorem dX5_changes_19 : decode cX5_changes 19 = .ok (.iconst 0, 1) := by decide +kernel
theorem dX5_changes_20 : decode cX5_changes 20 = .ok (.istore 5, 2) := by decide +kernel
theorem dX5_changes_22 : decode cX5_changes 22 = .ok (.aload_n 0, 1) := by decide +kernel
theorem dX5_changes_23 : decode cX5_changes 23 = .ok (.iload 5, 2) := by decide +kernel
theorem dX5_changes_25 : decode cX5_changes 25 = .ok (.ifCond .ne 7, 3) := by decide +kernel
theorem dX5_changes_28 : decode cX5_changes 28 = .ok (.iconst 1, 1) := by decide +kernel
theorem dX5_changes_29 : decode cX5_changes 29 = .ok (.goto 20, 3) := by decide +kernel
theorem dX5_changes_32 : decode cX5_changes 32 = .ok (.aload_n 0, 1) := by decide +kernel
theorem dX5_changes_33 : decode cX5_changes 33 = .ok (.iload_n 1, 1) := by decide +kernel
theorem dX5_changes_34 : decode cX5_changes 34 = .ok (.iload_n 2, 1) := by decide +kernel
theorem dX5_changes_35 : decode cX5_changes 35 = .ok (.iload_n 3, 1) := by decide +kernel
theorem dX5_changes_36 : decode cX5_changes 36 = .ok (.invokevirtual 54, 3) := by decide +kernel
theorem dX5_changes_39 : decode cX5_changes 39 = .ok (.iload 4, 2) := by decide +kernel
theorem dX5_changes_41 : decode cX5_changes 41 = .ok (.if_icmp .eq 7, 3) := by decide +kernel
theorem dX5_changes_44 : decode cX5_changes 44 = .ok (.iconst 2, 1) := by decide +kernel
theorem dX5_changes_45 : decode cX5_changes 45 = .ok (.goto 4, 3) := by decide +kernel
theorem dX5_changes_48 : decode cX5_changes 48 = .ok (.iconst 0, 1) := by decide +kernel
theorem dX5_changes_49 : decode cX5_changes 49 = .ok (.invokevirtual 92, 3) := by decide +kernel
theorem dX5_changes_52 : decode cX5_changes 52 = .ok (.ifCond .ne 5, 3) := by decide +kernel
theorem dX5_changes_55 : decode cX5_changes 55 = .ok (.iconst 0, 1) := by decide +kernel
theorem dX5_changes_56 : decode cX5_changes 56 = .ok (.ireturn, 1) := by decide +kernel
theorem dX5_changes_57 : decode cX5_changes 57 = .ok (.aload_n 0, 1) := by decide +kernel
theorem dX5_changes_58 : decode cX5_changes 58 = .ok (.invokevirtual 95, 3) := by decide +kernel
theorem dX5_changes_61 : decode cX5_changes 61 = .ok (.aload_n 0, 1) := by decide +kernel
theorem dX5_changes_62 : decode cX5_changes 62 = .ok (.iload_n 1, 1) := by decide +kernel
theorem dX5_changes_63 : decode cX5_changes 63 = .ok (.invokevirtual 39, 3) := by decide +kernel
theorem dX5_changes_66 : decode cX5_changes 66 = .ok (.iload_n 2, 1) := by decide +kernel
theorem dX5_changes_67 : decode cX5_changes 67 = .ok (.iload_n 3, 1) := by decide +kernel
theorem dX5_changes_68 : decode cX5_changes 68 = .ok (.invokestatic 43, 3) := by decide +kernel
theorem dX5_changes_71 : decode cX5_changes 71 = .ok (.istore 6, 2) := by decide +kernel
theorem dX5_changes_73 : decode cX5_changes 73 = .ok (.aload_n 0, 1) := by decide +kernel
theorem dX5_changes_74 : decode cX5_changes 74 = .ok (.iload_n 1, 1) := by decide +kernel
theorem dX5_changes_75 : decode cX5_changes 75 = .ok (.iload 6, 2) := by decide +kernel
theorem dX5_changes_77 : decode cX5_changes 77 = .ok (.aload_n 0, 1) := by decide +kernel
theorem dX5_changes_78 : decode cX5_changes 78 = .ok (.iload_n 1, 1) := by decide +kernel
theorem dX5_changes_79 : decode cX5_changes 79 = .ok (.iload 6, 2) := by decide +kernel
theorem dX5_changes_81 : decode cX5_changes 81 = .ok (.invokevirtual 35, 3) := by decide +kernel
theorem dX5_changes_84 : decode cX5_changes 84 = .ok (.aload_n 0, 1) := by decide +kernel
theorem dX5_changes_85 : decode cX5_changes 85 = .ok (.iload_n 1, 1) := by decide +kernel
theorem dX5_changes_86 : decode cX5_changes 86 = .ok (.invokevirtual 39, 3) := by decide +kernel
theorem dX5_changes_89 : decode cX5_changes 89 = .ok (.invokestatic 47, 3) := by decide +kernel
theorem dX5_changes_92 : decode cX5_changes 92 = .ok (.invokestatic 113, 3) := by decide +kernel
theorem dX5_changes_95 : decode cX5_changes 95 = .ok (.invokevirtual 31, 3) := by decide +kernel
theorem dX5_changes_98 : decode cX5_changes 98 = .ok (.aload_n 0, 1) := by decide +kernel
theorem dX5_changes_99 : decode cX5_changes 99 = .ok (.iload_n 1, 1) := by decide +kernel
theorem dX5_changes_100 : decode cX5_changes 100 = .ok (.iload 6, 2) := by decide +kernel
theorem dX5_changes_102 : decode cX5_changes 102 = .ok (.invokevirtual 35, 3) := by decide +kernel
theorem dX5_changes_105 : decode cX5_changes 105 = .ok (.ireturn, 1) := by decide +kernel
theorem dX5_wear_0 : decode cX5_wear 0 = .ok (.aload_n 0, 1) := by decide +kernel
theorem dX5_wear_1 : decode cX5_wear 1 = .ok (.iload_n 1, 1) := by decide +kernel
theorem dX5_wear_2 : decode cX5_wear 2 = .ok (.iload_n 2, 1) := by decide +kernel
theorem dX5_wear_3 : decode cX5_wear 3 = .ok (.iload_n 3, 1) := by decide +kernel
theorem dX5_wear_4 : decode cX5_wear 4 = .ok (.iconst 0, 1) := by decide +kernel
theorem dX5_wear_5 : decode cX5_wear 5 = .ok (.invokevirtual 116, 3) := by decide +kernel
theorem dX5_wear_8 : decode cX5_wear 8 = .ok (.ireturn, 1) := by decide +kernel
theorem dX5_lose_0 : decode cX5_lose 0 = .ok (.aload_n 0, 1) := by decide +kernel
theorem dX5_lose_1 : decode cX5_lose 1 = .ok (.iload_n 1, 1) := by decide +kernel
theorem dX5_lose_2 : decode cX5_lose 2 = .ok (.iload_n 2, 1) := by decide +kernel
theorem dX5_lose_3 : decode cX5_lose 3 = .ok (.iload_n 3, 1) := by decide +kernel
theorem dX5_lose_4 : decode cX5_lose 4 = .ok (.iconst 1, 1) := by decide +kernel
theorem dX5_lose_5 : decode cX5_lose 5 = .ok (.invokevirtual 116, 3) := by decide +kernel
theorem dX5_lose_8 : decode cX5_lose 8 = .ok (.ireturn, 1) := by decide +kernel
theorem dX5_turn_0 : decode cX5_turn 0 = .ok (.aload_n 0, 1) := by decide +kernel
theorem dX5_turn_1 : decode cX5_turn 1 = .ok (.iload_n 1, 1) := by decide +kernel
theorem dX5_turn_2 : decode cX5_turn 2 = .ok (.invokestatic 89, 3) := by decide +kernel
theorem dX5_turn_5 : decode cX5_turn 5 = .ok (.ifCond .ne 7, 3) := by decide +kernel
theorem dX5_turn_8 : decode cX5_turn 8 = .ok (.iconst 1, 1) := by decide +kernel
theorem dX5_turn_9 : decode cX5_turn 9 = .ok (.goto 17, 3) := by decide +kernel
theorem dX5_turn_12 : decode cX5_turn 12 = .ok (.iload_n 2, 1) := by decide +kernel
theorem dX5_turn_13 : decode cX5_turn 13 = .ok (.iconst 0, 1) := by decide +kernel
theorem dX5_turn_14 : decode cX5_turn 14 = .ok (.iconst 3, 1) := by decide +kernel
theorem dX5_turn_15 : decode cX5_turn 15 = .ok (.invokestatic 27, 3) := by decide +kernel
theorem dX5_turn_18 : decode cX5_turn 18 = .ok (.ifCond .ne 7, 3) := by decide +kernel
theorem dX5_turn_21 : decode cX5_turn 21 = .ok (.iconst 2, 1) := by decide +kernel
theorem dX5_turn_22 : decode cX5_turn 22 = .ok (.goto 4, 3) := by decide +kernel
theorem dX5_turn_25 : decode cX5_turn 25 = .ok (.iconst 0, 1) := by decide +kernel
theorem dX5_turn_26 : decode cX5_turn 26 = .ok (.invokevirtual 92, 3) := by decide +kernel
theorem dX5_turn_29 : decode cX5_turn 29 = .ok (.ifCond .ne 5, 3) := by decide +kernel
theorem dX5_turn_32 : decode cX5_turn 32 = .ok (.iconst 0, 1) := by decide +kernel
theorem dX5_turn_33 : decode cX5_turn 33 = .ok (.ireturn, 1) := by decide +kernel
theorem dX5_turn_34 : decode cX5_turn 34 = .ok (.aload_n 0, 1) := by decide +kernel
theorem dX5_turn_35 : decode cX5_turn 35 = .ok (.invokevirtual 95, 3) := by decide +kernel
theorem dX5_turn_38 : decode cX5_turn 38 = .ok (.aload_n 0, 1) := by decide +kernel
theorem dX5_turn_39 : decode cX5_turn 39 = .ok (.iload_n 1, 1) := by decide +kernel
theorem dX5_turn_40 : decode cX5_turn 40 = .ok (.invokevirtual 39, 3) := by decide +kernel
theorem dX5_turn_43 : decode cX5_turn 43 = .ok (.istore_n 3, 1) := by decide +kernel
theorem dX5_turn_44 : decode cX5_turn 44 = .ok (.aload_n 0, 1) := by decide +kernel
theorem dX5_turn_45 : decode cX5_turn 45 = .ok (.getfield 7, 3) := by decide +kernel
theorem dX5_turn_48 : decode cX5_turn 48 = .ok (.bipush 65, 2) := by decide +kernel
theorem dX5_turn_50 : decode cX5_turn 50 = .ok (.iload_n 1, 1) := by decide +kernel
theorem dX5_turn_51 : decode cX5_turn 51 = .ok (.imul, 1) := by decide +kernel
theorem dX5_turn_52 : decode cX5_turn 52 = .ok (.iload_n 2, 1) := by decide +kernel
theorem dX5_turn_53 : decode cX5_turn 53 = .ok (.iastore, 1) := by decide +kernel
theorem dX5_turn_54 : decode cX5_turn 54 = .ok (.iload_n 3, 1) := by decide +kernel
theorem dX5_turn_55 : decode cX5_turn 55 = .ok (.ireturn, 1) := by decide +kernel
theorem dX5_view_0 : decode cX5_view 0 = .ok (.aload_n 0, 1) := by decide +kernel
theorem dX5_view_1 : decode cX5_view 1 = .ok (.iload_n 1, 1) := by decide +kernel
theorem dX5_view_2 : decode cX5_view 2 = .ok (.invokestatic 89, 3) := by decide +kernel
theorem dX5_view_5 : decode cX5_view 5 = .ok (.ifCond .eq 7, 3) := by decide +kernel
theorem dX5_view_8 : decode cX5_view 8 = .ok (.iconst 0, 1) := by decide +kernel
theorem dX5_view_9 : decode cX5_view 9 = .ok (.goto 4, 3) := by decide +kernel
theorem dX5_view_12 : decode cX5_view 12 = .ok (.iconst 1, 1) := by decide +kernel
theorem dX5_view_13 : decode cX5_view 13 = .ok (.invokevirtual 92, 3) := by decide +kernel
theorem dX5_view_16 : decode cX5_view 16 = .ok (.ifCond .eq 11, 3) := by decide +kernel
theorem dX5_view_19 : decode cX5_view 19 = .ok (.aload_n 0, 1) := by decide +kernel
theorem dX5_view_20 : decode cX5_view 20 = .ok (.iload_n 1, 1) := by decide +kernel
theorem dX5_view_21 : decode cX5_view 21 = .ok (.invokevirtual 39, 3) := by decide +kernel
theorem dX5_view_24 : decode cX5_view 24 = .ok (.goto 4, 3) := by decide +kernel
theorem dX5_view_27 : decode cX5_view 27 = .ok (.iconst 0, 1) := by decide +kernel
theorem dX5_view_28 : decode cX5_view 28 = .ok (.ireturn, 1) := by decide +kernel
theorem dX5_sees_0 : decode cX5_sees 0 = .ok (.aload_n 0, 1) := by decide +kernel
theorem dX5_sees_1 : decode cX5_sees 1 = .ok (.iload_n 1, 1) := by decide +kernel
theorem dX5_sees_2 : decode cX5_sees 2 = .ok (.invokestatic 89, 3) := by decide +kernel
theorem dX5_sees_5 : decode cX5_sees 5 = .ok (.ifCond .eq 15, 3) := by decide +kernel
theorem dX5_sees_8 : decode cX5_sees 8 = .ok (.iload_n 2, 1) := by decide +kernel
theorem dX5_sees_9 : decode cX5_sees 9 = .ok (.iload_n 3, 1) := by decide +kernel
theorem dX5_sees_10 : decode cX5_sees 10 = .ok (.invokestatic 110, 3) := by decide +kernel
theorem dX5_sees_13 : decode cX5_sees 13 = .ok (.ifCond .eq 7, 3) := by decide +kernel
theorem dX5_sees_16 : decode cX5_sees 16 = .ok (.iconst 0, 1) := by decide +kernel
theorem dX5_sees_17 : decode cX5_sees 17 = .ok (.goto 4, 3) := by decide +kernel
theorem dX5_sees_20 : decode cX5_sees 20 = .ok (.iconst 1, 1) := by decide +kernel
theorem dX5_sees_21 : decode cX5_sees 21 = .ok (.invokevirtual 92, 3) := by decide +kernel
theorem dX5_sees_24 : decode cX5_sees 24 = .ok (.ifCond .eq 17, 3) := by decide +kernel
theorem dX5_sees_27 : decode cX5_sees 27 = .ok (.aload_n 0, 1) := by decide +kernel
theorem dX5_sees_28 : decode cX5_sees 28 = .ok (.iload_n 1, 1) := by decide +kernel
theorem dX5_sees_29 : decode cX5_sees 29 = .ok (.iload_n 2, 1) := by decide +kernel
theorem dX5_sees_30 : decode cX5_sees 30 = .ok (.iload_n 3, 1) := by decide +kernel
theorem dX5_sees_31 : decode cX5_sees 31 = .ok (.invokevirtual 54, 3) := by decide +kernel
theorem dX5_sees_34 : decode cX5_sees 34 = .ok (.ifCond .eq 7, 3) := by decide +kernel
theorem dX5_sees_37 : decode cX5_sees 37 = .ok (.iconst 1, 1) := by decide +kernel
theorem dX5_sees_38 : decode cX5_sees 38 = .ok (.goto 4, 3) := by decide +kernel
theorem dX5_sees_41 : decode cX5_sees 41 = .ok (.iconst 0, 1) := by decide +kernel
theorem dX5_sees_42 : decode cX5_sees 42 = .ok (.ireturn, 1) := by decide +kernel
theorem dX5_raw_0 : decode cX5_raw 0 = .ok (.aload_n 0, 1) := by decide +kernel
theorem dX5_raw_1 : decode cX5_raw 1 = .ok (.iload_n 1, 1) := by decide +kernel
theorem dX5_raw_2 : decode cX5_raw 2 = .ok (.invokestatic 89, 3) := by decide +kernel
theorem dX5_raw_5 : decode cX5_raw 5 = .ok (.ifCond .eq 17, 3) := by decide +kernel
theorem dX5_raw_8 : decode cX5_raw 8 = .ok (.iload_n 2, 1) := by decide +kernel
theorem dX5_raw_9 : decode cX5_raw 9 = .ok (.iconst 0, 1) := by decide +kernel
theorem dX5_raw_10 : decode cX5_raw 10 = .ok (.bipush 7, 2) := by decide +kernel
theorem dX5_raw_12 : decode cX5_raw 12 = .ok (.invokestatic 27, 3) := by decide +kernel
theorem dX5_raw_15 : decode cX5_raw 15 = .ok (.ifCond .eq 7, 3) := by decide +kernel
theorem dX5_raw_18 : decode cX5_raw 18 = .ok (.iconst 0, 1) := by decide +kernel
theorem dX5_raw_19 : decode cX5_raw 19 = .ok (.goto 4, 3) := by decide +kernel
theorem dX5_raw_22 : decode cX5_raw 22 = .ok (.iconst 1, 1) := by decide +kernel
theorem dX5_raw_23 : decode cX5_raw 23 = .ok (.invokevirtual 92, 3) := by decide +kernel
theorem dX5_raw_26 : decode cX5_raw 26 = .ok (.ifCond .eq 12, 3) := by decide +kernel
theorem dX5_raw_29 : decode cX5_raw 29 = .ok (.aload_n 0, 1) := by decide +kernel
theorem dX5_raw_30 : decode cX5_raw 30 = .ok (.iload_n 1, 1) := by decide +kernel
theorem dX5_raw_31 : decode cX5_raw 31 = .ok (.iload_n 2, 1) := by decide +kernel
theorem dX5_raw_32 : decode cX5_raw 32 = .ok (.invokevirtual 120, 3) := by decide +kernel
theorem dX5_raw_35 : decode cX5_raw 35 = .ok (.goto 4, 3) := by decide +kernel
theorem dX5_raw_38 : decode cX5_raw 38 = .ok (.iconst 0, 1) := by decide +kernel
theorem dX5_raw_39 : decode cX5_raw 39 = .ok (.ireturn, 1) := by decide +kernel
theorem dX5_kind_0 : decode cX5_kind 0 = .ok (.aload_n 0, 1) := by decide +kernel
theorem dX5_kind_1 : decode cX5_kind 1 = .ok (.iload_n 1, 1) := by decide +kernel
theorem dX5_kind_2 : decode cX5_kind 2 = .ok (.invokestatic 89, 3) := by decide +kernel
theorem dX5_kind_5 : decode cX5_kind 5 = .ok (.ifCond .eq 15, 3) := by decide +kernel
theorem dX5_kind_8 : decode cX5_kind 8 = .ok (.iload_n 2, 1) := by decide +kernel
theorem dX5_kind_9 : decode cX5_kind 9 = .ok (.iload_n 3, 1) := by decide +kernel
theorem dX5_kind_10 : decode cX5_kind 10 = .ok (.invokestatic 110, 3) := by decide +kernel
theorem dX5_kind_13 : decode cX5_kind 13 = .ok (.ifCond .eq 7, 3) := by decide +kernel
theorem dX5_kind_16 : decode cX5_kind 16 = .ok (.iconst 0, 1) := by decide +kernel
theorem dX5_kind_17 : decode cX5_kind 17 = .ok (.goto 4, 3) := by decide +kernel
theorem dX5_kind_20 : decode cX5_kind 20 = .ok (.iconst 1, 1) := by decide +kernel
theorem dX5_kind_21 : decode cX5_kind 21 = .ok (.invokevirtual 92, 3) := by decide +kernel
theorem dX5_kind_24 : decode cX5_kind 24 = .ok (.ifCond .eq 17, 3) := by decide +kernel
theorem dX5_kind_27 : decode cX5_kind 27 = .ok (.aload_n 0, 1) := by decide +kernel
theorem dX5_kind_28 : decode cX5_kind 28 = .ok (.iload_n 1, 1) := by decide +kernel
theorem dX5_kind_29 : decode cX5_kind 29 = .ok (.bipush 8, 2) := by decide +kernel
theorem dX5_kind_31 : decode cX5_kind 31 = .ok (.iload_n 2, 1) := by decide +kernel
theorem dX5_kind_32 : decode cX5_kind 32 = .ok (.imul, 1) := by decide +kernel
theorem dX5_kind_33 : decode cX5_kind 33 = .ok (.iload_n 3, 1) := by decide +kernel
theorem dX5_kind_34 : decode cX5_kind 34 = .ok (.iadd, 1) := by decide +kernel
theorem dX5_kind_35 : decode cX5_kind 35 = .ok (.invokevirtual 35, 3) := by decide +kernel
theorem dX5_kind_38 : decode cX5_kind 38 = .ok (.goto 4, 3) := by decide +kernel
theorem dX5_kind_41 : decode cX5_kind 41 = .ok (.iconst 0, 1) := by decide +kernel
theorem dX5_kind_42 : decode cX5_kind 42 = .ok (.ireturn, 1) := by decide +kernel
theorem dX5_told_0 : decode cX5_told 0 = .ok (.aload_n 0, 1) := by decide +kernel
theorem dX5_told_1 : decode cX5_told 1 = .ok (.iload_n 1, 1) := by decide +kernel
theorem dX5_told_2 : decode cX5_told 2 = .ok (.invokestatic 89, 3) := by decide +kernel
theorem dX5_told_5 : decode cX5_told 5 = .ok (.ifCond .eq 15, 3) := by decide +kernel
theorem dX5_told_8 : decode cX5_told 8 = .ok (.iload_n 2, 1) := by decide +kernel
theorem dX5_told_9 : decode cX5_told 9 = .ok (.iload_n 3, 1) := by decide +kernel
theorem dX5_told_10 : decode cX5_told 10 = .ok (.invokestatic 110, 3) := by decide +kernel
theorem dX5_told_13 : decode cX5_told 13 = .ok (.ifCond .eq 7, 3) := by decide +kernel
theorem dX5_told_16 : decode cX5_told 16 = .ok (.iconst 0, 1) := by decide +kernel
theorem dX5_told_17 : decode cX5_told 17 = .ok (.goto 4, 3) := by decide +kernel
theorem dX5_told_20 : decode cX5_told 20 = .ok (.iconst 1, 1) := by decide +kernel
theorem dX5_told_21 : decode cX5_told 21 = .ok (.invokevirtual 92, 3) := by decide +kernel
theorem dX5_told_24 : decode cX5_told 24 = .ok (.ifCond .ne 5, 3) := by decide +kernel
theorem dX5_told_27 : decode cX5_told 27 = .ok (.iconst 0, 1) := by decide +kernel
theorem dX5_told_28 : decode cX5_told 28 = .ok (.ireturn, 1) := by decide +kernel
theorem dX5_told_29 : decode cX5_told 29 = .ok (.aload_n 0, 1) := by decide +kernel
theorem dX5_told_30 : decode cX5_told 30 = .ok (.iload_n 1, 1) := by decide +kernel
theorem dX5_told_31 : decode cX5_told 31 = .ok (.iconst (-1), 1) := by decide +kernel
theorem dX5_told_32 : decode cX5_told 32 = .ok (.invokevirtual 73, 3) := by decide +kernel
theorem dX5_told_35 : decode cX5_told 35 = .ok (.pop, 1) := by decide +kernel
theorem dX5_told_36 : decode cX5_told 36 = .ok (.aload_n 0, 1) := by decide +kernel
theorem dX5_told_37 : decode cX5_told 37 = .ok (.getfield 16, 3) := by decide +kernel
theorem dX5_told_40 : decode cX5_told 40 = .ok (.bipush 8, 2) := by decide +kernel
theorem dX5_told_42 : decode cX5_told 42 = .ok (.iload_n 2, 1) := by decide +kernel
theorem dX5_told_43 : decode cX5_told 43 = .ok (.imul, 1) := by decide +kernel
theorem dX5_told_44 : decode cX5_told 44 = .ok (.iload_n 3, 1) := by decide +kernel
theorem dX5_told_45 : decode cX5_told 45 = .ok (.iadd, 1) := by decide +kernel
theorem dX5_told_46 : decode cX5_told 46 = .ok (.iaload, 1) := by decide +kernel
theorem dX5_told_47 : decode cX5_told 47 = .ok (.ireturn, 1) := by decide +kernel
theorem dX5_count_0 : decode cX5_count 0 = .ok (.aload_n 0, 1) := by decide +kernel
theorem dX5_count_1 : decode cX5_count 1 = .ok (.iload_n 1, 1) := by decide +kernel
theorem dX5_count_2 : decode cX5_count 2 = .ok (.invokestatic 89, 3) := by decide +kernel
theorem dX5_count_5 : decode cX5_count 5 = .ok (.ifCond .eq 16, 3) := by decide +kernel
theorem dX5_count_8 : decode cX5_count 8 = .ok (.iload_n 2, 1) := by decide +kernel
theorem dX5_count_9 : decode cX5_count 9 = .ok (.iconst 0, 1) := by decide +kernel
theorem dX5_count_10 : decode cX5_count 10 = .ok (.iconst 3, 1) := by decide +kernel
theorem dX5_count_11 : decode cX5_count 11 = .ok (.invokestatic 27, 3) := by decide +kernel
theorem dX5_count_14 : decode cX5_count 14 = .ok (.ifCond .eq 7, 3) := by decide +kernel
theorem dX5_count_17 : decode cX5_count 17 = .ok (.iconst 0, 1) := by decide +kernel
theorem dX5_count_18 : decode cX5_count 18 = .ok (.goto 4, 3) := by decide +kernel
theorem dX5_count_21 : decode cX5_count 21 = .ok (.iconst 1, 1) := by decide +kernel
theorem dX5_count_22 : decode cX5_count 22 = .ok (.invokevirtual 92, 3) := by decide +kernel
theorem dX5_count_25 : decode cX5_count 25 = .ok (.ifCond .eq 12, 3) := by decide +kernel
theorem dX5_count_28 : decode cX5_count 28 = .ok (.aload_n 0, 1) := by decide +kernel
theorem dX5_count_29 : decode cX5_count 29 = .ok (.iload_n 1, 1) := by decide +kernel
theorem dX5_count_30 : decode cX5_count 30 = .ok (.iload_n 2, 1) := by decide +kernel
theorem dX5_count_31 : decode cX5_count 31 = .ok (.invokevirtual 107, 3) := by decide +kernel
theorem dX5_count_34 : decode cX5_count 34 = .ok (.goto 4, 3) := by decide +kernel
theorem dX5_count_37 : decode cX5_count 37 = .ok (.iconst 0, 1) := by decide +kernel
theorem dX5_count_38 : decode cX5_count 38 = .ok (.ireturn, 1) := by decide +kernel
theorem dX5_readOf_0 : decode cX5_readOf 0 = .ok (.iconst 0, 1) := by decide +kernel
theorem dX5_readOf_1 : decode cX5_readOf 1 = .ok (.istore_n 3, 1) := by decide +kernel
theorem dX5_readOf_2 : decode cX5_readOf 2 = .ok (.iconst 0, 1) := by decide +kernel
theorem dX5_readOf_3 : decode cX5_readOf 3 = .ok (.istore 4, 2) := by decide +kernel
theorem dX5_readOf_5 : decode cX5_readOf 5 = .ok (.iload 4, 2) := by decide +kernel
theorem dX5_readOf_7 : decode cX5_readOf 7 = .ok (.bipush 7, 2) := by decide +kernel
theorem dX5_readOf_9 : decode cX5_readOf 9 = .ok (.if_icmp .ge 40, 3) := by decide +kernel
theorem dX5_readOf_12 : decode cX5_readOf 12 = .ok (.aload_n 0, 1) := by decide +kernel
theorem dX5_readOf_13 : decode cX5_readOf 13 = .ok (.iload_n 1, 1) := by decide +kernel
theorem dX5_readOf_14 : decode cX5_readOf 14 = .ok (.bipush 8, 2) := by decide +kernel
theorem dX5_readOf_16 : decode cX5_readOf 16 = .ok (.iload_n 2, 1) := by decide +kernel
theorem dX5_readOf_17 : decode cX5_readOf 17 = .ok (.imul, 1) := by decide +kernel
theorem dX5_readOf_18 : decode cX5_readOf 18 = .ok (.iload 4, 2) := by decide +kernel
theorem dX5_readOf_20 : decode cX5_readOf 20 = .ok (.iadd, 1) := by decide +kernel
theorem dX5_readOf_21 : decode cX5_readOf 21 = .ok (.invokevirtual 35, 3) := by decide +kernel
theorem dX5_readOf_24 : decode cX5_readOf 24 = .ok (.istore 5, 2) := by decide +kernel
theorem dX5_readOf_26 : decode cX5_readOf 26 = .ok (.iload 5, 2) := by decide +kernel
theorem dX5_readOf_28 : decode cX5_readOf 28 = .ok (.invokestatic 66, 3) := by decide +kernel
theorem dX5_readOf_31 : decode cX5_readOf 31 = .ok (.ifCond .ne 5, 3) := by decide +kernel
theorem dX5_readOf_34 : decode cX5_readOf 34 = .ok (.iconst (-1), 1) := by decide +kernel
theorem dX5_readOf_35 : decode cX5_readOf 35 = .ok (.ireturn, 1) := by decide +kernel
theorem dX5_readOf_36 : decode cX5_readOf 36 = .ok (.iconst 2, 1) := by decide +kernel
theorem dX5_readOf_37 : decode cX5_readOf 37 = .ok (.iload_n 3, 1) := by decide +kernel
theorem dX5_readOf_38 : decode cX5_readOf 38 = .ok (.imul, 1) := by decide +kernel
theorem dX5_readOf_39 : decode cX5_readOf 39 = .ok (.iload 5, 2) := by decide +kernel
theorem dX5_readOf_41 : decode cX5_readOf 41 = .ok (.iadd, 1) := by decide +kernel
theorem dX5_readOf_42 : decode cX5_readOf 42 = .ok (.istore_n 3, 1) := by decide +kernel
theorem dX5_readOf_43 : decode cX5_readOf 43 = .ok (.iinc 4 1, 3) := by decide +kernel
theorem dX5_readOf_46 : decode cX5_readOf 46 = .ok (.goto (-41), 3) := by decide +kernel
theorem dX5_readOf_49 : decode cX5_readOf 49 = .ok (.iload_n 3, 1) := by decide +kernel
theorem dX5_readOf_50 : decode cX5_readOf 50 = .ok (.ireturn, 1) := by decide +kernel
theorem dX5_toldOf_0 : decode cX5_toldOf 0 = .ok (.iconst 0, 1) := by decide +kernel
theorem dX5_toldOf_1 : decode cX5_toldOf 1 = .ok (.istore_n 2, 1) := by decide +kernel
theorem dX5_toldOf_2 : decode cX5_toldOf 2 = .ok (.iconst 0, 1) := by decide +kernel
theorem dX5_toldOf_3 : decode cX5_toldOf 3 = .ok (.istore_n 3, 1) := by decide +kernel
theorem dX5_toldOf_4 : decode cX5_toldOf 4 = .ok (.iload_n 3, 1) := by decide +kernel
theorem dX5_toldOf_5 : decode cX5_toldOf 5 = .ok (.bipush 7, 2) := by decide +kernel
theorem dX5_toldOf_7 : decode cX5_toldOf 7 = .ok (.if_icmp .ge 37, 3) := by decide +kernel
theorem dX5_toldOf_10 : decode cX5_toldOf 10 = .ok (.aload_n 0, 1) := by decide +kernel
theorem dX5_toldOf_11 : decode cX5_toldOf 11 = .ok (.getfield 16, 3) := by decide +kernel
theorem dX5_toldOf_14 : decode cX5_toldOf 14 = .ok (.bipush 8, 2) := by decide +kernel
theorem dX5_toldOf_16 : decode cX5_toldOf 16 = .ok (.iload_n 1, 1) := by decide +kernel
theorem dX5_toldOf_17 : decode cX5_toldOf 17 = .ok (.imul, 1) := by decide +kernel
theorem dX5_toldOf_18 : decode cX5_toldOf 18 = .ok (.iload_n 3, 1) := by decide +kernel
theorem dX5_toldOf_19 : decode cX5_toldOf 19 = .ok (.iadd, 1) := by decide +kernel
theorem dX5_toldOf_20 : decode cX5_toldOf 20 = .ok (.iaload, 1) := by decide +kernel
theorem dX5_toldOf_21 : decode cX5_toldOf 21 = .ok (.istore 4, 2) := by decide +kernel
theorem dX5_toldOf_23 : decode cX5_toldOf 23 = .ok (.iload 4, 2) := by decide +kernel
theorem dX5_toldOf_25 : decode cX5_toldOf 25 = .ok (.iconst (-1), 1) := by decide +kernel
theorem dX5_toldOf_26 : decode cX5_toldOf 26 = .ok (.if_icmp .ne 5, 3) := by decide +kernel
theorem dX5_toldOf_29 : decode cX5_toldOf 29 = .ok (.iconst (-1), 1) := by decide +kernel
theorem dX5_toldOf_30 : decode cX5_toldOf 30 = .ok (.ireturn, 1) := by decide +kernel
theorem dX5_toldOf_31 : decode cX5_toldOf 31 = .ok (.iconst 2, 1) := by decide +kernel
theorem dX5_toldOf_32 : decode cX5_toldOf 32 = .ok (.iload_n 2, 1) := by decide +kernel
theorem dX5_toldOf_33 : decode cX5_toldOf 33 = .ok (.imul, 1) := by decide +kernel
theorem dX5_toldOf_34 : decode cX5_toldOf 34 = .ok (.iload 4, 2) := by decide +kernel
theorem dX5_toldOf_36 : decode cX5_toldOf 36 = .ok (.iadd, 1) := by decide +kernel
theorem dX5_toldOf_37 : decode cX5_toldOf 37 = .ok (.istore_n 2, 1) := by decide +kernel
theorem dX5_toldOf_38 : decode cX5_toldOf 38 = .ok (.iinc 3 1, 3) := by decide +kernel
theorem dX5_toldOf_41 : decode cX5_toldOf 41 = .ok (.goto (-37), 3) := by decide +kernel
theorem dX5_toldOf_44 : decode cX5_toldOf 44 = .ok (.iload_n 2, 1) := by decide +kernel
theorem dX5_toldOf_45 : decode cX5_toldOf 45 = .ok (.ireturn, 1) := by decide +kernel
theorem dX5_read_0 : decode cX5_read 0 = .ok (.aload_n 0, 1) := by decide +kernel
theorem dX5_read_1 : decode cX5_read 1 = .ok (.iload_n 1, 1) := by decide +kernel
theorem dX5_read_2 : decode cX5_read 2 = .ok (.invokestatic 89, 3) := by decide +kernel
theorem dX5_read_5 : decode cX5_read 5 = .ok (.ifCond .eq 17, 3) := by decide +kernel
theorem dX5_read_8 : decode cX5_read 8 = .ok (.iload_n 2, 1) := by decide +kernel
theorem dX5_read_9 : decode cX5_read 9 = .ok (.iconst 0, 1) := by decide +kernel
theorem dX5_read_10 : decode cX5_read 10 = .ok (.bipush 6, 2) := by decide +kernel
theorem dX5_read_12 : decode cX5_read 12 = .ok (.invokestatic 27, 3) := by decide +kernel
theorem dX5_read_15 : decode cX5_read 15 = .ok (.ifCond .eq 7, 3) := by decide +kernel
theorem dX5_read_18 : decode cX5_read 18 = .ok (.iconst 0, 1) := by decide +kernel
theorem dX5_read_19 : decode cX5_read 19 = .ok (.goto 4, 3) := by decide +kernel
theorem dX5_read_22 : decode cX5_read 22 = .ok (.iconst 1, 1) := by decide +kernel
theorem dX5_read_23 : decode cX5_read 23 = .ok (.invokevirtual 92, 3) := by decide +kernel
theorem dX5_read_26 : decode cX5_read 26 = .ok (.ifCond .eq 12, 3) := by decide +kernel
theorem dX5_read_29 : decode cX5_read 29 = .ok (.aload_n 0, 1) := by decide +kernel
theorem dX5_read_30 : decode cX5_read 30 = .ok (.iload_n 1, 1) := by decide +kernel
theorem dX5_read_31 : decode cX5_read 31 = .ok (.iload_n 2, 1) := by decide +kernel
theorem dX5_read_32 : decode cX5_read 32 = .ok (.invokevirtual 123, 3) := by decide +kernel
theorem dX5_read_35 : decode cX5_read 35 = .ok (.goto 4, 3) := by decide +kernel
theorem dX5_read_38 : decode cX5_read 38 = .ok (.iconst 0, 1) := by decide +kernel
theorem dX5_read_39 : decode cX5_read 39 = .ok (.ireturn, 1) := by decide +kernel
theorem dX5_value_0 : decode cX5_value 0 = .ok (.aload_n 0, 1) := by decide +kernel
theorem dX5_value_1 : decode cX5_value 1 = .ok (.iload_n 1, 1) := by decide +kernel
theorem dX5_value_2 : decode cX5_value 2 = .ok (.invokestatic 89, 3) := by decide +kernel
theorem dX5_value_5 : decode cX5_value 5 = .ok (.ifCond .eq 17, 3) := by decide +kernel
theorem dX5_value_8 : decode cX5_value 8 = .ok (.iload_n 2, 1) := by decide +kernel
theorem dX5_value_9 : decode cX5_value 9 = .ok (.iconst 0, 1) := by decide +kernel
theorem dX5_value_10 : decode cX5_value 10 = .ok (.bipush 6, 2) := by decide +kernel
theorem dX5_value_12 : decode cX5_value 12 = .ok (.invokestatic 27, 3) := by decide +kernel
theorem dX5_value_15 : decode cX5_value 15 = .ok (.ifCond .eq 7, 3) := by decide +kernel
theorem dX5_value_18 : decode cX5_value 18 = .ok (.iconst 0, 1) := by decide +kernel
theorem dX5_value_19 : decode cX5_value 19 = .ok (.goto 4, 3) := by decide +kernel
theorem dX5_value_22 : decode cX5_value 22 = .ok (.iconst 1, 1) := by decide +kernel
theorem dX5_value_23 : decode cX5_value 23 = .ok (.invokevirtual 92, 3) := by decide +kernel
theorem dX5_value_26 : decode cX5_value 26 = .ok (.ifCond .ne 5, 3) := by decide +kernel
theorem dX5_value_29 : decode cX5_value 29 = .ok (.iconst 0, 1) := by decide +kernel
theorem dX5_value_30 : decode cX5_value 30 = .ok (.ireturn, 1) := by decide +kernel
theorem dX5_value_31 : decode cX5_value 31 = .ok (.aload_n 0, 1) := by decide +kernel
theorem dX5_value_32 : decode cX5_value 32 = .ok (.iload_n 1, 1) := by decide +kernel
theorem dX5_value_33 : decode cX5_value 33 = .ok (.iconst (-1), 1) := by decide +kernel
theorem dX5_value_34 : decode cX5_value 34 = .ok (.invokevirtual 73, 3) := by decide +kernel
theorem dX5_value_37 : decode cX5_value 37 = .ok (.pop, 1) := by decide +kernel
theorem dX5_value_38 : decode cX5_value 38 = .ok (.aload_n 0, 1) := by decide +kernel
theorem dX5_value_39 : decode cX5_value 39 = .ok (.iload_n 2, 1) := by decide +kernel
theorem dX5_value_40 : decode cX5_value 40 = .ok (.invokevirtual 126, 3) := by decide +kernel
theorem dX5_value_43 : decode cX5_value 43 = .ok (.ireturn, 1) := by decide +kernel
theorem dX5_untold_0 : decode cX5_untold 0 = .ok (.aload_n 0, 1) := by decide +kernel
theorem dX5_untold_1 : decode cX5_untold 1 = .ok (.iload_n 1, 1) := by decide +kernel
theorem dX5_untold_2 : decode cX5_untold 2 = .ok (.invokestatic 89, 3) := by decide +kernel
theorem dX5_untold_5 : decode cX5_untold 5 = .ok (.ifCond .eq 7, 3) := by decide +kernel
theorem dX5_untold_8 : decode cX5_untold 8 = .ok (.iconst 0, 1) := by decide +kernel
theorem dX5_untold_9 : decode cX5_untold 9 = .ok (.goto 4, 3) := by decide +kernel
theorem dX5_untold_12 : decode cX5_untold 12 = .ok (.iconst 1, 1) := by decide +kernel
theorem dX5_untold_13 : decode cX5_untold 13 = .ok (.invokevirtual 92, 3) := by decide +kernel
theorem dX5_untold_16 : decode cX5_untold 16 = .ok (.ifCond .eq 12, 3) := by decide +kernel
theorem dX5_untold_19 : decode cX5_untold 19 = .ok (.aload_n 0, 1) := by decide +kernel
theorem dX5_untold_20 : decode cX5_untold 20 = .ok (.iload_n 1, 1) := by decide +kernel
theorem dX5_untold_21 : decode cX5_untold 21 = .ok (.iconst (-1), 1) := by decide +kernel
theorem dX5_untold_22 : decode cX5_untold 22 = .ok (.invokevirtual 73, 3) := by decide +kernel
theorem dX5_untold_25 : decode cX5_untold 25 = .ok (.goto 4, 3) := by decide +kernel
theorem dX5_untold_28 : decode cX5_untold 28 = .ok (.iconst 0, 1) := by decide +kernel
theorem dX5_untold_29 : decode cX5_untold 29 = .ok (.ireturn, 1) := by decide +kernel
theorem dX5_disagreements_0 : decode cX5_disagreements 0 = .ok (.aload_n 0, 1) := by decide +kernel
theorem dX5_disagreements_1 : decode cX5_disagreements 1 = .ok (.iload_n 1, 1) := by decide +kernel
theorem dX5_disagreements_2 : decode cX5_disagreements 2 = .ok (.invokestatic 89, 3) := by decide +kernel
theorem dX5_disagreements_5 : decode cX5_disagreements 5 = .ok (.ifCond .eq 7, 3) := by decide +kernel
theorem dX5_disagreements_8 : decode cX5_disagreements 8 = .ok (.iconst 0, 1) := by decide +kernel
theorem dX5_disagreements_9 : decode cX5_disagreements 9 = .ok (.goto 4, 3) := by decide +kernel
theorem dX5_disagreements_12 : decode cX5_disagreements 12 = .ok (.iconst 1, 1) := by decide +kernel
theorem dX5_disagreements_13 : decode cX5_disagreements 13 = .ok (.invokevirtual 92, 3) := by decide +kernel
theorem dX5_disagreements_16 : decode cX5_disagreements 16 = .ok (.ifCond .eq 11, 3) := by decide +kernel
theorem dX5_disagreements_19 : decode cX5_disagreements 19 = .ok (.aload_n 0, 1) := by decide +kernel
theorem dX5_disagreements_20 : decode cX5_disagreements 20 = .ok (.iload_n 1, 1) := by decide +kernel
theorem dX5_disagreements_21 : decode cX5_disagreements 21 = .ok (.invokevirtual 129, 3) := by decide +kernel
theorem dX5_disagreements_24 : decode cX5_disagreements 24 = .ok (.goto 4, 3) := by decide +kernel
theorem dX5_disagreements_27 : decode cX5_disagreements 27 = .ok (.iconst 0, 1) := by decide +kernel
theorem dX5_disagreements_28 : decode cX5_disagreements 28 = .ok (.ireturn, 1) := by decide +kernel
theorem dX5_disagreement_0 : decode cX5_disagreement 0 = .ok (.aload_n 0, 1) := by decide +kernel
theorem dX5_disagreement_1 : decode cX5_disagreement 1 = .ok (.iload_n 1, 1) := by decide +kernel
theorem dX5_disagreement_2 : decode cX5_disagreement 2 = .ok (.invokestatic 89, 3) := by decide +kernel
theorem dX5_disagreement_5 : decode cX5_disagreement 5 = .ok (.ifCond .eq 11, 3) := by decide +kernel
theorem dX5_disagreement_8 : decode cX5_disagreement 8 = .ok (.iload_n 2, 1) := by decide +kernel
theorem dX5_disagreement_9 : decode cX5_disagreement 9 = .ok (.ifCond .lt 7, 3) := by decide +kernel
theorem dX5_disagreement_12 : decode cX5_disagreement 12 = .ok (.iconst 0, 1) := by decide +kernel
theorem dX5_disagreement_13 : decode cX5_disagreement 13 = .ok (.goto 4, 3) := by decide +kernel
theorem dX5_disagreement_16 : decode cX5_disagreement 16 = .ok (.iconst 1, 1) := by decide +kernel
theorem dX5_disagreement_17 : decode cX5_disagreement 17 = .ok (.invokevirtual 92, 3) := by decide +kernel
theorem dX5_disagreement_20 : decode cX5_disagreement 20 = .ok (.ifCond .ne 5, 3) := by decide +kernel
theorem dX5_disagreement_23 : decode cX5_disagreement 23 = .ok (.iconst 0, 1) := by decide +kernel
theorem dX5_disagreement_24 : decode cX5_disagreement 24 = .ok (.ireturn, 1) := by decide +kernel
theorem dX5_disagreement_25 : decode cX5_disagreement 25 = .ok (.aload_n 0, 1) := by decide +kernel
theorem dX5_disagreement_26 : decode cX5_disagreement 26 = .ok (.iload_n 1, 1) := by decide +kernel
theorem dX5_disagreement_27 : decode cX5_disagreement 27 = .ok (.iconst (-1), 1) := by decide +kernel
theorem dX5_disagreement_28 : decode cX5_disagreement 28 = .ok (.invokevirtual 73, 3) := by decide +kernel
theorem dX5_disagreement_31 : decode cX5_disagreement 31 = .ok (.pop, 1) := by decide +kernel
theorem dX5_disagreement_32 : decode cX5_disagreement 32 = .ok (.aload_n 0, 1) := by decide +kernel
theorem dX5_disagreement_33 : decode cX5_disagreement 33 = .ok (.iload_n 2, 1) := by decide +kernel
theorem dX5_disagreement_34 : decode cX5_disagreement 34 = .ok (.invokevirtual 76, 3) := by decide +kernel
theorem dX5_disagreement_37 : decode cX5_disagreement 37 = .ok (.ireturn, 1) := by decide +kernel
theorem dX5_soundShare_0 : decode cX5_soundShare 0 = .ok (.aload_n 0, 1) := by decide +kernel
theorem dX5_soundShare_1 : decode cX5_soundShare 1 = .ok (.iload_n 1, 1) := by decide +kernel
theorem dX5_soundShare_2 : decode cX5_soundShare 2 = .ok (.invokestatic 89, 3) := by decide +kernel
theorem dX5_soundShare_5 : decode cX5_soundShare 5 = .ok (.ifCond .eq 7, 3) := by decide +kernel
theorem dX5_soundShare_8 : decode cX5_soundShare 8 = .ok (.iconst 0, 1) := by decide +kernel
theorem dX5_soundShare_9 : decode cX5_soundShare 9 = .ok (.goto 4, 3) := by decide +kernel
theorem dX5_soundShare_12 : decode cX5_soundShare 12 = .ok (.iconst 1, 1) := by decide +kernel
theorem dX5_soundShare_13 : decode cX5_soundShare 13 = .ok (.invokevirtual 92, 3) := by decide +kernel
theorem dX5_soundShare_16 : decode cX5_soundShare 16 = .ok (.ifCond .eq 24, 3) := by decide +kernel
theorem dX5_soundShare_19 : decode cX5_soundShare 19 = .ok (.aload_n 0, 1) := by decide +kernel
theorem dX5_soundShare_20 : decode cX5_soundShare 20 = .ok (.iload_n 1, 1) := by decide +kernel
theorem dX5_soundShare_21 : decode cX5_soundShare 21 = .ok (.iconst 0, 1) := by decide +kernel
theorem dX5_soundShare_22 : decode cX5_soundShare 22 = .ok (.invokevirtual 107, 3) := by decide +kernel
theorem dX5_soundShare_25 : decode cX5_soundShare 25 = .ok (.aload_n 0, 1) := by decide +kernel
theorem dX5_soundShare_26 : decode cX5_soundShare 26 = .ok (.iload_n 1, 1) := by decide +kernel
theorem dX5_soundShare_27 : decode cX5_soundShare 27 = .ok (.iconst 1, 1) := by decide +kernel
theorem dX5_soundShare_28 : decode cX5_soundShare 28 = .ok (.invokevirtual 107, 3) := by decide +kernel
theorem dX5_soundShare_31 : decode cX5_soundShare 31 = .ok (.iadd, 1) := by decide +kernel
theorem dX5_soundShare_32 : decode cX5_soundShare 32 = .ok (.i2d, 1) := by decide +kernel
theorem dX5_soundShare_33 : decode cX5_soundShare 33 = .ok (.ldc2_w 132, 3) := by decide +kernel
theorem dX5_soundShare_36 : decode cX5_soundShare 36 = .ok (.ddiv, 1) := by decide +kernel
theorem dX5_soundShare_37 : decode cX5_soundShare 37 = .ok (.goto 4, 3) := by decide +kernel
theorem dX5_soundShare_40 : decode cX5_soundShare 40 = .ok (.dconst 0, 1) := by decide +kernel
theorem dX5_soundShare_41 : decode cX5_soundShare 41 = .ok (.dreturn, 1) := by decide +kernel
theorem dX5_untoldBut_0 : decode cX5_untoldBut 0 = .ok (.aload_n 0, 1) := by decide +kernel
theorem dX5_untoldBut_1 : decode cX5_untoldBut 1 = .ok (.iload_n 1, 1) := by decide +kernel
theorem dX5_untoldBut_2 : decode cX5_untoldBut 2 = .ok (.iload_n 2, 1) := by decide +kernel
theorem dX5_untoldBut_3 : decode cX5_untoldBut 3 = .ok (.invokevirtual 35, 3) := by decide +kernel
theorem dX5_untoldBut_6 : decode cX5_untoldBut 6 = .ok (.invokestatic 66, 3) := by decide +kernel
theorem dX5_untoldBut_9 : decode cX5_untoldBut 9 = .ok (.ifCond .eq 12, 3) := by decide +kernel
theorem dX5_untoldBut_12 : decode cX5_untoldBut 12 = .ok (.aload_n 0, 1) := by decide +kernel
theorem dX5_untoldBut_13 : decode cX5_untoldBut 13 = .ok (.iload_n 1, 1) := by decide +kernel
theorem dX5_untoldBut_14 : decode cX5_untoldBut 14 = .ok (.iload_n 2, 1) := by decide +kernel
theorem dX5_untoldBut_15 : decode cX5_untoldBut 15 = .ok (.invokevirtual 73, 3) := by decide +kernel
theorem dX5_untoldBut_18 : decode cX5_untoldBut 18 = .ok (.goto 4, 3) := by decide +kernel
theorem dX5_untoldBut_21 : decode cX5_untoldBut 21 = .ok (.iconst (-1), 1) := by decide +kernel
theorem dX5_untoldBut_22 : decode cX5_untoldBut 22 = .ok (.ireturn, 1) := by decide +kernel
theorem dX5_untoldIf_0 : decode cX5_untoldIf 0 = .ok (.aload_n 0, 1) := by decide +kernel
theorem dX5_untoldIf_1 : decode cX5_untoldIf 1 = .ok (.iload_n 1, 1) := by decide +kernel
theorem dX5_untoldIf_2 : decode cX5_untoldIf 2 = .ok (.invokestatic 89, 3) := by decide +kernel
theorem dX5_untoldIf_5 : decode cX5_untoldIf 5 = .ok (.ifCond .eq 15, 3) := by decide +kernel
theorem dX5_untoldIf_8 : decode cX5_untoldIf 8 = .ok (.iload_n 2, 1) := by decide +kernel
theorem dX5_untoldIf_9 : decode cX5_untoldIf 9 = .ok (.iload_n 3, 1) := by decide +kernel
theorem dX5_untoldIf_10 : decode cX5_untoldIf 10 = .ok (.invokestatic 110, 3) := by decide +kernel
theorem dX5_untoldIf_13 : decode cX5_untoldIf 13 = .ok (.ifCond .eq 7, 3) := by decide +kernel
theorem dX5_untoldIf_16 : decode cX5_untoldIf 16 = .ok (.iconst 0, 1) := by decide +kernel
theorem dX5_untoldIf_17 : decode cX5_untoldIf 17 = .ok (.goto 4, 3) := by decide +kernel
theorem dX5_untoldIf_20 : decode cX5_untoldIf 20 = .ok (.iconst 1, 1) := by decide +kernel
theorem dX5_untoldIf_21 : decode cX5_untoldIf 21 = .ok (.invokevirtual 92, 3) := by decide +kernel
theorem dX5_untoldIf_24 : decode cX5_untoldIf 24 = .ok (.ifCond .eq 17, 3) := by decide +kernel
theorem dX5_untoldIf_27 : decode cX5_untoldIf 27 = .ok (.aload_n 0, 1) := by decide +kernel
theorem dX5_untoldIf_28 : decode cX5_untoldIf 28 = .ok (.iload_n 1, 1) := by decide +kernel
theorem dX5_untoldIf_29 : decode cX5_untoldIf 29 = .ok (.bipush 8, 2) := by decide +kernel
theorem dX5_untoldIf_31 : decode cX5_untoldIf 31 = .ok (.iload_n 2, 1) := by decide +kernel
theorem dX5_untoldIf_32 : decode cX5_untoldIf 32 = .ok (.imul, 1) := by decide +kernel
theorem dX5_untoldIf_33 : decode cX5_untoldIf 33 = .ok (.iload_n 3, 1) := by decide +kernel
theorem dX5_untoldIf_34 : decode cX5_untoldIf 34 = .ok (.iadd, 1) := by decide +kernel
theorem dX5_untoldIf_35 : decode cX5_untoldIf 35 = .ok (.invokevirtual 134, 3) := by decide +kernel
theorem dX5_untoldIf_38 : decode cX5_untoldIf 38 = .ok (.goto 4, 3) := by decide +kernel
theorem dX5_untoldIf_41 : decode cX5_untoldIf 41 = .ok (.iconst 0, 1) := by decide +kernel
theorem dX5_untoldIf_42 : decode cX5_untoldIf 42 = .ok (.ireturn, 1) := by decide +kernel
theorem dX5_worstOf_0 : decode cX5_worstOf 0 = .ok (.iconst (-1), 1) := by decide +kernel
theorem dX5_worstOf_1 : decode cX5_worstOf 1 = .ok (.istore_n 2, 1) := by decide +kernel
theorem dX5_worstOf_2 : decode cX5_worstOf 2 = .ok (.iconst (-1), 1) := by decide +kernel
theorem dX5_worstOf_3 : decode cX5_worstOf 3 = .ok (.istore_n 3, 1) := by decide +kernel
theorem dX5_worstOf_4 : decode cX5_worstOf 4 = .ok (.iconst 0, 1) := by decide +kernel
theorem dX5_worstOf_5 : decode cX5_worstOf 5 = .ok (.istore 4, 2) := by decide +kernel
theorem dX5_worstOf_7 : decode cX5_worstOf 7 = .ok (.iload 4, 2) := by decide +kernel
theorem dX5_worstOf_9 : decode cX5_worstOf 9 = .ok (.bipush 64, 2) := by decide +kernel
theorem dX5_worstOf_11 : decode cX5_worstOf 11 = .ok (.if_icmp .ge 44, 3) := by decide +kernel
theorem dX5_worstOf_14 : decode cX5_worstOf 14 = .ok (.aload_n 0, 1) := by decide +kernel
theorem dX5_worstOf_15 : decode cX5_worstOf 15 = .ok (.iload_n 1, 1) := by decide +kernel
theorem dX5_worstOf_16 : decode cX5_worstOf 16 = .ok (.iload 4, 2) := by decide +kernel
theorem dX5_worstOf_18 : decode cX5_worstOf 18 = .ok (.invokevirtual 134, 3) := by decide +kernel
theorem dX5_worstOf_21 : decode cX5_worstOf 21 = .ok (.istore 5, 2) := by decide +kernel
theorem dX5_worstOf_23 : decode cX5_worstOf 23 = .ok (.iload 5, 2) := by decide +kernel
theorem dX5_worstOf_25 : decode cX5_worstOf 25 = .ok (.iload_n 3, 1) := by decide +kernel
theorem dX5_worstOf_26 : decode cX5_worstOf 26 = .ok (.if_icmp .le 8, 3) := by decide +kernel
theorem dX5_worstOf_29 : decode cX5_worstOf 29 = .ok (.iload 4, 2) := by decide +kernel
theorem dX5_worstOf_31 : decode cX5_worstOf 31 = .ok (.goto 4, 3) := by decide +kernel
theorem dX5_worstOf_34 : decode cX5_worstOf 34 = .ok (.iload_n 2, 1) := by decide +kernel
theorem dX5_worstOf_35 : decode cX5_worstOf 35 = .ok (.istore_n 2, 1) := by decide +kernel
theorem dX5_worstOf_36 : decode cX5_worstOf 36 = .ok (.iload 5, 2) := by decide +kernel
theorem dX5_worstOf_38 : decode cX5_worstOf 38 = .ok (.iload_n 3, 1) := by decide +kernel
theorem dX5_worstOf_39 : decode cX5_worstOf 39 = .ok (.if_icmp .le 8, 3) := by decide +kernel
theorem dX5_worstOf_42 : decode cX5_worstOf 42 = .ok (.iload 5, 2) := by decide +kernel
theorem dX5_worstOf_44 : decode cX5_worstOf 44 = .ok (.goto 4, 3) := by decide +kernel
theorem dX5_worstOf_47 : decode cX5_worstOf 47 = .ok (.iload_n 3, 1) := by decide +kernel
theorem dX5_worstOf_48 : decode cX5_worstOf 48 = .ok (.istore_n 3, 1) := by decide +kernel
theorem dX5_worstOf_49 : decode cX5_worstOf 49 = .ok (.iinc 4 1, 3) := by decide +kernel
theorem dX5_worstOf_52 : decode cX5_worstOf 52 = .ok (.goto (-45), 3) := by decide +kernel
theorem dX5_worstOf_55 : decode cX5_worstOf 55 = .ok (.iload_n 2, 1) := by decide +kernel
theorem dX5_worstOf_56 : decode cX5_worstOf 56 = .ok (.ireturn, 1) := by decide +kernel
theorem dX5_worst_0 : decode cX5_worst 0 = .ok (.aload_n 0, 1) := by decide +kernel
theorem dX5_worst_1 : decode cX5_worst 1 = .ok (.iload_n 1, 1) := by decide +kernel
theorem dX5_worst_2 : decode cX5_worst 2 = .ok (.invokestatic 89, 3) := by decide +kernel
theorem dX5_worst_5 : decode cX5_worst 5 = .ok (.ifCond .eq 7, 3) := by decide +kernel
theorem dX5_worst_8 : decode cX5_worst 8 = .ok (.iconst 0, 1) := by decide +kernel
theorem dX5_worst_9 : decode cX5_worst 9 = .ok (.goto 4, 3) := by decide +kernel
theorem dX5_worst_12 : decode cX5_worst 12 = .ok (.iconst 1, 1) := by decide +kernel
theorem dX5_worst_13 : decode cX5_worst 13 = .ok (.invokevirtual 92, 3) := by decide +kernel
theorem dX5_worst_16 : decode cX5_worst 16 = .ok (.ifCond .eq 11, 3) := by decide +kernel
theorem dX5_worst_19 : decode cX5_worst 19 = .ok (.aload_n 0, 1) := by decide +kernel
theorem dX5_worst_20 : decode cX5_worst 20 = .ok (.iload_n 1, 1) := by decide +kernel
theorem dX5_worst_21 : decode cX5_worst 21 = .ok (.invokevirtual 137, 3) := by decide +kernel
theorem dX5_worst_24 : decode cX5_worst 24 = .ok (.goto 4, 3) := by decide +kernel
theorem dX5_worst_27 : decode cX5_worst 27 = .ok (.iconst 0, 1) := by decide +kernel
theorem dX5_worst_28 : decode cX5_worst 28 = .ok (.ireturn, 1) := by decide +kernel
theorem dX5_difference_0 : decode cX5_difference 0 = .ok (.aload_n 0, 1) := by decide +kernel
theorem dX5_difference_1 : decode cX5_difference 1 = .ok (.iload_n 1, 1) := by decide +kernel
theorem dX5_difference_2 : decode cX5_difference 2 = .ok (.invokestatic 89, 3) := by decide +kernel
theorem dX5_difference_5 : decode cX5_difference 5 = .ok (.ifCond .eq 14, 3) := by decide +kernel
theorem dX5_difference_8 : decode cX5_difference 8 = .ok (.iload_n 2, 1) := by decide +kernel
theorem dX5_difference_9 : decode cX5_difference 9 = .ok (.invokestatic 89, 3) := by decide +kernel
theorem dX5_difference_12 : decode cX5_difference 12 = .ok (.ifCond .eq 7, 3) := by decide +kernel
theorem dX5_difference_15 : decode cX5_difference 15 = .ok (.iconst 0, 1) := by decide +kernel
theorem dX5_difference_16 : decode cX5_difference 16 = .ok (.goto 4, 3) := by decide +kernel
theorem dX5_difference_19 : decode cX5_difference 19 = .ok (.iconst 1, 1) := by decide +kernel
theorem dX5_difference_20 : decode cX5_difference 20 = .ok (.invokevirtual 92, 3) := by decide +kernel
theorem dX5_difference_23 : decode cX5_difference 23 = .ok (.ifCond .ne 5, 3) := by decide +kernel
theorem dX5_difference_26 : decode cX5_difference 26 = .ok (.iconst 0, 1) := by decide +kernel
theorem dX5_difference_27 : decode cX5_difference 27 = .ok (.ireturn, 1) := by decide +kernel
theorem dX5_difference_28 : decode cX5_difference 28 = .ok (.lconst 0, 1) := by decide +kernel
theorem dX5_difference_29 : decode cX5_difference 29 = .ok (.lstore_n 3, 1) := by decide +kernel
theorem dX5_difference_30 : decode cX5_difference 30 = .ok (.lconst 0, 1) := by decide +kernel
theorem dX5_difference_31 : decode cX5_difference 31 = .ok (.lstore 5, 2) := by decide +kernel
theorem dX5_difference_33 : decode cX5_difference 33 = .ok (.aload_n 0, 1) := by decide +kernel
theorem dX5_difference_34 : decode cX5_difference 34 = .ok (.iload_n 1, 1) := by decide +kernel
theorem dX5_difference_35 : decode cX5_difference 35 = .ok (.iconst (-1), 1) := by decide +kernel
theorem dX5_difference_36 : decode cX5_difference 36 = .ok (.invokevirtual 73, 3) := by decide +kernel
theorem dX5_difference_39 : decode cX5_difference 39 = .ok (.pop, 1) := by decide +kernel
theorem dX5_difference_40 : decode cX5_difference 40 = .ok (.iconst 0, 1) := by decide +kernel
theorem dX5_difference_41 : decode cX5_difference 41 = .ok (.istore 7, 2) := by decide +kernel
theorem dX5_difference_43 : decode cX5_difference 43 = .ok (.iload 7, 2) := by decide +kernel
theorem dX5_difference_45 : decode cX5_difference 45 = .ok (.bipush 64, 2) := by decide +kernel
theorem dX5_difference_47 : decode cX5_difference 47 = .ok (.if_icmp .ge 54, 3) := by decide +kernel
theorem dX5_difference_50 : decode cX5_difference 50 = .ok (.lload_n 3, 1) := by decide +kernel
theorem dX5_difference_51 : decode cX5_difference 51 = .ok (.aload_n 0, 1) := by decide +kernel
theorem dX5_difference_52 : decode cX5_difference 52 = .ok (.getfield 16, 3) := by decide +kernel
theorem dX5_difference_55 : decode cX5_difference 55 = .ok (.iload 7, 2) := by decide +kernel
theorem dX5_difference_57 : decode cX5_difference 57 = .ok (.iaload, 1) := by decide +kernel
theorem dX5_difference_58 : decode cX5_difference 58 = .ok (.iconst 1, 1) := by decide +kernel
theorem dX5_difference_59 : decode cX5_difference 59 = .ok (.if_icmp .ne 10, 3) := by decide +kernel
theorem dX5_difference_62 : decode cX5_difference 62 = .ok (.lconst 1, 1) := by decide +kernel
theorem dX5_difference_63 : decode cX5_difference 63 = .ok (.iload 7, 2) := by decide +kernel
theorem dX5_difference_65 : decode cX5_difference 65 = .ok (.lshl, 1) := by decide +kernel
theorem dX5_difference_66 : decode cX5_difference 66 = .ok (.goto 4, 3) := by decide +kernel
theorem dX5_difference_69 : decode cX5_difference 69 = .ok (.lconst 0, 1) := by decide +kernel
theorem dX5_difference_70 : decode cX5_difference 70 = .ok (.lor, 1) := by decide +kernel
theorem dX5_difference_71 : decode cX5_difference 71 = .ok (.lstore_n 3, 1) := by decide +kernel
theorem dX5_difference_72 : decode cX5_difference 72 = .ok (.lload 5, 2) := by decide +kernel
theorem dX5_difference_74 : decode cX5_difference 74 = .ok (.aload_n 0, 1) := by decide +kernel
theorem dX5_difference_75 : decode cX5_difference 75 = .ok (.getfield 16, 3) := by decide +kernel
theorem dX5_difference_78 : decode cX5_difference 78 = .ok (.iload 7, 2) := by decide +kernel
theorem dX5_difference_80 : decode cX5_difference 80 = .ok (.iaload, 1) := by decide +kernel
theorem dX5_difference_81 : decode cX5_difference 81 = .ok (.ifCond .ne 10, 3) := by decide +kernel
theorem dX5_difference_84 : decode cX5_difference 84 = .ok (.lconst 1, 1) := by decide +kernel
theorem dX5_difference_85 : decode cX5_difference 85 = .ok (.iload 7, 2) := by decide +kernel
theorem dX5_difference_87 : decode cX5_difference 87 = .ok (.lshl, 1) := by decide +kernel
theorem dX5_difference_88 : decode cX5_difference 88 = .ok (.goto 4, 3) := by decide +kernel
theorem dX5_difference_91 : decode cX5_difference 91 = .ok (.lconst 0, 1) := by decide +kernel
theorem dX5_difference_92 : decode cX5_difference 92 = .ok (.lor, 1) := by decide +kernel
theorem dX5_difference_93 : decode cX5_difference 93 = .ok (.lstore 5, 2) := by decide +kernel
theorem dX5_difference_95 : decode cX5_difference 95 = .ok (.iinc 7 1, 3) := by decide +kernel
theorem dX5_difference_98 : decode cX5_difference 98 = .ok (.goto (-55), 3) := by decide +kernel
theorem dX5_difference_101 : decode cX5_difference 101 = .ok (.aload_n 0, 1) := by decide +kernel
theorem dX5_difference_102 : decode cX5_difference 102 = .ok (.iload_n 2, 1) := by decide +kernel
theorem dX5_difference_103 : decode cX5_difference 103 = .ok (.iconst (-1), 1) := by decide +kernel
theorem dX5_difference_104 : decode cX5_difference 104 = .ok (.invokevirtual 73, 3) := by decide +kernel
theorem dX5_difference_107 : decode cX5_difference 107 = .ok (.pop, 1) := by decide +kernel
theorem dX5_difference_108 : decode cX5_difference 108 = .ok (.iconst 0, 1) := by decide +kernel
theorem dX5_difference_109 : decode cX5_difference 109 = .ok (.istore 7, 2) := by decide +kernel
theorem dX5_difference_111 : decode cX5_difference 111 = .ok (.iconst 0, 1) := by decide +kernel
theorem dX5_difference_112 : decode cX5_difference 112 = .ok (.istore 8, 2) := by decide +kernel
theorem dX5_difference_114 : decode cX5_difference 114 = .ok (.iload 8, 2) := by decide +kernel
theorem dX5_difference_116 : decode cX5_difference 116 = .ok (.bipush 64, 2) := by decide +kernel
theorem dX5_difference_118 : decode cX5_difference 118 = .ok (.if_icmp .ge 75, 3) := by decide +kernel
theorem dX5_difference_121 : decode cX5_difference 121 = .ok (.aload_n 0, 1) := by decide +kernel
theorem dX5_difference_122 : decode cX5_difference 122 = .ok (.getfield 16, 3) := by decide +kernel
theorem dX5_difference_125 : decode cX5_difference 125 = .ok (.iload 8, 2) := by decide +kernel
theorem dX5_difference_127 : decode cX5_difference 127 = .ok (.iaload, 1) := by decide +kernel
theorem dX5_difference_128 : decode cX5_difference 128 = .ok (.ifCond .ne 14, 3) := by decide +kernel
theorem dX5_difference_131 : decode cX5_difference 131 = .ok (.lload_n 3, 1) := by decide +kernel
theorem dX5_difference_132 : decode cX5_difference 132 = .ok (.iload 8, 2) := by decide +kernel
theorem dX5_difference_134 : decode cX5_difference 134 = .ok (.lshr, 1) := by decide +kernel
theorem dX5_difference_135 : decode cX5_difference 135 = .ok (.lconst 1, 1) := by decide +kernel
theorem dX5_difference_136 : decode cX5_difference 136 = .ok (.land, 1) := by decide +kernel
theorem dX5_difference_137 : decode cX5_difference 137 = .ok (.lconst 1, 1) := by decide +kernel
theorem dX5_difference_138 : decode cX5_difference 138 = .ok (.lcmp, 1) := by decide +kernel
theorem dX5_difference_139 : decode cX5_difference 139 = .ok (.ifCond .eq 26, 3) := by decide +kernel
theorem dX5_difference_142 : decode cX5_difference 142 = .ok (.aload_n 0, 1) := by decide +kernel
theorem dX5_difference_143 : decode cX5_difference 143 = .ok (.getfield 16, 3) := by decide +kernel
theorem dX5_difference_146 : decode cX5_difference 146 = .ok (.iload 8, 2) := by decide +kernel
theorem dX5_difference_148 : decode cX5_difference 148 = .ok (.iaload, 1) := by decide +kernel
theorem dX5_difference_149 : decode cX5_difference 149 = .ok (.iconst 1, 1) := by decide +kernel
theorem dX5_difference_150 : decode cX5_difference 150 = .ok (.if_icmp .ne 19, 3) := by decide +kernel
theorem dX5_difference_153 : decode cX5_difference 153 = .ok (.lload 5, 2) := by decide +kernel
theorem dX5_difference_155 : decode cX5_difference 155 = .ok (.iload 8, 2) := by decide +kernel
theorem dX5_difference_157 : decode cX5_difference 157 = .ok (.lshr, 1) := by decide +kernel
theorem dX5_difference_158 : decode cX5_difference 158 = .ok (.lconst 1, 1) := by decide +kernel
theorem dX5_difference_159 : decode cX5_difference 159 = .ok (.land, 1) := by decide +kernel
theorem dX5_difference_160 : decode cX5_difference 160 = .ok (.lconst 1, 1) := by decide +kernel
theorem dX5_difference_161 : decode cX5_difference 161 = .ok (.lcmp, 1) := by decide +kernel
theorem dX5_difference_162 : decode cX5_difference 162 = .ok (.ifCond .ne 7, 3) := by decide +kernel
theorem dX5_difference_165 : decode cX5_difference 165 = .ok (.iconst 1, 1) := by decide +kernel
theorem dX5_difference_166 : decode cX5_difference 166 = .ok (.goto 4, 3) := by decide +kernel
theorem dX5_difference_169 : decode cX5_difference 169 = .ok (.iconst 0, 1) := by decide +kernel
theorem dX5_difference_170 : decode cX5_difference 170 = .ok (.istore 9, 2) := by decide +kernel
theorem dX5_difference_172 : decode cX5_difference 172 = .ok (.iload 7, 2) := by decide +kernel
theorem dX5_difference_174 : decode cX5_difference 174 = .ok (.iload 9, 2) := by decide +kernel
theorem dX5_difference_176 : decode cX5_difference 176 = .ok (.ifCond .eq 7, 3) := by decide +kernel
theorem dX5_difference_179 : decode cX5_difference 179 = .ok (.iconst 1, 1) := by decide +kernel
theorem dX5_difference_180 : decode cX5_difference 180 = .ok (.goto 4, 3) := by decide +kernel
theorem dX5_difference_183 : decode cX5_difference 183 = .ok (.iconst 0, 1) := by decide +kernel
theorem dX5_difference_184 : decode cX5_difference 184 = .ok (.iadd, 1) := by decide +kernel
theorem dX5_difference_185 : decode cX5_difference 185 = .ok (.istore 7, 2) := by decide +kernel
theorem dX5_difference_187 : decode cX5_difference 187 = .ok (.iinc 8 1, 3) := by decide +kernel
theorem dX5_difference_190 : decode cX5_difference 190 = .ok (.goto (-76), 3) := by decide +kernel
theorem dX5_difference_193 : decode cX5_difference 193 = .ok (.iload 7, 2) := by decide +kernel
theorem dX5_difference_195 : decode cX5_difference 195 = .ok (.ireturn, 1) := by decide +kernel
theorem dX5_append_0 : decode cX5_append 0 = .ok (.aload_n 0, 1) := by decide +kernel
theorem dX5_append_1 : decode cX5_append 1 = .ok (.iload_n 1, 1) := by decide +kernel
theorem dX5_append_2 : decode cX5_append 2 = .ok (.bipush 33, 2) := by decide +kernel
theorem dX5_append_4 : decode cX5_append 4 = .ok (.bipush 126, 2) := by decide +kernel
theorem dX5_append_6 : decode cX5_append 6 = .ok (.invokestatic 27, 3) := by decide +kernel
theorem dX5_append_9 : decode cX5_append 9 = .ok (.ifCond .ne 7, 3) := by decide +kernel
theorem dX5_append_12 : decode cX5_append 12 = .ok (.iconst 1, 1) := by decide +kernel
theorem dX5_append_13 : decode cX5_append 13 = .ok (.goto 17, 3) := by decide +kernel
theorem dX5_append_16 : decode cX5_append 16 = .ok (.aload_n 0, 1) := by decide +kernel
theorem dX5_append_17 : decode cX5_append 17 = .ok (.getfield 140, 3) := by decide +kernel
theorem dX5_append_20 : decode cX5_append 20 = .ok (.bipush 60, 2) := by decide +kernel
theorem dX5_append_22 : decode cX5_append 22 = .ok (.if_icmp .ne 7, 3) := by decide +kernel
theorem dX5_append_25 : decode cX5_append 25 = .ok (.iconst 2, 1) := by decide +kernel
theorem dX5_append_26 : decode cX5_append 26 = .ok (.goto 4, 3) := by decide +kernel
theorem dX5_append_29 : decode cX5_append 29 = .ok (.iconst 0, 1) := by decide +kernel
theorem dX5_append_30 : decode cX5_append 30 = .ok (.invokevirtual 92, 3) := by decide +kernel
theorem dX5_append_33 : decode cX5_append 33 = .ok (.ifCond .ne 5, 3) := by decide +kernel
theorem dX5_append_36 : decode cX5_append 36 = .ok (.iconst 0, 1) := by decide +kernel
theorem dX5_append_37 : decode cX5_append 37 = .ok (.ireturn, 1) := by decide +kernel
theorem dX5_append_38 : decode cX5_append 38 = .ok (.aload_n 0, 1) := by decide +kernel
theorem dX5_append_39 : decode cX5_append 39 = .ok (.getfield 13, 3) := by decide +kernel
theorem dX5_append_42 : decode cX5_append 42 = .ok (.aload_n 0, 1) := by decide +kernel
theorem dX5_append_43 : decode cX5_append 43 = .ok (.getfield 140, 3) := by decide +kernel
theorem dX5_append_46 : decode cX5_append 46 = .ok (.iload_n 1, 1) := by decide +kernel
theorem dX5_append_47 : decode cX5_append 47 = .ok (.iastore, 1) := by decide +kernel
theorem dX5_append_48 : decode cX5_append 48 = .ok (.aload_n 0, 1) := by decide +kernel
theorem dX5_append_49 : decode cX5_append 49 = .ok (.dup, 1) := by decide +kernel
theorem dX5_append_50 : decode cX5_append 50 = .ok (.getfield 140, 3) := by decide +kernel
theorem dX5_append_53 : decode cX5_append 53 = .ok (.iconst 1, 1) := by decide +kernel
theorem dX5_append_54 : decode cX5_append 54 = .ok (.iadd, 1) := by decide +kernel
theorem dX5_append_55 : decode cX5_append 55 = .ok (.putfield 140, 3) := by decide +kernel
theorem dX5_append_58 : decode cX5_append 58 = .ok (.aload_n 0, 1) := by decide +kernel
theorem dX5_append_59 : decode cX5_append 59 = .ok (.getfield 140, 3) := by decide +kernel
theorem dX5_append_62 : decode cX5_append 62 = .ok (.ireturn, 1) := by decide +kernel
theorem dX5_clearText_0 : decode cX5_clearText 0 = .ok (.aload_n 0, 1) := by decide +kernel
theorem dX5_clearText_1 : decode cX5_clearText 1 = .ok (.iconst 0, 1) := by decide +kernel
theorem dX5_clearText_2 : decode cX5_clearText 2 = .ok (.putfield 23, 3) := by decide +kernel
theorem dX5_clearText_5 : decode cX5_clearText 5 = .ok (.aload_n 0, 1) := by decide +kernel
theorem dX5_clearText_6 : decode cX5_clearText 6 = .ok (.getfield 140, 3) := by decide +kernel
theorem dX5_clearText_9 : decode cX5_clearText 9 = .ok (.istore_n 1, 1) := by decide +kernel
theorem dX5_clearText_10 : decode cX5_clearText 10 = .ok (.aload_n 0, 1) := by decide +kernel
theorem dX5_clearText_11 : decode cX5_clearText 11 = .ok (.iconst 0, 1) := by decide +kernel
theorem dX5_clearText_12 : decode cX5_clearText 12 = .ok (.putfield 140, 3) := by decide +kernel
theorem dX5_clearText_15 : decode cX5_clearText 15 = .ok (.iload_n 1, 1) := by decide +kernel
theorem dX5_clearText_16 : decode cX5_clearText 16 = .ok (.ireturn, 1) := by decide +kernel
theorem dX5_sign_0 : decode cX5_sign 0 = .ok (.aload_n 0, 1) := by decide +kernel
theorem dX5_sign_1 : decode cX5_sign 1 = .ok (.getfield 143, 3) := by decide +kernel
theorem dX5_sign_4 : decode cX5_sign 4 = .ok (.aload_n 0, 1) := by decide +kernel
theorem dX5_sign_5 : decode cX5_sign 5 = .ok (.getfield 140, 3) := by decide +kernel
theorem dX5_sign_8 : decode cX5_sign 8 = .ok (.if_icmp .ge 15, 3) := by decide +kernel
theorem dX5_sign_11 : decode cX5_sign 11 = .ok (.aload_n 0, 1) := by decide +kernel
theorem dX5_sign_12 : decode cX5_sign 12 = .ok (.getfield 13, 3) := by decide +kernel
theorem dX5_sign_15 : decode cX5_sign 15 = .ok (.aload_n 0, 1) := by decide +kernel
theorem dX5_sign_16 : decode cX5_sign 16 = .ok (.getfield 143, 3) := by decide +kernel
theorem dX5_sign_19 : decode cX5_sign 19 = .ok (.iaload, 1) := by decide +kernel
theorem dX5_sign_20 : decode cX5_sign 20 = .ok (.goto 4, 3) := by decide +kernel
theorem dX5_sign_23 : decode cX5_sign 23 = .ok (.iconst 0, 1) := by decide +kernel
theorem dX5_sign_24 : decode cX5_sign 24 = .ok (.ireturn, 1) := by decide +kernel
theorem dX5_takes_0 : decode cX5_takes 0 = .ok (.aload_n 0, 1) := by decide +kernel
theorem dX5_takes_1 : decode cX5_takes 1 = .ok (.invokevirtual 146, 3) := by decide +kernel
theorem dX5_takes_4 : decode cX5_takes 4 = .ok (.iload_n 1, 1) := by decide +kernel
theorem dX5_takes_5 : decode cX5_takes 5 = .ok (.if_icmp .ne 7, 3) := by decide +kernel
theorem dX5_takes_8 : decode cX5_takes 8 = .ok (.iconst 1, 1) := by decide +kernel
theorem dX5_takes_9 : decode cX5_takes 9 = .ok (.goto 4, 3) := by decide +kernel
theorem dX5_takes_12 : decode cX5_takes 12 = .ok (.iconst 0, 1) := by decide +kernel
theorem dX5_takes_13 : decode cX5_takes 13 = .ok (.istore_n 2, 1) := by decide +kernel
theorem dX5_takes_14 : decode cX5_takes 14 = .ok (.aload_n 0, 1) := by decide +kernel
theorem dX5_takes_15 : decode cX5_takes 15 = .ok (.dup, 1) := by decide +kernel
theorem dX5_takes_16 : decode cX5_takes 16 = .ok (.getfield 143, 3) := by decide +kernel
theorem dX5_takes_19 : decode cX5_takes 19 = .ok (.iload_n 2, 1) := by decide +kernel
theorem dX5_takes_20 : decode cX5_takes 20 = .ok (.ifCond .eq 7, 3) := by decide +kernel
theorem dX5_takes_23 : decode cX5_takes 23 = .ok (.iconst 1, 1) := by decide +kernel
theorem dX5_takes_24 : decode cX5_takes 24 = .ok (.goto 4, 3) := by decide +kernel
theorem dX5_takes_27 : decode cX5_takes 27 = .ok (.iconst 0, 1) := by decide +kernel
theorem dX5_takes_28 : decode cX5_takes 28 = .ok (.iadd, 1) := by decide +kernel
theorem dX5_takes_29 : decode cX5_takes 29 = .ok (.putfield 143, 3) := by decide +kernel
theorem dX5_takes_32 : decode cX5_takes 32 = .ok (.iload_n 2, 1) := by decide +kernel
theorem dX5_takes_33 : decode cX5_takes 33 = .ok (.ireturn, 1) := by decide +kernel
theorem dX5_figure_0 : decode cX5_figure 0 = .ok (.aload_n 0, 1) := by decide +kernel
theorem dX5_figure_1 : decode cX5_figure 1 = .ok (.invokevirtual 146, 3) := by decide +kernel
theorem dX5_figure_4 : decode cX5_figure 4 = .ok (.bipush 48, 2) := by decide +kernel
theorem dX5_figure_6 : decode cX5_figure 6 = .ok (.bipush 48, 2) := by decide +kernel
theorem dX5_figure_8 : decode cX5_figure 8 = .ok (.iload_n 1, 1) := by decide +kernel
theorem dX5_figure_9 : decode cX5_figure 9 = .ok (.iadd, 1) := by decide +kernel
theorem dX5_figure_10 : decode cX5_figure 10 = .ok (.invokestatic 27, 3) := by decide +kernel
theorem dX5_figure_13 : decode cX5_figure 13 = .ok (.ifCond .eq 13, 3) := by decide +kernel
theorem dX5_figure_16 : decode cX5_figure 16 = .ok (.aload_n 0, 1) := by decide +kernel
theorem dX5_figure_17 : decode cX5_figure 17 = .ok (.invokevirtual 146, 3) := by decide +kernel
theorem dX5_figure_20 : decode cX5_figure 20 = .ok (.bipush 48, 2) := by decide +kernel
theorem dX5_figure_22 : decode cX5_figure 22 = .ok (.isub, 1) := by decide +kernel
theorem dX5_figure_23 : decode cX5_figure 23 = .ok (.goto 4, 3) := by decide +kernel
theorem dX5_figure_26 : decode cX5_figure 26 = .ok (.iconst (-1), 1) := by decide +kernel
theorem dX5_figure_27 : decode cX5_figure 27 = .ok (.istore_n 2, 1) := by decide +kernel
theorem dX5_figure_28 : decode cX5_figure 28 = .ok (.aload_n 0, 1) := by decide +kernel
theorem dX5_figure_29 : decode cX5_figure 29 = .ok (.dup, 1) := by decide +kernel
theorem dX5_figure_30 : decode cX5_figure 30 = .ok (.getfield 143, 3) := by decide +kernel
theorem dX5_figure_33 : decode cX5_figure 33 = .ok (.iload_n 2, 1) := by decide +kernel
theorem dX5_figure_34 : decode cX5_figure 34 = .ok (.iconst (-1), 1) := by decide +kernel
theorem dX5_figure_35 : decode cX5_figure 35 = .ok (.if_icmp .ne 7, 3) := by decide +kernel
theorem dX5_figure_38 : decode cX5_figure 38 = .ok (.iconst 0, 1) := by decide +kernel
theorem dX5_figure_39 : decode cX5_figure 39 = .ok (.goto 4, 3) := by decide +kernel
theorem dX5_figure_42 : decode cX5_figure 42 = .ok (.iconst 1, 1) := by decide +kernel
theorem dX5_figure_43 : decode cX5_figure 43 = .ok (.iadd, 1) := by decide +kernel
theorem dX5_figure_44 : decode cX5_figure 44 = .ok (.putfield 143, 3) := by decide +kernel
theorem dX5_figure_47 : decode cX5_figure 47 = .ok (.iload_n 2, 1) := by decide +kernel
theorem dX5_figure_48 : decode cX5_figure 48 = .ok (.ireturn, 1) := by decide +kernel
theorem dX5_readsValue_0 : decode cX5_readsValue 0 = .ok (.aload_n 0, 1) := by decide +kernel
theorem dX5_readsValue_1 : decode cX5_readsValue 1 = .ok (.aload_n 0, 1) := by decide +kernel
theorem dX5_readsValue_2 : decode cX5_readsValue 2 = .ok (.bipush 9, 2) := by decide +kernel
theorem dX5_readsValue_4 : decode cX5_readsValue 4 = .ok (.invokevirtual 150, 3) := by decide +kernel
theorem dX5_readsValue_7 : decode cX5_readsValue 7 = .ok (.putfield 153, 3) := by decide +kernel
theorem dX5_readsValue_10 : decode cX5_readsValue 10 = .ok (.aload_n 0, 1) := by decide +kernel
theorem dX5_readsValue_11 : decode cX5_readsValue 11 = .ok (.getfield 153, 3) := by decide +kernel
theorem dX5_readsValue_14 : decode cX5_readsValue 14 = .ok (.ifCond .le 59, 3) := by decide +kernel
theorem dX5_readsValue_17 : decode cX5_readsValue 17 = .ok (.aload_n 0, 1) := by decide +kernel
theorem dX5_readsValue_18 : decode cX5_readsValue 18 = .ok (.invokevirtual 146, 3) := by decide +kernel
theorem dX5_readsValue_21 : decode cX5_readsValue 21 = .ok (.bipush 48, 2) := by decide +kernel
theorem dX5_readsValue_23 : decode cX5_readsValue 23 = .ok (.bipush 57, 2) := by decide +kernel
theorem dX5_readsValue_25 : decode cX5_readsValue 25 = .ok (.invokestatic 27, 3) := by decide +kernel
theorem dX5_readsValue_28 : decode cX5_readsValue 28 = .ok (.ifCond .eq 45, 3) := by decide +kernel
theorem dX5_readsValue_31 : decode cX5_readsValue 31 = .ok (.bipush 10, 2) := by decide +kernel
theorem dX5_readsValue_33 : decode cX5_readsValue 33 = .ok (.aload_n 0, 1) := by decide +kernel
theorem dX5_readsValue_34 : decode cX5_readsValue 34 = .ok (.getfield 153, 3) := by decide +kernel
theorem dX5_readsValue_37 : decode cX5_readsValue 37 = .ok (.imul, 1) := by decide +kernel
theorem dX5_readsValue_38 : decode cX5_readsValue 38 = .ok (.aload_n 0, 1) := by decide +kernel
theorem dX5_readsValue_39 : decode cX5_readsValue 39 = .ok (.invokevirtual 146, 3) := by decide +kernel
theorem dX5_readsValue_42 : decode cX5_readsValue 42 = .ok (.iadd, 1) := by decide +kernel
theorem dX5_readsValue_43 : decode cX5_readsValue 43 = .ok (.bipush 48, 2) := by decide +kernel
theorem dX5_readsValue_45 : decode cX5_readsValue 45 = .ok (.isub, 1) := by decide +kernel
theorem dX5_readsValue_46 : decode cX5_readsValue 46 = .ok (.sipush 128, 3) := by decide +kernel
theorem dX5_readsValue_49 : decode cX5_readsValue 49 = .ok (.if_icmp .ge 24, 3) := by decide +kernel
theorem dX5_readsValue_52 : decode cX5_readsValue 52 = .ok (.aload_n 0, 1) := by decide +kernel
theorem dX5_readsValue_53 : decode cX5_readsValue 53 = .ok (.bipush 10, 2) := by decide +kernel
