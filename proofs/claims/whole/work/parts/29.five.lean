theorem d_AD_action_0 : decode b_AD_action 0 = .ok (.aload_n 0, 1) := by decide +kernel
theorem d_AD_action_1 : decode b_AD_action 1 = .ok (.getfield 29, 3) := by decide +kernel
theorem d_AD_action_4 : decode b_AD_action 4 = .ok (.bipush 12, 2) := by decide +kernel
theorem d_AD_action_6 : decode b_AD_action 6 = .ok (.if_icmp .lt 13, 3) := by decide +kernel
theorem d_AD_action_9 : decode b_AD_action 9 = .ok (.new 57, 3) := by decide +kernel
theorem d_AD_action_12 : decode b_AD_action 12 = .ok (.dup, 1) := by decide +kernel
theorem d_AD_action_13 : decode b_AD_action 13 = .ok (.ldc 59, 2) := by decide +kernel
theorem d_AD_action_15 : decode b_AD_action 15 = .ok (.invokespecial 61, 3) := by decide +kernel
theorem d_AD_action_18 : decode b_AD_action 18 = .ok (.athrow, 1) := by decide +kernel
theorem d_AD_action_19 : decode b_AD_action 19 = .ok (.aload_n 0, 1) := by decide +kernel
theorem d_AD_action_20 : decode b_AD_action 20 = .ok (.getfield 29, 3) := by decide +kernel
theorem d_AD_action_23 : decode b_AD_action 23 = .ok (.istore_n 1, 1) := by decide +kernel
theorem d_AD_action_24 : decode b_AD_action 24 = .ok (.aload_n 0, 1) := by decide +kernel
theorem d_AD_action_25 : decode b_AD_action 25 = .ok (.getfield 25, 3) := by decide +kernel
theorem d_AD_action_28 : decode b_AD_action 28 = .ok (.iload_n 1, 1) := by decide +kernel
theorem d_AD_action_29 : decode b_AD_action 29 = .ok (.new 23, 3) := by decide +kernel
theorem d_AD_action_32 : decode b_AD_action 32 = .ok (.dup, 1) := by decide +kernel
theorem d_AD_action_33 : decode b_AD_action 33 = .ok (.invokespecial 64, 3) := by decide +kernel
theorem d_AD_action_36 : decode b_AD_action 36 = .ok (.aastore, 1) := by decide +kernel
theorem d_AD_action_37 : decode b_AD_action 37 = .ok (.aload_n 0, 1) := by decide +kernel
theorem d_AD_action_38 : decode b_AD_action 38 = .ok (.dup, 1) := by decide +kernel
theorem d_AD_action_39 : decode b_AD_action 39 = .ok (.getfield 29, 3) := by decide +kernel
theorem d_AD_action_42 : decode b_AD_action 42 = .ok (.iconst 1, 1) := by decide +kernel
theorem d_AD_action_43 : decode b_AD_action 43 = .ok (.iadd, 1) := by decide +kernel
theorem d_AD_action_44 : decode b_AD_action 44 = .ok (.putfield 29, 3) := by decide +kernel
theorem d_AD_action_47 : decode b_AD_action 47 = .ok (.iload_n 1, 1) := by decide +kernel
theorem d_AD_action_48 : decode b_AD_action 48 = .ok (.ireturn, 1) := by decide +kernel
theorem d_AD_salt_0 : decode b_AD_salt 0 = .ok (.aload_n 0, 1) := by decide +kernel
theorem d_AD_salt_1 : decode b_AD_salt 1 = .ok (.getfield 10, 3) := by decide +kernel
theorem d_AD_salt_4 : decode b_AD_salt 4 = .ok (.invokevirtual 65, 3) := by decide +kernel
theorem d_AD_salt_7 : decode b_AD_salt 7 = .ok (.astore_n 1, 1) := by decide +kernel
theorem d_AD_salt_8 : decode b_AD_salt 8 = .ok (.aload_n 1, 1) := by decide +kernel
theorem d_AD_salt_9 : decode b_AD_salt 9 = .ok (.arraylength, 1) := by decide +kernel
theorem d_AD_salt_10 : decode b_AD_salt 10 = .ok (.bipush 16, 2) := by decide +kernel
theorem d_AD_salt_12 : decode b_AD_salt 12 = .ok (.if_icmp .le 13, 3) := by decide +kernel
theorem d_AD_salt_15 : decode b_AD_salt 15 = .ok (.new 73, 3) := by decide +kernel
theorem d_AD_salt_18 : decode b_AD_salt 18 = .ok (.dup, 1) := by decide +kernel
theorem d_AD_salt_19 : decode b_AD_salt 19 = .ok (.ldc 142, 2) := by decide +kernel
theorem d_AD_salt_21 : decode b_AD_salt 21 = .ok (.invokespecial 77, 3) := by decide +kernel
theorem d_AD_salt_24 : decode b_AD_salt 24 = .ok (.athrow, 1) := by decide +kernel
theorem d_AD_salt_25 : decode b_AD_salt 25 = .ok (.aload_n 0, 1) := by decide +kernel
theorem d_AD_salt_26 : decode b_AD_salt 26 = .ok (.aload_n 1, 1) := by decide +kernel
theorem d_AD_salt_27 : decode b_AD_salt 27 = .ok (.putfield 42, 3) := by decide +kernel
theorem d_AD_salt_30 : decode b_AD_salt 30 = .ok (.return_, 1) := by decide +kernel
theorem d_AD_allow_0 : decode b_AD_allow 0 = .ok (.aload_n 0, 1) := by decide +kernel
theorem d_AD_allow_1 : decode b_AD_allow 1 = .ok (.getfield 10, 3) := by decide +kernel
theorem d_AD_allow_4 : decode b_AD_allow 4 = .ok (.invokevirtual 65, 3) := by decide +kernel
theorem d_AD_allow_7 : decode b_AD_allow 7 = .ok (.astore_n 1, 1) := by decide +kernel
theorem d_AD_allow_8 : decode b_AD_allow 8 = .ok (.aload_n 1, 1) := by decide +kernel
theorem d_AD_allow_9 : decode b_AD_allow 9 = .ok (.aload_n 1, 1) := by decide +kernel
theorem d_AD_allow_10 : decode b_AD_allow 10 = .ok (.arraylength, 1) := by decide +kernel
theorem d_AD_allow_11 : decode b_AD_allow 11 = .ok (.invokestatic 129, 3) := by decide +kernel
theorem d_AD_allow_14 : decode b_AD_allow 14 = .ok (.ifCond .ne 13, 3) := by decide +kernel
theorem d_AD_allow_17 : decode b_AD_allow 17 = .ok (.new 73, 3) := by decide +kernel
theorem d_AD_allow_20 : decode b_AD_allow 20 = .ok (.dup, 1) := by decide +kernel
theorem d_AD_allow_21 : decode b_AD_allow 21 = .ok (.ldc 132, 2) := by decide +kernel
theorem d_AD_allow_23 : decode b_AD_allow 23 = .ok (.invokespecial 77, 3) := by decide +kernel
theorem d_AD_allow_26 : decode b_AD_allow 26 = .ok (.athrow, 1) := by decide +kernel
theorem d_AD_allow_27 : decode b_AD_allow 27 = .ok (.new 33, 3) := by decide +kernel
theorem d_AD_allow_30 : decode b_AD_allow 30 = .ok (.dup, 1) := by decide +kernel
theorem d_AD_allow_31 : decode b_AD_allow 31 = .ok (.aload_n 1, 1) := by decide +kernel
theorem d_AD_allow_32 : decode b_AD_allow 32 = .ok (.aload_n 1, 1) := by decide +kernel
theorem d_AD_allow_33 : decode b_AD_allow 33 = .ok (.arraylength, 1) := by decide +kernel
theorem d_AD_allow_34 : decode b_AD_allow 34 = .ok (.invokespecial 90, 3) := by decide +kernel
theorem d_AD_allow_37 : decode b_AD_allow 37 = .ok (.astore_n 2, 1) := by decide +kernel
theorem d_AD_allow_38 : decode b_AD_allow 38 = .ok (.aload_n 0, 1) := by decide +kernel
theorem d_AD_allow_39 : decode b_AD_allow 39 = .ok (.aload_n 2, 1) := by decide +kernel
theorem d_AD_allow_40 : decode b_AD_allow 40 = .ok (.invokevirtual 134, 3) := by decide +kernel
theorem d_AD_allow_43 : decode b_AD_allow 43 = .ok (.ifCond .eq 13, 3) := by decide +kernel
theorem d_AD_allow_46 : decode b_AD_allow 46 = .ok (.new 57, 3) := by decide +kernel
theorem d_AD_allow_49 : decode b_AD_allow 49 = .ok (.dup, 1) := by decide +kernel
theorem d_AD_allow_50 : decode b_AD_allow 50 = .ok (.ldc 138, 2) := by decide +kernel
theorem d_AD_allow_52 : decode b_AD_allow 52 = .ok (.invokespecial 61, 3) := by decide +kernel
theorem d_AD_allow_55 : decode b_AD_allow 55 = .ok (.athrow, 1) := by decide +kernel
theorem d_AD_allow_56 : decode b_AD_allow 56 = .ok (.aload_n 0, 1) := by decide +kernel
theorem d_AD_allow_57 : decode b_AD_allow 57 = .ok (.getfield 39, 3) := by decide +kernel
theorem d_AD_allow_60 : decode b_AD_allow 60 = .ok (.bipush 8, 2) := by decide +kernel
theorem d_AD_allow_62 : decode b_AD_allow 62 = .ok (.if_icmp .lt 13, 3) := by decide +kernel
theorem d_AD_allow_65 : decode b_AD_allow 65 = .ok (.new 57, 3) := by decide +kernel
theorem d_AD_allow_68 : decode b_AD_allow 68 = .ok (.dup, 1) := by decide +kernel
theorem d_AD_allow_69 : decode b_AD_allow 69 = .ok (.ldc 140, 2) := by decide +kernel
theorem d_AD_allow_71 : decode b_AD_allow 71 = .ok (.invokespecial 61, 3) := by decide +kernel
theorem d_AD_allow_74 : decode b_AD_allow 74 = .ok (.athrow, 1) := by decide +kernel
theorem d_AD_allow_75 : decode b_AD_allow 75 = .ok (.aload_n 0, 1) := by decide +kernel
theorem d_AD_allow_76 : decode b_AD_allow 76 = .ok (.getfield 35, 3) := by decide +kernel
theorem d_AD_allow_79 : decode b_AD_allow 79 = .ok (.aload_n 0, 1) := by decide +kernel
theorem d_AD_allow_80 : decode b_AD_allow 80 = .ok (.getfield 39, 3) := by decide +kernel
theorem d_AD_allow_83 : decode b_AD_allow 83 = .ok (.aload_n 2, 1) := by decide +kernel
theorem d_AD_allow_84 : decode b_AD_allow 84 = .ok (.aastore, 1) := by decide +kernel
theorem d_AD_allow_85 : decode b_AD_allow 85 = .ok (.aload_n 0, 1) := by decide +kernel
theorem d_AD_allow_86 : decode b_AD_allow 86 = .ok (.dup, 1) := by decide +kernel
theorem d_AD_allow_87 : decode b_AD_allow 87 = .ok (.getfield 39, 3) := by decide +kernel
theorem d_AD_allow_90 : decode b_AD_allow 90 = .ok (.iconst 1, 1) := by decide +kernel
theorem d_AD_allow_91 : decode b_AD_allow 91 = .ok (.iadd, 1) := by decide +kernel
theorem d_AD_allow_92 : decode b_AD_allow 92 = .ok (.putfield 39, 3) := by decide +kernel
theorem d_AD_allow_95 : decode b_AD_allow 95 = .ok (.return_, 1) := by decide +kernel
theorem d_AD_edition_0 : decode b_AD_edition 0 = .ok (.aload_n 0, 1) := by decide +kernel
theorem d_AD_edition_1 : decode b_AD_edition 1 = .ok (.iload_n 1, 1) := by decide +kernel
theorem d_AD_edition_2 : decode b_AD_edition 2 = .ok (.invokevirtual 69, 3) := by decide +kernel
theorem d_AD_edition_5 : decode b_AD_edition 5 = .ok (.astore_n 3, 1) := by decide +kernel
theorem d_AD_edition_6 : decode b_AD_edition 6 = .ok (.aload_n 3, 1) := by decide +kernel
theorem d_AD_edition_7 : decode b_AD_edition 7 = .ok (.ifnonnull 13, 3) := by decide +kernel
theorem d_AD_edition_10 : decode b_AD_edition 10 = .ok (.new 73, 3) := by decide +kernel
theorem d_AD_edition_13 : decode b_AD_edition 13 = .ok (.dup, 1) := by decide +kernel
theorem d_AD_edition_14 : decode b_AD_edition 14 = .ok (.ldc 75, 2) := by decide +kernel
theorem d_AD_edition_16 : decode b_AD_edition 16 = .ok (.invokespecial 77, 3) := by decide +kernel
theorem d_AD_edition_19 : decode b_AD_edition 19 = .ok (.athrow, 1) := by decide +kernel
theorem d_AD_edition_20 : decode b_AD_edition 20 = .ok (.iload_n 2, 1) := by decide +kernel
theorem d_AD_edition_21 : decode b_AD_edition 21 = .ok (.ifCond .lt 9, 3) := by decide +kernel
theorem d_AD_edition_24 : decode b_AD_edition 24 = .ok (.iload_n 2, 1) := by decide +kernel
theorem d_AD_edition_25 : decode b_AD_edition 25 = .ok (.ldc 118, 2) := by decide +kernel
theorem d_AD_edition_27 : decode b_AD_edition 27 = .ok (.if_icmp .le 13, 3) := by decide +kernel
theorem d_AD_edition_30 : decode b_AD_edition 30 = .ok (.new 73, 3) := by decide +kernel
theorem d_AD_edition_33 : decode b_AD_edition 33 = .ok (.dup, 1) := by decide +kernel
theorem d_AD_edition_34 : decode b_AD_edition 34 = .ok (.ldc 119, 2) := by decide +kernel
theorem d_AD_edition_36 : decode b_AD_edition 36 = .ok (.invokespecial 77, 3) := by decide +kernel
theorem d_AD_edition_39 : decode b_AD_edition 39 = .ok (.athrow, 1) := by decide +kernel
theorem d_AD_edition_40 : decode b_AD_edition 40 = .ok (.iload_n 2, 1) := by decide +kernel
theorem d_AD_edition_41 : decode b_AD_edition 41 = .ok (.invokestatic 121, 3) := by decide +kernel
theorem d_AD_edition_44 : decode b_AD_edition 44 = .ok (.astore 4, 2) := by decide +kernel
theorem d_AD_edition_46 : decode b_AD_edition 46 = .ok (.new 105, 3) := by decide +kernel
theorem d_AD_edition_49 : decode b_AD_edition 49 = .ok (.dup, 1) := by decide +kernel
theorem d_AD_edition_50 : decode b_AD_edition 50 = .ok (.bipush 7, 2) := by decide +kernel
theorem d_AD_edition_52 : decode b_AD_edition 52 = .ok (.new 33, 3) := by decide +kernel
theorem d_AD_edition_55 : decode b_AD_edition 55 = .ok (.dup, 1) := by decide +kernel
theorem d_AD_edition_56 : decode b_AD_edition 56 = .ok (.aload 4, 2) := by decide +kernel
theorem d_AD_edition_58 : decode b_AD_edition 58 = .ok (.iconst 0, 1) := by decide +kernel
theorem d_AD_edition_59 : decode b_AD_edition 59 = .ok (.invokespecial 90, 3) := by decide +kernel
theorem d_AD_edition_62 : decode b_AD_edition 62 = .ok (.aload 4, 2) := by decide +kernel
theorem d_AD_edition_64 : decode b_AD_edition 64 = .ok (.invokespecial 111, 3) := by decide +kernel
theorem d_AD_edition_67 : decode b_AD_edition 67 = .ok (.astore 5, 2) := by decide +kernel
theorem d_AD_edition_69 : decode b_AD_edition 69 = .ok (.aload_n 3, 1) := by decide +kernel
theorem d_AD_edition_70 : decode b_AD_edition 70 = .ok (.aload 5, 2) := by decide +kernel
theorem d_AD_edition_72 : decode b_AD_edition 72 = .ok (.invokevirtual 125, 3) := by decide +kernel
theorem d_AD_edition_75 : decode b_AD_edition 75 = .ok (.ifCond .eq 4, 3) := by decide +kernel
theorem d_AD_edition_78 : decode b_AD_edition 78 = .ok (.return_, 1) := by decide +kernel
theorem d_AD_edition_79 : decode b_AD_edition 79 = .ok (.aload_n 3, 1) := by decide +kernel
theorem d_AD_edition_80 : decode b_AD_edition 80 = .ok (.invokevirtual 99, 3) := by decide +kernel
theorem d_AD_edition_83 : decode b_AD_edition 83 = .ok (.ifCond .eq 13, 3) := by decide +kernel
theorem d_AD_edition_86 : decode b_AD_edition 86 = .ok (.new 57, 3) := by decide +kernel
theorem d_AD_edition_89 : decode b_AD_edition 89 = .ok (.dup, 1) := by decide +kernel
theorem d_AD_edition_90 : decode b_AD_edition 90 = .ok (.ldc 103, 2) := by decide +kernel
theorem d_AD_edition_92 : decode b_AD_edition 92 = .ok (.invokespecial 61, 3) := by decide +kernel
theorem d_AD_edition_95 : decode b_AD_edition 95 = .ok (.athrow, 1) := by decide +kernel
theorem d_AD_edition_96 : decode b_AD_edition 96 = .ok (.aload_n 3, 1) := by decide +kernel
theorem d_AD_edition_97 : decode b_AD_edition 97 = .ok (.aload 5, 2) := by decide +kernel
theorem d_AD_edition_99 : decode b_AD_edition 99 = .ok (.invokevirtual 114, 3) := by decide +kernel
theorem d_AD_edition_102 : decode b_AD_edition 102 = .ok (.return_, 1) := by decide +kernel
theorem d_AD_row_0 : decode b_AD_row 0 = .ok (.aload_n 0, 1) := by decide +kernel
theorem d_AD_row_1 : decode b_AD_row 1 = .ok (.getfield 10, 3) := by decide +kernel
theorem d_AD_row_4 : decode b_AD_row 4 = .ok (.invokevirtual 65, 3) := by decide +kernel
theorem d_AD_row_7 : decode b_AD_row 7 = .ok (.astore_n 3, 1) := by decide +kernel
theorem d_AD_row_8 : decode b_AD_row 8 = .ok (.aload_n 0, 1) := by decide +kernel
theorem d_AD_row_9 : decode b_AD_row 9 = .ok (.iload_n 1, 1) := by decide +kernel
theorem d_AD_row_10 : decode b_AD_row 10 = .ok (.invokevirtual 69, 3) := by decide +kernel
theorem d_AD_row_13 : decode b_AD_row 13 = .ok (.astore 4, 2) := by decide +kernel
theorem d_AD_row_15 : decode b_AD_row 15 = .ok (.aload 4, 2) := by decide +kernel
theorem d_AD_row_17 : decode b_AD_row 17 = .ok (.ifnonnull 13, 3) := by decide +kernel
theorem d_AD_row_20 : decode b_AD_row 20 = .ok (.new 73, 3) := by decide +kernel
theorem d_AD_row_23 : decode b_AD_row 23 = .ok (.dup, 1) := by decide +kernel
theorem d_AD_row_24 : decode b_AD_row 24 = .ok (.ldc 75, 2) := by decide +kernel
theorem d_AD_row_26 : decode b_AD_row 26 = .ok (.invokespecial 77, 3) := by decide +kernel
theorem d_AD_row_29 : decode b_AD_row 29 = .ok (.athrow, 1) := by decide +kernel
theorem d_AD_row_30 : decode b_AD_row 30 = .ok (.aload_n 3, 1) := by decide +kernel
theorem d_AD_row_31 : decode b_AD_row 31 = .ok (.iload_n 2, 1) := by decide +kernel
theorem d_AD_row_32 : decode b_AD_row 32 = .ok (.invokestatic 78, 3) := by decide +kernel
theorem d_AD_row_35 : decode b_AD_row 35 = .ok (.ifCond .ne 13, 3) := by decide +kernel
theorem d_AD_row_38 : decode b_AD_row 38 = .ok (.new 73, 3) := by decide +kernel
theorem d_AD_row_41 : decode b_AD_row 41 = .ok (.dup, 1) := by decide +kernel
theorem d_AD_row_42 : decode b_AD_row 42 = .ok (.ldc 84, 2) := by decide +kernel
theorem d_AD_row_44 : decode b_AD_row 44 = .ok (.invokespecial 77, 3) := by decide +kernel
theorem d_AD_row_47 : decode b_AD_row 47 = .ok (.athrow, 1) := by decide +kernel
theorem d_AD_row_48 : decode b_AD_row 48 = .ok (.new 33, 3) := by decide +kernel
theorem d_AD_row_51 : decode b_AD_row 51 = .ok (.dup, 1) := by decide +kernel
theorem d_AD_row_52 : decode b_AD_row 52 = .ok (.aload_n 3, 1) := by decide +kernel
theorem d_AD_row_53 : decode b_AD_row 53 = .ok (.aload_n 3, 1) := by decide +kernel
theorem d_AD_row_54 : decode b_AD_row 54 = .ok (.iload_n 2, 1) := by decide +kernel
theorem d_AD_row_55 : decode b_AD_row 55 = .ok (.invokestatic 86, 3) := by decide +kernel
theorem d_AD_row_58 : decode b_AD_row 58 = .ok (.invokespecial 90, 3) := by decide +kernel
theorem d_AD_row_61 : decode b_AD_row 61 = .ok (.astore 5, 2) := by decide +kernel
theorem d_AD_row_63 : decode b_AD_row 63 = .ok (.iload_n 2, 1) := by decide +kernel
theorem d_AD_row_64 : decode b_AD_row 64 = .ok (.ifCond .eq 24, 3) := by decide +kernel
theorem d_AD_row_67 : decode b_AD_row 67 = .ok (.aload 4, 2) := by decide +kernel
theorem d_AD_row_69 : decode b_AD_row 69 = .ok (.iload_n 2, 1) := by decide +kernel
theorem d_AD_row_70 : decode b_AD_row 70 = .ok (.aload 5, 2) := by decide +kernel
theorem d_AD_row_72 : decode b_AD_row 72 = .ok (.invokevirtual 93, 3) := by decide +kernel
theorem d_AD_row_75 : decode b_AD_row 75 = .ok (.ifCond .eq 13, 3) := by decide +kernel
theorem d_AD_row_78 : decode b_AD_row 78 = .ok (.new 57, 3) := by decide +kernel
theorem d_AD_row_81 : decode b_AD_row 81 = .ok (.dup, 1) := by decide +kernel
theorem d_AD_row_82 : decode b_AD_row 82 = .ok (.ldc 97, 2) := by decide +kernel
theorem d_AD_row_84 : decode b_AD_row 84 = .ok (.invokespecial 61, 3) := by decide +kernel
theorem d_AD_row_87 : decode b_AD_row 87 = .ok (.athrow, 1) := by decide +kernel
theorem d_AD_row_88 : decode b_AD_row 88 = .ok (.aload 4, 2) := by decide +kernel
theorem d_AD_row_90 : decode b_AD_row 90 = .ok (.invokevirtual 99, 3) := by decide +kernel
theorem d_AD_row_93 : decode b_AD_row 93 = .ok (.ifCond .eq 13, 3) := by decide +kernel
theorem d_AD_row_96 : decode b_AD_row 96 = .ok (.new 57, 3) := by decide +kernel
theorem d_AD_row_99 : decode b_AD_row 99 = .ok (.dup, 1) := by decide +kernel
theorem d_AD_row_100 : decode b_AD_row 100 = .ok (.ldc 103, 2) := by decide +kernel
theorem d_AD_row_102 : decode b_AD_row 102 = .ok (.invokespecial 61, 3) := by decide +kernel
theorem d_AD_row_105 : decode b_AD_row 105 = .ok (.athrow, 1) := by decide +kernel
theorem d_AD_row_106 : decode b_AD_row 106 = .ok (.aload 4, 2) := by decide +kernel
theorem d_AD_row_108 : decode b_AD_row 108 = .ok (.new 105, 3) := by decide +kernel
theorem d_AD_row_111 : decode b_AD_row 111 = .ok (.dup, 1) := by decide +kernel
theorem d_AD_row_112 : decode b_AD_row 112 = .ok (.iload_n 2, 1) := by decide +kernel
theorem d_AD_row_113 : decode b_AD_row 113 = .ok (.aload 5, 2) := by decide +kernel
theorem d_AD_row_115 : decode b_AD_row 115 = .ok (.aload_n 0, 1) := by decide +kernel
theorem d_AD_row_116 : decode b_AD_row 116 = .ok (.aload_n 3, 1) := by decide +kernel
theorem d_AD_row_117 : decode b_AD_row 117 = .ok (.iload_n 2, 1) := by decide +kernel
theorem d_AD_row_118 : decode b_AD_row 118 = .ok (.invokevirtual 107, 3) := by decide +kernel
theorem d_AD_row_121 : decode b_AD_row 121 = .ok (.invokespecial 111, 3) := by decide +kernel
theorem d_AD_row_124 : decode b_AD_row 124 = .ok (.invokevirtual 114, 3) := by decide +kernel
theorem d_AD_row_127 : decode b_AD_row 127 = .ok (.return_, 1) := by decide +kernel
/-- .. the nest link of Action's constructor -/
def zA (Z : hp_Z) : Prop := ∀ (A : Nat → Prop) (U : State) (H : Heap), Z A U H → va_Nw (.methodLinkNest "ActionDigests" 64 y_AC_init "ActionDigests") U
set_option maxHeartbeats 4000000 in
set_option maxRecDepth 100000 in
/-- an action by its number, and where it lies -/
theorem c_AD_actionAt2 (l : Launch) (D : va_G) (ct : Nat → ClassId) (Z : hp_Z) (hZ : hp_Zok Z) (M : hp_M) (sz : Nat) (x xt sh ac na al nl sc hg : Nat) (fa : Nat → Option Nat) (ao : Nat → Nat) (f_x : M x = some (xO xt sh ac na al nl sc hg)) (f_ac : M ac = some (.inl (ct 4, 12, .inr (.inr (.inr (.inr fa)))))) (hna : na ≤ 12) (hao : ∀ i, i < na → fa i = some (ao i)) (k : Int32) : Mq l y_AD_actionAt b_AD_actionAt 2 (some (.object "ActionDigests$Action")) 0 0 0 0 [.ref x, .int k] D ct Z M sz (fun r M1 => M1 = M ∧ ((∃ j, j < na ∧ k = nI j ∧ r = some (ao j)) ∨ ((∀ j, j < na → k ≠ nI j) ∧ r = none))) := by
  refine hp_start (by decide) (Nat.le_of_ble_eq_true rfl) (fun p e s m below meth c ls S hret hlk hnm hsz hK hM hS hA hz hl => ?_)
  have hx := S.1
  have hb := S.2.1
  have hl : lv_has ls 2 [(0, .ref x), (1, .int k)] := hl
  refine lv_iload_n hx hb d_AD_actionAt_0 rfl (lv_at hl 1 rfl) ?_
  refine lv_if_lt (tgt := 12) hx hb d_AD_actionAt_1 (by decide) (fun h0 => ?_) (fun h0 => ?_)
  · refine lv_null hx hb d_AD_actionAt_12 ?_
    refine lv_goto (tgt := 22) hx hb d_AD_actionAt_13 (by decide) ?_
    exact hp_aret (none) rfl S hret (Or.inl ⟨_, rfl⟩) hlk hM hS (⟨rfl, Or.inr ⟨fun j hj e => by subst e; first | exact nI_pos (by omega) h0 | exact h1 ((nI_ltI (by omega) (by omega)).mpr hj), rfl⟩⟩) d_AD_actionAt_22
  · refine lv_iload_n hx hb d_AD_actionAt_4 rfl (lv_at hl 1 rfl) ?_
    refine lv_aload_n hx hb d_AD_actionAt_5 rfl (lv_at hl 0 rfl) ?_
    refine hp_get S hK hM i_AD f_x rfl 3 (by decide) mf_AD_29 (fun _ h9 => h9) rfl d_AD_actionAt_6 ?_
    refine lv_icmp_lt (tgt := 16) hx hb d_AD_actionAt_9 (by decide) (fun h1 => ?_) (fun h1 => ?_)
    · refine lv_aload_n hx hb d_AD_actionAt_16 rfl (lv_at hl 0 rfl) ?_
      refine hp_get S hK hM i_AD f_x rfl 2 (by decide) mf_AD_25 (fun _ h9 => h9) rfl d_AD_actionAt_17 ?_
      refine lv_iload_n hx hb d_AD_actionAt_20 rfl (lv_at hl 1 rfl) ?_
      obtain ⟨j, hj, ej⟩ : ∃ j, j < na ∧ k = nI j := by
        obtain ⟨j, hj, ej⟩ := nI_of h0
        rw [ej] at h1
        exact ⟨j, (nI_ltI hj (by omega)).mp h1, ej⟩
      subst ej
      refine hp_aald S hK hM 4 f_ac rfl j rfl (by omega) (by decide) (congrArg va_rf (hao j hj)) d_AD_actionAt_21 ?_
      exact hp_aret (some (ao j)) rfl S hret (Or.inl ⟨_, rfl⟩) hlk hM hS (⟨rfl, Or.inl ⟨j, hj, rfl, rfl⟩⟩) d_AD_actionAt_22
    · refine lv_null hx hb d_AD_actionAt_12 ?_
      refine lv_goto (tgt := 22) hx hb d_AD_actionAt_13 (by decide) ?_
      exact hp_aret (none) rfl S hret (Or.inl ⟨_, rfl⟩) hlk hM hS (⟨rfl, Or.inr ⟨fun j hj e => by subst e; first | exact nI_pos (by omega) h0 | exact h1 ((nI_ltI (by omega) (by omega)).mpr hj), rfl⟩⟩) d_AD_actionAt_22
set_option maxHeartbeats 4000000 in
set_option maxRecDepth 100000 in
/-- action() -/
theorem c_AD_action (l : Launch) (D : va_G) (ct : Nat → ClassId) (Z : hp_Z) (hZ : hp_Zok Z) (M : hp_M) (sz : Nat) (hlt : l.stackTraces = false) (hzx : zX Z) (hzn : zN Z) (hza : zA Z) (x xt ch sh su wo ac al sc hg : Nat) (T : List Nat) (Y : ShT) (As : List (List RowT)) (Al : List (List Nat)) (sa hd : List Nat) (hw : adW ct M x xt ch sh su wo ac al sc hg T Y As Al sa hd) : Xi l y_AD_action b_AD_action 2 (some .int) 6 82 2 26 [.ref x] D ct Z M sz (fun r M1 => As.length < 12 ∧ r = nI As.length ∧ adW ct M1 x xt ch sh su wo ac al sc hg T Y (As ++ [[]]) Al sa hd) (fun E M1 => E = "java/lang/IllegalStateException" ∧ 12 ≤ As.length ∧ adW ct M1 x xt ch sh su wo ac al sc hg T Y As Al sa hd) := by
  refine hp_startX (by decide) (Nat.le_of_ble_eq_true rfl) (fun p e s m below meth c ls S hret hlk hnm hsz hK hM hS hA hz hl hnx => ?_)
  have hx := S.1
  have hb := S.2.1
  have hl : lv_has ls 2 [(0, .ref x)] := hl
  obtain ⟨f_x, ⟨g0, f_xt, f_ch, hg0, hgb, hT⟩, hsh, hacs, hals, ⟨f_sc, hsal, hc_sa, hfsc⟩, ⟨f_hg, hdl, hc_hd⟩, hchg⟩ := id hw
  obtain ⟨fa, ao, oo, rf, f_ac, hAs, hW3, hW4⟩ := id hacs
  have f_ac0 := f_ac
  refine lv_aload_n hx hb d_AD_action_0 rfl (lv_at hl 0 rfl) ?_
  refine hp_get S hK hM i_AD f_x rfl 3 (by decide) mf_AD_29 (fun _ h9 => h9) rfl d_AD_action_1 ?_
  refine lv_bipush (v := nI 12) hx hb d_AD_action_4 rfl ?_
  refine nb_lt (tgt := 19) hx hb d_AD_action_6 (by decide) (by omega) (by omega) (fun h12 => ?_) (fun h12 => ?_)
  · refine lv_aload_n hx hb d_AD_action_19 rfl (lv_at hl 0 rfl) ?_
    refine hp_get S hK hM i_AD f_x rfl 3 (by decide) mf_AD_29 (fun _ h9 => h9) rfl d_AD_action_20 ?_
    refine lv_istore_n (lv' := [(1, .int (nI (As.length))), (0, .ref x)]) hx hb d_AD_action_23 rfl hl (by decide) rfl (fun ls hl => ?_)
    refine lv_aload_n hx hb d_AD_action_24 rfl (lv_at hl 1 rfl) ?_
    refine hp_get S hK hM i_AD f_x rfl 2 (by decide) mf_AD_25 (fun _ h9 => h9) rfl d_AD_action_25 ?_
    refine lv_iload_n hx hb d_AD_action_28 rfl (lv_at hl 0 rfl) ?_
    refine hp_new (ci := 3) (fs := [.null, .int (nI 0)]) S hK hM hS hA i_AC t_AC to_AC mk_AD_23 mt_AC mz_AC rfl (fun j hj => by rcases (show j = 0 ∨ j = 1 by omega) with rfl | rfl <;> rfl) (by decide) (by decide) d_AD_action_29 (fun q H hq_q hM hS => ?_)
    refine W.widen (k := 1) (n := 2) (by omega) (by omega) ?_
    have ne_x_q : x ≠ q := hp_nn f_x hq_q
    have f_x := hp_k (e := (.inr (3, [.null, .int (nI 0)]))) ne_x_q f_x
    have ne_xt_q : xt ≠ q := hp_nn f_xt hq_q
    have f_xt := hp_k (e := (.inr (3, [.null, .int (nI 0)]))) ne_xt_q f_xt
    have ne_ac_q : ac ≠ q := hp_nn f_ac hq_q
    have f_ac := hp_k (e := (.inr (3, [.null, .int (nI 0)]))) ne_ac_q f_ac
    have f_q : hp_up M q (.inr (3, [.null, .int (nI 0)])) q = some (.inr (3, [.null, .int (nI 0)])) := hp_us
    obtain ⟨M1, eM1⟩ : ∃ z, z = hp_up M q (.inr (3, [.null, .int (nI 0)])) := ⟨_, rfl⟩
    rw [← eM1] at hM f_x f_xt f_ac f_q
    refine lv_dup hx hb d_AD_action_32 rfl ?_
    have hqn := hq_q
    refine hp_callv (go_IN S hZ hK hM hS hA hz (c_AC_init l D ct Z hZ _ _ (fun A U H z => (hzn A U H z).2.2.2.2) q f_q) mc_AC_init mz_AC (hza _ _ _ hz) mi_AC_init rfl hd_AC_init rfl ⟨by decide, by decide⟩ hl.1 rfl (Nat.le_of_ble_eq_true rfl) d_AD_action_33 ⟨by decide, by decide⟩) hM hS hA (fun M9 H locs h9 hM hS => ?_)
    obtain ⟨oa, hoan, e9⟩ := h9
    rw [e9] at hM
    have hoa0 : M oa = none := by
      have hne : oa ≠ q := fun z => by rw [z, f_q] at hoan; cases hoan
      rw [eM1, hp_un hne] at hoan
      exact hoan
    have hqo : q ≠ oa := fun z => by rw [← z, f_q] at hoan; cases hoan
    have ne_x_oa : x ≠ oa := hp_nn f_x hoan
    have f_x := hp_k (e := (.inl (ct 2, 24, .inr (.inr (.inr (.inr (fun _ => none))))))) ne_x_oa f_x
    have ne_xt_oa : xt ≠ oa := hp_nn f_xt hoan
    have f_xt := hp_k (e := (.inl (ct 2, 24, .inr (.inr (.inr (.inr (fun _ => none))))))) ne_xt_oa f_xt
    have ne_ac_oa : ac ≠ oa := hp_nn f_ac hoan
    have f_ac := hp_k (e := (.inl (ct 2, 24, .inr (.inr (.inr (.inr (fun _ => none))))))) ne_ac_oa f_ac
    have ne_q_oa : q ≠ oa := hp_nn f_q hoan
    have f_q := hp_k (e := (.inl (ct 2, 24, .inr (.inr (.inr (.inr (fun _ => none))))))) ne_q_oa f_q
    have f_oa : hp_up M1 oa (.inl (ct 2, 24, .inr (.inr (.inr (.inr (fun _ => none)))))) oa = some (.inl (ct 2, 24, .inr (.inr (.inr (.inr (fun _ => none)))))) := hp_us
    obtain ⟨M2, eM2⟩ : ∃ z, z = hp_up M1 oa (.inl (ct 2, 24, .inr (.inr (.inr (.inr (fun _ => none)))))) := ⟨_, rfl⟩
    rw [← eM2] at hM f_x f_xt f_ac f_q f_oa
    have f_x := hp_k (e := (.inr (3, [.ref oa, .int (nI 0)]))) ne_x_q f_x
    have f_xt := hp_k (e := (.inr (3, [.ref oa, .int (nI 0)]))) ne_xt_q f_xt
    have f_ac := hp_k (e := (.inr (3, [.ref oa, .int (nI 0)]))) ne_ac_q f_ac
    have f_oa := hp_k (e := (.inr (3, [.ref oa, .int (nI 0)]))) (Ne.symm ne_q_oa) f_oa
    have f_q : hp_up M2 q (.inr (3, [.ref oa, .int (nI 0)])) q = some (.inr (3, [.ref oa, .int (nI 0)])) := hp_us
    obtain ⟨M3, eM3⟩ : ∃ z, z = hp_up M2 q (.inr (3, [.ref oa, .int (nI 0)])) := ⟨_, rfl⟩
    rw [← eM3] at hM f_x f_xt f_ac f_q f_oa
    refine hp_aast S hK hM hS 4 3 f_ac rfl f_q rfl (As.length) rfl (by omega) (by decide) d_AD_action_36 (fun H locs hM hS => ?_)
    have f_x := hp_k (e := (.inl (ct 4, 12, .inr (.inr (.inr (.inr (va_up fa (As.length) (some q)))))))) (hp_ne f_x f_ac (by simp)) f_x
    have f_xt := hp_k (e := (.inl (ct 4, 12, .inr (.inr (.inr (.inr (va_up fa (As.length) (some q)))))))) (hp_ne f_xt f_ac (by simp)) f_xt
    have f_q := hp_k (e := (.inl (ct 4, 12, .inr (.inr (.inr (.inr (va_up fa (As.length) (some q)))))))) (Ne.symm ne_ac_q) f_q
    have f_oa := hp_k (e := (.inl (ct 4, 12, .inr (.inr (.inr (.inr (va_up fa (As.length) (some q)))))))) (Ne.symm ne_ac_oa) f_oa
    have f_ac : hp_up M3 ac (.inl (ct 4, 12, .inr (.inr (.inr (.inr (va_up fa (As.length) (some q))))))) ac = some (.inl (ct 4, 12, .inr (.inr (.inr (.inr (va_up fa (As.length) (some q))))))) := hp_us
    obtain ⟨M4, eM4⟩ : ∃ z, z = hp_up M3 ac (.inl (ct 4, 12, .inr (.inr (.inr (.inr (va_up fa (As.length) (some q))))))) := ⟨_, rfl⟩
    rw [← eM4] at hM f_x f_xt f_ac f_q f_oa
    refine lv_aload_n hx hb d_AD_action_37 rfl (lv_at hl 1 rfl) ?_
    refine lv_dup hx hb d_AD_action_38 rfl ?_
    refine hp_get S hK hM i_AD f_x rfl 3 (by decide) mf_AD_29 (fun _ h9 => h9) rfl d_AD_action_39 ?_
    refine lv_iconst (v := nI 1) hx hb d_AD_action_42 rfl ?_
    refine nb_iadd hx hb d_AD_action_43 ?_
    refine hp_put (ty := .int) (fs' := [.ref xt, .ref sh, .ref ac, .int (nI ((As.length) + 1)), .ref al, .int (nI Al.length), .ref sc, .ref hg]) S hK hM hS i_AD t_AD to_AD n_AD f_x rfl 3 (by decide) mf_AD_29 (fun _ h9 => h9) rfl (by decide +kernel) rfl rfl (by simp) rfl d_AD_action_44 (fun H locs hM hS => ?_)
    have f_xt := hp_k (e := (.inr (0, [.ref xt, .ref sh, .ref ac, .int (nI ((As.length) + 1)), .ref al, .int (nI Al.length), .ref sc, .ref hg]))) (hp_ne f_xt f_x (by simp)) f_xt
    have f_ac := hp_k (e := (.inr (0, [.ref xt, .ref sh, .ref ac, .int (nI ((As.length) + 1)), .ref al, .int (nI Al.length), .ref sc, .ref hg]))) (hp_ne f_ac f_x (by simp)) f_ac
    have f_q := hp_k (e := (.inr (0, [.ref xt, .ref sh, .ref ac, .int (nI ((As.length) + 1)), .ref al, .int (nI Al.length), .ref sc, .ref hg]))) (Ne.symm ne_x_q) f_q
    have f_oa := hp_k (e := (.inr (0, [.ref xt, .ref sh, .ref ac, .int (nI ((As.length) + 1)), .ref al, .int (nI Al.length), .ref sc, .ref hg]))) (Ne.symm ne_x_oa) f_oa
    have f_x : hp_up M4 x (.inr (0, [.ref xt, .ref sh, .ref ac, .int (nI ((As.length) + 1)), .ref al, .int (nI Al.length), .ref sc, .ref hg])) x = some (.inr (0, [.ref xt, .ref sh, .ref ac, .int (nI ((As.length) + 1)), .ref al, .int (nI Al.length), .ref sc, .ref hg])) := hp_us
    obtain ⟨M5, eM5⟩ : ∃ z, z = hp_up M4 x (.inr (0, [.ref xt, .ref sh, .ref ac, .int (nI ((As.length) + 1)), .ref al, .int (nI Al.length), .ref sc, .ref hg])) := ⟨_, rfl⟩
    rw [← eM5] at hM f_x f_xt f_ac f_q f_oa
    refine lv_iload_n hx hb d_AD_action_47 rfl (lv_at hl 0 rfl) ?_
    have eM : M5 = _ := eM5
    rw [eM5, eM4, eM3, eM2, eM1] at hM
    rw [hp_uc (a := oa) (b := q) (Ne.symm hqo), hp_uu] at hM
    refine vx_ret ?_
    exact hp_iret S hret hlk (rfl) hM hS (⟨by omega, rfl, hw.act (by omega) f_ac0 hqn hoa0 hqo⟩) d_AD_action_48
  · exact hp_throwIS (is := 59) (text := "there are 12 actions") S hlt hzx hz hM hS hl.1 hlk hnx (by decide) d_AD_action_9 d_AD_action_12 d_AD_action_13 d_AD_action_15 d_AD_action_18 ⟨by decide, by decide⟩ ⟨by decide, by decide⟩ (by decide) (by decide) (⟨rfl, by omega, hw⟩)
set_option maxHeartbeats 4000000 in
set_option maxRecDepth 100000 in
/-- salt() -/
theorem c_AD_salt (l : Launch) (D : va_G) (ct : Nat → ClassId) (Z : hp_Z) (hZ : hp_Zok Z) (M : hp_M) (sz : Nat) (hlt : l.stackTraces = false) (hzx : zX Z) (x xt ch sh su wo ac al sc hg : Nat) (T : List Nat) (Y : ShT) (As : List (List RowT)) (Al : List (List Nat)) (sa hd : List Nat) (hw : adW ct M x xt ch sh su wo ac al sc hg T Y As Al sa hd) (hcT : ∀ i, T.getD i 0 < 65536) : Xv l y_AD_salt b_AD_salt 2 none 6 82 2 70 [.ref x] D ct Z M sz (fun M1 => T.length ≤ 16 ∧ ∃ sc, adW ct M1 x xt ch sh su wo ac al sc hg [] Y As Al T hd) (fun E M1 => E = "java/lang/IllegalArgumentException" ∧ 16 < T.length ∧ adW ct M1 x xt ch sh su wo ac al sc hg [] Y As Al sa hd) := by
  refine hp_startX (by decide) (Nat.le_of_ble_eq_true rfl) (fun p e s m below meth c ls S hret hlk hnm hsz hK hM hS hA hz hl hnx => ?_)
  have hx := S.1
  have hb := S.2.1
  have hl : lv_has ls 2 [(0, .ref x)] := hl
  obtain ⟨f_x, ⟨g0, f_xt, f_ch, hg0, hgb, hT⟩, hsh, hacs, hals, ⟨f_sc, hsal, hc_sa, hfsc⟩, ⟨f_hg, hdl, hc_hd⟩, hchg⟩ := id hw
  refine lv_aload_n hx hb d_AD_salt_0 rfl (lv_at hl 0 rfl) ?_
  refine hp_get S hK hM i_AD f_x rfl 0 (by decide) mf_AD_10 (fun _ h9 => h9) rfl d_AD_salt_1 ?_
  refine hp_callq (go_V S hZ hK hM hS hA hz (c_TX_take l D ct Z hZ _ _ xt ch T.length g0 hT f_xt f_ch hgb) mc_TX_take mz_TX ml_AD_65 mi_TX_take mx_TX_take hd_TX_take rfl ⟨by decide, by decide⟩ f_xt rfl rfl hl.1 rfl (Nat.le_of_ble_eq_true rfl) d_AD_salt_4 ⟨by decide, by decide⟩) hM hS hA (fun r9 M9 H locs h9 hM hS => ?_)
  obtain ⟨q, rfl, hqn, rfl⟩ := h9
  replace hM := take_cong (Ne.symm (hp_nn f_xt hqn)) hM hg0
  obtain ⟨hw2, hfq, f_q⟩ := hw.take (ct01 hK) hqn
  obtain ⟨M2, eM2⟩ : ∃ z, z = hp_up (hp_up M q (.inl (ct 0, T.length, .inl (tx T)))) xt (.inr (1, [.ref ch, .int (nI 0)])) := ⟨_, rfl⟩
  rw [← eM2] at hM hw2 f_q
  obtain ⟨f_x, ⟨g2, f_xt, f_ch, -, hgb2, -⟩, hsh, hacs, hals, ⟨f_sc, hsal, hc_sa, hfsc⟩, ⟨f_hg, hdl, hc_hd⟩, hchg⟩ := id hw2
  have f_q0 := f_q
  refine lv_astore_n (lv' := [(1, .ref q), (0, .ref x)]) hx hb d_AD_salt_7 rfl hl (by decide) rfl (fun ls hl => ?_)
  refine lv_aload_n hx hb d_AD_salt_8 rfl (lv_at hl 0 rfl) ?_
  refine hp_alen S hK hM 0 f_q rfl d_AD_salt_9 ?_
  refine lv_bipush (v := nI 16) hx hb d_AD_salt_10 rfl ?_
  refine nb_le (tgt := 25) hx hb d_AD_salt_12 (by decide) (by omega) (by omega) (fun h16 => ?_) (fun h16 => ?_)
  · refine lv_aload_n hx hb d_AD_salt_25 rfl (lv_at hl 1 rfl) ?_
    refine lv_aload_n hx hb d_AD_salt_26 rfl (lv_at hl 0 rfl) ?_
    refine hp_put (ty := (.array .char)) (fs' := [.ref xt, .ref sh, .ref ac, .int (nI As.length), .ref al, .int (nI Al.length), .ref q, .ref hg]) S hK hM hS i_AD t_AD to_AD n_AD f_x rfl 6 (by decide) mf_AD_42 (fun _ h9 => h9) rfl (by decide +kernel) rfl rfl (by simp) rfl d_AD_salt_27 (fun H locs hM hS => ?_)
    have f_q := hp_k (e := (.inr (0, [.ref xt, .ref sh, .ref ac, .int (nI As.length), .ref al, .int (nI Al.length), .ref q, .ref hg]))) (hp_ne f_q f_x (by simp)) f_q
    have f_x : hp_up M2 x (.inr (0, [.ref xt, .ref sh, .ref ac, .int (nI As.length), .ref al, .int (nI Al.length), .ref q, .ref hg])) x = some (.inr (0, [.ref xt, .ref sh, .ref ac, .int (nI As.length), .ref al, .int (nI Al.length), .ref q, .ref hg])) := hp_us
    obtain ⟨M1, eM1⟩ : ∃ z, z = hp_up M2 x (.inr (0, [.ref xt, .ref sh, .ref ac, .int (nI As.length), .ref al, .int (nI Al.length), .ref q, .ref hg])) := ⟨_, rfl⟩
    rw [← eM1] at hM f_x f_q
    rw [eM1] at hM
    refine vx_ret ?_
    refine W.widen (k := 2) (n := 70) (by decide) (by decide) ?_
    exact hp_vret S hret hlk hM hS (⟨by omega, q, hw2.salt f_q0 (by omega) hcT hfq⟩) d_AD_salt_30
  · exact hp_throwIA (is := 142) (text := "the text has more than 16 characters") S hlt hzx hz hM hS hl.1 hlk hnx (by decide) d_AD_salt_15 d_AD_salt_18 d_AD_salt_19 d_AD_salt_21 d_AD_salt_24 ⟨by decide, by decide⟩ ⟨by decide, by decide⟩ (by decide) (by decide) (⟨rfl, by omega, hw2⟩)
set_option maxHeartbeats 4000000 in
set_option maxRecDepth 100000 in
/-- allow() -/
theorem c_AD_allow (l : Launch) (D : va_G) (ct : Nat → ClassId) (Z : hp_Z) (hZ : hp_Zok Z) (M : hp_M) (sz : Nat) (hlt : l.stackTraces = false) (hzx : zX Z) (x xt ch sh su wo ac al sc hg : Nat) (T : List Nat) (Y : ShT) (As : List (List RowT)) (Al : List (List Nat)) (sa hd : List Nat) (hw : adW ct M x xt ch sh su wo ac al sc hg T Y As Al sa hd) (hcT : ∀ i, T.getD i 0 < 65536) : Xv l y_AD_allow b_AD_allow 3 none 6 82 3 72 [.ref x] D ct Z M sz (fun M1 => isNam T T.length ∧ (¬ ∃ i, i < Al.length ∧ Al.getD i [] = T) ∧ Al.length < 8 ∧ adW ct M1 x xt ch sh su wo ac al sc hg [] Y As (Al ++ [T]) sa hd) (fun E M1 => ((E = "java/lang/IllegalArgumentException" ∧ ¬ isNam T T.length) ∨ (E = "java/lang/IllegalStateException" ∧ isNam T T.length ∧ ((∃ i, i < Al.length ∧ Al.getD i [] = T) ∨ 8 ≤ Al.length))) ∧ adW ct M1 x xt ch sh su wo ac al sc hg [] Y As Al sa hd) := by
  refine hp_startX (by decide) (Nat.le_of_ble_eq_true rfl) (fun p e s m below meth c ls S hret hlk hnm hsz hK hM hS hA hz hl hnx => ?_)
  have hx := S.1
  have hb := S.2.1
  have hl : lv_has ls 3 [(0, .ref x)] := hl
  obtain ⟨f_x, ⟨g0, f_xt, f_ch, hg0, hgb, hT⟩, hsh, hacs, hals, ⟨f_sc, hsal, hc_sa, hfsc⟩, ⟨f_hg, hdl, hc_hd⟩, hchg⟩ := id hw
  refine lv_aload_n hx hb d_AD_allow_0 rfl (lv_at hl 0 rfl) ?_
  refine hp_get S hK hM i_AD f_x rfl 0 (by decide) mf_AD_10 (fun _ h9 => h9) rfl d_AD_allow_1 ?_
  refine hp_callq (go_V S hZ hK hM hS hA hz (c_TX_take l D ct Z hZ _ _ xt ch T.length g0 hT f_xt f_ch hgb) mc_TX_take mz_TX ml_AD_65 mi_TX_take mx_TX_take hd_TX_take rfl ⟨by decide, by decide⟩ f_xt rfl rfl hl.1 rfl (Nat.le_of_ble_eq_true rfl) d_AD_allow_4 ⟨by decide, by decide⟩) hM hS hA (fun r9 M9 H locs h9 hM hS => ?_)
  obtain ⟨q, rfl, hqn, rfl⟩ := h9
  replace hM := take_cong (Ne.symm (hp_nn f_xt hqn)) hM hg0
  obtain ⟨hw2, hfq, f_q⟩ := hw.take (ct01 hK) hqn
  obtain ⟨M2, eM2⟩ : ∃ z, z = hp_up (hp_up M q (.inl (ct 0, T.length, .inl (tx T)))) xt (.inr (1, [.ref ch, .int (nI 0)])) := ⟨_, rfl⟩
  rw [← eM2] at hM hw2 f_q
  obtain ⟨f_x, ⟨g2, f_xt, f_ch, -, hgb2, -⟩, hsh, hacs, hals, ⟨f_sc, hsal, hc_sa, hfsc⟩, ⟨f_hg, hdl, hc_hd⟩, hchg⟩ := id hw2
  refine lv_astore_n (lv' := [(1, .ref q), (0, .ref x)]) hx hb d_AD_allow_7 rfl hl (by decide) rfl (fun ls hl => ?_)
  refine lv_aload_n hx hb d_AD_allow_8 rfl (lv_at hl 0 rfl) ?_
  refine lv_aload_n hx hb d_AD_allow_9 rfl (lv_at hl 0 rfl) ?_
  refine hp_alen S hK hM 0 f_q rfl d_AD_allow_10 ?_
  refine hp_calli (go_S S hZ hK hM hS hA hz (c_FM_isName l D ct Z hZ _ _ q T hT hcT f_q T.length (by omega)) mc_FM_isName mz_FM ml_AD_129 ms_FM_isName hd_FM_isName rfl ⟨by decide, by decide⟩ hl.1 rfl (Nat.le_of_ble_eq_true rfl) d_AD_allow_11 ⟨by decide, by decide⟩) hM hS hA (fun r1 N2 H locs hr1 hM hS => ?_)
  rw [hr1.1] at hM
  replace hr1 := hr1.2
  refine nt_ne (tgt := 27) hx hb d_AD_allow_14 (by decide) hr1 (fun hnm1 => ?_) (fun hnm1 => ?_)
  · refine hp_new (ci := 5) (fs := [.null, .int (nI 0)]) S hK hM hS hA i_KY t_KY to_KY mk_AD_33 mt_KY mz_KY rfl (fun j hj => by rcases (show j = 0 ∨ j = 1 by omega) with rfl | rfl <;> rfl) (by decide) (by decide) d_AD_allow_27 (fun ky H hq_ky hM hS => ?_)
    refine W.widen (k := 2) (n := 66) (by omega) (by omega) ?_
    have ne_x_ky : x ≠ ky := hp_nn f_x hq_ky
    have f_x := hp_k (e := (.inr (5, [.null, .int (nI 0)]))) ne_x_ky f_x
    have ne_q_ky : q ≠ ky := hp_nn f_q hq_ky
    have f_q := hp_k (e := (.inr (5, [.null, .int (nI 0)]))) ne_q_ky f_q
    have f_ky : hp_up M2 ky (.inr (5, [.null, .int (nI 0)])) ky = some (.inr (5, [.null, .int (nI 0)])) := hp_us
    obtain ⟨M3, eM3⟩ : ∃ z, z = hp_up M2 ky (.inr (5, [.null, .int (nI 0)])) := ⟨_, rfl⟩
    rw [← eM3] at hM f_x f_q f_ky
    refine lv_dup hx hb d_AD_allow_30 rfl ?_
    refine lv_aload_n hx hb d_AD_allow_31 rfl (lv_at hl 0 rfl) ?_
    refine lv_aload_n hx hb d_AD_allow_32 rfl (lv_at hl 0 rfl) ?_
    refine hp_alen S hK hM 0 f_q rfl d_AD_allow_33 ?_
    refine hp_callv (go_I S hZ hK hM hS hA hz (c_KY_init l D ct Z hZ _ _ ky q (T.length) (Nat.le_refl _) (by omega) f_ky f_q) mc_KY_init mz_KY ml_AD_90 mi_KY_init rfl hd_KY_init rfl ⟨by decide, by decide⟩ hl.1 rfl (Nat.le_of_ble_eq_true rfl) d_AD_allow_34 ⟨by decide, by decide⟩) hM hS hA (fun M9 H locs h9 hM hS => ?_)
    rw [h9, eM3, hp_uu] at hM
    have hw3 := (hw2.new (E := .inr (5, [.ref q, .int (nI (T.length))])) hq_ky).1
    obtain ⟨MK3, eMK3⟩ : ∃ z, z = hp_up M2 ky (.inr (5, [.ref q, .int (nI (T.length))])) := ⟨_, rfl⟩
    have f_ky : hp_up M2 ky (.inr (5, [.ref q, .int (nI (T.length))])) ky = some (.inr (5, [.ref q, .int (nI (T.length))])) := hp_us
    rw [eM3, hp_un ne_q_ky] at f_q
    replace f_q := hp_k (e := .inr (5, [.ref q, .int (nI (T.length))])) ne_q_ky f_q
    rw [← eMK3] at hM hw3 f_ky f_q
    obtain ⟨f_x, ⟨g3, f_xt, f_ch, -, hgb3, -⟩, hsh, hacs, hals, ⟨f_sc, hsal, hc_sa, hfsc⟩, ⟨f_hg, hdl, hc_hd⟩, hchg⟩ := id hw3
    obtain ⟨fl, f_al, ⟨hAl8, -⟩, hAl3⟩ := id hals
    have hky : kyOk ct (fzc ch hg) MK3 ky T := ⟨q, T, f_ky, f_q, List.take_length, Nat.le_refl _, hT, hcT, hfq⟩
    refine lv_astore_n (lv' := [(2, .ref ky), (1, .ref q), (0, .ref x)]) hx hb d_AD_allow_37 rfl hl (by decide) rfl (fun ls hl => ?_)
    refine lv_aload_n hx hb d_AD_allow_38 rfl (lv_at hl 2 rfl) ?_
    refine lv_aload_n hx hb d_AD_allow_39 rfl (lv_at hl 0 rfl) ?_
    refine hp_calli (go_V S hZ hK hM hS hA hz (c_AD_isAllowed l D ct Z hZ _ _ (fzc ch hg) x Al hw3.atP.2 ky T hky) mc_AD_isAllowed mz_AD ml_AD_134 mi_AD_isAllowed mx_AD_isAllowed hd_AD_isAllowed rfl ⟨by decide, by decide⟩ f_x rfl rfl hl.1 rfl (Nat.le_of_ble_eq_true rfl) d_AD_allow_40 ⟨by decide, by decide⟩) hM hS hA (fun r4 N5 H locs hr4 hM hS => ?_)
    rw [hr4.1] at hM
    replace hr4 := hr4.2
    refine nt_eq (tgt := 56) hx hb d_AD_allow_43 (by decide) hr4 (fun hal1 => ?_) (fun hal1 => ?_)
    · have f_al0 := f_al
      refine lv_aload_n hx hb d_AD_allow_56 rfl (lv_at hl 2 rfl) ?_
      refine hp_get S hK hM i_AD f_x rfl 5 (by decide) mf_AD_39 (fun _ h9 => h9) rfl d_AD_allow_57 ?_
      refine lv_bipush (v := nI 8) hx hb d_AD_allow_60 rfl ?_
      refine nb_lt (tgt := 75) hx hb d_AD_allow_62 (by decide) (by omega) (by omega) (fun h8 => ?_) (fun h8 => ?_)
      · refine lv_aload_n hx hb d_AD_allow_75 rfl (lv_at hl 2 rfl) ?_
        refine hp_get S hK hM i_AD f_x rfl 4 (by decide) mf_AD_35 (fun _ h9 => h9) rfl d_AD_allow_76 ?_
        refine lv_aload_n hx hb d_AD_allow_79 rfl (lv_at hl 2 rfl) ?_
        refine hp_get S hK hM i_AD f_x rfl 5 (by decide) mf_AD_39 (fun _ h9 => h9) rfl d_AD_allow_80 ?_
        refine lv_aload_n hx hb d_AD_allow_83 rfl (lv_at hl 0 rfl) ?_
        refine hp_aast S hK hM hS 3 5 f_al rfl f_ky rfl (Al.length) rfl (by omega) (by decide) d_AD_allow_84 (fun H locs hM hS => ?_)
        have f_x := hp_k (e := (.inl (ct 3, 8, .inr (.inr (.inr (.inr (va_up fl (Al.length) (some ky)))))))) (hp_ne f_x f_al (by simp)) f_x
        have f_q := hp_k (e := (.inl (ct 3, 8, .inr (.inr (.inr (.inr (va_up fl (Al.length) (some ky)))))))) (hp_ne f_q f_al (fun q9 => ct_ne hK (i := 0) (j := 3) rfl rfl (by decide) (congrArg Prod.fst (Sum.inl.inj q9)))) f_q
        have f_ky := hp_k (e := (.inl (ct 3, 8, .inr (.inr (.inr (.inr (va_up fl (Al.length) (some ky)))))))) (hp_ne f_ky f_al (by simp)) f_ky
        have f_al : hp_up MK3 al (.inl (ct 3, 8, .inr (.inr (.inr (.inr (va_up fl (Al.length) (some ky))))))) al = some (.inl (ct 3, 8, .inr (.inr (.inr (.inr (va_up fl (Al.length) (some ky))))))) := hp_us
        obtain ⟨M6, eM6⟩ : ∃ z, z = hp_up MK3 al (.inl (ct 3, 8, .inr (.inr (.inr (.inr (va_up fl (Al.length) (some ky))))))) := ⟨_, rfl⟩
        rw [← eM6] at hM f_x f_q f_ky f_al
        refine lv_aload_n hx hb d_AD_allow_85 rfl (lv_at hl 2 rfl) ?_
        refine lv_dup hx hb d_AD_allow_86 rfl ?_
        refine hp_get S hK hM i_AD f_x rfl 5 (by decide) mf_AD_39 (fun _ h9 => h9) rfl d_AD_allow_87 ?_
        refine lv_iconst (v := nI 1) hx hb d_AD_allow_90 rfl ?_
        refine nb_iadd hx hb d_AD_allow_91 ?_
        refine hp_put (ty := .int) (fs' := [.ref xt, .ref sh, .ref ac, .int (nI As.length), .ref al, .int (nI ((Al.length) + 1)), .ref sc, .ref hg]) S hK hM hS i_AD t_AD to_AD n_AD f_x rfl 5 (by decide) mf_AD_39 (fun _ h9 => h9) rfl (by decide +kernel) rfl rfl (by simp) rfl d_AD_allow_92 (fun H locs hM hS => ?_)
        have f_q := hp_k (e := (.inr (0, [.ref xt, .ref sh, .ref ac, .int (nI As.length), .ref al, .int (nI ((Al.length) + 1)), .ref sc, .ref hg]))) (hp_ne f_q f_x (by simp)) f_q
        have f_ky := hp_k (e := (.inr (0, [.ref xt, .ref sh, .ref ac, .int (nI As.length), .ref al, .int (nI ((Al.length) + 1)), .ref sc, .ref hg]))) (Ne.symm ne_x_ky) f_ky
        have f_al := hp_k (e := (.inr (0, [.ref xt, .ref sh, .ref ac, .int (nI As.length), .ref al, .int (nI ((Al.length) + 1)), .ref sc, .ref hg]))) (hp_ne f_al f_x (by simp)) f_al
        have f_x : hp_up M6 x (.inr (0, [.ref xt, .ref sh, .ref ac, .int (nI As.length), .ref al, .int (nI ((Al.length) + 1)), .ref sc, .ref hg])) x = some (.inr (0, [.ref xt, .ref sh, .ref ac, .int (nI As.length), .ref al, .int (nI ((Al.length) + 1)), .ref sc, .ref hg])) := hp_us
        obtain ⟨M7, eM7⟩ : ∃ z, z = hp_up M6 x (.inr (0, [.ref xt, .ref sh, .ref ac, .int (nI As.length), .ref al, .int (nI ((Al.length) + 1)), .ref sc, .ref hg])) := ⟨_, rfl⟩
        rw [← eM7] at hM f_x f_q f_ky f_al
        rw [eM7, eM6] at hM
        refine vx_ret ?_
        refine W.widen (k := 3) (n := 72) (by decide) (by decide) ?_
        exact hp_vret S hret hlk hM hS (⟨hnm1, hal1, by omega, hw3.allow (by omega) f_al0 hky⟩) d_AD_allow_95
      · exact hp_throwIS (is := 140) (text := "there are 8 allowed names") S hlt hzx hz hM hS hl.1 hlk hnx (by decide) d_AD_allow_65 d_AD_allow_68 d_AD_allow_69 d_AD_allow_71 d_AD_allow_74 ⟨by decide, by decide⟩ ⟨by decide, by decide⟩ (by decide) (by decide) (⟨Or.inr ⟨rfl, hnm1, Or.inr (by omega)⟩, hw3⟩)
    · exact hp_throwIS (is := 138) (text := "the name is allowed") S hlt hzx hz hM hS hl.1 hlk hnx (by decide) d_AD_allow_46 d_AD_allow_49 d_AD_allow_50 d_AD_allow_52 d_AD_allow_55 ⟨by decide, by decide⟩ ⟨by decide, by decide⟩ (by decide) (by decide) (⟨Or.inr ⟨rfl, hnm1, Or.inl hal1⟩, hw3⟩)
  · exact hp_throwIA (is := 132) (text := "the text is no name") S hlt hzx hz hM hS hl.1 hlk hnx (by decide) d_AD_allow_17 d_AD_allow_20 d_AD_allow_21 d_AD_allow_23 d_AD_allow_26 ⟨by decide, by decide⟩ ⟨by decide, by decide⟩ (by decide) (by decide) (⟨Or.inl ⟨rfl, hnm1⟩, hw2⟩)
