theorem d_FM_nameLength_0 : decode b_FM_nameLength 0 = .ok (.iconst 0, 1) := by decide +kernel
theorem d_FM_nameLength_1 : decode b_FM_nameLength 1 = .ok (.istore_n 1, 1) := by decide +kernel
theorem d_FM_nameLength_2 : decode b_FM_nameLength 2 = .ok (.iload_n 1, 1) := by decide +kernel
theorem d_FM_nameLength_3 : decode b_FM_nameLength 3 = .ok (.aload_n 0, 1) := by decide +kernel
theorem d_FM_nameLength_4 : decode b_FM_nameLength 4 = .ok (.arraylength, 1) := by decide +kernel
theorem d_FM_nameLength_5 : decode b_FM_nameLength 5 = .ok (.if_icmp .ge 19, 3) := by decide +kernel
theorem d_FM_nameLength_8 : decode b_FM_nameLength 8 = .ok (.aload_n 0, 1) := by decide +kernel
theorem d_FM_nameLength_9 : decode b_FM_nameLength 9 = .ok (.iload_n 1, 1) := by decide +kernel
theorem d_FM_nameLength_10 : decode b_FM_nameLength 10 = .ok (.caload, 1) := by decide +kernel
theorem d_FM_nameLength_11 : decode b_FM_nameLength 11 = .ok (.bipush 61, 2) := by decide +kernel
theorem d_FM_nameLength_13 : decode b_FM_nameLength 13 = .ok (.if_icmp .ne 5, 3) := by decide +kernel
theorem d_FM_nameLength_16 : decode b_FM_nameLength 16 = .ok (.iload_n 1, 1) := by decide +kernel
theorem d_FM_nameLength_17 : decode b_FM_nameLength 17 = .ok (.ireturn, 1) := by decide +kernel
theorem d_FM_nameLength_18 : decode b_FM_nameLength 18 = .ok (.iinc 1 1, 3) := by decide +kernel
theorem d_FM_nameLength_21 : decode b_FM_nameLength 21 = .ok (.goto (-19), 3) := by decide +kernel
theorem d_FM_nameLength_24 : decode b_FM_nameLength 24 = .ok (.aload_n 0, 1) := by decide +kernel
theorem d_FM_nameLength_25 : decode b_FM_nameLength 25 = .ok (.arraylength, 1) := by decide +kernel
theorem d_FM_nameLength_26 : decode b_FM_nameLength 26 = .ok (.ireturn, 1) := by decide +kernel
theorem d_FM_isName_0 : decode b_FM_isName 0 = .ok (.iload_n 1, 1) := by decide +kernel
theorem d_FM_isName_1 : decode b_FM_isName 1 = .ok (.iconst 1, 1) := by decide +kernel
theorem d_FM_isName_2 : decode b_FM_isName 2 = .ok (.if_icmp .lt 24, 3) := by decide +kernel
theorem d_FM_isName_5 : decode b_FM_isName 5 = .ok (.iload_n 1, 1) := by decide +kernel
theorem d_FM_isName_6 : decode b_FM_isName 6 = .ok (.bipush 16, 2) := by decide +kernel
theorem d_FM_isName_8 : decode b_FM_isName 8 = .ok (.if_icmp .gt 18, 3) := by decide +kernel
theorem d_FM_isName_11 : decode b_FM_isName 11 = .ok (.iload_n 1, 1) := by decide +kernel
theorem d_FM_isName_12 : decode b_FM_isName 12 = .ok (.aload_n 0, 1) := by decide +kernel
theorem d_FM_isName_13 : decode b_FM_isName 13 = .ok (.arraylength, 1) := by decide +kernel
theorem d_FM_isName_14 : decode b_FM_isName 14 = .ok (.if_icmp .gt 12, 3) := by decide +kernel
theorem d_FM_isName_17 : decode b_FM_isName 17 = .ok (.aload_n 0, 1) := by decide +kernel
theorem d_FM_isName_18 : decode b_FM_isName 18 = .ok (.iconst 0, 1) := by decide +kernel
theorem d_FM_isName_19 : decode b_FM_isName 19 = .ok (.caload, 1) := by decide +kernel
theorem d_FM_isName_20 : decode b_FM_isName 20 = .ok (.invokestatic 22, 3) := by decide +kernel
theorem d_FM_isName_23 : decode b_FM_isName 23 = .ok (.ifCond .ne 5, 3) := by decide +kernel
theorem d_FM_isName_26 : decode b_FM_isName 26 = .ok (.iconst 0, 1) := by decide +kernel
theorem d_FM_isName_27 : decode b_FM_isName 27 = .ok (.ireturn, 1) := by decide +kernel
theorem d_FM_isName_28 : decode b_FM_isName 28 = .ok (.iconst 1, 1) := by decide +kernel
theorem d_FM_isName_29 : decode b_FM_isName 29 = .ok (.istore_n 2, 1) := by decide +kernel
theorem d_FM_isName_30 : decode b_FM_isName 30 = .ok (.iload_n 2, 1) := by decide +kernel
theorem d_FM_isName_31 : decode b_FM_isName 31 = .ok (.iload_n 1, 1) := by decide +kernel
theorem d_FM_isName_32 : decode b_FM_isName 32 = .ok (.if_icmp .ge 37, 3) := by decide +kernel
theorem d_FM_isName_35 : decode b_FM_isName 35 = .ok (.aload_n 0, 1) := by decide +kernel
theorem d_FM_isName_36 : decode b_FM_isName 36 = .ok (.iload_n 2, 1) := by decide +kernel
theorem d_FM_isName_37 : decode b_FM_isName 37 = .ok (.caload, 1) := by decide +kernel
theorem d_FM_isName_38 : decode b_FM_isName 38 = .ok (.invokestatic 22, 3) := by decide +kernel
theorem d_FM_isName_41 : decode b_FM_isName 41 = .ok (.ifCond .ne 22, 3) := by decide +kernel
theorem d_FM_isName_44 : decode b_FM_isName 44 = .ok (.aload_n 0, 1) := by decide +kernel
theorem d_FM_isName_45 : decode b_FM_isName 45 = .ok (.iload_n 2, 1) := by decide +kernel
theorem d_FM_isName_46 : decode b_FM_isName 46 = .ok (.caload, 1) := by decide +kernel
theorem d_FM_isName_47 : decode b_FM_isName 47 = .ok (.invokestatic 26, 3) := by decide +kernel
theorem d_FM_isName_50 : decode b_FM_isName 50 = .ok (.ifCond .ne 13, 3) := by decide +kernel
theorem d_FM_isName_53 : decode b_FM_isName 53 = .ok (.aload_n 0, 1) := by decide +kernel
theorem d_FM_isName_54 : decode b_FM_isName 54 = .ok (.iload_n 2, 1) := by decide +kernel
theorem d_FM_isName_55 : decode b_FM_isName 55 = .ok (.caload, 1) := by decide +kernel
theorem d_FM_isName_56 : decode b_FM_isName 56 = .ok (.bipush 95, 2) := by decide +kernel
theorem d_FM_isName_58 : decode b_FM_isName 58 = .ok (.if_icmp .eq 5, 3) := by decide +kernel
theorem d_FM_isName_61 : decode b_FM_isName 61 = .ok (.iconst 0, 1) := by decide +kernel
theorem d_FM_isName_62 : decode b_FM_isName 62 = .ok (.ireturn, 1) := by decide +kernel
theorem d_FM_isName_63 : decode b_FM_isName 63 = .ok (.iinc 2 1, 3) := by decide +kernel
theorem d_FM_isName_66 : decode b_FM_isName 66 = .ok (.goto (-36), 3) := by decide +kernel
theorem d_FM_isName_69 : decode b_FM_isName 69 = .ok (.iconst 1, 1) := by decide +kernel
theorem d_FM_isName_70 : decode b_FM_isName 70 = .ok (.ireturn, 1) := by decide +kernel
theorem d_FM_isPiece_0 : decode b_FM_isPiece 0 = .ok (.iconst 1, 1) := by decide +kernel
theorem d_FM_isPiece_1 : decode b_FM_isPiece 1 = .ok (.istore_n 3, 1) := by decide +kernel
theorem d_FM_isPiece_2 : decode b_FM_isPiece 2 = .ok (.iload_n 1, 1) := by decide +kernel
theorem d_FM_isPiece_3 : decode b_FM_isPiece 3 = .ok (.istore 4, 2) := by decide +kernel
theorem d_FM_isPiece_5 : decode b_FM_isPiece 5 = .ok (.iload 4, 2) := by decide +kernel
theorem d_FM_isPiece_7 : decode b_FM_isPiece 7 = .ok (.iload_n 2, 1) := by decide +kernel
theorem d_FM_isPiece_8 : decode b_FM_isPiece 8 = .ok (.if_icmp .ge 56, 3) := by decide +kernel
theorem d_FM_isPiece_11 : decode b_FM_isPiece 11 = .ok (.aload_n 0, 1) := by decide +kernel
theorem d_FM_isPiece_12 : decode b_FM_isPiece 12 = .ok (.iload 4, 2) := by decide +kernel
theorem d_FM_isPiece_14 : decode b_FM_isPiece 14 = .ok (.caload, 1) := by decide +kernel
theorem d_FM_isPiece_15 : decode b_FM_isPiece 15 = .ok (.istore 5, 2) := by decide +kernel
theorem d_FM_isPiece_17 : decode b_FM_isPiece 17 = .ok (.iload 5, 2) := by decide +kernel
theorem d_FM_isPiece_19 : decode b_FM_isPiece 19 = .ok (.bipush 46, 2) := by decide +kernel
theorem d_FM_isPiece_21 : decode b_FM_isPiece 21 = .ok (.if_icmp .eq 37, 3) := by decide +kernel
theorem d_FM_isPiece_24 : decode b_FM_isPiece 24 = .ok (.iconst 0, 1) := by decide +kernel
theorem d_FM_isPiece_25 : decode b_FM_isPiece 25 = .ok (.istore_n 3, 1) := by decide +kernel
theorem d_FM_isPiece_26 : decode b_FM_isPiece 26 = .ok (.iload 5, 2) := by decide +kernel
theorem d_FM_isPiece_28 : decode b_FM_isPiece 28 = .ok (.invokestatic 22, 3) := by decide +kernel
theorem d_FM_isPiece_31 : decode b_FM_isPiece 31 = .ok (.ifCond .ne 27, 3) := by decide +kernel
theorem d_FM_isPiece_34 : decode b_FM_isPiece 34 = .ok (.iload 5, 2) := by decide +kernel
theorem d_FM_isPiece_36 : decode b_FM_isPiece 36 = .ok (.invokestatic 26, 3) := by decide +kernel
theorem d_FM_isPiece_39 : decode b_FM_isPiece 39 = .ok (.ifCond .ne 19, 3) := by decide +kernel
theorem d_FM_isPiece_42 : decode b_FM_isPiece 42 = .ok (.iload 5, 2) := by decide +kernel
theorem d_FM_isPiece_44 : decode b_FM_isPiece 44 = .ok (.bipush 95, 2) := by decide +kernel
theorem d_FM_isPiece_46 : decode b_FM_isPiece 46 = .ok (.if_icmp .eq 12, 3) := by decide +kernel
theorem d_FM_isPiece_49 : decode b_FM_isPiece 49 = .ok (.iload 5, 2) := by decide +kernel
theorem d_FM_isPiece_51 : decode b_FM_isPiece 51 = .ok (.bipush 45, 2) := by decide +kernel
theorem d_FM_isPiece_53 : decode b_FM_isPiece 53 = .ok (.if_icmp .eq 5, 3) := by decide +kernel
theorem d_FM_isPiece_56 : decode b_FM_isPiece 56 = .ok (.iconst 0, 1) := by decide +kernel
theorem d_FM_isPiece_57 : decode b_FM_isPiece 57 = .ok (.ireturn, 1) := by decide +kernel
theorem d_FM_isPiece_58 : decode b_FM_isPiece 58 = .ok (.iinc 4 1, 3) := by decide +kernel
theorem d_FM_isPiece_61 : decode b_FM_isPiece 61 = .ok (.goto (-56), 3) := by decide +kernel
theorem d_FM_isPiece_64 : decode b_FM_isPiece 64 = .ok (.iload_n 3, 1) := by decide +kernel
theorem d_FM_isPiece_65 : decode b_FM_isPiece 65 = .ok (.ifCond .eq 10, 3) := by decide +kernel
theorem d_FM_isPiece_68 : decode b_FM_isPiece 68 = .ok (.iload_n 2, 1) := by decide +kernel
theorem d_FM_isPiece_69 : decode b_FM_isPiece 69 = .ok (.iload_n 1, 1) := by decide +kernel
theorem d_FM_isPiece_70 : decode b_FM_isPiece 70 = .ok (.isub, 1) := by decide +kernel
theorem d_FM_isPiece_71 : decode b_FM_isPiece 71 = .ok (.iconst 2, 1) := by decide +kernel
theorem d_FM_isPiece_72 : decode b_FM_isPiece 72 = .ok (.if_icmp .le 7, 3) := by decide +kernel
theorem d_FM_isPiece_75 : decode b_FM_isPiece 75 = .ok (.iconst 1, 1) := by decide +kernel
theorem d_FM_isPiece_76 : decode b_FM_isPiece 76 = .ok (.goto 4, 3) := by decide +kernel
theorem d_FM_isPiece_79 : decode b_FM_isPiece 79 = .ok (.iconst 0, 1) := by decide +kernel
theorem d_FM_isPiece_80 : decode b_FM_isPiece 80 = .ok (.ireturn, 1) := by decide +kernel
theorem d_FM_isPath_0 : decode b_FM_isPath 0 = .ok (.aload_n 0, 1) := by decide +kernel
theorem d_FM_isPath_1 : decode b_FM_isPath 1 = .ok (.arraylength, 1) := by decide +kernel
theorem d_FM_isPath_2 : decode b_FM_isPath 2 = .ok (.bipush 40, 2) := by decide +kernel
theorem d_FM_isPath_4 : decode b_FM_isPath 4 = .ok (.if_icmp .le 5, 3) := by decide +kernel
theorem d_FM_isPath_7 : decode b_FM_isPath 7 = .ok (.iconst 0, 1) := by decide +kernel
theorem d_FM_isPath_8 : decode b_FM_isPath 8 = .ok (.ireturn, 1) := by decide +kernel
theorem d_FM_isPath_9 : decode b_FM_isPath 9 = .ok (.iconst 0, 1) := by decide +kernel
theorem d_FM_isPath_10 : decode b_FM_isPath 10 = .ok (.istore_n 1, 1) := by decide +kernel
theorem d_FM_isPath_11 : decode b_FM_isPath 11 = .ok (.iconst 0, 1) := by decide +kernel
theorem d_FM_isPath_12 : decode b_FM_isPath 12 = .ok (.istore_n 2, 1) := by decide +kernel
theorem d_FM_isPath_13 : decode b_FM_isPath 13 = .ok (.iload_n 2, 1) := by decide +kernel
theorem d_FM_isPath_14 : decode b_FM_isPath 14 = .ok (.aload_n 0, 1) := by decide +kernel
theorem d_FM_isPath_15 : decode b_FM_isPath 15 = .ok (.arraylength, 1) := by decide +kernel
theorem d_FM_isPath_16 : decode b_FM_isPath 16 = .ok (.if_icmp .ge 32, 3) := by decide +kernel
theorem d_FM_isPath_19 : decode b_FM_isPath 19 = .ok (.aload_n 0, 1) := by decide +kernel
theorem d_FM_isPath_20 : decode b_FM_isPath 20 = .ok (.iload_n 2, 1) := by decide +kernel
theorem d_FM_isPath_21 : decode b_FM_isPath 21 = .ok (.caload, 1) := by decide +kernel
theorem d_FM_isPath_22 : decode b_FM_isPath 22 = .ok (.bipush 47, 2) := by decide +kernel
theorem d_FM_isPath_24 : decode b_FM_isPath 24 = .ok (.if_icmp .ne 18, 3) := by decide +kernel
theorem d_FM_isPath_27 : decode b_FM_isPath 27 = .ok (.aload_n 0, 1) := by decide +kernel
theorem d_FM_isPath_28 : decode b_FM_isPath 28 = .ok (.iload_n 1, 1) := by decide +kernel
theorem d_FM_isPath_29 : decode b_FM_isPath 29 = .ok (.iload_n 2, 1) := by decide +kernel
theorem d_FM_isPath_30 : decode b_FM_isPath 30 = .ok (.invokestatic 33, 3) := by decide +kernel
theorem d_FM_isPath_33 : decode b_FM_isPath 33 = .ok (.ifCond .ne 5, 3) := by decide +kernel
theorem d_FM_isPath_36 : decode b_FM_isPath 36 = .ok (.iconst 0, 1) := by decide +kernel
theorem d_FM_isPath_37 : decode b_FM_isPath 37 = .ok (.ireturn, 1) := by decide +kernel
theorem d_FM_isPath_38 : decode b_FM_isPath 38 = .ok (.iload_n 2, 1) := by decide +kernel
theorem d_FM_isPath_39 : decode b_FM_isPath 39 = .ok (.iconst 1, 1) := by decide +kernel
theorem d_FM_isPath_40 : decode b_FM_isPath 40 = .ok (.iadd, 1) := by decide +kernel
theorem d_FM_isPath_41 : decode b_FM_isPath 41 = .ok (.istore_n 1, 1) := by decide +kernel
theorem d_FM_isPath_42 : decode b_FM_isPath 42 = .ok (.iinc 2 1, 3) := by decide +kernel
theorem d_FM_isPath_45 : decode b_FM_isPath 45 = .ok (.goto (-32), 3) := by decide +kernel
theorem d_FM_isPath_48 : decode b_FM_isPath 48 = .ok (.aload_n 0, 1) := by decide +kernel
theorem d_FM_isPath_49 : decode b_FM_isPath 49 = .ok (.iload_n 1, 1) := by decide +kernel
theorem d_FM_isPath_50 : decode b_FM_isPath 50 = .ok (.aload_n 0, 1) := by decide +kernel
theorem d_FM_isPath_51 : decode b_FM_isPath 51 = .ok (.arraylength, 1) := by decide +kernel
theorem d_FM_isPath_52 : decode b_FM_isPath 52 = .ok (.invokestatic 33, 3) := by decide +kernel
theorem d_FM_isPath_55 : decode b_FM_isPath 55 = .ok (.ireturn, 1) := by decide +kernel
theorem d_FM_isNameAndValue_0 : decode b_FM_isNameAndValue 0 = .ok (.aload_n 0, 1) := by decide +kernel
theorem d_FM_isNameAndValue_1 : decode b_FM_isNameAndValue 1 = .ok (.invokestatic 18, 3) := by decide +kernel
theorem d_FM_isNameAndValue_4 : decode b_FM_isNameAndValue 4 = .ok (.istore_n 1, 1) := by decide +kernel
theorem d_FM_isNameAndValue_5 : decode b_FM_isNameAndValue 5 = .ok (.iload_n 1, 1) := by decide +kernel
theorem d_FM_isNameAndValue_6 : decode b_FM_isNameAndValue 6 = .ok (.aload_n 0, 1) := by decide +kernel
theorem d_FM_isNameAndValue_7 : decode b_FM_isNameAndValue 7 = .ok (.arraylength, 1) := by decide +kernel
theorem d_FM_isNameAndValue_8 : decode b_FM_isNameAndValue 8 = .ok (.if_icmp .ge 26, 3) := by decide +kernel
theorem d_FM_isNameAndValue_11 : decode b_FM_isNameAndValue 11 = .ok (.aload_n 0, 1) := by decide +kernel
theorem d_FM_isNameAndValue_12 : decode b_FM_isNameAndValue 12 = .ok (.iload_n 1, 1) := by decide +kernel
theorem d_FM_isNameAndValue_13 : decode b_FM_isNameAndValue 13 = .ok (.invokestatic 29, 3) := by decide +kernel
theorem d_FM_isNameAndValue_16 : decode b_FM_isNameAndValue 16 = .ok (.ifCond .eq 18, 3) := by decide +kernel
theorem d_FM_isNameAndValue_19 : decode b_FM_isNameAndValue 19 = .ok (.aload_n 0, 1) := by decide +kernel
theorem d_FM_isNameAndValue_20 : decode b_FM_isNameAndValue 20 = .ok (.arraylength, 1) := by decide +kernel
theorem d_FM_isNameAndValue_21 : decode b_FM_isNameAndValue 21 = .ok (.iload_n 1, 1) := by decide +kernel
theorem d_FM_isNameAndValue_22 : decode b_FM_isNameAndValue 22 = .ok (.isub, 1) := by decide +kernel
theorem d_FM_isNameAndValue_23 : decode b_FM_isNameAndValue 23 = .ok (.iconst 1, 1) := by decide +kernel
theorem d_FM_isNameAndValue_24 : decode b_FM_isNameAndValue 24 = .ok (.isub, 1) := by decide +kernel
theorem d_FM_isNameAndValue_25 : decode b_FM_isNameAndValue 25 = .ok (.bipush 40, 2) := by decide +kernel
theorem d_FM_isNameAndValue_27 : decode b_FM_isNameAndValue 27 = .ok (.if_icmp .gt 7, 3) := by decide +kernel
theorem d_FM_isNameAndValue_30 : decode b_FM_isNameAndValue 30 = .ok (.iconst 1, 1) := by decide +kernel
theorem d_FM_isNameAndValue_31 : decode b_FM_isNameAndValue 31 = .ok (.goto 4, 3) := by decide +kernel
theorem d_FM_isNameAndValue_34 : decode b_FM_isNameAndValue 34 = .ok (.iconst 0, 1) := by decide +kernel
theorem d_FM_isNameAndValue_35 : decode b_FM_isNameAndValue 35 = .ok (.ireturn, 1) := by decide +kernel
theorem d_FM_fits_0 : decode b_FM_fits 0 = .ok (.iload_n 1, 1) := by decide +kernel
theorem d_FM_fits_1 : decode b_FM_fits 1 = .ok (.tableswitch 55 0 6 #[43, 45, 50, 45, 50, 45, 50], 43) := by decide +kernel
theorem d_FM_fits_44 : decode b_FM_fits 44 = .ok (.iconst 1, 1) := by decide +kernel
theorem d_FM_fits_45 : decode b_FM_fits 45 = .ok (.ireturn, 1) := by decide +kernel
theorem d_FM_fits_46 : decode b_FM_fits 46 = .ok (.aload_n 0, 1) := by decide +kernel
theorem d_FM_fits_47 : decode b_FM_fits 47 = .ok (.invokestatic 9, 3) := by decide +kernel
theorem d_FM_fits_50 : decode b_FM_fits 50 = .ok (.ireturn, 1) := by decide +kernel
theorem d_FM_fits_51 : decode b_FM_fits 51 = .ok (.aload_n 0, 1) := by decide +kernel
theorem d_FM_fits_52 : decode b_FM_fits 52 = .ok (.invokestatic 15, 3) := by decide +kernel
theorem d_FM_fits_55 : decode b_FM_fits 55 = .ok (.ireturn, 1) := by decide +kernel
theorem d_FM_fits_56 : decode b_FM_fits 56 = .ok (.iconst 0, 1) := by decide +kernel
theorem d_FM_fits_57 : decode b_FM_fits 57 = .ok (.ireturn, 1) := by decide +kernel
theorem d_FM_keyLength_0 : decode b_FM_keyLength 0 = .ok (.iload_n 1, 1) := by decide +kernel
theorem d_FM_keyLength_1 : decode b_FM_keyLength 1 = .ok (.tableswitch 47 1 6 #[39, 42, 39, 42, 39, 42], 39) := by decide +kernel
theorem d_FM_keyLength_40 : decode b_FM_keyLength 40 = .ok (.aload_n 0, 1) := by decide +kernel
theorem d_FM_keyLength_41 : decode b_FM_keyLength 41 = .ok (.arraylength, 1) := by decide +kernel
theorem d_FM_keyLength_42 : decode b_FM_keyLength 42 = .ok (.ireturn, 1) := by decide +kernel
theorem d_FM_keyLength_43 : decode b_FM_keyLength 43 = .ok (.aload_n 0, 1) := by decide +kernel
theorem d_FM_keyLength_44 : decode b_FM_keyLength 44 = .ok (.invokestatic 18, 3) := by decide +kernel
theorem d_FM_keyLength_47 : decode b_FM_keyLength 47 = .ok (.ireturn, 1) := by decide +kernel
theorem d_FM_keyLength_48 : decode b_FM_keyLength 48 = .ok (.iconst 0, 1) := by decide +kernel
theorem d_FM_keyLength_49 : decode b_FM_keyLength 49 = .ok (.ireturn, 1) := by decide +kernel
set_option maxHeartbeats 4000000 in
set_option maxRecDepth 100000 in
/-- where the first = stands, or the length -/
theorem c_FM_nameLength (l : Launch) (D : va_G) (ct : Nat → ClassId) (Z : hp_Z) (hZ : hp_Zok Z) (M : hp_M) (sz : Nat) (t : Nat) (x : List Nat) (hL : x.length ≤ 64) (hc_x : ∀ i, x.getD i 0 < 65536) (f_t : M t = some (.inl (ct 0, x.length, .inl (tx x)))) : Mi l y_FM_nameLength b_FM_nameLength 2 (some .int) 0 0 0 0 [.ref t] D ct Z M sz (fun r M1 => M1 = M ∧ ∃ n : Nat, r = nI n ∧ isEqs x n) := by
  refine hp_start (by decide) (Nat.le_of_ble_eq_true rfl) (fun p e s m below meth c ls S hret hlk hnm hsz hK hM hS hA hz hl => ?_)
  have hx := S.1
  have hb := S.2.1
  have hl : lv_has ls 2 [(0, .ref t)] := hl
  refine lv_iconst (v := nI 0) hx hb d_FM_nameLength_0 rfl ?_
  refine lv_istore_n (lv' := [(1, .int (nI 0)), (0, .ref t)]) hx hb d_FM_nameLength_1 rfl hl (by decide) rfl (fun ls hl => ?_)
  replace hl : lv_has ls 2 [(0, .ref t), (1, .int (nI 0))] := lv_sub hl [1, 0] rfl
  obtain ⟨j, e9j⟩ : ∃ z : Nat, z = 0 := ⟨_, rfl⟩
  replace hl : lv_has ls 2 [(0, .ref t), (1, .int (nI j))] := by subst e9j; exact hl
  have hinv : ∀ i, i < j → x.getD i 0 ≠ 61 := by subst e9j; intro i hi; omega
  obtain ⟨fu, hn⟩ : ∃ fu : Nat, j + fu = x.length := ⟨x.length - j, by omega⟩
  clear e9j
  induction fu generalizing j ls with
  | zero =>
    have hn : j = x.length := by omega
    refine lv_iload_n hx hb d_FM_nameLength_2 rfl (lv_at hl 1 rfl) ?_
    refine lv_aload_n hx hb d_FM_nameLength_3 rfl (lv_at hl 0 rfl) ?_
    refine hp_alen S hK hM 0 f_t rfl d_FM_nameLength_4 ?_
    refine nb_ge (tgt := 24) hx hb d_FM_nameLength_5 (by decide) (by omega) (by omega) (fun h1 => ?_) (fun h1 => ?_)
    · refine lv_aload_n hx hb d_FM_nameLength_24 rfl (lv_at hl 0 rfl) ?_
      refine hp_alen S hK hM 0 f_t rfl d_FM_nameLength_25 ?_
      exact hp_iret S hret hlk (rfl) hM hS (⟨rfl, x.length, rfl, Nat.le_refl _, fun i hi => hinv i (by omega), fun h => absurd h (Nat.lt_irrefl _)⟩) d_FM_nameLength_26
    · exact absurd hn (by omega)
  | succ fu ih =>
    refine lv_iload_n hx hb d_FM_nameLength_2 rfl (lv_at hl 1 rfl) ?_
    refine lv_aload_n hx hb d_FM_nameLength_3 rfl (lv_at hl 0 rfl) ?_
    refine hp_alen S hK hM 0 f_t rfl d_FM_nameLength_4 ?_
    refine nb_ge (tgt := 24) hx hb d_FM_nameLength_5 (by decide) (by omega) (by omega) (fun h2 => ?_) (fun h2 => ?_)
    · exact absurd hn (by omega)
    · refine lv_aload_n hx hb d_FM_nameLength_8 rfl (lv_at hl 0 rfl) ?_
      refine lv_iload_n hx hb d_FM_nameLength_9 rfl (lv_at hl 1 rfl) ?_
      refine hp_cald S hK hM 0 f_t rfl j rfl (by omega) (by omega) d_FM_nameLength_10 ?_
      refine lv_bipush (v := nI 61) hx hb d_FM_nameLength_11 rfl ?_
      refine nb_ne (tgt := 18) hx hb d_FM_nameLength_13 (by decide) (Nat.lt_trans (hc_x _) (by decide)) (by omega) (fun h61 => ?_) (fun h61 => ?_)
      · refine lv_iinc (v := nI (j + 1)) (lv' := [(1, .int (nI (j + 1))), (0, .ref t)]) hx hb d_FM_nameLength_18 hl (k := 1) rfl (nI_add j 1) (by decide) rfl (fun ls hl => ?_)
        refine lv_goto (tgt := 2) hx hb d_FM_nameLength_21 (by decide) ?_
        exact ih (ls := ls) (hl := lv_sub hl [1, 0] rfl) (j := j + 1) (hn := by omega) (hinv := lt_s hinv h61)
      · refine lv_iload_n hx hb d_FM_nameLength_16 rfl (lv_at hl 1 rfl) ?_
        exact hp_iret S hret hlk (rfl) hM hS (⟨rfl, j, rfl, by omega, hinv, fun _ => h61⟩) d_FM_nameLength_17
set_option maxHeartbeats 4000000 in
set_option maxRecDepth 100000 in
/-- the first n characters are a NAME -/
theorem c_FM_isName (l : Launch) (D : va_G) (ct : Nat → ClassId) (Z : hp_Z) (hZ : hp_Zok Z) (M : hp_M) (sz : Nat) (t : Nat) (x : List Nat) (hL : x.length ≤ 64) (hc_x : ∀ i, x.getD i 0 < 65536) (f_t : M t = some (.inl (ct 0, x.length, .inl (tx x)))) (n : Nat) (hn31 : n < 2 ^ 31) : Mi l y_FM_isName b_FM_isName 3 (some .boolean) 1 20 0 0 [.ref t, .int (nI n)] D ct Z M sz (fun r M1 => M1 = M ∧ bo r (isNam x n)) := by
  refine hp_start (by decide) (Nat.le_of_ble_eq_true rfl) (fun p e s m below meth c ls S hret hlk hnm hsz hK hM hS hA hz hl => ?_)
  have hx := S.1
  have hb := S.2.1
  have hl : lv_has ls 3 [(0, .ref t), (1, .int (nI n))] := hl
  refine lv_iload_n hx hb d_FM_isName_0 rfl (lv_at hl 1 rfl) ?_
  refine lv_iconst (v := nI 1) hx hb d_FM_isName_1 rfl ?_
  refine nb_lt (tgt := 26) hx hb d_FM_isName_2 (by decide) (by omega) (by omega) (fun ha => ?_) (fun ha => ?_)
  · refine lv_iconst (v := nI 0) hx hb d_FM_isName_26 rfl ?_
    exact hp_iret S hret hlk (rfl) hM hS (⟨rfl, bo_f (fun q => by obtain ⟨q1, q2, q3, q4, q5⟩ := q; first | omega | exact hd1 q4)⟩) d_FM_isName_27
  · refine lv_iload_n hx hb d_FM_isName_5 rfl (lv_at hl 1 rfl) ?_
    refine lv_bipush (v := nI 16) hx hb d_FM_isName_6 rfl ?_
    refine nb_gt (tgt := 26) hx hb d_FM_isName_8 (by decide) (by omega) (by omega) (fun hb1 => ?_) (fun hb1 => ?_)
    · refine lv_iconst (v := nI 0) hx hb d_FM_isName_26 rfl ?_
      exact hp_iret S hret hlk (rfl) hM hS (⟨rfl, bo_f (fun q => by obtain ⟨q1, q2, q3, q4, q5⟩ := q; first | omega | exact hd1 q4)⟩) d_FM_isName_27
    · refine lv_iload_n hx hb d_FM_isName_11 rfl (lv_at hl 1 rfl) ?_
      refine lv_aload_n hx hb d_FM_isName_12 rfl (lv_at hl 0 rfl) ?_
      refine hp_alen S hK hM 0 f_t rfl d_FM_isName_13 ?_
      refine nb_gt (tgt := 26) hx hb d_FM_isName_14 (by decide) (by omega) (by omega) (fun hc1 => ?_) (fun hc1 => ?_)
      · refine lv_iconst (v := nI 0) hx hb d_FM_isName_26 rfl ?_
        exact hp_iret S hret hlk (rfl) hM hS (⟨rfl, bo_f (fun q => by obtain ⟨q1, q2, q3, q4, q5⟩ := q; first | omega | exact hd1 q4)⟩) d_FM_isName_27
      · refine lv_aload_n hx hb d_FM_isName_17 rfl (lv_at hl 0 rfl) ?_
        refine lv_iconst (v := nI 0) hx hb d_FM_isName_18 rfl ?_
        refine hp_cald S hK hM 0 f_t rfl 0 rfl (by omega) (by omega) d_FM_isName_19 ?_
        refine hp_calli (go_S S hZ hK hM hS hA hz (c_FM_isLetter l D ct Z hZ _ _ (x.getD 0 0) (hc_x _)) mc_FM_isLetter mz_FM ml_FM_22 ms_FM_isLetter hd_FM_isLetter rfl ⟨by decide, by decide⟩ hl.1 rfl (Nat.le_of_ble_eq_true rfl) d_FM_isName_20 ⟨by decide, by decide⟩) hM hS hA (fun r1 N2 H locs hr1 hM hS => ?_)
        rw [hr1.1] at hM
        replace hr1 := hr1.2
        refine nt_ne (tgt := 28) hx hb d_FM_isName_23 (by decide) hr1 (fun hd1 => ?_) (fun hd1 => ?_)
        · refine lv_iconst (v := nI 1) hx hb d_FM_isName_28 rfl ?_
          refine lv_istore_n (lv' := [(2, .int (nI 1)), (0, .ref t), (1, .int (nI n))]) hx hb d_FM_isName_29 rfl hl (by decide) rfl (fun ls hl => ?_)
          replace hl : lv_has ls 3 [(0, .ref t), (1, .int (nI n)), (2, .int (nI 1))] := lv_sub hl [1, 2, 0] rfl
          obtain ⟨j, e9j⟩ : ∃ z : Nat, z = 1 := ⟨_, rfl⟩
          replace hl : lv_has ls 3 [(0, .ref t), (1, .int (nI n)), (2, .int (nI j))] := by subst e9j; exact hl
          have hinv : ∀ i, 1 ≤ i → i < j → isWrd (x.getD i 0) := by subst e9j; intro i h1 h2; omega
          have hj1 : 1 ≤ j := by subst e9j; decide
          obtain ⟨fu, hn⟩ : ∃ fu : Nat, j + fu = n := ⟨n - j, by omega⟩
          clear e9j
          induction fu generalizing j H locs ls with
          | zero =>
            have hn : j = n := by omega
            refine lv_iload_n hx hb d_FM_isName_30 rfl (lv_at hl 2 rfl) ?_
            refine lv_iload_n hx hb d_FM_isName_31 rfl (lv_at hl 1 rfl) ?_
            refine nb_ge (tgt := 69) hx hb d_FM_isName_32 (by decide) (by omega) (by omega) (fun h3 => ?_) (fun h3 => ?_)
            · refine lv_iconst (v := nI 1) hx hb d_FM_isName_69 rfl ?_
              exact hp_iret S hret hlk (rfl) hM hS (⟨rfl, bo_t ⟨by omega, by omega, by omega, hd1, fun i h1 h2 => hinv i h1 (by omega)⟩⟩) d_FM_isName_70
            · exact absurd hn (by omega)
          | succ fu ih =>
            refine lv_iload_n hx hb d_FM_isName_30 rfl (lv_at hl 2 rfl) ?_
            refine lv_iload_n hx hb d_FM_isName_31 rfl (lv_at hl 1 rfl) ?_
            refine nb_ge (tgt := 69) hx hb d_FM_isName_32 (by decide) (by omega) (by omega) (fun h4 => ?_) (fun h4 => ?_)
            · exact absurd hn (by omega)
            · refine lv_aload_n hx hb d_FM_isName_35 rfl (lv_at hl 0 rfl) ?_
              refine lv_iload_n hx hb d_FM_isName_36 rfl (lv_at hl 2 rfl) ?_
              refine hp_cald S hK hM 0 f_t rfl j rfl (by omega) (by omega) d_FM_isName_37 ?_
              refine hp_calli (go_S S hZ hK hM hS hA hz (c_FM_isLetter l D ct Z hZ _ _ (x.getD j 0) (hc_x _)) mc_FM_isLetter mz_FM ml_FM_22 ms_FM_isLetter hd_FM_isLetter rfl ⟨by decide, by decide⟩ hl.1 rfl (Nat.le_of_ble_eq_true rfl) d_FM_isName_38 ⟨by decide, by decide⟩) hM hS hA (fun r5 N6 H locs hr5 hM hS => ?_)
              rw [hr5.1] at hM
              replace hr5 := hr5.2
              refine nt_ne (tgt := 63) hx hb d_FM_isName_41 (by decide) hr5 (fun he1 => ?_) (fun he1 => ?_)
              · refine lv_iinc (v := nI (j + 1)) (lv' := [(2, .int (nI (j + 1))), (0, .ref t), (1, .int (nI n))]) hx hb d_FM_isName_63 hl (k := 2) rfl (nI_add j 1) (by decide) rfl (fun ls hl => ?_)
                refine lv_goto (tgt := 30) hx hb d_FM_isName_66 (by decide) ?_
                exact ih (ls := ls) (hl := lv_sub hl [1, 2, 0] rfl) (j := j + 1) (hn := by omega) (hj1 := by omega) (hinv := lt_b hinv (by first | exact Or.inl he1 | exact Or.inr (Or.inl hf1) | exact Or.inr (Or.inr hg1))) (H := H) (locs := locs) (hM := hM) (hS := hS)
              · refine lv_aload_n hx hb d_FM_isName_44 rfl (lv_at hl 0 rfl) ?_
                refine lv_iload_n hx hb d_FM_isName_45 rfl (lv_at hl 2 rfl) ?_
                refine hp_cald S hK hM 0 f_t rfl j rfl (by omega) (by omega) d_FM_isName_46 ?_
                refine hp_calli (go_S S hZ hK hM hS hA hz (c_FM_isDigit l D ct Z hZ _ _ (x.getD j 0) (hc_x _)) mc_FM_isDigit mz_FM ml_FM_26 ms_FM_isDigit hd_FM_isDigit rfl ⟨by decide, by decide⟩ hl.1 rfl (Nat.le_of_ble_eq_true rfl) d_FM_isName_47 ⟨by decide, by decide⟩) hM hS hA (fun r7 N8 H locs hr7 hM hS => ?_)
                rw [hr7.1] at hM
                replace hr7 := hr7.2
                refine nt_ne (tgt := 63) hx hb d_FM_isName_50 (by decide) hr7 (fun hf1 => ?_) (fun hf1 => ?_)
                · refine lv_iinc (v := nI (j + 1)) (lv' := [(2, .int (nI (j + 1))), (0, .ref t), (1, .int (nI n))]) hx hb d_FM_isName_63 hl (k := 2) rfl (nI_add j 1) (by decide) rfl (fun ls hl => ?_)
                  refine lv_goto (tgt := 30) hx hb d_FM_isName_66 (by decide) ?_
                  exact ih (ls := ls) (hl := lv_sub hl [1, 2, 0] rfl) (j := j + 1) (hn := by omega) (hj1 := by omega) (hinv := lt_b hinv (by first | exact Or.inl he1 | exact Or.inr (Or.inl hf1) | exact Or.inr (Or.inr hg1))) (H := H) (locs := locs) (hM := hM) (hS := hS)
                · refine lv_aload_n hx hb d_FM_isName_53 rfl (lv_at hl 0 rfl) ?_
                  refine lv_iload_n hx hb d_FM_isName_54 rfl (lv_at hl 2 rfl) ?_
                  refine hp_cald S hK hM 0 f_t rfl j rfl (by omega) (by omega) d_FM_isName_55 ?_
                  refine lv_bipush (v := nI 95) hx hb d_FM_isName_56 rfl ?_
                  refine nb_eq (tgt := 63) hx hb d_FM_isName_58 (by decide) (Nat.lt_trans (hc_x _) (by decide)) (by omega) (fun hg1 => ?_) (fun hg1 => ?_)
                  · refine lv_iinc (v := nI (j + 1)) (lv' := [(2, .int (nI (j + 1))), (0, .ref t), (1, .int (nI n))]) hx hb d_FM_isName_63 hl (k := 2) rfl (nI_add j 1) (by decide) rfl (fun ls hl => ?_)
                    refine lv_goto (tgt := 30) hx hb d_FM_isName_66 (by decide) ?_
                    exact ih (ls := ls) (hl := lv_sub hl [1, 2, 0] rfl) (j := j + 1) (hn := by omega) (hj1 := by omega) (hinv := lt_b hinv (by first | exact Or.inl he1 | exact Or.inr (Or.inl hf1) | exact Or.inr (Or.inr hg1))) (H := H) (locs := locs) (hM := hM) (hS := hS)
                  · refine lv_iconst (v := nI 0) hx hb d_FM_isName_61 rfl ?_
                    exact hp_iret S hret hlk (rfl) hM hS (⟨rfl, bo_f (fun q => (q.2.2.2.2 j (by omega) (by omega)).elim he1 (fun q => q.elim hf1 hg1))⟩) d_FM_isName_62
        · refine lv_iconst (v := nI 0) hx hb d_FM_isName_26 rfl ?_
          exact hp_iret S hret hlk (rfl) hM hS (⟨rfl, bo_f (fun q => by obtain ⟨q1, q2, q3, q4, q5⟩ := q; first | omega | exact hd1 q4)⟩) d_FM_isName_27
set_option maxHeartbeats 4000000 in
set_option maxRecDepth 100000 in
/-- the characters from a to b are a PIECE -/
theorem c_FM_isPiece (l : Launch) (D : va_G) (ct : Nat → ClassId) (Z : hp_Z) (hZ : hp_Zok Z) (M : hp_M) (sz : Nat) (t : Nat) (x : List Nat) (hL : x.length ≤ 64) (hc_x : ∀ i, x.getD i 0 < 65536) (f_t : M t = some (.inl (ct 0, x.length, .inl (tx x)))) (a b : Nat) (hab : a ≤ b) (hbx : b ≤ x.length) : Mi l y_FM_isPiece b_FM_isPiece 6 (some .boolean) 1 20 0 0 [.ref t, .int (nI a), .int (nI b)] D ct Z M sz (fun r M1 => M1 = M ∧ bo r (isPce x a b)) := by
  refine hp_start (by decide) (Nat.le_of_ble_eq_true rfl) (fun p e s m below meth c ls S hret hlk hnm hsz hK hM hS hA hz hl => ?_)
  have hx := S.1
  have hb := S.2.1
  have hl : lv_has ls 6 [(0, .ref t), (1, .int (nI a)), (2, .int (nI b))] := hl
  refine lv_iconst (v := nI 1) hx hb d_FM_isPiece_0 rfl ?_
  refine lv_istore_n (lv' := [(3, .int (nI 1)), (0, .ref t), (1, .int (nI a)), (2, .int (nI b))]) hx hb d_FM_isPiece_1 rfl hl (by decide) rfl (fun ls hl => ?_)
  refine lv_iload_n hx hb d_FM_isPiece_2 rfl (lv_at hl 2 rfl) ?_
  refine lv_istore (lv' := [(4, .int (nI a)), (3, .int (nI 1)), (0, .ref t), (1, .int (nI a)), (2, .int (nI b))]) hx hb d_FM_isPiece_3 hl (by decide) rfl (fun ls hl => ?_)
  replace hl : lv_has ls 6 [(0, .ref t), (1, .int (nI a)), (2, .int (nI b)), (3, .int (nI 1)), (4, .int (nI a))] := lv_sub hl [2, 3, 4, 1, 0] rfl
  obtain ⟨j, e9j⟩ : ∃ z : Nat, z = a := ⟨_, rfl⟩
  obtain ⟨d, e9d⟩ : ∃ z : Nat, z = 1 := ⟨_, rfl⟩
  replace hl : lv_has ls 6 [(0, .ref t), (1, .int (nI a)), (2, .int (nI b)), (3, .int (nI d)), (4, .int (nI j))] := by subst e9j e9d; exact hl
  obtain ⟨H, e9H⟩ : ∃ z : Heap, z = s.heap := ⟨_, rfl⟩
  replace hM : hp_H D ccl (hp_A M sz) M H := by rw [e9H]; exact hM
  replace hS : va_S (hp_A M sz) s.heap H [] := by rw [e9H]; exact hS
  rw [← e9H]
  clear e9H
  obtain ⟨locs, e9L⟩ : ∃ z : List Loc, z = [] := ⟨_, rfl⟩
  replace hS : va_S (hp_A M sz) s.heap H locs := by rw [e9L]; exact hS
  rw [← e9L]
  clear e9L
  have haj : a ≤ j := by subst e9j e9d; exact Nat.le_refl _
  have hinv : ∀ i, a ≤ i → i < j → isDot (x.getD i 0) := by subst e9j e9d; intro i h1 h2; omega
  have hd : (d = 1 ∧ ∀ i, a ≤ i → i < j → x.getD i 0 = 46) ∨ (d = 0 ∧ ∃ i, a ≤ i ∧ i < j ∧ x.getD i 0 ≠ 46) := by subst e9j e9d; exact Or.inl ⟨rfl, fun i h1 h2 => by omega⟩
  obtain ⟨fu, hn⟩ : ∃ fu : Nat, j + fu = b := ⟨b - j, by omega⟩
  clear e9j e9d
  induction fu generalizing j d H locs ls with
  | zero =>
    have hn : j = b := by omega
    refine lv_iload hx hb d_FM_isPiece_5 (lv_at hl 4 rfl) ?_
    refine lv_iload_n hx hb d_FM_isPiece_7 rfl (lv_at hl 2 rfl) ?_
    refine nb_ge (tgt := 64) hx hb d_FM_isPiece_8 (by decide) (by omega) (by omega) (fun h1 => ?_) (fun h1 => ?_)
    · refine lv_iload_n hx hb d_FM_isPiece_64 rfl (lv_at hl 3 rfl) ?_
      refine nz_eq (tgt := 75) hx hb d_FM_isPiece_65 (by decide) (by omega) (fun hk1 => ?_) (fun hk1 => ?_)
      · refine lv_iconst (v := nI 1) hx hb d_FM_isPiece_75 rfl ?_
        refine lv_goto (tgt := 80) hx hb d_FM_isPiece_76 (by decide) ?_
        exact hp_iret S hret hlk rfl hM hS ⟨rfl, bo_t ⟨fun i h1 h2 => hinv i h1 (by omega), fun h => hd.elim (fun q => by omega) (fun q => by obtain ⟨-, i, q1, q2, q3⟩ := q; exact absurd (h i q1 (by omega)) q3)⟩⟩ d_FM_isPiece_80
      · refine lv_iload_n hx hb d_FM_isPiece_68 rfl (lv_at hl 2 rfl) ?_
        refine lv_iload_n hx hb d_FM_isPiece_69 rfl (lv_at hl 1 rfl) ?_
        refine nb_isub hx hb d_FM_isPiece_70 (by omega) ?_
        refine lv_iconst (v := nI 2) hx hb d_FM_isPiece_71 rfl ?_
        refine nb_le (tgt := 79) hx hb d_FM_isPiece_72 (by decide) (by omega) (by omega) (fun hm1 => ?_) (fun hm1 => ?_)
        · refine lv_iconst (v := nI 0) hx hb d_FM_isPiece_79 rfl ?_
          exact hp_iret S hret hlk rfl hM hS ⟨rfl, bo_f (fun q => by have q2 := q.2 (hd.elim (fun z => fun i h1 h2 => z.2 i h1 (by omega)) (fun z => by omega)); omega)⟩ d_FM_isPiece_80
        · refine lv_iconst (v := nI 1) hx hb d_FM_isPiece_75 rfl ?_
          refine lv_goto (tgt := 80) hx hb d_FM_isPiece_76 (by decide) ?_
          exact hp_iret S hret hlk rfl hM hS ⟨rfl, bo_t ⟨fun i h1 h2 => hinv i h1 (by omega), fun h => hd.elim (fun q => by omega) (fun q => by obtain ⟨-, i, q1, q2, q3⟩ := q; exact absurd (h i q1 (by omega)) q3)⟩⟩ d_FM_isPiece_80
    · exact absurd hn (by omega)
  | succ fu ih =>
    refine lv_iload hx hb d_FM_isPiece_5 (lv_at hl 4 rfl) ?_
    refine lv_iload_n hx hb d_FM_isPiece_7 rfl (lv_at hl 2 rfl) ?_
    refine nb_ge (tgt := 64) hx hb d_FM_isPiece_8 (by decide) (by omega) (by omega) (fun h2 => ?_) (fun h2 => ?_)
    · exact absurd hn (by omega)
    · refine lv_aload_n hx hb d_FM_isPiece_11 rfl (lv_at hl 0 rfl) ?_
      refine lv_iload hx hb d_FM_isPiece_12 (lv_at hl 4 rfl) ?_
      refine hp_cald S hK hM 0 f_t rfl j rfl (by omega) (by omega) d_FM_isPiece_14 ?_
      refine lv_istore (lv' := [(5, .int (nI (x.getD j 0))), (0, .ref t), (1, .int (nI a)), (2, .int (nI b)), (3, .int (nI d)), (4, .int (nI j))]) hx hb d_FM_isPiece_15 hl (by decide) rfl (fun ls hl => ?_)
      refine lv_iload hx hb d_FM_isPiece_17 (lv_at hl 0 rfl) ?_
      refine lv_bipush (v := nI 46) hx hb d_FM_isPiece_19 rfl ?_
      refine nb_eq (tgt := 58) hx hb d_FM_isPiece_21 (by decide) (Nat.lt_trans (hc_x _) (by decide)) (by omega) (fun h46 => ?_) (fun h46 => ?_)
      · refine lv_iinc (v := nI (j + 1)) (lv' := [(4, .int (nI (j + 1))), (5, .int (nI (x.getD j 0))), (0, .ref t), (1, .int (nI a)), (2, .int (nI b)), (3, .int (nI d))]) hx hb d_FM_isPiece_58 hl (k := 5) rfl (nI_add j 1) (by decide) rfl (fun ls hl => ?_)
        refine lv_goto (tgt := 5) hx hb d_FM_isPiece_61 (by decide) ?_
        exact ih (ls := ls) (hl := lv_sub hl [2, 3, 4, 5, 0] rfl) (j := j + 1) (hn := by omega) (d := d) (haj := by omega) (hinv := lt_b hinv (Or.inr (Or.inr h46))) (hd := hd.imp (fun q => ⟨q.1, lt_b q.2 h46⟩) (fun q => by obtain ⟨q0, i, q1, q2, q3⟩ := q; exact ⟨q0, i, q1, by omega, q3⟩)) (H := H) (locs := locs) (hM := hM) (hS := hS)
      · refine lv_iconst (v := nI 0) hx hb d_FM_isPiece_24 rfl ?_
        refine lv_istore_n (lv' := [(3, .int (nI 0)), (5, .int (nI (x.getD j 0))), (0, .ref t), (1, .int (nI a)), (2, .int (nI b)), (4, .int (nI j))]) hx hb d_FM_isPiece_25 rfl hl (by decide) rfl (fun ls hl => ?_)
        refine lv_iload hx hb d_FM_isPiece_26 (lv_at hl 1 rfl) ?_
        refine hp_calli (go_S S hZ hK hM hS hA hz (c_FM_isLetter l D ct Z hZ _ _ (x.getD j 0) (hc_x _)) mc_FM_isLetter mz_FM ml_FM_22 ms_FM_isLetter hd_FM_isLetter rfl ⟨by decide, by decide⟩ hl.1 rfl (Nat.le_of_ble_eq_true rfl) d_FM_isPiece_28 ⟨by decide, by decide⟩) hM hS hA (fun r3 N4 H locs hr3 hM hS => ?_)
        rw [hr3.1] at hM
        replace hr3 := hr3.2
        refine nt_ne (tgt := 58) hx hb d_FM_isPiece_31 (by decide) hr3 (fun he1 => ?_) (fun he1 => ?_)
        · refine lv_iinc (v := nI (j + 1)) (lv' := [(4, .int (nI (j + 1))), (3, .int (nI 0)), (5, .int (nI (x.getD j 0))), (0, .ref t), (1, .int (nI a)), (2, .int (nI b))]) hx hb d_FM_isPiece_58 hl (k := 5) rfl (nI_add j 1) (by decide) rfl (fun ls hl => ?_)
          refine lv_goto (tgt := 5) hx hb d_FM_isPiece_61 (by decide) ?_
          exact ih (ls := ls) (hl := lv_sub hl [3, 4, 5, 1, 0] rfl) (j := j + 1) (hn := by omega) (d := 0) (haj := by omega) (hinv := lt_b hinv (by first | exact Or.inl (Or.inl he1) | exact Or.inl (Or.inr (Or.inl hf1)) | exact Or.inl (Or.inr (Or.inr hg1)) | exact Or.inr (Or.inl hh1))) (hd := Or.inr ⟨rfl, j, haj, by omega, h46⟩) (H := H) (locs := locs) (hM := hM) (hS := hS)
        · refine lv_iload hx hb d_FM_isPiece_34 (lv_at hl 1 rfl) ?_
          refine hp_calli (go_S S hZ hK hM hS hA hz (c_FM_isDigit l D ct Z hZ _ _ (x.getD j 0) (hc_x _)) mc_FM_isDigit mz_FM ml_FM_26 ms_FM_isDigit hd_FM_isDigit rfl ⟨by decide, by decide⟩ hl.1 rfl (Nat.le_of_ble_eq_true rfl) d_FM_isPiece_36 ⟨by decide, by decide⟩) hM hS hA (fun r5 N6 H locs hr5 hM hS => ?_)
          rw [hr5.1] at hM
          replace hr5 := hr5.2
          refine nt_ne (tgt := 58) hx hb d_FM_isPiece_39 (by decide) hr5 (fun hf1 => ?_) (fun hf1 => ?_)
          · refine lv_iinc (v := nI (j + 1)) (lv' := [(4, .int (nI (j + 1))), (3, .int (nI 0)), (5, .int (nI (x.getD j 0))), (0, .ref t), (1, .int (nI a)), (2, .int (nI b))]) hx hb d_FM_isPiece_58 hl (k := 5) rfl (nI_add j 1) (by decide) rfl (fun ls hl => ?_)
            refine lv_goto (tgt := 5) hx hb d_FM_isPiece_61 (by decide) ?_
            exact ih (ls := ls) (hl := lv_sub hl [3, 4, 5, 1, 0] rfl) (j := j + 1) (hn := by omega) (d := 0) (haj := by omega) (hinv := lt_b hinv (by first | exact Or.inl (Or.inl he1) | exact Or.inl (Or.inr (Or.inl hf1)) | exact Or.inl (Or.inr (Or.inr hg1)) | exact Or.inr (Or.inl hh1))) (hd := Or.inr ⟨rfl, j, haj, by omega, h46⟩) (H := H) (locs := locs) (hM := hM) (hS := hS)
          · refine lv_iload hx hb d_FM_isPiece_42 (lv_at hl 1 rfl) ?_
            refine lv_bipush (v := nI 95) hx hb d_FM_isPiece_44 rfl ?_
            refine nb_eq (tgt := 58) hx hb d_FM_isPiece_46 (by decide) (Nat.lt_trans (hc_x _) (by decide)) (by omega) (fun hg1 => ?_) (fun hg1 => ?_)
            · refine lv_iinc (v := nI (j + 1)) (lv' := [(4, .int (nI (j + 1))), (3, .int (nI 0)), (5, .int (nI (x.getD j 0))), (0, .ref t), (1, .int (nI a)), (2, .int (nI b))]) hx hb d_FM_isPiece_58 hl (k := 5) rfl (nI_add j 1) (by decide) rfl (fun ls hl => ?_)
              refine lv_goto (tgt := 5) hx hb d_FM_isPiece_61 (by decide) ?_
              exact ih (ls := ls) (hl := lv_sub hl [3, 4, 5, 1, 0] rfl) (j := j + 1) (hn := by omega) (d := 0) (haj := by omega) (hinv := lt_b hinv (by first | exact Or.inl (Or.inl he1) | exact Or.inl (Or.inr (Or.inl hf1)) | exact Or.inl (Or.inr (Or.inr hg1)) | exact Or.inr (Or.inl hh1))) (hd := Or.inr ⟨rfl, j, haj, by omega, h46⟩) (H := H) (locs := locs) (hM := hM) (hS := hS)
            · refine lv_iload hx hb d_FM_isPiece_49 (lv_at hl 1 rfl) ?_
              refine lv_bipush (v := nI 45) hx hb d_FM_isPiece_51 rfl ?_
              refine nb_eq (tgt := 58) hx hb d_FM_isPiece_53 (by decide) (Nat.lt_trans (hc_x _) (by decide)) (by omega) (fun hh1 => ?_) (fun hh1 => ?_)
              · refine lv_iinc (v := nI (j + 1)) (lv' := [(4, .int (nI (j + 1))), (3, .int (nI 0)), (5, .int (nI (x.getD j 0))), (0, .ref t), (1, .int (nI a)), (2, .int (nI b))]) hx hb d_FM_isPiece_58 hl (k := 5) rfl (nI_add j 1) (by decide) rfl (fun ls hl => ?_)
                refine lv_goto (tgt := 5) hx hb d_FM_isPiece_61 (by decide) ?_
                exact ih (ls := ls) (hl := lv_sub hl [3, 4, 5, 1, 0] rfl) (j := j + 1) (hn := by omega) (d := 0) (haj := by omega) (hinv := lt_b hinv (by first | exact Or.inl (Or.inl he1) | exact Or.inl (Or.inr (Or.inl hf1)) | exact Or.inl (Or.inr (Or.inr hg1)) | exact Or.inr (Or.inl hh1))) (hd := Or.inr ⟨rfl, j, haj, by omega, h46⟩) (H := H) (locs := locs) (hM := hM) (hS := hS)
              · refine lv_iconst (v := nI 0) hx hb d_FM_isPiece_56 rfl ?_
                exact hp_iret S hret hlk (rfl) hM hS (⟨rfl, bo_f (fun q => (q.1 j (by omega) (by omega)).elim (fun q => q.elim he1 (fun q => q.elim hf1 hg1)) (fun q => q.elim hh1 h46))⟩) d_FM_isPiece_57
set_option maxHeartbeats 4000000 in
set_option maxRecDepth 100000 in
/-- a PATH -/
theorem c_FM_isPath (l : Launch) (D : va_G) (ct : Nat → ClassId) (Z : hp_Z) (hZ : hp_Zok Z) (M : hp_M) (sz : Nat) (t : Nat) (x : List Nat) (hL : x.length ≤ 64) (hc_x : ∀ i, x.getD i 0 < 65536) (f_t : M t = some (.inl (ct 0, x.length, .inl (tx x)))) : Mi l y_FM_isPath b_FM_isPath 3 (some .boolean) 2 45 0 0 [.ref t] D ct Z M sz (fun r M1 => M1 = M ∧ bo r (isPth x)) := by
  refine hp_start (by decide) (Nat.le_of_ble_eq_true rfl) (fun p e s m below meth c ls S hret hlk hnm hsz hK hM hS hA hz hl => ?_)
  have hx := S.1
  have hb := S.2.1
  have hl : lv_has ls 3 [(0, .ref t)] := hl
  refine lv_aload_n hx hb d_FM_isPath_0 rfl (lv_at hl 0 rfl) ?_
  refine hp_alen S hK hM 0 f_t rfl d_FM_isPath_1 ?_
  refine lv_bipush (v := nI 40) hx hb d_FM_isPath_2 rfl ?_
  refine nb_le (tgt := 9) hx hb d_FM_isPath_4 (by decide) (by omega) (by omega) (fun h40 => ?_) (fun h40 => ?_)
  · refine lv_iconst (v := nI 0) hx hb d_FM_isPath_9 rfl ?_
    refine lv_istore_n (lv' := [(1, .int (nI 0)), (0, .ref t)]) hx hb d_FM_isPath_10 rfl hl (by decide) rfl (fun ls hl => ?_)
    refine lv_iconst (v := nI 0) hx hb d_FM_isPath_11 rfl ?_
    refine lv_istore_n (lv' := [(2, .int (nI 0)), (1, .int (nI 0)), (0, .ref t)]) hx hb d_FM_isPath_12 rfl hl (by decide) rfl (fun ls hl => ?_)
    replace hl : lv_has ls 3 [(0, .ref t), (1, .int (nI 0)), (2, .int (nI 0))] := lv_sub hl [2, 1, 0] rfl
    obtain ⟨j, e9j⟩ : ∃ z : Nat, z = 0 := ⟨_, rfl⟩
    obtain ⟨st, e9st⟩ : ∃ z : Nat, z = 0 := ⟨_, rfl⟩
    replace hl : lv_has ls 3 [(0, .ref t), (1, .int (nI st)), (2, .int (nI j))] := by subst e9j e9st; exact hl
    obtain ⟨H, e9H⟩ : ∃ z : Heap, z = s.heap := ⟨_, rfl⟩
    replace hM : hp_H D ccl (hp_A M sz) M H := by rw [e9H]; exact hM
    replace hS : va_S (hp_A M sz) s.heap H [] := by rw [e9H]; exact hS
    rw [← e9H]
    clear e9H
    obtain ⟨locs, e9L⟩ : ∃ z : List Loc, z = [] := ⟨_, rfl⟩
    replace hS : va_S (hp_A M sz) s.heap H locs := by rw [e9L]; exact hS
    rw [← e9L]
    clear e9L
    have hsj : st ≤ j := by subst e9j e9st; exact Nat.le_refl _
    have hst : st = 0 ∨ x.getD (st - 1) 0 = 47 := by subst e9j e9st; exact Or.inl rfl
    have hno : ∀ i, st ≤ i → i < j → x.getD i 0 ≠ 47 := by subst e9j e9st; intro i h1 h2; omega
    have hpc : ∀ a b, isBnd x a b → b < j → isPce x a b := by subst e9j e9st; intro a b _ h2; omega
    obtain ⟨fu, hn⟩ : ∃ fu : Nat, j + fu = x.length := ⟨x.length - j, by omega⟩
    clear e9j e9st
    induction fu generalizing j st H locs ls with
    | zero =>
      have hn : j = x.length := by omega
      refine lv_iload_n hx hb d_FM_isPath_13 rfl (lv_at hl 2 rfl) ?_
      refine lv_aload_n hx hb d_FM_isPath_14 rfl (lv_at hl 0 rfl) ?_
      refine hp_alen S hK hM 0 f_t rfl d_FM_isPath_15 ?_
      refine nb_ge (tgt := 48) hx hb d_FM_isPath_16 (by decide) (by omega) (by omega) (fun h1 => ?_) (fun h1 => ?_)
      · refine lv_aload_n hx hb d_FM_isPath_48 rfl (lv_at hl 0 rfl) ?_
        refine lv_iload_n hx hb d_FM_isPath_49 rfl (lv_at hl 1 rfl) ?_
        refine lv_aload_n hx hb d_FM_isPath_50 rfl (lv_at hl 0 rfl) ?_
        refine hp_alen S hK hM 0 f_t rfl d_FM_isPath_51 ?_
        refine hp_calli (go_S S hZ hK hM hS hA hz (c_FM_isPiece l D ct Z hZ _ _ t x hL hc_x f_t (st) (x.length) (by omega) (by omega)) mc_FM_isPiece mz_FM ml_FM_33 ms_FM_isPiece hd_FM_isPiece rfl ⟨by decide, by decide⟩ hl.1 rfl (Nat.le_of_ble_eq_true rfl) d_FM_isPath_52 ⟨by decide, by decide⟩) hM hS hA (fun r2 N3 H locs hr2 hM hS => ?_)
        rw [hr2.1] at hM
        replace hr2 := hr2.2
        have key : isBnd x st x.length := ⟨by omega, Nat.le_refl _, hst, Or.inl rfl, fun i h1 h2 => hno i h1 (by omega)⟩
        exact hp_iret S hret hlk (bo_nar hr2) hM hS ⟨rfl, bo_iff hr2 ⟨fun q => ⟨by omega, fun a b hb => by
          rcases Nat.lt_or_ge b j with z | z
          · exact hpc a b hb z
          · have hbe : b = x.length := by have := hb.2.1; omega
            subst hbe
            rw [isBnd_one hb (by omega) hst key.2.2.2.2]; exact q⟩, fun q => q.2 st x.length key⟩⟩ d_FM_isPath_55
      · exact absurd hn (by omega)
    | succ fu ih =>
      refine lv_iload_n hx hb d_FM_isPath_13 rfl (lv_at hl 2 rfl) ?_
      refine lv_aload_n hx hb d_FM_isPath_14 rfl (lv_at hl 0 rfl) ?_
      refine hp_alen S hK hM 0 f_t rfl d_FM_isPath_15 ?_
      refine nb_ge (tgt := 48) hx hb d_FM_isPath_16 (by decide) (by omega) (by omega) (fun h4 => ?_) (fun h4 => ?_)
      · exact absurd hn (by omega)
      · refine lv_aload_n hx hb d_FM_isPath_19 rfl (lv_at hl 0 rfl) ?_
        refine lv_iload_n hx hb d_FM_isPath_20 rfl (lv_at hl 2 rfl) ?_
        refine hp_cald S hK hM 0 f_t rfl j rfl (by omega) (by omega) d_FM_isPath_21 ?_
        refine lv_bipush (v := nI 47) hx hb d_FM_isPath_22 rfl ?_
        refine nb_ne (tgt := 42) hx hb d_FM_isPath_24 (by decide) (Nat.lt_trans (hc_x _) (by decide)) (by omega) (fun h47 => ?_) (fun h47 => ?_)
        · refine lv_iinc (v := nI (j + 1)) (lv' := [(2, .int (nI (j + 1))), (0, .ref t), (1, .int (nI st))]) hx hb d_FM_isPath_42 hl (k := 2) rfl (nI_add j 1) (by decide) rfl (fun ls hl => ?_)
          refine lv_goto (tgt := 13) hx hb d_FM_isPath_45 (by decide) ?_
          exact ih (ls := ls) (hl := lv_sub hl [1, 2, 0] rfl) (j := j + 1) (hn := by omega) (st := st) (hsj := by omega) (hst := hst) (hno := lt_b hno h47) (hpc := fun a b hb z => hpc a b hb (by rcases Nat.lt_or_eq_of_le (Nat.le_of_lt_succ z) with q | q; exact q; exact absurd (by rw [q] at hb; exact hb.2.2.2.1.elim (fun q => by omega) id) h47)) (H := H) (locs := locs) (hM := hM) (hS := hS)
        · refine lv_aload_n hx hb d_FM_isPath_27 rfl (lv_at hl 0 rfl) ?_
          refine lv_iload_n hx hb d_FM_isPath_28 rfl (lv_at hl 1 rfl) ?_
          refine lv_iload_n hx hb d_FM_isPath_29 rfl (lv_at hl 2 rfl) ?_
          refine hp_calli (go_S S hZ hK hM hS hA hz (c_FM_isPiece l D ct Z hZ _ _ t x hL hc_x f_t (st) (j) (by omega) (by omega)) mc_FM_isPiece mz_FM ml_FM_33 ms_FM_isPiece hd_FM_isPiece rfl ⟨by decide, by decide⟩ hl.1 rfl (Nat.le_of_ble_eq_true rfl) d_FM_isPath_30 ⟨by decide, by decide⟩) hM hS hA (fun r5 N6 H locs hr5 hM hS => ?_)
          rw [hr5.1] at hM
          replace hr5 := hr5.2
          refine nt_ne (tgt := 38) hx hb d_FM_isPath_33 (by decide) hr5 (fun hp1 => ?_) (fun hp1 => ?_)
          · refine lv_iload_n hx hb d_FM_isPath_38 rfl (lv_at hl 2 rfl) ?_
            refine lv_iconst (v := nI 1) hx hb d_FM_isPath_39 rfl ?_
            refine nb_iadd hx hb d_FM_isPath_40 ?_
            refine lv_istore_n (lv' := [(1, .int (nI (j + 1))), (0, .ref t), (2, .int (nI j))]) hx hb d_FM_isPath_41 rfl hl (by decide) rfl (fun ls hl => ?_)
            refine lv_iinc (v := nI (j + 1)) (lv' := [(2, .int (nI (j + 1))), (1, .int (nI (j + 1))), (0, .ref t)]) hx hb d_FM_isPath_42 hl (k := 2) rfl (nI_add j 1) (by decide) rfl (fun ls hl => ?_)
            refine lv_goto (tgt := 13) hx hb d_FM_isPath_45 (by decide) ?_
            exact ih (ls := ls) (hl := lv_sub hl [2, 1, 0] rfl) (j := j + 1) (hn := by omega) (st := j + 1) (hsj := Nat.le_refl _) (hst := Or.inr h47) (hno := fun i h1 h2 => by omega) (hpc := fun a b hb z => (Nat.lt_or_eq_of_le (Nat.le_of_lt_succ z)).elim (hpc a b hb) (fun q => by subst q; rw [isBnd_one hb hsj hst hno]; exact hp1)) (H := H) (locs := locs) (hM := hM) (hS := hS)
          · refine lv_iconst (v := nI 0) hx hb d_FM_isPath_36 rfl ?_
            exact hp_iret S hret hlk (rfl) hM hS (⟨rfl, bo_f (fun q => hp1 (q.2 st j ⟨hsj, by omega, hst, Or.inr h47, hno⟩))⟩) d_FM_isPath_37
  · refine lv_iconst (v := nI 0) hx hb d_FM_isPath_7 rfl ?_
    exact hp_iret S hret hlk (rfl) hM hS (⟨rfl, bo_f (fun q => by have := q.1; omega)⟩) d_FM_isPath_8
set_option maxHeartbeats 4000000 in
set_option maxRecDepth 100000 in
/-- a NAME, =, and what it is -/
theorem c_FM_isNameAndValue (l : Launch) (D : va_G) (ct : Nat → ClassId) (Z : hp_Z) (hZ : hp_Zok Z) (M : hp_M) (sz : Nat) (t : Nat) (x : List Nat) (hL : x.length ≤ 64) (hc_x : ∀ i, x.getD i 0 < 65536) (f_t : M t = some (.inl (ct 0, x.length, .inl (tx x)))) : Mi l y_FM_isNameAndValue b_FM_isNameAndValue 2 (some .boolean) 2 42 0 0 [.ref t] D ct Z M sz (fun r M1 => M1 = M ∧ bo r (isNv x)) := by
  refine hp_start (by decide) (Nat.le_of_ble_eq_true rfl) (fun p e s m below meth c ls S hret hlk hnm hsz hK hM hS hA hz hl => ?_)
  have hx := S.1
  have hb := S.2.1
  have hl : lv_has ls 2 [(0, .ref t)] := hl
  refine lv_aload_n hx hb d_FM_isNameAndValue_0 rfl (lv_at hl 0 rfl) ?_
  refine hp_calli (go_S S hZ hK hM hS hA hz (c_FM_nameLength l D ct Z hZ _ _ t x hL hc_x f_t) mc_FM_nameLength mz_FM ml_FM_18 ms_FM_nameLength hd_FM_nameLength rfl ⟨by decide, by decide⟩ hl.1 rfl (Nat.le_of_ble_eq_true rfl) d_FM_isNameAndValue_1 ⟨by decide, by decide⟩) hM hS hA (fun r1 N2 H locs hr1 hM hS => ?_)
  rw [hr1.1] at hM
  replace hr1 := hr1.2
  obtain ⟨n, er1, hq⟩ := hr1
  subst er1
  have hq1 := hq.1
  refine lv_istore_n (lv' := [(1, .int (nI n)), (0, .ref t)]) hx hb d_FM_isNameAndValue_4 rfl hl (by decide) rfl (fun ls hl => ?_)
  refine lv_iload_n hx hb d_FM_isNameAndValue_5 rfl (lv_at hl 0 rfl) ?_
  refine lv_aload_n hx hb d_FM_isNameAndValue_6 rfl (lv_at hl 1 rfl) ?_
  refine hp_alen S hK hM 0 f_t rfl d_FM_isNameAndValue_7 ?_
  refine nb_ge (tgt := 34) hx hb d_FM_isNameAndValue_8 (by decide) (by omega) (by omega) (fun ha => ?_) (fun ha => ?_)
  · refine lv_iconst (v := nI 0) hx hb d_FM_isNameAndValue_34 rfl ?_
    exact hp_iret S hret hlk (rfl) hM hS (⟨rfl, bo_f (fun q => by obtain ⟨n2, q1, q2, q3, q4⟩ := q; have e9 := isEqs_one q1 hq; subst e9; first | omega | exact hb1 q3)⟩) d_FM_isNameAndValue_35
  · refine lv_aload_n hx hb d_FM_isNameAndValue_11 rfl (lv_at hl 1 rfl) ?_
    refine lv_iload_n hx hb d_FM_isNameAndValue_12 rfl (lv_at hl 0 rfl) ?_
    refine hp_calli (go_S S hZ hK hM hS hA hz (c_FM_isName l D ct Z hZ _ _ t x hL hc_x f_t n (by omega)) mc_FM_isName mz_FM ml_FM_29 ms_FM_isName hd_FM_isName rfl ⟨by decide, by decide⟩ hl.1 rfl (Nat.le_of_ble_eq_true rfl) d_FM_isNameAndValue_13 ⟨by decide, by decide⟩) hM hS hA (fun r3 N4 H locs hr3 hM hS => ?_)
    rw [hr3.1] at hM
    replace hr3 := hr3.2
    refine nt_eq (tgt := 34) hx hb d_FM_isNameAndValue_16 (by decide) hr3 (fun hb1 => ?_) (fun hb1 => ?_)
    · refine lv_iconst (v := nI 0) hx hb d_FM_isNameAndValue_34 rfl ?_
      exact hp_iret S hret hlk (rfl) hM hS (⟨rfl, bo_f (fun q => by obtain ⟨n2, q1, q2, q3, q4⟩ := q; have e9 := isEqs_one q1 hq; subst e9; first | omega | exact hb1 q3)⟩) d_FM_isNameAndValue_35
    · refine lv_aload_n hx hb d_FM_isNameAndValue_19 rfl (lv_at hl 1 rfl) ?_
      refine hp_alen S hK hM 0 f_t rfl d_FM_isNameAndValue_20 ?_
      refine lv_iload_n hx hb d_FM_isNameAndValue_21 rfl (lv_at hl 0 rfl) ?_
      refine nb_isub hx hb d_FM_isNameAndValue_22 (by omega) ?_
      refine lv_iconst (v := nI 1) hx hb d_FM_isNameAndValue_23 rfl ?_
      refine nb_isub hx hb d_FM_isNameAndValue_24 (by omega) ?_
      refine lv_bipush (v := nI 40) hx hb d_FM_isNameAndValue_25 rfl ?_
      refine nb_gt (tgt := 34) hx hb d_FM_isNameAndValue_27 (by decide) (by omega) (by omega) (fun hc1 => ?_) (fun hc1 => ?_)
      · refine lv_iconst (v := nI 0) hx hb d_FM_isNameAndValue_34 rfl ?_
        exact hp_iret S hret hlk (rfl) hM hS (⟨rfl, bo_f (fun q => by obtain ⟨n2, q1, q2, q3, q4⟩ := q; have e9 := isEqs_one q1 hq; subst e9; first | omega | exact hb1 q3)⟩) d_FM_isNameAndValue_35
      · refine lv_iconst (v := nI 1) hx hb d_FM_isNameAndValue_30 rfl ?_
        refine lv_goto (tgt := 35) hx hb d_FM_isNameAndValue_31 (by decide) ?_
        exact hp_iret S hret hlk (rfl) hM hS (⟨rfl, bo_t ⟨n, hq, by omega, hb1, by omega⟩⟩) d_FM_isNameAndValue_35
theorem kfit1 {x : List Nat} : fitK x (nI 1) → isPth x := fun h => h.elim (fun q => absurd q (nI_neq (by decide) (by decide) (by decide))) (fun h => h.elim (fun q => q.2) (fun q => (q.1.elim (fun z => absurd z (nI_neq (by decide) (by decide) (by decide))) (fun z => z.elim (fun z => absurd z (nI_neq (by decide) (by decide) (by decide))) (fun z => absurd z (nI_neq (by decide) (by decide) (by decide)))))))
theorem kfit3 {x : List Nat} : fitK x (nI 3) → isPth x := fun h => h.elim (fun q => absurd q (nI_neq (by decide) (by decide) (by decide))) (fun h => h.elim (fun q => q.2) (fun q => (q.1.elim (fun z => absurd z (nI_neq (by decide) (by decide) (by decide))) (fun z => z.elim (fun z => absurd z (nI_neq (by decide) (by decide) (by decide))) (fun z => absurd z (nI_neq (by decide) (by decide) (by decide)))))))
theorem kfit5 {x : List Nat} : fitK x (nI 5) → isPth x := fun h => h.elim (fun q => absurd q (nI_neq (by decide) (by decide) (by decide))) (fun h => h.elim (fun q => q.2) (fun q => (q.1.elim (fun z => absurd z (nI_neq (by decide) (by decide) (by decide))) (fun z => z.elim (fun z => absurd z (nI_neq (by decide) (by decide) (by decide))) (fun z => absurd z (nI_neq (by decide) (by decide) (by decide)))))))
theorem kfit2 {x : List Nat} : fitK x (nI 2) → isNv x := fun h => h.elim (fun q => absurd q (nI_neq (by decide) (by decide) (by decide))) (fun h => h.elim (fun q => (q.1.elim (fun z => absurd z (nI_neq (by decide) (by decide) (by decide))) (fun z => z.elim (fun z => absurd z (nI_neq (by decide) (by decide) (by decide))) (fun z => absurd z (nI_neq (by decide) (by decide) (by decide)))))) (fun q => q.2))
theorem kfit4 {x : List Nat} : fitK x (nI 4) → isNv x := fun h => h.elim (fun q => absurd q (nI_neq (by decide) (by decide) (by decide))) (fun h => h.elim (fun q => (q.1.elim (fun z => absurd z (nI_neq (by decide) (by decide) (by decide))) (fun z => z.elim (fun z => absurd z (nI_neq (by decide) (by decide) (by decide))) (fun z => absurd z (nI_neq (by decide) (by decide) (by decide)))))) (fun q => q.2))
theorem kfit6 {x : List Nat} : fitK x (nI 6) → isNv x := fun h => h.elim (fun q => absurd q (nI_neq (by decide) (by decide) (by decide))) (fun h => h.elim (fun q => (q.1.elim (fun z => absurd z (nI_neq (by decide) (by decide) (by decide))) (fun z => z.elim (fun z => absurd z (nI_neq (by decide) (by decide) (by decide))) (fun z => absurd z (nI_neq (by decide) (by decide) (by decide)))))) (fun q => q.2))
theorem knoo {k : Int32} (h : k.toInt < 0 ∨ ((6 : Nat) : Int) < k.toInt) : ¬ kP k ∧ ¬ kN k := by
  have key : ∀ j : Nat, j ≤ 6 → k ≠ nI j := fun j hj q => by
    rw [q, nI_toInt (by omega)] at h
    omega
  exact ⟨fun q => q.elim (key 1 (by decide)) (fun q => q.elim (key 3 (by decide)) (key 5 (by decide))), fun q => q.elim (key 2 (by decide)) (fun q => q.elim (key 4 (by decide)) (key 6 (by decide)))⟩
theorem kout {x : List Nat} {k : Int32} (h : k.toInt < 0 ∨ ((6 : Nat) : Int) < k.toInt) : ¬ fitK x k := fun q => q.elim (fun q => by rw [q, nI_toInt (by decide)] at h; omega) (fun q => q.elim (fun q => (knoo h).1 q.1) (fun q => (knoo h).2 q.1))
theorem kno0 : ¬ kP (nI 0) ∧ ¬ kN (nI 0) := ⟨fun q => q.elim (nI_neq (by decide) (by decide) (by decide)) (fun q => q.elim (nI_neq (by decide) (by decide) (by decide)) (nI_neq (by decide) (by decide) (by decide))), fun q => q.elim (nI_neq (by decide) (by decide) (by decide)) (fun q => q.elim (nI_neq (by decide) (by decide) (by decide)) (nI_neq (by decide) (by decide) (by decide)))⟩
set_option maxHeartbeats 4000000 in
set_option maxRecDepth 100000 in
/-- a text is one of a KIND -/
theorem c_FM_fits (l : Launch) (D : va_G) (ct : Nat → ClassId) (Z : hp_Z) (hZ : hp_Zok Z) (M : hp_M) (sz : Nat) (t : Nat) (x : List Nat) (hL : x.length ≤ 64) (hc_x : ∀ i, x.getD i 0 < 65536) (f_t : M t = some (.inl (ct 0, x.length, .inl (tx x)))) (k : Int32) : Mi l y_FM_fits b_FM_fits 2 (some .boolean) 3 67 0 0 [.ref t, .int k] D ct Z M sz (fun r M1 => M1 = M ∧ bo r (fitK x k)) := by
  refine hp_start (by decide) (Nat.le_of_ble_eq_true rfl) (fun p e s m below meth c ls S hret hlk hnm hsz hK hM hS hA hz hl => ?_)
  have hx := S.1
  have hb := S.2.1
  have hl : lv_has ls 2 [(0, .ref t), (1, .int k)] := hl
  rcases sw_in k 6 (by decide) with ⟨j, hj, ej⟩ | hout
  · rcases (show j = 0 ∨ j = 1 ∨ j = 2 ∨ j = 3 ∨ j = 4 ∨ j = 5 ∨ j = 6 by omega) with h | h | h | h | h | h | h <;> subst h <;> subst ej
    · refine lv_iload_n hx hb d_FM_fits_0 rfl (lv_at hl 1 rfl) ?_
      refine lv_tableIn (tgt := 44) hx hb d_FM_fits_1 (by decide) (by decide) rfl (by decide) ?_
      refine lv_iconst (v := nI 1) hx hb d_FM_fits_44 rfl ?_
      exact hp_iret S hret hlk (rfl) hM hS ⟨rfl, bo_t (Or.inl rfl)⟩ d_FM_fits_45
    · refine lv_iload_n hx hb d_FM_fits_0 rfl (lv_at hl 1 rfl) ?_
      refine lv_tableIn (tgt := 46) hx hb d_FM_fits_1 (by decide) (by decide) rfl (by decide) ?_
      refine lv_aload_n hx hb d_FM_fits_46 rfl (lv_at hl 0 rfl) ?_
      refine hp_calli (go_S S hZ hK hM hS hA hz (c_FM_isPath l D ct Z hZ _ _ t x hL hc_x f_t) mc_FM_isPath mz_FM ml_FM_9 ms_FM_isPath hd_FM_isPath rfl ⟨by decide, by decide⟩ hl.1 rfl (Nat.le_of_ble_eq_true rfl) d_FM_fits_47 ⟨by decide, by decide⟩) hM hS hA (fun r1 N2 H locs hr1 hM hS => ?_)
      rw [hr1.1] at hM
      replace hr1 := hr1.2
      exact hp_iret S hret hlk (bo_nar hr1) hM hS ⟨rfl, bo_iff hr1 ⟨fun q => Or.inr (Or.inl ⟨Or.inl rfl, q⟩), kfit1⟩⟩ d_FM_fits_50
    · refine lv_iload_n hx hb d_FM_fits_0 rfl (lv_at hl 1 rfl) ?_
      refine lv_tableIn (tgt := 51) hx hb d_FM_fits_1 (by decide) (by decide) rfl (by decide) ?_
      refine lv_aload_n hx hb d_FM_fits_51 rfl (lv_at hl 0 rfl) ?_
      refine hp_calli (go_S S hZ hK hM hS hA hz (c_FM_isNameAndValue l D ct Z hZ _ _ t x hL hc_x f_t) mc_FM_isNameAndValue mz_FM ml_FM_15 ms_FM_isNameAndValue hd_FM_isNameAndValue rfl ⟨by decide, by decide⟩ hl.1 rfl (Nat.le_of_ble_eq_true rfl) d_FM_fits_52 ⟨by decide, by decide⟩) hM hS hA (fun r3 N4 H locs hr3 hM hS => ?_)
      rw [hr3.1] at hM
      replace hr3 := hr3.2
      exact hp_iret S hret hlk (bo_nar hr3) hM hS ⟨rfl, bo_iff hr3 ⟨fun q => Or.inr (Or.inr ⟨Or.inl rfl, q⟩), kfit2⟩⟩ d_FM_fits_55
    · refine lv_iload_n hx hb d_FM_fits_0 rfl (lv_at hl 1 rfl) ?_
      refine lv_tableIn (tgt := 46) hx hb d_FM_fits_1 (by decide) (by decide) rfl (by decide) ?_
      refine lv_aload_n hx hb d_FM_fits_46 rfl (lv_at hl 0 rfl) ?_
      refine hp_calli (go_S S hZ hK hM hS hA hz (c_FM_isPath l D ct Z hZ _ _ t x hL hc_x f_t) mc_FM_isPath mz_FM ml_FM_9 ms_FM_isPath hd_FM_isPath rfl ⟨by decide, by decide⟩ hl.1 rfl (Nat.le_of_ble_eq_true rfl) d_FM_fits_47 ⟨by decide, by decide⟩) hM hS hA (fun r5 N6 H locs hr5 hM hS => ?_)
      rw [hr5.1] at hM
      replace hr5 := hr5.2
      exact hp_iret S hret hlk (bo_nar hr5) hM hS ⟨rfl, bo_iff hr5 ⟨fun q => Or.inr (Or.inl ⟨Or.inr (Or.inl rfl), q⟩), kfit3⟩⟩ d_FM_fits_50
    · refine lv_iload_n hx hb d_FM_fits_0 rfl (lv_at hl 1 rfl) ?_
      refine lv_tableIn (tgt := 51) hx hb d_FM_fits_1 (by decide) (by decide) rfl (by decide) ?_
      refine lv_aload_n hx hb d_FM_fits_51 rfl (lv_at hl 0 rfl) ?_
      refine hp_calli (go_S S hZ hK hM hS hA hz (c_FM_isNameAndValue l D ct Z hZ _ _ t x hL hc_x f_t) mc_FM_isNameAndValue mz_FM ml_FM_15 ms_FM_isNameAndValue hd_FM_isNameAndValue rfl ⟨by decide, by decide⟩ hl.1 rfl (Nat.le_of_ble_eq_true rfl) d_FM_fits_52 ⟨by decide, by decide⟩) hM hS hA (fun r7 N8 H locs hr7 hM hS => ?_)
      rw [hr7.1] at hM
      replace hr7 := hr7.2
      exact hp_iret S hret hlk (bo_nar hr7) hM hS ⟨rfl, bo_iff hr7 ⟨fun q => Or.inr (Or.inr ⟨Or.inr (Or.inl rfl), q⟩), kfit4⟩⟩ d_FM_fits_55
    · refine lv_iload_n hx hb d_FM_fits_0 rfl (lv_at hl 1 rfl) ?_
      refine lv_tableIn (tgt := 46) hx hb d_FM_fits_1 (by decide) (by decide) rfl (by decide) ?_
      refine lv_aload_n hx hb d_FM_fits_46 rfl (lv_at hl 0 rfl) ?_
      refine hp_calli (go_S S hZ hK hM hS hA hz (c_FM_isPath l D ct Z hZ _ _ t x hL hc_x f_t) mc_FM_isPath mz_FM ml_FM_9 ms_FM_isPath hd_FM_isPath rfl ⟨by decide, by decide⟩ hl.1 rfl (Nat.le_of_ble_eq_true rfl) d_FM_fits_47 ⟨by decide, by decide⟩) hM hS hA (fun r9 N10 H locs hr9 hM hS => ?_)
      rw [hr9.1] at hM
      replace hr9 := hr9.2
      exact hp_iret S hret hlk (bo_nar hr9) hM hS ⟨rfl, bo_iff hr9 ⟨fun q => Or.inr (Or.inl ⟨Or.inr (Or.inr rfl), q⟩), kfit5⟩⟩ d_FM_fits_50
    · refine lv_iload_n hx hb d_FM_fits_0 rfl (lv_at hl 1 rfl) ?_
      refine lv_tableIn (tgt := 51) hx hb d_FM_fits_1 (by decide) (by decide) rfl (by decide) ?_
      refine lv_aload_n hx hb d_FM_fits_51 rfl (lv_at hl 0 rfl) ?_
      refine hp_calli (go_S S hZ hK hM hS hA hz (c_FM_isNameAndValue l D ct Z hZ _ _ t x hL hc_x f_t) mc_FM_isNameAndValue mz_FM ml_FM_15 ms_FM_isNameAndValue hd_FM_isNameAndValue rfl ⟨by decide, by decide⟩ hl.1 rfl (Nat.le_of_ble_eq_true rfl) d_FM_fits_52 ⟨by decide, by decide⟩) hM hS hA (fun r11 N12 H locs hr11 hM hS => ?_)
      rw [hr11.1] at hM
      replace hr11 := hr11.2
      exact hp_iret S hret hlk (bo_nar hr11) hM hS ⟨rfl, bo_iff hr11 ⟨fun q => Or.inr (Or.inr ⟨Or.inr (Or.inr rfl), q⟩), kfit6⟩⟩ d_FM_fits_55
  · refine lv_iload_n hx hb d_FM_fits_0 rfl (lv_at hl 1 rfl) ?_
    refine lv_tableOut (tgt := 56) hx hb d_FM_fits_1 (by omega) (by decide) ?_
    refine lv_iconst (v := nI 0) hx hb d_FM_fits_56 rfl ?_
    exact hp_iret S hret hlk (rfl) hM hS ⟨rfl, bo_f (kout hout)⟩ d_FM_fits_57
set_option maxHeartbeats 4000000 in
set_option maxRecDepth 100000 in
/-- how long a PATH or NAME is -/
theorem c_FM_keyLength (l : Launch) (D : va_G) (ct : Nat → ClassId) (Z : hp_Z) (hZ : hp_Zok Z) (M : hp_M) (sz : Nat) (t : Nat) (x : List Nat) (hL : x.length ≤ 64) (hc_x : ∀ i, x.getD i 0 < 65536) (f_t : M t = some (.inl (ct 0, x.length, .inl (tx x)))) (k : Int32) : Mi l y_FM_keyLength b_FM_keyLength 2 (some .int) 1 21 0 0 [.ref t, .int k] D ct Z M sz (fun r M1 => M1 = M ∧ ∃ n : Nat, r = nI n ∧ isKl x k n) := by
  refine hp_start (by decide) (Nat.le_of_ble_eq_true rfl) (fun p e s m below meth c ls S hret hlk hnm hsz hK hM hS hA hz hl => ?_)
  have hx := S.1
  have hb := S.2.1
  have hl : lv_has ls 2 [(0, .ref t), (1, .int k)] := hl
  rcases sw_in k 6 (by decide) with ⟨j, hj, ej⟩ | hout
  · rcases (show j = 0 ∨ j = 1 ∨ j = 2 ∨ j = 3 ∨ j = 4 ∨ j = 5 ∨ j = 6 by omega) with h | h | h | h | h | h | h <;> subst h <;> subst ej
    · refine lv_iload_n hx hb d_FM_keyLength_0 rfl (lv_at hl 1 rfl) ?_
      refine lv_tableOut (tgt := 48) hx hb d_FM_keyLength_1 (by decide) (by decide) ?_
      refine lv_iconst (v := nI 0) hx hb d_FM_keyLength_48 rfl ?_
      exact hp_iret S hret hlk rfl hM hS ⟨rfl, ⟨0, rfl, Or.inr (Or.inr ⟨kno0.1, kno0.2, rfl⟩)⟩⟩ d_FM_keyLength_49
    · refine lv_iload_n hx hb d_FM_keyLength_0 rfl (lv_at hl 1 rfl) ?_
      refine lv_tableIn (tgt := 40) hx hb d_FM_keyLength_1 (by decide) (by decide) rfl (by decide) ?_
      refine lv_aload_n hx hb d_FM_keyLength_40 rfl (lv_at hl 0 rfl) ?_
      refine hp_alen S hK hM 0 f_t rfl d_FM_keyLength_41 ?_
      exact hp_iret S hret hlk rfl hM hS ⟨rfl, ⟨_, rfl, Or.inl ⟨Or.inl rfl, rfl⟩⟩⟩ d_FM_keyLength_42
    · refine lv_iload_n hx hb d_FM_keyLength_0 rfl (lv_at hl 1 rfl) ?_
      refine lv_tableIn (tgt := 43) hx hb d_FM_keyLength_1 (by decide) (by decide) rfl (by decide) ?_
      refine lv_aload_n hx hb d_FM_keyLength_43 rfl (lv_at hl 0 rfl) ?_
      refine hp_calli (go_S S hZ hK hM hS hA hz (c_FM_nameLength l D ct Z hZ _ _ t x hL hc_x f_t) mc_FM_nameLength mz_FM ml_FM_18 ms_FM_nameLength hd_FM_nameLength rfl ⟨by decide, by decide⟩ hl.1 rfl (Nat.le_of_ble_eq_true rfl) d_FM_keyLength_44 ⟨by decide, by decide⟩) hM hS hA (fun r1 N2 H locs hr1 hM hS => ?_)
      rw [hr1.1] at hM
      replace hr1 := hr1.2
      obtain ⟨n, e9, hq⟩ := hr1
      exact hp_iret S hret hlk rfl hM hS ⟨rfl, ⟨n, e9, Or.inr (Or.inl ⟨Or.inl rfl, hq⟩)⟩⟩ d_FM_keyLength_47
    · refine lv_iload_n hx hb d_FM_keyLength_0 rfl (lv_at hl 1 rfl) ?_
      refine lv_tableIn (tgt := 40) hx hb d_FM_keyLength_1 (by decide) (by decide) rfl (by decide) ?_
      refine lv_aload_n hx hb d_FM_keyLength_40 rfl (lv_at hl 0 rfl) ?_
      refine hp_alen S hK hM 0 f_t rfl d_FM_keyLength_41 ?_
      exact hp_iret S hret hlk rfl hM hS ⟨rfl, ⟨_, rfl, Or.inl ⟨Or.inr (Or.inl rfl), rfl⟩⟩⟩ d_FM_keyLength_42
    · refine lv_iload_n hx hb d_FM_keyLength_0 rfl (lv_at hl 1 rfl) ?_
      refine lv_tableIn (tgt := 43) hx hb d_FM_keyLength_1 (by decide) (by decide) rfl (by decide) ?_
      refine lv_aload_n hx hb d_FM_keyLength_43 rfl (lv_at hl 0 rfl) ?_
      refine hp_calli (go_S S hZ hK hM hS hA hz (c_FM_nameLength l D ct Z hZ _ _ t x hL hc_x f_t) mc_FM_nameLength mz_FM ml_FM_18 ms_FM_nameLength hd_FM_nameLength rfl ⟨by decide, by decide⟩ hl.1 rfl (Nat.le_of_ble_eq_true rfl) d_FM_keyLength_44 ⟨by decide, by decide⟩) hM hS hA (fun r3 N4 H locs hr3 hM hS => ?_)
      rw [hr3.1] at hM
      replace hr3 := hr3.2
      obtain ⟨n, e9, hq⟩ := hr3
      exact hp_iret S hret hlk rfl hM hS ⟨rfl, ⟨n, e9, Or.inr (Or.inl ⟨Or.inr (Or.inl rfl), hq⟩)⟩⟩ d_FM_keyLength_47
    · refine lv_iload_n hx hb d_FM_keyLength_0 rfl (lv_at hl 1 rfl) ?_
      refine lv_tableIn (tgt := 40) hx hb d_FM_keyLength_1 (by decide) (by decide) rfl (by decide) ?_
      refine lv_aload_n hx hb d_FM_keyLength_40 rfl (lv_at hl 0 rfl) ?_
      refine hp_alen S hK hM 0 f_t rfl d_FM_keyLength_41 ?_
      exact hp_iret S hret hlk rfl hM hS ⟨rfl, ⟨_, rfl, Or.inl ⟨Or.inr (Or.inr rfl), rfl⟩⟩⟩ d_FM_keyLength_42
    · refine lv_iload_n hx hb d_FM_keyLength_0 rfl (lv_at hl 1 rfl) ?_
      refine lv_tableIn (tgt := 43) hx hb d_FM_keyLength_1 (by decide) (by decide) rfl (by decide) ?_
      refine lv_aload_n hx hb d_FM_keyLength_43 rfl (lv_at hl 0 rfl) ?_
      refine hp_calli (go_S S hZ hK hM hS hA hz (c_FM_nameLength l D ct Z hZ _ _ t x hL hc_x f_t) mc_FM_nameLength mz_FM ml_FM_18 ms_FM_nameLength hd_FM_nameLength rfl ⟨by decide, by decide⟩ hl.1 rfl (Nat.le_of_ble_eq_true rfl) d_FM_keyLength_44 ⟨by decide, by decide⟩) hM hS hA (fun r5 N6 H locs hr5 hM hS => ?_)
      rw [hr5.1] at hM
      replace hr5 := hr5.2
      obtain ⟨n, e9, hq⟩ := hr5
      exact hp_iret S hret hlk rfl hM hS ⟨rfl, ⟨n, e9, Or.inr (Or.inl ⟨Or.inr (Or.inr rfl), hq⟩)⟩⟩ d_FM_keyLength_47
  · refine lv_iload_n hx hb d_FM_keyLength_0 rfl (lv_at hl 1 rfl) ?_
    refine lv_tableOut (tgt := 48) hx hb d_FM_keyLength_1 (by omega) (by decide) ?_
    refine lv_iconst (v := nI 0) hx hb d_FM_keyLength_48 rfl ?_
    exact hp_iret S hret hlk rfl hM hS ⟨rfl, ⟨0, rfl, Or.inr (Or.inr ⟨(knoo hout).1, (knoo hout).2, rfl⟩)⟩⟩ d_FM_keyLength_49
