theorem d_MD_isName_0 : decode b_MD_isName 0 = .ok (.iload_n 1, 1) := by decide +kernel
theorem d_MD_isName_1 : decode b_MD_isName 1 = .ok (.ifCond .le 25, 3) := by decide +kernel
theorem d_MD_isName_4 : decode b_MD_isName 4 = .ok (.iload_n 1, 1) := by decide +kernel
theorem d_MD_isName_5 : decode b_MD_isName 5 = .ok (.bipush 16, 2) := by decide +kernel
theorem d_MD_isName_7 : decode b_MD_isName 7 = .ok (.if_icmp .gt 19, 3) := by decide +kernel
theorem d_MD_isName_10 : decode b_MD_isName 10 = .ok (.aload_n 0, 1) := by decide +kernel
theorem d_MD_isName_11 : decode b_MD_isName 11 = .ok (.getfield 85, 3) := by decide +kernel
theorem d_MD_isName_14 : decode b_MD_isName 14 = .ok (.iconst 0, 1) := by decide +kernel
theorem d_MD_isName_15 : decode b_MD_isName 15 = .ok (.iaload, 1) := by decide +kernel
theorem d_MD_isName_16 : decode b_MD_isName 16 = .ok (.invokestatic 147, 3) := by decide +kernel
theorem d_MD_isName_19 : decode b_MD_isName 19 = .ok (.ifCond .eq 7, 3) := by decide +kernel
theorem d_MD_isName_22 : decode b_MD_isName 22 = .ok (.iconst 1, 1) := by decide +kernel
theorem d_MD_isName_23 : decode b_MD_isName 23 = .ok (.goto 4, 3) := by decide +kernel
theorem d_MD_isName_26 : decode b_MD_isName 26 = .ok (.iconst 0, 1) := by decide +kernel
theorem d_MD_isName_27 : decode b_MD_isName 27 = .ok (.istore_n 2, 1) := by decide +kernel
theorem d_MD_isName_28 : decode b_MD_isName 28 = .ok (.iconst 1, 1) := by decide +kernel
theorem d_MD_isName_29 : decode b_MD_isName 29 = .ok (.istore_n 3, 1) := by decide +kernel
theorem d_MD_isName_30 : decode b_MD_isName 30 = .ok (.iload_n 3, 1) := by decide +kernel
theorem d_MD_isName_31 : decode b_MD_isName 31 = .ok (.iload_n 1, 1) := by decide +kernel
theorem d_MD_isName_32 : decode b_MD_isName 32 = .ok (.if_icmp .ge 54, 3) := by decide +kernel
theorem d_MD_isName_35 : decode b_MD_isName 35 = .ok (.iload_n 2, 1) := by decide +kernel
theorem d_MD_isName_36 : decode b_MD_isName 36 = .ok (.ifCond .eq 50, 3) := by decide +kernel
theorem d_MD_isName_39 : decode b_MD_isName 39 = .ok (.aload_n 0, 1) := by decide +kernel
theorem d_MD_isName_40 : decode b_MD_isName 40 = .ok (.getfield 85, 3) := by decide +kernel
theorem d_MD_isName_43 : decode b_MD_isName 43 = .ok (.iload_n 3, 1) := by decide +kernel
theorem d_MD_isName_44 : decode b_MD_isName 44 = .ok (.iaload, 1) := by decide +kernel
theorem d_MD_isName_45 : decode b_MD_isName 45 = .ok (.invokestatic 147, 3) := by decide +kernel
theorem d_MD_isName_48 : decode b_MD_isName 48 = .ok (.ifCond .ne 26, 3) := by decide +kernel
theorem d_MD_isName_51 : decode b_MD_isName 51 = .ok (.aload_n 0, 1) := by decide +kernel
theorem d_MD_isName_52 : decode b_MD_isName 52 = .ok (.getfield 85, 3) := by decide +kernel
theorem d_MD_isName_55 : decode b_MD_isName 55 = .ok (.iload_n 3, 1) := by decide +kernel
theorem d_MD_isName_56 : decode b_MD_isName 56 = .ok (.iaload, 1) := by decide +kernel
theorem d_MD_isName_57 : decode b_MD_isName 57 = .ok (.invokestatic 151, 3) := by decide +kernel
theorem d_MD_isName_60 : decode b_MD_isName 60 = .ok (.ifCond .ne 14, 3) := by decide +kernel
theorem d_MD_isName_63 : decode b_MD_isName 63 = .ok (.aload_n 0, 1) := by decide +kernel
theorem d_MD_isName_64 : decode b_MD_isName 64 = .ok (.getfield 85, 3) := by decide +kernel
theorem d_MD_isName_67 : decode b_MD_isName 67 = .ok (.iload_n 3, 1) := by decide +kernel
theorem d_MD_isName_68 : decode b_MD_isName 68 = .ok (.iaload, 1) := by decide +kernel
theorem d_MD_isName_69 : decode b_MD_isName 69 = .ok (.bipush 95, 2) := by decide +kernel
theorem d_MD_isName_71 : decode b_MD_isName 71 = .ok (.if_icmp .ne 7, 3) := by decide +kernel
theorem d_MD_isName_74 : decode b_MD_isName 74 = .ok (.iconst 1, 1) := by decide +kernel
theorem d_MD_isName_75 : decode b_MD_isName 75 = .ok (.goto 4, 3) := by decide +kernel
theorem d_MD_isName_78 : decode b_MD_isName 78 = .ok (.iconst 0, 1) := by decide +kernel
theorem d_MD_isName_79 : decode b_MD_isName 79 = .ok (.istore_n 2, 1) := by decide +kernel
theorem d_MD_isName_80 : decode b_MD_isName 80 = .ok (.iinc 3 1, 3) := by decide +kernel
theorem d_MD_isName_83 : decode b_MD_isName 83 = .ok (.goto (-53), 3) := by decide +kernel
theorem d_MD_isName_86 : decode b_MD_isName 86 = .ok (.iload_n 2, 1) := by decide +kernel
theorem d_MD_isName_87 : decode b_MD_isName 87 = .ok (.ireturn, 1) := by decide +kernel
theorem d_MD_isPath_0 : decode b_MD_isPath 0 = .ok (.iload_n 1, 1) := by decide +kernel
theorem d_MD_isPath_1 : decode b_MD_isPath 1 = .ok (.iconst 1, 1) := by decide +kernel
theorem d_MD_isPath_2 : decode b_MD_isPath 2 = .ok (.if_icmp .lt 9, 3) := by decide +kernel
theorem d_MD_isPath_5 : decode b_MD_isPath 5 = .ok (.iload_n 1, 1) := by decide +kernel
theorem d_MD_isPath_6 : decode b_MD_isPath 6 = .ok (.bipush 40, 2) := by decide +kernel
theorem d_MD_isPath_8 : decode b_MD_isPath 8 = .ok (.if_icmp .le 5, 3) := by decide +kernel
theorem d_MD_isPath_11 : decode b_MD_isPath 11 = .ok (.iconst 0, 1) := by decide +kernel
theorem d_MD_isPath_12 : decode b_MD_isPath 12 = .ok (.ireturn, 1) := by decide +kernel
theorem d_MD_isPath_13 : decode b_MD_isPath 13 = .ok (.iconst 0, 1) := by decide +kernel
theorem d_MD_isPath_14 : decode b_MD_isPath 14 = .ok (.istore_n 2, 1) := by decide +kernel
theorem d_MD_isPath_15 : decode b_MD_isPath 15 = .ok (.iconst 0, 1) := by decide +kernel
theorem d_MD_isPath_16 : decode b_MD_isPath 16 = .ok (.istore_n 3, 1) := by decide +kernel
theorem d_MD_isPath_17 : decode b_MD_isPath 17 = .ok (.iload_n 3, 1) := by decide +kernel
theorem d_MD_isPath_18 : decode b_MD_isPath 18 = .ok (.iload_n 1, 1) := by decide +kernel
theorem d_MD_isPath_19 : decode b_MD_isPath 19 = .ok (.if_icmp .gt 136, 3) := by decide +kernel
theorem d_MD_isPath_22 : decode b_MD_isPath 22 = .ok (.iload_n 3, 1) := by decide +kernel
theorem d_MD_isPath_23 : decode b_MD_isPath 23 = .ok (.iload_n 1, 1) := by decide +kernel
theorem d_MD_isPath_24 : decode b_MD_isPath 24 = .ok (.if_icmp .ge 73, 3) := by decide +kernel
theorem d_MD_isPath_27 : decode b_MD_isPath 27 = .ok (.aload_n 0, 1) := by decide +kernel
theorem d_MD_isPath_28 : decode b_MD_isPath 28 = .ok (.getfield 85, 3) := by decide +kernel
theorem d_MD_isPath_31 : decode b_MD_isPath 31 = .ok (.iload_n 3, 1) := by decide +kernel
theorem d_MD_isPath_32 : decode b_MD_isPath 32 = .ok (.iaload, 1) := by decide +kernel
theorem d_MD_isPath_33 : decode b_MD_isPath 33 = .ok (.bipush 47, 2) := by decide +kernel
theorem d_MD_isPath_35 : decode b_MD_isPath 35 = .ok (.if_icmp .eq 62, 3) := by decide +kernel
theorem d_MD_isPath_38 : decode b_MD_isPath 38 = .ok (.aload_n 0, 1) := by decide +kernel
theorem d_MD_isPath_39 : decode b_MD_isPath 39 = .ok (.getfield 85, 3) := by decide +kernel
theorem d_MD_isPath_42 : decode b_MD_isPath 42 = .ok (.iload_n 3, 1) := by decide +kernel
theorem d_MD_isPath_43 : decode b_MD_isPath 43 = .ok (.iaload, 1) := by decide +kernel
theorem d_MD_isPath_44 : decode b_MD_isPath 44 = .ok (.invokestatic 147, 3) := by decide +kernel
theorem d_MD_isPath_47 : decode b_MD_isPath 47 = .ok (.ifCond .ne 102, 3) := by decide +kernel
theorem d_MD_isPath_50 : decode b_MD_isPath 50 = .ok (.aload_n 0, 1) := by decide +kernel
theorem d_MD_isPath_51 : decode b_MD_isPath 51 = .ok (.getfield 85, 3) := by decide +kernel
theorem d_MD_isPath_54 : decode b_MD_isPath 54 = .ok (.iload_n 3, 1) := by decide +kernel
theorem d_MD_isPath_55 : decode b_MD_isPath 55 = .ok (.iaload, 1) := by decide +kernel
theorem d_MD_isPath_56 : decode b_MD_isPath 56 = .ok (.invokestatic 151, 3) := by decide +kernel
theorem d_MD_isPath_59 : decode b_MD_isPath 59 = .ok (.ifCond .ne 90, 3) := by decide +kernel
theorem d_MD_isPath_62 : decode b_MD_isPath 62 = .ok (.aload_n 0, 1) := by decide +kernel
theorem d_MD_isPath_63 : decode b_MD_isPath 63 = .ok (.getfield 85, 3) := by decide +kernel
theorem d_MD_isPath_66 : decode b_MD_isPath 66 = .ok (.iload_n 3, 1) := by decide +kernel
theorem d_MD_isPath_67 : decode b_MD_isPath 67 = .ok (.iaload, 1) := by decide +kernel
theorem d_MD_isPath_68 : decode b_MD_isPath 68 = .ok (.bipush 46, 2) := by decide +kernel
theorem d_MD_isPath_70 : decode b_MD_isPath 70 = .ok (.if_icmp .eq 79, 3) := by decide +kernel
theorem d_MD_isPath_73 : decode b_MD_isPath 73 = .ok (.aload_n 0, 1) := by decide +kernel
theorem d_MD_isPath_74 : decode b_MD_isPath 74 = .ok (.getfield 85, 3) := by decide +kernel
theorem d_MD_isPath_77 : decode b_MD_isPath 77 = .ok (.iload_n 3, 1) := by decide +kernel
theorem d_MD_isPath_78 : decode b_MD_isPath 78 = .ok (.iaload, 1) := by decide +kernel
theorem d_MD_isPath_79 : decode b_MD_isPath 79 = .ok (.bipush 95, 2) := by decide +kernel
theorem d_MD_isPath_81 : decode b_MD_isPath 81 = .ok (.if_icmp .eq 68, 3) := by decide +kernel
theorem d_MD_isPath_84 : decode b_MD_isPath 84 = .ok (.aload_n 0, 1) := by decide +kernel
theorem d_MD_isPath_85 : decode b_MD_isPath 85 = .ok (.getfield 85, 3) := by decide +kernel
theorem d_MD_isPath_88 : decode b_MD_isPath 88 = .ok (.iload_n 3, 1) := by decide +kernel
theorem d_MD_isPath_89 : decode b_MD_isPath 89 = .ok (.iaload, 1) := by decide +kernel
theorem d_MD_isPath_90 : decode b_MD_isPath 90 = .ok (.bipush 45, 2) := by decide +kernel
theorem d_MD_isPath_92 : decode b_MD_isPath 92 = .ok (.if_icmp .eq 57, 3) := by decide +kernel
theorem d_MD_isPath_95 : decode b_MD_isPath 95 = .ok (.iconst 0, 1) := by decide +kernel
theorem d_MD_isPath_96 : decode b_MD_isPath 96 = .ok (.ireturn, 1) := by decide +kernel
theorem d_MD_isPath_97 : decode b_MD_isPath 97 = .ok (.iload_n 3, 1) := by decide +kernel
theorem d_MD_isPath_98 : decode b_MD_isPath 98 = .ok (.iload_n 2, 1) := by decide +kernel
theorem d_MD_isPath_99 : decode b_MD_isPath 99 = .ok (.isub, 1) := by decide +kernel
theorem d_MD_isPath_100 : decode b_MD_isPath 100 = .ok (.istore 4, 2) := by decide +kernel
theorem d_MD_isPath_102 : decode b_MD_isPath 102 = .ok (.iload 4, 2) := by decide +kernel
theorem d_MD_isPath_104 : decode b_MD_isPath 104 = .ok (.ifCond .eq 39, 3) := by decide +kernel
theorem d_MD_isPath_107 : decode b_MD_isPath 107 = .ok (.aload_n 0, 1) := by decide +kernel
theorem d_MD_isPath_108 : decode b_MD_isPath 108 = .ok (.getfield 85, 3) := by decide +kernel
theorem d_MD_isPath_111 : decode b_MD_isPath 111 = .ok (.iload_n 2, 1) := by decide +kernel
theorem d_MD_isPath_112 : decode b_MD_isPath 112 = .ok (.iaload, 1) := by decide +kernel
theorem d_MD_isPath_113 : decode b_MD_isPath 113 = .ok (.bipush 46, 2) := by decide +kernel
theorem d_MD_isPath_115 : decode b_MD_isPath 115 = .ok (.if_icmp .ne 30, 3) := by decide +kernel
theorem d_MD_isPath_118 : decode b_MD_isPath 118 = .ok (.iload 4, 2) := by decide +kernel
theorem d_MD_isPath_120 : decode b_MD_isPath 120 = .ok (.iconst 1, 1) := by decide +kernel
theorem d_MD_isPath_121 : decode b_MD_isPath 121 = .ok (.if_icmp .eq 22, 3) := by decide +kernel
theorem d_MD_isPath_124 : decode b_MD_isPath 124 = .ok (.iload 4, 2) := by decide +kernel
theorem d_MD_isPath_126 : decode b_MD_isPath 126 = .ok (.iconst 2, 1) := by decide +kernel
theorem d_MD_isPath_127 : decode b_MD_isPath 127 = .ok (.if_icmp .ne 18, 3) := by decide +kernel
theorem d_MD_isPath_130 : decode b_MD_isPath 130 = .ok (.aload_n 0, 1) := by decide +kernel
theorem d_MD_isPath_131 : decode b_MD_isPath 131 = .ok (.getfield 85, 3) := by decide +kernel
theorem d_MD_isPath_134 : decode b_MD_isPath 134 = .ok (.iload_n 2, 1) := by decide +kernel
theorem d_MD_isPath_135 : decode b_MD_isPath 135 = .ok (.iconst 1, 1) := by decide +kernel
theorem d_MD_isPath_136 : decode b_MD_isPath 136 = .ok (.iadd, 1) := by decide +kernel
theorem d_MD_isPath_137 : decode b_MD_isPath 137 = .ok (.iaload, 1) := by decide +kernel
theorem d_MD_isPath_138 : decode b_MD_isPath 138 = .ok (.bipush 46, 2) := by decide +kernel
theorem d_MD_isPath_140 : decode b_MD_isPath 140 = .ok (.if_icmp .ne 5, 3) := by decide +kernel
theorem d_MD_isPath_143 : decode b_MD_isPath 143 = .ok (.iconst 0, 1) := by decide +kernel
theorem d_MD_isPath_144 : decode b_MD_isPath 144 = .ok (.ireturn, 1) := by decide +kernel
theorem d_MD_isPath_145 : decode b_MD_isPath 145 = .ok (.iload_n 3, 1) := by decide +kernel
theorem d_MD_isPath_146 : decode b_MD_isPath 146 = .ok (.iconst 1, 1) := by decide +kernel
theorem d_MD_isPath_147 : decode b_MD_isPath 147 = .ok (.iadd, 1) := by decide +kernel
theorem d_MD_isPath_148 : decode b_MD_isPath 148 = .ok (.istore_n 2, 1) := by decide +kernel
theorem d_MD_isPath_149 : decode b_MD_isPath 149 = .ok (.iinc 3 1, 3) := by decide +kernel
theorem d_MD_isPath_152 : decode b_MD_isPath 152 = .ok (.goto (-135), 3) := by decide +kernel
theorem d_MD_isPath_155 : decode b_MD_isPath 155 = .ok (.iconst 1, 1) := by decide +kernel
theorem d_MD_isPath_156 : decode b_MD_isPath 156 = .ok (.ireturn, 1) := by decide +kernel
theorem d_MD_keyOf_0 : decode b_MD_keyOf 0 = .ok (.iload_n 1, 1) := by decide +kernel
theorem d_MD_keyOf_1 : decode b_MD_keyOf 1 = .ok (.ifCond .ne 5, 3) := by decide +kernel
theorem d_MD_keyOf_4 : decode b_MD_keyOf 4 = .ok (.iconst 0, 1) := by decide +kernel
theorem d_MD_keyOf_5 : decode b_MD_keyOf 5 = .ok (.ireturn, 1) := by decide +kernel
theorem d_MD_keyOf_6 : decode b_MD_keyOf 6 = .ok (.iload_n 1, 1) := by decide +kernel
theorem d_MD_keyOf_7 : decode b_MD_keyOf 7 = .ok (.iconst 2, 1) := by decide +kernel
theorem d_MD_keyOf_8 : decode b_MD_keyOf 8 = .ok (.irem, 1) := by decide +kernel
theorem d_MD_keyOf_9 : decode b_MD_keyOf 9 = .ok (.iconst 1, 1) := by decide +kernel
theorem d_MD_keyOf_10 : decode b_MD_keyOf 10 = .ok (.if_icmp .ne 17, 3) := by decide +kernel
theorem d_MD_keyOf_13 : decode b_MD_keyOf 13 = .ok (.aload_n 0, 1) := by decide +kernel
theorem d_MD_keyOf_14 : decode b_MD_keyOf 14 = .ok (.iload_n 2, 1) := by decide +kernel
theorem d_MD_keyOf_15 : decode b_MD_keyOf 15 = .ok (.invokevirtual 154, 3) := by decide +kernel
theorem d_MD_keyOf_18 : decode b_MD_keyOf 18 = .ok (.ifCond .eq 7, 3) := by decide +kernel
theorem d_MD_keyOf_21 : decode b_MD_keyOf 21 = .ok (.iload_n 2, 1) := by decide +kernel
theorem d_MD_keyOf_22 : decode b_MD_keyOf 22 = .ok (.goto 4, 3) := by decide +kernel
theorem d_MD_keyOf_25 : decode b_MD_keyOf 25 = .ok (.iconst (-1), 1) := by decide +kernel
theorem d_MD_keyOf_26 : decode b_MD_keyOf 26 = .ok (.ireturn, 1) := by decide +kernel
theorem d_MD_keyOf_27 : decode b_MD_keyOf 27 = .ok (.iconst 0, 1) := by decide +kernel
theorem d_MD_keyOf_28 : decode b_MD_keyOf 28 = .ok (.istore_n 3, 1) := by decide +kernel
theorem d_MD_keyOf_29 : decode b_MD_keyOf 29 = .ok (.iload_n 3, 1) := by decide +kernel
theorem d_MD_keyOf_30 : decode b_MD_keyOf 30 = .ok (.iload_n 2, 1) := by decide +kernel
theorem d_MD_keyOf_31 : decode b_MD_keyOf 31 = .ok (.if_icmp .ge 20, 3) := by decide +kernel
theorem d_MD_keyOf_34 : decode b_MD_keyOf 34 = .ok (.aload_n 0, 1) := by decide +kernel
theorem d_MD_keyOf_35 : decode b_MD_keyOf 35 = .ok (.getfield 85, 3) := by decide +kernel
theorem d_MD_keyOf_38 : decode b_MD_keyOf 38 = .ok (.iload_n 3, 1) := by decide +kernel
theorem d_MD_keyOf_39 : decode b_MD_keyOf 39 = .ok (.iaload, 1) := by decide +kernel
theorem d_MD_keyOf_40 : decode b_MD_keyOf 40 = .ok (.bipush 61, 2) := by decide +kernel
theorem d_MD_keyOf_42 : decode b_MD_keyOf 42 = .ok (.if_icmp .eq 9, 3) := by decide +kernel
theorem d_MD_keyOf_45 : decode b_MD_keyOf 45 = .ok (.iinc 3 1, 3) := by decide +kernel
theorem d_MD_keyOf_48 : decode b_MD_keyOf 48 = .ok (.goto (-19), 3) := by decide +kernel
theorem d_MD_keyOf_51 : decode b_MD_keyOf 51 = .ok (.iload_n 3, 1) := by decide +kernel
theorem d_MD_keyOf_52 : decode b_MD_keyOf 52 = .ok (.iload_n 2, 1) := by decide +kernel
theorem d_MD_keyOf_53 : decode b_MD_keyOf 53 = .ok (.if_icmp .ge 25, 3) := by decide +kernel
theorem d_MD_keyOf_56 : decode b_MD_keyOf 56 = .ok (.aload_n 0, 1) := by decide +kernel
theorem d_MD_keyOf_57 : decode b_MD_keyOf 57 = .ok (.iload_n 3, 1) := by decide +kernel
theorem d_MD_keyOf_58 : decode b_MD_keyOf 58 = .ok (.invokevirtual 157, 3) := by decide +kernel
theorem d_MD_keyOf_61 : decode b_MD_keyOf 61 = .ok (.ifCond .eq 17, 3) := by decide +kernel
theorem d_MD_keyOf_64 : decode b_MD_keyOf 64 = .ok (.iload_n 2, 1) := by decide +kernel
theorem d_MD_keyOf_65 : decode b_MD_keyOf 65 = .ok (.iload_n 3, 1) := by decide +kernel
theorem d_MD_keyOf_66 : decode b_MD_keyOf 66 = .ok (.isub, 1) := by decide +kernel
theorem d_MD_keyOf_67 : decode b_MD_keyOf 67 = .ok (.iconst 1, 1) := by decide +kernel
theorem d_MD_keyOf_68 : decode b_MD_keyOf 68 = .ok (.isub, 1) := by decide +kernel
theorem d_MD_keyOf_69 : decode b_MD_keyOf 69 = .ok (.bipush 40, 2) := by decide +kernel
theorem d_MD_keyOf_71 : decode b_MD_keyOf 71 = .ok (.if_icmp .gt 7, 3) := by decide +kernel
theorem d_MD_keyOf_74 : decode b_MD_keyOf 74 = .ok (.iload_n 3, 1) := by decide +kernel
theorem d_MD_keyOf_75 : decode b_MD_keyOf 75 = .ok (.goto 4, 3) := by decide +kernel
theorem d_MD_keyOf_78 : decode b_MD_keyOf 78 = .ok (.iconst (-1), 1) := by decide +kernel
theorem d_MD_keyOf_79 : decode b_MD_keyOf 79 = .ok (.ireturn, 1) := by decide +kernel
def namP (T : List Nat) (n j : Nat) : Prop := 1 ≤ n ∧ n ≤ 16 ∧ isLet (T.getD 0 0) ∧ ∀ i, 1 ≤ i → i < j → isWrd (T.getD i 0)
theorem namP_s {T : List Nat} {n j : Nat} (h : namP T n j) (hj : 1 ≤ j) : isWrd (T.getD j 0) ↔ namP T n (j + 1) := by
  obtain ⟨h1, h2, h3, h4⟩ := h
  constructor
  · intro q
    refine ⟨h1, h2, h3, fun i a b => ?_⟩
    rcases Nat.lt_or_eq_of_le (Nat.le_of_lt_succ b) with z | z
    · exact h4 i a z
    · rw [z]; exact q
  · intro q
    exact q.2.2.2 j hj (Nat.lt_succ_self j)
set_option maxHeartbeats 4000000 in
set_option maxRecDepth 100000 in
/-- the first n characters are a NAME -/
theorem c_MD_isName (l : Launch) (D : va_G) (ct : Nat → ClassId) (Z : hp_Z) (hZ : hp_Zok Z) (M : hp_M) (sz : Nat) (md : Nat) (B : MA) (V : MS) (hw : mdS ct M md B V) (T : List Nat) (hT : T.length ≤ 64) (hte : ∀ i, i < T.length → V.te i = T.getD i 0) (n : Nat) (hnT : n ≤ T.length) : Mi l y_MD_isName b_MD_isName 4 (some .boolean) 1 20 0 0 [.ref md, .int (nI n)] D ct Z M sz (fun r M1 => M1 = M ∧ bo r (isNam T n)) := by
  refine hp_start (by decide) (Nat.le_of_ble_eq_true rfl) (fun p e s m below meth c ls S hret hlk hnm hsz hK hM hS hA hz hl => ?_)
  have hx := S.1
  have hb := S.2.1
  have hl : lv_has ls 4 [(0, .ref md), (1, .int (nI n))] := hl
  obtain ⟨f_md, f_ro, f_te, f_he, f_cn, f_kd, f_sz, f_ky, f_le, f_dg, f_nm, f_ns, f_sl, f_sb, f_su, f_wi, f_tu, hB, hV⟩ := id hw
  obtain ⟨n_kdsz, n_kdky, n_szky, n_hens, n_hesu, n_hetu, n_nssu, n_nstu, n_sutu, n_tewi⟩ := id hB
  obtain ⟨b_te, b_cn, b_kd, b_sz, b_ky, b_le, b_nm, b_ns, b_sl, b_sb, b_co, b_ty, b_ac, b_al, b_sd, b_ss⟩ := id hV
  refine w_join hM hS (P := fun z => bo z (1 ≤ n ∧ n ≤ 16 ∧ isLet (T.getD 0 0))) (pc2 := 27) (rest := []) (fun v1 H locs hM hS hv1 => ?_) (fun hjv1 => ?_)
  · refine lv_istore_n (lv' := [(2, .int v1), (0, .ref md), (1, .int (nI n))]) hx hb d_MD_isName_27 rfl hl (by decide) rfl (fun ls hl => ?_)
    refine lv_iconst (v := nI 1) hx hb d_MD_isName_28 rfl ?_
    refine lv_istore_n (lv' := [(3, .int (nI 1)), (2, .int v1), (0, .ref md), (1, .int (nI n))]) hx hb d_MD_isName_29 rfl hl (by decide) rfl (fun ls hl => ?_)
    replace hl : lv_has ls 4 [(0, .ref md), (1, .int (nI n)), (2, .int v1), (3, .int (nI 1))] := lv_sub hl [2, 3, 1, 0] rfl
    obtain ⟨j, e9j⟩ : ∃ z : Nat, z = 1 := ⟨_, rfl⟩
    obtain ⟨v9, e9v9⟩ : ∃ z : Int32, z = v1 := ⟨_, rfl⟩
    replace hl : lv_has ls 4 [(0, .ref md), (1, .int (nI n)), (2, .int v9), (3, .int (nI j))] := by subst e9j e9v9; exact hl
    have hj1 : 1 ≤ j := by subst e9j e9v9; decide
    have hjn : j ≤ n ∨ j = 1 := by subst e9j e9v9; exact Or.inr rfl
    have hv9 : bo v9 (namP T n j) := by subst e9j e9v9; exact bo_iff hv1 ⟨fun q => ⟨q.1, q.2.1, q.2.2, fun i a b => by omega⟩, fun q => ⟨q.1, q.2.1, q.2.2.1⟩⟩
    obtain ⟨fu, hn⟩ : ∃ fu : Nat, n ≤ j + fu := ⟨n, by omega⟩
    clear e9j e9v9
    induction fu generalizing j v9 H locs ls with
    | zero =>
      refine lv_iload_n hx hb d_MD_isName_30 rfl (lv_at hl 3 rfl) ?_
      refine lv_iload_n hx hb d_MD_isName_31 rfl (lv_at hl 1 rfl) ?_
      refine nb_ge (tgt := 86) hx hb d_MD_isName_32 (by decide) (by omega) (by omega) (fun hjn2 => ?_) (fun hjn2 => ?_)
      · refine lv_iload_n hx hb d_MD_isName_86 rfl (lv_at hl 2 rfl) ?_
        exact hp_iret S hret hlk (bo_nar hv9) hM hS (⟨rfl, bo_iff hv9 ⟨fun q => by first | exact absurd q hP | exact ⟨q.1, q.2.1, hnT, q.2.2.1, fun i a b => q.2.2.2 i a (by omega)⟩, fun q => ⟨q.1, q.2.1, q.2.2.2.1, fun i a b => q.2.2.2.2 i a (by have := q.1; omega)⟩⟩⟩) d_MD_isName_87
      · exact absurd hn (by omega)
    | succ fu ih =>
      refine lv_iload_n hx hb d_MD_isName_30 rfl (lv_at hl 3 rfl) ?_
      refine lv_iload_n hx hb d_MD_isName_31 rfl (lv_at hl 1 rfl) ?_
      refine nb_ge (tgt := 86) hx hb d_MD_isName_32 (by decide) (by omega) (by omega) (fun hjn2 => ?_) (fun hjn2 => ?_)
      · refine lv_iload_n hx hb d_MD_isName_86 rfl (lv_at hl 2 rfl) ?_
        exact hp_iret S hret hlk (bo_nar hv9) hM hS (⟨rfl, bo_iff hv9 ⟨fun q => by first | exact absurd q hP | exact ⟨q.1, q.2.1, hnT, q.2.2.1, fun i a b => q.2.2.2 i a (by omega)⟩, fun q => ⟨q.1, q.2.1, q.2.2.2.1, fun i a b => q.2.2.2.2 i a (by have := q.1; omega)⟩⟩⟩) d_MD_isName_87
      · refine lv_iload_n hx hb d_MD_isName_35 rfl (lv_at hl 2 rfl) ?_
        refine nt_eq (tgt := 86) hx hb d_MD_isName_36 (by decide) hv9 (fun hP => ?_) (fun hP => ?_)
        · refine lv_iload_n hx hb d_MD_isName_86 rfl (lv_at hl 2 rfl) ?_
          exact hp_iret S hret hlk (bo_nar hv9) hM hS (⟨rfl, bo_iff hv9 ⟨fun q => by first | exact absurd q hP | exact ⟨q.1, q.2.1, hnT, q.2.2.1, fun i a b => q.2.2.2 i a (by omega)⟩, fun q => ⟨q.1, q.2.1, q.2.2.2.1, fun i a b => q.2.2.2.2 i a (by have := q.1; omega)⟩⟩⟩) d_MD_isName_87
        · refine w_join hM hS (P := fun z => bo z (isWrd (T.getD j 0))) (pc2 := 79) (rest := []) (fun v2 H locs hM hS hv2 => ?_) (fun hjv2 => ?_)
          · refine lv_istore_n (lv' := [(2, .int v2), (0, .ref md), (1, .int (nI n)), (3, .int (nI j))]) hx hb d_MD_isName_79 rfl hl (by decide) rfl (fun ls hl => ?_)
            refine lv_iinc (v := nI (j + 1)) (lv' := [(3, .int (nI (j + 1))), (2, .int v2), (0, .ref md), (1, .int (nI n))]) hx hb d_MD_isName_80 hl (k := 3) rfl (nI_add j 1) (by decide) rfl (fun ls hl => ?_)
            refine lv_goto (tgt := 30) hx hb d_MD_isName_83 (by decide) ?_
            exact ih (ls := ls) (hl := lv_sub hl [2, 3, 1, 0] rfl) (hn := by omega) (j := j + 1) (v9 := v2) (hj1 := by omega) (hjn := Or.inl (by omega)) (hv9 := bo_iff hv2 (namP_s hP hj1)) (H := H) (locs := locs) (hM := hM) (hS := hS)
          · refine lv_aload_n hx hb d_MD_isName_39 rfl (lv_at hl 0 rfl) ?_
            refine hp_get S hK hM i_MD f_md rfl 2 (by decide) mf_MD_85 (fun _ h9 => h9) rfl d_MD_isName_40 ?_
            refine lv_iload_n hx hb d_MD_isName_43 rfl (lv_at hl 3 rfl) ?_
            refine hp_iald S hK hM 1 f_te rfl j rfl (by omega) (by omega) d_MD_isName_44 ?_
            refine hp_calli (go_S S hZ hK hM hS hA hz (c_MD_isLetter l D ct Z hZ _ _ (V.te j) (b_te _)) mc_MD_isLetter mz_MD ml_MD_147 ms_MD_isLetter hd_MD_isLetter rfl ⟨by decide, by decide⟩ hl.1 rfl (Nat.le_of_ble_eq_true rfl) d_MD_isName_45 ⟨by decide, by decide⟩) hM hS hA (fun r3 N4 H locs hr3 hM hS => ?_)
            rw [hr3.1] at hM
            replace hr3 := hr3.2
            refine nt_ne (tgt := 74) hx hb d_MD_isName_48 (by decide) hr3 (fun ha => ?_) (fun ha => ?_)
            · refine lv_iconst (v := nI 1) hx hb d_MD_isName_74 rfl ?_
              refine lv_goto (tgt := 79) hx hb d_MD_isName_75 (by decide) ?_
              exact hjv2 _ H _ hM hS (bo_t (by rw [← hte j (by omega)]; first | exact Or.inl ha | exact Or.inr (Or.inl hd) | exact Or.inr (Or.inr h95)))
            · refine lv_aload_n hx hb d_MD_isName_51 rfl (lv_at hl 0 rfl) ?_
              refine hp_get S hK hM i_MD f_md rfl 2 (by decide) mf_MD_85 (fun _ h9 => h9) rfl d_MD_isName_52 ?_
              refine lv_iload_n hx hb d_MD_isName_55 rfl (lv_at hl 3 rfl) ?_
              refine hp_iald S hK hM 1 f_te rfl j rfl (by omega) (by omega) d_MD_isName_56 ?_
              refine hp_calli (go_S S hZ hK hM hS hA hz (c_MD_isDigit l D ct Z hZ _ _ (V.te j) (b_te _)) mc_MD_isDigit mz_MD ml_MD_151 ms_MD_isDigit hd_MD_isDigit rfl ⟨by decide, by decide⟩ hl.1 rfl (Nat.le_of_ble_eq_true rfl) d_MD_isName_57 ⟨by decide, by decide⟩) hM hS hA (fun r5 N6 H locs hr5 hM hS => ?_)
              rw [hr5.1] at hM
              replace hr5 := hr5.2
              refine nt_ne (tgt := 74) hx hb d_MD_isName_60 (by decide) hr5 (fun hd => ?_) (fun hd => ?_)
              · refine lv_iconst (v := nI 1) hx hb d_MD_isName_74 rfl ?_
                refine lv_goto (tgt := 79) hx hb d_MD_isName_75 (by decide) ?_
                exact hjv2 _ H _ hM hS (bo_t (by rw [← hte j (by omega)]; first | exact Or.inl ha | exact Or.inr (Or.inl hd) | exact Or.inr (Or.inr h95)))
              · refine lv_aload_n hx hb d_MD_isName_63 rfl (lv_at hl 0 rfl) ?_
                refine hp_get S hK hM i_MD f_md rfl 2 (by decide) mf_MD_85 (fun _ h9 => h9) rfl d_MD_isName_64 ?_
                refine lv_iload_n hx hb d_MD_isName_67 rfl (lv_at hl 3 rfl) ?_
                refine hp_iald S hK hM 1 f_te rfl j rfl (by omega) (by omega) d_MD_isName_68 ?_
                refine lv_bipush (v := nI 95) hx hb d_MD_isName_69 rfl ?_
                refine nb_ne (tgt := 78) hx hb d_MD_isName_71 (by decide) (by have := b_te (j); omega) (by omega) (fun h95 => ?_) (fun h95 => ?_)
                · refine lv_iconst (v := nI 0) hx hb d_MD_isName_78 rfl ?_
                  exact hjv2 _ H _ hM hS (bo_f (fun q => by rw [← hte j (by omega)] at q; exact q.elim ha (fun q => q.elim hd h95)))
                · refine lv_iconst (v := nI 1) hx hb d_MD_isName_74 rfl ?_
                  refine lv_goto (tgt := 79) hx hb d_MD_isName_75 (by decide) ?_
                  exact hjv2 _ H _ hM hS (bo_t (by rw [← hte j (by omega)]; first | exact Or.inl ha | exact Or.inr (Or.inl hd) | exact Or.inr (Or.inr h95)))
  · refine lv_iload_n hx hb d_MD_isName_0 rfl (lv_at hl 1 rfl) ?_
    refine nz_le (tgt := 26) hx hb d_MD_isName_1 (by decide) (by omega) (fun h0 => ?_) (fun h0 => ?_)
    · refine lv_iconst (v := nI 0) hx hb d_MD_isName_26 rfl ?_
      exact hjv1 _ _ _ hM hS (bo_f (fun q => by first | omega | exact hL (by rw [hte 0 (by omega)]; exact q.2.2)))
    · refine lv_iload_n hx hb d_MD_isName_4 rfl (lv_at hl 1 rfl) ?_
      refine lv_bipush (v := nI 16) hx hb d_MD_isName_5 rfl ?_
      refine nb_gt (tgt := 26) hx hb d_MD_isName_7 (by decide) (by omega) (by omega) (fun h16 => ?_) (fun h16 => ?_)
      · refine lv_iconst (v := nI 0) hx hb d_MD_isName_26 rfl ?_
        exact hjv1 _ _ _ hM hS (bo_f (fun q => by first | omega | exact hL (by rw [hte 0 (by omega)]; exact q.2.2)))
      · refine lv_aload_n hx hb d_MD_isName_10 rfl (lv_at hl 0 rfl) ?_
        refine hp_get S hK hM i_MD f_md rfl 2 (by decide) mf_MD_85 (fun _ h9 => h9) rfl d_MD_isName_11 ?_
        refine lv_iconst (v := nI 0) hx hb d_MD_isName_14 rfl ?_
        refine hp_iald S hK hM 1 f_te rfl 0 rfl (by omega) (by omega) d_MD_isName_15 ?_
        refine hp_calli (go_S S hZ hK hM hS hA hz (c_MD_isLetter l D ct Z hZ _ _ (V.te 0) (b_te _)) mc_MD_isLetter mz_MD ml_MD_147 ms_MD_isLetter hd_MD_isLetter rfl ⟨by decide, by decide⟩ hl.1 rfl (Nat.le_of_ble_eq_true rfl) d_MD_isName_16 ⟨by decide, by decide⟩) hM hS hA (fun r7 N8 H locs hr7 hM hS => ?_)
        rw [hr7.1] at hM
        replace hr7 := hr7.2
        refine nt_eq (tgt := 26) hx hb d_MD_isName_19 (by decide) hr7 (fun hL => ?_) (fun hL => ?_)
        · refine lv_iconst (v := nI 0) hx hb d_MD_isName_26 rfl ?_
          exact hjv1 _ H _ hM hS (bo_f (fun q => by first | omega | exact hL (by rw [hte 0 (by omega)]; exact q.2.2)))
        · refine lv_iconst (v := nI 1) hx hb d_MD_isName_22 rfl ?_
          refine lv_goto (tgt := 27) hx hb d_MD_isName_23 (by decide) ?_
          exact hjv1 _ H _ hM hS (bo_t (⟨by omega, by omega, by rw [← hte 0 (by omega)]; exact hL⟩))
/-- a PATH, seen up to k; the stretch that is open begins at bg -/
def pthI (T : List Nat) (bg k : Nat) : Prop := bg ≤ k ∧ k ≤ T.length + 1 ∧ (k ≤ T.length → bg = 0 ∨ T.getD (bg - 1) 0 = 47) ∧ (∀ i, bg ≤ i → i < k → T.getD i 0 ≠ 47 ∧ isDot (T.getD i 0)) ∧ ∀ a b, isBnd T a b → b < k → isPce T a b
theorem pthI_0 {T : List Nat} : pthI T 0 0 := ⟨Nat.le_refl _, Nat.zero_le _, fun _ => Or.inl rfl, fun i _ h => absurd h (Nat.not_lt_zero i), fun a b _ h => absurd h (Nat.not_lt_zero b)⟩
theorem isBnd_ex {T : List Nat} {bg : Nat} (h0 : bg = 0 ∨ T.getD (bg - 1) 0 = 47) : ∀ (n k : Nat), T.length = k + n → bg ≤ k → (∀ i, bg ≤ i → i < k → T.getD i 0 ≠ 47) → ∃ b, k ≤ b ∧ isBnd T bg b
  | 0, k, hn, hk, h => ⟨k, Nat.le_refl _, hk, by omega, h0, Or.inl (by omega), h⟩
  | n + 1, k, hn, hk, h => by
    by_cases z : T.getD k 0 = 47
    · exact ⟨k, Nat.le_refl _, hk, by omega, h0, Or.inr z, h⟩
    · obtain ⟨b, h1, h2⟩ := isBnd_ex h0 n (k + 1) (by omega) (by omega) (fun i a b => by
        rcases Nat.lt_or_eq_of_le (Nat.le_of_lt_succ b) with q | q
        · exact h i a q
        · rw [q]; exact z)
      exact ⟨b, by omega, h2⟩
theorem pthI_c {T : List Nat} {bg k : Nat} (h : pthI T bg k) (hk : k < T.length) (h47 : T.getD k 0 ≠ 47) (hd : isDot (T.getD k 0)) : pthI T bg (k + 1) := by
  obtain ⟨h1, h2, h3, h4, h5⟩ := h
  refine ⟨by omega, by omega, fun _ => h3 (by omega), fun i a b => ?_, fun a b hb z => ?_⟩
  · rcases Nat.lt_or_eq_of_le (Nat.le_of_lt_succ b) with q | q
    · exact h4 i a q
    · rw [q]; exact ⟨h47, hd⟩
  · rcases Nat.lt_or_eq_of_le (Nat.le_of_lt_succ z) with q | q
    · exact h5 a b hb q
    · subst q
      exact absurd (hb.2.2.2.1.elim (fun q => by omega) id) h47
theorem pthI_b {T : List Nat} {bg k : Nat} (h : pthI T bg k) (hk : k ≤ T.length) (he : k = T.length ∨ T.getD k 0 = 47) : isBnd T bg k := ⟨h.1, hk, h.2.2.1 hk, he, fun i a b => (h.2.2.2.1 i a b).1⟩
theorem pthI_s {T : List Nat} {bg k : Nat} (h : pthI T bg k) (hk : k ≤ T.length) (he : k = T.length ∨ T.getD k 0 = 47) (hp : isPce T bg k) : pthI T (k + 1) (k + 1) := by
  have hb := pthI_b h hk he
  obtain ⟨h1, h2, h3, h4, h5⟩ := h
  refine ⟨Nat.le_refl _, by omega, fun z => Or.inr ?_, fun i a b => by omega, fun a b hb2 z => ?_⟩
  · exact he.elim (fun q => by omega) id
  · rcases Nat.lt_or_eq_of_le (Nat.le_of_lt_succ z) with q | q
    · exact h5 a b hb2 q
    · subst q
      rw [isBnd_one hb2 h1 (h3 hk) (fun i a b => (h4 i a b).1)]
      exact hp
theorem pthI_no1 {T : List Nat} {bg k : Nat} (h : pthI T bg k) (hk : k < T.length) (h47 : T.getD k 0 ≠ 47) (hd : ¬ isDot (T.getD k 0)) : ¬ isPth T := fun q => by
  obtain ⟨b, h1, h2⟩ := isBnd_ex (h.2.2.1 (by omega)) (T.length - (k + 1)) (k + 1) (by omega) (by have := h.1; omega) (fun i a b => by
    rcases Nat.lt_or_eq_of_le (Nat.le_of_lt_succ b) with q | q
    · exact (h.2.2.2.1 i a q).1
    · rw [q]; exact h47)
  exact hd ((q.2 bg b h2).1 k h.1 (by omega))
theorem pthI_no2 {T : List Nat} {bg k : Nat} (h : pthI T bg k) (hk : k ≤ T.length) (he : k = T.length ∨ T.getD k 0 = 47) (hp : ¬ isPce T bg k) : ¬ isPth T := fun q => hp (q.2 bg k (pthI_b h hk he))
theorem pthI_end {T : List Nat} {bg k : Nat} (h : pthI T bg k) (hk : T.length < k) (h40 : T.length ≤ 40) : isPth T := ⟨h40, fun a b hb => h.2.2.2.2 a b hb (by have := hb.2.1; omega)⟩
theorem isPth_0 {T : List Nat} (h : T.length < 1) : ¬ isPth T := fun q => by
  have h9 := (q.2 0 0 ⟨Nat.le_refl _, Nat.zero_le _, Or.inl rfl, Or.inl (by omega), fun i a b => by omega⟩).2 (fun i a b => by omega)
  omega
set_option maxHeartbeats 4000000 in
set_option maxRecDepth 100000 in
/-- a PATH -/
theorem c_MD_isPath (l : Launch) (D : va_G) (ct : Nat → ClassId) (Z : hp_Z) (hZ : hp_Zok Z) (M : hp_M) (sz : Nat) (md : Nat) (B : MA) (V : MS) (hw : mdS ct M md B V) (T : List Nat) (hT : T.length ≤ 64) (hte : ∀ i, i < T.length → V.te i = T.getD i 0) : Mi l y_MD_isPath b_MD_isPath 5 (some .boolean) 1 20 0 0 [.ref md, .int (nI (T.length))] D ct Z M sz (fun r M1 => M1 = M ∧ bo r (isPth T)) := by
  refine hp_start (by decide) (Nat.le_of_ble_eq_true rfl) (fun p e s m below meth c ls S hret hlk hnm hsz hK hM hS hA hz hl => ?_)
  have hx := S.1
  have hb := S.2.1
  have hl : lv_has ls 5 [(0, .ref md), (1, .int (nI (T.length)))] := hl
  obtain ⟨f_md, f_ro, f_te, f_he, f_cn, f_kd, f_sz, f_ky, f_le, f_dg, f_nm, f_ns, f_sl, f_sb, f_su, f_wi, f_tu, hB, hV⟩ := id hw
  obtain ⟨n_kdsz, n_kdky, n_szky, n_hens, n_hesu, n_hetu, n_nssu, n_nstu, n_sutu, n_tewi⟩ := id hB
  obtain ⟨b_te, b_cn, b_kd, b_sz, b_ky, b_le, b_nm, b_ns, b_sl, b_sb, b_co, b_ty, b_ac, b_al, b_sd, b_ss⟩ := id hV
  refine lv_iload_n hx hb d_MD_isPath_0 rfl (lv_at hl 1 rfl) ?_
  refine lv_iconst (v := nI 1) hx hb d_MD_isPath_1 rfl ?_
  refine nb_lt (tgt := 11) hx hb d_MD_isPath_2 (by decide) (by omega) (by omega) (fun h1 => ?_) (fun h1 => ?_)
  · refine lv_iconst (v := nI 0) hx hb d_MD_isPath_11 rfl ?_
    exact hp_iret S hret hlk (rfl) hM hS (⟨rfl, bo_f (by first | exact isPth_0 (by omega) | exact fun q => absurd q.1 (by omega))⟩) d_MD_isPath_12
  · refine lv_iload_n hx hb d_MD_isPath_5 rfl (lv_at hl 1 rfl) ?_
    refine lv_bipush (v := nI 40) hx hb d_MD_isPath_6 rfl ?_
    refine nb_le (tgt := 13) hx hb d_MD_isPath_8 (by decide) (by omega) (by omega) (fun h40 => ?_) (fun h40 => ?_)
    · refine lv_iconst (v := nI 0) hx hb d_MD_isPath_13 rfl ?_
      refine lv_istore_n (lv' := [(2, .int (nI 0)), (0, .ref md), (1, .int (nI (T.length)))]) hx hb d_MD_isPath_14 rfl hl (by decide) rfl (fun ls hl => ?_)
      refine lv_iconst (v := nI 0) hx hb d_MD_isPath_15 rfl ?_
      refine lv_istore_n (lv' := [(3, .int (nI 0)), (2, .int (nI 0)), (0, .ref md), (1, .int (nI (T.length)))]) hx hb d_MD_isPath_16 rfl hl (by decide) rfl (fun ls hl => ?_)
      replace hl : lv_has ls 5 [(0, .ref md), (1, .int (nI (T.length))), (2, .int (nI 0)), (3, .int (nI 0))] := lv_sub hl [2, 3, 1, 0] rfl
      obtain ⟨k, e9k⟩ : ∃ z : Nat, z = 0 := ⟨_, rfl⟩
      obtain ⟨bg, e9bg⟩ : ∃ z : Nat, z = 0 := ⟨_, rfl⟩
      replace hl : lv_has ls 5 [(0, .ref md), (1, .int (nI (T.length))), (2, .int (nI bg)), (3, .int (nI k))] := by subst e9k e9bg; exact hl
      obtain ⟨H, e9H⟩ : ∃ z : Heap, z = s.heap := ⟨_, rfl⟩
      replace hM : hp_H D ccl (hp_A M sz) M H := by rw [e9H]; exact hM
      replace hS : va_S (hp_A M sz) s.heap H [] := by rw [e9H]; exact hS
      rw [← e9H]
      clear e9H
      obtain ⟨locs, e9L⟩ : ∃ z : List Loc, z = [] := ⟨_, rfl⟩
      replace hS : va_S (hp_A M sz) s.heap H locs := by rw [e9L]; exact hS
      rw [← e9L]
      clear e9L
      have hI : pthI T bg k := by subst e9k e9bg; exact pthI_0
      obtain ⟨fu, hn⟩ : ∃ fu : Nat, T.length + 1 ≤ k + fu := ⟨T.length + 1, by omega⟩
      clear e9k e9bg
      induction fu generalizing k bg H locs ls with
      | zero =>
        have hk1 := hI.2.1
        refine lv_iload_n hx hb d_MD_isPath_17 rfl (lv_at hl 3 rfl) ?_
        refine lv_iload_n hx hb d_MD_isPath_18 rfl (lv_at hl 1 rfl) ?_
        refine nb_gt (tgt := 155) hx hb d_MD_isPath_19 (by decide) (by omega) (by omega) (fun hkx => ?_) (fun hkx => ?_)
        · refine lv_iconst (v := nI 1) hx hb d_MD_isPath_155 rfl ?_
          exact hp_iret S hret hlk (rfl) hM hS (⟨rfl, bo_t (pthI_end hI (by omega) (by omega))⟩) d_MD_isPath_156
        · exact absurd hn (by omega)
      | succ fu ih =>
        have hbk := hI.1
        have hk1 := hI.2.1
        refine lv_iload_n hx hb d_MD_isPath_17 rfl (lv_at hl 3 rfl) ?_
        refine lv_iload_n hx hb d_MD_isPath_18 rfl (lv_at hl 1 rfl) ?_
        refine nb_gt (tgt := 155) hx hb d_MD_isPath_19 (by decide) (by omega) (by omega) (fun hkx => ?_) (fun hkx => ?_)
        · refine lv_iconst (v := nI 1) hx hb d_MD_isPath_155 rfl ?_
          exact hp_iret S hret hlk (rfl) hM hS (⟨rfl, bo_t (pthI_end hI (by omega) (by omega))⟩) d_MD_isPath_156
        · refine w_join0 hM hS (P := k = T.length ∨ T.getD k 0 = 47) (pc2 := 97) (rest := []) (fun H locs hM hS hg1 => ?_) (fun hjg1 => ?_)
          · have he := hg1
            refine lv_iload_n hx hb d_MD_isPath_97 rfl (lv_at hl 3 rfl) ?_
            refine lv_iload_n hx hb d_MD_isPath_98 rfl (lv_at hl 2 rfl) ?_
            refine nb_isub hx hb d_MD_isPath_99 (by omega) ?_
            refine lv_istore (lv' := [(4, .int (nI (k - bg))), (0, .ref md), (1, .int (nI (T.length))), (2, .int (nI bg)), (3, .int (nI k))]) hx hb d_MD_isPath_100 hl (by decide) rfl (fun ls hl => ?_)
            refine lv_iload hx hb d_MD_isPath_102 (lv_at hl 0 rfl) ?_
            refine nz_eq (tgt := 143) hx hb d_MD_isPath_104 (by decide) (by omega) (fun hm0 => ?_) (fun hm0 => ?_)
            · refine lv_iconst (v := nI 0) hx hb d_MD_isPath_143 rfl ?_
              exact hp_iret S hret hlk (rfl) hM hS (⟨rfl, bo_f (pthI_no2 hI (by omega) he (fun q => absurd (q.2 (fun i a b => by first | omega | (rw [show i = bg by omega, ← hte bg (by omega)]; exact hd0) | (rcases (show i = bg ∨ i = bg + 1 by omega) with z | z; (rw [z, ← hte bg (by omega)]; exact hd0); (rw [z, ← hte (bg + 1) (by omega)]; exact hd1)))) (by omega)))⟩) d_MD_isPath_144
            · refine lv_aload_n hx hb d_MD_isPath_107 rfl (lv_at hl 1 rfl) ?_
              refine hp_get S hK hM i_MD f_md rfl 2 (by decide) mf_MD_85 (fun _ h9 => h9) rfl d_MD_isPath_108 ?_
              refine lv_iload_n hx hb d_MD_isPath_111 rfl (lv_at hl 3 rfl) ?_
              refine hp_iald S hK hM 1 f_te rfl bg rfl (by omega) (by omega) d_MD_isPath_112 ?_
              refine lv_bipush (v := nI 46) hx hb d_MD_isPath_113 rfl ?_
              refine nb_ne (tgt := 145) hx hb d_MD_isPath_115 (by decide) (by have := b_te (bg); omega) (by omega) (fun hd0 => ?_) (fun hd0 => ?_)
              · refine lv_iload_n hx hb d_MD_isPath_145 rfl (lv_at hl 4 rfl) ?_
                refine lv_iconst (v := nI 1) hx hb d_MD_isPath_146 rfl ?_
                refine nb_iadd hx hb d_MD_isPath_147 ?_
                refine lv_istore_n (lv' := [(2, .int (nI (k + 1))), (4, .int (nI (k - bg))), (0, .ref md), (1, .int (nI (T.length))), (3, .int (nI k))]) hx hb d_MD_isPath_148 rfl hl (by decide) rfl (fun ls hl => ?_)
                refine lv_iinc (v := nI (k + 1)) (lv' := [(3, .int (nI (k + 1))), (2, .int (nI (k + 1))), (4, .int (nI (k - bg))), (0, .ref md), (1, .int (nI (T.length)))]) hx hb d_MD_isPath_149 hl (k := 4) rfl (nI_add k 1) (by decide) rfl (fun ls hl => ?_)
                refine lv_goto (tgt := 17) hx hb d_MD_isPath_152 (by decide) ?_
                exact ih (ls := ls) (hl := lv_sub hl [3, 4, 1, 0] rfl) (hn := by omega) (k := k + 1) (bg := k + 1) (hI := pthI_s hI (by omega) he ⟨fun i a b => (hI.2.2.2.1 i a b).2, fun q => by first | exact absurd (q bg (by omega) (by omega)) (by rw [← hte bg (by omega)]; exact hd0) | omega | exact absurd (q (bg + 1) (by omega) (by omega)) (by rw [← hte (bg + 1) (by omega)]; exact hd1)⟩) (H := H) (locs := locs) (hM := hM) (hS := hS)
              · refine lv_iload hx hb d_MD_isPath_118 (lv_at hl 0 rfl) ?_
                refine lv_iconst (v := nI 1) hx hb d_MD_isPath_120 rfl ?_
                refine nb_eq (tgt := 143) hx hb d_MD_isPath_121 (by decide) (by omega) (by omega) (fun hm1 => ?_) (fun hm1 => ?_)
                · refine lv_iconst (v := nI 0) hx hb d_MD_isPath_143 rfl ?_
                  exact hp_iret S hret hlk (rfl) hM hS (⟨rfl, bo_f (pthI_no2 hI (by omega) he (fun q => absurd (q.2 (fun i a b => by first | omega | (rw [show i = bg by omega, ← hte bg (by omega)]; exact hd0) | (rcases (show i = bg ∨ i = bg + 1 by omega) with z | z; (rw [z, ← hte bg (by omega)]; exact hd0); (rw [z, ← hte (bg + 1) (by omega)]; exact hd1)))) (by omega)))⟩) d_MD_isPath_144
                · refine lv_iload hx hb d_MD_isPath_124 (lv_at hl 0 rfl) ?_
                  refine lv_iconst (v := nI 2) hx hb d_MD_isPath_126 rfl ?_
                  refine nb_ne (tgt := 145) hx hb d_MD_isPath_127 (by decide) (by omega) (by omega) (fun hm2 => ?_) (fun hm2 => ?_)
                  · refine lv_iload_n hx hb d_MD_isPath_145 rfl (lv_at hl 4 rfl) ?_
                    refine lv_iconst (v := nI 1) hx hb d_MD_isPath_146 rfl ?_
                    refine nb_iadd hx hb d_MD_isPath_147 ?_
                    refine lv_istore_n (lv' := [(2, .int (nI (k + 1))), (4, .int (nI (k - bg))), (0, .ref md), (1, .int (nI (T.length))), (3, .int (nI k))]) hx hb d_MD_isPath_148 rfl hl (by decide) rfl (fun ls hl => ?_)
                    refine lv_iinc (v := nI (k + 1)) (lv' := [(3, .int (nI (k + 1))), (2, .int (nI (k + 1))), (4, .int (nI (k - bg))), (0, .ref md), (1, .int (nI (T.length)))]) hx hb d_MD_isPath_149 hl (k := 4) rfl (nI_add k 1) (by decide) rfl (fun ls hl => ?_)
                    refine lv_goto (tgt := 17) hx hb d_MD_isPath_152 (by decide) ?_
                    exact ih (ls := ls) (hl := lv_sub hl [3, 4, 1, 0] rfl) (hn := by omega) (k := k + 1) (bg := k + 1) (hI := pthI_s hI (by omega) he ⟨fun i a b => (hI.2.2.2.1 i a b).2, fun q => by first | exact absurd (q bg (by omega) (by omega)) (by rw [← hte bg (by omega)]; exact hd0) | omega | exact absurd (q (bg + 1) (by omega) (by omega)) (by rw [← hte (bg + 1) (by omega)]; exact hd1)⟩) (H := H) (locs := locs) (hM := hM) (hS := hS)
                  · refine lv_aload_n hx hb d_MD_isPath_130 rfl (lv_at hl 1 rfl) ?_
                    refine hp_get S hK hM i_MD f_md rfl 2 (by decide) mf_MD_85 (fun _ h9 => h9) rfl d_MD_isPath_131 ?_
                    refine lv_iload_n hx hb d_MD_isPath_134 rfl (lv_at hl 3 rfl) ?_
                    refine lv_iconst (v := nI 1) hx hb d_MD_isPath_135 rfl ?_
                    refine nb_iadd hx hb d_MD_isPath_136 ?_
                    refine hp_iald S hK hM 1 f_te rfl (bg + 1) rfl (by omega) (by omega) d_MD_isPath_137 ?_
                    refine lv_bipush (v := nI 46) hx hb d_MD_isPath_138 rfl ?_
                    refine nb_ne (tgt := 145) hx hb d_MD_isPath_140 (by decide) (by have := b_te ((bg + 1)); omega) (by omega) (fun hd1 => ?_) (fun hd1 => ?_)
                    · refine lv_iload_n hx hb d_MD_isPath_145 rfl (lv_at hl 4 rfl) ?_
                      refine lv_iconst (v := nI 1) hx hb d_MD_isPath_146 rfl ?_
                      refine nb_iadd hx hb d_MD_isPath_147 ?_
                      refine lv_istore_n (lv' := [(2, .int (nI (k + 1))), (4, .int (nI (k - bg))), (0, .ref md), (1, .int (nI (T.length))), (3, .int (nI k))]) hx hb d_MD_isPath_148 rfl hl (by decide) rfl (fun ls hl => ?_)
                      refine lv_iinc (v := nI (k + 1)) (lv' := [(3, .int (nI (k + 1))), (2, .int (nI (k + 1))), (4, .int (nI (k - bg))), (0, .ref md), (1, .int (nI (T.length)))]) hx hb d_MD_isPath_149 hl (k := 4) rfl (nI_add k 1) (by decide) rfl (fun ls hl => ?_)
                      refine lv_goto (tgt := 17) hx hb d_MD_isPath_152 (by decide) ?_
                      exact ih (ls := ls) (hl := lv_sub hl [3, 4, 1, 0] rfl) (hn := by omega) (k := k + 1) (bg := k + 1) (hI := pthI_s hI (by omega) he ⟨fun i a b => (hI.2.2.2.1 i a b).2, fun q => by first | exact absurd (q bg (by omega) (by omega)) (by rw [← hte bg (by omega)]; exact hd0) | omega | exact absurd (q (bg + 1) (by omega) (by omega)) (by rw [← hte (bg + 1) (by omega)]; exact hd1)⟩) (H := H) (locs := locs) (hM := hM) (hS := hS)
                    · refine lv_iconst (v := nI 0) hx hb d_MD_isPath_143 rfl ?_
                      exact hp_iret S hret hlk (rfl) hM hS (⟨rfl, bo_f (pthI_no2 hI (by omega) he (fun q => absurd (q.2 (fun i a b => by first | omega | (rw [show i = bg by omega, ← hte bg (by omega)]; exact hd0) | (rcases (show i = bg ∨ i = bg + 1 by omega) with z | z; (rw [z, ← hte bg (by omega)]; exact hd0); (rw [z, ← hte (bg + 1) (by omega)]; exact hd1)))) (by omega)))⟩) d_MD_isPath_144
          · refine lv_iload_n hx hb d_MD_isPath_22 rfl (lv_at hl 3 rfl) ?_
            refine lv_iload_n hx hb d_MD_isPath_23 rfl (lv_at hl 1 rfl) ?_
            refine nb_ge (tgt := 97) hx hb d_MD_isPath_24 (by decide) (by omega) (by omega) (fun hkn => ?_) (fun hkn => ?_)
            · exact hjg1 _ _ hM hS (by first | exact Or.inl (by omega) | (rw [← hte k (by omega)]; exact Or.inr h47))
            · refine lv_aload_n hx hb d_MD_isPath_27 rfl (lv_at hl 0 rfl) ?_
              refine hp_get S hK hM i_MD f_md rfl 2 (by decide) mf_MD_85 (fun _ h9 => h9) rfl d_MD_isPath_28 ?_
              refine lv_iload_n hx hb d_MD_isPath_31 rfl (lv_at hl 3 rfl) ?_
              refine hp_iald S hK hM 1 f_te rfl k rfl (by omega) (by omega) d_MD_isPath_32 ?_
              refine lv_bipush (v := nI 47) hx hb d_MD_isPath_33 rfl ?_
              refine nb_eq (tgt := 97) hx hb d_MD_isPath_35 (by decide) (by have := b_te (k); omega) (by omega) (fun h47 => ?_) (fun h47 => ?_)
              · exact hjg1 _ _ hM hS (by first | exact Or.inl (by omega) | (rw [← hte k (by omega)]; exact Or.inr h47))
              · refine lv_aload_n hx hb d_MD_isPath_38 rfl (lv_at hl 0 rfl) ?_
                refine hp_get S hK hM i_MD f_md rfl 2 (by decide) mf_MD_85 (fun _ h9 => h9) rfl d_MD_isPath_39 ?_
                refine lv_iload_n hx hb d_MD_isPath_42 rfl (lv_at hl 3 rfl) ?_
                refine hp_iald S hK hM 1 f_te rfl k rfl (by omega) (by omega) d_MD_isPath_43 ?_
                refine hp_calli (go_S S hZ hK hM hS hA hz (c_MD_isLetter l D ct Z hZ _ _ (V.te k) (b_te _)) mc_MD_isLetter mz_MD ml_MD_147 ms_MD_isLetter hd_MD_isLetter rfl ⟨by decide, by decide⟩ hl.1 rfl (Nat.le_of_ble_eq_true rfl) d_MD_isPath_44 ⟨by decide, by decide⟩) hM hS hA (fun r2 N3 H locs hr2 hM hS => ?_)
                rw [hr2.1] at hM
                replace hr2 := hr2.2
                refine nt_ne (tgt := 149) hx hb d_MD_isPath_47 (by decide) hr2 (fun ha => ?_) (fun ha => ?_)
                · refine lv_iinc (v := nI (k + 1)) (lv' := [(3, .int (nI (k + 1))), (0, .ref md), (1, .int (nI (T.length))), (2, .int (nI bg))]) hx hb d_MD_isPath_149 hl (k := 3) rfl (nI_add k 1) (by decide) rfl (fun ls hl => ?_)
                  refine lv_goto (tgt := 17) hx hb d_MD_isPath_152 (by decide) ?_
                  exact ih (ls := ls) (hl := lv_sub hl [1, 2, 3, 0] rfl) (hn := by omega) (k := k + 1) (bg := bg) (hI := pthI_c hI (by omega) (by rw [← hte k (by omega)]; exact h47) (by rw [← hte k (by omega)]; unfold isDot isWrd; first | exact Or.inl (Or.inl ha) | exact Or.inl (Or.inr (Or.inl hd)) | exact Or.inr (Or.inr h46) | exact Or.inl (Or.inr (Or.inr h95)) | exact Or.inr (Or.inl h45))) (H := H) (locs := locs) (hM := hM) (hS := hS)
                · refine lv_aload_n hx hb d_MD_isPath_50 rfl (lv_at hl 0 rfl) ?_
                  refine hp_get S hK hM i_MD f_md rfl 2 (by decide) mf_MD_85 (fun _ h9 => h9) rfl d_MD_isPath_51 ?_
                  refine lv_iload_n hx hb d_MD_isPath_54 rfl (lv_at hl 3 rfl) ?_
                  refine hp_iald S hK hM 1 f_te rfl k rfl (by omega) (by omega) d_MD_isPath_55 ?_
                  refine hp_calli (go_S S hZ hK hM hS hA hz (c_MD_isDigit l D ct Z hZ _ _ (V.te k) (b_te _)) mc_MD_isDigit mz_MD ml_MD_151 ms_MD_isDigit hd_MD_isDigit rfl ⟨by decide, by decide⟩ hl.1 rfl (Nat.le_of_ble_eq_true rfl) d_MD_isPath_56 ⟨by decide, by decide⟩) hM hS hA (fun r4 N5 H locs hr4 hM hS => ?_)
                  rw [hr4.1] at hM
                  replace hr4 := hr4.2
                  refine nt_ne (tgt := 149) hx hb d_MD_isPath_59 (by decide) hr4 (fun hd => ?_) (fun hd => ?_)
                  · refine lv_iinc (v := nI (k + 1)) (lv' := [(3, .int (nI (k + 1))), (0, .ref md), (1, .int (nI (T.length))), (2, .int (nI bg))]) hx hb d_MD_isPath_149 hl (k := 3) rfl (nI_add k 1) (by decide) rfl (fun ls hl => ?_)
                    refine lv_goto (tgt := 17) hx hb d_MD_isPath_152 (by decide) ?_
                    exact ih (ls := ls) (hl := lv_sub hl [1, 2, 3, 0] rfl) (hn := by omega) (k := k + 1) (bg := bg) (hI := pthI_c hI (by omega) (by rw [← hte k (by omega)]; exact h47) (by rw [← hte k (by omega)]; unfold isDot isWrd; first | exact Or.inl (Or.inl ha) | exact Or.inl (Or.inr (Or.inl hd)) | exact Or.inr (Or.inr h46) | exact Or.inl (Or.inr (Or.inr h95)) | exact Or.inr (Or.inl h45))) (H := H) (locs := locs) (hM := hM) (hS := hS)
                  · refine lv_aload_n hx hb d_MD_isPath_62 rfl (lv_at hl 0 rfl) ?_
                    refine hp_get S hK hM i_MD f_md rfl 2 (by decide) mf_MD_85 (fun _ h9 => h9) rfl d_MD_isPath_63 ?_
                    refine lv_iload_n hx hb d_MD_isPath_66 rfl (lv_at hl 3 rfl) ?_
                    refine hp_iald S hK hM 1 f_te rfl k rfl (by omega) (by omega) d_MD_isPath_67 ?_
                    refine lv_bipush (v := nI 46) hx hb d_MD_isPath_68 rfl ?_
                    refine nb_eq (tgt := 149) hx hb d_MD_isPath_70 (by decide) (by have := b_te (k); omega) (by omega) (fun h46 => ?_) (fun h46 => ?_)
                    · refine lv_iinc (v := nI (k + 1)) (lv' := [(3, .int (nI (k + 1))), (0, .ref md), (1, .int (nI (T.length))), (2, .int (nI bg))]) hx hb d_MD_isPath_149 hl (k := 3) rfl (nI_add k 1) (by decide) rfl (fun ls hl => ?_)
                      refine lv_goto (tgt := 17) hx hb d_MD_isPath_152 (by decide) ?_
                      exact ih (ls := ls) (hl := lv_sub hl [1, 2, 3, 0] rfl) (hn := by omega) (k := k + 1) (bg := bg) (hI := pthI_c hI (by omega) (by rw [← hte k (by omega)]; exact h47) (by rw [← hte k (by omega)]; unfold isDot isWrd; first | exact Or.inl (Or.inl ha) | exact Or.inl (Or.inr (Or.inl hd)) | exact Or.inr (Or.inr h46) | exact Or.inl (Or.inr (Or.inr h95)) | exact Or.inr (Or.inl h45))) (H := H) (locs := locs) (hM := hM) (hS := hS)
                    · refine lv_aload_n hx hb d_MD_isPath_73 rfl (lv_at hl 0 rfl) ?_
                      refine hp_get S hK hM i_MD f_md rfl 2 (by decide) mf_MD_85 (fun _ h9 => h9) rfl d_MD_isPath_74 ?_
                      refine lv_iload_n hx hb d_MD_isPath_77 rfl (lv_at hl 3 rfl) ?_
                      refine hp_iald S hK hM 1 f_te rfl k rfl (by omega) (by omega) d_MD_isPath_78 ?_
                      refine lv_bipush (v := nI 95) hx hb d_MD_isPath_79 rfl ?_
                      refine nb_eq (tgt := 149) hx hb d_MD_isPath_81 (by decide) (by have := b_te (k); omega) (by omega) (fun h95 => ?_) (fun h95 => ?_)
                      · refine lv_iinc (v := nI (k + 1)) (lv' := [(3, .int (nI (k + 1))), (0, .ref md), (1, .int (nI (T.length))), (2, .int (nI bg))]) hx hb d_MD_isPath_149 hl (k := 3) rfl (nI_add k 1) (by decide) rfl (fun ls hl => ?_)
                        refine lv_goto (tgt := 17) hx hb d_MD_isPath_152 (by decide) ?_
                        exact ih (ls := ls) (hl := lv_sub hl [1, 2, 3, 0] rfl) (hn := by omega) (k := k + 1) (bg := bg) (hI := pthI_c hI (by omega) (by rw [← hte k (by omega)]; exact h47) (by rw [← hte k (by omega)]; unfold isDot isWrd; first | exact Or.inl (Or.inl ha) | exact Or.inl (Or.inr (Or.inl hd)) | exact Or.inr (Or.inr h46) | exact Or.inl (Or.inr (Or.inr h95)) | exact Or.inr (Or.inl h45))) (H := H) (locs := locs) (hM := hM) (hS := hS)
                      · refine lv_aload_n hx hb d_MD_isPath_84 rfl (lv_at hl 0 rfl) ?_
                        refine hp_get S hK hM i_MD f_md rfl 2 (by decide) mf_MD_85 (fun _ h9 => h9) rfl d_MD_isPath_85 ?_
                        refine lv_iload_n hx hb d_MD_isPath_88 rfl (lv_at hl 3 rfl) ?_
                        refine hp_iald S hK hM 1 f_te rfl k rfl (by omega) (by omega) d_MD_isPath_89 ?_
                        refine lv_bipush (v := nI 45) hx hb d_MD_isPath_90 rfl ?_
                        refine nb_eq (tgt := 149) hx hb d_MD_isPath_92 (by decide) (by have := b_te (k); omega) (by omega) (fun h45 => ?_) (fun h45 => ?_)
                        · refine lv_iinc (v := nI (k + 1)) (lv' := [(3, .int (nI (k + 1))), (0, .ref md), (1, .int (nI (T.length))), (2, .int (nI bg))]) hx hb d_MD_isPath_149 hl (k := 3) rfl (nI_add k 1) (by decide) rfl (fun ls hl => ?_)
                          refine lv_goto (tgt := 17) hx hb d_MD_isPath_152 (by decide) ?_
                          exact ih (ls := ls) (hl := lv_sub hl [1, 2, 3, 0] rfl) (hn := by omega) (k := k + 1) (bg := bg) (hI := pthI_c hI (by omega) (by rw [← hte k (by omega)]; exact h47) (by rw [← hte k (by omega)]; unfold isDot isWrd; first | exact Or.inl (Or.inl ha) | exact Or.inl (Or.inr (Or.inl hd)) | exact Or.inr (Or.inr h46) | exact Or.inl (Or.inr (Or.inr h95)) | exact Or.inr (Or.inl h45))) (H := H) (locs := locs) (hM := hM) (hS := hS)
                        · refine lv_iconst (v := nI 0) hx hb d_MD_isPath_95 rfl ?_
                          exact hp_iret S hret hlk (rfl) hM hS (⟨rfl, bo_f (pthI_no1 hI (by omega) (by rw [← hte k (by omega)]; exact h47) (by rw [← hte k (by omega)]; unfold isDot isWrd; exact fun q => q.elim (fun q => q.elim ha (fun q => q.elim hd h95)) (fun q => q.elim h45 h46)))⟩) d_MD_isPath_96
    · refine lv_iconst (v := nI 0) hx hb d_MD_isPath_11 rfl ?_
      exact hp_iret S hret hlk (rfl) hM hS (⟨rfl, bo_f (by first | exact isPth_0 (by omega) | exact fun q => absurd q.1 (by omega))⟩) d_MD_isPath_12
theorem fit_odd {T : List Nat} {w : Nat} (h6 : w ≤ 6) (h : w % 2 = 1) : (fitK T (nI w) ↔ isPth T) ∧ isKl T (nI w) T.length := by
  have hP : kP (nI w) := by rcases (show w = 1 ∨ w = 3 ∨ w = 5 by omega) with z | z | z <;> rw [z] <;> unfold kP <;> decide
  have hN : ¬ kN (nI w) := by rcases (show w = 1 ∨ w = 3 ∨ w = 5 by omega) with z | z | z <;> rw [z] <;> unfold kN <;> decide
  have h0 : nI w ≠ nI 0 := by rcases (show w = 1 ∨ w = 3 ∨ w = 5 by omega) with z | z | z <;> rw [z] <;> decide
  exact ⟨⟨fun q => q.elim (fun z => absurd z h0) (fun q => q.elim (fun z => z.2) (fun z => absurd z.1 hN)), fun q => Or.inr (Or.inl ⟨hP, q⟩)⟩, Or.inl ⟨hP, rfl⟩⟩
theorem fit_even {T : List Nat} {w : Nat} (h6 : w ≤ 6) (h : w % 2 ≠ 1) (h0 : w ≠ 0) : (fitK T (nI w) ↔ isNv T) ∧ ∀ n, isEqs T n → isKl T (nI w) n := by
  have hN : kN (nI w) := by rcases (show w = 2 ∨ w = 4 ∨ w = 6 by omega) with z | z | z <;> rw [z] <;> unfold kN <;> decide
  have hP : ¬ kP (nI w) := by rcases (show w = 2 ∨ w = 4 ∨ w = 6 by omega) with z | z | z <;> rw [z] <;> unfold kP <;> decide
  have h0 : nI w ≠ nI 0 := by rcases (show w = 2 ∨ w = 4 ∨ w = 6 by omega) with z | z | z <;> rw [z] <;> decide
  exact ⟨⟨fun q => q.elim (fun z => absurd z h0) (fun q => q.elim (fun z => absurd z.1 hP) (fun z => z.2)), fun q => Or.inr (Or.inr ⟨hN, q⟩)⟩, fun n hn => Or.inr (Or.inl ⟨hN, hn⟩)⟩
/-- what keyOf answers -/
def kofA (T : List Nat) (w : Nat) (r : Int32) : Prop := (fitK T (nI w) ∧ ∃ n, isKl T (nI w) n ∧ r = nI n) ∨ (¬ fitK T (nI w) ∧ r = -1)
set_option maxHeartbeats 4000000 in
set_option maxRecDepth 100000 in
/-- how many characters are the key, or that the text is none of the kind -/
theorem c_MD_keyOf (l : Launch) (D : va_G) (ct : Nat → ClassId) (Z : hp_Z) (hZ : hp_Zok Z) (M : hp_M) (sz : Nat) (md : Nat) (B : MA) (V : MS) (hw : mdS ct M md B V) (T : List Nat) (hT : T.length ≤ 64) (hte : ∀ i, i < T.length → V.te i = T.getD i 0) (w : Nat) (hw6 : w ≤ 6) : Mi l y_MD_keyOf b_MD_keyOf 4 (some .int) 2 44 0 0 [.ref md, .int (nI w), .int (nI (T.length))] D ct Z M sz (fun r M1 => M1 = M ∧ kofA T w r) := by
  refine hp_start (by decide) (Nat.le_of_ble_eq_true rfl) (fun p e s m below meth c ls S hret hlk hnm hsz hK hM hS hA hz hl => ?_)
  have hx := S.1
  have hb := S.2.1
  have hl : lv_has ls 4 [(0, .ref md), (1, .int (nI w)), (2, .int (nI (T.length)))] := hl
  obtain ⟨f_md, f_ro, f_te, f_he, f_cn, f_kd, f_sz, f_ky, f_le, f_dg, f_nm, f_ns, f_sl, f_sb, f_su, f_wi, f_tu, hB, hV⟩ := id hw
  obtain ⟨n_kdsz, n_kdky, n_szky, n_hens, n_hesu, n_hetu, n_nssu, n_nstu, n_sutu, n_tewi⟩ := id hB
  obtain ⟨b_te, b_cn, b_kd, b_sz, b_ky, b_le, b_nm, b_ns, b_sl, b_sb, b_co, b_ty, b_ac, b_al, b_sd, b_ss⟩ := id hV
  refine lv_iload_n hx hb d_MD_keyOf_0 rfl (lv_at hl 1 rfl) ?_
  refine nz_ne (tgt := 6) hx hb d_MD_keyOf_1 (by decide) (by omega) (fun h0 => ?_) (fun h0 => ?_)
  · refine lv_iload_n hx hb d_MD_keyOf_6 rfl (lv_at hl 1 rfl) ?_
    refine lv_iconst (v := nI 2) hx hb d_MD_keyOf_7 rfl ?_
    refine nb_irem hx hb d_MD_keyOf_8 (by omega) (by omega) (by omega) ?_
    refine lv_iconst (v := nI 1) hx hb d_MD_keyOf_9 rfl ?_
    refine nb_ne (tgt := 27) hx hb d_MD_keyOf_10 (by decide) (by omega) (by omega) (fun h1 => ?_) (fun h1 => ?_)
    · refine lv_iconst (v := nI 0) hx hb d_MD_keyOf_27 rfl ?_
      refine lv_istore_n (lv' := [(3, .int (nI 0)), (0, .ref md), (1, .int (nI w)), (2, .int (nI (T.length)))]) hx hb d_MD_keyOf_28 rfl hl (by decide) rfl (fun ls hl => ?_)
      replace hl : lv_has ls 4 [(0, .ref md), (2, .int (nI (T.length))), (3, .int (nI 0))] := lv_sub hl [1, 3, 0] rfl
      obtain ⟨k, e9k⟩ : ∃ z : Nat, z = 0 := ⟨_, rfl⟩
      replace hl : lv_has ls 4 [(0, .ref md), (2, .int (nI (T.length))), (3, .int (nI k))] := by subst e9k; exact hl
      obtain ⟨H, e9H⟩ : ∃ z : Heap, z = s.heap := ⟨_, rfl⟩
      replace hM : hp_H D ccl (hp_A M sz) M H := by rw [e9H]; exact hM
      replace hS : va_S (hp_A M sz) s.heap H [] := by rw [e9H]; exact hS
      rw [← e9H]
      clear e9H
      obtain ⟨locs, e9L⟩ : ∃ z : List Loc, z = [] := ⟨_, rfl⟩
      replace hS : va_S (hp_A M sz) s.heap H locs := by rw [e9L]; exact hS
      rw [← e9L]
      clear e9L
      have hkl : k ≤ T.length := by subst e9k; exact Nat.zero_le _
      have hno : ∀ i, i < k → T.getD i 0 ≠ 61 := by subst e9k; intro i hi; omega
      obtain ⟨fu, hn⟩ : ∃ fu : Nat, T.length ≤ k + fu := ⟨T.length, by omega⟩
      clear e9k
      induction fu generalizing k H locs ls with
      | zero =>
        refine lv_iload_n hx hb d_MD_keyOf_29 rfl (lv_at hl 2 rfl) ?_
        refine lv_iload_n hx hb d_MD_keyOf_30 rfl (lv_at hl 1 rfl) ?_
        refine nb_ge (tgt := 51) hx hb d_MD_keyOf_31 (by decide) (by omega) (by omega) (fun hkn => ?_) (fun hkn => ?_)
        · have hq : isEqs T k := ⟨by omega, hno, fun z => by first | omega | (rw [← hte k z]; exact h61)⟩
          refine lv_iload_n hx hb d_MD_keyOf_51 rfl (lv_at hl 2 rfl) ?_
          refine lv_iload_n hx hb d_MD_keyOf_52 rfl (lv_at hl 1 rfl) ?_
          refine nb_ge (tgt := 78) hx hb d_MD_keyOf_53 (by decide) (by omega) (by omega) (fun hk2 => ?_) (fun hk2 => ?_)
          · refine lv_iconst (v := -1) hx hb d_MD_keyOf_78 (by decide) ?_
            exact hp_iret S hret hlk (rfl) hM hS (⟨rfl, Or.inr ⟨fun q => by obtain ⟨n2, q1, q2, q3, q4⟩ := (fit_even hw6 h1 h0).1.mp q; have e9 := isEqs_one q1 hq; subst e9; first | omega | exact hnam q3, rfl⟩⟩) d_MD_keyOf_79
          · refine lv_aload_n hx hb d_MD_keyOf_56 rfl (lv_at hl 0 rfl) ?_
            refine lv_iload_n hx hb d_MD_keyOf_57 rfl (lv_at hl 2 rfl) ?_
            refine hp_calli (go_V S hZ hK hM hS hA hz (c_MD_isName l D ct Z hZ _ _ md B V hw T hT hte k (by omega)) mc_MD_isName mz_MD ml_MD_157 mi_MD_isName mx_MD_isName hd_MD_isName rfl ⟨by decide, by decide⟩ f_md rfl rfl hl.1 rfl (Nat.le_of_ble_eq_true rfl) d_MD_keyOf_58 ⟨by decide, by decide⟩) hM hS hA (fun r1 N2 H locs hr1 hM hS => ?_)
            rw [hr1.1] at hM
            replace hr1 := hr1.2
            refine nt_eq (tgt := 78) hx hb d_MD_keyOf_61 (by decide) hr1 (fun hnam => ?_) (fun hnam => ?_)
            · refine lv_iconst (v := -1) hx hb d_MD_keyOf_78 (by decide) ?_
              exact hp_iret S hret hlk (rfl) hM hS (⟨rfl, Or.inr ⟨fun q => by obtain ⟨n2, q1, q2, q3, q4⟩ := (fit_even hw6 h1 h0).1.mp q; have e9 := isEqs_one q1 hq; subst e9; first | omega | exact hnam q3, rfl⟩⟩) d_MD_keyOf_79
            · refine lv_iload_n hx hb d_MD_keyOf_64 rfl (lv_at hl 1 rfl) ?_
              refine lv_iload_n hx hb d_MD_keyOf_65 rfl (lv_at hl 2 rfl) ?_
              refine nb_isub hx hb d_MD_keyOf_66 (by omega) ?_
              refine lv_iconst (v := nI 1) hx hb d_MD_keyOf_67 rfl ?_
              refine nb_isub hx hb d_MD_keyOf_68 (by omega) ?_
              refine lv_bipush (v := nI 40) hx hb d_MD_keyOf_69 rfl ?_
              refine nb_gt (tgt := 78) hx hb d_MD_keyOf_71 (by decide) (by omega) (by omega) (fun h40 => ?_) (fun h40 => ?_)
              · refine lv_iconst (v := -1) hx hb d_MD_keyOf_78 (by decide) ?_
                exact hp_iret S hret hlk (rfl) hM hS (⟨rfl, Or.inr ⟨fun q => by obtain ⟨n2, q1, q2, q3, q4⟩ := (fit_even hw6 h1 h0).1.mp q; have e9 := isEqs_one q1 hq; subst e9; first | omega | exact hnam q3, rfl⟩⟩) d_MD_keyOf_79
              · refine lv_iload_n hx hb d_MD_keyOf_74 rfl (lv_at hl 2 rfl) ?_
                refine lv_goto (tgt := 79) hx hb d_MD_keyOf_75 (by decide) ?_
                exact hp_iret S hret hlk (rfl) hM hS (⟨rfl, Or.inl ⟨(fit_even hw6 h1 h0).1.mpr ⟨k, hq, by omega, hnam, by omega⟩, k, (fit_even hw6 h1 h0).2 k hq, rfl⟩⟩) d_MD_keyOf_79
        · exact absurd hn (by omega)
      | succ fu ih =>
        refine lv_iload_n hx hb d_MD_keyOf_29 rfl (lv_at hl 2 rfl) ?_
        refine lv_iload_n hx hb d_MD_keyOf_30 rfl (lv_at hl 1 rfl) ?_
        refine nb_ge (tgt := 51) hx hb d_MD_keyOf_31 (by decide) (by omega) (by omega) (fun hkn => ?_) (fun hkn => ?_)
        · have hq : isEqs T k := ⟨by omega, hno, fun z => by first | omega | (rw [← hte k z]; exact h61)⟩
          refine lv_iload_n hx hb d_MD_keyOf_51 rfl (lv_at hl 2 rfl) ?_
          refine lv_iload_n hx hb d_MD_keyOf_52 rfl (lv_at hl 1 rfl) ?_
          refine nb_ge (tgt := 78) hx hb d_MD_keyOf_53 (by decide) (by omega) (by omega) (fun hk2 => ?_) (fun hk2 => ?_)
          · refine lv_iconst (v := -1) hx hb d_MD_keyOf_78 (by decide) ?_
            exact hp_iret S hret hlk (rfl) hM hS (⟨rfl, Or.inr ⟨fun q => by obtain ⟨n2, q1, q2, q3, q4⟩ := (fit_even hw6 h1 h0).1.mp q; have e9 := isEqs_one q1 hq; subst e9; first | omega | exact hnam q3, rfl⟩⟩) d_MD_keyOf_79
          · refine lv_aload_n hx hb d_MD_keyOf_56 rfl (lv_at hl 0 rfl) ?_
            refine lv_iload_n hx hb d_MD_keyOf_57 rfl (lv_at hl 2 rfl) ?_
            refine hp_calli (go_V S hZ hK hM hS hA hz (c_MD_isName l D ct Z hZ _ _ md B V hw T hT hte k (by omega)) mc_MD_isName mz_MD ml_MD_157 mi_MD_isName mx_MD_isName hd_MD_isName rfl ⟨by decide, by decide⟩ f_md rfl rfl hl.1 rfl (Nat.le_of_ble_eq_true rfl) d_MD_keyOf_58 ⟨by decide, by decide⟩) hM hS hA (fun r3 N4 H locs hr3 hM hS => ?_)
            rw [hr3.1] at hM
            replace hr3 := hr3.2
            refine nt_eq (tgt := 78) hx hb d_MD_keyOf_61 (by decide) hr3 (fun hnam => ?_) (fun hnam => ?_)
            · refine lv_iconst (v := -1) hx hb d_MD_keyOf_78 (by decide) ?_
              exact hp_iret S hret hlk (rfl) hM hS (⟨rfl, Or.inr ⟨fun q => by obtain ⟨n2, q1, q2, q3, q4⟩ := (fit_even hw6 h1 h0).1.mp q; have e9 := isEqs_one q1 hq; subst e9; first | omega | exact hnam q3, rfl⟩⟩) d_MD_keyOf_79
            · refine lv_iload_n hx hb d_MD_keyOf_64 rfl (lv_at hl 1 rfl) ?_
              refine lv_iload_n hx hb d_MD_keyOf_65 rfl (lv_at hl 2 rfl) ?_
              refine nb_isub hx hb d_MD_keyOf_66 (by omega) ?_
              refine lv_iconst (v := nI 1) hx hb d_MD_keyOf_67 rfl ?_
              refine nb_isub hx hb d_MD_keyOf_68 (by omega) ?_
              refine lv_bipush (v := nI 40) hx hb d_MD_keyOf_69 rfl ?_
              refine nb_gt (tgt := 78) hx hb d_MD_keyOf_71 (by decide) (by omega) (by omega) (fun h40 => ?_) (fun h40 => ?_)
              · refine lv_iconst (v := -1) hx hb d_MD_keyOf_78 (by decide) ?_
                exact hp_iret S hret hlk (rfl) hM hS (⟨rfl, Or.inr ⟨fun q => by obtain ⟨n2, q1, q2, q3, q4⟩ := (fit_even hw6 h1 h0).1.mp q; have e9 := isEqs_one q1 hq; subst e9; first | omega | exact hnam q3, rfl⟩⟩) d_MD_keyOf_79
              · refine lv_iload_n hx hb d_MD_keyOf_74 rfl (lv_at hl 2 rfl) ?_
                refine lv_goto (tgt := 79) hx hb d_MD_keyOf_75 (by decide) ?_
                exact hp_iret S hret hlk (rfl) hM hS (⟨rfl, Or.inl ⟨(fit_even hw6 h1 h0).1.mpr ⟨k, hq, by omega, hnam, by omega⟩, k, (fit_even hw6 h1 h0).2 k hq, rfl⟩⟩) d_MD_keyOf_79
        · refine lv_aload_n hx hb d_MD_keyOf_34 rfl (lv_at hl 0 rfl) ?_
          refine hp_get S hK hM i_MD f_md rfl 2 (by decide) mf_MD_85 (fun _ h9 => h9) rfl d_MD_keyOf_35 ?_
          refine lv_iload_n hx hb d_MD_keyOf_38 rfl (lv_at hl 2 rfl) ?_
          refine hp_iald S hK hM 1 f_te rfl k rfl (by omega) (by omega) d_MD_keyOf_39 ?_
          refine lv_bipush (v := nI 61) hx hb d_MD_keyOf_40 rfl ?_
          refine nb_eq (tgt := 51) hx hb d_MD_keyOf_42 (by decide) (by have := b_te (k); omega) (by omega) (fun h61 => ?_) (fun h61 => ?_)
          · have hq : isEqs T k := ⟨by omega, hno, fun z => by first | omega | (rw [← hte k z]; exact h61)⟩
            refine lv_iload_n hx hb d_MD_keyOf_51 rfl (lv_at hl 2 rfl) ?_
            refine lv_iload_n hx hb d_MD_keyOf_52 rfl (lv_at hl 1 rfl) ?_
            refine nb_ge (tgt := 78) hx hb d_MD_keyOf_53 (by decide) (by omega) (by omega) (fun hk2 => ?_) (fun hk2 => ?_)
            · refine lv_iconst (v := -1) hx hb d_MD_keyOf_78 (by decide) ?_
              exact hp_iret S hret hlk (rfl) hM hS (⟨rfl, Or.inr ⟨fun q => by obtain ⟨n2, q1, q2, q3, q4⟩ := (fit_even hw6 h1 h0).1.mp q; have e9 := isEqs_one q1 hq; subst e9; first | omega | exact hnam q3, rfl⟩⟩) d_MD_keyOf_79
            · refine lv_aload_n hx hb d_MD_keyOf_56 rfl (lv_at hl 0 rfl) ?_
              refine lv_iload_n hx hb d_MD_keyOf_57 rfl (lv_at hl 2 rfl) ?_
              refine hp_calli (go_V S hZ hK hM hS hA hz (c_MD_isName l D ct Z hZ _ _ md B V hw T hT hte k (by omega)) mc_MD_isName mz_MD ml_MD_157 mi_MD_isName mx_MD_isName hd_MD_isName rfl ⟨by decide, by decide⟩ f_md rfl rfl hl.1 rfl (Nat.le_of_ble_eq_true rfl) d_MD_keyOf_58 ⟨by decide, by decide⟩) hM hS hA (fun r5 N6 H locs hr5 hM hS => ?_)
              rw [hr5.1] at hM
              replace hr5 := hr5.2
              refine nt_eq (tgt := 78) hx hb d_MD_keyOf_61 (by decide) hr5 (fun hnam => ?_) (fun hnam => ?_)
              · refine lv_iconst (v := -1) hx hb d_MD_keyOf_78 (by decide) ?_
                exact hp_iret S hret hlk (rfl) hM hS (⟨rfl, Or.inr ⟨fun q => by obtain ⟨n2, q1, q2, q3, q4⟩ := (fit_even hw6 h1 h0).1.mp q; have e9 := isEqs_one q1 hq; subst e9; first | omega | exact hnam q3, rfl⟩⟩) d_MD_keyOf_79
              · refine lv_iload_n hx hb d_MD_keyOf_64 rfl (lv_at hl 1 rfl) ?_
                refine lv_iload_n hx hb d_MD_keyOf_65 rfl (lv_at hl 2 rfl) ?_
                refine nb_isub hx hb d_MD_keyOf_66 (by omega) ?_
                refine lv_iconst (v := nI 1) hx hb d_MD_keyOf_67 rfl ?_
                refine nb_isub hx hb d_MD_keyOf_68 (by omega) ?_
                refine lv_bipush (v := nI 40) hx hb d_MD_keyOf_69 rfl ?_
                refine nb_gt (tgt := 78) hx hb d_MD_keyOf_71 (by decide) (by omega) (by omega) (fun h40 => ?_) (fun h40 => ?_)
                · refine lv_iconst (v := -1) hx hb d_MD_keyOf_78 (by decide) ?_
                  exact hp_iret S hret hlk (rfl) hM hS (⟨rfl, Or.inr ⟨fun q => by obtain ⟨n2, q1, q2, q3, q4⟩ := (fit_even hw6 h1 h0).1.mp q; have e9 := isEqs_one q1 hq; subst e9; first | omega | exact hnam q3, rfl⟩⟩) d_MD_keyOf_79
                · refine lv_iload_n hx hb d_MD_keyOf_74 rfl (lv_at hl 2 rfl) ?_
                  refine lv_goto (tgt := 79) hx hb d_MD_keyOf_75 (by decide) ?_
                  exact hp_iret S hret hlk (rfl) hM hS (⟨rfl, Or.inl ⟨(fit_even hw6 h1 h0).1.mpr ⟨k, hq, by omega, hnam, by omega⟩, k, (fit_even hw6 h1 h0).2 k hq, rfl⟩⟩) d_MD_keyOf_79
          · refine lv_iinc (v := nI (k + 1)) (lv' := [(3, .int (nI (k + 1))), (0, .ref md), (2, .int (nI (T.length)))]) hx hb d_MD_keyOf_45 hl (k := 2) rfl (nI_add k 1) (by decide) rfl (fun ls hl => ?_)
            refine lv_goto (tgt := 29) hx hb d_MD_keyOf_48 (by decide) ?_
            exact ih (ls := ls) (hl := lv_sub hl [1, 2, 0] rfl) (hn := by omega) (k := k + 1) (hkl := by omega) (hno := lt_s hno (by rw [← hte k (by omega)]; exact h61)) (H := H) (locs := locs) (hM := hM) (hS := hS)
    · refine lv_aload_n hx hb d_MD_keyOf_13 rfl (lv_at hl 0 rfl) ?_
      refine lv_iload_n hx hb d_MD_keyOf_14 rfl (lv_at hl 2 rfl) ?_
      refine hp_calli (go_V S hZ hK hM hS hA hz (c_MD_isPath l D ct Z hZ _ _ md B V hw T hT hte) mc_MD_isPath mz_MD ml_MD_154 mi_MD_isPath mx_MD_isPath hd_MD_isPath rfl ⟨by decide, by decide⟩ f_md rfl rfl hl.1 rfl (Nat.le_of_ble_eq_true rfl) d_MD_keyOf_15 ⟨by decide, by decide⟩) hM hS hA (fun r7 N8 H locs hr7 hM hS => ?_)
      rw [hr7.1] at hM
      replace hr7 := hr7.2
      refine nt_eq (tgt := 25) hx hb d_MD_keyOf_18 (by decide) hr7 (fun hp1 => ?_) (fun hp1 => ?_)
      · refine lv_iconst (v := -1) hx hb d_MD_keyOf_25 (by decide) ?_
        exact hp_iret S hret hlk (rfl) hM hS (⟨rfl, Or.inr ⟨fun q => hp1 ((fit_odd hw6 h1).1.mp q), rfl⟩⟩) d_MD_keyOf_26
      · refine lv_iload_n hx hb d_MD_keyOf_21 rfl (lv_at hl 2 rfl) ?_
        refine lv_goto (tgt := 26) hx hb d_MD_keyOf_22 (by decide) ?_
        exact hp_iret S hret hlk (rfl) hM hS (⟨rfl, Or.inl ⟨(fit_odd hw6 h1).1.mpr hp1, _, (fit_odd hw6 h1).2, rfl⟩⟩) d_MD_keyOf_26
  · refine lv_iconst (v := nI 0) hx hb d_MD_keyOf_4 rfl ?_
    exact hp_iret S hret hlk (rfl) hM hS (⟨rfl, Or.inl ⟨by rw [h0]; exact Or.inl rfl, 0, Or.inr (Or.inr (by rw [h0]; refine ⟨?_, ?_, rfl⟩; (unfold kP; decide); (unfold kN; decide))), rfl⟩⟩) d_MD_keyOf_5
