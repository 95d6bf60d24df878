theorem lN_i32 {m : Nat} (h : m < 2 ^ 31) : (lN m).toInt32 = nI m := by
  apply Int32.toInt_inj.mp
  rw [Int64.toInt_toInt32, lN_toInt h, nI_toInt h]
  exact Int.bmod_eq_of_le (by omega) (by omega)
theorem lshr_len {n j : Nat} (hn : n < 2 ^ 20) (hj : j < 8) : (((8 : Int64) * Int32.toInt64 (nI n)) >>> (Int32.toInt64 (nI (8 * j)) &&& 63)).toInt32 &&& nI 255 = nI (8 * n / 2 ^ (8 * j) % 256) := by
  have e1 : (8 : Int64) * Int32.toInt64 (nI n) = lN (8 * n) := by
    apply Int64.toInt_inj.mp
    rw [Int64.toInt_mul, Int32.toInt_toInt64, nI_toInt (by omega), lN_toInt (by omega)]
    exact Int.bmod_eq_of_le (by show -((2 ^ 64 : Nat) / 2 : Int) ≤ 8 * (n : Int); omega) (by show 8 * (n : Int) < (((2 ^ 64 : Nat) : Int) + 1) / 2; omega)
  have hs : ∀ j, j < 8 → ((Int32.toInt64 (nI (8 * j)) &&& 63).toBitVec.smod 64).toNat = 8 * j := by decide
  have e2 : lN (8 * n) >>> (Int32.toInt64 (nI (8 * j)) &&& 63) = lN (8 * n / 2 ^ (8 * j)) := by
    apply Int64.toInt_inj.mp
    show ((lN (8 * n)).toBitVec.sshiftRight ((Int32.toInt64 (nI (8 * j)) &&& 63).toBitVec.smod 64).toNat).toInt = _
    rw [hs j hj, BitVec.toInt_sshiftRight]
    show (lN (8 * n)).toInt >>> (8 * j) = _
    have h2 : 8 * n / 2 ^ (8 * j) ≤ 8 * n := Nat.div_le_self _ _
    rw [lN_toInt (by omega), lN_toInt (by omega), Int.shiftRight_eq_div_pow]
    rfl
  have h2 : 8 * n / 2 ^ (8 * j) ≤ 8 * n := Nat.div_le_self _ _
  rw [e1, e2, lN_i32 (by omega), pk_andN (by omega) (m := nI 255) 8 (by decide)]
/-- the bytes of a text with what pads it -/
def padB (T : List Nat) (k : Nat) : Nat := if k < T.length then T.getD k 0 else if k = T.length then 128 else if k < (T.length + 72) / 64 * 64 - 8 then 0 else 8 * T.length / 2 ^ (8 * ((T.length + 72) / 64 * 64 - 1 - k)) % 256
/-- a word of four of them -/
def wdM (T : List Nat) (k : Nat) : Int32 := (((nI (padB T k) <<< (nI 24 &&& 31)) ||| (nI (padB T (k + 1)) <<< (nI 16 &&& 31))) ||| (nI (padB T (k + 2)) <<< (nI 8 &&& 31))) ||| nI (padB T (k + 3))
def shB (T : List Nat) : Nat → Nat → Int32
  | 0 => hF
  | b + 1 => fun i => shB T b i + mixn (spw (fun t => wdM T (64 * b + 4 * t)) 48) (shB T b) 64 i
theorem shB_succ (T : List Nat) (b i : Nat) : shB T (b + 1) i = shB T b i + mixn (spw (fun t => wdM T (64 * b + 4 * t)) 48) (shB T b) 64 i := rfl
/-- the digest's words, as the model sums them up -/
def shaM (T : List Nat) : Nat → Int32 := shB T ((T.length + 72) / 64)
theorem padB_lt {T : List Nat} (h : ∀ i, T.getD i 0 < 65536) (k : Nat) : padB T k < 65536 := by
  unfold padB
  by_cases h1 : k < T.length
  · rw [if_pos h1]; exact h k
  · rw [if_neg h1]
    by_cases h2 : k = T.length
    · rw [if_pos h2]; decide
    · rw [if_neg h2]
      by_cases h3 : k < (T.length + 72) / 64 * 64 - 8
      · rw [if_pos h3]; decide
      · rw [if_neg h3]; exact Nat.lt_trans (Nat.mod_lt _ (by decide)) (by decide)
theorem rnd_c {k w : Int32} {v u : Nat → Int32} (h : ∀ i, i < 8 → v i = u i) : ∀ i, i < 8 → rnd k w v i = rnd k w u i := by
  have h0 := h 0 (by decide)
  have h1 := h 1 (by decide)
  have h2 := h 2 (by decide)
  have h3 := h 3 (by decide)
  have h4 := h 4 (by decide)
  have h5 := h 5 (by decide)
  have h6 := h 6 (by decide)
  have h7 := h 7 (by decide)
  intro i hi
  rcases (show i = 0 ∨ i = 1 ∨ i = 2 ∨ i = 3 ∨ i = 4 ∨ i = 5 ∨ i = 6 ∨ i = 7 by omega) with z | z | z | z | z | z | z | z <;> subst z <;> simp only [rnd, rnX, rnY, h0, h1, h2, h3, h4, h5, h6, h7]
theorem mixn_c {w x v u : Nat → Int32} (hw : ∀ t, t < 64 → w t = x t) (h : ∀ i, i < 8 → v i = u i) : ∀ t, t ≤ 64 → ∀ i, i < 8 → mixn w v t i = mixn x u t i
  | 0, _ => h
  | t + 1, ht => fun i hi => by
    show rnd (kF t) (w t) (mixn w v t) i = rnd (kF t) (x t) (mixn x u t) i
    rw [hw t (by omega)]
    exact rnd_c (mixn_c hw h t (by omega)) i hi
theorem spw_c {w x : Nat → Int32} (h : ∀ i, i < 16 → w i = x i) : ∀ k, k ≤ 48 → ∀ i, i < 16 + k → spw w k i = spw x k i
  | 0, _ => h
  | k + 1, hk => fun i hi => by
    have ih := spw_c h k (by omega)
    show spj (spw w k) (16 + k) i = spj (spw x k) (16 + k) i
    unfold spj
    by_cases z : i = 16 + k
    · rw [z, pk_us, pk_us, ih (16 + k - 2) (by omega), ih (16 + k - 7) (by omega), ih (16 + k - 15) (by omega), ih (16 + k - 16) (by omega)]
    · rw [pk_un z, pk_un z]; exact ih i (by omega)
theorem shB_step {T : List Nat} {b i : Nat} {sv ww : Nat → Int32} (hi : i < 8) (hsv : ∀ i, i < 8 → sv i = shB T b i) (hww : ∀ q, q < 64 → ww q = spw (fun t => wdM T (64 * b + 4 * t)) 48 q) : sv i + mixn ww sv 64 i = shB T (b + 1) i := by
  have h := mixn_c hww hsv 64 (Nat.le_refl _) i hi
  rw [shB_succ, hsv i hi, h]
theorem d_MD_byteAt_0 : decode b_MD_byteAt 0 = .ok (.iload_n 1, 1) := by decide +kernel
theorem d_MD_byteAt_1 : decode b_MD_byteAt 1 = .ok (.iload_n 2, 1) := by decide +kernel
theorem d_MD_byteAt_2 : decode b_MD_byteAt 2 = .ok (.if_icmp .ge 10, 3) := by decide +kernel
theorem d_MD_byteAt_5 : decode b_MD_byteAt 5 = .ok (.aload_n 0, 1) := by decide +kernel
theorem d_MD_byteAt_6 : decode b_MD_byteAt 6 = .ok (.getfield 118, 3) := by decide +kernel
theorem d_MD_byteAt_9 : decode b_MD_byteAt 9 = .ok (.iload_n 1, 1) := by decide +kernel
theorem d_MD_byteAt_10 : decode b_MD_byteAt 10 = .ok (.iaload, 1) := by decide +kernel
theorem d_MD_byteAt_11 : decode b_MD_byteAt 11 = .ok (.ireturn, 1) := by decide +kernel
theorem d_MD_byteAt_12 : decode b_MD_byteAt 12 = .ok (.iload_n 1, 1) := by decide +kernel
theorem d_MD_byteAt_13 : decode b_MD_byteAt 13 = .ok (.iload_n 2, 1) := by decide +kernel
theorem d_MD_byteAt_14 : decode b_MD_byteAt 14 = .ok (.if_icmp .ne 7, 3) := by decide +kernel
theorem d_MD_byteAt_17 : decode b_MD_byteAt 17 = .ok (.sipush 128, 3) := by decide +kernel
theorem d_MD_byteAt_20 : decode b_MD_byteAt 20 = .ok (.ireturn, 1) := by decide +kernel
theorem d_MD_byteAt_21 : decode b_MD_byteAt 21 = .ok (.ldc2_w 215, 3) := by decide +kernel
theorem d_MD_byteAt_24 : decode b_MD_byteAt 24 = .ok (.iload_n 2, 1) := by decide +kernel
theorem d_MD_byteAt_25 : decode b_MD_byteAt 25 = .ok (.i2l, 1) := by decide +kernel
theorem d_MD_byteAt_26 : decode b_MD_byteAt 26 = .ok (.lmul, 1) := by decide +kernel
theorem d_MD_byteAt_27 : decode b_MD_byteAt 27 = .ok (.lstore 4, 2) := by decide +kernel
theorem d_MD_byteAt_29 : decode b_MD_byteAt 29 = .ok (.iload_n 1, 1) := by decide +kernel
theorem d_MD_byteAt_30 : decode b_MD_byteAt 30 = .ok (.iload_n 3, 1) := by decide +kernel
theorem d_MD_byteAt_31 : decode b_MD_byteAt 31 = .ok (.bipush 8, 2) := by decide +kernel
theorem d_MD_byteAt_33 : decode b_MD_byteAt 33 = .ok (.isub, 1) := by decide +kernel
theorem d_MD_byteAt_34 : decode b_MD_byteAt 34 = .ok (.if_icmp .ge 7, 3) := by decide +kernel
theorem d_MD_byteAt_37 : decode b_MD_byteAt 37 = .ok (.iconst 0, 1) := by decide +kernel
theorem d_MD_byteAt_38 : decode b_MD_byteAt 38 = .ok (.goto 19, 3) := by decide +kernel
theorem d_MD_byteAt_41 : decode b_MD_byteAt 41 = .ok (.lload 4, 2) := by decide +kernel
theorem d_MD_byteAt_43 : decode b_MD_byteAt 43 = .ok (.bipush 8, 2) := by decide +kernel
theorem d_MD_byteAt_45 : decode b_MD_byteAt 45 = .ok (.iload_n 3, 1) := by decide +kernel
theorem d_MD_byteAt_46 : decode b_MD_byteAt 46 = .ok (.iconst 1, 1) := by decide +kernel
theorem d_MD_byteAt_47 : decode b_MD_byteAt 47 = .ok (.isub, 1) := by decide +kernel
theorem d_MD_byteAt_48 : decode b_MD_byteAt 48 = .ok (.iload_n 1, 1) := by decide +kernel
theorem d_MD_byteAt_49 : decode b_MD_byteAt 49 = .ok (.isub, 1) := by decide +kernel
theorem d_MD_byteAt_50 : decode b_MD_byteAt 50 = .ok (.imul, 1) := by decide +kernel
theorem d_MD_byteAt_51 : decode b_MD_byteAt 51 = .ok (.lshr, 1) := by decide +kernel
theorem d_MD_byteAt_52 : decode b_MD_byteAt 52 = .ok (.l2i, 1) := by decide +kernel
theorem d_MD_byteAt_53 : decode b_MD_byteAt 53 = .ok (.sipush 255, 3) := by decide +kernel
theorem d_MD_byteAt_56 : decode b_MD_byteAt 56 = .ok (.iand, 1) := by decide +kernel
theorem d_MD_byteAt_57 : decode b_MD_byteAt 57 = .ok (.ireturn, 1) := by decide +kernel
theorem d_MD_mixIn_0 : decode b_MD_mixIn 0 = .ok (.iconst 0, 1) := by decide +kernel
theorem d_MD_mixIn_1 : decode b_MD_mixIn 1 = .ok (.istore_n 1, 1) := by decide +kernel
theorem d_MD_mixIn_2 : decode b_MD_mixIn 2 = .ok (.iload_n 1, 1) := by decide +kernel
theorem d_MD_mixIn_3 : decode b_MD_mixIn 3 = .ok (.bipush 8, 2) := by decide +kernel
theorem d_MD_mixIn_5 : decode b_MD_mixIn 5 = .ok (.if_icmp .ge 21, 3) := by decide +kernel
theorem d_MD_mixIn_8 : decode b_MD_mixIn 8 = .ok (.aload_n 0, 1) := by decide +kernel
theorem d_MD_mixIn_9 : decode b_MD_mixIn 9 = .ok (.getfield 127, 3) := by decide +kernel
theorem d_MD_mixIn_12 : decode b_MD_mixIn 12 = .ok (.iload_n 1, 1) := by decide +kernel
theorem d_MD_mixIn_13 : decode b_MD_mixIn 13 = .ok (.aload_n 0, 1) := by decide +kernel
theorem d_MD_mixIn_14 : decode b_MD_mixIn 14 = .ok (.getfield 121, 3) := by decide +kernel
theorem d_MD_mixIn_17 : decode b_MD_mixIn 17 = .ok (.iload_n 1, 1) := by decide +kernel
theorem d_MD_mixIn_18 : decode b_MD_mixIn 18 = .ok (.iaload, 1) := by decide +kernel
theorem d_MD_mixIn_19 : decode b_MD_mixIn 19 = .ok (.iastore, 1) := by decide +kernel
theorem d_MD_mixIn_20 : decode b_MD_mixIn 20 = .ok (.iinc 1 1, 3) := by decide +kernel
theorem d_MD_mixIn_23 : decode b_MD_mixIn 23 = .ok (.goto (-21), 3) := by decide +kernel
theorem d_MD_mixIn_26 : decode b_MD_mixIn 26 = .ok (.iconst 0, 1) := by decide +kernel
theorem d_MD_mixIn_27 : decode b_MD_mixIn 27 = .ok (.istore_n 1, 1) := by decide +kernel
theorem d_MD_mixIn_28 : decode b_MD_mixIn 28 = .ok (.iload_n 1, 1) := by decide +kernel
theorem d_MD_mixIn_29 : decode b_MD_mixIn 29 = .ok (.bipush 64, 2) := by decide +kernel
theorem d_MD_mixIn_31 : decode b_MD_mixIn 31 = .ok (.if_icmp .ge 221, 3) := by decide +kernel
theorem d_MD_mixIn_34 : decode b_MD_mixIn 34 = .ok (.aload_n 0, 1) := by decide +kernel
theorem d_MD_mixIn_35 : decode b_MD_mixIn 35 = .ok (.getfield 127, 3) := by decide +kernel
theorem d_MD_mixIn_38 : decode b_MD_mixIn 38 = .ok (.bipush 64, 2) := by decide +kernel
theorem d_MD_mixIn_40 : decode b_MD_mixIn 40 = .ok (.iload_n 1, 1) := by decide +kernel
theorem d_MD_mixIn_41 : decode b_MD_mixIn 41 = .ok (.isub, 1) := by decide +kernel
theorem d_MD_mixIn_42 : decode b_MD_mixIn 42 = .ok (.bipush 7, 2) := by decide +kernel
theorem d_MD_mixIn_44 : decode b_MD_mixIn 44 = .ok (.iand, 1) := by decide +kernel
theorem d_MD_mixIn_45 : decode b_MD_mixIn 45 = .ok (.iaload, 1) := by decide +kernel
theorem d_MD_mixIn_46 : decode b_MD_mixIn 46 = .ok (.istore_n 2, 1) := by decide +kernel
theorem d_MD_mixIn_47 : decode b_MD_mixIn 47 = .ok (.aload_n 0, 1) := by decide +kernel
theorem d_MD_mixIn_48 : decode b_MD_mixIn 48 = .ok (.getfield 127, 3) := by decide +kernel
theorem d_MD_mixIn_51 : decode b_MD_mixIn 51 = .ok (.bipush 65, 2) := by decide +kernel
theorem d_MD_mixIn_53 : decode b_MD_mixIn 53 = .ok (.iload_n 1, 1) := by decide +kernel
theorem d_MD_mixIn_54 : decode b_MD_mixIn 54 = .ok (.isub, 1) := by decide +kernel
theorem d_MD_mixIn_55 : decode b_MD_mixIn 55 = .ok (.bipush 7, 2) := by decide +kernel
theorem d_MD_mixIn_57 : decode b_MD_mixIn 57 = .ok (.iand, 1) := by decide +kernel
theorem d_MD_mixIn_58 : decode b_MD_mixIn 58 = .ok (.iaload, 1) := by decide +kernel
theorem d_MD_mixIn_59 : decode b_MD_mixIn 59 = .ok (.istore_n 3, 1) := by decide +kernel
theorem d_MD_mixIn_60 : decode b_MD_mixIn 60 = .ok (.aload_n 0, 1) := by decide +kernel
theorem d_MD_mixIn_61 : decode b_MD_mixIn 61 = .ok (.getfield 127, 3) := by decide +kernel
theorem d_MD_mixIn_64 : decode b_MD_mixIn 64 = .ok (.bipush 66, 2) := by decide +kernel
theorem d_MD_mixIn_66 : decode b_MD_mixIn 66 = .ok (.iload_n 1, 1) := by decide +kernel
theorem d_MD_mixIn_67 : decode b_MD_mixIn 67 = .ok (.isub, 1) := by decide +kernel
theorem d_MD_mixIn_68 : decode b_MD_mixIn 68 = .ok (.bipush 7, 2) := by decide +kernel
theorem d_MD_mixIn_70 : decode b_MD_mixIn 70 = .ok (.iand, 1) := by decide +kernel
theorem d_MD_mixIn_71 : decode b_MD_mixIn 71 = .ok (.iaload, 1) := by decide +kernel
theorem d_MD_mixIn_72 : decode b_MD_mixIn 72 = .ok (.istore 4, 2) := by decide +kernel
theorem d_MD_mixIn_74 : decode b_MD_mixIn 74 = .ok (.aload_n 0, 1) := by decide +kernel
theorem d_MD_mixIn_75 : decode b_MD_mixIn 75 = .ok (.getfield 127, 3) := by decide +kernel
theorem d_MD_mixIn_78 : decode b_MD_mixIn 78 = .ok (.bipush 68, 2) := by decide +kernel
theorem d_MD_mixIn_80 : decode b_MD_mixIn 80 = .ok (.iload_n 1, 1) := by decide +kernel
theorem d_MD_mixIn_81 : decode b_MD_mixIn 81 = .ok (.isub, 1) := by decide +kernel
theorem d_MD_mixIn_82 : decode b_MD_mixIn 82 = .ok (.bipush 7, 2) := by decide +kernel
theorem d_MD_mixIn_84 : decode b_MD_mixIn 84 = .ok (.iand, 1) := by decide +kernel
theorem d_MD_mixIn_85 : decode b_MD_mixIn 85 = .ok (.iaload, 1) := by decide +kernel
theorem d_MD_mixIn_86 : decode b_MD_mixIn 86 = .ok (.istore 5, 2) := by decide +kernel
theorem d_MD_mixIn_88 : decode b_MD_mixIn 88 = .ok (.aload_n 0, 1) := by decide +kernel
theorem d_MD_mixIn_89 : decode b_MD_mixIn 89 = .ok (.getfield 127, 3) := by decide +kernel
theorem d_MD_mixIn_92 : decode b_MD_mixIn 92 = .ok (.bipush 69, 2) := by decide +kernel
theorem d_MD_mixIn_94 : decode b_MD_mixIn 94 = .ok (.iload_n 1, 1) := by decide +kernel
theorem d_MD_mixIn_95 : decode b_MD_mixIn 95 = .ok (.isub, 1) := by decide +kernel
theorem d_MD_mixIn_96 : decode b_MD_mixIn 96 = .ok (.bipush 7, 2) := by decide +kernel
theorem d_MD_mixIn_98 : decode b_MD_mixIn 98 = .ok (.iand, 1) := by decide +kernel
theorem d_MD_mixIn_99 : decode b_MD_mixIn 99 = .ok (.iaload, 1) := by decide +kernel
theorem d_MD_mixIn_100 : decode b_MD_mixIn 100 = .ok (.istore 6, 2) := by decide +kernel
theorem d_MD_mixIn_102 : decode b_MD_mixIn 102 = .ok (.aload_n 0, 1) := by decide +kernel
theorem d_MD_mixIn_103 : decode b_MD_mixIn 103 = .ok (.getfield 127, 3) := by decide +kernel
theorem d_MD_mixIn_106 : decode b_MD_mixIn 106 = .ok (.bipush 70, 2) := by decide +kernel
theorem d_MD_mixIn_108 : decode b_MD_mixIn 108 = .ok (.iload_n 1, 1) := by decide +kernel
theorem d_MD_mixIn_109 : decode b_MD_mixIn 109 = .ok (.isub, 1) := by decide +kernel
theorem d_MD_mixIn_110 : decode b_MD_mixIn 110 = .ok (.bipush 7, 2) := by decide +kernel
theorem d_MD_mixIn_112 : decode b_MD_mixIn 112 = .ok (.iand, 1) := by decide +kernel
theorem d_MD_mixIn_113 : decode b_MD_mixIn 113 = .ok (.iaload, 1) := by decide +kernel
theorem d_MD_mixIn_114 : decode b_MD_mixIn 114 = .ok (.istore 7, 2) := by decide +kernel
theorem d_MD_mixIn_116 : decode b_MD_mixIn 116 = .ok (.bipush 71, 2) := by decide +kernel
theorem d_MD_mixIn_118 : decode b_MD_mixIn 118 = .ok (.iload_n 1, 1) := by decide +kernel
theorem d_MD_mixIn_119 : decode b_MD_mixIn 119 = .ok (.isub, 1) := by decide +kernel
theorem d_MD_mixIn_120 : decode b_MD_mixIn 120 = .ok (.bipush 7, 2) := by decide +kernel
theorem d_MD_mixIn_122 : decode b_MD_mixIn 122 = .ok (.iand, 1) := by decide +kernel
theorem d_MD_mixIn_123 : decode b_MD_mixIn 123 = .ok (.istore 8, 2) := by decide +kernel
theorem d_MD_mixIn_125 : decode b_MD_mixIn 125 = .ok (.aload_n 0, 1) := by decide +kernel
theorem d_MD_mixIn_126 : decode b_MD_mixIn 126 = .ok (.getfield 127, 3) := by decide +kernel
theorem d_MD_mixIn_129 : decode b_MD_mixIn 129 = .ok (.iload 8, 2) := by decide +kernel
theorem d_MD_mixIn_131 : decode b_MD_mixIn 131 = .ok (.iaload, 1) := by decide +kernel
theorem d_MD_mixIn_132 : decode b_MD_mixIn 132 = .ok (.iload 5, 2) := by decide +kernel
theorem d_MD_mixIn_134 : decode b_MD_mixIn 134 = .ok (.bipush 6, 2) := by decide +kernel
theorem d_MD_mixIn_136 : decode b_MD_mixIn 136 = .ok (.invokestatic 221, 3) := by decide +kernel
theorem d_MD_mixIn_139 : decode b_MD_mixIn 139 = .ok (.iload 5, 2) := by decide +kernel
theorem d_MD_mixIn_141 : decode b_MD_mixIn 141 = .ok (.bipush 11, 2) := by decide +kernel
theorem d_MD_mixIn_143 : decode b_MD_mixIn 143 = .ok (.invokestatic 221, 3) := by decide +kernel
theorem d_MD_mixIn_146 : decode b_MD_mixIn 146 = .ok (.ixor, 1) := by decide +kernel
theorem d_MD_mixIn_147 : decode b_MD_mixIn 147 = .ok (.iload 5, 2) := by decide +kernel
theorem d_MD_mixIn_149 : decode b_MD_mixIn 149 = .ok (.bipush 25, 2) := by decide +kernel
theorem d_MD_mixIn_151 : decode b_MD_mixIn 151 = .ok (.invokestatic 221, 3) := by decide +kernel
theorem d_MD_mixIn_154 : decode b_MD_mixIn 154 = .ok (.ixor, 1) := by decide +kernel
theorem d_MD_mixIn_155 : decode b_MD_mixIn 155 = .ok (.iadd, 1) := by decide +kernel
theorem d_MD_mixIn_156 : decode b_MD_mixIn 156 = .ok (.iload 5, 2) := by decide +kernel
theorem d_MD_mixIn_158 : decode b_MD_mixIn 158 = .ok (.iload 6, 2) := by decide +kernel
theorem d_MD_mixIn_160 : decode b_MD_mixIn 160 = .ok (.iand, 1) := by decide +kernel
theorem d_MD_mixIn_161 : decode b_MD_mixIn 161 = .ok (.iload 5, 2) := by decide +kernel
theorem d_MD_mixIn_163 : decode b_MD_mixIn 163 = .ok (.iconst (-1), 1) := by decide +kernel
theorem d_MD_mixIn_164 : decode b_MD_mixIn 164 = .ok (.ixor, 1) := by decide +kernel
theorem d_MD_mixIn_165 : decode b_MD_mixIn 165 = .ok (.iload 7, 2) := by decide +kernel
theorem d_MD_mixIn_167 : decode b_MD_mixIn 167 = .ok (.iand, 1) := by decide +kernel
theorem d_MD_mixIn_168 : decode b_MD_mixIn 168 = .ok (.ixor, 1) := by decide +kernel
theorem d_MD_mixIn_169 : decode b_MD_mixIn 169 = .ok (.iadd, 1) := by decide +kernel
theorem d_MD_mixIn_170 : decode b_MD_mixIn 170 = .ok (.aload_n 0, 1) := by decide +kernel
theorem d_MD_mixIn_171 : decode b_MD_mixIn 171 = .ok (.getfield 79, 3) := by decide +kernel
theorem d_MD_mixIn_174 : decode b_MD_mixIn 174 = .ok (.iload_n 1, 1) := by decide +kernel
theorem d_MD_mixIn_175 : decode b_MD_mixIn 175 = .ok (.iaload, 1) := by decide +kernel
theorem d_MD_mixIn_176 : decode b_MD_mixIn 176 = .ok (.iadd, 1) := by decide +kernel
theorem d_MD_mixIn_177 : decode b_MD_mixIn 177 = .ok (.aload_n 0, 1) := by decide +kernel
theorem d_MD_mixIn_178 : decode b_MD_mixIn 178 = .ok (.getfield 124, 3) := by decide +kernel
theorem d_MD_mixIn_181 : decode b_MD_mixIn 181 = .ok (.iload_n 1, 1) := by decide +kernel
theorem d_MD_mixIn_182 : decode b_MD_mixIn 182 = .ok (.iaload, 1) := by decide +kernel
theorem d_MD_mixIn_183 : decode b_MD_mixIn 183 = .ok (.iadd, 1) := by decide +kernel
theorem d_MD_mixIn_184 : decode b_MD_mixIn 184 = .ok (.istore 9, 2) := by decide +kernel
theorem d_MD_mixIn_186 : decode b_MD_mixIn 186 = .ok (.aload_n 0, 1) := by decide +kernel
theorem d_MD_mixIn_187 : decode b_MD_mixIn 187 = .ok (.getfield 127, 3) := by decide +kernel
theorem d_MD_mixIn_190 : decode b_MD_mixIn 190 = .ok (.bipush 67, 2) := by decide +kernel
theorem d_MD_mixIn_192 : decode b_MD_mixIn 192 = .ok (.iload_n 1, 1) := by decide +kernel
theorem d_MD_mixIn_193 : decode b_MD_mixIn 193 = .ok (.isub, 1) := by decide +kernel
theorem d_MD_mixIn_194 : decode b_MD_mixIn 194 = .ok (.bipush 7, 2) := by decide +kernel
theorem d_MD_mixIn_196 : decode b_MD_mixIn 196 = .ok (.iand, 1) := by decide +kernel
theorem d_MD_mixIn_197 : decode b_MD_mixIn 197 = .ok (.dup2, 1) := by decide +kernel
theorem d_MD_mixIn_198 : decode b_MD_mixIn 198 = .ok (.iaload, 1) := by decide +kernel
theorem d_MD_mixIn_199 : decode b_MD_mixIn 199 = .ok (.iload 9, 2) := by decide +kernel
theorem d_MD_mixIn_201 : decode b_MD_mixIn 201 = .ok (.iadd, 1) := by decide +kernel
theorem d_MD_mixIn_202 : decode b_MD_mixIn 202 = .ok (.iastore, 1) := by decide +kernel
theorem d_MD_mixIn_203 : decode b_MD_mixIn 203 = .ok (.aload_n 0, 1) := by decide +kernel
theorem d_MD_mixIn_204 : decode b_MD_mixIn 204 = .ok (.getfield 127, 3) := by decide +kernel
theorem d_MD_mixIn_207 : decode b_MD_mixIn 207 = .ok (.iload 8, 2) := by decide +kernel
theorem d_MD_mixIn_209 : decode b_MD_mixIn 209 = .ok (.iload 9, 2) := by decide +kernel
theorem d_MD_mixIn_211 : decode b_MD_mixIn 211 = .ok (.iload_n 2, 1) := by decide +kernel
theorem d_MD_mixIn_212 : decode b_MD_mixIn 212 = .ok (.iconst 2, 1) := by decide +kernel
theorem d_MD_mixIn_213 : decode b_MD_mixIn 213 = .ok (.invokestatic 221, 3) := by decide +kernel
theorem d_MD_mixIn_216 : decode b_MD_mixIn 216 = .ok (.iload_n 2, 1) := by decide +kernel
theorem d_MD_mixIn_217 : decode b_MD_mixIn 217 = .ok (.bipush 13, 2) := by decide +kernel
theorem d_MD_mixIn_219 : decode b_MD_mixIn 219 = .ok (.invokestatic 221, 3) := by decide +kernel
theorem d_MD_mixIn_222 : decode b_MD_mixIn 222 = .ok (.ixor, 1) := by decide +kernel
theorem d_MD_mixIn_223 : decode b_MD_mixIn 223 = .ok (.iload_n 2, 1) := by decide +kernel
theorem d_MD_mixIn_224 : decode b_MD_mixIn 224 = .ok (.bipush 22, 2) := by decide +kernel
theorem d_MD_mixIn_226 : decode b_MD_mixIn 226 = .ok (.invokestatic 221, 3) := by decide +kernel
theorem d_MD_mixIn_229 : decode b_MD_mixIn 229 = .ok (.ixor, 1) := by decide +kernel
theorem d_MD_mixIn_230 : decode b_MD_mixIn 230 = .ok (.iadd, 1) := by decide +kernel
theorem d_MD_mixIn_231 : decode b_MD_mixIn 231 = .ok (.iload_n 2, 1) := by decide +kernel
theorem d_MD_mixIn_232 : decode b_MD_mixIn 232 = .ok (.iload_n 3, 1) := by decide +kernel
theorem d_MD_mixIn_233 : decode b_MD_mixIn 233 = .ok (.iand, 1) := by decide +kernel
theorem d_MD_mixIn_234 : decode b_MD_mixIn 234 = .ok (.iload_n 2, 1) := by decide +kernel
theorem d_MD_mixIn_235 : decode b_MD_mixIn 235 = .ok (.iload 4, 2) := by decide +kernel
theorem d_MD_mixIn_237 : decode b_MD_mixIn 237 = .ok (.iand, 1) := by decide +kernel
theorem d_MD_mixIn_238 : decode b_MD_mixIn 238 = .ok (.ixor, 1) := by decide +kernel
theorem d_MD_mixIn_239 : decode b_MD_mixIn 239 = .ok (.iload_n 3, 1) := by decide +kernel
theorem d_MD_mixIn_240 : decode b_MD_mixIn 240 = .ok (.iload 4, 2) := by decide +kernel
theorem d_MD_mixIn_242 : decode b_MD_mixIn 242 = .ok (.iand, 1) := by decide +kernel
theorem d_MD_mixIn_243 : decode b_MD_mixIn 243 = .ok (.ixor, 1) := by decide +kernel
theorem d_MD_mixIn_244 : decode b_MD_mixIn 244 = .ok (.iadd, 1) := by decide +kernel
theorem d_MD_mixIn_245 : decode b_MD_mixIn 245 = .ok (.iastore, 1) := by decide +kernel
theorem d_MD_mixIn_246 : decode b_MD_mixIn 246 = .ok (.iinc 1 1, 3) := by decide +kernel
theorem d_MD_mixIn_249 : decode b_MD_mixIn 249 = .ok (.goto (-221), 3) := by decide +kernel
theorem d_MD_mixIn_252 : decode b_MD_mixIn 252 = .ok (.iconst 0, 1) := by decide +kernel
theorem d_MD_mixIn_253 : decode b_MD_mixIn 253 = .ok (.istore_n 1, 1) := by decide +kernel
theorem d_MD_mixIn_254 : decode b_MD_mixIn 254 = .ok (.iload_n 1, 1) := by decide +kernel
theorem d_MD_mixIn_255 : decode b_MD_mixIn 255 = .ok (.bipush 8, 2) := by decide +kernel
theorem d_MD_mixIn_257 : decode b_MD_mixIn 257 = .ok (.if_icmp .ge 24, 3) := by decide +kernel
theorem d_MD_mixIn_260 : decode b_MD_mixIn 260 = .ok (.aload_n 0, 1) := by decide +kernel
theorem d_MD_mixIn_261 : decode b_MD_mixIn 261 = .ok (.getfield 121, 3) := by decide +kernel
theorem d_MD_mixIn_264 : decode b_MD_mixIn 264 = .ok (.iload_n 1, 1) := by decide +kernel
theorem d_MD_mixIn_265 : decode b_MD_mixIn 265 = .ok (.dup2, 1) := by decide +kernel
theorem d_MD_mixIn_266 : decode b_MD_mixIn 266 = .ok (.iaload, 1) := by decide +kernel
theorem d_MD_mixIn_267 : decode b_MD_mixIn 267 = .ok (.aload_n 0, 1) := by decide +kernel
theorem d_MD_mixIn_268 : decode b_MD_mixIn 268 = .ok (.getfield 127, 3) := by decide +kernel
theorem d_MD_mixIn_271 : decode b_MD_mixIn 271 = .ok (.iload_n 1, 1) := by decide +kernel
theorem d_MD_mixIn_272 : decode b_MD_mixIn 272 = .ok (.iaload, 1) := by decide +kernel
theorem d_MD_mixIn_273 : decode b_MD_mixIn 273 = .ok (.iadd, 1) := by decide +kernel
theorem d_MD_mixIn_274 : decode b_MD_mixIn 274 = .ok (.iastore, 1) := by decide +kernel
theorem d_MD_mixIn_275 : decode b_MD_mixIn 275 = .ok (.iinc 1 1, 3) := by decide +kernel
theorem d_MD_mixIn_278 : decode b_MD_mixIn 278 = .ok (.goto (-24), 3) := by decide +kernel
theorem d_MD_mixIn_281 : decode b_MD_mixIn 281 = .ok (.return_, 1) := by decide +kernel
theorem d_MD_sumUp_0 : decode b_MD_sumUp 0 = .ok (.iload_n 1, 1) := by decide +kernel
theorem d_MD_sumUp_1 : decode b_MD_sumUp 1 = .ok (.bipush 9, 2) := by decide +kernel
theorem d_MD_sumUp_3 : decode b_MD_sumUp 3 = .ok (.iadd, 1) := by decide +kernel
theorem d_MD_sumUp_4 : decode b_MD_sumUp 4 = .ok (.bipush 63, 2) := by decide +kernel
theorem d_MD_sumUp_6 : decode b_MD_sumUp 6 = .ok (.iadd, 1) := by decide +kernel
theorem d_MD_sumUp_7 : decode b_MD_sumUp 7 = .ok (.bipush 64, 2) := by decide +kernel
theorem d_MD_sumUp_9 : decode b_MD_sumUp 9 = .ok (.idiv, 1) := by decide +kernel
theorem d_MD_sumUp_10 : decode b_MD_sumUp 10 = .ok (.bipush 64, 2) := by decide +kernel
theorem d_MD_sumUp_12 : decode b_MD_sumUp 12 = .ok (.imul, 1) := by decide +kernel
theorem d_MD_sumUp_13 : decode b_MD_sumUp 13 = .ok (.istore_n 2, 1) := by decide +kernel
theorem d_MD_sumUp_14 : decode b_MD_sumUp 14 = .ok (.iconst 0, 1) := by decide +kernel
theorem d_MD_sumUp_15 : decode b_MD_sumUp 15 = .ok (.istore_n 3, 1) := by decide +kernel
theorem d_MD_sumUp_16 : decode b_MD_sumUp 16 = .ok (.iload_n 3, 1) := by decide +kernel
theorem d_MD_sumUp_17 : decode b_MD_sumUp 17 = .ok (.bipush 8, 2) := by decide +kernel
theorem d_MD_sumUp_19 : decode b_MD_sumUp 19 = .ok (.if_icmp .ge 24, 3) := by decide +kernel
theorem d_MD_sumUp_22 : decode b_MD_sumUp 22 = .ok (.aload_n 0, 1) := by decide +kernel
theorem d_MD_sumUp_23 : decode b_MD_sumUp 23 = .ok (.getfield 121, 3) := by decide +kernel
theorem d_MD_sumUp_26 : decode b_MD_sumUp 26 = .ok (.iload_n 3, 1) := by decide +kernel
theorem d_MD_sumUp_27 : decode b_MD_sumUp 27 = .ok (.aload_n 0, 1) := by decide +kernel
theorem d_MD_sumUp_28 : decode b_MD_sumUp 28 = .ok (.getfield 79, 3) := by decide +kernel
theorem d_MD_sumUp_31 : decode b_MD_sumUp 31 = .ok (.bipush 64, 2) := by decide +kernel
theorem d_MD_sumUp_33 : decode b_MD_sumUp 33 = .ok (.iload_n 3, 1) := by decide +kernel
theorem d_MD_sumUp_34 : decode b_MD_sumUp 34 = .ok (.iadd, 1) := by decide +kernel
theorem d_MD_sumUp_35 : decode b_MD_sumUp 35 = .ok (.iaload, 1) := by decide +kernel
theorem d_MD_sumUp_36 : decode b_MD_sumUp 36 = .ok (.iastore, 1) := by decide +kernel
theorem d_MD_sumUp_37 : decode b_MD_sumUp 37 = .ok (.iinc 3 1, 3) := by decide +kernel
theorem d_MD_sumUp_40 : decode b_MD_sumUp 40 = .ok (.goto (-24), 3) := by decide +kernel
theorem d_MD_sumUp_43 : decode b_MD_sumUp 43 = .ok (.iconst 0, 1) := by decide +kernel
theorem d_MD_sumUp_44 : decode b_MD_sumUp 44 = .ok (.istore_n 3, 1) := by decide +kernel
theorem d_MD_sumUp_45 : decode b_MD_sumUp 45 = .ok (.iload_n 3, 1) := by decide +kernel
theorem d_MD_sumUp_46 : decode b_MD_sumUp 46 = .ok (.iload_n 2, 1) := by decide +kernel
theorem d_MD_sumUp_47 : decode b_MD_sumUp 47 = .ok (.if_icmp .ge 213, 3) := by decide +kernel
theorem d_MD_sumUp_50 : decode b_MD_sumUp 50 = .ok (.iconst 0, 1) := by decide +kernel
theorem d_MD_sumUp_51 : decode b_MD_sumUp 51 = .ok (.istore 4, 2) := by decide +kernel
theorem d_MD_sumUp_53 : decode b_MD_sumUp 53 = .ok (.iload 4, 2) := by decide +kernel
theorem d_MD_sumUp_55 : decode b_MD_sumUp 55 = .ok (.bipush 16, 2) := by decide +kernel
theorem d_MD_sumUp_57 : decode b_MD_sumUp 57 = .ok (.if_icmp .ge 82, 3) := by decide +kernel
theorem d_MD_sumUp_60 : decode b_MD_sumUp 60 = .ok (.aload_n 0, 1) := by decide +kernel
theorem d_MD_sumUp_61 : decode b_MD_sumUp 61 = .ok (.getfield 124, 3) := by decide +kernel
theorem d_MD_sumUp_64 : decode b_MD_sumUp 64 = .ok (.iload 4, 2) := by decide +kernel
theorem d_MD_sumUp_66 : decode b_MD_sumUp 66 = .ok (.aload_n 0, 1) := by decide +kernel
theorem d_MD_sumUp_67 : decode b_MD_sumUp 67 = .ok (.iload_n 3, 1) := by decide +kernel
theorem d_MD_sumUp_68 : decode b_MD_sumUp 68 = .ok (.iconst 4, 1) := by decide +kernel
theorem d_MD_sumUp_69 : decode b_MD_sumUp 69 = .ok (.iload 4, 2) := by decide +kernel
theorem d_MD_sumUp_71 : decode b_MD_sumUp 71 = .ok (.imul, 1) := by decide +kernel
theorem d_MD_sumUp_72 : decode b_MD_sumUp 72 = .ok (.iadd, 1) := by decide +kernel
theorem d_MD_sumUp_73 : decode b_MD_sumUp 73 = .ok (.iload_n 1, 1) := by decide +kernel
theorem d_MD_sumUp_74 : decode b_MD_sumUp 74 = .ok (.iload_n 2, 1) := by decide +kernel
theorem d_MD_sumUp_75 : decode b_MD_sumUp 75 = .ok (.invokevirtual 217, 3) := by decide +kernel
theorem d_MD_sumUp_78 : decode b_MD_sumUp 78 = .ok (.bipush 24, 2) := by decide +kernel
theorem d_MD_sumUp_80 : decode b_MD_sumUp 80 = .ok (.ishl, 1) := by decide +kernel
theorem d_MD_sumUp_81 : decode b_MD_sumUp 81 = .ok (.aload_n 0, 1) := by decide +kernel
theorem d_MD_sumUp_82 : decode b_MD_sumUp 82 = .ok (.iload_n 3, 1) := by decide +kernel
theorem d_MD_sumUp_83 : decode b_MD_sumUp 83 = .ok (.iconst 4, 1) := by decide +kernel
theorem d_MD_sumUp_84 : decode b_MD_sumUp 84 = .ok (.iload 4, 2) := by decide +kernel
theorem d_MD_sumUp_86 : decode b_MD_sumUp 86 = .ok (.imul, 1) := by decide +kernel
theorem d_MD_sumUp_87 : decode b_MD_sumUp 87 = .ok (.iadd, 1) := by decide +kernel
theorem d_MD_sumUp_88 : decode b_MD_sumUp 88 = .ok (.iconst 1, 1) := by decide +kernel
theorem d_MD_sumUp_89 : decode b_MD_sumUp 89 = .ok (.iadd, 1) := by decide +kernel
theorem d_MD_sumUp_90 : decode b_MD_sumUp 90 = .ok (.iload_n 1, 1) := by decide +kernel
theorem d_MD_sumUp_91 : decode b_MD_sumUp 91 = .ok (.iload_n 2, 1) := by decide +kernel
theorem d_MD_sumUp_92 : decode b_MD_sumUp 92 = .ok (.invokevirtual 217, 3) := by decide +kernel
theorem d_MD_sumUp_95 : decode b_MD_sumUp 95 = .ok (.bipush 16, 2) := by decide +kernel
theorem d_MD_sumUp_97 : decode b_MD_sumUp 97 = .ok (.ishl, 1) := by decide +kernel
theorem d_MD_sumUp_98 : decode b_MD_sumUp 98 = .ok (.ior, 1) := by decide +kernel
theorem d_MD_sumUp_99 : decode b_MD_sumUp 99 = .ok (.aload_n 0, 1) := by decide +kernel
theorem d_MD_sumUp_100 : decode b_MD_sumUp 100 = .ok (.iload_n 3, 1) := by decide +kernel
theorem d_MD_sumUp_101 : decode b_MD_sumUp 101 = .ok (.iconst 4, 1) := by decide +kernel
theorem d_MD_sumUp_102 : decode b_MD_sumUp 102 = .ok (.iload 4, 2) := by decide +kernel
theorem d_MD_sumUp_104 : decode b_MD_sumUp 104 = .ok (.imul, 1) := by decide +kernel
theorem d_MD_sumUp_105 : decode b_MD_sumUp 105 = .ok (.iadd, 1) := by decide +kernel
theorem d_MD_sumUp_106 : decode b_MD_sumUp 106 = .ok (.iconst 2, 1) := by decide +kernel
theorem d_MD_sumUp_107 : decode b_MD_sumUp 107 = .ok (.iadd, 1) := by decide +kernel
theorem d_MD_sumUp_108 : decode b_MD_sumUp 108 = .ok (.iload_n 1, 1) := by decide +kernel
theorem d_MD_sumUp_109 : decode b_MD_sumUp 109 = .ok (.iload_n 2, 1) := by decide +kernel
theorem d_MD_sumUp_110 : decode b_MD_sumUp 110 = .ok (.invokevirtual 217, 3) := by decide +kernel
theorem d_MD_sumUp_113 : decode b_MD_sumUp 113 = .ok (.bipush 8, 2) := by decide +kernel
theorem d_MD_sumUp_115 : decode b_MD_sumUp 115 = .ok (.ishl, 1) := by decide +kernel
theorem d_MD_sumUp_116 : decode b_MD_sumUp 116 = .ok (.ior, 1) := by decide +kernel
theorem d_MD_sumUp_117 : decode b_MD_sumUp 117 = .ok (.aload_n 0, 1) := by decide +kernel
theorem d_MD_sumUp_118 : decode b_MD_sumUp 118 = .ok (.iload_n 3, 1) := by decide +kernel
theorem d_MD_sumUp_119 : decode b_MD_sumUp 119 = .ok (.iconst 4, 1) := by decide +kernel
theorem d_MD_sumUp_120 : decode b_MD_sumUp 120 = .ok (.iload 4, 2) := by decide +kernel
theorem d_MD_sumUp_122 : decode b_MD_sumUp 122 = .ok (.imul, 1) := by decide +kernel
theorem d_MD_sumUp_123 : decode b_MD_sumUp 123 = .ok (.iadd, 1) := by decide +kernel
theorem d_MD_sumUp_124 : decode b_MD_sumUp 124 = .ok (.iconst 3, 1) := by decide +kernel
theorem d_MD_sumUp_125 : decode b_MD_sumUp 125 = .ok (.iadd, 1) := by decide +kernel
theorem d_MD_sumUp_126 : decode b_MD_sumUp 126 = .ok (.iload_n 1, 1) := by decide +kernel
theorem d_MD_sumUp_127 : decode b_MD_sumUp 127 = .ok (.iload_n 2, 1) := by decide +kernel
theorem d_MD_sumUp_128 : decode b_MD_sumUp 128 = .ok (.invokevirtual 217, 3) := by decide +kernel
theorem d_MD_sumUp_131 : decode b_MD_sumUp 131 = .ok (.ior, 1) := by decide +kernel
theorem d_MD_sumUp_132 : decode b_MD_sumUp 132 = .ok (.iastore, 1) := by decide +kernel
theorem d_MD_sumUp_133 : decode b_MD_sumUp 133 = .ok (.iinc 4 1, 3) := by decide +kernel
theorem d_MD_sumUp_136 : decode b_MD_sumUp 136 = .ok (.goto (-83), 3) := by decide +kernel
theorem d_MD_sumUp_139 : decode b_MD_sumUp 139 = .ok (.bipush 16, 2) := by decide +kernel
theorem d_MD_sumUp_141 : decode b_MD_sumUp 141 = .ok (.istore 4, 2) := by decide +kernel
theorem d_MD_sumUp_143 : decode b_MD_sumUp 143 = .ok (.iload 4, 2) := by decide +kernel
theorem d_MD_sumUp_145 : decode b_MD_sumUp 145 = .ok (.bipush 64, 2) := by decide +kernel
theorem d_MD_sumUp_147 : decode b_MD_sumUp 147 = .ok (.if_icmp .ge 103, 3) := by decide +kernel
theorem d_MD_sumUp_150 : decode b_MD_sumUp 150 = .ok (.aload_n 0, 1) := by decide +kernel
theorem d_MD_sumUp_151 : decode b_MD_sumUp 151 = .ok (.getfield 124, 3) := by decide +kernel
theorem d_MD_sumUp_154 : decode b_MD_sumUp 154 = .ok (.iload 4, 2) := by decide +kernel
theorem d_MD_sumUp_156 : decode b_MD_sumUp 156 = .ok (.iconst 2, 1) := by decide +kernel
theorem d_MD_sumUp_157 : decode b_MD_sumUp 157 = .ok (.isub, 1) := by decide +kernel
theorem d_MD_sumUp_158 : decode b_MD_sumUp 158 = .ok (.iaload, 1) := by decide +kernel
theorem d_MD_sumUp_159 : decode b_MD_sumUp 159 = .ok (.istore 5, 2) := by decide +kernel
theorem d_MD_sumUp_161 : decode b_MD_sumUp 161 = .ok (.aload_n 0, 1) := by decide +kernel
theorem d_MD_sumUp_162 : decode b_MD_sumUp 162 = .ok (.getfield 124, 3) := by decide +kernel
theorem d_MD_sumUp_165 : decode b_MD_sumUp 165 = .ok (.iload 4, 2) := by decide +kernel
theorem d_MD_sumUp_167 : decode b_MD_sumUp 167 = .ok (.bipush 15, 2) := by decide +kernel
theorem d_MD_sumUp_169 : decode b_MD_sumUp 169 = .ok (.isub, 1) := by decide +kernel
theorem d_MD_sumUp_170 : decode b_MD_sumUp 170 = .ok (.iaload, 1) := by decide +kernel
theorem d_MD_sumUp_171 : decode b_MD_sumUp 171 = .ok (.istore 6, 2) := by decide +kernel
theorem d_MD_sumUp_173 : decode b_MD_sumUp 173 = .ok (.aload_n 0, 1) := by decide +kernel
theorem d_MD_sumUp_174 : decode b_MD_sumUp 174 = .ok (.getfield 124, 3) := by decide +kernel
theorem d_MD_sumUp_177 : decode b_MD_sumUp 177 = .ok (.iload 4, 2) := by decide +kernel
theorem d_MD_sumUp_179 : decode b_MD_sumUp 179 = .ok (.iload 5, 2) := by decide +kernel
theorem d_MD_sumUp_181 : decode b_MD_sumUp 181 = .ok (.bipush 17, 2) := by decide +kernel
theorem d_MD_sumUp_183 : decode b_MD_sumUp 183 = .ok (.invokestatic 221, 3) := by decide +kernel
theorem d_MD_sumUp_186 : decode b_MD_sumUp 186 = .ok (.iload 5, 2) := by decide +kernel
theorem d_MD_sumUp_188 : decode b_MD_sumUp 188 = .ok (.bipush 19, 2) := by decide +kernel
theorem d_MD_sumUp_190 : decode b_MD_sumUp 190 = .ok (.invokestatic 221, 3) := by decide +kernel
theorem d_MD_sumUp_193 : decode b_MD_sumUp 193 = .ok (.ixor, 1) := by decide +kernel
theorem d_MD_sumUp_194 : decode b_MD_sumUp 194 = .ok (.iload 5, 2) := by decide +kernel
theorem d_MD_sumUp_196 : decode b_MD_sumUp 196 = .ok (.bipush 10, 2) := by decide +kernel
theorem d_MD_sumUp_198 : decode b_MD_sumUp 198 = .ok (.iushr, 1) := by decide +kernel
theorem d_MD_sumUp_199 : decode b_MD_sumUp 199 = .ok (.ixor, 1) := by decide +kernel
theorem d_MD_sumUp_200 : decode b_MD_sumUp 200 = .ok (.aload_n 0, 1) := by decide +kernel
theorem d_MD_sumUp_201 : decode b_MD_sumUp 201 = .ok (.getfield 124, 3) := by decide +kernel
theorem d_MD_sumUp_204 : decode b_MD_sumUp 204 = .ok (.iload 4, 2) := by decide +kernel
theorem d_MD_sumUp_206 : decode b_MD_sumUp 206 = .ok (.bipush 7, 2) := by decide +kernel
theorem d_MD_sumUp_208 : decode b_MD_sumUp 208 = .ok (.isub, 1) := by decide +kernel
theorem d_MD_sumUp_209 : decode b_MD_sumUp 209 = .ok (.iaload, 1) := by decide +kernel
theorem d_MD_sumUp_210 : decode b_MD_sumUp 210 = .ok (.iadd, 1) := by decide +kernel
theorem d_MD_sumUp_211 : decode b_MD_sumUp 211 = .ok (.iload 6, 2) := by decide +kernel
theorem d_MD_sumUp_213 : decode b_MD_sumUp 213 = .ok (.bipush 7, 2) := by decide +kernel
theorem d_MD_sumUp_215 : decode b_MD_sumUp 215 = .ok (.invokestatic 221, 3) := by decide +kernel
theorem d_MD_sumUp_218 : decode b_MD_sumUp 218 = .ok (.iload 6, 2) := by decide +kernel
theorem d_MD_sumUp_220 : decode b_MD_sumUp 220 = .ok (.bipush 18, 2) := by decide +kernel
theorem d_MD_sumUp_222 : decode b_MD_sumUp 222 = .ok (.invokestatic 221, 3) := by decide +kernel
theorem d_MD_sumUp_225 : decode b_MD_sumUp 225 = .ok (.ixor, 1) := by decide +kernel
theorem d_MD_sumUp_226 : decode b_MD_sumUp 226 = .ok (.iload 6, 2) := by decide +kernel
theorem d_MD_sumUp_228 : decode b_MD_sumUp 228 = .ok (.iconst 3, 1) := by decide +kernel
theorem d_MD_sumUp_229 : decode b_MD_sumUp 229 = .ok (.iushr, 1) := by decide +kernel
theorem d_MD_sumUp_230 : decode b_MD_sumUp 230 = .ok (.ixor, 1) := by decide +kernel
theorem d_MD_sumUp_231 : decode b_MD_sumUp 231 = .ok (.iadd, 1) := by decide +kernel
theorem d_MD_sumUp_232 : decode b_MD_sumUp 232 = .ok (.aload_n 0, 1) := by decide +kernel
theorem d_MD_sumUp_233 : decode b_MD_sumUp 233 = .ok (.getfield 124, 3) := by decide +kernel
theorem d_MD_sumUp_236 : decode b_MD_sumUp 236 = .ok (.iload 4, 2) := by decide +kernel
theorem d_MD_sumUp_238 : decode b_MD_sumUp 238 = .ok (.bipush 16, 2) := by decide +kernel
theorem d_MD_sumUp_240 : decode b_MD_sumUp 240 = .ok (.isub, 1) := by decide +kernel
theorem d_MD_sumUp_241 : decode b_MD_sumUp 241 = .ok (.iaload, 1) := by decide +kernel
theorem d_MD_sumUp_242 : decode b_MD_sumUp 242 = .ok (.iadd, 1) := by decide +kernel
theorem d_MD_sumUp_243 : decode b_MD_sumUp 243 = .ok (.iastore, 1) := by decide +kernel
theorem d_MD_sumUp_244 : decode b_MD_sumUp 244 = .ok (.iinc 4 1, 3) := by decide +kernel
theorem d_MD_sumUp_247 : decode b_MD_sumUp 247 = .ok (.goto (-104), 3) := by decide +kernel
theorem d_MD_sumUp_250 : decode b_MD_sumUp 250 = .ok (.aload_n 0, 1) := by decide +kernel
theorem d_MD_sumUp_251 : decode b_MD_sumUp 251 = .ok (.invokevirtual 224, 3) := by decide +kernel
theorem d_MD_sumUp_254 : decode b_MD_sumUp 254 = .ok (.iinc 3 64, 3) := by decide +kernel
theorem d_MD_sumUp_257 : decode b_MD_sumUp 257 = .ok (.goto (-212), 3) := by decide +kernel
theorem d_MD_sumUp_260 : decode b_MD_sumUp 260 = .ok (.return_, 1) := by decide +kernel
theorem d_MD_hold_0 : decode b_MD_hold 0 = .ok (.aload_n 0, 1) := by decide +kernel
theorem d_MD_hold_1 : decode b_MD_hold 1 = .ok (.iconst 0, 1) := by decide +kernel
theorem d_MD_hold_2 : decode b_MD_hold 2 = .ok (.putfield 137, 3) := by decide +kernel
theorem d_MD_hold_5 : decode b_MD_hold 5 = .ok (.aload_n 0, 1) := by decide +kernel
theorem d_MD_hold_6 : decode b_MD_hold 6 = .ok (.invokevirtual 164, 3) := by decide +kernel
theorem d_MD_hold_9 : decode b_MD_hold 9 = .ok (.istore_n 1, 1) := by decide +kernel
theorem d_MD_hold_10 : decode b_MD_hold 10 = .ok (.iconst 0, 1) := by decide +kernel
theorem d_MD_hold_11 : decode b_MD_hold 11 = .ok (.istore_n 2, 1) := by decide +kernel
theorem d_MD_hold_12 : decode b_MD_hold 12 = .ok (.iload_n 2, 1) := by decide +kernel
theorem d_MD_hold_13 : decode b_MD_hold 13 = .ok (.iload_n 1, 1) := by decide +kernel
theorem d_MD_hold_14 : decode b_MD_hold 14 = .ok (.if_icmp .ge 21, 3) := by decide +kernel
theorem d_MD_hold_17 : decode b_MD_hold 17 = .ok (.aload_n 0, 1) := by decide +kernel
theorem d_MD_hold_18 : decode b_MD_hold 18 = .ok (.getfield 118, 3) := by decide +kernel
theorem d_MD_hold_21 : decode b_MD_hold 21 = .ok (.iload_n 2, 1) := by decide +kernel
theorem d_MD_hold_22 : decode b_MD_hold 22 = .ok (.aload_n 0, 1) := by decide +kernel
theorem d_MD_hold_23 : decode b_MD_hold 23 = .ok (.getfield 85, 3) := by decide +kernel
theorem d_MD_hold_26 : decode b_MD_hold 26 = .ok (.iload_n 2, 1) := by decide +kernel
theorem d_MD_hold_27 : decode b_MD_hold 27 = .ok (.iaload, 1) := by decide +kernel
theorem d_MD_hold_28 : decode b_MD_hold 28 = .ok (.iastore, 1) := by decide +kernel
theorem d_MD_hold_29 : decode b_MD_hold 29 = .ok (.iinc 2 1, 3) := by decide +kernel
theorem d_MD_hold_32 : decode b_MD_hold 32 = .ok (.goto (-20), 3) := by decide +kernel
theorem d_MD_hold_35 : decode b_MD_hold 35 = .ok (.aload_n 0, 1) := by decide +kernel
theorem d_MD_hold_36 : decode b_MD_hold 36 = .ok (.iload_n 1, 1) := by decide +kernel
theorem d_MD_hold_37 : decode b_MD_hold 37 = .ok (.invokevirtual 130, 3) := by decide +kernel
theorem d_MD_hold_40 : decode b_MD_hold 40 = .ok (.aload_n 0, 1) := by decide +kernel
theorem d_MD_hold_41 : decode b_MD_hold 41 = .ok (.invokevirtual 134, 3) := by decide +kernel
theorem d_MD_hold_44 : decode b_MD_hold 44 = .ok (.return_, 1) := by decide +kernel
theorem d_MD_digest_0 : decode b_MD_digest 0 = .ok (.aload_n 0, 1) := by decide +kernel
theorem d_MD_digest_1 : decode b_MD_digest 1 = .ok (.iconst 0, 1) := by decide +kernel
theorem d_MD_digest_2 : decode b_MD_digest 2 = .ok (.putfield 137, 3) := by decide +kernel
theorem d_MD_digest_5 : decode b_MD_digest 5 = .ok (.aload_n 0, 1) := by decide +kernel
theorem d_MD_digest_6 : decode b_MD_digest 6 = .ok (.iload_n 1, 1) := by decide +kernel
theorem d_MD_digest_7 : decode b_MD_digest 7 = .ok (.invokevirtual 168, 3) := by decide +kernel
theorem d_MD_digest_10 : decode b_MD_digest 10 = .ok (.ifCond .eq 13, 3) := by decide +kernel
theorem d_MD_digest_13 : decode b_MD_digest 13 = .ok (.iload_n 2, 1) := by decide +kernel
theorem d_MD_digest_14 : decode b_MD_digest 14 = .ok (.ifCond .lt 9, 3) := by decide +kernel
theorem d_MD_digest_17 : decode b_MD_digest 17 = .ok (.iload_n 2, 1) := by decide +kernel
theorem d_MD_digest_18 : decode b_MD_digest 18 = .ok (.bipush 7, 2) := by decide +kernel
theorem d_MD_digest_20 : decode b_MD_digest 20 = .ok (.if_icmp .le 5, 3) := by decide +kernel
theorem d_MD_digest_23 : decode b_MD_digest 23 = .ok (.iconst 0, 1) := by decide +kernel
theorem d_MD_digest_24 : decode b_MD_digest 24 = .ok (.ireturn, 1) := by decide +kernel
theorem d_MD_digest_25 : decode b_MD_digest 25 = .ok (.aload_n 0, 1) := by decide +kernel
theorem d_MD_digest_26 : decode b_MD_digest 26 = .ok (.iload_n 1, 1) := by decide +kernel
theorem d_MD_digest_27 : decode b_MD_digest 27 = .ok (.invokevirtual 212, 3) := by decide +kernel
theorem d_MD_digest_30 : decode b_MD_digest 30 = .ok (.aload_n 0, 1) := by decide +kernel
theorem d_MD_digest_31 : decode b_MD_digest 31 = .ok (.getfield 203, 3) := by decide +kernel
theorem d_MD_digest_34 : decode b_MD_digest 34 = .ok (.iconst 1, 1) := by decide +kernel
theorem d_MD_digest_35 : decode b_MD_digest 35 = .ok (.isub, 1) := by decide +kernel
theorem d_MD_digest_36 : decode b_MD_digest 36 = .ok (.istore_n 3, 1) := by decide +kernel
theorem d_MD_digest_37 : decode b_MD_digest 37 = .ok (.iload_n 3, 1) := by decide +kernel
theorem d_MD_digest_38 : decode b_MD_digest 38 = .ok (.ifCond .lt 26, 3) := by decide +kernel
theorem d_MD_digest_41 : decode b_MD_digest 41 = .ok (.aload_n 0, 1) := by decide +kernel
theorem d_MD_digest_42 : decode b_MD_digest 42 = .ok (.getfield 118, 3) := by decide +kernel
theorem d_MD_digest_45 : decode b_MD_digest 45 = .ok (.iload_n 3, 1) := by decide +kernel
theorem d_MD_digest_46 : decode b_MD_digest 46 = .ok (.aload_n 0, 1) := by decide +kernel
theorem d_MD_digest_47 : decode b_MD_digest 47 = .ok (.getfield 186, 3) := by decide +kernel
theorem d_MD_digest_50 : decode b_MD_digest 50 = .ok (.iadd, 1) := by decide +kernel
theorem d_MD_digest_51 : decode b_MD_digest 51 = .ok (.aload_n 0, 1) := by decide +kernel
theorem d_MD_digest_52 : decode b_MD_digest 52 = .ok (.getfield 118, 3) := by decide +kernel
theorem d_MD_digest_55 : decode b_MD_digest 55 = .ok (.iload_n 3, 1) := by decide +kernel
theorem d_MD_digest_56 : decode b_MD_digest 56 = .ok (.iaload, 1) := by decide +kernel
theorem d_MD_digest_57 : decode b_MD_digest 57 = .ok (.iastore, 1) := by decide +kernel
theorem d_MD_digest_58 : decode b_MD_digest 58 = .ok (.iinc 3 (-1), 3) := by decide +kernel
theorem d_MD_digest_61 : decode b_MD_digest 61 = .ok (.goto (-24), 3) := by decide +kernel
theorem d_MD_digest_64 : decode b_MD_digest 64 = .ok (.iconst 0, 1) := by decide +kernel
theorem d_MD_digest_65 : decode b_MD_digest 65 = .ok (.istore_n 3, 1) := by decide +kernel
theorem d_MD_digest_66 : decode b_MD_digest 66 = .ok (.iload_n 3, 1) := by decide +kernel
theorem d_MD_digest_67 : decode b_MD_digest 67 = .ok (.aload_n 0, 1) := by decide +kernel
theorem d_MD_digest_68 : decode b_MD_digest 68 = .ok (.getfield 186, 3) := by decide +kernel
theorem d_MD_digest_71 : decode b_MD_digest 71 = .ok (.if_icmp .ge 21, 3) := by decide +kernel
theorem d_MD_digest_74 : decode b_MD_digest 74 = .ok (.aload_n 0, 1) := by decide +kernel
theorem d_MD_digest_75 : decode b_MD_digest 75 = .ok (.getfield 118, 3) := by decide +kernel
theorem d_MD_digest_78 : decode b_MD_digest 78 = .ok (.iload_n 3, 1) := by decide +kernel
theorem d_MD_digest_79 : decode b_MD_digest 79 = .ok (.aload_n 0, 1) := by decide +kernel
theorem d_MD_digest_80 : decode b_MD_digest 80 = .ok (.getfield 115, 3) := by decide +kernel
theorem d_MD_digest_83 : decode b_MD_digest 83 = .ok (.iload_n 3, 1) := by decide +kernel
theorem d_MD_digest_84 : decode b_MD_digest 84 = .ok (.iaload, 1) := by decide +kernel
theorem d_MD_digest_85 : decode b_MD_digest 85 = .ok (.iastore, 1) := by decide +kernel
theorem d_MD_digest_86 : decode b_MD_digest 86 = .ok (.iinc 3 1, 3) := by decide +kernel
theorem d_MD_digest_89 : decode b_MD_digest 89 = .ok (.goto (-23), 3) := by decide +kernel
theorem d_MD_digest_92 : decode b_MD_digest 92 = .ok (.aload_n 0, 1) := by decide +kernel
theorem d_MD_digest_93 : decode b_MD_digest 93 = .ok (.aload_n 0, 1) := by decide +kernel
theorem d_MD_digest_94 : decode b_MD_digest 94 = .ok (.getfield 203, 3) := by decide +kernel
theorem d_MD_digest_97 : decode b_MD_digest 97 = .ok (.aload_n 0, 1) := by decide +kernel
theorem d_MD_digest_98 : decode b_MD_digest 98 = .ok (.getfield 186, 3) := by decide +kernel
theorem d_MD_digest_101 : decode b_MD_digest 101 = .ok (.iadd, 1) := by decide +kernel
theorem d_MD_digest_102 : decode b_MD_digest 102 = .ok (.invokevirtual 130, 3) := by decide +kernel
theorem d_MD_digest_105 : decode b_MD_digest 105 = .ok (.aload_n 0, 1) := by decide +kernel
theorem d_MD_digest_106 : decode b_MD_digest 106 = .ok (.getfield 121, 3) := by decide +kernel
theorem d_MD_digest_109 : decode b_MD_digest 109 = .ok (.iload_n 2, 1) := by decide +kernel
theorem d_MD_digest_110 : decode b_MD_digest 110 = .ok (.iaload, 1) := by decide +kernel
theorem d_MD_digest_111 : decode b_MD_digest 111 = .ok (.ireturn, 1) := by decide +kernel
set_option maxHeartbeats 4000000 in
set_option maxRecDepth 100000 in
/-- a byte of the padded text -/
theorem c_MD_byteAt (l : Launch) (D : va_G) (ct : Nat → ClassId) (Z : hp_Z) (hZ : hp_Zok Z) (M : hp_M) (sz : Nat) (md : Nat) (B : MA) (V : MS) (hw : mdS ct M md B V) (T : List Nat) (hT3 : T.length ≤ 2700) (hcT : ∀ i, T.getD i 0 < 65536) (hsb : ∀ i, i < T.length → V.sb i = T.getD i 0) (nb k : Nat) (enb : nb = (T.length + 72) / 64) (hk : k < nb * 64) : Mi l y_MD_byteAt b_MD_byteAt 6 (some .int) 0 0 0 0 [.ref md, .int (nI k), .int (nI (T.length)), .int (nI (nb * 64))] D ct Z M sz (fun r M1 => M1 = M ∧ r = nI (padB T k)) := by
  refine hp_start (by decide) (Nat.le_of_ble_eq_true rfl) (fun p e s m below meth c ls S hret hlk hnm hsz hK hM hS hA hz hl => ?_)
  have hx := S.1
  have hb := S.2.1
  have hl : lv_has ls 6 [(0, .ref md), (1, .int (nI k)), (2, .int (nI (T.length))), (3, .int (nI (nb * 64)))] := hl
  obtain ⟨f_md, f_ro, f_te, f_he, f_cn, f_kd, f_sz, f_ky, f_le, f_dg, f_nm, f_ns, f_sl, f_sb, f_su, f_wi, f_tu, hB, hV⟩ := id hw
  obtain ⟨n_kdsz, n_kdky, n_szky, n_hens, n_hesu, n_hetu, n_nssu, n_nstu, n_sutu, n_tewi⟩ := id hB
  obtain ⟨b_te, b_cn, b_kd, b_sz, b_ky, b_le, b_nm, b_ns, b_sl, b_sb, b_co, b_ty, b_ac, b_al, b_sd, b_ss⟩ := id hV
  refine lv_iload_n hx hb d_MD_byteAt_0 rfl (lv_at hl 1 rfl) ?_
  refine lv_iload_n hx hb d_MD_byteAt_1 rfl (lv_at hl 2 rfl) ?_
  refine nb_ge (tgt := 12) hx hb d_MD_byteAt_2 (by decide) (by omega) (by omega) (fun h1 => ?_) (fun h1 => ?_)
  · refine lv_iload_n hx hb d_MD_byteAt_12 rfl (lv_at hl 1 rfl) ?_
    refine lv_iload_n hx hb d_MD_byteAt_13 rfl (lv_at hl 2 rfl) ?_
    refine nb_ne (tgt := 21) hx hb d_MD_byteAt_14 (by decide) (by omega) (by omega) (fun h2 => ?_) (fun h2 => ?_)
    · refine lv_ldc2 hx hb S.2.2.2.1 (S.2.2.2.2 _ mq_MD_215) d_MD_byteAt_21 ?_
      refine lv_iload_n hx hb d_MD_byteAt_24 rfl (lv_at hl 2 rfl) ?_
      refine lv_i2l hx hb d_MD_byteAt_25 rfl ?_
      refine lv_lmul hx hb d_MD_byteAt_26 ?_
      refine lv_lstore (lv' := [(4, .long (8 * (Int32.toInt64 (nI (T.length))))), (0, .ref md), (1, .int (nI k)), (2, .int (nI (T.length))), (3, .int (nI (nb * 64)))]) hx hb d_MD_byteAt_27 hl (by decide) rfl (fun ls hl => ?_)
      refine lv_iload_n hx hb d_MD_byteAt_29 rfl (lv_at hl 2 rfl) ?_
      refine lv_iload_n hx hb d_MD_byteAt_30 rfl (lv_at hl 4 rfl) ?_
      refine lv_bipush (v := nI 8) hx hb d_MD_byteAt_31 rfl ?_
      refine nb_isub hx hb d_MD_byteAt_33 (by omega) ?_
      refine nb_ge (tgt := 41) hx hb d_MD_byteAt_34 (by decide) (by omega) (by omega) (fun h3 => ?_) (fun h3 => ?_)
      · refine lv_lload hx hb d_MD_byteAt_41 (lv_at hl 0 rfl) ?_
        refine lv_bipush (v := nI 8) hx hb d_MD_byteAt_43 rfl ?_
        refine lv_iload_n hx hb d_MD_byteAt_45 rfl (lv_at hl 4 rfl) ?_
        refine lv_iconst (v := nI 1) hx hb d_MD_byteAt_46 rfl ?_
        refine nb_isub hx hb d_MD_byteAt_47 (by omega) ?_
        refine lv_iload_n hx hb d_MD_byteAt_48 rfl (lv_at hl 2 rfl) ?_
        refine nb_isub hx hb d_MD_byteAt_49 (by omega) ?_
        refine nb_imul hx hb d_MD_byteAt_50 ?_
        refine lv_lshr hx hb d_MD_byteAt_51 rfl ?_
        refine lv_l2i hx hb d_MD_byteAt_52 rfl ?_
        refine lv_sipush (v := nI 255) hx hb d_MD_byteAt_53 rfl ?_
        refine lv_iand hx hb d_MD_byteAt_56 ?_
        exact hp_iret S hret hlk (rfl) hM hS (⟨rfl, by unfold padB; rw [if_neg (by omega), if_neg h2, if_neg (by omega), ← enb]; exact lshr_len (by omega) (by omega)⟩) d_MD_byteAt_57
      · refine lv_iconst (v := nI 0) hx hb d_MD_byteAt_37 rfl ?_
        refine lv_goto (tgt := 57) hx hb d_MD_byteAt_38 (by decide) ?_
        exact hp_iret S hret hlk (rfl) hM hS (⟨rfl, by unfold padB; rw [if_neg (by omega), if_neg h2, if_pos (by omega)]⟩) d_MD_byteAt_57
    · refine lv_sipush (v := nI 128) hx hb d_MD_byteAt_17 rfl ?_
      exact hp_iret S hret hlk (rfl) hM hS (⟨rfl, by unfold padB; rw [if_neg (by omega), if_pos h2]⟩) d_MD_byteAt_20
  · refine lv_aload_n hx hb d_MD_byteAt_5 rfl (lv_at hl 0 rfl) ?_
    refine hp_get S hK hM i_MD f_md rfl 17 (by decide) mf_MD_118 (fun _ h9 => h9) rfl d_MD_byteAt_6 ?_
    refine lv_iload_n hx hb d_MD_byteAt_9 rfl (lv_at hl 1 rfl) ?_
    refine hp_iald S hK hM 1 f_sb rfl k rfl (by omega) (by omega) d_MD_byteAt_10 ?_
    exact hp_iret S hret hlk (rfl) hM hS (⟨rfl, by unfold padB; rw [if_pos h1]; exact congrArg nI (hsb k h1)⟩) d_MD_byteAt_11
theorem mix_s {w s0 tu : Nat → Int32} {t : Nat} {x y : Int32} (ht : t < 64) (h : ∀ i, i < 8 → tu ((64 - t + i) % 8) = mixn w s0 t i) (hx : x = rnX (kF t) (w t) (fun i => tu ((64 - t + i) % 8))) (hy : y = x + rnY (fun i => tu ((64 - t + i) % 8))) : ∀ i, i < 8 → upd (upd tu ((67 - t) % 8) (tu ((67 - t) % 8) + x)) ((71 - t) % 8) y ((64 - (t + 1) + i) % 8) = mixn w s0 (t + 1) i := by
  intro i hi
  have hv : ∀ i, i < 8 → rnd (kF t) (w t) (fun i => tu ((64 - t + i) % 8)) i = mixn w s0 (t + 1) i := rnd_c h
  rw [← hv i hi]
  rcases (show i = 0 ∨ i = 1 ∨ i = 2 ∨ i = 3 ∨ i = 4 ∨ i = 5 ∨ i = 6 ∨ i = 7 by omega) with z | z | z | z | z | z | z | z
  · subst z
    rw [show (64 - (t + 1) + 0) % 8 = (71 - t) % 8 by omega, pk_us, hy, hx]
    rfl
  · subst z
    rw [pk_un (by omega), pk_un (by omega), show (64 - (t + 1) + 1) % 8 = (64 - t + 0) % 8 by omega]
    rfl
  · subst z
    rw [pk_un (by omega), pk_un (by omega), show (64 - (t + 1) + 2) % 8 = (64 - t + 1) % 8 by omega]
    rfl
  · subst z
    rw [pk_un (by omega), pk_un (by omega), show (64 - (t + 1) + 3) % 8 = (64 - t + 2) % 8 by omega]
    rfl
  · subst z
    rw [pk_un (by omega), show (64 - (t + 1) + 4) % 8 = (67 - t) % 8 by omega, pk_us, hx, show (67 - t) % 8 = (64 - t + 3) % 8 by omega]
    rfl
  · subst z
    rw [pk_un (by omega), pk_un (by omega), show (64 - (t + 1) + 5) % 8 = (64 - t + 4) % 8 by omega]
    rfl
  · subst z
    rw [pk_un (by omega), pk_un (by omega), show (64 - (t + 1) + 6) % 8 = (64 - t + 5) % 8 by omega]
    rfl
  · subst z
    rw [pk_un (by omega), pk_un (by omega), show (64 - (t + 1) + 7) % 8 = (64 - t + 6) % 8 by omega]
    rfl
theorem roF_lt {t : Nat} (h : t < 64) : roF t = kF t := if_pos h
theorem roF_ge {t : Nat} : roF (64 + t) = hF t := by
  unfold roF
  rw [if_neg (by omega), Nat.add_sub_cancel_left]
set_option maxHeartbeats 4000000 in
set_option maxRecDepth 100000 in
/-- a block is mixed in -/
theorem c_MD_mixIn (l : Launch) (D : va_G) (ct : Nat → ClassId) (Z : hp_Z) (hZ : hp_Zok Z) (M : hp_M) (sz : Nat) (md : Nat) (B : MA) (V : MS) (hw : mdS ct M md B V) : Mv l y_MD_mixIn b_MD_mixIn 10 none 1 21 0 0 [.ref md] D ct Z M sz (fun M1 => ∃ su tu, mdS ct M1 md B (mkS (V.te) (V.cn) (V.kd) (V.sz) (V.ky) (V.le) (V.nm) (V.ns) (V.sl) (V.sb) (V.he) (V.dg) su (V.wi) tu (V.co) (V.ty) (V.ac) (V.al) (V.sd) (V.ss)) ∧ ∀ i, i < 8 → su i = V.su i + mixn V.wi V.su 64 i) := by
  refine hp_start (by decide) (Nat.le_of_ble_eq_true rfl) (fun p e s m below meth c ls S hret hlk hnm hsz hK hM hS hA hz hl => ?_)
  have hx := S.1
  have hb := S.2.1
  have hl : lv_has ls 10 [(0, .ref md)] := hl
  obtain ⟨f_md, f_ro, f_te, f_he, f_cn, f_kd, f_sz, f_ky, f_le, f_dg, f_nm, f_ns, f_sl, f_sb, f_su, f_wi, f_tu, hB, hV⟩ := id hw
  obtain ⟨n_kdsz, n_kdky, n_szky, n_hens, n_hesu, n_hetu, n_nssu, n_nstu, n_sutu, n_tewi⟩ := id hB
  obtain ⟨b_te, b_cn, b_kd, b_sz, b_ky, b_le, b_nm, b_ns, b_sl, b_sb, b_co, b_ty, b_ac, b_al, b_sd, b_ss⟩ := id hV
  refine lv_iconst (v := nI 0) hx hb d_MD_mixIn_0 rfl ?_
  refine lv_istore_n (lv' := [(1, .int (nI 0)), (0, .ref md)]) hx hb d_MD_mixIn_1 rfl hl (by decide) rfl (fun ls hl => ?_)
  replace hl : lv_has ls 10 [(0, .ref md), (1, .int (nI 0))] := lv_sub hl [1, 0] rfl
  obtain ⟨k, e9k⟩ : ∃ z : Nat, z = 0 := ⟨_, rfl⟩
  obtain ⟨tu, e9tu⟩ : ∃ z : Nat → Int32, z = V.tu := ⟨_, rfl⟩
  replace hl : lv_has ls 10 [(0, .ref md), (1, .int (nI k))] := by subst e9k e9tu; exact hl
  obtain ⟨H, e9H⟩ : ∃ z : Heap, z = s.heap := ⟨_, rfl⟩
  replace hM : hp_H D ccl (hp_A M sz) M H := by rw [e9H]; exact hM
  replace hS : va_S (hp_A M sz) s.heap H [] := by rw [e9H]; exact hS
  rw [← e9H]
  clear e9H
  obtain ⟨locs, e9L⟩ : ∃ z : List Loc, z = [] := ⟨_, rfl⟩
  replace hS : va_S (hp_A M sz) s.heap H locs := by rw [e9L]; exact hS
  rw [← e9L]
  clear e9L
  obtain ⟨N1, e9N1⟩ : ∃ z : hp_M, z = M := ⟨_, rfl⟩
  replace hM : hp_H D ccl (hp_A M sz) N1 H := by rw [e9N1]; exact hM
  replace f_md : N1 md = some (.inr (6, [.ref B.ro, .int (nI (V.co)), .ref B.te, .int (nI (V.ty)), .int (nI (V.ac)), .int (nI (V.al)), .int (nI (V.sd)), .ref B.he, .ref B.cn, .ref B.kd, .ref B.sz, .ref B.ky, .ref B.le, .ref B.dg, .ref B.nm, .ref B.ns, .ref B.sl, .ref B.sb, .int (nI (V.ss)), .ref B.su, .ref B.wi, .ref B.tu])) := by rw [e9N1]; exact f_md
  replace f_ro : N1 B.ro = some (.inl (ct 1, 72, .inl roF)) := by rw [e9N1]; exact f_ro
  replace f_te : N1 B.te = some (.inl (ct 1, 64, .inl (nf V.te))) := by rw [e9N1]; exact f_te
  replace f_he : N1 B.he = some (.inl (ct 1, 8, .inl (V.he))) := by rw [e9N1]; exact f_he
  replace f_cn : N1 B.cn = some (.inl (ct 1, 12, .inl (nf V.cn))) := by rw [e9N1]; exact f_cn
  replace f_kd : N1 B.kd = some (.inl (ct 1, 288, .inl (nf V.kd))) := by rw [e9N1]; exact f_kd
  replace f_sz : N1 B.sz = some (.inl (ct 1, 288, .inl (nf V.sz))) := by rw [e9N1]; exact f_sz
  replace f_ky : N1 B.ky = some (.inl (ct 1, 288, .inl (nf V.ky))) := by rw [e9N1]; exact f_ky
  replace f_le : N1 B.le = some (.inl (ct 1, 18432, .inl (nf V.le))) := by rw [e9N1]; exact f_le
  replace f_dg : N1 B.dg = some (.inl (ct 1, 2304, .inl (V.dg))) := by rw [e9N1]; exact f_dg
  replace f_nm : N1 B.nm = some (.inl (ct 1, 128, .inl (nf V.nm))) := by rw [e9N1]; exact f_nm
  replace f_ns : N1 B.ns = some (.inl (ct 1, 8, .inl (nf V.ns))) := by rw [e9N1]; exact f_ns
  replace f_sl : N1 B.sl = some (.inl (ct 1, 16, .inl (nf V.sl))) := by rw [e9N1]; exact f_sl
  replace f_sb : N1 B.sb = some (.inl (ct 1, 3000, .inl (nf V.sb))) := by rw [e9N1]; exact f_sb
  replace f_su : N1 B.su = some (.inl (ct 1, 8, .inl (V.su))) := by rw [e9N1]; exact f_su
  replace f_wi : N1 B.wi = some (.inl (ct 1, 64, .inl (V.wi))) := by rw [e9N1]; exact f_wi
  replace f_tu : N1 B.tu = some (.inl (ct 1, 8, .inl (V.tu))) := by rw [e9N1]; exact f_tu
  replace f_tu : N1 B.tu = some (.inl (ct 1, 8, .inl tu)) := by subst e9k e9tu; exact f_tu
  have htu : ∀ i, i < k → tu i = V.su i := by subst e9k e9tu; intro i hi; omega
  obtain ⟨fu1, hn1⟩ : ∃ fu : Nat, k + fu = 8 := ⟨8 - k, by omega⟩
  clear e9k e9tu e9N1
  induction fu1 generalizing k tu H locs N1 ls with
  | zero =>
    refine lv_iload_n hx hb d_MD_mixIn_2 rfl (lv_at hl 1 rfl) ?_
    refine lv_bipush (v := nI 8) hx hb d_MD_mixIn_3 rfl ?_
    refine nb_ge (tgt := 26) hx hb d_MD_mixIn_5 (by decide) (by omega) (by omega) (fun h2 => ?_) (fun h2 => ?_)
    · refine lv_iconst (v := nI 0) hx hb d_MD_mixIn_26 rfl ?_
      refine lv_istore_n (lv' := [(1, .int (nI 0)), (0, .ref md)]) hx hb d_MD_mixIn_27 rfl hl (by decide) rfl (fun ls hl => ?_)
      have hk8 : k = 8 := by omega
      replace hl : lv_has ls 10 [(0, .ref md), (1, .int (nI 0))] := lv_sub hl [1, 0] rfl
      obtain ⟨t, e9t⟩ : ∃ z : Nat, z = 0 := ⟨_, rfl⟩
      obtain ⟨tv, e9tv⟩ : ∃ z : Nat → Int32, z = tu := ⟨_, rfl⟩
      replace hl : lv_has ls 10 [(0, .ref md), (1, .int (nI t))] := by subst e9t e9tv; exact hl
      obtain ⟨N3, e9N3⟩ : ∃ z : hp_M, z = N1 := ⟨_, rfl⟩
      replace hM : hp_H D ccl (hp_A M sz) N3 H := by rw [e9N3]; exact hM
      replace f_md : N3 md = some (.inr (6, [.ref B.ro, .int (nI (V.co)), .ref B.te, .int (nI (V.ty)), .int (nI (V.ac)), .int (nI (V.al)), .int (nI (V.sd)), .ref B.he, .ref B.cn, .ref B.kd, .ref B.sz, .ref B.ky, .ref B.le, .ref B.dg, .ref B.nm, .ref B.ns, .ref B.sl, .ref B.sb, .int (nI (V.ss)), .ref B.su, .ref B.wi, .ref B.tu])) := by rw [e9N3]; exact f_md
      replace f_ro : N3 B.ro = some (.inl (ct 1, 72, .inl roF)) := by rw [e9N3]; exact f_ro
      replace f_te : N3 B.te = some (.inl (ct 1, 64, .inl (nf V.te))) := by rw [e9N3]; exact f_te
      replace f_he : N3 B.he = some (.inl (ct 1, 8, .inl (V.he))) := by rw [e9N3]; exact f_he
      replace f_cn : N3 B.cn = some (.inl (ct 1, 12, .inl (nf V.cn))) := by rw [e9N3]; exact f_cn
      replace f_kd : N3 B.kd = some (.inl (ct 1, 288, .inl (nf V.kd))) := by rw [e9N3]; exact f_kd
      replace f_sz : N3 B.sz = some (.inl (ct 1, 288, .inl (nf V.sz))) := by rw [e9N3]; exact f_sz
      replace f_ky : N3 B.ky = some (.inl (ct 1, 288, .inl (nf V.ky))) := by rw [e9N3]; exact f_ky
      replace f_le : N3 B.le = some (.inl (ct 1, 18432, .inl (nf V.le))) := by rw [e9N3]; exact f_le
      replace f_dg : N3 B.dg = some (.inl (ct 1, 2304, .inl (V.dg))) := by rw [e9N3]; exact f_dg
      replace f_nm : N3 B.nm = some (.inl (ct 1, 128, .inl (nf V.nm))) := by rw [e9N3]; exact f_nm
      replace f_ns : N3 B.ns = some (.inl (ct 1, 8, .inl (nf V.ns))) := by rw [e9N3]; exact f_ns
      replace f_sl : N3 B.sl = some (.inl (ct 1, 16, .inl (nf V.sl))) := by rw [e9N3]; exact f_sl
      replace f_sb : N3 B.sb = some (.inl (ct 1, 3000, .inl (nf V.sb))) := by rw [e9N3]; exact f_sb
      replace f_su : N3 B.su = some (.inl (ct 1, 8, .inl (V.su))) := by rw [e9N3]; exact f_su
      replace f_wi : N3 B.wi = some (.inl (ct 1, 64, .inl (V.wi))) := by rw [e9N3]; exact f_wi
      replace f_tu : N3 B.tu = some (.inl (ct 1, 8, .inl tu)) := by rw [e9N3]; exact f_tu
      replace f_tu : N3 B.tu = some (.inl (ct 1, 8, .inl tv)) := by subst e9t e9tv; exact f_tu
      have htv : ∀ i, i < 8 → tv ((64 - t + i) % 8) = mixn V.wi V.su t i := by subst e9t e9tv; intro i hi; rw [show (64 - 0 + i) % 8 = i by omega]; exact htu i (by omega)
      obtain ⟨fu2, hn2⟩ : ∃ fu : Nat, t + fu = 64 := ⟨64 - t, by omega⟩
      clear e9t e9tv e9N3
      induction fu2 generalizing t tv H locs N3 ls with
      | zero =>
        have ht64 : t = 64 := by omega
        subst ht64
        refine lv_iload_n hx hb d_MD_mixIn_28 rfl (lv_at hl 1 rfl) ?_
        refine lv_bipush (v := nI 64) hx hb d_MD_mixIn_29 rfl ?_
        refine nb_ge (tgt := 252) hx hb d_MD_mixIn_31 (by decide) (by omega) (by omega) (fun h4 => ?_) (fun h4 => ?_)
        · refine lv_iconst (v := nI 0) hx hb d_MD_mixIn_252 rfl ?_
          refine lv_istore_n (lv' := [(1, .int (nI 0)), (0, .ref md)]) hx hb d_MD_mixIn_253 rfl hl (by decide) rfl (fun ls hl => ?_)
          replace hl : lv_has ls 10 [(0, .ref md), (1, .int (nI 0))] := lv_sub hl [1, 0] rfl
          obtain ⟨j, e9j⟩ : ∃ z : Nat, z = 0 := ⟨_, rfl⟩
          obtain ⟨su, e9su⟩ : ∃ z : Nat → Int32, z = V.su := ⟨_, rfl⟩
          replace hl : lv_has ls 10 [(0, .ref md), (1, .int (nI j))] := by subst e9j e9su; exact hl
          obtain ⟨N5, e9N5⟩ : ∃ z : hp_M, z = N3 := ⟨_, rfl⟩
          replace hM : hp_H D ccl (hp_A M sz) N5 H := by rw [e9N5]; exact hM
          replace f_md : N5 md = some (.inr (6, [.ref B.ro, .int (nI (V.co)), .ref B.te, .int (nI (V.ty)), .int (nI (V.ac)), .int (nI (V.al)), .int (nI (V.sd)), .ref B.he, .ref B.cn, .ref B.kd, .ref B.sz, .ref B.ky, .ref B.le, .ref B.dg, .ref B.nm, .ref B.ns, .ref B.sl, .ref B.sb, .int (nI (V.ss)), .ref B.su, .ref B.wi, .ref B.tu])) := by rw [e9N5]; exact f_md
          replace f_ro : N5 B.ro = some (.inl (ct 1, 72, .inl roF)) := by rw [e9N5]; exact f_ro
          replace f_te : N5 B.te = some (.inl (ct 1, 64, .inl (nf V.te))) := by rw [e9N5]; exact f_te
          replace f_he : N5 B.he = some (.inl (ct 1, 8, .inl (V.he))) := by rw [e9N5]; exact f_he
          replace f_cn : N5 B.cn = some (.inl (ct 1, 12, .inl (nf V.cn))) := by rw [e9N5]; exact f_cn
          replace f_kd : N5 B.kd = some (.inl (ct 1, 288, .inl (nf V.kd))) := by rw [e9N5]; exact f_kd
          replace f_sz : N5 B.sz = some (.inl (ct 1, 288, .inl (nf V.sz))) := by rw [e9N5]; exact f_sz
          replace f_ky : N5 B.ky = some (.inl (ct 1, 288, .inl (nf V.ky))) := by rw [e9N5]; exact f_ky
          replace f_le : N5 B.le = some (.inl (ct 1, 18432, .inl (nf V.le))) := by rw [e9N5]; exact f_le
          replace f_dg : N5 B.dg = some (.inl (ct 1, 2304, .inl (V.dg))) := by rw [e9N5]; exact f_dg
          replace f_nm : N5 B.nm = some (.inl (ct 1, 128, .inl (nf V.nm))) := by rw [e9N5]; exact f_nm
          replace f_ns : N5 B.ns = some (.inl (ct 1, 8, .inl (nf V.ns))) := by rw [e9N5]; exact f_ns
          replace f_sl : N5 B.sl = some (.inl (ct 1, 16, .inl (nf V.sl))) := by rw [e9N5]; exact f_sl
          replace f_sb : N5 B.sb = some (.inl (ct 1, 3000, .inl (nf V.sb))) := by rw [e9N5]; exact f_sb
          replace f_su : N5 B.su = some (.inl (ct 1, 8, .inl (V.su))) := by rw [e9N5]; exact f_su
          replace f_wi : N5 B.wi = some (.inl (ct 1, 64, .inl (V.wi))) := by rw [e9N5]; exact f_wi
          replace f_tu : N5 B.tu = some (.inl (ct 1, 8, .inl tv)) := by rw [e9N5]; exact f_tu
          replace f_su : N5 B.su = some (.inl (ct 1, 8, .inl su)) := by subst e9j e9su; exact f_su
          have hsu : ∀ i, su i = if i < j then V.su i + tv i else V.su i := by subst e9j e9su; intro i; rw [if_neg (Nat.not_lt_zero i)]
          obtain ⟨fu3, hn3⟩ : ∃ fu : Nat, j + fu = 8 := ⟨8 - j, by omega⟩
          clear e9j e9su e9N5
          induction fu3 generalizing j su H locs N5 ls with
          | zero =>
            refine lv_iload_n hx hb d_MD_mixIn_254 rfl (lv_at hl 1 rfl) ?_
            refine lv_bipush (v := nI 8) hx hb d_MD_mixIn_255 rfl ?_
            refine nb_ge (tgt := 281) hx hb d_MD_mixIn_257 (by decide) (by omega) (by omega) (fun h6 => ?_) (fun h6 => ?_)
            · exact hp_vret S hret hlk hM hS (⟨su, tv, ⟨f_md, f_ro, f_te, f_he, f_cn, f_kd, f_sz, f_ky, f_le, f_dg, f_nm, f_ns, f_sl, f_sb, f_su, f_wi, f_tu, hB, b_te, b_cn, b_kd, b_sz, b_ky, b_le, b_nm, b_ns, b_sl, b_sb, b_co, b_ty, b_ac, b_al, b_sd, b_ss⟩, fun i hi => by have h9 := htv i hi; rw [show (64 - 64 + i) % 8 = i by omega] at h9; rw [hsu i, if_pos (by omega), h9]⟩) d_MD_mixIn_281
            · exact absurd hn3 (by omega)
          | succ fu3 ih3 =>
            refine lv_iload_n hx hb d_MD_mixIn_254 rfl (lv_at hl 1 rfl) ?_
            refine lv_bipush (v := nI 8) hx hb d_MD_mixIn_255 rfl ?_
            refine nb_ge (tgt := 281) hx hb d_MD_mixIn_257 (by decide) (by omega) (by omega) (fun h7 => ?_) (fun h7 => ?_)
            · exact absurd hn3 (by omega)
            · refine lv_aload_n hx hb d_MD_mixIn_260 rfl (lv_at hl 0 rfl) ?_
              refine hp_get S hK hM i_MD f_md rfl 19 (by decide) mf_MD_121 (fun _ h9 => h9) rfl d_MD_mixIn_261 ?_
              refine lv_iload_n hx hb d_MD_mixIn_264 rfl (lv_at hl 1 rfl) ?_
              refine lv_dup2_11 hx hb d_MD_mixIn_265 rfl rfl ?_
              refine hp_iald S hK hM 1 f_su rfl j rfl (by omega) (by omega) d_MD_mixIn_266 ?_
              refine lv_aload_n hx hb d_MD_mixIn_267 rfl (lv_at hl 0 rfl) ?_
              refine hp_get S hK hM i_MD f_md rfl 21 (by decide) mf_MD_127 (fun _ h9 => h9) rfl d_MD_mixIn_268 ?_
              refine lv_iload_n hx hb d_MD_mixIn_271 rfl (lv_at hl 1 rfl) ?_
              refine hp_iald S hK hM 1 f_tu rfl j rfl (by omega) (by omega) d_MD_mixIn_272 ?_
              refine lv_iadd hx hb d_MD_mixIn_273 ?_
              refine hp_iast S hK hM hS 1 f_su rfl j rfl (by omega) (by omega) d_MD_mixIn_274 (fun H locs hM hS => ?_)
              have f_md := hp_k (e := (.inl (ct 1, 8, .inl (upd su j ((su j) + (tv j)))))) (hp_ne f_md f_su (by simp)) f_md
              have f_ro := hp_k (e := (.inl (ct 1, 8, .inl (upd su j ((su j) + (tv j)))))) (hp_ne f_ro f_su (by simp)) f_ro
              have f_te := hp_k (e := (.inl (ct 1, 8, .inl (upd su j ((su j) + (tv j)))))) (hp_ne f_te f_su (by simp)) f_te
              have f_he := hp_k (e := (.inl (ct 1, 8, .inl (upd su j ((su j) + (tv j)))))) n_hesu f_he
              have f_cn := hp_k (e := (.inl (ct 1, 8, .inl (upd su j ((su j) + (tv j)))))) (hp_ne f_cn f_su (by simp)) f_cn
              have f_kd := hp_k (e := (.inl (ct 1, 8, .inl (upd su j ((su j) + (tv j)))))) (hp_ne f_kd f_su (by simp)) f_kd
              have f_sz := hp_k (e := (.inl (ct 1, 8, .inl (upd su j ((su j) + (tv j)))))) (hp_ne f_sz f_su (by simp)) f_sz
              have f_ky := hp_k (e := (.inl (ct 1, 8, .inl (upd su j ((su j) + (tv j)))))) (hp_ne f_ky f_su (by simp)) f_ky
              have f_le := hp_k (e := (.inl (ct 1, 8, .inl (upd su j ((su j) + (tv j)))))) (hp_ne f_le f_su (by simp)) f_le
              have f_dg := hp_k (e := (.inl (ct 1, 8, .inl (upd su j ((su j) + (tv j)))))) (hp_ne f_dg f_su (by simp)) f_dg
              have f_nm := hp_k (e := (.inl (ct 1, 8, .inl (upd su j ((su j) + (tv j)))))) (hp_ne f_nm f_su (by simp)) f_nm
              have f_ns := hp_k (e := (.inl (ct 1, 8, .inl (upd su j ((su j) + (tv j)))))) n_nssu f_ns
              have f_sl := hp_k (e := (.inl (ct 1, 8, .inl (upd su j ((su j) + (tv j)))))) (hp_ne f_sl f_su (by simp)) f_sl
              have f_sb := hp_k (e := (.inl (ct 1, 8, .inl (upd su j ((su j) + (tv j)))))) (hp_ne f_sb f_su (by simp)) f_sb
              have f_wi := hp_k (e := (.inl (ct 1, 8, .inl (upd su j ((su j) + (tv j)))))) (hp_ne f_wi f_su (by simp)) f_wi
              have f_tu := hp_k (e := (.inl (ct 1, 8, .inl (upd su j ((su j) + (tv j)))))) (Ne.symm n_sutu) f_tu
              have f_su : hp_up N5 B.su (.inl (ct 1, 8, .inl (upd su j ((su j) + (tv j))))) B.su = some (.inl (ct 1, 8, .inl (upd su j ((su j) + (tv j))))) := hp_us
              obtain ⟨M8, eM8⟩ : ∃ z, z = hp_up N5 B.su (.inl (ct 1, 8, .inl (upd su j ((su j) + (tv j))))) := ⟨_, rfl⟩
              rw [← eM8] at hM f_md f_ro f_te f_he f_cn f_kd f_sz f_ky f_le f_dg f_nm f_ns f_sl f_sb f_su f_wi f_tu
              refine lv_iinc (v := nI (j + 1)) (lv' := [(1, .int (nI (j + 1))), (0, .ref md)]) hx hb d_MD_mixIn_275 hl (k := 1) rfl (nI_add j 1) (by decide) rfl (fun ls hl => ?_)
              refine lv_goto (tgt := 254) hx hb d_MD_mixIn_278 (by decide) ?_
              exact ih3 (ls := ls) (hl := lv_sub hl [1, 0] rfl) (hn3 := by omega) (j := j + 1) (su := upd su j ((su j) + (tv j))) (hsu := fun i => by by_cases z : i = j; (rw [z, pk_us, hsu j, if_neg (Nat.lt_irrefl j), if_pos (Nat.lt_succ_self j)]); (rw [pk_un z, hsu i]; by_cases y : i < j; (rw [if_pos y, if_pos (by omega)]); (rw [if_neg y, if_neg (by omega)]))) (H := H) (locs := locs) (hM := hM) (hS := hS) (N5 := M8) (f_md := f_md) (f_ro := f_ro) (f_te := f_te) (f_he := f_he) (f_cn := f_cn) (f_kd := f_kd) (f_sz := f_sz) (f_ky := f_ky) (f_le := f_le) (f_dg := f_dg) (f_nm := f_nm) (f_ns := f_ns) (f_sl := f_sl) (f_sb := f_sb) (f_su := f_su) (f_wi := f_wi) (f_tu := f_tu)
        · exact absurd hn2 (by omega)
      | succ fu2 ih2 =>
        refine lv_iload_n hx hb d_MD_mixIn_28 rfl (lv_at hl 1 rfl) ?_
        refine lv_bipush (v := nI 64) hx hb d_MD_mixIn_29 rfl ?_
        refine nb_ge (tgt := 252) hx hb d_MD_mixIn_31 (by decide) (by omega) (by omega) (fun h9 => ?_) (fun h9 => ?_)
        · exact absurd hn2 (by omega)
        · refine lv_aload_n hx hb d_MD_mixIn_34 rfl (lv_at hl 0 rfl) ?_
          refine hp_get S hK hM i_MD f_md rfl 21 (by decide) mf_MD_127 (fun _ h9 => h9) rfl d_MD_mixIn_35 ?_
          refine lv_bipush (v := nI 64) hx hb d_MD_mixIn_38 rfl ?_
          refine lv_iload_n hx hb d_MD_mixIn_40 rfl (lv_at hl 1 rfl) ?_
          refine nb_isub hx hb d_MD_mixIn_41 (by omega) ?_
          refine lv_bipush (v := nI 7) hx hb d_MD_mixIn_42 rfl ?_
          refine lv_iand hx hb d_MD_mixIn_44 ?_
          rw [and7 (by omega)]
          refine hp_iald S hK hM 1 f_tu rfl ((64 - t) % 8) rfl (by omega) (by omega) d_MD_mixIn_45 ?_
          refine lv_topi (fun v10 ev10 => ?_)
          refine lv_istore_n (lv' := [(2, .int v10), (0, .ref md), (1, .int (nI t))]) hx hb d_MD_mixIn_46 rfl hl (by decide) rfl (fun ls hl => ?_)
          refine lv_aload_n hx hb d_MD_mixIn_47 rfl (lv_at hl 1 rfl) ?_
          refine hp_get S hK hM i_MD f_md rfl 21 (by decide) mf_MD_127 (fun _ h9 => h9) rfl d_MD_mixIn_48 ?_
          refine lv_bipush (v := nI 65) hx hb d_MD_mixIn_51 rfl ?_
          refine lv_iload_n hx hb d_MD_mixIn_53 rfl (lv_at hl 2 rfl) ?_
          refine nb_isub hx hb d_MD_mixIn_54 (by omega) ?_
          refine lv_bipush (v := nI 7) hx hb d_MD_mixIn_55 rfl ?_
          refine lv_iand hx hb d_MD_mixIn_57 ?_
          rw [and7 (by omega)]
          refine hp_iald S hK hM 1 f_tu rfl ((65 - t) % 8) rfl (by omega) (by omega) d_MD_mixIn_58 ?_
          refine lv_topi (fun v11 ev11 => ?_)
          refine lv_istore_n (lv' := [(3, .int v11), (2, .int v10), (0, .ref md), (1, .int (nI t))]) hx hb d_MD_mixIn_59 rfl hl (by decide) rfl (fun ls hl => ?_)
          refine lv_aload_n hx hb d_MD_mixIn_60 rfl (lv_at hl 2 rfl) ?_
          refine hp_get S hK hM i_MD f_md rfl 21 (by decide) mf_MD_127 (fun _ h9 => h9) rfl d_MD_mixIn_61 ?_
          refine lv_bipush (v := nI 66) hx hb d_MD_mixIn_64 rfl ?_
          refine lv_iload_n hx hb d_MD_mixIn_66 rfl (lv_at hl 3 rfl) ?_
          refine nb_isub hx hb d_MD_mixIn_67 (by omega) ?_
          refine lv_bipush (v := nI 7) hx hb d_MD_mixIn_68 rfl ?_
          refine lv_iand hx hb d_MD_mixIn_70 ?_
          rw [and7 (by omega)]
          refine hp_iald S hK hM 1 f_tu rfl ((66 - t) % 8) rfl (by omega) (by omega) d_MD_mixIn_71 ?_
          refine lv_topi (fun v12 ev12 => ?_)
          refine lv_istore (lv' := [(4, .int v12), (3, .int v11), (2, .int v10), (0, .ref md), (1, .int (nI t))]) hx hb d_MD_mixIn_72 hl (by decide) rfl (fun ls hl => ?_)
          refine lv_aload_n hx hb d_MD_mixIn_74 rfl (lv_at hl 3 rfl) ?_
          refine hp_get S hK hM i_MD f_md rfl 21 (by decide) mf_MD_127 (fun _ h9 => h9) rfl d_MD_mixIn_75 ?_
          refine lv_bipush (v := nI 68) hx hb d_MD_mixIn_78 rfl ?_
          refine lv_iload_n hx hb d_MD_mixIn_80 rfl (lv_at hl 4 rfl) ?_
          refine nb_isub hx hb d_MD_mixIn_81 (by omega) ?_
          refine lv_bipush (v := nI 7) hx hb d_MD_mixIn_82 rfl ?_
          refine lv_iand hx hb d_MD_mixIn_84 ?_
          rw [and7 (by omega)]
          refine hp_iald S hK hM 1 f_tu rfl ((68 - t) % 8) rfl (by omega) (by omega) d_MD_mixIn_85 ?_
          refine lv_topi (fun v13 ev13 => ?_)
          refine lv_istore (lv' := [(5, .int v13), (4, .int v12), (3, .int v11), (2, .int v10), (0, .ref md), (1, .int (nI t))]) hx hb d_MD_mixIn_86 hl (by decide) rfl (fun ls hl => ?_)
          refine lv_aload_n hx hb d_MD_mixIn_88 rfl (lv_at hl 4 rfl) ?_
          refine hp_get S hK hM i_MD f_md rfl 21 (by decide) mf_MD_127 (fun _ h9 => h9) rfl d_MD_mixIn_89 ?_
          refine lv_bipush (v := nI 69) hx hb d_MD_mixIn_92 rfl ?_
          refine lv_iload_n hx hb d_MD_mixIn_94 rfl (lv_at hl 5 rfl) ?_
          refine nb_isub hx hb d_MD_mixIn_95 (by omega) ?_
          refine lv_bipush (v := nI 7) hx hb d_MD_mixIn_96 rfl ?_
          refine lv_iand hx hb d_MD_mixIn_98 ?_
          rw [and7 (by omega)]
          refine hp_iald S hK hM 1 f_tu rfl ((69 - t) % 8) rfl (by omega) (by omega) d_MD_mixIn_99 ?_
          refine lv_topi (fun v14 ev14 => ?_)
          refine lv_istore (lv' := [(6, .int v14), (5, .int v13), (4, .int v12), (3, .int v11), (2, .int v10), (0, .ref md), (1, .int (nI t))]) hx hb d_MD_mixIn_100 hl (by decide) rfl (fun ls hl => ?_)
          refine lv_aload_n hx hb d_MD_mixIn_102 rfl (lv_at hl 5 rfl) ?_
          refine hp_get S hK hM i_MD f_md rfl 21 (by decide) mf_MD_127 (fun _ h9 => h9) rfl d_MD_mixIn_103 ?_
          refine lv_bipush (v := nI 70) hx hb d_MD_mixIn_106 rfl ?_
          refine lv_iload_n hx hb d_MD_mixIn_108 rfl (lv_at hl 6 rfl) ?_
          refine nb_isub hx hb d_MD_mixIn_109 (by omega) ?_
          refine lv_bipush (v := nI 7) hx hb d_MD_mixIn_110 rfl ?_
          refine lv_iand hx hb d_MD_mixIn_112 ?_
          rw [and7 (by omega)]
          refine hp_iald S hK hM 1 f_tu rfl ((70 - t) % 8) rfl (by omega) (by omega) d_MD_mixIn_113 ?_
          refine lv_topi (fun v15 ev15 => ?_)
          refine lv_istore (lv' := [(7, .int v15), (6, .int v14), (5, .int v13), (4, .int v12), (3, .int v11), (2, .int v10), (0, .ref md), (1, .int (nI t))]) hx hb d_MD_mixIn_114 hl (by decide) rfl (fun ls hl => ?_)
          refine lv_bipush (v := nI 71) hx hb d_MD_mixIn_116 rfl ?_
          refine lv_iload_n hx hb d_MD_mixIn_118 rfl (lv_at hl 7 rfl) ?_
          refine nb_isub hx hb d_MD_mixIn_119 (by omega) ?_
          refine lv_bipush (v := nI 7) hx hb d_MD_mixIn_120 rfl ?_
          refine lv_iand hx hb d_MD_mixIn_122 ?_
          rw [and7 (by omega)]
          refine lv_istore (lv' := [(8, .int (nI ((71 - t) % 8))), (7, .int v15), (6, .int v14), (5, .int v13), (4, .int v12), (3, .int v11), (2, .int v10), (0, .ref md), (1, .int (nI t))]) hx hb d_MD_mixIn_123 hl (by decide) rfl (fun ls hl => ?_)
          refine lv_aload_n hx hb d_MD_mixIn_125 rfl (lv_at hl 7 rfl) ?_
          refine hp_get S hK hM i_MD f_md rfl 21 (by decide) mf_MD_127 (fun _ h9 => h9) rfl d_MD_mixIn_126 ?_
          refine lv_iload hx hb d_MD_mixIn_129 (lv_at hl 0 rfl) ?_
          refine hp_iald S hK hM 1 f_tu rfl ((71 - t) % 8) rfl (by omega) (by omega) d_MD_mixIn_131 ?_
          refine lv_iload hx hb d_MD_mixIn_132 (lv_at hl 3 rfl) ?_
          refine lv_bipush (v := nI 6) hx hb d_MD_mixIn_134 rfl ?_
          refine hp_calli (go_S S hZ hK hM hS hA hz (c_MD_turned l D ct Z hZ _ _ v13 6 (by decide)) mc_MD_turned mz_MD ml_MD_221 ms_MD_turned hd_MD_turned rfl ⟨by decide, by decide⟩ hl.1 rfl (Nat.le_of_ble_eq_true rfl) d_MD_mixIn_136 ⟨by decide, by decide⟩) hM hS hA (fun r16 N17 H locs hr16 hM hS => ?_)
          rw [hr16.1] at hM
          replace hr16 := hr16.2
          subst hr16
          refine lv_iload hx hb d_MD_mixIn_139 (lv_at hl 3 rfl) ?_
          refine lv_bipush (v := nI 11) hx hb d_MD_mixIn_141 rfl ?_
          refine hp_calli (go_S S hZ hK hM hS hA hz (c_MD_turned l D ct Z hZ _ _ v13 11 (by decide)) mc_MD_turned mz_MD ml_MD_221 ms_MD_turned hd_MD_turned rfl ⟨by decide, by decide⟩ hl.1 rfl (Nat.le_of_ble_eq_true rfl) d_MD_mixIn_143 ⟨by decide, by decide⟩) hM hS hA (fun r18 N19 H locs hr18 hM hS => ?_)
          rw [hr18.1] at hM
          replace hr18 := hr18.2
          subst hr18
          refine lv_ixor hx hb d_MD_mixIn_146 ?_
          refine lv_iload hx hb d_MD_mixIn_147 (lv_at hl 3 rfl) ?_
          refine lv_bipush (v := nI 25) hx hb d_MD_mixIn_149 rfl ?_
          refine hp_calli (go_S S hZ hK hM hS hA hz (c_MD_turned l D ct Z hZ _ _ v13 25 (by decide)) mc_MD_turned mz_MD ml_MD_221 ms_MD_turned hd_MD_turned rfl ⟨by decide, by decide⟩ hl.1 rfl (Nat.le_of_ble_eq_true rfl) d_MD_mixIn_151 ⟨by decide, by decide⟩) hM hS hA (fun r20 N21 H locs hr20 hM hS => ?_)
          rw [hr20.1] at hM
          replace hr20 := hr20.2
          subst hr20
          refine lv_ixor hx hb d_MD_mixIn_154 ?_
          refine lv_iadd hx hb d_MD_mixIn_155 ?_
          refine lv_iload hx hb d_MD_mixIn_156 (lv_at hl 3 rfl) ?_
          refine lv_iload hx hb d_MD_mixIn_158 (lv_at hl 2 rfl) ?_
          refine lv_iand hx hb d_MD_mixIn_160 ?_
          refine lv_iload hx hb d_MD_mixIn_161 (lv_at hl 3 rfl) ?_
          refine lv_iconst (v := -1) hx hb d_MD_mixIn_163 (by decide) ?_
          refine lv_ixor hx hb d_MD_mixIn_164 ?_
          refine lv_iload hx hb d_MD_mixIn_165 (lv_at hl 1 rfl) ?_
          refine lv_iand hx hb d_MD_mixIn_167 ?_
          refine lv_ixor hx hb d_MD_mixIn_168 ?_
          refine lv_iadd hx hb d_MD_mixIn_169 ?_
          refine lv_aload_n hx hb d_MD_mixIn_170 rfl (lv_at hl 7 rfl) ?_
          refine hp_get S hK hM i_MD f_md rfl 0 (by decide) mf_MD_79 (fun _ h9 => h9) rfl d_MD_mixIn_171 ?_
          refine lv_iload_n hx hb d_MD_mixIn_174 rfl (lv_at hl 8 rfl) ?_
          refine hp_iald S hK hM 1 f_ro rfl t rfl (by omega) (by omega) d_MD_mixIn_175 ?_
          refine lv_iadd hx hb d_MD_mixIn_176 ?_
          refine lv_aload_n hx hb d_MD_mixIn_177 rfl (lv_at hl 7 rfl) ?_
          refine hp_get S hK hM i_MD f_md rfl 20 (by decide) mf_MD_124 (fun _ h9 => h9) rfl d_MD_mixIn_178 ?_
          refine lv_iload_n hx hb d_MD_mixIn_181 rfl (lv_at hl 8 rfl) ?_
          refine hp_iald S hK hM 1 f_wi rfl t rfl (by omega) (by omega) d_MD_mixIn_182 ?_
          refine lv_iadd hx hb d_MD_mixIn_183 ?_
          refine lv_topi (fun v22 ev22 => ?_)
          refine lv_istore (lv' := [(9, .int v22), (8, .int (nI ((71 - t) % 8))), (7, .int v15), (6, .int v14), (5, .int v13), (4, .int v12), (3, .int v11), (2, .int v10), (0, .ref md), (1, .int (nI t))]) hx hb d_MD_mixIn_184 hl (by decide) rfl (fun ls hl => ?_)
          refine lv_aload_n hx hb d_MD_mixIn_186 rfl (lv_at hl 8 rfl) ?_
          refine hp_get S hK hM i_MD f_md rfl 21 (by decide) mf_MD_127 (fun _ h9 => h9) rfl d_MD_mixIn_187 ?_
          refine lv_bipush (v := nI 67) hx hb d_MD_mixIn_190 rfl ?_
          refine lv_iload_n hx hb d_MD_mixIn_192 rfl (lv_at hl 9 rfl) ?_
          refine nb_isub hx hb d_MD_mixIn_193 (by omega) ?_
          refine lv_bipush (v := nI 7) hx hb d_MD_mixIn_194 rfl ?_
          refine lv_iand hx hb d_MD_mixIn_196 ?_
          rw [and7 (by omega)]
          refine lv_dup2_11 hx hb d_MD_mixIn_197 rfl rfl ?_
          refine hp_iald S hK hM 1 f_tu rfl ((67 - t) % 8) rfl (by omega) (by omega) d_MD_mixIn_198 ?_
          refine lv_iload hx hb d_MD_mixIn_199 (lv_at hl 0 rfl) ?_
          refine lv_iadd hx hb d_MD_mixIn_201 ?_
          refine hp_iast S hK hM hS 1 f_tu rfl ((67 - t) % 8) rfl (by omega) (by omega) d_MD_mixIn_202 (fun H locs hM hS => ?_)
          have f_md := hp_k (e := (.inl (ct 1, 8, .inl (upd tv ((67 - t) % 8) ((tv ((67 - t) % 8)) + v22))))) (hp_ne f_md f_tu (by simp)) f_md
          have f_ro := hp_k (e := (.inl (ct 1, 8, .inl (upd tv ((67 - t) % 8) ((tv ((67 - t) % 8)) + v22))))) (hp_ne f_ro f_tu (by simp)) f_ro
          have f_te := hp_k (e := (.inl (ct 1, 8, .inl (upd tv ((67 - t) % 8) ((tv ((67 - t) % 8)) + v22))))) (hp_ne f_te f_tu (by simp)) f_te
          have f_he := hp_k (e := (.inl (ct 1, 8, .inl (upd tv ((67 - t) % 8) ((tv ((67 - t) % 8)) + v22))))) n_hetu f_he
          have f_cn := hp_k (e := (.inl (ct 1, 8, .inl (upd tv ((67 - t) % 8) ((tv ((67 - t) % 8)) + v22))))) (hp_ne f_cn f_tu (by simp)) f_cn
          have f_kd := hp_k (e := (.inl (ct 1, 8, .inl (upd tv ((67 - t) % 8) ((tv ((67 - t) % 8)) + v22))))) (hp_ne f_kd f_tu (by simp)) f_kd
          have f_sz := hp_k (e := (.inl (ct 1, 8, .inl (upd tv ((67 - t) % 8) ((tv ((67 - t) % 8)) + v22))))) (hp_ne f_sz f_tu (by simp)) f_sz
          have f_ky := hp_k (e := (.inl (ct 1, 8, .inl (upd tv ((67 - t) % 8) ((tv ((67 - t) % 8)) + v22))))) (hp_ne f_ky f_tu (by simp)) f_ky
          have f_le := hp_k (e := (.inl (ct 1, 8, .inl (upd tv ((67 - t) % 8) ((tv ((67 - t) % 8)) + v22))))) (hp_ne f_le f_tu (by simp)) f_le
          have f_dg := hp_k (e := (.inl (ct 1, 8, .inl (upd tv ((67 - t) % 8) ((tv ((67 - t) % 8)) + v22))))) (hp_ne f_dg f_tu (by simp)) f_dg
          have f_nm := hp_k (e := (.inl (ct 1, 8, .inl (upd tv ((67 - t) % 8) ((tv ((67 - t) % 8)) + v22))))) (hp_ne f_nm f_tu (by simp)) f_nm
          have f_ns := hp_k (e := (.inl (ct 1, 8, .inl (upd tv ((67 - t) % 8) ((tv ((67 - t) % 8)) + v22))))) n_nstu f_ns
          have f_sl := hp_k (e := (.inl (ct 1, 8, .inl (upd tv ((67 - t) % 8) ((tv ((67 - t) % 8)) + v22))))) (hp_ne f_sl f_tu (by simp)) f_sl
          have f_sb := hp_k (e := (.inl (ct 1, 8, .inl (upd tv ((67 - t) % 8) ((tv ((67 - t) % 8)) + v22))))) (hp_ne f_sb f_tu (by simp)) f_sb
          have f_su := hp_k (e := (.inl (ct 1, 8, .inl (upd tv ((67 - t) % 8) ((tv ((67 - t) % 8)) + v22))))) n_sutu f_su
          have f_wi := hp_k (e := (.inl (ct 1, 8, .inl (upd tv ((67 - t) % 8) ((tv ((67 - t) % 8)) + v22))))) (hp_ne f_wi f_tu (by simp)) f_wi
          have f_tu : hp_up N3 B.tu (.inl (ct 1, 8, .inl (upd tv ((67 - t) % 8) ((tv ((67 - t) % 8)) + v22)))) B.tu = some (.inl (ct 1, 8, .inl (upd tv ((67 - t) % 8) ((tv ((67 - t) % 8)) + v22)))) := hp_us
          obtain ⟨M23, eM23⟩ : ∃ z, z = hp_up N3 B.tu (.inl (ct 1, 8, .inl (upd tv ((67 - t) % 8) ((tv ((67 - t) % 8)) + v22)))) := ⟨_, rfl⟩
          rw [← eM23] at hM f_md f_ro f_te f_he f_cn f_kd f_sz f_ky f_le f_dg f_nm f_ns f_sl f_sb f_su f_wi f_tu
          refine lv_aload_n hx hb d_MD_mixIn_203 rfl (lv_at hl 8 rfl) ?_
          refine hp_get S hK hM i_MD f_md rfl 21 (by decide) mf_MD_127 (fun _ h9 => h9) rfl d_MD_mixIn_204 ?_
          refine lv_iload hx hb d_MD_mixIn_207 (lv_at hl 1 rfl) ?_
          refine lv_iload hx hb d_MD_mixIn_209 (lv_at hl 0 rfl) ?_
          refine lv_iload_n hx hb d_MD_mixIn_211 rfl (lv_at hl 7 rfl) ?_
          refine lv_iconst (v := nI 2) hx hb d_MD_mixIn_212 rfl ?_
          refine hp_calli (go_S S hZ hK hM hS hA hz (c_MD_turned l D ct Z hZ _ _ v10 2 (by decide)) mc_MD_turned mz_MD ml_MD_221 ms_MD_turned hd_MD_turned rfl ⟨by decide, by decide⟩ hl.1 rfl (Nat.le_of_ble_eq_true rfl) d_MD_mixIn_213 ⟨by decide, by decide⟩) hM hS hA (fun r24 N25 H locs hr24 hM hS => ?_)
          rw [hr24.1] at hM
          replace hr24 := hr24.2
          subst hr24
          refine lv_iload_n hx hb d_MD_mixIn_216 rfl (lv_at hl 7 rfl) ?_
          refine lv_bipush (v := nI 13) hx hb d_MD_mixIn_217 rfl ?_
          refine hp_calli (go_S S hZ hK hM hS hA hz (c_MD_turned l D ct Z hZ _ _ v10 13 (by decide)) mc_MD_turned mz_MD ml_MD_221 ms_MD_turned hd_MD_turned rfl ⟨by decide, by decide⟩ hl.1 rfl (Nat.le_of_ble_eq_true rfl) d_MD_mixIn_219 ⟨by decide, by decide⟩) hM hS hA (fun r26 N27 H locs hr26 hM hS => ?_)
          rw [hr26.1] at hM
          replace hr26 := hr26.2
          subst hr26
          refine lv_ixor hx hb d_MD_mixIn_222 ?_
          refine lv_iload_n hx hb d_MD_mixIn_223 rfl (lv_at hl 7 rfl) ?_
          refine lv_bipush (v := nI 22) hx hb d_MD_mixIn_224 rfl ?_
          refine hp_calli (go_S S hZ hK hM hS hA hz (c_MD_turned l D ct Z hZ _ _ v10 22 (by decide)) mc_MD_turned mz_MD ml_MD_221 ms_MD_turned hd_MD_turned rfl ⟨by decide, by decide⟩ hl.1 rfl (Nat.le_of_ble_eq_true rfl) d_MD_mixIn_226 ⟨by decide, by decide⟩) hM hS hA (fun r28 N29 H locs hr28 hM hS => ?_)
          rw [hr28.1] at hM
          replace hr28 := hr28.2
          subst hr28
          refine lv_ixor hx hb d_MD_mixIn_229 ?_
          refine lv_iadd hx hb d_MD_mixIn_230 ?_
          refine lv_iload_n hx hb d_MD_mixIn_231 rfl (lv_at hl 7 rfl) ?_
          refine lv_iload_n hx hb d_MD_mixIn_232 rfl (lv_at hl 6 rfl) ?_
          refine lv_iand hx hb d_MD_mixIn_233 ?_
          refine lv_iload_n hx hb d_MD_mixIn_234 rfl (lv_at hl 7 rfl) ?_
          refine lv_iload hx hb d_MD_mixIn_235 (lv_at hl 5 rfl) ?_
          refine lv_iand hx hb d_MD_mixIn_237 ?_
          refine lv_ixor hx hb d_MD_mixIn_238 ?_
          refine lv_iload_n hx hb d_MD_mixIn_239 rfl (lv_at hl 6 rfl) ?_
          refine lv_iload hx hb d_MD_mixIn_240 (lv_at hl 5 rfl) ?_
          refine lv_iand hx hb d_MD_mixIn_242 ?_
          refine lv_ixor hx hb d_MD_mixIn_243 ?_
          refine lv_iadd hx hb d_MD_mixIn_244 ?_
          refine hp_iast S hK hM hS 1 f_tu rfl ((71 - t) % 8) rfl (by omega) (by omega) d_MD_mixIn_245 (fun H locs hM hS => ?_)
          have f_md := hp_k (e := (.inl (ct 1, 8, .inl (upd (upd tv ((67 - t) % 8) ((tv ((67 - t) % 8)) + v22)) ((71 - t) % 8) ((v22 + (((tr v10 2) ^^^ (tr v10 13)) ^^^ (tr v10 22))) + (((v10 &&& v11) ^^^ (v10 &&& v12)) ^^^ (v11 &&& v12))))))) (hp_ne f_md f_tu (by simp)) f_md
          have f_ro := hp_k (e := (.inl (ct 1, 8, .inl (upd (upd tv ((67 - t) % 8) ((tv ((67 - t) % 8)) + v22)) ((71 - t) % 8) ((v22 + (((tr v10 2) ^^^ (tr v10 13)) ^^^ (tr v10 22))) + (((v10 &&& v11) ^^^ (v10 &&& v12)) ^^^ (v11 &&& v12))))))) (hp_ne f_ro f_tu (by simp)) f_ro
          have f_te := hp_k (e := (.inl (ct 1, 8, .inl (upd (upd tv ((67 - t) % 8) ((tv ((67 - t) % 8)) + v22)) ((71 - t) % 8) ((v22 + (((tr v10 2) ^^^ (tr v10 13)) ^^^ (tr v10 22))) + (((v10 &&& v11) ^^^ (v10 &&& v12)) ^^^ (v11 &&& v12))))))) (hp_ne f_te f_tu (by simp)) f_te
          have f_he := hp_k (e := (.inl (ct 1, 8, .inl (upd (upd tv ((67 - t) % 8) ((tv ((67 - t) % 8)) + v22)) ((71 - t) % 8) ((v22 + (((tr v10 2) ^^^ (tr v10 13)) ^^^ (tr v10 22))) + (((v10 &&& v11) ^^^ (v10 &&& v12)) ^^^ (v11 &&& v12))))))) n_hetu f_he
          have f_cn := hp_k (e := (.inl (ct 1, 8, .inl (upd (upd tv ((67 - t) % 8) ((tv ((67 - t) % 8)) + v22)) ((71 - t) % 8) ((v22 + (((tr v10 2) ^^^ (tr v10 13)) ^^^ (tr v10 22))) + (((v10 &&& v11) ^^^ (v10 &&& v12)) ^^^ (v11 &&& v12))))))) (hp_ne f_cn f_tu (by simp)) f_cn
          have f_kd := hp_k (e := (.inl (ct 1, 8, .inl (upd (upd tv ((67 - t) % 8) ((tv ((67 - t) % 8)) + v22)) ((71 - t) % 8) ((v22 + (((tr v10 2) ^^^ (tr v10 13)) ^^^ (tr v10 22))) + (((v10 &&& v11) ^^^ (v10 &&& v12)) ^^^ (v11 &&& v12))))))) (hp_ne f_kd f_tu (by simp)) f_kd
          have f_sz := hp_k (e := (.inl (ct 1, 8, .inl (upd (upd tv ((67 - t) % 8) ((tv ((67 - t) % 8)) + v22)) ((71 - t) % 8) ((v22 + (((tr v10 2) ^^^ (tr v10 13)) ^^^ (tr v10 22))) + (((v10 &&& v11) ^^^ (v10 &&& v12)) ^^^ (v11 &&& v12))))))) (hp_ne f_sz f_tu (by simp)) f_sz
          have f_ky := hp_k (e := (.inl (ct 1, 8, .inl (upd (upd tv ((67 - t) % 8) ((tv ((67 - t) % 8)) + v22)) ((71 - t) % 8) ((v22 + (((tr v10 2) ^^^ (tr v10 13)) ^^^ (tr v10 22))) + (((v10 &&& v11) ^^^ (v10 &&& v12)) ^^^ (v11 &&& v12))))))) (hp_ne f_ky f_tu (by simp)) f_ky
          have f_le := hp_k (e := (.inl (ct 1, 8, .inl (upd (upd tv ((67 - t) % 8) ((tv ((67 - t) % 8)) + v22)) ((71 - t) % 8) ((v22 + (((tr v10 2) ^^^ (tr v10 13)) ^^^ (tr v10 22))) + (((v10 &&& v11) ^^^ (v10 &&& v12)) ^^^ (v11 &&& v12))))))) (hp_ne f_le f_tu (by simp)) f_le
          have f_dg := hp_k (e := (.inl (ct 1, 8, .inl (upd (upd tv ((67 - t) % 8) ((tv ((67 - t) % 8)) + v22)) ((71 - t) % 8) ((v22 + (((tr v10 2) ^^^ (tr v10 13)) ^^^ (tr v10 22))) + (((v10 &&& v11) ^^^ (v10 &&& v12)) ^^^ (v11 &&& v12))))))) (hp_ne f_dg f_tu (by simp)) f_dg
          have f_nm := hp_k (e := (.inl (ct 1, 8, .inl (upd (upd tv ((67 - t) % 8) ((tv ((67 - t) % 8)) + v22)) ((71 - t) % 8) ((v22 + (((tr v10 2) ^^^ (tr v10 13)) ^^^ (tr v10 22))) + (((v10 &&& v11) ^^^ (v10 &&& v12)) ^^^ (v11 &&& v12))))))) (hp_ne f_nm f_tu (by simp)) f_nm
          have f_ns := hp_k (e := (.inl (ct 1, 8, .inl (upd (upd tv ((67 - t) % 8) ((tv ((67 - t) % 8)) + v22)) ((71 - t) % 8) ((v22 + (((tr v10 2) ^^^ (tr v10 13)) ^^^ (tr v10 22))) + (((v10 &&& v11) ^^^ (v10 &&& v12)) ^^^ (v11 &&& v12))))))) n_nstu f_ns
          have f_sl := hp_k (e := (.inl (ct 1, 8, .inl (upd (upd tv ((67 - t) % 8) ((tv ((67 - t) % 8)) + v22)) ((71 - t) % 8) ((v22 + (((tr v10 2) ^^^ (tr v10 13)) ^^^ (tr v10 22))) + (((v10 &&& v11) ^^^ (v10 &&& v12)) ^^^ (v11 &&& v12))))))) (hp_ne f_sl f_tu (by simp)) f_sl
          have f_sb := hp_k (e := (.inl (ct 1, 8, .inl (upd (upd tv ((67 - t) % 8) ((tv ((67 - t) % 8)) + v22)) ((71 - t) % 8) ((v22 + (((tr v10 2) ^^^ (tr v10 13)) ^^^ (tr v10 22))) + (((v10 &&& v11) ^^^ (v10 &&& v12)) ^^^ (v11 &&& v12))))))) (hp_ne f_sb f_tu (by simp)) f_sb
          have f_su := hp_k (e := (.inl (ct 1, 8, .inl (upd (upd tv ((67 - t) % 8) ((tv ((67 - t) % 8)) + v22)) ((71 - t) % 8) ((v22 + (((tr v10 2) ^^^ (tr v10 13)) ^^^ (tr v10 22))) + (((v10 &&& v11) ^^^ (v10 &&& v12)) ^^^ (v11 &&& v12))))))) n_sutu f_su
          have f_wi := hp_k (e := (.inl (ct 1, 8, .inl (upd (upd tv ((67 - t) % 8) ((tv ((67 - t) % 8)) + v22)) ((71 - t) % 8) ((v22 + (((tr v10 2) ^^^ (tr v10 13)) ^^^ (tr v10 22))) + (((v10 &&& v11) ^^^ (v10 &&& v12)) ^^^ (v11 &&& v12))))))) (hp_ne f_wi f_tu (by simp)) f_wi
          have f_tu : hp_up M23 B.tu (.inl (ct 1, 8, .inl (upd (upd tv ((67 - t) % 8) ((tv ((67 - t) % 8)) + v22)) ((71 - t) % 8) ((v22 + (((tr v10 2) ^^^ (tr v10 13)) ^^^ (tr v10 22))) + (((v10 &&& v11) ^^^ (v10 &&& v12)) ^^^ (v11 &&& v12)))))) B.tu = some (.inl (ct 1, 8, .inl (upd (upd tv ((67 - t) % 8) ((tv ((67 - t) % 8)) + v22)) ((71 - t) % 8) ((v22 + (((tr v10 2) ^^^ (tr v10 13)) ^^^ (tr v10 22))) + (((v10 &&& v11) ^^^ (v10 &&& v12)) ^^^ (v11 &&& v12)))))) := hp_us
          obtain ⟨M30, eM30⟩ : ∃ z, z = hp_up M23 B.tu (.inl (ct 1, 8, .inl (upd (upd tv ((67 - t) % 8) ((tv ((67 - t) % 8)) + v22)) ((71 - t) % 8) ((v22 + (((tr v10 2) ^^^ (tr v10 13)) ^^^ (tr v10 22))) + (((v10 &&& v11) ^^^ (v10 &&& v12)) ^^^ (v11 &&& v12)))))) := ⟨_, rfl⟩
          rw [← eM30] at hM f_md f_ro f_te f_he f_cn f_kd f_sz f_ky f_le f_dg f_nm f_ns f_sl f_sb f_su f_wi f_tu
          refine lv_iinc (v := nI (t + 1)) (lv' := [(1, .int (nI (t + 1))), (9, .int v22), (8, .int (nI ((71 - t) % 8))), (7, .int v15), (6, .int v14), (5, .int v13), (4, .int v12), (3, .int v11), (2, .int v10), (0, .ref md)]) hx hb d_MD_mixIn_246 hl (k := 9) rfl (nI_add t 1) (by decide) rfl (fun ls hl => ?_)
          refine lv_goto (tgt := 28) hx hb d_MD_mixIn_249 (by decide) ?_
          exact ih2 (ls := ls) (hl := lv_sub hl [9, 0] rfl) (hn2 := by omega) (t := t + 1) (tv := upd (upd tv ((67 - t) % 8) ((tv ((67 - t) % 8)) + v22)) ((71 - t) % 8) ((v22 + (((tr v10 2) ^^^ (tr v10 13)) ^^^ (tr v10 22))) + (((v10 &&& v11) ^^^ (v10 &&& v12)) ^^^ (v11 &&& v12)))) (htv := mix_s (by omega) htv (by rw [ev22, roF_lt (by omega), ev13, ev14, ev15]; simp only [show (71 - t) % 8 = (64 - t + 7) % 8 by omega, show (68 - t) % 8 = (64 - t + 4) % 8 by omega, show (69 - t) % 8 = (64 - t + 5) % 8 by omega, show (70 - t) % 8 = (64 - t + 6) % 8 by omega]; rfl) (by rw [Int32.add_assoc, ev10, ev11, ev12]; simp only [show (65 - t) % 8 = (64 - t + 1) % 8 by omega, show (66 - t) % 8 = (64 - t + 2) % 8 by omega]; rfl)) (H := H) (locs := locs) (hM := hM) (hS := hS) (N3 := M30) (f_md := f_md) (f_ro := f_ro) (f_te := f_te) (f_he := f_he) (f_cn := f_cn) (f_kd := f_kd) (f_sz := f_sz) (f_ky := f_ky) (f_le := f_le) (f_dg := f_dg) (f_nm := f_nm) (f_ns := f_ns) (f_sl := f_sl) (f_sb := f_sb) (f_su := f_su) (f_wi := f_wi) (f_tu := f_tu)
    · exact absurd hn1 (by omega)
  | succ fu1 ih1 =>
    refine lv_iload_n hx hb d_MD_mixIn_2 rfl (lv_at hl 1 rfl) ?_
    refine lv_bipush (v := nI 8) hx hb d_MD_mixIn_3 rfl ?_
    refine nb_ge (tgt := 26) hx hb d_MD_mixIn_5 (by decide) (by omega) (by omega) (fun h31 => ?_) (fun h31 => ?_)
    · exact absurd hn1 (by omega)
    · refine lv_aload_n hx hb d_MD_mixIn_8 rfl (lv_at hl 0 rfl) ?_
      refine hp_get S hK hM i_MD f_md rfl 21 (by decide) mf_MD_127 (fun _ h9 => h9) rfl d_MD_mixIn_9 ?_
      refine lv_iload_n hx hb d_MD_mixIn_12 rfl (lv_at hl 1 rfl) ?_
      refine lv_aload_n hx hb d_MD_mixIn_13 rfl (lv_at hl 0 rfl) ?_
      refine hp_get S hK hM i_MD f_md rfl 19 (by decide) mf_MD_121 (fun _ h9 => h9) rfl d_MD_mixIn_14 ?_
      refine lv_iload_n hx hb d_MD_mixIn_17 rfl (lv_at hl 1 rfl) ?_
      refine hp_iald S hK hM 1 f_su rfl k rfl (by omega) (by omega) d_MD_mixIn_18 ?_
      refine hp_iast S hK hM hS 1 f_tu rfl k rfl (by omega) (by omega) d_MD_mixIn_19 (fun H locs hM hS => ?_)
      have f_md := hp_k (e := (.inl (ct 1, 8, .inl (upd tu k ((V.su) k))))) (hp_ne f_md f_tu (by simp)) f_md
      have f_ro := hp_k (e := (.inl (ct 1, 8, .inl (upd tu k ((V.su) k))))) (hp_ne f_ro f_tu (by simp)) f_ro
      have f_te := hp_k (e := (.inl (ct 1, 8, .inl (upd tu k ((V.su) k))))) (hp_ne f_te f_tu (by simp)) f_te
      have f_he := hp_k (e := (.inl (ct 1, 8, .inl (upd tu k ((V.su) k))))) n_hetu f_he
      have f_cn := hp_k (e := (.inl (ct 1, 8, .inl (upd tu k ((V.su) k))))) (hp_ne f_cn f_tu (by simp)) f_cn
      have f_kd := hp_k (e := (.inl (ct 1, 8, .inl (upd tu k ((V.su) k))))) (hp_ne f_kd f_tu (by simp)) f_kd
      have f_sz := hp_k (e := (.inl (ct 1, 8, .inl (upd tu k ((V.su) k))))) (hp_ne f_sz f_tu (by simp)) f_sz
      have f_ky := hp_k (e := (.inl (ct 1, 8, .inl (upd tu k ((V.su) k))))) (hp_ne f_ky f_tu (by simp)) f_ky
      have f_le := hp_k (e := (.inl (ct 1, 8, .inl (upd tu k ((V.su) k))))) (hp_ne f_le f_tu (by simp)) f_le
      have f_dg := hp_k (e := (.inl (ct 1, 8, .inl (upd tu k ((V.su) k))))) (hp_ne f_dg f_tu (by simp)) f_dg
      have f_nm := hp_k (e := (.inl (ct 1, 8, .inl (upd tu k ((V.su) k))))) (hp_ne f_nm f_tu (by simp)) f_nm
      have f_ns := hp_k (e := (.inl (ct 1, 8, .inl (upd tu k ((V.su) k))))) n_nstu f_ns
      have f_sl := hp_k (e := (.inl (ct 1, 8, .inl (upd tu k ((V.su) k))))) (hp_ne f_sl f_tu (by simp)) f_sl
      have f_sb := hp_k (e := (.inl (ct 1, 8, .inl (upd tu k ((V.su) k))))) (hp_ne f_sb f_tu (by simp)) f_sb
      have f_su := hp_k (e := (.inl (ct 1, 8, .inl (upd tu k ((V.su) k))))) n_sutu f_su
      have f_wi := hp_k (e := (.inl (ct 1, 8, .inl (upd tu k ((V.su) k))))) (hp_ne f_wi f_tu (by simp)) f_wi
      have f_tu : hp_up N1 B.tu (.inl (ct 1, 8, .inl (upd tu k ((V.su) k)))) B.tu = some (.inl (ct 1, 8, .inl (upd tu k ((V.su) k)))) := hp_us
      obtain ⟨M32, eM32⟩ : ∃ z, z = hp_up N1 B.tu (.inl (ct 1, 8, .inl (upd tu k ((V.su) k)))) := ⟨_, rfl⟩
      rw [← eM32] at hM f_md f_ro f_te f_he f_cn f_kd f_sz f_ky f_le f_dg f_nm f_ns f_sl f_sb f_su f_wi f_tu
      refine lv_iinc (v := nI (k + 1)) (lv' := [(1, .int (nI (k + 1))), (0, .ref md)]) hx hb d_MD_mixIn_20 hl (k := 1) rfl (nI_add k 1) (by decide) rfl (fun ls hl => ?_)
      refine lv_goto (tgt := 2) hx hb d_MD_mixIn_23 (by decide) ?_
      exact ih1 (ls := ls) (hl := lv_sub hl [1, 0] rfl) (hn1 := by omega) (k := k + 1) (tu := upd tu k (V.su k)) (htu := lt_s (fun i hi => by rw [pk_un (Nat.ne_of_lt hi)]; exact htu i hi) pk_us) (H := H) (locs := locs) (hM := hM) (hS := hS) (N1 := M32) (f_md := f_md) (f_ro := f_ro) (f_te := f_te) (f_he := f_he) (f_cn := f_cn) (f_kd := f_kd) (f_sz := f_sz) (f_ky := f_ky) (f_le := f_le) (f_dg := f_dg) (f_nm := f_nm) (f_ns := f_ns) (f_sl := f_sl) (f_sb := f_sb) (f_su := f_su) (f_wi := f_wi) (f_tu := f_tu)
set_option maxHeartbeats 4000000 in
set_option maxRecDepth 100000 in
/-- the sums of a text -/
theorem c_MD_sumUp (l : Launch) (D : va_G) (ct : Nat → ClassId) (Z : hp_Z) (hZ : hp_Zok Z) (M : hp_M) (sz : Nat) (md : Nat) (B : MA) (V : MS) (hw : mdS ct M md B V) (T : List Nat) (hT3 : T.length ≤ 2700) (hcT : ∀ i, T.getD i 0 < 65536) (hsb : ∀ i, i < T.length → V.sb i = T.getD i 0) : Mv l y_MD_sumUp b_MD_sumUp 7 none 2 50 0 0 [.ref md, .int (nI (T.length))] D ct Z M sz (fun M1 => ∃ su wi tu, mdS ct M1 md B (mkS (V.te) (V.cn) (V.kd) (V.sz) (V.ky) (V.le) (V.nm) (V.ns) (V.sl) (V.sb) (V.he) (V.dg) su wi tu (V.co) (V.ty) (V.ac) (V.al) (V.sd) (V.ss)) ∧ ∀ i, i < 8 → su i = shaM T i) := by
  refine hp_start (by decide) (Nat.le_of_ble_eq_true rfl) (fun p e s m below meth c ls S hret hlk hnm hsz hK hM hS hA hz hl => ?_)
  have hx := S.1
  have hb := S.2.1
  have hl : lv_has ls 7 [(0, .ref md), (1, .int (nI (T.length)))] := hl
  obtain ⟨f_md, f_ro, f_te, f_he, f_cn, f_kd, f_sz, f_ky, f_le, f_dg, f_nm, f_ns, f_sl, f_sb, f_su, f_wi, f_tu, hB, hV⟩ := id hw
  obtain ⟨n_kdsz, n_kdky, n_szky, n_hens, n_hesu, n_hetu, n_nssu, n_nstu, n_sutu, n_tewi⟩ := id hB
  obtain ⟨b_te, b_cn, b_kd, b_sz, b_ky, b_le, b_nm, b_ns, b_sl, b_sb, b_co, b_ty, b_ac, b_al, b_sd, b_ss⟩ := id hV
  refine lv_iload_n hx hb d_MD_sumUp_0 rfl (lv_at hl 1 rfl) ?_
  refine lv_bipush (v := nI 9) hx hb d_MD_sumUp_1 rfl ?_
  refine nb_iadd hx hb d_MD_sumUp_3 ?_
  refine lv_bipush (v := nI 63) hx hb d_MD_sumUp_4 rfl ?_
  refine nb_iadd hx hb d_MD_sumUp_6 ?_
  refine lv_bipush (v := nI 64) hx hb d_MD_sumUp_7 rfl ?_
  refine nb_idiv hx hb d_MD_sumUp_9 (by omega) (by omega) (by omega) ?_
  refine lv_bipush (v := nI 64) hx hb d_MD_sumUp_10 rfl ?_
  refine nb_imul hx hb d_MD_sumUp_12 ?_
  refine lv_istore_n (lv' := [(2, .int (nI (((((T.length) + 9) + 63) / 64) * 64))), (0, .ref md), (1, .int (nI (T.length)))]) hx hb d_MD_sumUp_13 rfl hl (by decide) rfl (fun ls hl => ?_)
  obtain ⟨nb, enb⟩ : ∃ z : Nat, z = (T.length + 72) / 64 := ⟨_, rfl⟩
  replace hl : lv_has ls 7 [(2, .int (nI (nb * 64))), (0, .ref md), (1, .int (nI (T.length)))] := by rw [enb]; exact hl
  refine lv_iconst (v := nI 0) hx hb d_MD_sumUp_14 rfl ?_
  refine lv_istore_n (lv' := [(3, .int (nI 0)), (2, .int (nI (nb * 64))), (0, .ref md), (1, .int (nI (T.length)))]) hx hb d_MD_sumUp_15 rfl hl (by decide) rfl (fun ls hl => ?_)
  replace hl : lv_has ls 7 [(0, .ref md), (1, .int (nI (T.length))), (2, .int (nI (nb * 64))), (3, .int (nI 0))] := lv_sub hl [2, 3, 1, 0] rfl
  obtain ⟨k, e9k⟩ : ∃ z : Nat, z = 0 := ⟨_, rfl⟩
  obtain ⟨su, e9su⟩ : ∃ z : Nat → Int32, z = V.su := ⟨_, rfl⟩
  replace hl : lv_has ls 7 [(0, .ref md), (1, .int (nI (T.length))), (2, .int (nI (nb * 64))), (3, .int (nI k))] := by subst e9k e9su; exact hl
  obtain ⟨H, e9H⟩ : ∃ z : Heap, z = s.heap := ⟨_, rfl⟩
  replace hM : hp_H D ccl (hp_A M sz) M H := by rw [e9H]; exact hM
  replace hS : va_S (hp_A M sz) s.heap H [] := by rw [e9H]; exact hS
  rw [← e9H]
  clear e9H
  obtain ⟨locs, e9L⟩ : ∃ z : List Loc, z = [] := ⟨_, rfl⟩
  replace hS : va_S (hp_A M sz) s.heap H locs := by rw [e9L]; exact hS
  rw [← e9L]
  clear e9L
  obtain ⟨N1, e9N1⟩ : ∃ z : hp_M, z = M := ⟨_, rfl⟩
  replace hM : hp_H D ccl (hp_A M sz) N1 H := by rw [e9N1]; exact hM
  replace f_md : N1 md = some (.inr (6, [.ref B.ro, .int (nI (V.co)), .ref B.te, .int (nI (V.ty)), .int (nI (V.ac)), .int (nI (V.al)), .int (nI (V.sd)), .ref B.he, .ref B.cn, .ref B.kd, .ref B.sz, .ref B.ky, .ref B.le, .ref B.dg, .ref B.nm, .ref B.ns, .ref B.sl, .ref B.sb, .int (nI (V.ss)), .ref B.su, .ref B.wi, .ref B.tu])) := by rw [e9N1]; exact f_md
  replace f_ro : N1 B.ro = some (.inl (ct 1, 72, .inl roF)) := by rw [e9N1]; exact f_ro
  replace f_te : N1 B.te = some (.inl (ct 1, 64, .inl (nf V.te))) := by rw [e9N1]; exact f_te
  replace f_he : N1 B.he = some (.inl (ct 1, 8, .inl (V.he))) := by rw [e9N1]; exact f_he
  replace f_cn : N1 B.cn = some (.inl (ct 1, 12, .inl (nf V.cn))) := by rw [e9N1]; exact f_cn
  replace f_kd : N1 B.kd = some (.inl (ct 1, 288, .inl (nf V.kd))) := by rw [e9N1]; exact f_kd
  replace f_sz : N1 B.sz = some (.inl (ct 1, 288, .inl (nf V.sz))) := by rw [e9N1]; exact f_sz
  replace f_ky : N1 B.ky = some (.inl (ct 1, 288, .inl (nf V.ky))) := by rw [e9N1]; exact f_ky
  replace f_le : N1 B.le = some (.inl (ct 1, 18432, .inl (nf V.le))) := by rw [e9N1]; exact f_le
  replace f_dg : N1 B.dg = some (.inl (ct 1, 2304, .inl (V.dg))) := by rw [e9N1]; exact f_dg
  replace f_nm : N1 B.nm = some (.inl (ct 1, 128, .inl (nf V.nm))) := by rw [e9N1]; exact f_nm
  replace f_ns : N1 B.ns = some (.inl (ct 1, 8, .inl (nf V.ns))) := by rw [e9N1]; exact f_ns
  replace f_sl : N1 B.sl = some (.inl (ct 1, 16, .inl (nf V.sl))) := by rw [e9N1]; exact f_sl
  replace f_sb : N1 B.sb = some (.inl (ct 1, 3000, .inl (nf V.sb))) := by rw [e9N1]; exact f_sb
  replace f_su : N1 B.su = some (.inl (ct 1, 8, .inl (V.su))) := by rw [e9N1]; exact f_su
  replace f_wi : N1 B.wi = some (.inl (ct 1, 64, .inl (V.wi))) := by rw [e9N1]; exact f_wi
  replace f_tu : N1 B.tu = some (.inl (ct 1, 8, .inl (V.tu))) := by rw [e9N1]; exact f_tu
  replace f_su : N1 B.su = some (.inl (ct 1, 8, .inl su)) := by subst e9k e9su; exact f_su
  have hsu : ∀ i, i < k → su i = hF i := by subst e9k e9su; intro i hi; omega
  obtain ⟨fu1, hn1⟩ : ∃ fu : Nat, k + fu = 8 := ⟨8 - k, by omega⟩
  clear e9k e9su e9N1
  induction fu1 generalizing k su H locs N1 ls with
  | zero =>
    refine lv_iload_n hx hb d_MD_sumUp_16 rfl (lv_at hl 3 rfl) ?_
    refine lv_bipush (v := nI 8) hx hb d_MD_sumUp_17 rfl ?_
    refine nb_ge (tgt := 43) hx hb d_MD_sumUp_19 (by decide) (by omega) (by omega) (fun h2 => ?_) (fun h2 => ?_)
    · refine lv_iconst (v := nI 0) hx hb d_MD_sumUp_43 rfl ?_
      refine lv_istore_n (lv' := [(3, .int (nI 0)), (0, .ref md), (1, .int (nI (T.length))), (2, .int (nI (nb * 64)))]) hx hb d_MD_sumUp_44 rfl hl (by decide) rfl (fun ls hl => ?_)
      have hk8 : k = 8 := by omega
      replace hl : lv_has ls 7 [(0, .ref md), (1, .int (nI (T.length))), (2, .int (nI (nb * 64))), (3, .int (nI 0))] := lv_sub hl [1, 2, 3, 0] rfl
      obtain ⟨fr, e9fr⟩ : ∃ z : Nat, z = 0 := ⟨_, rfl⟩
      obtain ⟨b, e9b⟩ : ∃ z : Nat, z = 0 := ⟨_, rfl⟩
      obtain ⟨sv, e9sv⟩ : ∃ z : Nat → Int32, z = su := ⟨_, rfl⟩
      obtain ⟨wv, e9wv⟩ : ∃ z : Nat → Int32, z = V.wi := ⟨_, rfl⟩
      obtain ⟨tv, e9tv⟩ : ∃ z : Nat → Int32, z = V.tu := ⟨_, rfl⟩
      replace hl : lv_has ls 7 [(0, .ref md), (1, .int (nI (T.length))), (2, .int (nI (nb * 64))), (3, .int (nI fr))] := by subst e9fr e9b e9sv e9wv e9tv; exact hl
      obtain ⟨N3, e9N3⟩ : ∃ z : hp_M, z = N1 := ⟨_, rfl⟩
      replace hM : hp_H D ccl (hp_A M sz) N3 H := by rw [e9N3]; exact hM
      replace f_md : N3 md = some (.inr (6, [.ref B.ro, .int (nI (V.co)), .ref B.te, .int (nI (V.ty)), .int (nI (V.ac)), .int (nI (V.al)), .int (nI (V.sd)), .ref B.he, .ref B.cn, .ref B.kd, .ref B.sz, .ref B.ky, .ref B.le, .ref B.dg, .ref B.nm, .ref B.ns, .ref B.sl, .ref B.sb, .int (nI (V.ss)), .ref B.su, .ref B.wi, .ref B.tu])) := by rw [e9N3]; exact f_md
      replace f_ro : N3 B.ro = some (.inl (ct 1, 72, .inl roF)) := by rw [e9N3]; exact f_ro
      replace f_te : N3 B.te = some (.inl (ct 1, 64, .inl (nf V.te))) := by rw [e9N3]; exact f_te
      replace f_he : N3 B.he = some (.inl (ct 1, 8, .inl (V.he))) := by rw [e9N3]; exact f_he
      replace f_cn : N3 B.cn = some (.inl (ct 1, 12, .inl (nf V.cn))) := by rw [e9N3]; exact f_cn
      replace f_kd : N3 B.kd = some (.inl (ct 1, 288, .inl (nf V.kd))) := by rw [e9N3]; exact f_kd
      replace f_sz : N3 B.sz = some (.inl (ct 1, 288, .inl (nf V.sz))) := by rw [e9N3]; exact f_sz
      replace f_ky : N3 B.ky = some (.inl (ct 1, 288, .inl (nf V.ky))) := by rw [e9N3]; exact f_ky
      replace f_le : N3 B.le = some (.inl (ct 1, 18432, .inl (nf V.le))) := by rw [e9N3]; exact f_le
      replace f_dg : N3 B.dg = some (.inl (ct 1, 2304, .inl (V.dg))) := by rw [e9N3]; exact f_dg
      replace f_nm : N3 B.nm = some (.inl (ct 1, 128, .inl (nf V.nm))) := by rw [e9N3]; exact f_nm
      replace f_ns : N3 B.ns = some (.inl (ct 1, 8, .inl (nf V.ns))) := by rw [e9N3]; exact f_ns
      replace f_sl : N3 B.sl = some (.inl (ct 1, 16, .inl (nf V.sl))) := by rw [e9N3]; exact f_sl
      replace f_sb : N3 B.sb = some (.inl (ct 1, 3000, .inl (nf V.sb))) := by rw [e9N3]; exact f_sb
      replace f_su : N3 B.su = some (.inl (ct 1, 8, .inl su)) := by rw [e9N3]; exact f_su
      replace f_wi : N3 B.wi = some (.inl (ct 1, 64, .inl (V.wi))) := by rw [e9N3]; exact f_wi
      replace f_tu : N3 B.tu = some (.inl (ct 1, 8, .inl (V.tu))) := by rw [e9N3]; exact f_tu
      replace f_su : N3 B.su = some (.inl (ct 1, 8, .inl sv)) := by subst e9fr e9b e9sv e9wv e9tv; exact f_su
      replace f_wi : N3 B.wi = some (.inl (ct 1, 64, .inl wv)) := by subst e9fr e9b e9sv e9wv e9tv; exact f_wi
      replace f_tu : N3 B.tu = some (.inl (ct 1, 8, .inl tv)) := by subst e9fr e9b e9sv e9wv e9tv; exact f_tu
      have hfr : fr = 64 * b := by subst e9fr e9b e9sv e9wv e9tv; rfl
      have hsv : ∀ i, i < 8 → sv i = shB T b i := by subst e9fr e9b e9sv e9wv e9tv; intro i hi; exact hsu i (by omega)
      obtain ⟨fu2, hn2⟩ : ∃ fu : Nat, b + fu = nb := ⟨nb - b, by omega⟩
      clear e9fr e9b e9sv e9wv e9tv e9N3
      induction fu2 generalizing fr b sv wv tv H locs N3 ls with
      | zero =>
        refine lv_iload_n hx hb d_MD_sumUp_45 rfl (lv_at hl 3 rfl) ?_
        refine lv_iload_n hx hb d_MD_sumUp_46 rfl (lv_at hl 2 rfl) ?_
        refine nb_ge (tgt := 260) hx hb d_MD_sumUp_47 (by decide) (by omega) (by omega) (fun h4 => ?_) (fun h4 => ?_)
        · exact hp_vret S hret hlk hM hS (⟨sv, wv, tv, ⟨f_md, f_ro, f_te, f_he, f_cn, f_kd, f_sz, f_ky, f_le, f_dg, f_nm, f_ns, f_sl, f_sb, f_su, f_wi, f_tu, hB, b_te, b_cn, b_kd, b_sz, b_ky, b_le, b_nm, b_ns, b_sl, b_sb, b_co, b_ty, b_ac, b_al, b_sd, b_ss⟩, fun i hi => by rw [hsv i hi]; unfold shaM; rw [← enb, show b = nb by omega]⟩) d_MD_sumUp_260
        · exact absurd hn2 (by omega)
      | succ fu2 ih2 =>
        refine lv_iload_n hx hb d_MD_sumUp_45 rfl (lv_at hl 3 rfl) ?_
        refine lv_iload_n hx hb d_MD_sumUp_46 rfl (lv_at hl 2 rfl) ?_
        refine nb_ge (tgt := 260) hx hb d_MD_sumUp_47 (by decide) (by omega) (by omega) (fun h5 => ?_) (fun h5 => ?_)
        · exact absurd hn2 (by omega)
        · refine lv_iconst (v := nI 0) hx hb d_MD_sumUp_50 rfl ?_
          refine lv_istore (lv' := [(4, .int (nI 0)), (0, .ref md), (1, .int (nI (T.length))), (2, .int (nI (nb * 64))), (3, .int (nI fr))]) hx hb d_MD_sumUp_51 hl (by decide) rfl (fun ls hl => ?_)
          replace hl : lv_has ls 7 [(0, .ref md), (1, .int (nI (T.length))), (2, .int (nI (nb * 64))), (3, .int (nI fr)), (4, .int (nI 0))] := lv_sub hl [1, 2, 3, 4, 0] rfl
          obtain ⟨t, e9t⟩ : ∃ z : Nat, z = 0 := ⟨_, rfl⟩
          obtain ⟨wx, e9wx⟩ : ∃ z : Nat → Int32, z = wv := ⟨_, rfl⟩
          replace hl : lv_has ls 7 [(0, .ref md), (1, .int (nI (T.length))), (2, .int (nI (nb * 64))), (3, .int (nI fr)), (4, .int (nI t))] := by subst e9t e9wx; exact hl
          obtain ⟨N6, e9N6⟩ : ∃ z : hp_M, z = N3 := ⟨_, rfl⟩
          replace hM : hp_H D ccl (hp_A M sz) N6 H := by rw [e9N6]; exact hM
          replace f_md : N6 md = some (.inr (6, [.ref B.ro, .int (nI (V.co)), .ref B.te, .int (nI (V.ty)), .int (nI (V.ac)), .int (nI (V.al)), .int (nI (V.sd)), .ref B.he, .ref B.cn, .ref B.kd, .ref B.sz, .ref B.ky, .ref B.le, .ref B.dg, .ref B.nm, .ref B.ns, .ref B.sl, .ref B.sb, .int (nI (V.ss)), .ref B.su, .ref B.wi, .ref B.tu])) := by rw [e9N6]; exact f_md
          replace f_ro : N6 B.ro = some (.inl (ct 1, 72, .inl roF)) := by rw [e9N6]; exact f_ro
          replace f_te : N6 B.te = some (.inl (ct 1, 64, .inl (nf V.te))) := by rw [e9N6]; exact f_te
          replace f_he : N6 B.he = some (.inl (ct 1, 8, .inl (V.he))) := by rw [e9N6]; exact f_he
          replace f_cn : N6 B.cn = some (.inl (ct 1, 12, .inl (nf V.cn))) := by rw [e9N6]; exact f_cn
          replace f_kd : N6 B.kd = some (.inl (ct 1, 288, .inl (nf V.kd))) := by rw [e9N6]; exact f_kd
          replace f_sz : N6 B.sz = some (.inl (ct 1, 288, .inl (nf V.sz))) := by rw [e9N6]; exact f_sz
          replace f_ky : N6 B.ky = some (.inl (ct 1, 288, .inl (nf V.ky))) := by rw [e9N6]; exact f_ky
          replace f_le : N6 B.le = some (.inl (ct 1, 18432, .inl (nf V.le))) := by rw [e9N6]; exact f_le
          replace f_dg : N6 B.dg = some (.inl (ct 1, 2304, .inl (V.dg))) := by rw [e9N6]; exact f_dg
          replace f_nm : N6 B.nm = some (.inl (ct 1, 128, .inl (nf V.nm))) := by rw [e9N6]; exact f_nm
          replace f_ns : N6 B.ns = some (.inl (ct 1, 8, .inl (nf V.ns))) := by rw [e9N6]; exact f_ns
          replace f_sl : N6 B.sl = some (.inl (ct 1, 16, .inl (nf V.sl))) := by rw [e9N6]; exact f_sl
          replace f_sb : N6 B.sb = some (.inl (ct 1, 3000, .inl (nf V.sb))) := by rw [e9N6]; exact f_sb
          replace f_su : N6 B.su = some (.inl (ct 1, 8, .inl sv)) := by rw [e9N6]; exact f_su
          replace f_wi : N6 B.wi = some (.inl (ct 1, 64, .inl wv)) := by rw [e9N6]; exact f_wi
          replace f_tu : N6 B.tu = some (.inl (ct 1, 8, .inl tv)) := by rw [e9N6]; exact f_tu
          replace f_wi : N6 B.wi = some (.inl (ct 1, 64, .inl wx)) := by subst e9t e9wx; exact f_wi
          have hwx : ∀ i, i < t → wx i = wdM T (fr + 4 * i) := by subst e9t e9wx; intro i hi; omega
          obtain ⟨fu3, hn3⟩ : ∃ fu : Nat, t + fu = 16 := ⟨16 - t, by omega⟩
          clear e9t e9wx e9N6
          induction fu3 generalizing t wx H locs N6 ls with
          | zero =>
            refine lv_iload hx hb d_MD_sumUp_53 (lv_at hl 4 rfl) ?_
            refine lv_bipush (v := nI 16) hx hb d_MD_sumUp_55 rfl ?_
            refine nb_ge (tgt := 139) hx hb d_MD_sumUp_57 (by decide) (by omega) (by omega) (fun h7 => ?_) (fun h7 => ?_)
            · refine lv_bipush (v := nI 16) hx hb d_MD_sumUp_139 rfl ?_
              refine lv_istore (lv' := [(4, .int (nI 16)), (0, .ref md), (1, .int (nI (T.length))), (2, .int (nI (nb * 64))), (3, .int (nI fr))]) hx hb d_MD_sumUp_141 hl (by decide) rfl (fun ls hl => ?_)
              have ht16 : t = 16 := by omega
              replace hl : lv_has ls 7 [(0, .ref md), (1, .int (nI (T.length))), (2, .int (nI (nb * 64))), (3, .int (nI fr)), (4, .int (nI 16))] := lv_sub hl [1, 2, 3, 4, 0] rfl
              obtain ⟨t4, e9t4⟩ : ∃ z : Nat, z = 16 := ⟨_, rfl⟩
              obtain ⟨u, e9u⟩ : ∃ z : Nat, z = 0 := ⟨_, rfl⟩
              obtain ⟨ww, e9ww⟩ : ∃ z : Nat → Int32, z = wx := ⟨_, rfl⟩
              replace hl : lv_has ls 7 [(0, .ref md), (1, .int (nI (T.length))), (2, .int (nI (nb * 64))), (3, .int (nI fr)), (4, .int (nI t4))] := by subst e9t4 e9u e9ww; exact hl
              obtain ⟨N8, e9N8⟩ : ∃ z : hp_M, z = N6 := ⟨_, rfl⟩
              replace hM : hp_H D ccl (hp_A M sz) N8 H := by rw [e9N8]; exact hM
              replace f_md : N8 md = some (.inr (6, [.ref B.ro, .int (nI (V.co)), .ref B.te, .int (nI (V.ty)), .int (nI (V.ac)), .int (nI (V.al)), .int (nI (V.sd)), .ref B.he, .ref B.cn, .ref B.kd, .ref B.sz, .ref B.ky, .ref B.le, .ref B.dg, .ref B.nm, .ref B.ns, .ref B.sl, .ref B.sb, .int (nI (V.ss)), .ref B.su, .ref B.wi, .ref B.tu])) := by rw [e9N8]; exact f_md
              replace f_ro : N8 B.ro = some (.inl (ct 1, 72, .inl roF)) := by rw [e9N8]; exact f_ro
              replace f_te : N8 B.te = some (.inl (ct 1, 64, .inl (nf V.te))) := by rw [e9N8]; exact f_te
              replace f_he : N8 B.he = some (.inl (ct 1, 8, .inl (V.he))) := by rw [e9N8]; exact f_he
              replace f_cn : N8 B.cn = some (.inl (ct 1, 12, .inl (nf V.cn))) := by rw [e9N8]; exact f_cn
              replace f_kd : N8 B.kd = some (.inl (ct 1, 288, .inl (nf V.kd))) := by rw [e9N8]; exact f_kd
              replace f_sz : N8 B.sz = some (.inl (ct 1, 288, .inl (nf V.sz))) := by rw [e9N8]; exact f_sz
              replace f_ky : N8 B.ky = some (.inl (ct 1, 288, .inl (nf V.ky))) := by rw [e9N8]; exact f_ky
              replace f_le : N8 B.le = some (.inl (ct 1, 18432, .inl (nf V.le))) := by rw [e9N8]; exact f_le
              replace f_dg : N8 B.dg = some (.inl (ct 1, 2304, .inl (V.dg))) := by rw [e9N8]; exact f_dg
              replace f_nm : N8 B.nm = some (.inl (ct 1, 128, .inl (nf V.nm))) := by rw [e9N8]; exact f_nm
              replace f_ns : N8 B.ns = some (.inl (ct 1, 8, .inl (nf V.ns))) := by rw [e9N8]; exact f_ns
              replace f_sl : N8 B.sl = some (.inl (ct 1, 16, .inl (nf V.sl))) := by rw [e9N8]; exact f_sl
              replace f_sb : N8 B.sb = some (.inl (ct 1, 3000, .inl (nf V.sb))) := by rw [e9N8]; exact f_sb
              replace f_su : N8 B.su = some (.inl (ct 1, 8, .inl sv)) := by rw [e9N8]; exact f_su
              replace f_wi : N8 B.wi = some (.inl (ct 1, 64, .inl wx)) := by rw [e9N8]; exact f_wi
              replace f_tu : N8 B.tu = some (.inl (ct 1, 8, .inl tv)) := by rw [e9N8]; exact f_tu
              replace f_wi : N8 B.wi = some (.inl (ct 1, 64, .inl ww)) := by subst e9t4 e9u e9ww; exact f_wi
              have ht4 : t4 = 16 + u := by subst e9t4 e9u e9ww; rfl
              have hww : ww = spw wx u := by subst e9t4 e9u e9ww; rfl
              obtain ⟨fu4, hn4⟩ : ∃ fu : Nat, u + fu = 48 := ⟨48 - u, by omega⟩
              clear e9t4 e9u e9ww e9N8
              induction fu4 generalizing t4 u ww H locs N8 ls with
              | zero =>
                have hu48 : u = 48 := by omega
                refine lv_iload hx hb d_MD_sumUp_143 (lv_at hl 4 rfl) ?_
                refine lv_bipush (v := nI 64) hx hb d_MD_sumUp_145 rfl ?_
                refine nb_ge (tgt := 250) hx hb d_MD_sumUp_147 (by decide) (by omega) (by omega) (fun h9 => ?_) (fun h9 => ?_)
                · refine lv_aload_n hx hb d_MD_sumUp_250 rfl (lv_at hl 0 rfl) ?_
                  have hwb : mdS ct N8 md B (mkS (V.te) (V.cn) (V.kd) (V.sz) (V.ky) (V.le) (V.nm) (V.ns) (V.sl) (V.sb) (V.he) (V.dg) sv ww tv (V.co) (V.ty) (V.ac) (V.al) (V.sd) (V.ss)) := ⟨f_md, f_ro, f_te, f_he, f_cn, f_kd, f_sz, f_ky, f_le, f_dg, f_nm, f_ns, f_sl, f_sb, f_su, f_wi, f_tu, hB, b_te, b_cn, b_kd, b_sz, b_ky, b_le, b_nm, b_ns, b_sl, b_sb, b_co, b_ty, b_ac, b_al, b_sd, b_ss⟩
                  refine hp_callv (go_V S hZ hK hM hS hA hz (c_MD_mixIn l D ct Z hZ _ _ md B (mkS (V.te) (V.cn) (V.kd) (V.sz) (V.ky) (V.le) (V.nm) (V.ns) (V.sl) (V.sb) (V.he) (V.dg) sv ww tv (V.co) (V.ty) (V.ac) (V.al) (V.sd) (V.ss)) hwb) mc_MD_mixIn mz_MD ml_MD_224 mi_MD_mixIn mx_MD_mixIn hd_MD_mixIn rfl ⟨by decide, by decide⟩ f_md rfl rfl hl.1 rfl (Nat.le_of_ble_eq_true rfl) d_MD_sumUp_251 ⟨by decide, by decide⟩) hM hS hA (fun M9 H locs h9 hM hS => ?_)
                  obtain ⟨sv2, tv2, hwc, hs2⟩ := h9
                  have hsv2 : ∀ i, i < 8 → sv2 i = shB T (b + 1) i := fun i hi => by
                    refine Eq.trans (hs2 i hi) (shB_step hi hsv (fun q hq => ?_))
                    rw [hww, hu48]
                    exact spw_c (fun z hz => by rw [hwx z (by omega), hfr]) 48 (Nat.le_refl _) q (by omega)
                  clear f_md f_ro f_te f_he f_cn f_kd f_sz f_ky f_le f_dg f_nm f_ns f_sl f_sb f_su f_wi f_tu
                  obtain ⟨f_md, f_ro, f_te, f_he, f_cn, f_kd, f_sz, f_ky, f_le, f_dg, f_nm, f_ns, f_sl, f_sb, f_su, f_wi, f_tu, hB, hV⟩ := id hwc
                  replace f_md : M9 md = some (.inr (6, [.ref B.ro, .int (nI (V.co)), .ref B.te, .int (nI (V.ty)), .int (nI (V.ac)), .int (nI (V.al)), .int (nI (V.sd)), .ref B.he, .ref B.cn, .ref B.kd, .ref B.sz, .ref B.ky, .ref B.le, .ref B.dg, .ref B.nm, .ref B.ns, .ref B.sl, .ref B.sb, .int (nI (V.ss)), .ref B.su, .ref B.wi, .ref B.tu])) := f_md
                  replace f_ro : M9 B.ro = some (.inl (ct 1, 72, .inl roF)) := f_ro
                  replace f_te : M9 B.te = some (.inl (ct 1, 64, .inl (nf V.te))) := f_te
                  replace f_he : M9 B.he = some (.inl (ct 1, 8, .inl (V.he))) := f_he
                  replace f_cn : M9 B.cn = some (.inl (ct 1, 12, .inl (nf V.cn))) := f_cn
                  replace f_kd : M9 B.kd = some (.inl (ct 1, 288, .inl (nf V.kd))) := f_kd
                  replace f_sz : M9 B.sz = some (.inl (ct 1, 288, .inl (nf V.sz))) := f_sz
                  replace f_ky : M9 B.ky = some (.inl (ct 1, 288, .inl (nf V.ky))) := f_ky
                  replace f_le : M9 B.le = some (.inl (ct 1, 18432, .inl (nf V.le))) := f_le
                  replace f_dg : M9 B.dg = some (.inl (ct 1, 2304, .inl (V.dg))) := f_dg
                  replace f_nm : M9 B.nm = some (.inl (ct 1, 128, .inl (nf V.nm))) := f_nm
                  replace f_ns : M9 B.ns = some (.inl (ct 1, 8, .inl (nf V.ns))) := f_ns
                  replace f_sl : M9 B.sl = some (.inl (ct 1, 16, .inl (nf V.sl))) := f_sl
                  replace f_sb : M9 B.sb = some (.inl (ct 1, 3000, .inl (nf V.sb))) := f_sb
                  replace f_su : M9 B.su = some (.inl (ct 1, 8, .inl sv2)) := f_su
                  replace f_wi : M9 B.wi = some (.inl (ct 1, 64, .inl ww)) := f_wi
                  replace f_tu : M9 B.tu = some (.inl (ct 1, 8, .inl tv2)) := f_tu
                  refine lv_iinc (v := nI (fr + 64)) (lv' := [(3, .int (nI (fr + 64))), (0, .ref md), (1, .int (nI (T.length))), (2, .int (nI (nb * 64))), (4, .int (nI t4))]) hx hb d_MD_sumUp_254 hl (k := 3) rfl (nI_add fr 64) (by decide) rfl (fun ls hl => ?_)
                  refine lv_goto (tgt := 45) hx hb d_MD_sumUp_257 (by decide) ?_
                  exact ih2 (ls := ls) (hl := lv_sub hl [1, 2, 3, 0] rfl) (hn2 := by omega) (fr := fr + 64) (b := b + 1) (sv := sv2) (wv := ww) (tv := tv2) (hfr := by omega) (hsv := hsv2) (H := H) (locs := locs) (hM := hM) (hS := hS) (N3 := M9) (f_md := f_md) (f_ro := f_ro) (f_te := f_te) (f_he := f_he) (f_cn := f_cn) (f_kd := f_kd) (f_sz := f_sz) (f_ky := f_ky) (f_le := f_le) (f_dg := f_dg) (f_nm := f_nm) (f_ns := f_ns) (f_sl := f_sl) (f_sb := f_sb) (f_su := f_su) (f_wi := f_wi) (f_tu := f_tu)
                · exact absurd hn4 (by omega)
              | succ fu4 ih4 =>
                refine lv_iload hx hb d_MD_sumUp_143 (lv_at hl 4 rfl) ?_
                refine lv_bipush (v := nI 64) hx hb d_MD_sumUp_145 rfl ?_
                refine nb_ge (tgt := 250) hx hb d_MD_sumUp_147 (by decide) (by omega) (by omega) (fun h10 => ?_) (fun h10 => ?_)
                · exact absurd hn4 (by omega)
                · refine lv_aload_n hx hb d_MD_sumUp_150 rfl (lv_at hl 0 rfl) ?_
                  refine hp_get S hK hM i_MD f_md rfl 20 (by decide) mf_MD_124 (fun _ h9 => h9) rfl d_MD_sumUp_151 ?_
                  refine lv_iload hx hb d_MD_sumUp_154 (lv_at hl 4 rfl) ?_
                  refine lv_iconst (v := nI 2) hx hb d_MD_sumUp_156 rfl ?_
                  refine nb_isub hx hb d_MD_sumUp_157 (by omega) ?_
                  refine hp_iald S hK hM 1 f_wi rfl (t4 - 2) rfl (by omega) (by omega) d_MD_sumUp_158 ?_
                  refine lv_istore (lv' := [(5, .int (ww (t4 - 2))), (0, .ref md), (1, .int (nI (T.length))), (2, .int (nI (nb * 64))), (3, .int (nI fr)), (4, .int (nI t4))]) hx hb d_MD_sumUp_159 hl (by decide) rfl (fun ls hl => ?_)
                  refine lv_aload_n hx hb d_MD_sumUp_161 rfl (lv_at hl 1 rfl) ?_
                  refine hp_get S hK hM i_MD f_md rfl 20 (by decide) mf_MD_124 (fun _ h9 => h9) rfl d_MD_sumUp_162 ?_
                  refine lv_iload hx hb d_MD_sumUp_165 (lv_at hl 5 rfl) ?_
                  refine lv_bipush (v := nI 15) hx hb d_MD_sumUp_167 rfl ?_
                  refine nb_isub hx hb d_MD_sumUp_169 (by omega) ?_
                  refine hp_iald S hK hM 1 f_wi rfl (t4 - 15) rfl (by omega) (by omega) d_MD_sumUp_170 ?_
                  refine lv_istore (lv' := [(6, .int (ww (t4 - 15))), (5, .int (ww (t4 - 2))), (0, .ref md), (1, .int (nI (T.length))), (2, .int (nI (nb * 64))), (3, .int (nI fr)), (4, .int (nI t4))]) hx hb d_MD_sumUp_171 hl (by decide) rfl (fun ls hl => ?_)
                  refine lv_aload_n hx hb d_MD_sumUp_173 rfl (lv_at hl 2 rfl) ?_
                  refine hp_get S hK hM i_MD f_md rfl 20 (by decide) mf_MD_124 (fun _ h9 => h9) rfl d_MD_sumUp_174 ?_
                  refine lv_iload hx hb d_MD_sumUp_177 (lv_at hl 6 rfl) ?_
                  refine lv_iload hx hb d_MD_sumUp_179 (lv_at hl 1 rfl) ?_
                  refine lv_bipush (v := nI 17) hx hb d_MD_sumUp_181 rfl ?_
                  refine hp_calli (go_S S hZ hK hM hS hA hz (c_MD_turned l D ct Z hZ _ _ (ww (t4 - 2)) 17 (by decide)) mc_MD_turned mz_MD ml_MD_221 ms_MD_turned hd_MD_turned rfl ⟨by decide, by decide⟩ hl.1 rfl (Nat.le_of_ble_eq_true rfl) d_MD_sumUp_183 ⟨by decide, by decide⟩) hM hS hA (fun r11 N12 H locs hr11 hM hS => ?_)
                  rw [hr11.1] at hM
                  replace hr11 := hr11.2
                  subst hr11
                  refine lv_iload hx hb d_MD_sumUp_186 (lv_at hl 1 rfl) ?_
                  refine lv_bipush (v := nI 19) hx hb d_MD_sumUp_188 rfl ?_
                  refine hp_calli (go_S S hZ hK hM hS hA hz (c_MD_turned l D ct Z hZ _ _ (ww (t4 - 2)) 19 (by decide)) mc_MD_turned mz_MD ml_MD_221 ms_MD_turned hd_MD_turned rfl ⟨by decide, by decide⟩ hl.1 rfl (Nat.le_of_ble_eq_true rfl) d_MD_sumUp_190 ⟨by decide, by decide⟩) hM hS hA (fun r13 N14 H locs hr13 hM hS => ?_)
                  rw [hr13.1] at hM
                  replace hr13 := hr13.2
                  subst hr13
                  refine lv_ixor hx hb d_MD_sumUp_193 ?_
                  refine lv_iload hx hb d_MD_sumUp_194 (lv_at hl 1 rfl) ?_
                  refine lv_bipush (v := nI 10) hx hb d_MD_sumUp_196 rfl ?_
                  refine lv_iushr hx hb d_MD_sumUp_198 rfl ?_
                  refine lv_ixor hx hb d_MD_sumUp_199 ?_
                  refine lv_aload_n hx hb d_MD_sumUp_200 rfl (lv_at hl 2 rfl) ?_
                  refine hp_get S hK hM i_MD f_md rfl 20 (by decide) mf_MD_124 (fun _ h9 => h9) rfl d_MD_sumUp_201 ?_
                  refine lv_iload hx hb d_MD_sumUp_204 (lv_at hl 6 rfl) ?_
                  refine lv_bipush (v := nI 7) hx hb d_MD_sumUp_206 rfl ?_
                  refine nb_isub hx hb d_MD_sumUp_208 (by omega) ?_
                  refine hp_iald S hK hM 1 f_wi rfl (t4 - 7) rfl (by omega) (by omega) d_MD_sumUp_209 ?_
                  refine lv_iadd hx hb d_MD_sumUp_210 ?_
                  refine lv_iload hx hb d_MD_sumUp_211 (lv_at hl 0 rfl) ?_
                  refine lv_bipush (v := nI 7) hx hb d_MD_sumUp_213 rfl ?_
                  refine hp_calli (go_S S hZ hK hM hS hA hz (c_MD_turned l D ct Z hZ _ _ (ww (t4 - 15)) 7 (by decide)) mc_MD_turned mz_MD ml_MD_221 ms_MD_turned hd_MD_turned rfl ⟨by decide, by decide⟩ hl.1 rfl (Nat.le_of_ble_eq_true rfl) d_MD_sumUp_215 ⟨by decide, by decide⟩) hM hS hA (fun r15 N16 H locs hr15 hM hS => ?_)
                  rw [hr15.1] at hM
                  replace hr15 := hr15.2
                  subst hr15
                  refine lv_iload hx hb d_MD_sumUp_218 (lv_at hl 0 rfl) ?_
                  refine lv_bipush (v := nI 18) hx hb d_MD_sumUp_220 rfl ?_
                  refine hp_calli (go_S S hZ hK hM hS hA hz (c_MD_turned l D ct Z hZ _ _ (ww (t4 - 15)) 18 (by decide)) mc_MD_turned mz_MD ml_MD_221 ms_MD_turned hd_MD_turned rfl ⟨by decide, by decide⟩ hl.1 rfl (Nat.le_of_ble_eq_true rfl) d_MD_sumUp_222 ⟨by decide, by decide⟩) hM hS hA (fun r17 N18 H locs hr17 hM hS => ?_)
                  rw [hr17.1] at hM
                  replace hr17 := hr17.2
                  subst hr17
                  refine lv_ixor hx hb d_MD_sumUp_225 ?_
                  refine lv_iload hx hb d_MD_sumUp_226 (lv_at hl 0 rfl) ?_
                  refine lv_iconst (v := nI 3) hx hb d_MD_sumUp_228 rfl ?_
                  refine lv_iushr hx hb d_MD_sumUp_229 rfl ?_
                  refine lv_ixor hx hb d_MD_sumUp_230 ?_
                  refine lv_iadd hx hb d_MD_sumUp_231 ?_
                  refine lv_aload_n hx hb d_MD_sumUp_232 rfl (lv_at hl 2 rfl) ?_
                  refine hp_get S hK hM i_MD f_md rfl 20 (by decide) mf_MD_124 (fun _ h9 => h9) rfl d_MD_sumUp_233 ?_
                  refine lv_iload hx hb d_MD_sumUp_236 (lv_at hl 6 rfl) ?_
                  refine lv_bipush (v := nI 16) hx hb d_MD_sumUp_238 rfl ?_
                  refine nb_isub hx hb d_MD_sumUp_240 (by omega) ?_
                  refine hp_iald S hK hM 1 f_wi rfl (t4 - 16) rfl (by omega) (by omega) d_MD_sumUp_241 ?_
                  refine lv_iadd hx hb d_MD_sumUp_242 ?_
                  refine hp_iast S hK hM hS 1 f_wi rfl t4 rfl (by omega) (by omega) d_MD_sumUp_243 (fun H locs hM hS => ?_)
                  have f_md := hp_k (e := (.inl (ct 1, 64, .inl (upd ww t4 ((((((tr (ww (t4 - 2)) 17) ^^^ (tr (ww (t4 - 2)) 19)) ^^^ ((Int32.toUInt32 (ww (t4 - 2)) >>> (Int32.toUInt32 (nI 10) &&& Int32.toUInt32 31)).toInt32)) + (ww (t4 - 7))) + (((tr (ww (t4 - 15)) 7) ^^^ (tr (ww (t4 - 15)) 18)) ^^^ ((Int32.toUInt32 (ww (t4 - 15)) >>> (Int32.toUInt32 (nI 3) &&& Int32.toUInt32 31)).toInt32))) + (ww (t4 - 16))))))) (hp_ne f_md f_wi (by simp)) f_md
                  have f_ro := hp_k (e := (.inl (ct 1, 64, .inl (upd ww t4 ((((((tr (ww (t4 - 2)) 17) ^^^ (tr (ww (t4 - 2)) 19)) ^^^ ((Int32.toUInt32 (ww (t4 - 2)) >>> (Int32.toUInt32 (nI 10) &&& Int32.toUInt32 31)).toInt32)) + (ww (t4 - 7))) + (((tr (ww (t4 - 15)) 7) ^^^ (tr (ww (t4 - 15)) 18)) ^^^ ((Int32.toUInt32 (ww (t4 - 15)) >>> (Int32.toUInt32 (nI 3) &&& Int32.toUInt32 31)).toInt32))) + (ww (t4 - 16))))))) (hp_ne f_ro f_wi (by simp)) f_ro
                  have f_te := hp_k (e := (.inl (ct 1, 64, .inl (upd ww t4 ((((((tr (ww (t4 - 2)) 17) ^^^ (tr (ww (t4 - 2)) 19)) ^^^ ((Int32.toUInt32 (ww (t4 - 2)) >>> (Int32.toUInt32 (nI 10) &&& Int32.toUInt32 31)).toInt32)) + (ww (t4 - 7))) + (((tr (ww (t4 - 15)) 7) ^^^ (tr (ww (t4 - 15)) 18)) ^^^ ((Int32.toUInt32 (ww (t4 - 15)) >>> (Int32.toUInt32 (nI 3) &&& Int32.toUInt32 31)).toInt32))) + (ww (t4 - 16))))))) n_tewi f_te
                  have f_he := hp_k (e := (.inl (ct 1, 64, .inl (upd ww t4 ((((((tr (ww (t4 - 2)) 17) ^^^ (tr (ww (t4 - 2)) 19)) ^^^ ((Int32.toUInt32 (ww (t4 - 2)) >>> (Int32.toUInt32 (nI 10) &&& Int32.toUInt32 31)).toInt32)) + (ww (t4 - 7))) + (((tr (ww (t4 - 15)) 7) ^^^ (tr (ww (t4 - 15)) 18)) ^^^ ((Int32.toUInt32 (ww (t4 - 15)) >>> (Int32.toUInt32 (nI 3) &&& Int32.toUInt32 31)).toInt32))) + (ww (t4 - 16))))))) (hp_ne f_he f_wi (by simp)) f_he
                  have f_cn := hp_k (e := (.inl (ct 1, 64, .inl (upd ww t4 ((((((tr (ww (t4 - 2)) 17) ^^^ (tr (ww (t4 - 2)) 19)) ^^^ ((Int32.toUInt32 (ww (t4 - 2)) >>> (Int32.toUInt32 (nI 10) &&& Int32.toUInt32 31)).toInt32)) + (ww (t4 - 7))) + (((tr (ww (t4 - 15)) 7) ^^^ (tr (ww (t4 - 15)) 18)) ^^^ ((Int32.toUInt32 (ww (t4 - 15)) >>> (Int32.toUInt32 (nI 3) &&& Int32.toUInt32 31)).toInt32))) + (ww (t4 - 16))))))) (hp_ne f_cn f_wi (by simp)) f_cn
                  have f_kd := hp_k (e := (.inl (ct 1, 64, .inl (upd ww t4 ((((((tr (ww (t4 - 2)) 17) ^^^ (tr (ww (t4 - 2)) 19)) ^^^ ((Int32.toUInt32 (ww (t4 - 2)) >>> (Int32.toUInt32 (nI 10) &&& Int32.toUInt32 31)).toInt32)) + (ww (t4 - 7))) + (((tr (ww (t4 - 15)) 7) ^^^ (tr (ww (t4 - 15)) 18)) ^^^ ((Int32.toUInt32 (ww (t4 - 15)) >>> (Int32.toUInt32 (nI 3) &&& Int32.toUInt32 31)).toInt32))) + (ww (t4 - 16))))))) (hp_ne f_kd f_wi (by simp)) f_kd
                  have f_sz := hp_k (e := (.inl (ct 1, 64, .inl (upd ww t4 ((((((tr (ww (t4 - 2)) 17) ^^^ (tr (ww (t4 - 2)) 19)) ^^^ ((Int32.toUInt32 (ww (t4 - 2)) >>> (Int32.toUInt32 (nI 10) &&& Int32.toUInt32 31)).toInt32)) + (ww (t4 - 7))) + (((tr (ww (t4 - 15)) 7) ^^^ (tr (ww (t4 - 15)) 18)) ^^^ ((Int32.toUInt32 (ww (t4 - 15)) >>> (Int32.toUInt32 (nI 3) &&& Int32.toUInt32 31)).toInt32))) + (ww (t4 - 16))))))) (hp_ne f_sz f_wi (by simp)) f_sz
                  have f_ky := hp_k (e := (.inl (ct 1, 64, .inl (upd ww t4 ((((((tr (ww (t4 - 2)) 17) ^^^ (tr (ww (t4 - 2)) 19)) ^^^ ((Int32.toUInt32 (ww (t4 - 2)) >>> (Int32.toUInt32 (nI 10) &&& Int32.toUInt32 31)).toInt32)) + (ww (t4 - 7))) + (((tr (ww (t4 - 15)) 7) ^^^ (tr (ww (t4 - 15)) 18)) ^^^ ((Int32.toUInt32 (ww (t4 - 15)) >>> (Int32.toUInt32 (nI 3) &&& Int32.toUInt32 31)).toInt32))) + (ww (t4 - 16))))))) (hp_ne f_ky f_wi (by simp)) f_ky
                  have f_le := hp_k (e := (.inl (ct 1, 64, .inl (upd ww t4 ((((((tr (ww (t4 - 2)) 17) ^^^ (tr (ww (t4 - 2)) 19)) ^^^ ((Int32.toUInt32 (ww (t4 - 2)) >>> (Int32.toUInt32 (nI 10) &&& Int32.toUInt32 31)).toInt32)) + (ww (t4 - 7))) + (((tr (ww (t4 - 15)) 7) ^^^ (tr (ww (t4 - 15)) 18)) ^^^ ((Int32.toUInt32 (ww (t4 - 15)) >>> (Int32.toUInt32 (nI 3) &&& Int32.toUInt32 31)).toInt32))) + (ww (t4 - 16))))))) (hp_ne f_le f_wi (by simp)) f_le
                  have f_dg := hp_k (e := (.inl (ct 1, 64, .inl (upd ww t4 ((((((tr (ww (t4 - 2)) 17) ^^^ (tr (ww (t4 - 2)) 19)) ^^^ ((Int32.toUInt32 (ww (t4 - 2)) >>> (Int32.toUInt32 (nI 10) &&& Int32.toUInt32 31)).toInt32)) + (ww (t4 - 7))) + (((tr (ww (t4 - 15)) 7) ^^^ (tr (ww (t4 - 15)) 18)) ^^^ ((Int32.toUInt32 (ww (t4 - 15)) >>> (Int32.toUInt32 (nI 3) &&& Int32.toUInt32 31)).toInt32))) + (ww (t4 - 16))))))) (hp_ne f_dg f_wi (by simp)) f_dg
                  have f_nm := hp_k (e := (.inl (ct 1, 64, .inl (upd ww t4 ((((((tr (ww (t4 - 2)) 17) ^^^ (tr (ww (t4 - 2)) 19)) ^^^ ((Int32.toUInt32 (ww (t4 - 2)) >>> (Int32.toUInt32 (nI 10) &&& Int32.toUInt32 31)).toInt32)) + (ww (t4 - 7))) + (((tr (ww (t4 - 15)) 7) ^^^ (tr (ww (t4 - 15)) 18)) ^^^ ((Int32.toUInt32 (ww (t4 - 15)) >>> (Int32.toUInt32 (nI 3) &&& Int32.toUInt32 31)).toInt32))) + (ww (t4 - 16))))))) (hp_ne f_nm f_wi (by simp)) f_nm
                  have f_ns := hp_k (e := (.inl (ct 1, 64, .inl (upd ww t4 ((((((tr (ww (t4 - 2)) 17) ^^^ (tr (ww (t4 - 2)) 19)) ^^^ ((Int32.toUInt32 (ww (t4 - 2)) >>> (Int32.toUInt32 (nI 10) &&& Int32.toUInt32 31)).toInt32)) + (ww (t4 - 7))) + (((tr (ww (t4 - 15)) 7) ^^^ (tr (ww (t4 - 15)) 18)) ^^^ ((Int32.toUInt32 (ww (t4 - 15)) >>> (Int32.toUInt32 (nI 3) &&& Int32.toUInt32 31)).toInt32))) + (ww (t4 - 16))))))) (hp_ne f_ns f_wi (by simp)) f_ns
                  have f_sl := hp_k (e := (.inl (ct 1, 64, .inl (upd ww t4 ((((((tr (ww (t4 - 2)) 17) ^^^ (tr (ww (t4 - 2)) 19)) ^^^ ((Int32.toUInt32 (ww (t4 - 2)) >>> (Int32.toUInt32 (nI 10) &&& Int32.toUInt32 31)).toInt32)) + (ww (t4 - 7))) + (((tr (ww (t4 - 15)) 7) ^^^ (tr (ww (t4 - 15)) 18)) ^^^ ((Int32.toUInt32 (ww (t4 - 15)) >>> (Int32.toUInt32 (nI 3) &&& Int32.toUInt32 31)).toInt32))) + (ww (t4 - 16))))))) (hp_ne f_sl f_wi (by simp)) f_sl
                  have f_sb := hp_k (e := (.inl (ct 1, 64, .inl (upd ww t4 ((((((tr (ww (t4 - 2)) 17) ^^^ (tr (ww (t4 - 2)) 19)) ^^^ ((Int32.toUInt32 (ww (t4 - 2)) >>> (Int32.toUInt32 (nI 10) &&& Int32.toUInt32 31)).toInt32)) + (ww (t4 - 7))) + (((tr (ww (t4 - 15)) 7) ^^^ (tr (ww (t4 - 15)) 18)) ^^^ ((Int32.toUInt32 (ww (t4 - 15)) >>> (Int32.toUInt32 (nI 3) &&& Int32.toUInt32 31)).toInt32))) + (ww (t4 - 16))))))) (hp_ne f_sb f_wi (by simp)) f_sb
                  have f_su := hp_k (e := (.inl (ct 1, 64, .inl (upd ww t4 ((((((tr (ww (t4 - 2)) 17) ^^^ (tr (ww (t4 - 2)) 19)) ^^^ ((Int32.toUInt32 (ww (t4 - 2)) >>> (Int32.toUInt32 (nI 10) &&& Int32.toUInt32 31)).toInt32)) + (ww (t4 - 7))) + (((tr (ww (t4 - 15)) 7) ^^^ (tr (ww (t4 - 15)) 18)) ^^^ ((Int32.toUInt32 (ww (t4 - 15)) >>> (Int32.toUInt32 (nI 3) &&& Int32.toUInt32 31)).toInt32))) + (ww (t4 - 16))))))) (hp_ne f_su f_wi (by simp)) f_su
                  have f_tu := hp_k (e := (.inl (ct 1, 64, .inl (upd ww t4 ((((((tr (ww (t4 - 2)) 17) ^^^ (tr (ww (t4 - 2)) 19)) ^^^ ((Int32.toUInt32 (ww (t4 - 2)) >>> (Int32.toUInt32 (nI 10) &&& Int32.toUInt32 31)).toInt32)) + (ww (t4 - 7))) + (((tr (ww (t4 - 15)) 7) ^^^ (tr (ww (t4 - 15)) 18)) ^^^ ((Int32.toUInt32 (ww (t4 - 15)) >>> (Int32.toUInt32 (nI 3) &&& Int32.toUInt32 31)).toInt32))) + (ww (t4 - 16))))))) (hp_ne f_tu f_wi (by simp)) f_tu
                  have f_wi : hp_up N8 B.wi (.inl (ct 1, 64, .inl (upd ww t4 ((((((tr (ww (t4 - 2)) 17) ^^^ (tr (ww (t4 - 2)) 19)) ^^^ ((Int32.toUInt32 (ww (t4 - 2)) >>> (Int32.toUInt32 (nI 10) &&& Int32.toUInt32 31)).toInt32)) + (ww (t4 - 7))) + (((tr (ww (t4 - 15)) 7) ^^^ (tr (ww (t4 - 15)) 18)) ^^^ ((Int32.toUInt32 (ww (t4 - 15)) >>> (Int32.toUInt32 (nI 3) &&& Int32.toUInt32 31)).toInt32))) + (ww (t4 - 16)))))) B.wi = some (.inl (ct 1, 64, .inl (upd ww t4 ((((((tr (ww (t4 - 2)) 17) ^^^ (tr (ww (t4 - 2)) 19)) ^^^ ((Int32.toUInt32 (ww (t4 - 2)) >>> (Int32.toUInt32 (nI 10) &&& Int32.toUInt32 31)).toInt32)) + (ww (t4 - 7))) + (((tr (ww (t4 - 15)) 7) ^^^ (tr (ww (t4 - 15)) 18)) ^^^ ((Int32.toUInt32 (ww (t4 - 15)) >>> (Int32.toUInt32 (nI 3) &&& Int32.toUInt32 31)).toInt32))) + (ww (t4 - 16)))))) := hp_us
                  obtain ⟨M19, eM19⟩ : ∃ z, z = hp_up N8 B.wi (.inl (ct 1, 64, .inl (upd ww t4 ((((((tr (ww (t4 - 2)) 17) ^^^ (tr (ww (t4 - 2)) 19)) ^^^ ((Int32.toUInt32 (ww (t4 - 2)) >>> (Int32.toUInt32 (nI 10) &&& Int32.toUInt32 31)).toInt32)) + (ww (t4 - 7))) + (((tr (ww (t4 - 15)) 7) ^^^ (tr (ww (t4 - 15)) 18)) ^^^ ((Int32.toUInt32 (ww (t4 - 15)) >>> (Int32.toUInt32 (nI 3) &&& Int32.toUInt32 31)).toInt32))) + (ww (t4 - 16)))))) := ⟨_, rfl⟩
                  rw [← eM19] at hM f_md f_ro f_te f_he f_cn f_kd f_sz f_ky f_le f_dg f_nm f_ns f_sl f_sb f_su f_wi f_tu
                  refine lv_iinc (v := nI (t4 + 1)) (lv' := [(4, .int (nI (t4 + 1))), (6, .int (ww (t4 - 15))), (5, .int (ww (t4 - 2))), (0, .ref md), (1, .int (nI (T.length))), (2, .int (nI (nb * 64))), (3, .int (nI fr))]) hx hb d_MD_sumUp_244 hl (k := 6) rfl (nI_add t4 1) (by decide) rfl (fun ls hl => ?_)
                  refine lv_goto (tgt := 143) hx hb d_MD_sumUp_247 (by decide) ?_
                  exact ih4 (ls := ls) (hl := lv_sub hl [3, 4, 5, 6, 0] rfl) (hn4 := by omega) (t4 := t4 + 1) (u := u + 1) (ww := upd ww t4 ((((((tr (ww (t4 - 2)) 17) ^^^ (tr (ww (t4 - 2)) 19)) ^^^ ((Int32.toUInt32 (ww (t4 - 2)) >>> (Int32.toUInt32 (nI 10) &&& Int32.toUInt32 31)).toInt32)) + (ww (t4 - 7))) + (((tr (ww (t4 - 15)) 7) ^^^ (tr (ww (t4 - 15)) 18)) ^^^ ((Int32.toUInt32 (ww (t4 - 15)) >>> (Int32.toUInt32 (nI 3) &&& Int32.toUInt32 31)).toInt32))) + (ww (t4 - 16)))) (ht4 := by omega) (hww := by rw [hww, ht4]; rfl) (H := H) (locs := locs) (hM := hM) (hS := hS) (N8 := M19) (f_md := f_md) (f_ro := f_ro) (f_te := f_te) (f_he := f_he) (f_cn := f_cn) (f_kd := f_kd) (f_sz := f_sz) (f_ky := f_ky) (f_le := f_le) (f_dg := f_dg) (f_nm := f_nm) (f_ns := f_ns) (f_sl := f_sl) (f_sb := f_sb) (f_su := f_su) (f_wi := f_wi) (f_tu := f_tu)
            · exact absurd hn3 (by omega)
          | succ fu3 ih3 =>
            refine lv_iload hx hb d_MD_sumUp_53 (lv_at hl 4 rfl) ?_
            refine lv_bipush (v := nI 16) hx hb d_MD_sumUp_55 rfl ?_
            refine nb_ge (tgt := 139) hx hb d_MD_sumUp_57 (by decide) (by omega) (by omega) (fun h20 => ?_) (fun h20 => ?_)
            · exact absurd hn3 (by omega)
            · refine lv_aload_n hx hb d_MD_sumUp_60 rfl (lv_at hl 0 rfl) ?_
              refine hp_get S hK hM i_MD f_md rfl 20 (by decide) mf_MD_124 (fun _ h9 => h9) rfl d_MD_sumUp_61 ?_
              refine lv_iload hx hb d_MD_sumUp_64 (lv_at hl 4 rfl) ?_
              refine lv_aload_n hx hb d_MD_sumUp_66 rfl (lv_at hl 0 rfl) ?_
              refine lv_iload_n hx hb d_MD_sumUp_67 rfl (lv_at hl 3 rfl) ?_
              refine lv_iconst (v := nI 4) hx hb d_MD_sumUp_68 rfl ?_
              refine lv_iload hx hb d_MD_sumUp_69 (lv_at hl 4 rfl) ?_
              refine nb_imul hx hb d_MD_sumUp_71 ?_
              refine nb_iadd hx hb d_MD_sumUp_72 ?_
              refine lv_iload_n hx hb d_MD_sumUp_73 rfl (lv_at hl 1 rfl) ?_
              refine lv_iload_n hx hb d_MD_sumUp_74 rfl (lv_at hl 2 rfl) ?_
              have hwb : mdS ct N6 md B (mkS (V.te) (V.cn) (V.kd) (V.sz) (V.ky) (V.le) (V.nm) (V.ns) (V.sl) (V.sb) (V.he) (V.dg) sv wx tv (V.co) (V.ty) (V.ac) (V.al) (V.sd) (V.ss)) := ⟨f_md, f_ro, f_te, f_he, f_cn, f_kd, f_sz, f_ky, f_le, f_dg, f_nm, f_ns, f_sl, f_sb, f_su, f_wi, f_tu, hB, b_te, b_cn, b_kd, b_sz, b_ky, b_le, b_nm, b_ns, b_sl, b_sb, b_co, b_ty, b_ac, b_al, b_sd, b_ss⟩
              refine hp_calli (go_V S hZ hK hM hS hA hz (c_MD_byteAt l D ct Z hZ _ _ md B (mkS (V.te) (V.cn) (V.kd) (V.sz) (V.ky) (V.le) (V.nm) (V.ns) (V.sl) (V.sb) (V.he) (V.dg) sv wx tv (V.co) (V.ty) (V.ac) (V.al) (V.sd) (V.ss)) hwb T hT3 hcT hsb nb (fr + (4 * t)) enb (by omega)) mc_MD_byteAt mz_MD ml_MD_217 mi_MD_byteAt mx_MD_byteAt hd_MD_byteAt rfl ⟨by decide, by decide⟩ f_md rfl rfl hl.1 rfl (Nat.le_of_ble_eq_true rfl) d_MD_sumUp_75 ⟨by decide, by decide⟩) hM hS hA (fun r21 M9 H locs hr21 hM hS => ?_)
              rw [hr21.1] at hM
              rw [hr21.2]
              refine lv_bipush (v := nI 24) hx hb d_MD_sumUp_78 rfl ?_
              refine lv_ishl hx hb d_MD_sumUp_80 ?_
              refine lv_aload_n hx hb d_MD_sumUp_81 rfl (lv_at hl 0 rfl) ?_
              refine lv_iload_n hx hb d_MD_sumUp_82 rfl (lv_at hl 3 rfl) ?_
              refine lv_iconst (v := nI 4) hx hb d_MD_sumUp_83 rfl ?_
              refine lv_iload hx hb d_MD_sumUp_84 (lv_at hl 4 rfl) ?_
              refine nb_imul hx hb d_MD_sumUp_86 ?_
              refine nb_iadd hx hb d_MD_sumUp_87 ?_
              refine lv_iconst (v := nI 1) hx hb d_MD_sumUp_88 rfl ?_
              refine nb_iadd hx hb d_MD_sumUp_89 ?_
              refine lv_iload_n hx hb d_MD_sumUp_90 rfl (lv_at hl 1 rfl) ?_
              refine lv_iload_n hx hb d_MD_sumUp_91 rfl (lv_at hl 2 rfl) ?_
              have hwb : mdS ct N6 md B (mkS (V.te) (V.cn) (V.kd) (V.sz) (V.ky) (V.le) (V.nm) (V.ns) (V.sl) (V.sb) (V.he) (V.dg) sv wx tv (V.co) (V.ty) (V.ac) (V.al) (V.sd) (V.ss)) := ⟨f_md, f_ro, f_te, f_he, f_cn, f_kd, f_sz, f_ky, f_le, f_dg, f_nm, f_ns, f_sl, f_sb, f_su, f_wi, f_tu, hB, b_te, b_cn, b_kd, b_sz, b_ky, b_le, b_nm, b_ns, b_sl, b_sb, b_co, b_ty, b_ac, b_al, b_sd, b_ss⟩
              refine hp_calli (go_V S hZ hK hM hS hA hz (c_MD_byteAt l D ct Z hZ _ _ md B (mkS (V.te) (V.cn) (V.kd) (V.sz) (V.ky) (V.le) (V.nm) (V.ns) (V.sl) (V.sb) (V.he) (V.dg) sv wx tv (V.co) (V.ty) (V.ac) (V.al) (V.sd) (V.ss)) hwb T hT3 hcT hsb nb ((fr + (4 * t)) + 1) enb (by omega)) mc_MD_byteAt mz_MD ml_MD_217 mi_MD_byteAt mx_MD_byteAt hd_MD_byteAt rfl ⟨by decide, by decide⟩ f_md rfl rfl hl.1 rfl (Nat.le_of_ble_eq_true rfl) d_MD_sumUp_92 ⟨by decide, by decide⟩) hM hS hA (fun r22 M9 H locs hr22 hM hS => ?_)
              rw [hr22.1] at hM
              rw [hr22.2]
              refine lv_bipush (v := nI 16) hx hb d_MD_sumUp_95 rfl ?_
              refine lv_ishl hx hb d_MD_sumUp_97 ?_
              refine lv_ior hx hb d_MD_sumUp_98 ?_
              refine lv_aload_n hx hb d_MD_sumUp_99 rfl (lv_at hl 0 rfl) ?_
              refine lv_iload_n hx hb d_MD_sumUp_100 rfl (lv_at hl 3 rfl) ?_
              refine lv_iconst (v := nI 4) hx hb d_MD_sumUp_101 rfl ?_
              refine lv_iload hx hb d_MD_sumUp_102 (lv_at hl 4 rfl) ?_
              refine nb_imul hx hb d_MD_sumUp_104 ?_
              refine nb_iadd hx hb d_MD_sumUp_105 ?_
              refine lv_iconst (v := nI 2) hx hb d_MD_sumUp_106 rfl ?_
              refine nb_iadd hx hb d_MD_sumUp_107 ?_
              refine lv_iload_n hx hb d_MD_sumUp_108 rfl (lv_at hl 1 rfl) ?_
              refine lv_iload_n hx hb d_MD_sumUp_109 rfl (lv_at hl 2 rfl) ?_
              have hwb : mdS ct N6 md B (mkS (V.te) (V.cn) (V.kd) (V.sz) (V.ky) (V.le) (V.nm) (V.ns) (V.sl) (V.sb) (V.he) (V.dg) sv wx tv (V.co) (V.ty) (V.ac) (V.al) (V.sd) (V.ss)) := ⟨f_md, f_ro, f_te, f_he, f_cn, f_kd, f_sz, f_ky, f_le, f_dg, f_nm, f_ns, f_sl, f_sb, f_su, f_wi, f_tu, hB, b_te, b_cn, b_kd, b_sz, b_ky, b_le, b_nm, b_ns, b_sl, b_sb, b_co, b_ty, b_ac, b_al, b_sd, b_ss⟩
              refine hp_calli (go_V S hZ hK hM hS hA hz (c_MD_byteAt l D ct Z hZ _ _ md B (mkS (V.te) (V.cn) (V.kd) (V.sz) (V.ky) (V.le) (V.nm) (V.ns) (V.sl) (V.sb) (V.he) (V.dg) sv wx tv (V.co) (V.ty) (V.ac) (V.al) (V.sd) (V.ss)) hwb T hT3 hcT hsb nb ((fr + (4 * t)) + 2) enb (by omega)) mc_MD_byteAt mz_MD ml_MD_217 mi_MD_byteAt mx_MD_byteAt hd_MD_byteAt rfl ⟨by decide, by decide⟩ f_md rfl rfl hl.1 rfl (Nat.le_of_ble_eq_true rfl) d_MD_sumUp_110 ⟨by decide, by decide⟩) hM hS hA (fun r23 M9 H locs hr23 hM hS => ?_)
              rw [hr23.1] at hM
              rw [hr23.2]
              refine lv_bipush (v := nI 8) hx hb d_MD_sumUp_113 rfl ?_
              refine lv_ishl hx hb d_MD_sumUp_115 ?_
              refine lv_ior hx hb d_MD_sumUp_116 ?_
              refine lv_aload_n hx hb d_MD_sumUp_117 rfl (lv_at hl 0 rfl) ?_
              refine lv_iload_n hx hb d_MD_sumUp_118 rfl (lv_at hl 3 rfl) ?_
              refine lv_iconst (v := nI 4) hx hb d_MD_sumUp_119 rfl ?_
              refine lv_iload hx hb d_MD_sumUp_120 (lv_at hl 4 rfl) ?_
              refine nb_imul hx hb d_MD_sumUp_122 ?_
              refine nb_iadd hx hb d_MD_sumUp_123 ?_
              refine lv_iconst (v := nI 3) hx hb d_MD_sumUp_124 rfl ?_
              refine nb_iadd hx hb d_MD_sumUp_125 ?_
              refine lv_iload_n hx hb d_MD_sumUp_126 rfl (lv_at hl 1 rfl) ?_
              refine lv_iload_n hx hb d_MD_sumUp_127 rfl (lv_at hl 2 rfl) ?_
              have hwb : mdS ct N6 md B (mkS (V.te) (V.cn) (V.kd) (V.sz) (V.ky) (V.le) (V.nm) (V.ns) (V.sl) (V.sb) (V.he) (V.dg) sv wx tv (V.co) (V.ty) (V.ac) (V.al) (V.sd) (V.ss)) := ⟨f_md, f_ro, f_te, f_he, f_cn, f_kd, f_sz, f_ky, f_le, f_dg, f_nm, f_ns, f_sl, f_sb, f_su, f_wi, f_tu, hB, b_te, b_cn, b_kd, b_sz, b_ky, b_le, b_nm, b_ns, b_sl, b_sb, b_co, b_ty, b_ac, b_al, b_sd, b_ss⟩
              refine hp_calli (go_V S hZ hK hM hS hA hz (c_MD_byteAt l D ct Z hZ _ _ md B (mkS (V.te) (V.cn) (V.kd) (V.sz) (V.ky) (V.le) (V.nm) (V.ns) (V.sl) (V.sb) (V.he) (V.dg) sv wx tv (V.co) (V.ty) (V.ac) (V.al) (V.sd) (V.ss)) hwb T hT3 hcT hsb nb ((fr + (4 * t)) + 3) enb (by omega)) mc_MD_byteAt mz_MD ml_MD_217 mi_MD_byteAt mx_MD_byteAt hd_MD_byteAt rfl ⟨by decide, by decide⟩ f_md rfl rfl hl.1 rfl (Nat.le_of_ble_eq_true rfl) d_MD_sumUp_128 ⟨by decide, by decide⟩) hM hS hA (fun r24 M9 H locs hr24 hM hS => ?_)
              rw [hr24.1] at hM
              rw [hr24.2]
              refine lv_ior hx hb d_MD_sumUp_131 ?_
              refine hp_iast S hK hM hS 1 f_wi rfl t rfl (by omega) (by omega) d_MD_sumUp_132 (fun H locs hM hS => ?_)
              have f_md := hp_k (e := (.inl (ct 1, 64, .inl (upd wx t (((((nI (padB T (fr + (4 * t)))) <<< ((nI 24) &&& 31)) ||| ((nI (padB T ((fr + (4 * t)) + 1))) <<< ((nI 16) &&& 31))) ||| ((nI (padB T ((fr + (4 * t)) + 2))) <<< ((nI 8) &&& 31))) ||| (nI (padB T ((fr + (4 * t)) + 3)))))))) (hp_ne f_md f_wi (by simp)) f_md
              have f_ro := hp_k (e := (.inl (ct 1, 64, .inl (upd wx t (((((nI (padB T (fr + (4 * t)))) <<< ((nI 24) &&& 31)) ||| ((nI (padB T ((fr + (4 * t)) + 1))) <<< ((nI 16) &&& 31))) ||| ((nI (padB T ((fr + (4 * t)) + 2))) <<< ((nI 8) &&& 31))) ||| (nI (padB T ((fr + (4 * t)) + 3)))))))) (hp_ne f_ro f_wi (by simp)) f_ro
              have f_te := hp_k (e := (.inl (ct 1, 64, .inl (upd wx t (((((nI (padB T (fr + (4 * t)))) <<< ((nI 24) &&& 31)) ||| ((nI (padB T ((fr + (4 * t)) + 1))) <<< ((nI 16) &&& 31))) ||| ((nI (padB T ((fr + (4 * t)) + 2))) <<< ((nI 8) &&& 31))) ||| (nI (padB T ((fr + (4 * t)) + 3)))))))) n_tewi f_te
              have f_he := hp_k (e := (.inl (ct 1, 64, .inl (upd wx t (((((nI (padB T (fr + (4 * t)))) <<< ((nI 24) &&& 31)) ||| ((nI (padB T ((fr + (4 * t)) + 1))) <<< ((nI 16) &&& 31))) ||| ((nI (padB T ((fr + (4 * t)) + 2))) <<< ((nI 8) &&& 31))) ||| (nI (padB T ((fr + (4 * t)) + 3)))))))) (hp_ne f_he f_wi (by simp)) f_he
              have f_cn := hp_k (e := (.inl (ct 1, 64, .inl (upd wx t (((((nI (padB T (fr + (4 * t)))) <<< ((nI 24) &&& 31)) ||| ((nI (padB T ((fr + (4 * t)) + 1))) <<< ((nI 16) &&& 31))) ||| ((nI (padB T ((fr + (4 * t)) + 2))) <<< ((nI 8) &&& 31))) ||| (nI (padB T ((fr + (4 * t)) + 3)))))))) (hp_ne f_cn f_wi (by simp)) f_cn
              have f_kd := hp_k (e := (.inl (ct 1, 64, .inl (upd wx t (((((nI (padB T (fr + (4 * t)))) <<< ((nI 24) &&& 31)) ||| ((nI (padB T ((fr + (4 * t)) + 1))) <<< ((nI 16) &&& 31))) ||| ((nI (padB T ((fr + (4 * t)) + 2))) <<< ((nI 8) &&& 31))) ||| (nI (padB T ((fr + (4 * t)) + 3)))))))) (hp_ne f_kd f_wi (by simp)) f_kd
              have f_sz := hp_k (e := (.inl (ct 1, 64, .inl (upd wx t (((((nI (padB T (fr + (4 * t)))) <<< ((nI 24) &&& 31)) ||| ((nI (padB T ((fr + (4 * t)) + 1))) <<< ((nI 16) &&& 31))) ||| ((nI (padB T ((fr + (4 * t)) + 2))) <<< ((nI 8) &&& 31))) ||| (nI (padB T ((fr + (4 * t)) + 3)))))))) (hp_ne f_sz f_wi (by simp)) f_sz
              have f_ky := hp_k (e := (.inl (ct 1, 64, .inl (upd wx t (((((nI (padB T (fr + (4 * t)))) <<< ((nI 24) &&& 31)) ||| ((nI (padB T ((fr + (4 * t)) + 1))) <<< ((nI 16) &&& 31))) ||| ((nI (padB T ((fr + (4 * t)) + 2))) <<< ((nI 8) &&& 31))) ||| (nI (padB T ((fr + (4 * t)) + 3)))))))) (hp_ne f_ky f_wi (by simp)) f_ky
              have f_le := hp_k (e := (.inl (ct 1, 64, .inl (upd wx t (((((nI (padB T (fr + (4 * t)))) <<< ((nI 24) &&& 31)) ||| ((nI (padB T ((fr + (4 * t)) + 1))) <<< ((nI 16) &&& 31))) ||| ((nI (padB T ((fr + (4 * t)) + 2))) <<< ((nI 8) &&& 31))) ||| (nI (padB T ((fr + (4 * t)) + 3)))))))) (hp_ne f_le f_wi (by simp)) f_le
              have f_dg := hp_k (e := (.inl (ct 1, 64, .inl (upd wx t (((((nI (padB T (fr + (4 * t)))) <<< ((nI 24) &&& 31)) ||| ((nI (padB T ((fr + (4 * t)) + 1))) <<< ((nI 16) &&& 31))) ||| ((nI (padB T ((fr + (4 * t)) + 2))) <<< ((nI 8) &&& 31))) ||| (nI (padB T ((fr + (4 * t)) + 3)))))))) (hp_ne f_dg f_wi (by simp)) f_dg
              have f_nm := hp_k (e := (.inl (ct 1, 64, .inl (upd wx t (((((nI (padB T (fr + (4 * t)))) <<< ((nI 24) &&& 31)) ||| ((nI (padB T ((fr + (4 * t)) + 1))) <<< ((nI 16) &&& 31))) ||| ((nI (padB T ((fr + (4 * t)) + 2))) <<< ((nI 8) &&& 31))) ||| (nI (padB T ((fr + (4 * t)) + 3)))))))) (hp_ne f_nm f_wi (by simp)) f_nm
              have f_ns := hp_k (e := (.inl (ct 1, 64, .inl (upd wx t (((((nI (padB T (fr + (4 * t)))) <<< ((nI 24) &&& 31)) ||| ((nI (padB T ((fr + (4 * t)) + 1))) <<< ((nI 16) &&& 31))) ||| ((nI (padB T ((fr + (4 * t)) + 2))) <<< ((nI 8) &&& 31))) ||| (nI (padB T ((fr + (4 * t)) + 3)))))))) (hp_ne f_ns f_wi (by simp)) f_ns
              have f_sl := hp_k (e := (.inl (ct 1, 64, .inl (upd wx t (((((nI (padB T (fr + (4 * t)))) <<< ((nI 24) &&& 31)) ||| ((nI (padB T ((fr + (4 * t)) + 1))) <<< ((nI 16) &&& 31))) ||| ((nI (padB T ((fr + (4 * t)) + 2))) <<< ((nI 8) &&& 31))) ||| (nI (padB T ((fr + (4 * t)) + 3)))))))) (hp_ne f_sl f_wi (by simp)) f_sl
              have f_sb := hp_k (e := (.inl (ct 1, 64, .inl (upd wx t (((((nI (padB T (fr + (4 * t)))) <<< ((nI 24) &&& 31)) ||| ((nI (padB T ((fr + (4 * t)) + 1))) <<< ((nI 16) &&& 31))) ||| ((nI (padB T ((fr + (4 * t)) + 2))) <<< ((nI 8) &&& 31))) ||| (nI (padB T ((fr + (4 * t)) + 3)))))))) (hp_ne f_sb f_wi (by simp)) f_sb
              have f_su := hp_k (e := (.inl (ct 1, 64, .inl (upd wx t (((((nI (padB T (fr + (4 * t)))) <<< ((nI 24) &&& 31)) ||| ((nI (padB T ((fr + (4 * t)) + 1))) <<< ((nI 16) &&& 31))) ||| ((nI (padB T ((fr + (4 * t)) + 2))) <<< ((nI 8) &&& 31))) ||| (nI (padB T ((fr + (4 * t)) + 3)))))))) (hp_ne f_su f_wi (by simp)) f_su
              have f_tu := hp_k (e := (.inl (ct 1, 64, .inl (upd wx t (((((nI (padB T (fr + (4 * t)))) <<< ((nI 24) &&& 31)) ||| ((nI (padB T ((fr + (4 * t)) + 1))) <<< ((nI 16) &&& 31))) ||| ((nI (padB T ((fr + (4 * t)) + 2))) <<< ((nI 8) &&& 31))) ||| (nI (padB T ((fr + (4 * t)) + 3)))))))) (hp_ne f_tu f_wi (by simp)) f_tu
              have f_wi : hp_up N6 B.wi (.inl (ct 1, 64, .inl (upd wx t (((((nI (padB T (fr + (4 * t)))) <<< ((nI 24) &&& 31)) ||| ((nI (padB T ((fr + (4 * t)) + 1))) <<< ((nI 16) &&& 31))) ||| ((nI (padB T ((fr + (4 * t)) + 2))) <<< ((nI 8) &&& 31))) ||| (nI (padB T ((fr + (4 * t)) + 3))))))) B.wi = some (.inl (ct 1, 64, .inl (upd wx t (((((nI (padB T (fr + (4 * t)))) <<< ((nI 24) &&& 31)) ||| ((nI (padB T ((fr + (4 * t)) + 1))) <<< ((nI 16) &&& 31))) ||| ((nI (padB T ((fr + (4 * t)) + 2))) <<< ((nI 8) &&& 31))) ||| (nI (padB T ((fr + (4 * t)) + 3))))))) := hp_us
              obtain ⟨M25, eM25⟩ : ∃ z, z = hp_up N6 B.wi (.inl (ct 1, 64, .inl (upd wx t (((((nI (padB T (fr + (4 * t)))) <<< ((nI 24) &&& 31)) ||| ((nI (padB T ((fr + (4 * t)) + 1))) <<< ((nI 16) &&& 31))) ||| ((nI (padB T ((fr + (4 * t)) + 2))) <<< ((nI 8) &&& 31))) ||| (nI (padB T ((fr + (4 * t)) + 3))))))) := ⟨_, rfl⟩
              rw [← eM25] at hM f_md f_ro f_te f_he f_cn f_kd f_sz f_ky f_le f_dg f_nm f_ns f_sl f_sb f_su f_wi f_tu
              refine lv_iinc (v := nI (t + 1)) (lv' := [(4, .int (nI (t + 1))), (0, .ref md), (1, .int (nI (T.length))), (2, .int (nI (nb * 64))), (3, .int (nI fr))]) hx hb d_MD_sumUp_133 hl (k := 4) rfl (nI_add t 1) (by decide) rfl (fun ls hl => ?_)
              refine lv_goto (tgt := 53) hx hb d_MD_sumUp_136 (by decide) ?_
              exact ih3 (ls := ls) (hl := lv_sub hl [1, 2, 3, 4, 0] rfl) (hn3 := by omega) (t := t + 1) (wx := upd wx t (((((nI (padB T (fr + (4 * t)))) <<< ((nI 24) &&& 31)) ||| ((nI (padB T ((fr + (4 * t)) + 1))) <<< ((nI 16) &&& 31))) ||| ((nI (padB T ((fr + (4 * t)) + 2))) <<< ((nI 8) &&& 31))) ||| (nI (padB T ((fr + (4 * t)) + 3))))) (hwx := lt_s (fun i hi => by rw [pk_un (Nat.ne_of_lt hi)]; exact hwx i hi) (by rw [pk_us]; rfl)) (H := H) (locs := locs) (hM := hM) (hS := hS) (N6 := M25) (f_md := f_md) (f_ro := f_ro) (f_te := f_te) (f_he := f_he) (f_cn := f_cn) (f_kd := f_kd) (f_sz := f_sz) (f_ky := f_ky) (f_le := f_le) (f_dg := f_dg) (f_nm := f_nm) (f_ns := f_ns) (f_sl := f_sl) (f_sb := f_sb) (f_su := f_su) (f_wi := f_wi) (f_tu := f_tu)
    · exact absurd hn1 (by omega)
  | succ fu1 ih1 =>
    refine lv_iload_n hx hb d_MD_sumUp_16 rfl (lv_at hl 3 rfl) ?_
    refine lv_bipush (v := nI 8) hx hb d_MD_sumUp_17 rfl ?_
    refine nb_ge (tgt := 43) hx hb d_MD_sumUp_19 (by decide) (by omega) (by omega) (fun h26 => ?_) (fun h26 => ?_)
    · exact absurd hn1 (by omega)
    · refine lv_aload_n hx hb d_MD_sumUp_22 rfl (lv_at hl 0 rfl) ?_
      refine hp_get S hK hM i_MD f_md rfl 19 (by decide) mf_MD_121 (fun _ h9 => h9) rfl d_MD_sumUp_23 ?_
      refine lv_iload_n hx hb d_MD_sumUp_26 rfl (lv_at hl 3 rfl) ?_
      refine lv_aload_n hx hb d_MD_sumUp_27 rfl (lv_at hl 0 rfl) ?_
      refine hp_get S hK hM i_MD f_md rfl 0 (by decide) mf_MD_79 (fun _ h9 => h9) rfl d_MD_sumUp_28 ?_
      refine lv_bipush (v := nI 64) hx hb d_MD_sumUp_31 rfl ?_
      refine lv_iload_n hx hb d_MD_sumUp_33 rfl (lv_at hl 3 rfl) ?_
      refine nb_iadd hx hb d_MD_sumUp_34 ?_
      refine hp_iald S hK hM 1 f_ro rfl (64 + k) rfl (by omega) (by omega) d_MD_sumUp_35 ?_
      refine hp_iast S hK hM hS 1 f_su rfl k rfl (by omega) (by omega) d_MD_sumUp_36 (fun H locs hM hS => ?_)
      have f_md := hp_k (e := (.inl (ct 1, 8, .inl (upd su k (roF (64 + k)))))) (hp_ne f_md f_su (by simp)) f_md
      have f_ro := hp_k (e := (.inl (ct 1, 8, .inl (upd su k (roF (64 + k)))))) (hp_ne f_ro f_su (by simp)) f_ro
      have f_te := hp_k (e := (.inl (ct 1, 8, .inl (upd su k (roF (64 + k)))))) (hp_ne f_te f_su (by simp)) f_te
      have f_he := hp_k (e := (.inl (ct 1, 8, .inl (upd su k (roF (64 + k)))))) n_hesu f_he
      have f_cn := hp_k (e := (.inl (ct 1, 8, .inl (upd su k (roF (64 + k)))))) (hp_ne f_cn f_su (by simp)) f_cn
      have f_kd := hp_k (e := (.inl (ct 1, 8, .inl (upd su k (roF (64 + k)))))) (hp_ne f_kd f_su (by simp)) f_kd
      have f_sz := hp_k (e := (.inl (ct 1, 8, .inl (upd su k (roF (64 + k)))))) (hp_ne f_sz f_su (by simp)) f_sz
      have f_ky := hp_k (e := (.inl (ct 1, 8, .inl (upd su k (roF (64 + k)))))) (hp_ne f_ky f_su (by simp)) f_ky
      have f_le := hp_k (e := (.inl (ct 1, 8, .inl (upd su k (roF (64 + k)))))) (hp_ne f_le f_su (by simp)) f_le
      have f_dg := hp_k (e := (.inl (ct 1, 8, .inl (upd su k (roF (64 + k)))))) (hp_ne f_dg f_su (by simp)) f_dg
      have f_nm := hp_k (e := (.inl (ct 1, 8, .inl (upd su k (roF (64 + k)))))) (hp_ne f_nm f_su (by simp)) f_nm
      have f_ns := hp_k (e := (.inl (ct 1, 8, .inl (upd su k (roF (64 + k)))))) n_nssu f_ns
      have f_sl := hp_k (e := (.inl (ct 1, 8, .inl (upd su k (roF (64 + k)))))) (hp_ne f_sl f_su (by simp)) f_sl
      have f_sb := hp_k (e := (.inl (ct 1, 8, .inl (upd su k (roF (64 + k)))))) (hp_ne f_sb f_su (by simp)) f_sb
      have f_wi := hp_k (e := (.inl (ct 1, 8, .inl (upd su k (roF (64 + k)))))) (hp_ne f_wi f_su (by simp)) f_wi
      have f_tu := hp_k (e := (.inl (ct 1, 8, .inl (upd su k (roF (64 + k)))))) (Ne.symm n_sutu) f_tu
      have f_su : hp_up N1 B.su (.inl (ct 1, 8, .inl (upd su k (roF (64 + k))))) B.su = some (.inl (ct 1, 8, .inl (upd su k (roF (64 + k))))) := hp_us
      obtain ⟨M27, eM27⟩ : ∃ z, z = hp_up N1 B.su (.inl (ct 1, 8, .inl (upd su k (roF (64 + k))))) := ⟨_, rfl⟩
      rw [← eM27] at hM f_md f_ro f_te f_he f_cn f_kd f_sz f_ky f_le f_dg f_nm f_ns f_sl f_sb f_su f_wi f_tu
      refine lv_iinc (v := nI (k + 1)) (lv' := [(3, .int (nI (k + 1))), (0, .ref md), (1, .int (nI (T.length))), (2, .int (nI (nb * 64)))]) hx hb d_MD_sumUp_37 hl (k := 3) rfl (nI_add k 1) (by decide) rfl (fun ls hl => ?_)
      refine lv_goto (tgt := 16) hx hb d_MD_sumUp_40 (by decide) ?_
      exact ih1 (ls := ls) (hl := lv_sub hl [1, 2, 3, 0] rfl) (hn1 := by omega) (k := k + 1) (su := upd su k (roF (64 + k))) (hsu := lt_s (fun i hi => by rw [pk_un (Nat.ne_of_lt hi)]; exact hsu i hi) (by rw [pk_us]; exact roF_ge)) (H := H) (locs := locs) (hM := hM) (hS := hS) (N1 := M27) (f_md := f_md) (f_ro := f_ro) (f_te := f_te) (f_he := f_he) (f_cn := f_cn) (f_kd := f_kd) (f_sz := f_sz) (f_ky := f_ky) (f_le := f_le) (f_dg := f_dg) (f_nm := f_nm) (f_ns := f_ns) (f_sl := f_sl) (f_sb := f_sb) (f_su := f_su) (f_wi := f_wi) (f_tu := f_tu)
