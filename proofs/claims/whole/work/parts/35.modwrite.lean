theorem nib_s0 (x : Int32) (k : Nat) (hs : ((nI k &&& 31).toBitVec.smod 32).toNat = k) (hk : k = 0 ∨ k = 4 ∨ k = 8 ∨ k = 12 ∨ k = 16 ∨ k = 20 ∨ k = 24 ∨ k = 28) : (x >>> (nI k &&& 31)) &&& nI 15 = nI (nibN x k) := by
  rw [pk_and _ (m := nI 15) 4 (by decide)]
  unfold nibN
  congr 1
  have h1 := pk_shr x (nI k &&& 31) k hs
  rw [Int.shiftRight_eq_div_pow] at h1
  have h2 : (x >>> (nI k &&& 31)).toInt = (x >>> (nI k &&& 31)).toBitVec.toInt := rfl
  have h3 : x.toInt = x.toBitVec.toInt := rfl
  rw [h2, h3, BitVec.toInt_eq_toNat_cond, BitVec.toInt_eq_toNat_cond] at h1
  have b1 := (x >>> (nI k &&& 31)).toBitVec.isLt
  have b2 := x.toBitVec.isLt
  generalize (x >>> (nI k &&& 31)).toBitVec.toNat = a at *
  generalize x.toBitVec.toNat = b at *
  rcases hk with z | z | z | z | z | z | z | z <;> subst z <;> simp only [Nat.reducePow, Int.reducePow, Nat.reduceMul] at * <;> split at h1 <;> split at h1 <;> omega
theorem nib_sh (x : Int32) {t : Nat} (ht : t < 8) : (x >>> (nI (28 - 4 * t) &&& 31)) &&& nI 15 = nI (nibN x (28 - 4 * t)) := by
  have hs : ∀ t, t < 8 → ((nI (28 - 4 * t) &&& 31).toBitVec.smod 32).toNat = 28 - 4 * t := by decide
  exact nib_s0 x _ (hs t ht) (by omega)
theorem sb_put {sb : Nat → Nat} {S0 : List Nat} {k : Nat} (h : ∀ i, i < S0.length → sb i = S0.getD i 0) : ∀ i, i < (S0 ++ [k]).length → va_up sb S0.length k i = (S0 ++ [k]).getD i 0 := fun i hi => by
  rw [List.length_append] at hi
  have hi : i < S0.length + 1 := hi
  rw [getD_app (by omega)]
  by_cases z : i = S0.length
  · rw [z, up_s, if_pos rfl]
  · rw [up_n z, if_neg z]; exact h i (by omega)
theorem stA_m {O : List MR} {k : Nat} (hk : k < O.length) : stA ((O.take (k + 1)).map clR) = stA ((O.take k).map clR) ++ stT (clR (O.getD k mr0)) := by
  unfold stA
  rw [take_s mr0 hk, List.map_append, List.map_append, List.flatten_append]
  simp
theorem take_a {x : List Nat} {S0 S1 : List Nat} {i : Nat} (hi : i < x.length) (h : S1 = S0 ++ x.take i) : S1 ++ [x.getD i 0] = S0 ++ x.take (i + 1) := by
  rw [h, take_s 0 hi, List.append_assoc]
theorem d_MD_write_0 : decode b_MD_write 0 = .ok (.aload_n 0, 1) := by decide +kernel
theorem d_MD_write_1 : decode b_MD_write 1 = .ok (.iconst 0, 1) := by decide +kernel
theorem d_MD_write_2 : decode b_MD_write 2 = .ok (.putfield 203, 3) := by decide +kernel
theorem d_MD_write_5 : decode b_MD_write 5 = .ok (.aload_n 0, 1) := by decide +kernel
theorem d_MD_write_6 : decode b_MD_write 6 = .ok (.iload_n 1, 1) := by decide +kernel
theorem d_MD_write_7 : decode b_MD_write 7 = .ok (.invokevirtual 196, 3) := by decide +kernel
theorem d_MD_write_10 : decode b_MD_write 10 = .ok (.istore_n 2, 1) := by decide +kernel
theorem d_MD_write_11 : decode b_MD_write 11 = .ok (.iconst 0, 1) := by decide +kernel
theorem d_MD_write_12 : decode b_MD_write 12 = .ok (.istore_n 3, 1) := by decide +kernel
theorem d_MD_write_13 : decode b_MD_write 13 = .ok (.iload_n 3, 1) := by decide +kernel
theorem d_MD_write_14 : decode b_MD_write 14 = .ok (.iload_n 2, 1) := by decide +kernel
theorem d_MD_write_15 : decode b_MD_write 15 = .ok (.if_icmp .ge 211, 3) := by decide +kernel
theorem d_MD_write_18 : decode b_MD_write 18 = .ok (.aload_n 0, 1) := by decide +kernel
theorem d_MD_write_19 : decode b_MD_write 19 = .ok (.iload_n 1, 1) := by decide +kernel
theorem d_MD_write_20 : decode b_MD_write 20 = .ok (.iload_n 3, 1) := by decide +kernel
theorem d_MD_write_21 : decode b_MD_write 21 = .ok (.invokevirtual 200, 3) := by decide +kernel
theorem d_MD_write_24 : decode b_MD_write 24 = .ok (.istore 4, 2) := by decide +kernel
theorem d_MD_write_26 : decode b_MD_write 26 = .ok (.aload_n 0, 1) := by decide +kernel
theorem d_MD_write_27 : decode b_MD_write 27 = .ok (.getfield 94, 3) := by decide +kernel
theorem d_MD_write_30 : decode b_MD_write 30 = .ok (.iload 4, 2) := by decide +kernel
theorem d_MD_write_32 : decode b_MD_write 32 = .ok (.iaload, 1) := by decide +kernel
theorem d_MD_write_33 : decode b_MD_write 33 = .ok (.iconst 1, 1) := by decide +kernel
theorem d_MD_write_34 : decode b_MD_write 34 = .ok (.if_icmp .eq 14, 3) := by decide +kernel
theorem d_MD_write_37 : decode b_MD_write 37 = .ok (.aload_n 0, 1) := by decide +kernel
theorem d_MD_write_38 : decode b_MD_write 38 = .ok (.getfield 94, 3) := by decide +kernel
theorem d_MD_write_41 : decode b_MD_write 41 = .ok (.iload 4, 2) := by decide +kernel
theorem d_MD_write_43 : decode b_MD_write 43 = .ok (.iaload, 1) := by decide +kernel
theorem d_MD_write_44 : decode b_MD_write 44 = .ok (.iconst 3, 1) := by decide +kernel
theorem d_MD_write_45 : decode b_MD_write 45 = .ok (.if_icmp .ne 7, 3) := by decide +kernel
theorem d_MD_write_48 : decode b_MD_write 48 = .ok (.iconst 1, 1) := by decide +kernel
theorem d_MD_write_49 : decode b_MD_write 49 = .ok (.goto 4, 3) := by decide +kernel
theorem d_MD_write_52 : decode b_MD_write 52 = .ok (.iconst 0, 1) := by decide +kernel
theorem d_MD_write_53 : decode b_MD_write 53 = .ok (.istore 5, 2) := by decide +kernel
theorem d_MD_write_55 : decode b_MD_write 55 = .ok (.aload_n 0, 1) := by decide +kernel
theorem d_MD_write_56 : decode b_MD_write 56 = .ok (.getfield 97, 3) := by decide +kernel
theorem d_MD_write_59 : decode b_MD_write 59 = .ok (.iload 4, 2) := by decide +kernel
theorem d_MD_write_61 : decode b_MD_write 61 = .ok (.iaload, 1) := by decide +kernel
theorem d_MD_write_62 : decode b_MD_write 62 = .ok (.iload 5, 2) := by decide +kernel
theorem d_MD_write_64 : decode b_MD_write 64 = .ok (.ifCond .eq 8, 3) := by decide +kernel
theorem d_MD_write_67 : decode b_MD_write 67 = .ok (.bipush 65, 2) := by decide +kernel
theorem d_MD_write_69 : decode b_MD_write 69 = .ok (.goto 4, 3) := by decide +kernel
theorem d_MD_write_72 : decode b_MD_write 72 = .ok (.iconst 0, 1) := by decide +kernel
theorem d_MD_write_73 : decode b_MD_write 73 = .ok (.iadd, 1) := by decide +kernel
theorem d_MD_write_74 : decode b_MD_write 74 = .ok (.istore 6, 2) := by decide +kernel
theorem d_MD_write_76 : decode b_MD_write 76 = .ok (.aload_n 0, 1) := by decide +kernel
theorem d_MD_write_77 : decode b_MD_write 77 = .ok (.bipush 48, 2) := by decide +kernel
theorem d_MD_write_79 : decode b_MD_write 79 = .ok (.aload_n 0, 1) := by decide +kernel
theorem d_MD_write_80 : decode b_MD_write 80 = .ok (.getfield 94, 3) := by decide +kernel
theorem d_MD_write_83 : decode b_MD_write 83 = .ok (.iload 4, 2) := by decide +kernel
theorem d_MD_write_85 : decode b_MD_write 85 = .ok (.iaload, 1) := by decide +kernel
theorem d_MD_write_86 : decode b_MD_write 86 = .ok (.iadd, 1) := by decide +kernel
theorem d_MD_write_87 : decode b_MD_write 87 = .ok (.invokevirtual 206, 3) := by decide +kernel
theorem d_MD_write_90 : decode b_MD_write 90 = .ok (.aload_n 0, 1) := by decide +kernel
theorem d_MD_write_91 : decode b_MD_write 91 = .ok (.bipush 48, 2) := by decide +kernel
theorem d_MD_write_93 : decode b_MD_write 93 = .ok (.iload 6, 2) := by decide +kernel
theorem d_MD_write_95 : decode b_MD_write 95 = .ok (.bipush 64, 2) := by decide +kernel
theorem d_MD_write_97 : decode b_MD_write 97 = .ok (.idiv, 1) := by decide +kernel
theorem d_MD_write_98 : decode b_MD_write 98 = .ok (.iadd, 1) := by decide +kernel
theorem d_MD_write_99 : decode b_MD_write 99 = .ok (.invokevirtual 206, 3) := by decide +kernel
theorem d_MD_write_102 : decode b_MD_write 102 = .ok (.aload_n 0, 1) := by decide +kernel
theorem d_MD_write_103 : decode b_MD_write 103 = .ok (.bipush 48, 2) := by decide +kernel
theorem d_MD_write_105 : decode b_MD_write 105 = .ok (.iload 6, 2) := by decide +kernel
theorem d_MD_write_107 : decode b_MD_write 107 = .ok (.bipush 64, 2) := by decide +kernel
theorem d_MD_write_109 : decode b_MD_write 109 = .ok (.irem, 1) := by decide +kernel
theorem d_MD_write_110 : decode b_MD_write 110 = .ok (.iadd, 1) := by decide +kernel
theorem d_MD_write_111 : decode b_MD_write 111 = .ok (.invokevirtual 206, 3) := by decide +kernel
theorem d_MD_write_114 : decode b_MD_write 114 = .ok (.iconst 0, 1) := by decide +kernel
theorem d_MD_write_115 : decode b_MD_write 115 = .ok (.istore 7, 2) := by decide +kernel
theorem d_MD_write_117 : decode b_MD_write 117 = .ok (.iload 7, 2) := by decide +kernel
theorem d_MD_write_119 : decode b_MD_write 119 = .ok (.aload_n 0, 1) := by decide +kernel
theorem d_MD_write_120 : decode b_MD_write 120 = .ok (.getfield 97, 3) := by decide +kernel
theorem d_MD_write_123 : decode b_MD_write 123 = .ok (.iload 4, 2) := by decide +kernel
theorem d_MD_write_125 : decode b_MD_write 125 = .ok (.iaload, 1) := by decide +kernel
theorem d_MD_write_126 : decode b_MD_write 126 = .ok (.if_icmp .ge 26, 3) := by decide +kernel
theorem d_MD_write_129 : decode b_MD_write 129 = .ok (.aload_n 0, 1) := by decide +kernel
theorem d_MD_write_130 : decode b_MD_write 130 = .ok (.aload_n 0, 1) := by decide +kernel
theorem d_MD_write_131 : decode b_MD_write 131 = .ok (.getfield 103, 3) := by decide +kernel
theorem d_MD_write_134 : decode b_MD_write 134 = .ok (.bipush 64, 2) := by decide +kernel
theorem d_MD_write_136 : decode b_MD_write 136 = .ok (.iload 4, 2) := by decide +kernel
theorem d_MD_write_138 : decode b_MD_write 138 = .ok (.imul, 1) := by decide +kernel
theorem d_MD_write_139 : decode b_MD_write 139 = .ok (.iload 7, 2) := by decide +kernel
theorem d_MD_write_141 : decode b_MD_write 141 = .ok (.iadd, 1) := by decide +kernel
theorem d_MD_write_142 : decode b_MD_write 142 = .ok (.iaload, 1) := by decide +kernel
theorem d_MD_write_143 : decode b_MD_write 143 = .ok (.invokevirtual 206, 3) := by decide +kernel
theorem d_MD_write_146 : decode b_MD_write 146 = .ok (.iinc 7 1, 3) := by decide +kernel
theorem d_MD_write_149 : decode b_MD_write 149 = .ok (.goto (-32), 3) := by decide +kernel
theorem d_MD_write_152 : decode b_MD_write 152 = .ok (.iload 5, 2) := by decide +kernel
theorem d_MD_write_154 : decode b_MD_write 154 = .ok (.ifCond .eq 8, 3) := by decide +kernel
theorem d_MD_write_157 : decode b_MD_write 157 = .ok (.aload_n 0, 1) := by decide +kernel
theorem d_MD_write_158 : decode b_MD_write 158 = .ok (.iconst 0, 1) := by decide +kernel
theorem d_MD_write_159 : decode b_MD_write 159 = .ok (.invokevirtual 206, 3) := by decide +kernel
theorem d_MD_write_162 : decode b_MD_write 162 = .ok (.iconst 0, 1) := by decide +kernel
theorem d_MD_write_163 : decode b_MD_write 163 = .ok (.istore 7, 2) := by decide +kernel
theorem d_MD_write_165 : decode b_MD_write 165 = .ok (.iload 7, 2) := by decide +kernel
theorem d_MD_write_167 : decode b_MD_write 167 = .ok (.bipush 64, 2) := by decide +kernel
theorem d_MD_write_169 : decode b_MD_write 169 = .ok (.if_icmp .ge 51, 3) := by decide +kernel
theorem d_MD_write_172 : decode b_MD_write 172 = .ok (.iload 5, 2) := by decide +kernel
theorem d_MD_write_174 : decode b_MD_write 174 = .ok (.ifCond .eq 46, 3) := by decide +kernel
theorem d_MD_write_177 : decode b_MD_write 177 = .ok (.aload_n 0, 1) := by decide +kernel
theorem d_MD_write_178 : decode b_MD_write 178 = .ok (.aload_n 0, 1) := by decide +kernel
theorem d_MD_write_179 : decode b_MD_write 179 = .ok (.getfield 106, 3) := by decide +kernel
theorem d_MD_write_182 : decode b_MD_write 182 = .ok (.bipush 8, 2) := by decide +kernel
theorem d_MD_write_184 : decode b_MD_write 184 = .ok (.iload 4, 2) := by decide +kernel
theorem d_MD_write_186 : decode b_MD_write 186 = .ok (.imul, 1) := by decide +kernel
theorem d_MD_write_187 : decode b_MD_write 187 = .ok (.iload 7, 2) := by decide +kernel
theorem d_MD_write_189 : decode b_MD_write 189 = .ok (.bipush 8, 2) := by decide +kernel
theorem d_MD_write_191 : decode b_MD_write 191 = .ok (.idiv, 1) := by decide +kernel
theorem d_MD_write_192 : decode b_MD_write 192 = .ok (.iadd, 1) := by decide +kernel
theorem d_MD_write_193 : decode b_MD_write 193 = .ok (.iaload, 1) := by decide +kernel
theorem d_MD_write_194 : decode b_MD_write 194 = .ok (.bipush 28, 2) := by decide +kernel
theorem d_MD_write_196 : decode b_MD_write 196 = .ok (.iconst 4, 1) := by decide +kernel
theorem d_MD_write_197 : decode b_MD_write 197 = .ok (.iload 7, 2) := by decide +kernel
theorem d_MD_write_199 : decode b_MD_write 199 = .ok (.bipush 8, 2) := by decide +kernel
theorem d_MD_write_201 : decode b_MD_write 201 = .ok (.irem, 1) := by decide +kernel
theorem d_MD_write_202 : decode b_MD_write 202 = .ok (.imul, 1) := by decide +kernel
theorem d_MD_write_203 : decode b_MD_write 203 = .ok (.isub, 1) := by decide +kernel
theorem d_MD_write_204 : decode b_MD_write 204 = .ok (.ishr, 1) := by decide +kernel
theorem d_MD_write_205 : decode b_MD_write 205 = .ok (.bipush 15, 2) := by decide +kernel
theorem d_MD_write_207 : decode b_MD_write 207 = .ok (.iand, 1) := by decide +kernel
theorem d_MD_write_208 : decode b_MD_write 208 = .ok (.invokestatic 209, 3) := by decide +kernel
theorem d_MD_write_211 : decode b_MD_write 211 = .ok (.invokevirtual 206, 3) := by decide +kernel
theorem d_MD_write_214 : decode b_MD_write 214 = .ok (.iinc 7 1, 3) := by decide +kernel
theorem d_MD_write_217 : decode b_MD_write 217 = .ok (.goto (-52), 3) := by decide +kernel
theorem d_MD_write_220 : decode b_MD_write 220 = .ok (.iinc 3 1, 3) := by decide +kernel
theorem d_MD_write_223 : decode b_MD_write 223 = .ok (.goto (-210), 3) := by decide +kernel
theorem d_MD_write_226 : decode b_MD_write 226 = .ok (.return_, 1) := by decide +kernel
theorem d_MD_size_0 : decode b_MD_size 0 = .ok (.aload_n 0, 1) := by decide +kernel
theorem d_MD_size_1 : decode b_MD_size 1 = .ok (.iconst 0, 1) := by decide +kernel
theorem d_MD_size_2 : decode b_MD_size 2 = .ok (.putfield 137, 3) := by decide +kernel
theorem d_MD_size_5 : decode b_MD_size 5 = .ok (.aload_n 0, 1) := by decide +kernel
theorem d_MD_size_6 : decode b_MD_size 6 = .ok (.iload_n 1, 1) := by decide +kernel
theorem d_MD_size_7 : decode b_MD_size 7 = .ok (.invokevirtual 168, 3) := by decide +kernel
theorem d_MD_size_10 : decode b_MD_size 10 = .ok (.ifCond .ne 5, 3) := by decide +kernel
theorem d_MD_size_13 : decode b_MD_size 13 = .ok (.iconst (-1), 1) := by decide +kernel
theorem d_MD_size_14 : decode b_MD_size 14 = .ok (.ireturn, 1) := by decide +kernel
theorem d_MD_size_15 : decode b_MD_size 15 = .ok (.aload_n 0, 1) := by decide +kernel
theorem d_MD_size_16 : decode b_MD_size 16 = .ok (.iload_n 1, 1) := by decide +kernel
theorem d_MD_size_17 : decode b_MD_size 17 = .ok (.invokevirtual 212, 3) := by decide +kernel
theorem d_MD_size_20 : decode b_MD_size 20 = .ok (.aload_n 0, 1) := by decide +kernel
theorem d_MD_size_21 : decode b_MD_size 21 = .ok (.getfield 203, 3) := by decide +kernel
theorem d_MD_size_24 : decode b_MD_size 24 = .ok (.ireturn, 1) := by decide +kernel
theorem d_MD_character_0 : decode b_MD_character 0 = .ok (.aload_n 0, 1) := by decide +kernel
theorem d_MD_character_1 : decode b_MD_character 1 = .ok (.iconst 0, 1) := by decide +kernel
theorem d_MD_character_2 : decode b_MD_character 2 = .ok (.putfield 137, 3) := by decide +kernel
theorem d_MD_character_5 : decode b_MD_character 5 = .ok (.aload_n 0, 1) := by decide +kernel
theorem d_MD_character_6 : decode b_MD_character 6 = .ok (.iload_n 1, 1) := by decide +kernel
theorem d_MD_character_7 : decode b_MD_character 7 = .ok (.invokevirtual 168, 3) := by decide +kernel
theorem d_MD_character_10 : decode b_MD_character 10 = .ok (.ifCond .ne 5, 3) := by decide +kernel
theorem d_MD_character_13 : decode b_MD_character 13 = .ok (.iconst (-1), 1) := by decide +kernel
theorem d_MD_character_14 : decode b_MD_character 14 = .ok (.ireturn, 1) := by decide +kernel
theorem d_MD_character_15 : decode b_MD_character 15 = .ok (.aload_n 0, 1) := by decide +kernel
theorem d_MD_character_16 : decode b_MD_character 16 = .ok (.iload_n 1, 1) := by decide +kernel
theorem d_MD_character_17 : decode b_MD_character 17 = .ok (.invokevirtual 212, 3) := by decide +kernel
theorem d_MD_character_20 : decode b_MD_character 20 = .ok (.iload_n 2, 1) := by decide +kernel
theorem d_MD_character_21 : decode b_MD_character 21 = .ok (.ifCond .lt 11, 3) := by decide +kernel
theorem d_MD_character_24 : decode b_MD_character 24 = .ok (.iload_n 2, 1) := by decide +kernel
theorem d_MD_character_25 : decode b_MD_character 25 = .ok (.aload_n 0, 1) := by decide +kernel
theorem d_MD_character_26 : decode b_MD_character 26 = .ok (.getfield 203, 3) := by decide +kernel
theorem d_MD_character_29 : decode b_MD_character 29 = .ok (.if_icmp .lt 7, 3) := by decide +kernel
theorem d_MD_character_32 : decode b_MD_character 32 = .ok (.iconst (-1), 1) := by decide +kernel
theorem d_MD_character_33 : decode b_MD_character 33 = .ok (.goto 9, 3) := by decide +kernel
theorem d_MD_character_36 : decode b_MD_character 36 = .ok (.aload_n 0, 1) := by decide +kernel
theorem d_MD_character_37 : decode b_MD_character 37 = .ok (.getfield 118, 3) := by decide +kernel
theorem d_MD_character_40 : decode b_MD_character 40 = .ok (.iload_n 2, 1) := by decide +kernel
theorem d_MD_character_41 : decode b_MD_character 41 = .ok (.iaload, 1) := by decide +kernel
theorem d_MD_character_42 : decode b_MD_character 42 = .ok (.ireturn, 1) := by decide +kernel
theorem hexC_lt {d : Nat} (h : d < 16) : hexC d < 128 := by
  unfold hexC
  by_cases q : d < 10
  · rw [if_pos q]; omega
  · rw [if_neg q]; omega
set_option maxHeartbeats 4000000 in
set_option maxRecDepth 100000 in
/-- write(a) -/
theorem c_MD_write (l : Launch) (D : va_G) (ct : Nat → ClassId) (Z : hp_Z) (hZ : hp_Zok Z) (M : hp_M) (sz : Nat) (md : Nat) (B : MA) (V : MS) (hw : mdS ct M md B V) (LL : List (List MR)) (hLL : mdL V LL) (Al : List (List Nat)) (hnA : nmA V Al) (OO : Nat → List MR) (hOO : ∀ j, j < LL.length → ordL Al (LL.getD j []) (OO j)) (j : Nat) (hj : j < LL.length) : Mv l y_MD_write b_MD_write 8 none 2 50 0 0 [.ref md, .int (nI j)] D ct Z M sz (fun M1 => ∃ sb, mdS ct M1 md B (mkS (V.te) (V.cn) (V.kd) (V.sz) (V.ky) (V.le) (V.nm) (V.ns) (V.sl) sb (V.he) (V.dg) (V.su) (V.wi) (V.tu) (V.co) (V.ty) (V.ac) (V.al) (V.sd) ((stA ((OO j).map clR)).length)) ∧ (∀ i, i < (stA ((OO j).map clR)).length → sb i = (stA ((OO j).map clR)).getD i 0) ∧ (stA ((OO j).map clR)).length ≤ 2592) := by
  refine hp_start (by decide) (Nat.le_of_ble_eq_true rfl) (fun p e s m below meth c ls S hret hlk hnm hsz hK hM hS hA hz hl => ?_)
  have hx := S.1
  have hb := S.2.1
  have hl : lv_has ls 8 [(0, .ref md), (1, .int (nI j))] := hl
  obtain ⟨f_md, f_ro, f_te, f_he, f_cn, f_kd, f_sz, f_ky, f_le, f_dg, f_nm, f_ns, f_sl, f_sb, f_su, f_wi, f_tu, hB, hV⟩ := id hw
  obtain ⟨n_kdsz, n_kdky, n_szky, n_hens, n_hesu, n_hetu, n_nssu, n_nstu, n_sutu, n_tewi⟩ := id hB
  obtain ⟨b_te, b_cn, b_kd, b_sz, b_ky, b_le, b_nm, b_ns, b_sl, b_sb, b_co, b_ty, b_ac, b_al, b_sd, b_ss⟩ := id hV
  obtain ⟨hcn, hL24, hLr⟩ := hLL.2.2.1 j hj
  have hj12 : j < 12 := Nat.lt_of_lt_of_le hj hLL.2.1
  refine lv_aload_n hx hb d_MD_write_0 rfl (lv_at hl 0 rfl) ?_
  refine lv_iconst (v := nI 0) hx hb d_MD_write_1 rfl ?_
  refine hp_put (ty := .int) (fs' := [.ref B.ro, .int (nI (V.co)), .ref B.te, .int (nI (V.ty)), .int (nI (V.ac)), .int (nI (V.al)), .int (nI (V.sd)), .ref B.he, .ref B.cn, .ref B.kd, .ref B.sz, .ref B.ky, .ref B.le, .ref B.dg, .ref B.nm, .ref B.ns, .ref B.sl, .ref B.sb, .int (nI 0), .ref B.su, .ref B.wi, .ref B.tu]) S hK hM hS i_MD t_MD to_MD n_MD f_md rfl 18 (by decide) mf_MD_203 (fun _ h9 => h9) rfl (by decide +kernel) rfl rfl (by simp) rfl d_MD_write_2 (fun H locs hM hS => ?_)
  have f_ro := hp_k (e := (.inr (6, [.ref B.ro, .int (nI (V.co)), .ref B.te, .int (nI (V.ty)), .int (nI (V.ac)), .int (nI (V.al)), .int (nI (V.sd)), .ref B.he, .ref B.cn, .ref B.kd, .ref B.sz, .ref B.ky, .ref B.le, .ref B.dg, .ref B.nm, .ref B.ns, .ref B.sl, .ref B.sb, .int (nI 0), .ref B.su, .ref B.wi, .ref B.tu]))) (hp_ne f_ro f_md (by simp)) f_ro
  have f_te := hp_k (e := (.inr (6, [.ref B.ro, .int (nI (V.co)), .ref B.te, .int (nI (V.ty)), .int (nI (V.ac)), .int (nI (V.al)), .int (nI (V.sd)), .ref B.he, .ref B.cn, .ref B.kd, .ref B.sz, .ref B.ky, .ref B.le, .ref B.dg, .ref B.nm, .ref B.ns, .ref B.sl, .ref B.sb, .int (nI 0), .ref B.su, .ref B.wi, .ref B.tu]))) (hp_ne f_te f_md (by simp)) f_te
  have f_he := hp_k (e := (.inr (6, [.ref B.ro, .int (nI (V.co)), .ref B.te, .int (nI (V.ty)), .int (nI (V.ac)), .int (nI (V.al)), .int (nI (V.sd)), .ref B.he, .ref B.cn, .ref B.kd, .ref B.sz, .ref B.ky, .ref B.le, .ref B.dg, .ref B.nm, .ref B.ns, .ref B.sl, .ref B.sb, .int (nI 0), .ref B.su, .ref B.wi, .ref B.tu]))) (hp_ne f_he f_md (by simp)) f_he
  have f_cn := hp_k (e := (.inr (6, [.ref B.ro, .int (nI (V.co)), .ref B.te, .int (nI (V.ty)), .int (nI (V.ac)), .int (nI (V.al)), .int (nI (V.sd)), .ref B.he, .ref B.cn, .ref B.kd, .ref B.sz, .ref B.ky, .ref B.le, .ref B.dg, .ref B.nm, .ref B.ns, .ref B.sl, .ref B.sb, .int (nI 0), .ref B.su, .ref B.wi, .ref B.tu]))) (hp_ne f_cn f_md (by simp)) f_cn
  have f_kd := hp_k (e := (.inr (6, [.ref B.ro, .int (nI (V.co)), .ref B.te, .int (nI (V.ty)), .int (nI (V.ac)), .int (nI (V.al)), .int (nI (V.sd)), .ref B.he, .ref B.cn, .ref B.kd, .ref B.sz, .ref B.ky, .ref B.le, .ref B.dg, .ref B.nm, .ref B.ns, .ref B.sl, .ref B.sb, .int (nI 0), .ref B.su, .ref B.wi, .ref B.tu]))) (hp_ne f_kd f_md (by simp)) f_kd
  have f_sz := hp_k (e := (.inr (6, [.ref B.ro, .int (nI (V.co)), .ref B.te, .int (nI (V.ty)), .int (nI (V.ac)), .int (nI (V.al)), .int (nI (V.sd)), .ref B.he, .ref B.cn, .ref B.kd, .ref B.sz, .ref B.ky, .ref B.le, .ref B.dg, .ref B.nm, .ref B.ns, .ref B.sl, .ref B.sb, .int (nI 0), .ref B.su, .ref B.wi, .ref B.tu]))) (hp_ne f_sz f_md (by simp)) f_sz
  have f_ky := hp_k (e := (.inr (6, [.ref B.ro, .int (nI (V.co)), .ref B.te, .int (nI (V.ty)), .int (nI (V.ac)), .int (nI (V.al)), .int (nI (V.sd)), .ref B.he, .ref B.cn, .ref B.kd, .ref B.sz, .ref B.ky, .ref B.le, .ref B.dg, .ref B.nm, .ref B.ns, .ref B.sl, .ref B.sb, .int (nI 0), .ref B.su, .ref B.wi, .ref B.tu]))) (hp_ne f_ky f_md (by simp)) f_ky
  have f_le := hp_k (e := (.inr (6, [.ref B.ro, .int (nI (V.co)), .ref B.te, .int (nI (V.ty)), .int (nI (V.ac)), .int (nI (V.al)), .int (nI (V.sd)), .ref B.he, .ref B.cn, .ref B.kd, .ref B.sz, .ref B.ky, .ref B.le, .ref B.dg, .ref B.nm, .ref B.ns, .ref B.sl, .ref B.sb, .int (nI 0), .ref B.su, .ref B.wi, .ref B.tu]))) (hp_ne f_le f_md (by simp)) f_le
  have f_dg := hp_k (e := (.inr (6, [.ref B.ro, .int (nI (V.co)), .ref B.te, .int (nI (V.ty)), .int (nI (V.ac)), .int (nI (V.al)), .int (nI (V.sd)), .ref B.he, .ref B.cn, .ref B.kd, .ref B.sz, .ref B.ky, .ref B.le, .ref B.dg, .ref B.nm, .ref B.ns, .ref B.sl, .ref B.sb, .int (nI 0), .ref B.su, .ref B.wi, .ref B.tu]))) (hp_ne f_dg f_md (by simp)) f_dg
  have f_nm := hp_k (e := (.inr (6, [.ref B.ro, .int (nI (V.co)), .ref B.te, .int (nI (V.ty)), .int (nI (V.ac)), .int (nI (V.al)), .int (nI (V.sd)), .ref B.he, .ref B.cn, .ref B.kd, .ref B.sz, .ref B.ky, .ref B.le, .ref B.dg, .ref B.nm, .ref B.ns, .ref B.sl, .ref B.sb, .int (nI 0), .ref B.su, .ref B.wi, .ref B.tu]))) (hp_ne f_nm f_md (by simp)) f_nm
  have f_ns := hp_k (e := (.inr (6, [.ref B.ro, .int (nI (V.co)), .ref B.te, .int (nI (V.ty)), .int (nI (V.ac)), .int (nI (V.al)), .int (nI (V.sd)), .ref B.he, .ref B.cn, .ref B.kd, .ref B.sz, .ref B.ky, .ref B.le, .ref B.dg, .ref B.nm, .ref B.ns, .ref B.sl, .ref B.sb, .int (nI 0), .ref B.su, .ref B.wi, .ref B.tu]))) (hp_ne f_ns f_md (by simp)) f_ns
  have f_sl := hp_k (e := (.inr (6, [.ref B.ro, .int (nI (V.co)), .ref B.te, .int (nI (V.ty)), .int (nI (V.ac)), .int (nI (V.al)), .int (nI (V.sd)), .ref B.he, .ref B.cn, .ref B.kd, .ref B.sz, .ref B.ky, .ref B.le, .ref B.dg, .ref B.nm, .ref B.ns, .ref B.sl, .ref B.sb, .int (nI 0), .ref B.su, .ref B.wi, .ref B.tu]))) (hp_ne f_sl f_md (by simp)) f_sl
  have f_sb := hp_k (e := (.inr (6, [.ref B.ro, .int (nI (V.co)), .ref B.te, .int (nI (V.ty)), .int (nI (V.ac)), .int (nI (V.al)), .int (nI (V.sd)), .ref B.he, .ref B.cn, .ref B.kd, .ref B.sz, .ref B.ky, .ref B.le, .ref B.dg, .ref B.nm, .ref B.ns, .ref B.sl, .ref B.sb, .int (nI 0), .ref B.su, .ref B.wi, .ref B.tu]))) (hp_ne f_sb f_md (by simp)) f_sb
  have f_su := hp_k (e := (.inr (6, [.ref B.ro, .int (nI (V.co)), .ref B.te, .int (nI (V.ty)), .int (nI (V.ac)), .int (nI (V.al)), .int (nI (V.sd)), .ref B.he, .ref B.cn, .ref B.kd, .ref B.sz, .ref B.ky, .ref B.le, .ref B.dg, .ref B.nm, .ref B.ns, .ref B.sl, .ref B.sb, .int (nI 0), .ref B.su, .ref B.wi, .ref B.tu]))) (hp_ne f_su f_md (by simp)) f_su
  have f_wi := hp_k (e := (.inr (6, [.ref B.ro, .int (nI (V.co)), .ref B.te, .int (nI (V.ty)), .int (nI (V.ac)), .int (nI (V.al)), .int (nI (V.sd)), .ref B.he, .ref B.cn, .ref B.kd, .ref B.sz, .ref B.ky, .ref B.le, .ref B.dg, .ref B.nm, .ref B.ns, .ref B.sl, .ref B.sb, .int (nI 0), .ref B.su, .ref B.wi, .ref B.tu]))) (hp_ne f_wi f_md (by simp)) f_wi
  have f_tu := hp_k (e := (.inr (6, [.ref B.ro, .int (nI (V.co)), .ref B.te, .int (nI (V.ty)), .int (nI (V.ac)), .int (nI (V.al)), .int (nI (V.sd)), .ref B.he, .ref B.cn, .ref B.kd, .ref B.sz, .ref B.ky, .ref B.le, .ref B.dg, .ref B.nm, .ref B.ns, .ref B.sl, .ref B.sb, .int (nI 0), .ref B.su, .ref B.wi, .ref B.tu]))) (hp_ne f_tu f_md (by simp)) f_tu
  have f_md : hp_up M md (.inr (6, [.ref B.ro, .int (nI (V.co)), .ref B.te, .int (nI (V.ty)), .int (nI (V.ac)), .int (nI (V.al)), .int (nI (V.sd)), .ref B.he, .ref B.cn, .ref B.kd, .ref B.sz, .ref B.ky, .ref B.le, .ref B.dg, .ref B.nm, .ref B.ns, .ref B.sl, .ref B.sb, .int (nI 0), .ref B.su, .ref B.wi, .ref B.tu])) md = some (.inr (6, [.ref B.ro, .int (nI (V.co)), .ref B.te, .int (nI (V.ty)), .int (nI (V.ac)), .int (nI (V.al)), .int (nI (V.sd)), .ref B.he, .ref B.cn, .ref B.kd, .ref B.sz, .ref B.ky, .ref B.le, .ref B.dg, .ref B.nm, .ref B.ns, .ref B.sl, .ref B.sb, .int (nI 0), .ref B.su, .ref B.wi, .ref B.tu])) := hp_us
  obtain ⟨M1, eM1⟩ : ∃ z, z = hp_up M md (.inr (6, [.ref B.ro, .int (nI (V.co)), .ref B.te, .int (nI (V.ty)), .int (nI (V.ac)), .int (nI (V.al)), .int (nI (V.sd)), .ref B.he, .ref B.cn, .ref B.kd, .ref B.sz, .ref B.ky, .ref B.le, .ref B.dg, .ref B.nm, .ref B.ns, .ref B.sl, .ref B.sb, .int (nI 0), .ref B.su, .ref B.wi, .ref B.tu])) := ⟨_, rfl⟩
  rw [← eM1] at hM f_md f_ro f_te f_he f_cn f_kd f_sz f_ky f_le f_dg f_nm f_ns f_sl f_sb f_su f_wi f_tu
  have hwz : mdS ct M1 md B (mkS (V.te) (V.cn) (V.kd) (V.sz) (V.ky) (V.le) (V.nm) (V.ns) (V.sl) (V.sb) (V.he) (V.dg) (V.su) (V.wi) (V.tu) (V.co) (V.ty) (V.ac) (V.al) (V.sd) 0) := ⟨f_md, f_ro, f_te, f_he, f_cn, f_kd, f_sz, f_ky, f_le, f_dg, f_nm, f_ns, f_sl, f_sb, f_su, f_wi, f_tu, hB, b_te, b_cn, b_kd, b_sz, b_ky, b_le, b_nm, b_ns, b_sl, b_sb, b_co, b_ty, b_ac, b_al, b_sd, Nat.zero_le _⟩
  refine lv_aload_n hx hb d_MD_write_5 rfl (lv_at hl 0 rfl) ?_
  refine lv_iload_n hx hb d_MD_write_6 rfl (lv_at hl 1 rfl) ?_
  refine hp_calli (go_V S hZ hK hM hS hA hz (c_MD_counting l D ct Z hZ _ _ md B (mkS (V.te) (V.cn) (V.kd) (V.sz) (V.ky) (V.le) (V.nm) (V.ns) (V.sl) (V.sb) (V.he) (V.dg) (V.su) (V.wi) (V.tu) (V.co) (V.ty) (V.ac) (V.al) (V.sd) 0) hwz Al hnA j hj12 (LL.getD j []) hcn hL24 hLr) mc_MD_counting mz_MD ml_MD_196 mi_MD_counting mx_MD_counting hd_MD_counting rfl ⟨by decide, by decide⟩ f_md rfl rfl hl.1 rfl (Nat.le_of_ble_eq_true rfl) d_MD_write_7 ⟨by decide, by decide⟩) hM hS hA (fun r9 M9 H locs h9 hM hS => ?_)
  rw [h9.1] at hM
  rw [h9.2, ← (hOO j hj).1]
  have hO24 : (OO j).length ≤ 24 := by rw [(hOO j hj).1]; exact Nat.le_trans cntL_le hL24
  refine lv_istore_n (lv' := [(2, .int (nI ((OO j).length))), (0, .ref md), (1, .int (nI j))]) hx hb d_MD_write_10 rfl hl (by decide) rfl (fun ls hl => ?_)
  refine lv_iconst (v := nI 0) hx hb d_MD_write_11 rfl ?_
  refine lv_istore_n (lv' := [(3, .int (nI 0)), (2, .int (nI ((OO j).length))), (0, .ref md), (1, .int (nI j))]) hx hb d_MD_write_12 rfl hl (by decide) rfl (fun ls hl => ?_)
  replace hl : lv_has ls 8 [(0, .ref md), (1, .int (nI j)), (2, .int (nI ((OO j).length))), (3, .int (nI 0))] := lv_sub hl [2, 3, 1, 0] rfl
  obtain ⟨k, e9k⟩ : ∃ z : Nat, z = 0 := ⟨_, rfl⟩
  obtain ⟨sb9, e9sb9⟩ : ∃ z : Nat → Nat, z = V.sb := ⟨_, rfl⟩
  obtain ⟨T9, e9T9⟩ : ∃ z : List Nat, z = [] := ⟨_, rfl⟩
  replace hl : lv_has ls 8 [(0, .ref md), (1, .int (nI j)), (2, .int (nI ((OO j).length))), (3, .int (nI k))] := by subst e9k e9sb9 e9T9; exact hl
  obtain ⟨N2, e9N2⟩ : ∃ z : hp_M, z = M1 := ⟨_, rfl⟩
  replace hM : hp_H D ccl (hp_A M sz) N2 H := by rw [e9N2]; exact hM
  replace f_md : N2 md = some (.inr (6, [.ref B.ro, .int (nI (V.co)), .ref B.te, .int (nI (V.ty)), .int (nI (V.ac)), .int (nI (V.al)), .int (nI (V.sd)), .ref B.he, .ref B.cn, .ref B.kd, .ref B.sz, .ref B.ky, .ref B.le, .ref B.dg, .ref B.nm, .ref B.ns, .ref B.sl, .ref B.sb, .int (nI 0), .ref B.su, .ref B.wi, .ref B.tu])) := by rw [e9N2]; exact f_md
  replace f_ro : N2 B.ro = some (.inl (ct 1, 72, .inl roF)) := by rw [e9N2]; exact f_ro
  replace f_te : N2 B.te = some (.inl (ct 1, 64, .inl (nf V.te))) := by rw [e9N2]; exact f_te
  replace f_he : N2 B.he = some (.inl (ct 1, 8, .inl (V.he))) := by rw [e9N2]; exact f_he
  replace f_cn : N2 B.cn = some (.inl (ct 1, 12, .inl (nf V.cn))) := by rw [e9N2]; exact f_cn
  replace f_kd : N2 B.kd = some (.inl (ct 1, 288, .inl (nf V.kd))) := by rw [e9N2]; exact f_kd
  replace f_sz : N2 B.sz = some (.inl (ct 1, 288, .inl (nf V.sz))) := by rw [e9N2]; exact f_sz
  replace f_ky : N2 B.ky = some (.inl (ct 1, 288, .inl (nf V.ky))) := by rw [e9N2]; exact f_ky
  replace f_le : N2 B.le = some (.inl (ct 1, 18432, .inl (nf V.le))) := by rw [e9N2]; exact f_le
  replace f_dg : N2 B.dg = some (.inl (ct 1, 2304, .inl (V.dg))) := by rw [e9N2]; exact f_dg
  replace f_nm : N2 B.nm = some (.inl (ct 1, 128, .inl (nf V.nm))) := by rw [e9N2]; exact f_nm
  replace f_ns : N2 B.ns = some (.inl (ct 1, 8, .inl (nf V.ns))) := by rw [e9N2]; exact f_ns
  replace f_sl : N2 B.sl = some (.inl (ct 1, 16, .inl (nf V.sl))) := by rw [e9N2]; exact f_sl
  replace f_sb : N2 B.sb = some (.inl (ct 1, 3000, .inl (nf V.sb))) := by rw [e9N2]; exact f_sb
  replace f_su : N2 B.su = some (.inl (ct 1, 8, .inl (V.su))) := by rw [e9N2]; exact f_su
  replace f_wi : N2 B.wi = some (.inl (ct 1, 64, .inl (V.wi))) := by rw [e9N2]; exact f_wi
  replace f_tu : N2 B.tu = some (.inl (ct 1, 8, .inl (V.tu))) := by rw [e9N2]; exact f_tu
  replace f_md : N2 md = some (.inr (6, [.ref B.ro, .int (nI (V.co)), .ref B.te, .int (nI (V.ty)), .int (nI (V.ac)), .int (nI (V.al)), .int (nI (V.sd)), .ref B.he, .ref B.cn, .ref B.kd, .ref B.sz, .ref B.ky, .ref B.le, .ref B.dg, .ref B.nm, .ref B.ns, .ref B.sl, .ref B.sb, .int (nI (T9.length)), .ref B.su, .ref B.wi, .ref B.tu])) := by subst e9k e9sb9 e9T9; exact f_md
  replace f_sb : N2 B.sb = some (.inl (ct 1, 3000, .inl (nf sb9))) := by subst e9k e9sb9 e9T9; exact f_sb
  have hkL : k ≤ (OO j).length := by subst e9k e9sb9 e9T9; exact Nat.zero_le _
  have hw9 : mdS ct N2 md B (mkS (V.te) (V.cn) (V.kd) (V.sz) (V.ky) (V.le) (V.nm) (V.ns) (V.sl) sb9 (V.he) (V.dg) (V.su) (V.wi) (V.tu) (V.co) (V.ty) (V.ac) (V.al) (V.sd) (T9.length)) := by subst e9k e9sb9 e9T9; rw [e9N2]; exact hwz
  have hsb9 : ∀ i, i < T9.length → sb9 i = T9.getD i 0 := by subst e9k e9sb9 e9T9; intro i hi; exact absurd hi (Nat.not_lt_zero i)
  have hT : T9 = stA (((OO j).take k).map clR) := by subst e9k e9sb9 e9T9; rfl
  have hTlen : T9.length ≤ 108 * k := by subst e9k e9sb9 e9T9; exact Nat.le_refl _
  obtain ⟨fu1, hn1⟩ : ∃ fu : Nat, (OO j).length ≤ k + fu := ⟨(OO j).length, by omega⟩
  clear e9k e9sb9 e9T9 e9N2
  induction fu1 generalizing k sb9 T9 H locs N2 ls with
  | zero =>
    have hn0 := hn1
    refine lv_iload_n hx hb d_MD_write_13 rfl (lv_at hl 3 rfl) ?_
    refine lv_iload_n hx hb d_MD_write_14 rfl (lv_at hl 2 rfl) ?_
    refine nb_ge (tgt := 226) hx hb d_MD_write_15 (by decide) (by omega) (by omega) (fun hkn => ?_) (fun hkn => ?_)
    · have hT9 : T9 = stA ((OO j).map clR) := by rw [hT, show k = (OO j).length by omega, List.take_of_length_le (Nat.le_refl _)]
      have hT25 : T9.length ≤ 2592 := by omega
      rw [hT9] at hsb9 hw9 hT25
      exact hp_vret S hret hlk hM hS (⟨sb9, hw9, hsb9, hT25⟩) d_MD_write_226
    · exact absurd hn1 (by omega)
  | succ fu1 ih1 =>
    refine lv_iload_n hx hb d_MD_write_13 rfl (lv_at hl 3 rfl) ?_
    refine lv_iload_n hx hb d_MD_write_14 rfl (lv_at hl 2 rfl) ?_
    refine nb_ge (tgt := 226) hx hb d_MD_write_15 (by decide) (by omega) (by omega) (fun hkn => ?_) (fun hkn => ?_)
    · have hT9 : T9 = stA ((OO j).map clR) := by rw [hT, show k = (OO j).length by omega, List.take_of_length_le (Nat.le_refl _)]
      have hT25 : T9.length ≤ 2592 := by omega
      rw [hT9] at hsb9 hw9 hT25
      exact hp_vret S hret hlk hM hS (⟨sb9, hw9, hsb9, hT25⟩) d_MD_write_226
    · refine lv_aload_n hx hb d_MD_write_18 rfl (lv_at hl 0 rfl) ?_
      refine lv_iload_n hx hb d_MD_write_19 rfl (lv_at hl 1 rfl) ?_
      refine lv_iload_n hx hb d_MD_write_20 rfl (lv_at hl 3 rfl) ?_
      refine hp_calli (go_V S hZ hK hM hS hA hz (c_MD_rowAt l D ct Z hZ _ _ md B (mkS (V.te) (V.cn) (V.kd) (V.sz) (V.ky) (V.le) (V.nm) (V.ns) (V.sl) sb9 (V.he) (V.dg) (V.su) (V.wi) (V.tu) (V.co) (V.ty) (V.ac) (V.al) (V.sd) (T9.length)) hw9 Al hnA j hj12 (LL.getD j []) hcn hL24 hLr k (by omega)) mc_MD_rowAt mz_MD ml_MD_200 mi_MD_rowAt mx_MD_rowAt hd_MD_rowAt rfl ⟨by decide, by decide⟩ f_md rfl rfl hl.1 rfl (Nat.le_of_ble_eq_true rfl) d_MD_write_21 ⟨by decide, by decide⟩) hM hS hA (fun r9 M9 H locs h9 hM hS => ?_)
      rw [h9.1] at hM
      obtain ⟨q, hatq, e9⟩ : ∃ q, isAt Al (LL.getD j []) q k ∧ r9 = nI (24 * j + q) := by
        rcases h9.2 with z | z
        · exact z
        · obtain ⟨q0, hq0⟩ := (hOO j hj).2.1 k (by omega); exact absurd hq0 (z.1 q0)
      rw [e9]
      have hqLq := hatq.1
      have hqRq := hLr q hqLq
      rw [(hOO j hj).2.2 q k hatq] at hqRq
      refine lv_istore (lv' := [(4, .int (nI (24 * j + q))), (0, .ref md), (1, .int (nI j)), (2, .int (nI ((OO j).length))), (3, .int (nI k))]) hx hb d_MD_write_24 hl (by decide) rfl (fun ls hl => ?_)
      obtain ⟨qkd, qky, qsz, qle, qdg, qkl, ql64, qch, qk7, q40⟩ := id hqRq
      have hTl9 := hTlen
      refine w_join hM hS (P := fun z => bo z (((OO j).getD k mr0).1 = 1 ∨ ((OO j).getD k mr0).1 = 3)) (pc2 := 53) (rest := []) (fun v3 H locs hM hS hv3 => ?_) (fun hjv3 => ?_)
      · refine lv_istore (lv' := [(5, .int v3), (4, .int (nI (24 * j + q))), (0, .ref md), (1, .int (nI j)), (2, .int (nI ((OO j).length))), (3, .int (nI k))]) hx hb d_MD_write_53 hl (by decide) rfl (fun ls hl => ?_)
        rcases hv3 with ⟨h13, e5⟩ | ⟨h13, e5⟩
        · subst e5
          have hq40 := q40 h13
          have hln : (clR ((OO j).getD k mr0)).2.2.length = V.sz (24 * j + q) + 65 := by
            rw [qsz]
            show (bdL ((OO j).getD k mr0).1 ((OO j).getD k mr0).2.2.1 (hexL ((OO j).getD k mr0).2.2.2)).length = _
            unfold bdL
            rw [if_pos h13, List.length_append, List.length_cons, hexL_len]
          refine lv_aload_n hx hb d_MD_write_55 rfl (lv_at hl 2 rfl) ?_
          refine hp_get S hK hM i_MD f_md rfl 10 (by decide) mf_MD_97 (fun _ h9 => h9) rfl d_MD_write_56 ?_
          refine lv_iload hx hb d_MD_write_59 (lv_at hl 1 rfl) ?_
          refine hp_iald S hK hM 1 f_sz rfl (24 * j + q) rfl (by omega) (by omega) d_MD_write_61 ?_
          refine lv_iload hx hb d_MD_write_62 (lv_at hl 0 rfl) ?_
          refine nz_eq (tgt := 72) hx hb d_MD_write_64 (by decide) (by omega) (fun h4 => ?_) (fun h4 => ?_)
          · exact absurd h4 (by decide)
          · refine lv_bipush (v := nI 65) hx hb d_MD_write_67 rfl ?_
            refine lv_goto (tgt := 73) hx hb d_MD_write_69 (by decide) ?_
            refine nb_iadd hx hb d_MD_write_73 ?_
            refine lv_istore (lv' := [(6, .int (nI ((V.sz (24 * j + q)) + 65))), (5, .int (nI 1)), (4, .int (nI (24 * j + q))), (0, .ref md), (1, .int (nI j)), (2, .int (nI ((OO j).length))), (3, .int (nI k))]) hx hb d_MD_write_74 hl (by decide) rfl (fun ls hl => ?_)
            refine lv_aload_n hx hb d_MD_write_76 rfl (lv_at hl 3 rfl) ?_
            refine lv_bipush (v := nI 48) hx hb d_MD_write_77 rfl ?_
            refine lv_aload_n hx hb d_MD_write_79 rfl (lv_at hl 3 rfl) ?_
            refine hp_get S hK hM i_MD f_md rfl 9 (by decide) mf_MD_94 (fun _ h9 => h9) rfl d_MD_write_80 ?_
            refine lv_iload hx hb d_MD_write_83 (lv_at hl 2 rfl) ?_
            refine hp_iald S hK hM 1 f_kd rfl (24 * j + q) rfl (by omega) (by omega) d_MD_write_85 ?_
            refine nb_iadd hx hb d_MD_write_86 ?_
            refine hp_callv (go_V S hZ hK hM hS hA hz (c_MD_put l D ct Z hZ _ _ md B (mkS (V.te) (V.cn) (V.kd) (V.sz) (V.ky) (V.le) (V.nm) (V.ns) (V.sl) sb9 (V.he) (V.dg) (V.su) (V.wi) (V.tu) (V.co) (V.ty) (V.ac) (V.al) (V.sd) (T9.length)) hw9 (48 + V.kd (24 * j + q)) (by have := b_kd (24 * j + q); omega) (by show T9.length < 3000; omega)) mc_MD_put mz_MD ml_MD_206 mi_MD_put mx_MD_put hd_MD_put rfl ⟨by decide, by decide⟩ f_md rfl rfl hl.1 rfl (Nat.le_of_ble_eq_true rfl) d_MD_write_87 ⟨by decide, by decide⟩) hM hS hA (fun M9 H locs h9 hM hS => ?_)
            obtain ⟨N5, eN5⟩ : ∃ z, z = M9 := ⟨_, rfl⟩
            rw [← eN5] at hM h9
            have hsba := sb_put (k := 48 + V.kd (24 * j + q)) hsb9
            obtain ⟨sba, esba⟩ : ∃ z, z = va_up sb9 T9.length (48 + V.kd (24 * j + q)) := ⟨_, rfl⟩
            rw [← esba] at hsba
            obtain ⟨Ta, eTa⟩ : ∃ z, z = T9 ++ [48 + V.kd (24 * j + q)] := ⟨_, rfl⟩
            rw [← eTa] at hsba
            have hTla : Ta.length = T9.length + 1 := by rw [eTa, List.length_append]; rfl
            have hwa : mdS ct N5 md B (mkS (V.te) (V.cn) (V.kd) (V.sz) (V.ky) (V.le) (V.nm) (V.ns) (V.sl) sba (V.he) (V.dg) (V.su) (V.wi) (V.tu) (V.co) (V.ty) (V.ac) (V.al) (V.sd) (Ta.length)) := by rw [hTla, esba]; exact h9
            clear f_md f_ro f_te f_he f_cn f_kd f_sz f_ky f_le f_dg f_nm f_ns f_sl f_sb f_su f_wi f_tu
            obtain ⟨f_md, f_ro, f_te, f_he, f_cn, f_kd, f_sz, f_ky, f_le, f_dg, f_nm, f_ns, f_sl, f_sb, f_su, f_wi, f_tu, hB, hV⟩ := id hwa
            replace f_md : N5 md = some (.inr (6, [.ref B.ro, .int (nI (V.co)), .ref B.te, .int (nI (V.ty)), .int (nI (V.ac)), .int (nI (V.al)), .int (nI (V.sd)), .ref B.he, .ref B.cn, .ref B.kd, .ref B.sz, .ref B.ky, .ref B.le, .ref B.dg, .ref B.nm, .ref B.ns, .ref B.sl, .ref B.sb, .int (nI (Ta.length)), .ref B.su, .ref B.wi, .ref B.tu])) := f_md
            replace f_ro : N5 B.ro = some (.inl (ct 1, 72, .inl roF)) := f_ro
            replace f_te : N5 B.te = some (.inl (ct 1, 64, .inl (nf V.te))) := f_te
            replace f_he : N5 B.he = some (.inl (ct 1, 8, .inl (V.he))) := f_he
            replace f_cn : N5 B.cn = some (.inl (ct 1, 12, .inl (nf V.cn))) := f_cn
            replace f_kd : N5 B.kd = some (.inl (ct 1, 288, .inl (nf V.kd))) := f_kd
            replace f_sz : N5 B.sz = some (.inl (ct 1, 288, .inl (nf V.sz))) := f_sz
            replace f_ky : N5 B.ky = some (.inl (ct 1, 288, .inl (nf V.ky))) := f_ky
            replace f_le : N5 B.le = some (.inl (ct 1, 18432, .inl (nf V.le))) := f_le
            replace f_dg : N5 B.dg = some (.inl (ct 1, 2304, .inl (V.dg))) := f_dg
            replace f_nm : N5 B.nm = some (.inl (ct 1, 128, .inl (nf V.nm))) := f_nm
            replace f_ns : N5 B.ns = some (.inl (ct 1, 8, .inl (nf V.ns))) := f_ns
            replace f_sl : N5 B.sl = some (.inl (ct 1, 16, .inl (nf V.sl))) := f_sl
            replace f_sb : N5 B.sb = some (.inl (ct 1, 3000, .inl (nf sba))) := f_sb
            replace f_su : N5 B.su = some (.inl (ct 1, 8, .inl (V.su))) := f_su
            replace f_wi : N5 B.wi = some (.inl (ct 1, 64, .inl (V.wi))) := f_wi
            replace f_tu : N5 B.tu = some (.inl (ct 1, 8, .inl (V.tu))) := f_tu
            refine lv_aload_n hx hb d_MD_write_90 rfl (lv_at hl 3 rfl) ?_
            refine lv_bipush (v := nI 48) hx hb d_MD_write_91 rfl ?_
            refine lv_iload hx hb d_MD_write_93 (lv_at hl 0 rfl) ?_
            refine lv_bipush (v := nI 64) hx hb d_MD_write_95 rfl ?_
            refine nb_idiv hx hb d_MD_write_97 (by omega) (by omega) (by omega) ?_
            refine nb_iadd hx hb d_MD_write_98 ?_
            refine hp_callv (go_V S hZ hK hM hS hA hz (c_MD_put l D ct Z hZ _ _ md B (mkS (V.te) (V.cn) (V.kd) (V.sz) (V.ky) (V.le) (V.nm) (V.ns) (V.sl) sba (V.he) (V.dg) (V.su) (V.wi) (V.tu) (V.co) (V.ty) (V.ac) (V.al) (V.sd) (Ta.length)) hwa (48 + (V.sz (24 * j + q) + 65) / 64) (by have := b_sz (24 * j + q); omega) (by show Ta.length < 3000; omega)) mc_MD_put mz_MD ml_MD_206 mi_MD_put mx_MD_put hd_MD_put rfl ⟨by decide, by decide⟩ f_md rfl rfl hl.1 rfl (Nat.le_of_ble_eq_true rfl) d_MD_write_99 ⟨by decide, by decide⟩) hM hS hA (fun M9 H locs h9 hM hS => ?_)
            obtain ⟨N6, eN6⟩ : ∃ z, z = M9 := ⟨_, rfl⟩
            rw [← eN6] at hM h9
            have hsbb := sb_put (k := 48 + (V.sz (24 * j + q) + 65) / 64) hsba
            obtain ⟨sbb, esbb⟩ : ∃ z, z = va_up sba Ta.length (48 + (V.sz (24 * j + q) + 65) / 64) := ⟨_, rfl⟩
            rw [← esbb] at hsbb
            obtain ⟨Tb, eTb⟩ : ∃ z, z = Ta ++ [48 + (V.sz (24 * j + q) + 65) / 64] := ⟨_, rfl⟩
            rw [← eTb] at hsbb
            have hTlb : Tb.length = Ta.length + 1 := by rw [eTb, List.length_append]; rfl
            have hwb : mdS ct N6 md B (mkS (V.te) (V.cn) (V.kd) (V.sz) (V.ky) (V.le) (V.nm) (V.ns) (V.sl) sbb (V.he) (V.dg) (V.su) (V.wi) (V.tu) (V.co) (V.ty) (V.ac) (V.al) (V.sd) (Tb.length)) := by rw [hTlb, esbb]; exact h9
            clear f_md f_ro f_te f_he f_cn f_kd f_sz f_ky f_le f_dg f_nm f_ns f_sl f_sb f_su f_wi f_tu
            obtain ⟨f_md, f_ro, f_te, f_he, f_cn, f_kd, f_sz, f_ky, f_le, f_dg, f_nm, f_ns, f_sl, f_sb, f_su, f_wi, f_tu, hB, hV⟩ := id hwb
            replace f_md : N6 md = some (.inr (6, [.ref B.ro, .int (nI (V.co)), .ref B.te, .int (nI (V.ty)), .int (nI (V.ac)), .int (nI (V.al)), .int (nI (V.sd)), .ref B.he, .ref B.cn, .ref B.kd, .ref B.sz, .ref B.ky, .ref B.le, .ref B.dg, .ref B.nm, .ref B.ns, .ref B.sl, .ref B.sb, .int (nI (Tb.length)), .ref B.su, .ref B.wi, .ref B.tu])) := f_md
            replace f_ro : N6 B.ro = some (.inl (ct 1, 72, .inl roF)) := f_ro
            replace f_te : N6 B.te = some (.inl (ct 1, 64, .inl (nf V.te))) := f_te
            replace f_he : N6 B.he = some (.inl (ct 1, 8, .inl (V.he))) := f_he
            replace f_cn : N6 B.cn = some (.inl (ct 1, 12, .inl (nf V.cn))) := f_cn
            replace f_kd : N6 B.kd = some (.inl (ct 1, 288, .inl (nf V.kd))) := f_kd
            replace f_sz : N6 B.sz = some (.inl (ct 1, 288, .inl (nf V.sz))) := f_sz
            replace f_ky : N6 B.ky = some (.inl (ct 1, 288, .inl (nf V.ky))) := f_ky
            replace f_le : N6 B.le = some (.inl (ct 1, 18432, .inl (nf V.le))) := f_le
            replace f_dg : N6 B.dg = some (.inl (ct 1, 2304, .inl (V.dg))) := f_dg
            replace f_nm : N6 B.nm = some (.inl (ct 1, 128, .inl (nf V.nm))) := f_nm
            replace f_ns : N6 B.ns = some (.inl (ct 1, 8, .inl (nf V.ns))) := f_ns
            replace f_sl : N6 B.sl = some (.inl (ct 1, 16, .inl (nf V.sl))) := f_sl
            replace f_sb : N6 B.sb = some (.inl (ct 1, 3000, .inl (nf sbb))) := f_sb
            replace f_su : N6 B.su = some (.inl (ct 1, 8, .inl (V.su))) := f_su
            replace f_wi : N6 B.wi = some (.inl (ct 1, 64, .inl (V.wi))) := f_wi
            replace f_tu : N6 B.tu = some (.inl (ct 1, 8, .inl (V.tu))) := f_tu
            refine lv_aload_n hx hb d_MD_write_102 rfl (lv_at hl 3 rfl) ?_
            refine lv_bipush (v := nI 48) hx hb d_MD_write_103 rfl ?_
            refine lv_iload hx hb d_MD_write_105 (lv_at hl 0 rfl) ?_
            refine lv_bipush (v := nI 64) hx hb d_MD_write_107 rfl ?_
            refine nb_irem hx hb d_MD_write_109 (by omega) (by omega) (by omega) ?_
            refine nb_iadd hx hb d_MD_write_110 ?_
            refine hp_callv (go_V S hZ hK hM hS hA hz (c_MD_put l D ct Z hZ _ _ md B (mkS (V.te) (V.cn) (V.kd) (V.sz) (V.ky) (V.le) (V.nm) (V.ns) (V.sl) sbb (V.he) (V.dg) (V.su) (V.wi) (V.tu) (V.co) (V.ty) (V.ac) (V.al) (V.sd) (Tb.length)) hwb (48 + (V.sz (24 * j + q) + 65) % 64) (by have := b_sz (24 * j + q); omega) (by show Tb.length < 3000; omega)) mc_MD_put mz_MD ml_MD_206 mi_MD_put mx_MD_put hd_MD_put rfl ⟨by decide, by decide⟩ f_md rfl rfl hl.1 rfl (Nat.le_of_ble_eq_true rfl) d_MD_write_111 ⟨by decide, by decide⟩) hM hS hA (fun M9 H locs h9 hM hS => ?_)
            obtain ⟨N7, eN7⟩ : ∃ z, z = M9 := ⟨_, rfl⟩
            rw [← eN7] at hM h9
            have hsbc := sb_put (k := 48 + (V.sz (24 * j + q) + 65) % 64) hsbb
            obtain ⟨sbc, esbc⟩ : ∃ z, z = va_up sbb Tb.length (48 + (V.sz (24 * j + q) + 65) % 64) := ⟨_, rfl⟩
            rw [← esbc] at hsbc
            obtain ⟨Tc, eTc⟩ : ∃ z, z = Tb ++ [48 + (V.sz (24 * j + q) + 65) % 64] := ⟨_, rfl⟩
            rw [← eTc] at hsbc
            have hTlc : Tc.length = Tb.length + 1 := by rw [eTc, List.length_append]; rfl
            have hwc : mdS ct N7 md B (mkS (V.te) (V.cn) (V.kd) (V.sz) (V.ky) (V.le) (V.nm) (V.ns) (V.sl) sbc (V.he) (V.dg) (V.su) (V.wi) (V.tu) (V.co) (V.ty) (V.ac) (V.al) (V.sd) (Tc.length)) := by rw [hTlc, esbc]; exact h9
            clear f_md f_ro f_te f_he f_cn f_kd f_sz f_ky f_le f_dg f_nm f_ns f_sl f_sb f_su f_wi f_tu
            obtain ⟨f_md, f_ro, f_te, f_he, f_cn, f_kd, f_sz, f_ky, f_le, f_dg, f_nm, f_ns, f_sl, f_sb, f_su, f_wi, f_tu, hB, hV⟩ := id hwc
            replace f_md : N7 md = some (.inr (6, [.ref B.ro, .int (nI (V.co)), .ref B.te, .int (nI (V.ty)), .int (nI (V.ac)), .int (nI (V.al)), .int (nI (V.sd)), .ref B.he, .ref B.cn, .ref B.kd, .ref B.sz, .ref B.ky, .ref B.le, .ref B.dg, .ref B.nm, .ref B.ns, .ref B.sl, .ref B.sb, .int (nI (Tc.length)), .ref B.su, .ref B.wi, .ref B.tu])) := f_md
            replace f_ro : N7 B.ro = some (.inl (ct 1, 72, .inl roF)) := f_ro
            replace f_te : N7 B.te = some (.inl (ct 1, 64, .inl (nf V.te))) := f_te
            replace f_he : N7 B.he = some (.inl (ct 1, 8, .inl (V.he))) := f_he
            replace f_cn : N7 B.cn = some (.inl (ct 1, 12, .inl (nf V.cn))) := f_cn
            replace f_kd : N7 B.kd = some (.inl (ct 1, 288, .inl (nf V.kd))) := f_kd
            replace f_sz : N7 B.sz = some (.inl (ct 1, 288, .inl (nf V.sz))) := f_sz
            replace f_ky : N7 B.ky = some (.inl (ct 1, 288, .inl (nf V.ky))) := f_ky
            replace f_le : N7 B.le = some (.inl (ct 1, 18432, .inl (nf V.le))) := f_le
            replace f_dg : N7 B.dg = some (.inl (ct 1, 2304, .inl (V.dg))) := f_dg
            replace f_nm : N7 B.nm = some (.inl (ct 1, 128, .inl (nf V.nm))) := f_nm
            replace f_ns : N7 B.ns = some (.inl (ct 1, 8, .inl (nf V.ns))) := f_ns
            replace f_sl : N7 B.sl = some (.inl (ct 1, 16, .inl (nf V.sl))) := f_sl
            replace f_sb : N7 B.sb = some (.inl (ct 1, 3000, .inl (nf sbc))) := f_sb
            replace f_su : N7 B.su = some (.inl (ct 1, 8, .inl (V.su))) := f_su
            replace f_wi : N7 B.wi = some (.inl (ct 1, 64, .inl (V.wi))) := f_wi
            replace f_tu : N7 B.tu = some (.inl (ct 1, 8, .inl (V.tu))) := f_tu
            refine lv_iconst (v := nI 0) hx hb d_MD_write_114 rfl ?_
            refine lv_istore (lv' := [(7, .int (nI 0)), (6, .int (nI ((V.sz (24 * j + q)) + 65))), (5, .int (nI 1)), (4, .int (nI (24 * j + q))), (0, .ref md), (1, .int (nI j)), (2, .int (nI ((OO j).length))), (3, .int (nI k))]) hx hb d_MD_write_115 hl (by decide) rfl (fun ls hl => ?_)
            replace hl : lv_has ls 8 [(0, .ref md), (1, .int (nI j)), (2, .int (nI ((OO j).length))), (3, .int (nI k)), (4, .int (nI (24 * j + q))), (5, .int (nI 1)), (6, .int (nI ((V.sz (24 * j + q)) + 65))), (7, .int (nI 0))] := lv_sub hl [4, 5, 6, 7, 3, 2, 1, 0] rfl
            obtain ⟨i, e9i⟩ : ∃ z : Nat, z = 0 := ⟨_, rfl⟩
            obtain ⟨sbd, e9sbd⟩ : ∃ z : Nat → Nat, z = sbc := ⟨_, rfl⟩
            obtain ⟨Td, e9Td⟩ : ∃ z : List Nat, z = Tc := ⟨_, rfl⟩
            replace hl : lv_has ls 8 [(0, .ref md), (1, .int (nI j)), (2, .int (nI ((OO j).length))), (3, .int (nI k)), (4, .int (nI (24 * j + q))), (5, .int (nI 1)), (6, .int (nI ((V.sz (24 * j + q)) + 65))), (7, .int (nI i))] := by subst e9i e9sbd e9Td; exact hl
            obtain ⟨N8, e9N8⟩ : ∃ z : hp_M, z = N7 := ⟨_, rfl⟩
            replace hM : hp_H D ccl (hp_A M sz) N8 H := by rw [e9N8]; exact hM
            replace f_md : N8 md = some (.inr (6, [.ref B.ro, .int (nI (V.co)), .ref B.te, .int (nI (V.ty)), .int (nI (V.ac)), .int (nI (V.al)), .int (nI (V.sd)), .ref B.he, .ref B.cn, .ref B.kd, .ref B.sz, .ref B.ky, .ref B.le, .ref B.dg, .ref B.nm, .ref B.ns, .ref B.sl, .ref B.sb, .int (nI (Tc.length)), .ref B.su, .ref B.wi, .ref B.tu])) := by rw [e9N8]; exact f_md
            replace f_ro : N8 B.ro = some (.inl (ct 1, 72, .inl roF)) := by rw [e9N8]; exact f_ro
            replace f_te : N8 B.te = some (.inl (ct 1, 64, .inl (nf V.te))) := by rw [e9N8]; exact f_te
            replace f_he : N8 B.he = some (.inl (ct 1, 8, .inl (V.he))) := by rw [e9N8]; exact f_he
            replace f_cn : N8 B.cn = some (.inl (ct 1, 12, .inl (nf V.cn))) := by rw [e9N8]; exact f_cn
            replace f_kd : N8 B.kd = some (.inl (ct 1, 288, .inl (nf V.kd))) := by rw [e9N8]; exact f_kd
            replace f_sz : N8 B.sz = some (.inl (ct 1, 288, .inl (nf V.sz))) := by rw [e9N8]; exact f_sz
            replace f_ky : N8 B.ky = some (.inl (ct 1, 288, .inl (nf V.ky))) := by rw [e9N8]; exact f_ky
            replace f_le : N8 B.le = some (.inl (ct 1, 18432, .inl (nf V.le))) := by rw [e9N8]; exact f_le
            replace f_dg : N8 B.dg = some (.inl (ct 1, 2304, .inl (V.dg))) := by rw [e9N8]; exact f_dg
            replace f_nm : N8 B.nm = some (.inl (ct 1, 128, .inl (nf V.nm))) := by rw [e9N8]; exact f_nm
            replace f_ns : N8 B.ns = some (.inl (ct 1, 8, .inl (nf V.ns))) := by rw [e9N8]; exact f_ns
            replace f_sl : N8 B.sl = some (.inl (ct 1, 16, .inl (nf V.sl))) := by rw [e9N8]; exact f_sl
            replace f_sb : N8 B.sb = some (.inl (ct 1, 3000, .inl (nf sbc))) := by rw [e9N8]; exact f_sb
            replace f_su : N8 B.su = some (.inl (ct 1, 8, .inl (V.su))) := by rw [e9N8]; exact f_su
            replace f_wi : N8 B.wi = some (.inl (ct 1, 64, .inl (V.wi))) := by rw [e9N8]; exact f_wi
            replace f_tu : N8 B.tu = some (.inl (ct 1, 8, .inl (V.tu))) := by rw [e9N8]; exact f_tu
            replace f_md : N8 md = some (.inr (6, [.ref B.ro, .int (nI (V.co)), .ref B.te, .int (nI (V.ty)), .int (nI (V.ac)), .int (nI (V.al)), .int (nI (V.sd)), .ref B.he, .ref B.cn, .ref B.kd, .ref B.sz, .ref B.ky, .ref B.le, .ref B.dg, .ref B.nm, .ref B.ns, .ref B.sl, .ref B.sb, .int (nI (Td.length)), .ref B.su, .ref B.wi, .ref B.tu])) := by subst e9i e9sbd e9Td; exact f_md
            replace f_sb : N8 B.sb = some (.inl (ct 1, 3000, .inl (nf sbd))) := by subst e9i e9sbd e9Td; exact f_sb
            have hiL : i ≤ ((OO j).getD k mr0).2.2.1.length := by subst e9i e9sbd e9Td; exact Nat.zero_le _
            have hwd : mdS ct N8 md B (mkS (V.te) (V.cn) (V.kd) (V.sz) (V.ky) (V.le) (V.nm) (V.ns) (V.sl) sbd (V.he) (V.dg) (V.su) (V.wi) (V.tu) (V.co) (V.ty) (V.ac) (V.al) (V.sd) (Td.length)) := by subst e9i e9sbd e9Td; rw [e9N8]; exact hwc
            have hsbd : ∀ i, i < Td.length → sbd i = Td.getD i 0 := by subst e9i e9sbd e9Td; exact hsbc
            have hTd : Td = Tc ++ ((OO j).getD k mr0).2.2.1.take i := by subst e9i e9sbd e9Td; simp
            have hTdl : Td.length = Tc.length + i := by subst e9i e9sbd e9Td; rfl
            obtain ⟨fu2, hn2⟩ : ∃ fu : Nat, ((OO j).getD k mr0).2.2.1.length ≤ i + fu := ⟨((OO j).getD k mr0).2.2.1.length, by omega⟩
            clear e9i e9sbd e9Td e9N8
            induction fu2 generalizing i sbd Td H locs N8 ls with
            | zero =>
              have hn0 := hn2
              refine lv_iload hx hb d_MD_write_117 (lv_at hl 7 rfl) ?_
              refine lv_aload_n hx hb d_MD_write_119 rfl (lv_at hl 0 rfl) ?_
              refine hp_get S hK hM i_MD f_md rfl 10 (by decide) mf_MD_97 (fun _ h9 => h9) rfl d_MD_write_120 ?_
              refine lv_iload hx hb d_MD_write_123 (lv_at hl 4 rfl) ?_
              refine hp_iald S hK hM 1 f_sz rfl (24 * j + q) rfl (by omega) (by omega) d_MD_write_125 ?_
              refine nb_ge (tgt := 152) hx hb d_MD_write_126 (by decide) (by omega) (by have := b_sz ((24 * j + q)); omega) (fun hin => ?_) (fun hin => ?_)
              · have hTd2 : Td = Tc ++ ((OO j).getD k mr0).2.2.1 := by rw [hTd, List.take_of_length_le (by omega)]
                have hil : i = ((OO j).getD k mr0).2.2.1.length := by omega
                refine lv_iload hx hb d_MD_write_152 (lv_at hl 5 rfl) ?_
                refine nz_eq (tgt := 162) hx hb d_MD_write_154 (by decide) (by omega) (fun h9 => ?_) (fun h9 => ?_)
                · exact absurd h9 (by decide)
                · refine lv_aload_n hx hb d_MD_write_157 rfl (lv_at hl 0 rfl) ?_
                  refine lv_iconst (v := nI 0) hx hb d_MD_write_158 rfl ?_
                  refine hp_callv (go_V S hZ hK hM hS hA hz (c_MD_put l D ct Z hZ _ _ md B (mkS (V.te) (V.cn) (V.kd) (V.sz) (V.ky) (V.le) (V.nm) (V.ns) (V.sl) sbd (V.he) (V.dg) (V.su) (V.wi) (V.tu) (V.co) (V.ty) (V.ac) (V.al) (V.sd) (Td.length)) hwd (0) (by decide) (by show Td.length < 3000; omega)) mc_MD_put mz_MD ml_MD_206 mi_MD_put mx_MD_put hd_MD_put rfl ⟨by decide, by decide⟩ f_md rfl rfl hl.1 rfl (Nat.le_of_ble_eq_true rfl) d_MD_write_159 ⟨by decide, by decide⟩) hM hS hA (fun M9 H locs h9 hM hS => ?_)
                  obtain ⟨N10, eN10⟩ : ∃ z, z = M9 := ⟨_, rfl⟩
                  rw [← eN10] at hM h9
                  have hsbf := sb_put (k := 0) hsbd
                  obtain ⟨sbf, esbf⟩ : ∃ z, z = va_up sbd Td.length (0) := ⟨_, rfl⟩
                  rw [← esbf] at hsbf
                  obtain ⟨Tf, eTf⟩ : ∃ z, z = Td ++ [0] := ⟨_, rfl⟩
                  rw [← eTf] at hsbf
                  have hTlf : Tf.length = Td.length + 1 := by rw [eTf, List.length_append]; rfl
                  have hwf : mdS ct N10 md B (mkS (V.te) (V.cn) (V.kd) (V.sz) (V.ky) (V.le) (V.nm) (V.ns) (V.sl) sbf (V.he) (V.dg) (V.su) (V.wi) (V.tu) (V.co) (V.ty) (V.ac) (V.al) (V.sd) (Tf.length)) := by rw [hTlf, esbf]; exact h9
                  clear f_md f_ro f_te f_he f_cn f_kd f_sz f_ky f_le f_dg f_nm f_ns f_sl f_sb f_su f_wi f_tu
                  obtain ⟨f_md, f_ro, f_te, f_he, f_cn, f_kd, f_sz, f_ky, f_le, f_dg, f_nm, f_ns, f_sl, f_sb, f_su, f_wi, f_tu, hB, hV⟩ := id hwf
                  replace f_md : N10 md = some (.inr (6, [.ref B.ro, .int (nI (V.co)), .ref B.te, .int (nI (V.ty)), .int (nI (V.ac)), .int (nI (V.al)), .int (nI (V.sd)), .ref B.he, .ref B.cn, .ref B.kd, .ref B.sz, .ref B.ky, .ref B.le, .ref B.dg, .ref B.nm, .ref B.ns, .ref B.sl, .ref B.sb, .int (nI (Tf.length)), .ref B.su, .ref B.wi, .ref B.tu])) := f_md
                  replace f_ro : N10 B.ro = some (.inl (ct 1, 72, .inl roF)) := f_ro
                  replace f_te : N10 B.te = some (.inl (ct 1, 64, .inl (nf V.te))) := f_te
                  replace f_he : N10 B.he = some (.inl (ct 1, 8, .inl (V.he))) := f_he
                  replace f_cn : N10 B.cn = some (.inl (ct 1, 12, .inl (nf V.cn))) := f_cn
                  replace f_kd : N10 B.kd = some (.inl (ct 1, 288, .inl (nf V.kd))) := f_kd
                  replace f_sz : N10 B.sz = some (.inl (ct 1, 288, .inl (nf V.sz))) := f_sz
                  replace f_ky : N10 B.ky = some (.inl (ct 1, 288, .inl (nf V.ky))) := f_ky
                  replace f_le : N10 B.le = some (.inl (ct 1, 18432, .inl (nf V.le))) := f_le
                  replace f_dg : N10 B.dg = some (.inl (ct 1, 2304, .inl (V.dg))) := f_dg
                  replace f_nm : N10 B.nm = some (.inl (ct 1, 128, .inl (nf V.nm))) := f_nm
                  replace f_ns : N10 B.ns = some (.inl (ct 1, 8, .inl (nf V.ns))) := f_ns
                  replace f_sl : N10 B.sl = some (.inl (ct 1, 16, .inl (nf V.sl))) := f_sl
                  replace f_sb : N10 B.sb = some (.inl (ct 1, 3000, .inl (nf sbf))) := f_sb
                  replace f_su : N10 B.su = some (.inl (ct 1, 8, .inl (V.su))) := f_su
                  replace f_wi : N10 B.wi = some (.inl (ct 1, 64, .inl (V.wi))) := f_wi
                  replace f_tu : N10 B.tu = some (.inl (ct 1, 8, .inl (V.tu))) := f_tu
                  refine lv_iconst (v := nI 0) hx hb d_MD_write_162 rfl ?_
                  refine lv_istore (lv' := [(7, .int (nI 0)), (0, .ref md), (1, .int (nI j)), (2, .int (nI ((OO j).length))), (3, .int (nI k)), (4, .int (nI (24 * j + q))), (5, .int (nI 1)), (6, .int (nI ((V.sz (24 * j + q)) + 65)))]) hx hb d_MD_write_163 hl (by decide) rfl (fun ls hl => ?_)
                  replace hl : lv_has ls 8 [(0, .ref md), (1, .int (nI j)), (2, .int (nI ((OO j).length))), (3, .int (nI k)), (4, .int (nI (24 * j + q))), (5, .int (nI 1)), (6, .int (nI ((V.sz (24 * j + q)) + 65))), (7, .int (nI 0))] := lv_sub hl [1, 2, 3, 4, 5, 6, 7, 0] rfl
                  obtain ⟨i3, e9i3⟩ : ∃ z : Nat, z = 0 := ⟨_, rfl⟩
                  obtain ⟨sbg, e9sbg⟩ : ∃ z : Nat → Nat, z = sbf := ⟨_, rfl⟩
                  obtain ⟨Tg, e9Tg⟩ : ∃ z : List Nat, z = Tf := ⟨_, rfl⟩
                  replace hl : lv_has ls 8 [(0, .ref md), (1, .int (nI j)), (2, .int (nI ((OO j).length))), (3, .int (nI k)), (4, .int (nI (24 * j + q))), (5, .int (nI 1)), (6, .int (nI ((V.sz (24 * j + q)) + 65))), (7, .int (nI i3))] := by subst e9i3 e9sbg e9Tg; exact hl
                  obtain ⟨N11, e9N11⟩ : ∃ z : hp_M, z = N10 := ⟨_, rfl⟩
                  replace hM : hp_H D ccl (hp_A M sz) N11 H := by rw [e9N11]; exact hM
                  replace f_md : N11 md = some (.inr (6, [.ref B.ro, .int (nI (V.co)), .ref B.te, .int (nI (V.ty)), .int (nI (V.ac)), .int (nI (V.al)), .int (nI (V.sd)), .ref B.he, .ref B.cn, .ref B.kd, .ref B.sz, .ref B.ky, .ref B.le, .ref B.dg, .ref B.nm, .ref B.ns, .ref B.sl, .ref B.sb, .int (nI (Tf.length)), .ref B.su, .ref B.wi, .ref B.tu])) := by rw [e9N11]; exact f_md
                  replace f_ro : N11 B.ro = some (.inl (ct 1, 72, .inl roF)) := by rw [e9N11]; exact f_ro
                  replace f_te : N11 B.te = some (.inl (ct 1, 64, .inl (nf V.te))) := by rw [e9N11]; exact f_te
                  replace f_he : N11 B.he = some (.inl (ct 1, 8, .inl (V.he))) := by rw [e9N11]; exact f_he
                  replace f_cn : N11 B.cn = some (.inl (ct 1, 12, .inl (nf V.cn))) := by rw [e9N11]; exact f_cn
                  replace f_kd : N11 B.kd = some (.inl (ct 1, 288, .inl (nf V.kd))) := by rw [e9N11]; exact f_kd
                  replace f_sz : N11 B.sz = some (.inl (ct 1, 288, .inl (nf V.sz))) := by rw [e9N11]; exact f_sz
                  replace f_ky : N11 B.ky = some (.inl (ct 1, 288, .inl (nf V.ky))) := by rw [e9N11]; exact f_ky
                  replace f_le : N11 B.le = some (.inl (ct 1, 18432, .inl (nf V.le))) := by rw [e9N11]; exact f_le
                  replace f_dg : N11 B.dg = some (.inl (ct 1, 2304, .inl (V.dg))) := by rw [e9N11]; exact f_dg
                  replace f_nm : N11 B.nm = some (.inl (ct 1, 128, .inl (nf V.nm))) := by rw [e9N11]; exact f_nm
                  replace f_ns : N11 B.ns = some (.inl (ct 1, 8, .inl (nf V.ns))) := by rw [e9N11]; exact f_ns
                  replace f_sl : N11 B.sl = some (.inl (ct 1, 16, .inl (nf V.sl))) := by rw [e9N11]; exact f_sl
                  replace f_sb : N11 B.sb = some (.inl (ct 1, 3000, .inl (nf sbf))) := by rw [e9N11]; exact f_sb
                  replace f_su : N11 B.su = some (.inl (ct 1, 8, .inl (V.su))) := by rw [e9N11]; exact f_su
                  replace f_wi : N11 B.wi = some (.inl (ct 1, 64, .inl (V.wi))) := by rw [e9N11]; exact f_wi
                  replace f_tu : N11 B.tu = some (.inl (ct 1, 8, .inl (V.tu))) := by rw [e9N11]; exact f_tu
                  replace f_md : N11 md = some (.inr (6, [.ref B.ro, .int (nI (V.co)), .ref B.te, .int (nI (V.ty)), .int (nI (V.ac)), .int (nI (V.al)), .int (nI (V.sd)), .ref B.he, .ref B.cn, .ref B.kd, .ref B.sz, .ref B.ky, .ref B.le, .ref B.dg, .ref B.nm, .ref B.ns, .ref B.sl, .ref B.sb, .int (nI (Tg.length)), .ref B.su, .ref B.wi, .ref B.tu])) := by subst e9i3 e9sbg e9Tg; exact f_md
                  replace f_sb : N11 B.sb = some (.inl (ct 1, 3000, .inl (nf sbg))) := by subst e9i3 e9sbg e9Tg; exact f_sb
                  have hi64 : i3 ≤ 64 := by subst e9i3 e9sbg e9Tg; exact Nat.zero_le _
                  have hwg : mdS ct N11 md B (mkS (V.te) (V.cn) (V.kd) (V.sz) (V.ky) (V.le) (V.nm) (V.ns) (V.sl) sbg (V.he) (V.dg) (V.su) (V.wi) (V.tu) (V.co) (V.ty) (V.ac) (V.al) (V.sd) (Tg.length)) := by subst e9i3 e9sbg e9Tg; rw [e9N11]; exact hwf
                  have hsbg : ∀ i, i < Tg.length → sbg i = Tg.getD i 0 := by subst e9i3 e9sbg e9Tg; exact hsbf
                  have hTg : Tg = Tf ++ (hexL ((OO j).getD k mr0).2.2.2).take i3 := by subst e9i3 e9sbg e9Tg; simp
                  have hTgl : Tg.length = Tf.length + i3 := by subst e9i3 e9sbg e9Tg; rfl
                  obtain ⟨fu3, hn3⟩ : ∃ fu : Nat, i3 + fu = 64 := ⟨64 - i3, by omega⟩
                  clear e9i3 e9sbg e9Tg e9N11
                  induction fu3 generalizing i3 sbg Tg H locs N11 ls with
                  | zero =>
                    refine lv_iload hx hb d_MD_write_165 (lv_at hl 7 rfl) ?_
                    refine lv_bipush (v := nI 64) hx hb d_MD_write_167 rfl ?_
                    refine nb_ge (tgt := 220) hx hb d_MD_write_169 (by decide) (by omega) (by omega) (fun h64 => ?_) (fun h64 => ?_)
                    · have hfin : Tg = T9 ++ stT (clR ((OO j).getD k mr0)) := by
                        rw [hTg, List.take_of_length_le (by rw [hexL_len]; omega), eTf, hTd2, eTc, eTb, eTa]
                        unfold stT
                        rw [hln, qkd]
                        show _ = T9 ++ _ :: _ :: _ :: bdL ((OO j).getD k mr0).1 ((OO j).getD k mr0).2.2.1 (hexL ((OO j).getD k mr0).2.2.2)
                        unfold bdL
                        rw [if_pos h13]
                        simp [clR]
                      refine lv_iinc (v := nI (k + 1)) (lv' := [(3, .int (nI (k + 1))), (0, .ref md), (1, .int (nI j)), (2, .int (nI ((OO j).length))), (4, .int (nI (24 * j + q))), (5, .int (nI 1)), (6, .int (nI ((V.sz (24 * j + q)) + 65))), (7, .int (nI i3))]) hx hb d_MD_write_220 hl (k := 3) rfl (nI_add k 1) (by decide) rfl (fun ls hl => ?_)
                      refine lv_goto (tgt := 13) hx hb d_MD_write_223 (by decide) ?_
                      exact ih1 (ls := ls) (hl := lv_sub hl [1, 2, 3, 0] rfl) (hn1 := by omega) (k := k + 1) (sb9 := sbg) (T9 := Tg) (hkL := by omega) (hw9 := hwg) (hsb9 := hsbg) (hT := by rw [hfin, hT, stA_m (by omega)]) (hTlen := by omega) (H := H) (locs := locs) (hM := hM) (hS := hS) (N2 := N11) (f_md := f_md) (f_ro := f_ro) (f_te := f_te) (f_he := f_he) (f_cn := f_cn) (f_kd := f_kd) (f_sz := f_sz) (f_ky := f_ky) (f_le := f_le) (f_dg := f_dg) (f_nm := f_nm) (f_ns := f_ns) (f_sl := f_sl) (f_sb := f_sb) (f_su := f_su) (f_wi := f_wi) (f_tu := f_tu)
                    · exact absurd hn3 (by omega)
                  | succ fu3 ih3 =>
                    refine lv_iload hx hb d_MD_write_165 (lv_at hl 7 rfl) ?_
                    refine lv_bipush (v := nI 64) hx hb d_MD_write_167 rfl ?_
                    refine nb_ge (tgt := 220) hx hb d_MD_write_169 (by decide) (by omega) (by omega) (fun h64 => ?_) (fun h64 => ?_)
                    · exact absurd hn3 (by omega)
                    · refine lv_iload hx hb d_MD_write_172 (lv_at hl 5 rfl) ?_
                      refine nz_eq (tgt := 220) hx hb d_MD_write_174 (by decide) (by omega) (fun h12 => ?_) (fun h12 => ?_)
                      · exact absurd h12 (by decide)
                      · refine lv_aload_n hx hb d_MD_write_177 rfl (lv_at hl 0 rfl) ?_
                        refine lv_aload_n hx hb d_MD_write_178 rfl (lv_at hl 0 rfl) ?_
                        refine hp_get S hK hM i_MD f_md rfl 13 (by decide) mf_MD_106 (fun _ h9 => h9) rfl d_MD_write_179 ?_
                        refine lv_bipush (v := nI 8) hx hb d_MD_write_182 rfl ?_
                        refine lv_iload hx hb d_MD_write_184 (lv_at hl 4 rfl) ?_
                        refine nb_imul hx hb d_MD_write_186 ?_
                        refine lv_iload hx hb d_MD_write_187 (lv_at hl 7 rfl) ?_
                        refine lv_bipush (v := nI 8) hx hb d_MD_write_189 rfl ?_
                        refine nb_idiv hx hb d_MD_write_191 (by omega) (by omega) (by omega) ?_
                        refine nb_iadd hx hb d_MD_write_192 ?_
                        refine hp_iald S hK hM 1 f_dg rfl ((8 * (24 * j + q)) + (i3 / 8)) rfl (by omega) (by omega) d_MD_write_193 ?_
                        refine lv_bipush (v := nI 28) hx hb d_MD_write_194 rfl ?_
                        refine lv_iconst (v := nI 4) hx hb d_MD_write_196 rfl ?_
                        refine lv_iload hx hb d_MD_write_197 (lv_at hl 7 rfl) ?_
                        refine lv_bipush (v := nI 8) hx hb d_MD_write_199 rfl ?_
                        refine nb_irem hx hb d_MD_write_201 (by omega) (by omega) (by omega) ?_
                        refine nb_imul hx hb d_MD_write_202 ?_
                        refine nb_isub hx hb d_MD_write_203 (by omega) ?_
                        refine lv_ishr hx hb d_MD_write_204 ?_
                        refine lv_bipush (v := nI 15) hx hb d_MD_write_205 rfl ?_
                        refine lv_iand hx hb d_MD_write_207 ?_
                        rw [nib_sh _ (by omega), qdg (i3 / 8) (by omega)]
                        have hnb : nibN (((OO j).getD k mr0).2.2.2 (i3 / 8)) (28 - 4 * (i3 % 8)) < 16 := Nat.mod_lt _ (by decide)
                        obtain ⟨d, ed⟩ : ∃ z : Nat, z = nibN (((OO j).getD k mr0).2.2.2 (i3 / 8)) (28 - 4 * (i3 % 8)) := ⟨_, rfl⟩
                        rw [← ed] at hnb ⊢
                        refine hp_calli (go_S S hZ hK hM hS hA hz (c_MD_hex l D ct Z hZ _ _ d hnb) mc_MD_hex mz_MD ml_MD_209 ms_MD_hex hd_MD_hex rfl ⟨by decide, by decide⟩ hl.1 rfl (Nat.le_of_ble_eq_true rfl) d_MD_write_208 ⟨by decide, by decide⟩) hM hS hA (fun r13 N14 H locs hr13 hM hS => ?_)
                        rw [hr13.1] at hM
                        replace hr13 := hr13.2
                        rw [hr13]
                        refine hp_callv (go_V S hZ hK hM hS hA hz (c_MD_put l D ct Z hZ _ _ md B (mkS (V.te) (V.cn) (V.kd) (V.sz) (V.ky) (V.le) (V.nm) (V.ns) (V.sl) sbg (V.he) (V.dg) (V.su) (V.wi) (V.tu) (V.co) (V.ty) (V.ac) (V.al) (V.sd) (Tg.length)) hwg (hexC d) (by have := hexC_lt hnb; omega) (by show Tg.length < 3000; omega)) mc_MD_put mz_MD ml_MD_206 mi_MD_put mx_MD_put hd_MD_put rfl ⟨by decide, by decide⟩ f_md rfl rfl hl.1 rfl (Nat.le_of_ble_eq_true rfl) d_MD_write_211 ⟨by decide, by decide⟩) hM hS hA (fun M9 H locs h9 hM hS => ?_)
                        obtain ⟨N15, eN15⟩ : ∃ z, z = M9 := ⟨_, rfl⟩
                        rw [← eN15] at hM h9
                        have hsbh := sb_put (k := hexC d) hsbg
                        obtain ⟨sbh, esbh⟩ : ∃ z, z = va_up sbg Tg.length (hexC d) := ⟨_, rfl⟩
                        rw [← esbh] at hsbh
                        obtain ⟨Th, eTh⟩ : ∃ z, z = Tg ++ [hexC d] := ⟨_, rfl⟩
                        rw [← eTh] at hsbh
                        have hTlh : Th.length = Tg.length + 1 := by rw [eTh, List.length_append]; rfl
                        have hwh : mdS ct N15 md B (mkS (V.te) (V.cn) (V.kd) (V.sz) (V.ky) (V.le) (V.nm) (V.ns) (V.sl) sbh (V.he) (V.dg) (V.su) (V.wi) (V.tu) (V.co) (V.ty) (V.ac) (V.al) (V.sd) (Th.length)) := by rw [hTlh, esbh]; exact h9
                        clear f_md f_ro f_te f_he f_cn f_kd f_sz f_ky f_le f_dg f_nm f_ns f_sl f_sb f_su f_wi f_tu
                        obtain ⟨f_md, f_ro, f_te, f_he, f_cn, f_kd, f_sz, f_ky, f_le, f_dg, f_nm, f_ns, f_sl, f_sb, f_su, f_wi, f_tu, hB, hV⟩ := id hwh
                        replace f_md : N15 md = some (.inr (6, [.ref B.ro, .int (nI (V.co)), .ref B.te, .int (nI (V.ty)), .int (nI (V.ac)), .int (nI (V.al)), .int (nI (V.sd)), .ref B.he, .ref B.cn, .ref B.kd, .ref B.sz, .ref B.ky, .ref B.le, .ref B.dg, .ref B.nm, .ref B.ns, .ref B.sl, .ref B.sb, .int (nI (Th.length)), .ref B.su, .ref B.wi, .ref B.tu])) := f_md
                        replace f_ro : N15 B.ro = some (.inl (ct 1, 72, .inl roF)) := f_ro
                        replace f_te : N15 B.te = some (.inl (ct 1, 64, .inl (nf V.te))) := f_te
                        replace f_he : N15 B.he = some (.inl (ct 1, 8, .inl (V.he))) := f_he
                        replace f_cn : N15 B.cn = some (.inl (ct 1, 12, .inl (nf V.cn))) := f_cn
                        replace f_kd : N15 B.kd = some (.inl (ct 1, 288, .inl (nf V.kd))) := f_kd
                        replace f_sz : N15 B.sz = some (.inl (ct 1, 288, .inl (nf V.sz))) := f_sz
                        replace f_ky : N15 B.ky = some (.inl (ct 1, 288, .inl (nf V.ky))) := f_ky
                        replace f_le : N15 B.le = some (.inl (ct 1, 18432, .inl (nf V.le))) := f_le
                        replace f_dg : N15 B.dg = some (.inl (ct 1, 2304, .inl (V.dg))) := f_dg
                        replace f_nm : N15 B.nm = some (.inl (ct 1, 128, .inl (nf V.nm))) := f_nm
                        replace f_ns : N15 B.ns = some (.inl (ct 1, 8, .inl (nf V.ns))) := f_ns
                        replace f_sl : N15 B.sl = some (.inl (ct 1, 16, .inl (nf V.sl))) := f_sl
                        replace f_sb : N15 B.sb = some (.inl (ct 1, 3000, .inl (nf sbh))) := f_sb
                        replace f_su : N15 B.su = some (.inl (ct 1, 8, .inl (V.su))) := f_su
                        replace f_wi : N15 B.wi = some (.inl (ct 1, 64, .inl (V.wi))) := f_wi
                        replace f_tu : N15 B.tu = some (.inl (ct 1, 8, .inl (V.tu))) := f_tu
                        refine lv_iinc (v := nI (i3 + 1)) (lv' := [(7, .int (nI (i3 + 1))), (0, .ref md), (1, .int (nI j)), (2, .int (nI ((OO j).length))), (3, .int (nI k)), (4, .int (nI (24 * j + q))), (5, .int (nI 1)), (6, .int (nI ((V.sz (24 * j + q)) + 65)))]) hx hb d_MD_write_214 hl (k := 7) rfl (nI_add i3 1) (by decide) rfl (fun ls hl => ?_)
                        refine lv_goto (tgt := 165) hx hb d_MD_write_217 (by decide) ?_
                        exact ih3 (ls := ls) (hl := lv_sub hl [1, 2, 3, 4, 5, 6, 7, 0] rfl) (hn3 := by omega) (i3 := i3 + 1) (sbg := sbh) (Tg := Th) (hi64 := by omega) (hwg := hwh) (hsbg := hsbh) (hTg := by rw [eTh, ← take_a (x := hexL ((OO j).getD k mr0).2.2.2) (by rw [hexL_len]; omega) hTg, hexL_at (by omega)]; unfold hexF; rw [← ed]) (hTgl := by omega) (H := H) (locs := locs) (hM := hM) (hS := hS) (N11 := N15) (f_md := f_md) (f_ro := f_ro) (f_te := f_te) (f_he := f_he) (f_cn := f_cn) (f_kd := f_kd) (f_sz := f_sz) (f_ky := f_ky) (f_le := f_le) (f_dg := f_dg) (f_nm := f_nm) (f_ns := f_ns) (f_sl := f_sl) (f_sb := f_sb) (f_su := f_su) (f_wi := f_wi) (f_tu := f_tu)
              · exact absurd hn2 (by omega)
            | succ fu2 ih2 =>
              refine lv_iload hx hb d_MD_write_117 (lv_at hl 7 rfl) ?_
              refine lv_aload_n hx hb d_MD_write_119 rfl (lv_at hl 0 rfl) ?_
              refine hp_get S hK hM i_MD f_md rfl 10 (by decide) mf_MD_97 (fun _ h9 => h9) rfl d_MD_write_120 ?_
              refine lv_iload hx hb d_MD_write_123 (lv_at hl 4 rfl) ?_
              refine hp_iald S hK hM 1 f_sz rfl (24 * j + q) rfl (by omega) (by omega) d_MD_write_125 ?_
              refine nb_ge (tgt := 152) hx hb d_MD_write_126 (by decide) (by omega) (by have := b_sz ((24 * j + q)); omega) (fun hin => ?_) (fun hin => ?_)
              · have hTd2 : Td = Tc ++ ((OO j).getD k mr0).2.2.1 := by rw [hTd, List.take_of_length_le (by omega)]
                have hil : i = ((OO j).getD k mr0).2.2.1.length := by omega
                refine lv_iload hx hb d_MD_write_152 (lv_at hl 5 rfl) ?_
                refine nz_eq (tgt := 162) hx hb d_MD_write_154 (by decide) (by omega) (fun h16 => ?_) (fun h16 => ?_)
                · exact absurd h16 (by decide)
                · refine lv_aload_n hx hb d_MD_write_157 rfl (lv_at hl 0 rfl) ?_
                  refine lv_iconst (v := nI 0) hx hb d_MD_write_158 rfl ?_
                  refine hp_callv (go_V S hZ hK hM hS hA hz (c_MD_put l D ct Z hZ _ _ md B (mkS (V.te) (V.cn) (V.kd) (V.sz) (V.ky) (V.le) (V.nm) (V.ns) (V.sl) sbd (V.he) (V.dg) (V.su) (V.wi) (V.tu) (V.co) (V.ty) (V.ac) (V.al) (V.sd) (Td.length)) hwd (0) (by decide) (by show Td.length < 3000; omega)) mc_MD_put mz_MD ml_MD_206 mi_MD_put mx_MD_put hd_MD_put rfl ⟨by decide, by decide⟩ f_md rfl rfl hl.1 rfl (Nat.le_of_ble_eq_true rfl) d_MD_write_159 ⟨by decide, by decide⟩) hM hS hA (fun M9 H locs h9 hM hS => ?_)
                  obtain ⟨N17, eN17⟩ : ∃ z, z = M9 := ⟨_, rfl⟩
                  rw [← eN17] at hM h9
                  have hsbf := sb_put (k := 0) hsbd
                  obtain ⟨sbf, esbf⟩ : ∃ z, z = va_up sbd Td.length (0) := ⟨_, rfl⟩
                  rw [← esbf] at hsbf
                  obtain ⟨Tf, eTf⟩ : ∃ z, z = Td ++ [0] := ⟨_, rfl⟩
                  rw [← eTf] at hsbf
                  have hTlf : Tf.length = Td.length + 1 := by rw [eTf, List.length_append]; rfl
                  have hwf : mdS ct N17 md B (mkS (V.te) (V.cn) (V.kd) (V.sz) (V.ky) (V.le) (V.nm) (V.ns) (V.sl) sbf (V.he) (V.dg) (V.su) (V.wi) (V.tu) (V.co) (V.ty) (V.ac) (V.al) (V.sd) (Tf.length)) := by rw [hTlf, esbf]; exact h9
                  clear f_md f_ro f_te f_he f_cn f_kd f_sz f_ky f_le f_dg f_nm f_ns f_sl f_sb f_su f_wi f_tu
                  obtain ⟨f_md, f_ro, f_te, f_he, f_cn, f_kd, f_sz, f_ky, f_le, f_dg, f_nm, f_ns, f_sl, f_sb, f_su, f_wi, f_tu, hB, hV⟩ := id hwf
                  replace f_md : N17 md = some (.inr (6, [.ref B.ro, .int (nI (V.co)), .ref B.te, .int (nI (V.ty)), .int (nI (V.ac)), .int (nI (V.al)), .int (nI (V.sd)), .ref B.he, .ref B.cn, .ref B.kd, .ref B.sz, .ref B.ky, .ref B.le, .ref B.dg, .ref B.nm, .ref B.ns, .ref B.sl, .ref B.sb, .int (nI (Tf.length)), .ref B.su, .ref B.wi, .ref B.tu])) := f_md
                  replace f_ro : N17 B.ro = some (.inl (ct 1, 72, .inl roF)) := f_ro
                  replace f_te : N17 B.te = some (.inl (ct 1, 64, .inl (nf V.te))) := f_te
                  replace f_he : N17 B.he = some (.inl (ct 1, 8, .inl (V.he))) := f_he
                  replace f_cn : N17 B.cn = some (.inl (ct 1, 12, .inl (nf V.cn))) := f_cn
                  replace f_kd : N17 B.kd = some (.inl (ct 1, 288, .inl (nf V.kd))) := f_kd
                  replace f_sz : N17 B.sz = some (.inl (ct 1, 288, .inl (nf V.sz))) := f_sz
                  replace f_ky : N17 B.ky = some (.inl (ct 1, 288, .inl (nf V.ky))) := f_ky
                  replace f_le : N17 B.le = some (.inl (ct 1, 18432, .inl (nf V.le))) := f_le
                  replace f_dg : N17 B.dg = some (.inl (ct 1, 2304, .inl (V.dg))) := f_dg
                  replace f_nm : N17 B.nm = some (.inl (ct 1, 128, .inl (nf V.nm))) := f_nm
                  replace f_ns : N17 B.ns = some (.inl (ct 1, 8, .inl (nf V.ns))) := f_ns
                  replace f_sl : N17 B.sl = some (.inl (ct 1, 16, .inl (nf V.sl))) := f_sl
                  replace f_sb : N17 B.sb = some (.inl (ct 1, 3000, .inl (nf sbf))) := f_sb
                  replace f_su : N17 B.su = some (.inl (ct 1, 8, .inl (V.su))) := f_su
                  replace f_wi : N17 B.wi = some (.inl (ct 1, 64, .inl (V.wi))) := f_wi
                  replace f_tu : N17 B.tu = some (.inl (ct 1, 8, .inl (V.tu))) := f_tu
                  refine lv_iconst (v := nI 0) hx hb d_MD_write_162 rfl ?_
                  refine lv_istore (lv' := [(7, .int (nI 0)), (0, .ref md), (1, .int (nI j)), (2, .int (nI ((OO j).length))), (3, .int (nI k)), (4, .int (nI (24 * j + q))), (5, .int (nI 1)), (6, .int (nI ((V.sz (24 * j + q)) + 65)))]) hx hb d_MD_write_163 hl (by decide) rfl (fun ls hl => ?_)
                  replace hl : lv_has ls 8 [(0, .ref md), (1, .int (nI j)), (2, .int (nI ((OO j).length))), (3, .int (nI k)), (4, .int (nI (24 * j + q))), (5, .int (nI 1)), (6, .int (nI ((V.sz (24 * j + q)) + 65))), (7, .int (nI 0))] := lv_sub hl [1, 2, 3, 4, 5, 6, 7, 0] rfl
                  obtain ⟨i3, e9i3⟩ : ∃ z : Nat, z = 0 := ⟨_, rfl⟩
                  obtain ⟨sbg, e9sbg⟩ : ∃ z : Nat → Nat, z = sbf := ⟨_, rfl⟩
                  obtain ⟨Tg, e9Tg⟩ : ∃ z : List Nat, z = Tf := ⟨_, rfl⟩
                  replace hl : lv_has ls 8 [(0, .ref md), (1, .int (nI j)), (2, .int (nI ((OO j).length))), (3, .int (nI k)), (4, .int (nI (24 * j + q))), (5, .int (nI 1)), (6, .int (nI ((V.sz (24 * j + q)) + 65))), (7, .int (nI i3))] := by subst e9i3 e9sbg e9Tg; exact hl
                  obtain ⟨N18, e9N18⟩ : ∃ z : hp_M, z = N17 := ⟨_, rfl⟩
                  replace hM : hp_H D ccl (hp_A M sz) N18 H := by rw [e9N18]; exact hM
                  replace f_md : N18 md = some (.inr (6, [.ref B.ro, .int (nI (V.co)), .ref B.te, .int (nI (V.ty)), .int (nI (V.ac)), .int (nI (V.al)), .int (nI (V.sd)), .ref B.he, .ref B.cn, .ref B.kd, .ref B.sz, .ref B.ky, .ref B.le, .ref B.dg, .ref B.nm, .ref B.ns, .ref B.sl, .ref B.sb, .int (nI (Tf.length)), .ref B.su, .ref B.wi, .ref B.tu])) := by rw [e9N18]; exact f_md
                  replace f_ro : N18 B.ro = some (.inl (ct 1, 72, .inl roF)) := by rw [e9N18]; exact f_ro
                  replace f_te : N18 B.te = some (.inl (ct 1, 64, .inl (nf V.te))) := by rw [e9N18]; exact f_te
                  replace f_he : N18 B.he = some (.inl (ct 1, 8, .inl (V.he))) := by rw [e9N18]; exact f_he
                  replace f_cn : N18 B.cn = some (.inl (ct 1, 12, .inl (nf V.cn))) := by rw [e9N18]; exact f_cn
                  replace f_kd : N18 B.kd = some (.inl (ct 1, 288, .inl (nf V.kd))) := by rw [e9N18]; exact f_kd
                  replace f_sz : N18 B.sz = some (.inl (ct 1, 288, .inl (nf V.sz))) := by rw [e9N18]; exact f_sz
                  replace f_ky : N18 B.ky = some (.inl (ct 1, 288, .inl (nf V.ky))) := by rw [e9N18]; exact f_ky
                  replace f_le : N18 B.le = some (.inl (ct 1, 18432, .inl (nf V.le))) := by rw [e9N18]; exact f_le
                  replace f_dg : N18 B.dg = some (.inl (ct 1, 2304, .inl (V.dg))) := by rw [e9N18]; exact f_dg
                  replace f_nm : N18 B.nm = some (.inl (ct 1, 128, .inl (nf V.nm))) := by rw [e9N18]; exact f_nm
                  replace f_ns : N18 B.ns = some (.inl (ct 1, 8, .inl (nf V.ns))) := by rw [e9N18]; exact f_ns
                  replace f_sl : N18 B.sl = some (.inl (ct 1, 16, .inl (nf V.sl))) := by rw [e9N18]; exact f_sl
                  replace f_sb : N18 B.sb = some (.inl (ct 1, 3000, .inl (nf sbf))) := by rw [e9N18]; exact f_sb
                  replace f_su : N18 B.su = some (.inl (ct 1, 8, .inl (V.su))) := by rw [e9N18]; exact f_su
                  replace f_wi : N18 B.wi = some (.inl (ct 1, 64, .inl (V.wi))) := by rw [e9N18]; exact f_wi
                  replace f_tu : N18 B.tu = some (.inl (ct 1, 8, .inl (V.tu))) := by rw [e9N18]; exact f_tu
                  replace f_md : N18 md = some (.inr (6, [.ref B.ro, .int (nI (V.co)), .ref B.te, .int (nI (V.ty)), .int (nI (V.ac)), .int (nI (V.al)), .int (nI (V.sd)), .ref B.he, .ref B.cn, .ref B.kd, .ref B.sz, .ref B.ky, .ref B.le, .ref B.dg, .ref B.nm, .ref B.ns, .ref B.sl, .ref B.sb, .int (nI (Tg.length)), .ref B.su, .ref B.wi, .ref B.tu])) := by subst e9i3 e9sbg e9Tg; exact f_md
                  replace f_sb : N18 B.sb = some (.inl (ct 1, 3000, .inl (nf sbg))) := by subst e9i3 e9sbg e9Tg; exact f_sb
                  have hi64 : i3 ≤ 64 := by subst e9i3 e9sbg e9Tg; exact Nat.zero_le _
                  have hwg : mdS ct N18 md B (mkS (V.te) (V.cn) (V.kd) (V.sz) (V.ky) (V.le) (V.nm) (V.ns) (V.sl) sbg (V.he) (V.dg) (V.su) (V.wi) (V.tu) (V.co) (V.ty) (V.ac) (V.al) (V.sd) (Tg.length)) := by subst e9i3 e9sbg e9Tg; rw [e9N18]; exact hwf
                  have hsbg : ∀ i, i < Tg.length → sbg i = Tg.getD i 0 := by subst e9i3 e9sbg e9Tg; exact hsbf
                  have hTg : Tg = Tf ++ (hexL ((OO j).getD k mr0).2.2.2).take i3 := by subst e9i3 e9sbg e9Tg; simp
                  have hTgl : Tg.length = Tf.length + i3 := by subst e9i3 e9sbg e9Tg; rfl
                  obtain ⟨fu3, hn3⟩ : ∃ fu : Nat, i3 + fu = 64 := ⟨64 - i3, by omega⟩
                  clear e9i3 e9sbg e9Tg e9N18
                  induction fu3 generalizing i3 sbg Tg H locs N18 ls with
                  | zero =>
                    refine lv_iload hx hb d_MD_write_165 (lv_at hl 7 rfl) ?_
                    refine lv_bipush (v := nI 64) hx hb d_MD_write_167 rfl ?_
                    refine nb_ge (tgt := 220) hx hb d_MD_write_169 (by decide) (by omega) (by omega) (fun h64 => ?_) (fun h64 => ?_)
                    · have hfin : Tg = T9 ++ stT (clR ((OO j).getD k mr0)) := by
                        rw [hTg, List.take_of_length_le (by rw [hexL_len]; omega), eTf, hTd2, eTc, eTb, eTa]
                        unfold stT
                        rw [hln, qkd]
                        show _ = T9 ++ _ :: _ :: _ :: bdL ((OO j).getD k mr0).1 ((OO j).getD k mr0).2.2.1 (hexL ((OO j).getD k mr0).2.2.2)
                        unfold bdL
                        rw [if_pos h13]
                        simp [clR]
                      refine lv_iinc (v := nI (k + 1)) (lv' := [(3, .int (nI (k + 1))), (0, .ref md), (1, .int (nI j)), (2, .int (nI ((OO j).length))), (4, .int (nI (24 * j + q))), (5, .int (nI 1)), (6, .int (nI ((V.sz (24 * j + q)) + 65))), (7, .int (nI i3))]) hx hb d_MD_write_220 hl (k := 3) rfl (nI_add k 1) (by decide) rfl (fun ls hl => ?_)
                      refine lv_goto (tgt := 13) hx hb d_MD_write_223 (by decide) ?_
                      exact ih1 (ls := ls) (hl := lv_sub hl [1, 2, 3, 0] rfl) (hn1 := by omega) (k := k + 1) (sb9 := sbg) (T9 := Tg) (hkL := by omega) (hw9 := hwg) (hsb9 := hsbg) (hT := by rw [hfin, hT, stA_m (by omega)]) (hTlen := by omega) (H := H) (locs := locs) (hM := hM) (hS := hS) (N2 := N18) (f_md := f_md) (f_ro := f_ro) (f_te := f_te) (f_he := f_he) (f_cn := f_cn) (f_kd := f_kd) (f_sz := f_sz) (f_ky := f_ky) (f_le := f_le) (f_dg := f_dg) (f_nm := f_nm) (f_ns := f_ns) (f_sl := f_sl) (f_sb := f_sb) (f_su := f_su) (f_wi := f_wi) (f_tu := f_tu)
                    · exact absurd hn3 (by omega)
                  | succ fu3 ih3 =>
                    refine lv_iload hx hb d_MD_write_165 (lv_at hl 7 rfl) ?_
                    refine lv_bipush (v := nI 64) hx hb d_MD_write_167 rfl ?_
                    refine nb_ge (tgt := 220) hx hb d_MD_write_169 (by decide) (by omega) (by omega) (fun h64 => ?_) (fun h64 => ?_)
                    · exact absurd hn3 (by omega)
                    · refine lv_iload hx hb d_MD_write_172 (lv_at hl 5 rfl) ?_
                      refine nz_eq (tgt := 220) hx hb d_MD_write_174 (by decide) (by omega) (fun h19 => ?_) (fun h19 => ?_)
                      · exact absurd h19 (by decide)
                      · refine lv_aload_n hx hb d_MD_write_177 rfl (lv_at hl 0 rfl) ?_
                        refine lv_aload_n hx hb d_MD_write_178 rfl (lv_at hl 0 rfl) ?_
                        refine hp_get S hK hM i_MD f_md rfl 13 (by decide) mf_MD_106 (fun _ h9 => h9) rfl d_MD_write_179 ?_
                        refine lv_bipush (v := nI 8) hx hb d_MD_write_182 rfl ?_
                        refine lv_iload hx hb d_MD_write_184 (lv_at hl 4 rfl) ?_
                        refine nb_imul hx hb d_MD_write_186 ?_
                        refine lv_iload hx hb d_MD_write_187 (lv_at hl 7 rfl) ?_
                        refine lv_bipush (v := nI 8) hx hb d_MD_write_189 rfl ?_
                        refine nb_idiv hx hb d_MD_write_191 (by omega) (by omega) (by omega) ?_
                        refine nb_iadd hx hb d_MD_write_192 ?_
                        refine hp_iald S hK hM 1 f_dg rfl ((8 * (24 * j + q)) + (i3 / 8)) rfl (by omega) (by omega) d_MD_write_193 ?_
                        refine lv_bipush (v := nI 28) hx hb d_MD_write_194 rfl ?_
                        refine lv_iconst (v := nI 4) hx hb d_MD_write_196 rfl ?_
                        refine lv_iload hx hb d_MD_write_197 (lv_at hl 7 rfl) ?_
                        refine lv_bipush (v := nI 8) hx hb d_MD_write_199 rfl ?_
                        refine nb_irem hx hb d_MD_write_201 (by omega) (by omega) (by omega) ?_
                        refine nb_imul hx hb d_MD_write_202 ?_
                        refine nb_isub hx hb d_MD_write_203 (by omega) ?_
                        refine lv_ishr hx hb d_MD_write_204 ?_
                        refine lv_bipush (v := nI 15) hx hb d_MD_write_205 rfl ?_
                        refine lv_iand hx hb d_MD_write_207 ?_
                        rw [nib_sh _ (by omega), qdg (i3 / 8) (by omega)]
                        have hnb : nibN (((OO j).getD k mr0).2.2.2 (i3 / 8)) (28 - 4 * (i3 % 8)) < 16 := Nat.mod_lt _ (by decide)
                        obtain ⟨d, ed⟩ : ∃ z : Nat, z = nibN (((OO j).getD k mr0).2.2.2 (i3 / 8)) (28 - 4 * (i3 % 8)) := ⟨_, rfl⟩
                        rw [← ed] at hnb ⊢
                        refine hp_calli (go_S S hZ hK hM hS hA hz (c_MD_hex l D ct Z hZ _ _ d hnb) mc_MD_hex mz_MD ml_MD_209 ms_MD_hex hd_MD_hex rfl ⟨by decide, by decide⟩ hl.1 rfl (Nat.le_of_ble_eq_true rfl) d_MD_write_208 ⟨by decide, by decide⟩) hM hS hA (fun r20 N21 H locs hr20 hM hS => ?_)
                        rw [hr20.1] at hM
                        replace hr20 := hr20.2
                        rw [hr20]
                        refine hp_callv (go_V S hZ hK hM hS hA hz (c_MD_put l D ct Z hZ _ _ md B (mkS (V.te) (V.cn) (V.kd) (V.sz) (V.ky) (V.le) (V.nm) (V.ns) (V.sl) sbg (V.he) (V.dg) (V.su) (V.wi) (V.tu) (V.co) (V.ty) (V.ac) (V.al) (V.sd) (Tg.length)) hwg (hexC d) (by have := hexC_lt hnb; omega) (by show Tg.length < 3000; omega)) mc_MD_put mz_MD ml_MD_206 mi_MD_put mx_MD_put hd_MD_put rfl ⟨by decide, by decide⟩ f_md rfl rfl hl.1 rfl (Nat.le_of_ble_eq_true rfl) d_MD_write_211 ⟨by decide, by decide⟩) hM hS hA (fun M9 H locs h9 hM hS => ?_)
                        obtain ⟨N22, eN22⟩ : ∃ z, z = M9 := ⟨_, rfl⟩
                        rw [← eN22] at hM h9
                        have hsbh := sb_put (k := hexC d) hsbg
                        obtain ⟨sbh, esbh⟩ : ∃ z, z = va_up sbg Tg.length (hexC d) := ⟨_, rfl⟩
                        rw [← esbh] at hsbh
                        obtain ⟨Th, eTh⟩ : ∃ z, z = Tg ++ [hexC d] := ⟨_, rfl⟩
                        rw [← eTh] at hsbh
                        have hTlh : Th.length = Tg.length + 1 := by rw [eTh, List.length_append]; rfl
                        have hwh : mdS ct N22 md B (mkS (V.te) (V.cn) (V.kd) (V.sz) (V.ky) (V.le) (V.nm) (V.ns) (V.sl) sbh (V.he) (V.dg) (V.su) (V.wi) (V.tu) (V.co) (V.ty) (V.ac) (V.al) (V.sd) (Th.length)) := by rw [hTlh, esbh]; exact h9
                        clear f_md f_ro f_te f_he f_cn f_kd f_sz f_ky f_le f_dg f_nm f_ns f_sl f_sb f_su f_wi f_tu
                        obtain ⟨f_md, f_ro, f_te, f_he, f_cn, f_kd, f_sz, f_ky, f_le, f_dg, f_nm, f_ns, f_sl, f_sb, f_su, f_wi, f_tu, hB, hV⟩ := id hwh
                        replace f_md : N22 md = some (.inr (6, [.ref B.ro, .int (nI (V.co)), .ref B.te, .int (nI (V.ty)), .int (nI (V.ac)), .int (nI (V.al)), .int (nI (V.sd)), .ref B.he, .ref B.cn, .ref B.kd, .ref B.sz, .ref B.ky, .ref B.le, .ref B.dg, .ref B.nm, .ref B.ns, .ref B.sl, .ref B.sb, .int (nI (Th.length)), .ref B.su, .ref B.wi, .ref B.tu])) := f_md
                        replace f_ro : N22 B.ro = some (.inl (ct 1, 72, .inl roF)) := f_ro
                        replace f_te : N22 B.te = some (.inl (ct 1, 64, .inl (nf V.te))) := f_te
                        replace f_he : N22 B.he = some (.inl (ct 1, 8, .inl (V.he))) := f_he
                        replace f_cn : N22 B.cn = some (.inl (ct 1, 12, .inl (nf V.cn))) := f_cn
                        replace f_kd : N22 B.kd = some (.inl (ct 1, 288, .inl (nf V.kd))) := f_kd
                        replace f_sz : N22 B.sz = some (.inl (ct 1, 288, .inl (nf V.sz))) := f_sz
                        replace f_ky : N22 B.ky = some (.inl (ct 1, 288, .inl (nf V.ky))) := f_ky
                        replace f_le : N22 B.le = some (.inl (ct 1, 18432, .inl (nf V.le))) := f_le
                        replace f_dg : N22 B.dg = some (.inl (ct 1, 2304, .inl (V.dg))) := f_dg
                        replace f_nm : N22 B.nm = some (.inl (ct 1, 128, .inl (nf V.nm))) := f_nm
                        replace f_ns : N22 B.ns = some (.inl (ct 1, 8, .inl (nf V.ns))) := f_ns
                        replace f_sl : N22 B.sl = some (.inl (ct 1, 16, .inl (nf V.sl))) := f_sl
                        replace f_sb : N22 B.sb = some (.inl (ct 1, 3000, .inl (nf sbh))) := f_sb
                        replace f_su : N22 B.su = some (.inl (ct 1, 8, .inl (V.su))) := f_su
                        replace f_wi : N22 B.wi = some (.inl (ct 1, 64, .inl (V.wi))) := f_wi
                        replace f_tu : N22 B.tu = some (.inl (ct 1, 8, .inl (V.tu))) := f_tu
                        refine lv_iinc (v := nI (i3 + 1)) (lv' := [(7, .int (nI (i3 + 1))), (0, .ref md), (1, .int (nI j)), (2, .int (nI ((OO j).length))), (3, .int (nI k)), (4, .int (nI (24 * j + q))), (5, .int (nI 1)), (6, .int (nI ((V.sz (24 * j + q)) + 65)))]) hx hb d_MD_write_214 hl (k := 7) rfl (nI_add i3 1) (by decide) rfl (fun ls hl => ?_)
                        refine lv_goto (tgt := 165) hx hb d_MD_write_217 (by decide) ?_
                        exact ih3 (ls := ls) (hl := lv_sub hl [1, 2, 3, 4, 5, 6, 7, 0] rfl) (hn3 := by omega) (i3 := i3 + 1) (sbg := sbh) (Tg := Th) (hi64 := by omega) (hwg := hwh) (hsbg := hsbh) (hTg := by rw [eTh, ← take_a (x := hexL ((OO j).getD k mr0).2.2.2) (by rw [hexL_len]; omega) hTg, hexL_at (by omega)]; unfold hexF; rw [← ed]) (hTgl := by omega) (H := H) (locs := locs) (hM := hM) (hS := hS) (N18 := N22) (f_md := f_md) (f_ro := f_ro) (f_te := f_te) (f_he := f_he) (f_cn := f_cn) (f_kd := f_kd) (f_sz := f_sz) (f_ky := f_ky) (f_le := f_le) (f_dg := f_dg) (f_nm := f_nm) (f_ns := f_ns) (f_sl := f_sl) (f_sb := f_sb) (f_su := f_su) (f_wi := f_wi) (f_tu := f_tu)
              · refine lv_aload_n hx hb d_MD_write_129 rfl (lv_at hl 0 rfl) ?_
                refine lv_aload_n hx hb d_MD_write_130 rfl (lv_at hl 0 rfl) ?_
                refine hp_get S hK hM i_MD f_md rfl 12 (by decide) mf_MD_103 (fun _ h9 => h9) rfl d_MD_write_131 ?_
                refine lv_bipush (v := nI 64) hx hb d_MD_write_134 rfl ?_
                refine lv_iload hx hb d_MD_write_136 (lv_at hl 4 rfl) ?_
                refine nb_imul hx hb d_MD_write_138 ?_
                refine lv_iload hx hb d_MD_write_139 (lv_at hl 7 rfl) ?_
                refine nb_iadd hx hb d_MD_write_141 ?_
                refine hp_iald S hK hM 1 f_le rfl ((64 * (24 * j + q)) + i) rfl (by omega) (by omega) d_MD_write_142 ?_
                refine hp_callv (go_V S hZ hK hM hS hA hz (c_MD_put l D ct Z hZ _ _ md B (mkS (V.te) (V.cn) (V.kd) (V.sz) (V.ky) (V.le) (V.nm) (V.ns) (V.sl) sbd (V.he) (V.dg) (V.su) (V.wi) (V.tu) (V.co) (V.ty) (V.ac) (V.al) (V.sd) (Td.length)) hwd (V.le (64 * (24 * j + q) + i)) (b_le _) (by show Td.length < 3000; omega)) mc_MD_put mz_MD ml_MD_206 mi_MD_put mx_MD_put hd_MD_put rfl ⟨by decide, by decide⟩ f_md rfl rfl hl.1 rfl (Nat.le_of_ble_eq_true rfl) d_MD_write_143 ⟨by decide, by decide⟩) hM hS hA (fun M9 H locs h9 hM hS => ?_)
                obtain ⟨N23, eN23⟩ : ∃ z, z = M9 := ⟨_, rfl⟩
                rw [← eN23] at hM h9
                have hsbe := sb_put (k := V.le (64 * (24 * j + q) + i)) hsbd
                obtain ⟨sbe, esbe⟩ : ∃ z, z = va_up sbd Td.length (V.le (64 * (24 * j + q) + i)) := ⟨_, rfl⟩
                rw [← esbe] at hsbe
                obtain ⟨Te, eTe⟩ : ∃ z, z = Td ++ [V.le (64 * (24 * j + q) + i)] := ⟨_, rfl⟩
                rw [← eTe] at hsbe
                have hTle : Te.length = Td.length + 1 := by rw [eTe, List.length_append]; rfl
                have hwe : mdS ct N23 md B (mkS (V.te) (V.cn) (V.kd) (V.sz) (V.ky) (V.le) (V.nm) (V.ns) (V.sl) sbe (V.he) (V.dg) (V.su) (V.wi) (V.tu) (V.co) (V.ty) (V.ac) (V.al) (V.sd) (Te.length)) := by rw [hTle, esbe]; exact h9
                clear f_md f_ro f_te f_he f_cn f_kd f_sz f_ky f_le f_dg f_nm f_ns f_sl f_sb f_su f_wi f_tu
                obtain ⟨f_md, f_ro, f_te, f_he, f_cn, f_kd, f_sz, f_ky, f_le, f_dg, f_nm, f_ns, f_sl, f_sb, f_su, f_wi, f_tu, hB, hV⟩ := id hwe
                replace f_md : N23 md = some (.inr (6, [.ref B.ro, .int (nI (V.co)), .ref B.te, .int (nI (V.ty)), .int (nI (V.ac)), .int (nI (V.al)), .int (nI (V.sd)), .ref B.he, .ref B.cn, .ref B.kd, .ref B.sz, .ref B.ky, .ref B.le, .ref B.dg, .ref B.nm, .ref B.ns, .ref B.sl, .ref B.sb, .int (nI (Te.length)), .ref B.su, .ref B.wi, .ref B.tu])) := f_md
                replace f_ro : N23 B.ro = some (.inl (ct 1, 72, .inl roF)) := f_ro
                replace f_te : N23 B.te = some (.inl (ct 1, 64, .inl (nf V.te))) := f_te
                replace f_he : N23 B.he = some (.inl (ct 1, 8, .inl (V.he))) := f_he
                replace f_cn : N23 B.cn = some (.inl (ct 1, 12, .inl (nf V.cn))) := f_cn
                replace f_kd : N23 B.kd = some (.inl (ct 1, 288, .inl (nf V.kd))) := f_kd
                replace f_sz : N23 B.sz = some (.inl (ct 1, 288, .inl (nf V.sz))) := f_sz
                replace f_ky : N23 B.ky = some (.inl (ct 1, 288, .inl (nf V.ky))) := f_ky
                replace f_le : N23 B.le = some (.inl (ct 1, 18432, .inl (nf V.le))) := f_le
                replace f_dg : N23 B.dg = some (.inl (ct 1, 2304, .inl (V.dg))) := f_dg
                replace f_nm : N23 B.nm = some (.inl (ct 1, 128, .inl (nf V.nm))) := f_nm
                replace f_ns : N23 B.ns = some (.inl (ct 1, 8, .inl (nf V.ns))) := f_ns
                replace f_sl : N23 B.sl = some (.inl (ct 1, 16, .inl (nf V.sl))) := f_sl
                replace f_sb : N23 B.sb = some (.inl (ct 1, 3000, .inl (nf sbe))) := f_sb
                replace f_su : N23 B.su = some (.inl (ct 1, 8, .inl (V.su))) := f_su
                replace f_wi : N23 B.wi = some (.inl (ct 1, 64, .inl (V.wi))) := f_wi
                replace f_tu : N23 B.tu = some (.inl (ct 1, 8, .inl (V.tu))) := f_tu
                refine lv_iinc (v := nI (i + 1)) (lv' := [(7, .int (nI (i + 1))), (0, .ref md), (1, .int (nI j)), (2, .int (nI ((OO j).length))), (3, .int (nI k)), (4, .int (nI (24 * j + q))), (5, .int (nI 1)), (6, .int (nI ((V.sz (24 * j + q)) + 65)))]) hx hb d_MD_write_146 hl (k := 7) rfl (nI_add i 1) (by decide) rfl (fun ls hl => ?_)
                refine lv_goto (tgt := 117) hx hb d_MD_write_149 (by decide) ?_
                exact ih2 (ls := ls) (hl := lv_sub hl [1, 2, 3, 4, 5, 6, 7, 0] rfl) (hn2 := by omega) (i := i + 1) (sbd := sbe) (Td := Te) (hiL := by omega) (hwd := hwe) (hsbd := hsbe) (hTd := by rw [eTe, qle i (by omega)]; exact take_a (by omega) hTd) (hTdl := by omega) (H := H) (locs := locs) (hM := hM) (hS := hS) (N8 := N23) (f_md := f_md) (f_ro := f_ro) (f_te := f_te) (f_he := f_he) (f_cn := f_cn) (f_kd := f_kd) (f_sz := f_sz) (f_ky := f_ky) (f_le := f_le) (f_dg := f_dg) (f_nm := f_nm) (f_ns := f_ns) (f_sl := f_sl) (f_sb := f_sb) (f_su := f_su) (f_wi := f_wi) (f_tu := f_tu)
        · subst e5
          have hln : (clR ((OO j).getD k mr0)).2.2.length = V.sz (24 * j + q) + 0 := by
            rw [qsz]
            show (bdL ((OO j).getD k mr0).1 ((OO j).getD k mr0).2.2.1 (hexL ((OO j).getD k mr0).2.2.2)).length = _
            unfold bdL
            rw [if_neg h13]
            rfl
          refine lv_aload_n hx hb d_MD_write_55 rfl (lv_at hl 2 rfl) ?_
          refine hp_get S hK hM i_MD f_md rfl 10 (by decide) mf_MD_97 (fun _ h9 => h9) rfl d_MD_write_56 ?_
          refine lv_iload hx hb d_MD_write_59 (lv_at hl 1 rfl) ?_
          refine hp_iald S hK hM 1 f_sz rfl (24 * j + q) rfl (by omega) (by omega) d_MD_write_61 ?_
          refine lv_iload hx hb d_MD_write_62 (lv_at hl 0 rfl) ?_
          refine nz_eq (tgt := 72) hx hb d_MD_write_64 (by decide) (by omega) (fun h24 => ?_) (fun h24 => ?_)
          · refine lv_iconst (v := nI 0) hx hb d_MD_write_72 rfl ?_
            refine nb_iadd hx hb d_MD_write_73 ?_
            refine lv_istore (lv' := [(6, .int (nI ((V.sz (24 * j + q)) + 0))), (5, .int (nI 0)), (4, .int (nI (24 * j + q))), (0, .ref md), (1, .int (nI j)), (2, .int (nI ((OO j).length))), (3, .int (nI k))]) hx hb d_MD_write_74 hl (by decide) rfl (fun ls hl => ?_)
            refine lv_aload_n hx hb d_MD_write_76 rfl (lv_at hl 3 rfl) ?_
            refine lv_bipush (v := nI 48) hx hb d_MD_write_77 rfl ?_
            refine lv_aload_n hx hb d_MD_write_79 rfl (lv_at hl 3 rfl) ?_
            refine hp_get S hK hM i_MD f_md rfl 9 (by decide) mf_MD_94 (fun _ h9 => h9) rfl d_MD_write_80 ?_
            refine lv_iload hx hb d_MD_write_83 (lv_at hl 2 rfl) ?_
            refine hp_iald S hK hM 1 f_kd rfl (24 * j + q) rfl (by omega) (by omega) d_MD_write_85 ?_
            refine nb_iadd hx hb d_MD_write_86 ?_
            refine hp_callv (go_V S hZ hK hM hS hA hz (c_MD_put l D ct Z hZ _ _ md B (mkS (V.te) (V.cn) (V.kd) (V.sz) (V.ky) (V.le) (V.nm) (V.ns) (V.sl) sb9 (V.he) (V.dg) (V.su) (V.wi) (V.tu) (V.co) (V.ty) (V.ac) (V.al) (V.sd) (T9.length)) hw9 (48 + V.kd (24 * j + q)) (by have := b_kd (24 * j + q); omega) (by show T9.length < 3000; omega)) mc_MD_put mz_MD ml_MD_206 mi_MD_put mx_MD_put hd_MD_put rfl ⟨by decide, by decide⟩ f_md rfl rfl hl.1 rfl (Nat.le_of_ble_eq_true rfl) d_MD_write_87 ⟨by decide, by decide⟩) hM hS hA (fun M9 H locs h9 hM hS => ?_)
            obtain ⟨N25, eN25⟩ : ∃ z, z = M9 := ⟨_, rfl⟩
            rw [← eN25] at hM h9
            have hsba := sb_put (k := 48 + V.kd (24 * j + q)) hsb9
            obtain ⟨sba, esba⟩ : ∃ z, z = va_up sb9 T9.length (48 + V.kd (24 * j + q)) := ⟨_, rfl⟩
            rw [← esba] at hsba
            obtain ⟨Ta, eTa⟩ : ∃ z, z = T9 ++ [48 + V.kd (24 * j + q)] := ⟨_, rfl⟩
            rw [← eTa] at hsba
            have hTla : Ta.length = T9.length + 1 := by rw [eTa, List.length_append]; rfl
            have hwa : mdS ct N25 md B (mkS (V.te) (V.cn) (V.kd) (V.sz) (V.ky) (V.le) (V.nm) (V.ns) (V.sl) sba (V.he) (V.dg) (V.su) (V.wi) (V.tu) (V.co) (V.ty) (V.ac) (V.al) (V.sd) (Ta.length)) := by rw [hTla, esba]; exact h9
            clear f_md f_ro f_te f_he f_cn f_kd f_sz f_ky f_le f_dg f_nm f_ns f_sl f_sb f_su f_wi f_tu
            obtain ⟨f_md, f_ro, f_te, f_he, f_cn, f_kd, f_sz, f_ky, f_le, f_dg, f_nm, f_ns, f_sl, f_sb, f_su, f_wi, f_tu, hB, hV⟩ := id hwa
            replace f_md : N25 md = some (.inr (6, [.ref B.ro, .int (nI (V.co)), .ref B.te, .int (nI (V.ty)), .int (nI (V.ac)), .int (nI (V.al)), .int (nI (V.sd)), .ref B.he, .ref B.cn, .ref B.kd, .ref B.sz, .ref B.ky, .ref B.le, .ref B.dg, .ref B.nm, .ref B.ns, .ref B.sl, .ref B.sb, .int (nI (Ta.length)), .ref B.su, .ref B.wi, .ref B.tu])) := f_md
            replace f_ro : N25 B.ro = some (.inl (ct 1, 72, .inl roF)) := f_ro
            replace f_te : N25 B.te = some (.inl (ct 1, 64, .inl (nf V.te))) := f_te
            replace f_he : N25 B.he = some (.inl (ct 1, 8, .inl (V.he))) := f_he
            replace f_cn : N25 B.cn = some (.inl (ct 1, 12, .inl (nf V.cn))) := f_cn
            replace f_kd : N25 B.kd = some (.inl (ct 1, 288, .inl (nf V.kd))) := f_kd
            replace f_sz : N25 B.sz = some (.inl (ct 1, 288, .inl (nf V.sz))) := f_sz
            replace f_ky : N25 B.ky = some (.inl (ct 1, 288, .inl (nf V.ky))) := f_ky
            replace f_le : N25 B.le = some (.inl (ct 1, 18432, .inl (nf V.le))) := f_le
            replace f_dg : N25 B.dg = some (.inl (ct 1, 2304, .inl (V.dg))) := f_dg
            replace f_nm : N25 B.nm = some (.inl (ct 1, 128, .inl (nf V.nm))) := f_nm
            replace f_ns : N25 B.ns = some (.inl (ct 1, 8, .inl (nf V.ns))) := f_ns
            replace f_sl : N25 B.sl = some (.inl (ct 1, 16, .inl (nf V.sl))) := f_sl
            replace f_sb : N25 B.sb = some (.inl (ct 1, 3000, .inl (nf sba))) := f_sb
            replace f_su : N25 B.su = some (.inl (ct 1, 8, .inl (V.su))) := f_su
            replace f_wi : N25 B.wi = some (.inl (ct 1, 64, .inl (V.wi))) := f_wi
            replace f_tu : N25 B.tu = some (.inl (ct 1, 8, .inl (V.tu))) := f_tu
            refine lv_aload_n hx hb d_MD_write_90 rfl (lv_at hl 3 rfl) ?_
            refine lv_bipush (v := nI 48) hx hb d_MD_write_91 rfl ?_
            refine lv_iload hx hb d_MD_write_93 (lv_at hl 0 rfl) ?_
            refine lv_bipush (v := nI 64) hx hb d_MD_write_95 rfl ?_
            refine nb_idiv hx hb d_MD_write_97 (by omega) (by omega) (by omega) ?_
            refine nb_iadd hx hb d_MD_write_98 ?_
            refine hp_callv (go_V S hZ hK hM hS hA hz (c_MD_put l D ct Z hZ _ _ md B (mkS (V.te) (V.cn) (V.kd) (V.sz) (V.ky) (V.le) (V.nm) (V.ns) (V.sl) sba (V.he) (V.dg) (V.su) (V.wi) (V.tu) (V.co) (V.ty) (V.ac) (V.al) (V.sd) (Ta.length)) hwa (48 + (V.sz (24 * j + q) + 0) / 64) (by have := b_sz (24 * j + q); omega) (by show Ta.length < 3000; omega)) mc_MD_put mz_MD ml_MD_206 mi_MD_put mx_MD_put hd_MD_put rfl ⟨by decide, by decide⟩ f_md rfl rfl hl.1 rfl (Nat.le_of_ble_eq_true rfl) d_MD_write_99 ⟨by decide, by decide⟩) hM hS hA (fun M9 H locs h9 hM hS => ?_)
            obtain ⟨N26, eN26⟩ : ∃ z, z = M9 := ⟨_, rfl⟩
            rw [← eN26] at hM h9
            have hsbb := sb_put (k := 48 + (V.sz (24 * j + q) + 0) / 64) hsba
            obtain ⟨sbb, esbb⟩ : ∃ z, z = va_up sba Ta.length (48 + (V.sz (24 * j + q) + 0) / 64) := ⟨_, rfl⟩
            rw [← esbb] at hsbb
            obtain ⟨Tb, eTb⟩ : ∃ z, z = Ta ++ [48 + (V.sz (24 * j + q) + 0) / 64] := ⟨_, rfl⟩
            rw [← eTb] at hsbb
            have hTlb : Tb.length = Ta.length + 1 := by rw [eTb, List.length_append]; rfl
            have hwb : mdS ct N26 md B (mkS (V.te) (V.cn) (V.kd) (V.sz) (V.ky) (V.le) (V.nm) (V.ns) (V.sl) sbb (V.he) (V.dg) (V.su) (V.wi) (V.tu) (V.co) (V.ty) (V.ac) (V.al) (V.sd) (Tb.length)) := by rw [hTlb, esbb]; exact h9
            clear f_md f_ro f_te f_he f_cn f_kd f_sz f_ky f_le f_dg f_nm f_ns f_sl f_sb f_su f_wi f_tu
            obtain ⟨f_md, f_ro, f_te, f_he, f_cn, f_kd, f_sz, f_ky, f_le, f_dg, f_nm, f_ns, f_sl, f_sb, f_su, f_wi, f_tu, hB, hV⟩ := id hwb
            replace f_md : N26 md = some (.inr (6, [.ref B.ro, .int (nI (V.co)), .ref B.te, .int (nI (V.ty)), .int (nI (V.ac)), .int (nI (V.al)), .int (nI (V.sd)), .ref B.he, .ref B.cn, .ref B.kd, .ref B.sz, .ref B.ky, .ref B.le, .ref B.dg, .ref B.nm, .ref B.ns, .ref B.sl, .ref B.sb, .int (nI (Tb.length)), .ref B.su, .ref B.wi, .ref B.tu])) := f_md
            replace f_ro : N26 B.ro = some (.inl (ct 1, 72, .inl roF)) := f_ro
            replace f_te : N26 B.te = some (.inl (ct 1, 64, .inl (nf V.te))) := f_te
            replace f_he : N26 B.he = some (.inl (ct 1, 8, .inl (V.he))) := f_he
            replace f_cn : N26 B.cn = some (.inl (ct 1, 12, .inl (nf V.cn))) := f_cn
            replace f_kd : N26 B.kd = some (.inl (ct 1, 288, .inl (nf V.kd))) := f_kd
            replace f_sz : N26 B.sz = some (.inl (ct 1, 288, .inl (nf V.sz))) := f_sz
            replace f_ky : N26 B.ky = some (.inl (ct 1, 288, .inl (nf V.ky))) := f_ky
            replace f_le : N26 B.le = some (.inl (ct 1, 18432, .inl (nf V.le))) := f_le
            replace f_dg : N26 B.dg = some (.inl (ct 1, 2304, .inl (V.dg))) := f_dg
            replace f_nm : N26 B.nm = some (.inl (ct 1, 128, .inl (nf V.nm))) := f_nm
            replace f_ns : N26 B.ns = some (.inl (ct 1, 8, .inl (nf V.ns))) := f_ns
            replace f_sl : N26 B.sl = some (.inl (ct 1, 16, .inl (nf V.sl))) := f_sl
            replace f_sb : N26 B.sb = some (.inl (ct 1, 3000, .inl (nf sbb))) := f_sb
            replace f_su : N26 B.su = some (.inl (ct 1, 8, .inl (V.su))) := f_su
            replace f_wi : N26 B.wi = some (.inl (ct 1, 64, .inl (V.wi))) := f_wi
            replace f_tu : N26 B.tu = some (.inl (ct 1, 8, .inl (V.tu))) := f_tu
            refine lv_aload_n hx hb d_MD_write_102 rfl (lv_at hl 3 rfl) ?_
            refine lv_bipush (v := nI 48) hx hb d_MD_write_103 rfl ?_
            refine lv_iload hx hb d_MD_write_105 (lv_at hl 0 rfl) ?_
            refine lv_bipush (v := nI 64) hx hb d_MD_write_107 rfl ?_
            refine nb_irem hx hb d_MD_write_109 (by omega) (by omega) (by omega) ?_
            refine nb_iadd hx hb d_MD_write_110 ?_
            refine hp_callv (go_V S hZ hK hM hS hA hz (c_MD_put l D ct Z hZ _ _ md B (mkS (V.te) (V.cn) (V.kd) (V.sz) (V.ky) (V.le) (V.nm) (V.ns) (V.sl) sbb (V.he) (V.dg) (V.su) (V.wi) (V.tu) (V.co) (V.ty) (V.ac) (V.al) (V.sd) (Tb.length)) hwb (48 + (V.sz (24 * j + q) + 0) % 64) (by have := b_sz (24 * j + q); omega) (by show Tb.length < 3000; omega)) mc_MD_put mz_MD ml_MD_206 mi_MD_put mx_MD_put hd_MD_put rfl ⟨by decide, by decide⟩ f_md rfl rfl hl.1 rfl (Nat.le_of_ble_eq_true rfl) d_MD_write_111 ⟨by decide, by decide⟩) hM hS hA (fun M9 H locs h9 hM hS => ?_)
            obtain ⟨N27, eN27⟩ : ∃ z, z = M9 := ⟨_, rfl⟩
            rw [← eN27] at hM h9
            have hsbc := sb_put (k := 48 + (V.sz (24 * j + q) + 0) % 64) hsbb
            obtain ⟨sbc, esbc⟩ : ∃ z, z = va_up sbb Tb.length (48 + (V.sz (24 * j + q) + 0) % 64) := ⟨_, rfl⟩
            rw [← esbc] at hsbc
            obtain ⟨Tc, eTc⟩ : ∃ z, z = Tb ++ [48 + (V.sz (24 * j + q) + 0) % 64] := ⟨_, rfl⟩
            rw [← eTc] at hsbc
            have hTlc : Tc.length = Tb.length + 1 := by rw [eTc, List.length_append]; rfl
            have hwc : mdS ct N27 md B (mkS (V.te) (V.cn) (V.kd) (V.sz) (V.ky) (V.le) (V.nm) (V.ns) (V.sl) sbc (V.he) (V.dg) (V.su) (V.wi) (V.tu) (V.co) (V.ty) (V.ac) (V.al) (V.sd) (Tc.length)) := by rw [hTlc, esbc]; exact h9
            clear f_md f_ro f_te f_he f_cn f_kd f_sz f_ky f_le f_dg f_nm f_ns f_sl f_sb f_su f_wi f_tu
            obtain ⟨f_md, f_ro, f_te, f_he, f_cn, f_kd, f_sz, f_ky, f_le, f_dg, f_nm, f_ns, f_sl, f_sb, f_su, f_wi, f_tu, hB, hV⟩ := id hwc
            replace f_md : N27 md = some (.inr (6, [.ref B.ro, .int (nI (V.co)), .ref B.te, .int (nI (V.ty)), .int (nI (V.ac)), .int (nI (V.al)), .int (nI (V.sd)), .ref B.he, .ref B.cn, .ref B.kd, .ref B.sz, .ref B.ky, .ref B.le, .ref B.dg, .ref B.nm, .ref B.ns, .ref B.sl, .ref B.sb, .int (nI (Tc.length)), .ref B.su, .ref B.wi, .ref B.tu])) := f_md
            replace f_ro : N27 B.ro = some (.inl (ct 1, 72, .inl roF)) := f_ro
            replace f_te : N27 B.te = some (.inl (ct 1, 64, .inl (nf V.te))) := f_te
            replace f_he : N27 B.he = some (.inl (ct 1, 8, .inl (V.he))) := f_he
            replace f_cn : N27 B.cn = some (.inl (ct 1, 12, .inl (nf V.cn))) := f_cn
            replace f_kd : N27 B.kd = some (.inl (ct 1, 288, .inl (nf V.kd))) := f_kd
            replace f_sz : N27 B.sz = some (.inl (ct 1, 288, .inl (nf V.sz))) := f_sz
            replace f_ky : N27 B.ky = some (.inl (ct 1, 288, .inl (nf V.ky))) := f_ky
            replace f_le : N27 B.le = some (.inl (ct 1, 18432, .inl (nf V.le))) := f_le
            replace f_dg : N27 B.dg = some (.inl (ct 1, 2304, .inl (V.dg))) := f_dg
            replace f_nm : N27 B.nm = some (.inl (ct 1, 128, .inl (nf V.nm))) := f_nm
            replace f_ns : N27 B.ns = some (.inl (ct 1, 8, .inl (nf V.ns))) := f_ns
            replace f_sl : N27 B.sl = some (.inl (ct 1, 16, .inl (nf V.sl))) := f_sl
            replace f_sb : N27 B.sb = some (.inl (ct 1, 3000, .inl (nf sbc))) := f_sb
            replace f_su : N27 B.su = some (.inl (ct 1, 8, .inl (V.su))) := f_su
            replace f_wi : N27 B.wi = some (.inl (ct 1, 64, .inl (V.wi))) := f_wi
            replace f_tu : N27 B.tu = some (.inl (ct 1, 8, .inl (V.tu))) := f_tu
            refine lv_iconst (v := nI 0) hx hb d_MD_write_114 rfl ?_
            refine lv_istore (lv' := [(7, .int (nI 0)), (6, .int (nI ((V.sz (24 * j + q)) + 0))), (5, .int (nI 0)), (4, .int (nI (24 * j + q))), (0, .ref md), (1, .int (nI j)), (2, .int (nI ((OO j).length))), (3, .int (nI k))]) hx hb d_MD_write_115 hl (by decide) rfl (fun ls hl => ?_)
            replace hl : lv_has ls 8 [(0, .ref md), (1, .int (nI j)), (2, .int (nI ((OO j).length))), (3, .int (nI k)), (4, .int (nI (24 * j + q))), (5, .int (nI 0)), (6, .int (nI ((V.sz (24 * j + q)) + 0))), (7, .int (nI 0))] := lv_sub hl [4, 5, 6, 7, 3, 2, 1, 0] rfl
            obtain ⟨i, e9i⟩ : ∃ z : Nat, z = 0 := ⟨_, rfl⟩
            obtain ⟨sbd, e9sbd⟩ : ∃ z : Nat → Nat, z = sbc := ⟨_, rfl⟩
            obtain ⟨Td, e9Td⟩ : ∃ z : List Nat, z = Tc := ⟨_, rfl⟩
            replace hl : lv_has ls 8 [(0, .ref md), (1, .int (nI j)), (2, .int (nI ((OO j).length))), (3, .int (nI k)), (4, .int (nI (24 * j + q))), (5, .int (nI 0)), (6, .int (nI ((V.sz (24 * j + q)) + 0))), (7, .int (nI i))] := by subst e9i e9sbd e9Td; exact hl
            obtain ⟨N28, e9N28⟩ : ∃ z : hp_M, z = N27 := ⟨_, rfl⟩
            replace hM : hp_H D ccl (hp_A M sz) N28 H := by rw [e9N28]; exact hM
            replace f_md : N28 md = some (.inr (6, [.ref B.ro, .int (nI (V.co)), .ref B.te, .int (nI (V.ty)), .int (nI (V.ac)), .int (nI (V.al)), .int (nI (V.sd)), .ref B.he, .ref B.cn, .ref B.kd, .ref B.sz, .ref B.ky, .ref B.le, .ref B.dg, .ref B.nm, .ref B.ns, .ref B.sl, .ref B.sb, .int (nI (Tc.length)), .ref B.su, .ref B.wi, .ref B.tu])) := by rw [e9N28]; exact f_md
            replace f_ro : N28 B.ro = some (.inl (ct 1, 72, .inl roF)) := by rw [e9N28]; exact f_ro
            replace f_te : N28 B.te = some (.inl (ct 1, 64, .inl (nf V.te))) := by rw [e9N28]; exact f_te
            replace f_he : N28 B.he = some (.inl (ct 1, 8, .inl (V.he))) := by rw [e9N28]; exact f_he
            replace f_cn : N28 B.cn = some (.inl (ct 1, 12, .inl (nf V.cn))) := by rw [e9N28]; exact f_cn
            replace f_kd : N28 B.kd = some (.inl (ct 1, 288, .inl (nf V.kd))) := by rw [e9N28]; exact f_kd
            replace f_sz : N28 B.sz = some (.inl (ct 1, 288, .inl (nf V.sz))) := by rw [e9N28]; exact f_sz
            replace f_ky : N28 B.ky = some (.inl (ct 1, 288, .inl (nf V.ky))) := by rw [e9N28]; exact f_ky
            replace f_le : N28 B.le = some (.inl (ct 1, 18432, .inl (nf V.le))) := by rw [e9N28]; exact f_le
            replace f_dg : N28 B.dg = some (.inl (ct 1, 2304, .inl (V.dg))) := by rw [e9N28]; exact f_dg
            replace f_nm : N28 B.nm = some (.inl (ct 1, 128, .inl (nf V.nm))) := by rw [e9N28]; exact f_nm
            replace f_ns : N28 B.ns = some (.inl (ct 1, 8, .inl (nf V.ns))) := by rw [e9N28]; exact f_ns
            replace f_sl : N28 B.sl = some (.inl (ct 1, 16, .inl (nf V.sl))) := by rw [e9N28]; exact f_sl
            replace f_sb : N28 B.sb = some (.inl (ct 1, 3000, .inl (nf sbc))) := by rw [e9N28]; exact f_sb
            replace f_su : N28 B.su = some (.inl (ct 1, 8, .inl (V.su))) := by rw [e9N28]; exact f_su
            replace f_wi : N28 B.wi = some (.inl (ct 1, 64, .inl (V.wi))) := by rw [e9N28]; exact f_wi
            replace f_tu : N28 B.tu = some (.inl (ct 1, 8, .inl (V.tu))) := by rw [e9N28]; exact f_tu
            replace f_md : N28 md = some (.inr (6, [.ref B.ro, .int (nI (V.co)), .ref B.te, .int (nI (V.ty)), .int (nI (V.ac)), .int (nI (V.al)), .int (nI (V.sd)), .ref B.he, .ref B.cn, .ref B.kd, .ref B.sz, .ref B.ky, .ref B.le, .ref B.dg, .ref B.nm, .ref B.ns, .ref B.sl, .ref B.sb, .int (nI (Td.length)), .ref B.su, .ref B.wi, .ref B.tu])) := by subst e9i e9sbd e9Td; exact f_md
            replace f_sb : N28 B.sb = some (.inl (ct 1, 3000, .inl (nf sbd))) := by subst e9i e9sbd e9Td; exact f_sb
            have hiL : i ≤ ((OO j).getD k mr0).2.2.1.length := by subst e9i e9sbd e9Td; exact Nat.zero_le _
            have hwd : mdS ct N28 md B (mkS (V.te) (V.cn) (V.kd) (V.sz) (V.ky) (V.le) (V.nm) (V.ns) (V.sl) sbd (V.he) (V.dg) (V.su) (V.wi) (V.tu) (V.co) (V.ty) (V.ac) (V.al) (V.sd) (Td.length)) := by subst e9i e9sbd e9Td; rw [e9N28]; exact hwc
            have hsbd : ∀ i, i < Td.length → sbd i = Td.getD i 0 := by subst e9i e9sbd e9Td; exact hsbc
            have hTd : Td = Tc ++ ((OO j).getD k mr0).2.2.1.take i := by subst e9i e9sbd e9Td; simp
            have hTdl : Td.length = Tc.length + i := by subst e9i e9sbd e9Td; rfl
            obtain ⟨fu2, hn2⟩ : ∃ fu : Nat, ((OO j).getD k mr0).2.2.1.length ≤ i + fu := ⟨((OO j).getD k mr0).2.2.1.length, by omega⟩
            clear e9i e9sbd e9Td e9N28
            induction fu2 generalizing i sbd Td H locs N28 ls with
            | zero =>
              have hn0 := hn2
              refine lv_iload hx hb d_MD_write_117 (lv_at hl 7 rfl) ?_
              refine lv_aload_n hx hb d_MD_write_119 rfl (lv_at hl 0 rfl) ?_
              refine hp_get S hK hM i_MD f_md rfl 10 (by decide) mf_MD_97 (fun _ h9 => h9) rfl d_MD_write_120 ?_
              refine lv_iload hx hb d_MD_write_123 (lv_at hl 4 rfl) ?_
              refine hp_iald S hK hM 1 f_sz rfl (24 * j + q) rfl (by omega) (by omega) d_MD_write_125 ?_
              refine nb_ge (tgt := 152) hx hb d_MD_write_126 (by decide) (by omega) (by have := b_sz ((24 * j + q)); omega) (fun hin => ?_) (fun hin => ?_)
              · have hTd2 : Td = Tc ++ ((OO j).getD k mr0).2.2.1 := by rw [hTd, List.take_of_length_le (by omega)]
                have hil : i = ((OO j).getD k mr0).2.2.1.length := by omega
                refine lv_iload hx hb d_MD_write_152 (lv_at hl 5 rfl) ?_
                refine nz_eq (tgt := 162) hx hb d_MD_write_154 (by decide) (by omega) (fun h29 => ?_) (fun h29 => ?_)
                · refine lv_iconst (v := nI 0) hx hb d_MD_write_162 rfl ?_
                  refine lv_istore (lv' := [(7, .int (nI 0)), (0, .ref md), (1, .int (nI j)), (2, .int (nI ((OO j).length))), (3, .int (nI k)), (4, .int (nI (24 * j + q))), (5, .int (nI 0)), (6, .int (nI ((V.sz (24 * j + q)) + 0)))]) hx hb d_MD_write_163 hl (by decide) rfl (fun ls hl => ?_)
                  refine lv_iload hx hb d_MD_write_165 (lv_at hl 0 rfl) ?_
                  refine lv_bipush (v := nI 64) hx hb d_MD_write_167 rfl ?_
                  refine nb_ge (tgt := 220) hx hb d_MD_write_169 (by decide) (by omega) (by omega) (fun h64 => ?_) (fun h64 => ?_)
                  · exact absurd h64 (by decide)
                  · refine lv_iload hx hb d_MD_write_172 (lv_at hl 6 rfl) ?_
                    refine nz_eq (tgt := 220) hx hb d_MD_write_174 (by decide) (by omega) (fun h30 => ?_) (fun h30 => ?_)
                    · have hfin : Td = T9 ++ stT (clR ((OO j).getD k mr0)) := by
                        rw [hTd2, eTc, eTb, eTa]
                        unfold stT
                        rw [hln, qkd]
                        show _ = T9 ++ _ :: _ :: _ :: bdL ((OO j).getD k mr0).1 ((OO j).getD k mr0).2.2.1 (hexL ((OO j).getD k mr0).2.2.2)
                        unfold bdL
                        rw [if_neg h13]
                        simp [clR]
                      refine lv_iinc (v := nI (k + 1)) (lv' := [(3, .int (nI (k + 1))), (7, .int (nI 0)), (0, .ref md), (1, .int (nI j)), (2, .int (nI ((OO j).length))), (4, .int (nI (24 * j + q))), (5, .int (nI 0)), (6, .int (nI ((V.sz (24 * j + q)) + 0)))]) hx hb d_MD_write_220 hl (k := 4) rfl (nI_add k 1) (by decide) rfl (fun ls hl => ?_)
                      refine lv_goto (tgt := 13) hx hb d_MD_write_223 (by decide) ?_
                      exact ih1 (ls := ls) (hl := lv_sub hl [2, 3, 4, 0] rfl) (hn1 := by omega) (k := k + 1) (sb9 := sbd) (T9 := Td) (hkL := by omega) (hw9 := hwd) (hsb9 := hsbd) (hT := by rw [hfin, hT, stA_m (by omega)]) (hTlen := by omega) (H := H) (locs := locs) (hM := hM) (hS := hS) (N2 := N28) (f_md := f_md) (f_ro := f_ro) (f_te := f_te) (f_he := f_he) (f_cn := f_cn) (f_kd := f_kd) (f_sz := f_sz) (f_ky := f_ky) (f_le := f_le) (f_dg := f_dg) (f_nm := f_nm) (f_ns := f_ns) (f_sl := f_sl) (f_sb := f_sb) (f_su := f_su) (f_wi := f_wi) (f_tu := f_tu)
                    · exact absurd rfl h30
                · exact absurd rfl h29
              · exact absurd hn2 (by omega)
            | succ fu2 ih2 =>
              refine lv_iload hx hb d_MD_write_117 (lv_at hl 7 rfl) ?_
              refine lv_aload_n hx hb d_MD_write_119 rfl (lv_at hl 0 rfl) ?_
              refine hp_get S hK hM i_MD f_md rfl 10 (by decide) mf_MD_97 (fun _ h9 => h9) rfl d_MD_write_120 ?_
              refine lv_iload hx hb d_MD_write_123 (lv_at hl 4 rfl) ?_
              refine hp_iald S hK hM 1 f_sz rfl (24 * j + q) rfl (by omega) (by omega) d_MD_write_125 ?_
              refine nb_ge (tgt := 152) hx hb d_MD_write_126 (by decide) (by omega) (by have := b_sz ((24 * j + q)); omega) (fun hin => ?_) (fun hin => ?_)
              · have hTd2 : Td = Tc ++ ((OO j).getD k mr0).2.2.1 := by rw [hTd, List.take_of_length_le (by omega)]
                have hil : i = ((OO j).getD k mr0).2.2.1.length := by omega
                refine lv_iload hx hb d_MD_write_152 (lv_at hl 5 rfl) ?_
                refine nz_eq (tgt := 162) hx hb d_MD_write_154 (by decide) (by omega) (fun h31 => ?_) (fun h31 => ?_)
                · refine lv_iconst (v := nI 0) hx hb d_MD_write_162 rfl ?_
                  refine lv_istore (lv' := [(7, .int (nI 0)), (0, .ref md), (1, .int (nI j)), (2, .int (nI ((OO j).length))), (3, .int (nI k)), (4, .int (nI (24 * j + q))), (5, .int (nI 0)), (6, .int (nI ((V.sz (24 * j + q)) + 0)))]) hx hb d_MD_write_163 hl (by decide) rfl (fun ls hl => ?_)
                  refine lv_iload hx hb d_MD_write_165 (lv_at hl 0 rfl) ?_
                  refine lv_bipush (v := nI 64) hx hb d_MD_write_167 rfl ?_
                  refine nb_ge (tgt := 220) hx hb d_MD_write_169 (by decide) (by omega) (by omega) (fun h64 => ?_) (fun h64 => ?_)
                  · exact absurd h64 (by decide)
                  · refine lv_iload hx hb d_MD_write_172 (lv_at hl 6 rfl) ?_
                    refine nz_eq (tgt := 220) hx hb d_MD_write_174 (by decide) (by omega) (fun h32 => ?_) (fun h32 => ?_)
                    · have hfin : Td = T9 ++ stT (clR ((OO j).getD k mr0)) := by
                        rw [hTd2, eTc, eTb, eTa]
                        unfold stT
                        rw [hln, qkd]
                        show _ = T9 ++ _ :: _ :: _ :: bdL ((OO j).getD k mr0).1 ((OO j).getD k mr0).2.2.1 (hexL ((OO j).getD k mr0).2.2.2)
                        unfold bdL
                        rw [if_neg h13]
                        simp [clR]
                      refine lv_iinc (v := nI (k + 1)) (lv' := [(3, .int (nI (k + 1))), (7, .int (nI 0)), (0, .ref md), (1, .int (nI j)), (2, .int (nI ((OO j).length))), (4, .int (nI (24 * j + q))), (5, .int (nI 0)), (6, .int (nI ((V.sz (24 * j + q)) + 0)))]) hx hb d_MD_write_220 hl (k := 4) rfl (nI_add k 1) (by decide) rfl (fun ls hl => ?_)
                      refine lv_goto (tgt := 13) hx hb d_MD_write_223 (by decide) ?_
                      exact ih1 (ls := ls) (hl := lv_sub hl [2, 3, 4, 0] rfl) (hn1 := by omega) (k := k + 1) (sb9 := sbd) (T9 := Td) (hkL := by omega) (hw9 := hwd) (hsb9 := hsbd) (hT := by rw [hfin, hT, stA_m (by omega)]) (hTlen := by omega) (H := H) (locs := locs) (hM := hM) (hS := hS) (N2 := N28) (f_md := f_md) (f_ro := f_ro) (f_te := f_te) (f_he := f_he) (f_cn := f_cn) (f_kd := f_kd) (f_sz := f_sz) (f_ky := f_ky) (f_le := f_le) (f_dg := f_dg) (f_nm := f_nm) (f_ns := f_ns) (f_sl := f_sl) (f_sb := f_sb) (f_su := f_su) (f_wi := f_wi) (f_tu := f_tu)
                    · exact absurd rfl h32
                · exact absurd rfl h31
              · refine lv_aload_n hx hb d_MD_write_129 rfl (lv_at hl 0 rfl) ?_
                refine lv_aload_n hx hb d_MD_write_130 rfl (lv_at hl 0 rfl) ?_
                refine hp_get S hK hM i_MD f_md rfl 12 (by decide) mf_MD_103 (fun _ h9 => h9) rfl d_MD_write_131 ?_
                refine lv_bipush (v := nI 64) hx hb d_MD_write_134 rfl ?_
                refine lv_iload hx hb d_MD_write_136 (lv_at hl 4 rfl) ?_
                refine nb_imul hx hb d_MD_write_138 ?_
                refine lv_iload hx hb d_MD_write_139 (lv_at hl 7 rfl) ?_
                refine nb_iadd hx hb d_MD_write_141 ?_
                refine hp_iald S hK hM 1 f_le rfl ((64 * (24 * j + q)) + i) rfl (by omega) (by omega) d_MD_write_142 ?_
                refine hp_callv (go_V S hZ hK hM hS hA hz (c_MD_put l D ct Z hZ _ _ md B (mkS (V.te) (V.cn) (V.kd) (V.sz) (V.ky) (V.le) (V.nm) (V.ns) (V.sl) sbd (V.he) (V.dg) (V.su) (V.wi) (V.tu) (V.co) (V.ty) (V.ac) (V.al) (V.sd) (Td.length)) hwd (V.le (64 * (24 * j + q) + i)) (b_le _) (by show Td.length < 3000; omega)) mc_MD_put mz_MD ml_MD_206 mi_MD_put mx_MD_put hd_MD_put rfl ⟨by decide, by decide⟩ f_md rfl rfl hl.1 rfl (Nat.le_of_ble_eq_true rfl) d_MD_write_143 ⟨by decide, by decide⟩) hM hS hA (fun M9 H locs h9 hM hS => ?_)
                obtain ⟨N33, eN33⟩ : ∃ z, z = M9 := ⟨_, rfl⟩
                rw [← eN33] at hM h9
                have hsbe := sb_put (k := V.le (64 * (24 * j + q) + i)) hsbd
                obtain ⟨sbe, esbe⟩ : ∃ z, z = va_up sbd Td.length (V.le (64 * (24 * j + q) + i)) := ⟨_, rfl⟩
                rw [← esbe] at hsbe
                obtain ⟨Te, eTe⟩ : ∃ z, z = Td ++ [V.le (64 * (24 * j + q) + i)] := ⟨_, rfl⟩
                rw [← eTe] at hsbe
                have hTle : Te.length = Td.length + 1 := by rw [eTe, List.length_append]; rfl
                have hwe : mdS ct N33 md B (mkS (V.te) (V.cn) (V.kd) (V.sz) (V.ky) (V.le) (V.nm) (V.ns) (V.sl) sbe (V.he) (V.dg) (V.su) (V.wi) (V.tu) (V.co) (V.ty) (V.ac) (V.al) (V.sd) (Te.length)) := by rw [hTle, esbe]; exact h9
                clear f_md f_ro f_te f_he f_cn f_kd f_sz f_ky f_le f_dg f_nm f_ns f_sl f_sb f_su f_wi f_tu
                obtain ⟨f_md, f_ro, f_te, f_he, f_cn, f_kd, f_sz, f_ky, f_le, f_dg, f_nm, f_ns, f_sl, f_sb, f_su, f_wi, f_tu, hB, hV⟩ := id hwe
                replace f_md : N33 md = some (.inr (6, [.ref B.ro, .int (nI (V.co)), .ref B.te, .int (nI (V.ty)), .int (nI (V.ac)), .int (nI (V.al)), .int (nI (V.sd)), .ref B.he, .ref B.cn, .ref B.kd, .ref B.sz, .ref B.ky, .ref B.le, .ref B.dg, .ref B.nm, .ref B.ns, .ref B.sl, .ref B.sb, .int (nI (Te.length)), .ref B.su, .ref B.wi, .ref B.tu])) := f_md
                replace f_ro : N33 B.ro = some (.inl (ct 1, 72, .inl roF)) := f_ro
                replace f_te : N33 B.te = some (.inl (ct 1, 64, .inl (nf V.te))) := f_te
                replace f_he : N33 B.he = some (.inl (ct 1, 8, .inl (V.he))) := f_he
                replace f_cn : N33 B.cn = some (.inl (ct 1, 12, .inl (nf V.cn))) := f_cn
                replace f_kd : N33 B.kd = some (.inl (ct 1, 288, .inl (nf V.kd))) := f_kd
                replace f_sz : N33 B.sz = some (.inl (ct 1, 288, .inl (nf V.sz))) := f_sz
                replace f_ky : N33 B.ky = some (.inl (ct 1, 288, .inl (nf V.ky))) := f_ky
                replace f_le : N33 B.le = some (.inl (ct 1, 18432, .inl (nf V.le))) := f_le
                replace f_dg : N33 B.dg = some (.inl (ct 1, 2304, .inl (V.dg))) := f_dg
                replace f_nm : N33 B.nm = some (.inl (ct 1, 128, .inl (nf V.nm))) := f_nm
                replace f_ns : N33 B.ns = some (.inl (ct 1, 8, .inl (nf V.ns))) := f_ns
                replace f_sl : N33 B.sl = some (.inl (ct 1, 16, .inl (nf V.sl))) := f_sl
                replace f_sb : N33 B.sb = some (.inl (ct 1, 3000, .inl (nf sbe))) := f_sb
                replace f_su : N33 B.su = some (.inl (ct 1, 8, .inl (V.su))) := f_su
                replace f_wi : N33 B.wi = some (.inl (ct 1, 64, .inl (V.wi))) := f_wi
                replace f_tu : N33 B.tu = some (.inl (ct 1, 8, .inl (V.tu))) := f_tu
                refine lv_iinc (v := nI (i + 1)) (lv' := [(7, .int (nI (i + 1))), (0, .ref md), (1, .int (nI j)), (2, .int (nI ((OO j).length))), (3, .int (nI k)), (4, .int (nI (24 * j + q))), (5, .int (nI 0)), (6, .int (nI ((V.sz (24 * j + q)) + 0)))]) hx hb d_MD_write_146 hl (k := 7) rfl (nI_add i 1) (by decide) rfl (fun ls hl => ?_)
                refine lv_goto (tgt := 117) hx hb d_MD_write_149 (by decide) ?_
                exact ih2 (ls := ls) (hl := lv_sub hl [1, 2, 3, 4, 5, 6, 7, 0] rfl) (hn2 := by omega) (i := i + 1) (sbd := sbe) (Td := Te) (hiL := by omega) (hwd := hwe) (hsbd := hsbe) (hTd := by rw [eTe, qle i (by omega)]; exact take_a (by omega) hTd) (hTdl := by omega) (H := H) (locs := locs) (hM := hM) (hS := hS) (N28 := N33) (f_md := f_md) (f_ro := f_ro) (f_te := f_te) (f_he := f_he) (f_cn := f_cn) (f_kd := f_kd) (f_sz := f_sz) (f_ky := f_ky) (f_le := f_le) (f_dg := f_dg) (f_nm := f_nm) (f_ns := f_ns) (f_sl := f_sl) (f_sb := f_sb) (f_su := f_su) (f_wi := f_wi) (f_tu := f_tu)
          · exact absurd rfl h24
      · refine lv_aload_n hx hb d_MD_write_26 rfl (lv_at hl 1 rfl) ?_
        refine hp_get S hK hM i_MD f_md rfl 9 (by decide) mf_MD_94 (fun _ h9 => h9) rfl d_MD_write_27 ?_
        refine lv_iload hx hb d_MD_write_30 (lv_at hl 0 rfl) ?_
        refine hp_iald S hK hM 1 f_kd rfl (24 * j + q) rfl (by omega) (by omega) d_MD_write_32 ?_
        refine lv_iconst (v := nI 1) hx hb d_MD_write_33 rfl ?_
        refine nb_eq (tgt := 48) hx hb d_MD_write_34 (by decide) (by have := b_kd ((24 * j + q)); omega) (by omega) (fun hk1 => ?_) (fun hk1 => ?_)
        · refine lv_iconst (v := nI 1) hx hb d_MD_write_48 rfl ?_
          refine lv_goto (tgt := 53) hx hb d_MD_write_49 (by decide) ?_
          exact hjv3 _ H _ hM hS (bo_t (by omega))
        · refine lv_aload_n hx hb d_MD_write_37 rfl (lv_at hl 1 rfl) ?_
          refine hp_get S hK hM i_MD f_md rfl 9 (by decide) mf_MD_94 (fun _ h9 => h9) rfl d_MD_write_38 ?_
          refine lv_iload hx hb d_MD_write_41 (lv_at hl 0 rfl) ?_
          refine hp_iald S hK hM 1 f_kd rfl (24 * j + q) rfl (by omega) (by omega) d_MD_write_43 ?_
          refine lv_iconst (v := nI 3) hx hb d_MD_write_44 rfl ?_
          refine nb_ne (tgt := 52) hx hb d_MD_write_45 (by decide) (by have := b_kd ((24 * j + q)); omega) (by omega) (fun hk3 => ?_) (fun hk3 => ?_)
          · refine lv_iconst (v := nI 0) hx hb d_MD_write_52 rfl ?_
            exact hjv3 _ H _ hM hS (bo_f (fun z => by omega))
          · refine lv_iconst (v := nI 1) hx hb d_MD_write_48 rfl ?_
            refine lv_goto (tgt := 53) hx hb d_MD_write_49 (by decide) ?_
            exact hjv3 _ H _ hM hS (bo_t (by omega))
set_option maxHeartbeats 4000000 in
set_option maxRecDepth 100000 in
/-- size(a) -/
theorem c_MD_size (l : Launch) (D : va_G) (ct : Nat → ClassId) (Z : hp_Z) (hZ : hp_Zok Z) (M : hp_M) (sz : Nat) (md : Nat) (B : MA) (V : MS) (hw : mdS ct M md B V) (LL : List (List MR)) (hLL : mdL V LL) (Al : List (List Nat)) (hnA : nmA V Al) (OO : Nat → List MR) (hOO : ∀ j, j < LL.length → ordL Al (LL.getD j []) (OO j)) (x : Int32) : Mi l y_MD_size b_MD_size 2 (some .int) 3 77 0 0 [.ref md, .int x] D ct Z M sz (fun r M1 => onM LL x r (fun j r => r = nI (stA ((OO j).map clR)).length) (-1) ∧ ∃ sb ss, mdS ct M1 md B (mkS (V.te) (V.cn) (V.kd) (V.sz) (V.ky) (V.le) (V.nm) (V.ns) (V.sl) sb (V.he) (V.dg) (V.su) (V.wi) (V.tu) 0 (V.ty) (V.ac) (V.al) (V.sd) ss)) := by
  refine hp_start (by decide) (Nat.le_of_ble_eq_true rfl) (fun p e s m below meth c ls S hret hlk hnm hsz hK hM hS hA hz hl => ?_)
  have hx := S.1
  have hb := S.2.1
  have hl : lv_has ls 2 [(0, .ref md), (1, .int x)] := hl
  obtain ⟨f_md, f_ro, f_te, f_he, f_cn, f_kd, f_sz, f_ky, f_le, f_dg, f_nm, f_ns, f_sl, f_sb, f_su, f_wi, f_tu, hB, hV⟩ := id hw
  obtain ⟨n_kdsz, n_kdky, n_szky, n_hens, n_hesu, n_hetu, n_nssu, n_nstu, n_sutu, n_tewi⟩ := id hB
  obtain ⟨b_te, b_cn, b_kd, b_sz, b_ky, b_le, b_nm, b_ns, b_sl, b_sb, b_co, b_ty, b_ac, b_al, b_sd, b_ss⟩ := id hV
  refine lv_aload_n hx hb d_MD_size_0 rfl (lv_at hl 0 rfl) ?_
  refine lv_iconst (v := nI 0) hx hb d_MD_size_1 rfl ?_
  refine hp_put (ty := .int) (fs' := [.ref B.ro, .int (nI 0), .ref B.te, .int (nI (V.ty)), .int (nI (V.ac)), .int (nI (V.al)), .int (nI (V.sd)), .ref B.he, .ref B.cn, .ref B.kd, .ref B.sz, .ref B.ky, .ref B.le, .ref B.dg, .ref B.nm, .ref B.ns, .ref B.sl, .ref B.sb, .int (nI (V.ss)), .ref B.su, .ref B.wi, .ref B.tu]) S hK hM hS i_MD t_MD to_MD n_MD f_md rfl 1 (by decide) mf_MD_137 (fun _ h9 => h9) rfl (by decide +kernel) rfl rfl (by simp) rfl d_MD_size_2 (fun H locs hM hS => ?_)
  have f_ro := hp_k (e := (.inr (6, [.ref B.ro, .int (nI 0), .ref B.te, .int (nI (V.ty)), .int (nI (V.ac)), .int (nI (V.al)), .int (nI (V.sd)), .ref B.he, .ref B.cn, .ref B.kd, .ref B.sz, .ref B.ky, .ref B.le, .ref B.dg, .ref B.nm, .ref B.ns, .ref B.sl, .ref B.sb, .int (nI (V.ss)), .ref B.su, .ref B.wi, .ref B.tu]))) (hp_ne f_ro f_md (by simp)) f_ro
  have f_te := hp_k (e := (.inr (6, [.ref B.ro, .int (nI 0), .ref B.te, .int (nI (V.ty)), .int (nI (V.ac)), .int (nI (V.al)), .int (nI (V.sd)), .ref B.he, .ref B.cn, .ref B.kd, .ref B.sz, .ref B.ky, .ref B.le, .ref B.dg, .ref B.nm, .ref B.ns, .ref B.sl, .ref B.sb, .int (nI (V.ss)), .ref B.su, .ref B.wi, .ref B.tu]))) (hp_ne f_te f_md (by simp)) f_te
  have f_he := hp_k (e := (.inr (6, [.ref B.ro, .int (nI 0), .ref B.te, .int (nI (V.ty)), .int (nI (V.ac)), .int (nI (V.al)), .int (nI (V.sd)), .ref B.he, .ref B.cn, .ref B.kd, .ref B.sz, .ref B.ky, .ref B.le, .ref B.dg, .ref B.nm, .ref B.ns, .ref B.sl, .ref B.sb, .int (nI (V.ss)), .ref B.su, .ref B.wi, .ref B.tu]))) (hp_ne f_he f_md (by simp)) f_he
  have f_cn := hp_k (e := (.inr (6, [.ref B.ro, .int (nI 0), .ref B.te, .int (nI (V.ty)), .int (nI (V.ac)), .int (nI (V.al)), .int (nI (V.sd)), .ref B.he, .ref B.cn, .ref B.kd, .ref B.sz, .ref B.ky, .ref B.le, .ref B.dg, .ref B.nm, .ref B.ns, .ref B.sl, .ref B.sb, .int (nI (V.ss)), .ref B.su, .ref B.wi, .ref B.tu]))) (hp_ne f_cn f_md (by simp)) f_cn
  have f_kd := hp_k (e := (.inr (6, [.ref B.ro, .int (nI 0), .ref B.te, .int (nI (V.ty)), .int (nI (V.ac)), .int (nI (V.al)), .int (nI (V.sd)), .ref B.he, .ref B.cn, .ref B.kd, .ref B.sz, .ref B.ky, .ref B.le, .ref B.dg, .ref B.nm, .ref B.ns, .ref B.sl, .ref B.sb, .int (nI (V.ss)), .ref B.su, .ref B.wi, .ref B.tu]))) (hp_ne f_kd f_md (by simp)) f_kd
  have f_sz := hp_k (e := (.inr (6, [.ref B.ro, .int (nI 0), .ref B.te, .int (nI (V.ty)), .int (nI (V.ac)), .int (nI (V.al)), .int (nI (V.sd)), .ref B.he, .ref B.cn, .ref B.kd, .ref B.sz, .ref B.ky, .ref B.le, .ref B.dg, .ref B.nm, .ref B.ns, .ref B.sl, .ref B.sb, .int (nI (V.ss)), .ref B.su, .ref B.wi, .ref B.tu]))) (hp_ne f_sz f_md (by simp)) f_sz
  have f_ky := hp_k (e := (.inr (6, [.ref B.ro, .int (nI 0), .ref B.te, .int (nI (V.ty)), .int (nI (V.ac)), .int (nI (V.al)), .int (nI (V.sd)), .ref B.he, .ref B.cn, .ref B.kd, .ref B.sz, .ref B.ky, .ref B.le, .ref B.dg, .ref B.nm, .ref B.ns, .ref B.sl, .ref B.sb, .int (nI (V.ss)), .ref B.su, .ref B.wi, .ref B.tu]))) (hp_ne f_ky f_md (by simp)) f_ky
  have f_le := hp_k (e := (.inr (6, [.ref B.ro, .int (nI 0), .ref B.te, .int (nI (V.ty)), .int (nI (V.ac)), .int (nI (V.al)), .int (nI (V.sd)), .ref B.he, .ref B.cn, .ref B.kd, .ref B.sz, .ref B.ky, .ref B.le, .ref B.dg, .ref B.nm, .ref B.ns, .ref B.sl, .ref B.sb, .int (nI (V.ss)), .ref B.su, .ref B.wi, .ref B.tu]))) (hp_ne f_le f_md (by simp)) f_le
  have f_dg := hp_k (e := (.inr (6, [.ref B.ro, .int (nI 0), .ref B.te, .int (nI (V.ty)), .int (nI (V.ac)), .int (nI (V.al)), .int (nI (V.sd)), .ref B.he, .ref B.cn, .ref B.kd, .ref B.sz, .ref B.ky, .ref B.le, .ref B.dg, .ref B.nm, .ref B.ns, .ref B.sl, .ref B.sb, .int (nI (V.ss)), .ref B.su, .ref B.wi, .ref B.tu]))) (hp_ne f_dg f_md (by simp)) f_dg
  have f_nm := hp_k (e := (.inr (6, [.ref B.ro, .int (nI 0), .ref B.te, .int (nI (V.ty)), .int (nI (V.ac)), .int (nI (V.al)), .int (nI (V.sd)), .ref B.he, .ref B.cn, .ref B.kd, .ref B.sz, .ref B.ky, .ref B.le, .ref B.dg, .ref B.nm, .ref B.ns, .ref B.sl, .ref B.sb, .int (nI (V.ss)), .ref B.su, .ref B.wi, .ref B.tu]))) (hp_ne f_nm f_md (by simp)) f_nm
  have f_ns := hp_k (e := (.inr (6, [.ref B.ro, .int (nI 0), .ref B.te, .int (nI (V.ty)), .int (nI (V.ac)), .int (nI (V.al)), .int (nI (V.sd)), .ref B.he, .ref B.cn, .ref B.kd, .ref B.sz, .ref B.ky, .ref B.le, .ref B.dg, .ref B.nm, .ref B.ns, .ref B.sl, .ref B.sb, .int (nI (V.ss)), .ref B.su, .ref B.wi, .ref B.tu]))) (hp_ne f_ns f_md (by simp)) f_ns
  have f_sl := hp_k (e := (.inr (6, [.ref B.ro, .int (nI 0), .ref B.te, .int (nI (V.ty)), .int (nI (V.ac)), .int (nI (V.al)), .int (nI (V.sd)), .ref B.he, .ref B.cn, .ref B.kd, .ref B.sz, .ref B.ky, .ref B.le, .ref B.dg, .ref B.nm, .ref B.ns, .ref B.sl, .ref B.sb, .int (nI (V.ss)), .ref B.su, .ref B.wi, .ref B.tu]))) (hp_ne f_sl f_md (by simp)) f_sl
  have f_sb := hp_k (e := (.inr (6, [.ref B.ro, .int (nI 0), .ref B.te, .int (nI (V.ty)), .int (nI (V.ac)), .int (nI (V.al)), .int (nI (V.sd)), .ref B.he, .ref B.cn, .ref B.kd, .ref B.sz, .ref B.ky, .ref B.le, .ref B.dg, .ref B.nm, .ref B.ns, .ref B.sl, .ref B.sb, .int (nI (V.ss)), .ref B.su, .ref B.wi, .ref B.tu]))) (hp_ne f_sb f_md (by simp)) f_sb
  have f_su := hp_k (e := (.inr (6, [.ref B.ro, .int (nI 0), .ref B.te, .int (nI (V.ty)), .int (nI (V.ac)), .int (nI (V.al)), .int (nI (V.sd)), .ref B.he, .ref B.cn, .ref B.kd, .ref B.sz, .ref B.ky, .ref B.le, .ref B.dg, .ref B.nm, .ref B.ns, .ref B.sl, .ref B.sb, .int (nI (V.ss)), .ref B.su, .ref B.wi, .ref B.tu]))) (hp_ne f_su f_md (by simp)) f_su
  have f_wi := hp_k (e := (.inr (6, [.ref B.ro, .int (nI 0), .ref B.te, .int (nI (V.ty)), .int (nI (V.ac)), .int (nI (V.al)), .int (nI (V.sd)), .ref B.he, .ref B.cn, .ref B.kd, .ref B.sz, .ref B.ky, .ref B.le, .ref B.dg, .ref B.nm, .ref B.ns, .ref B.sl, .ref B.sb, .int (nI (V.ss)), .ref B.su, .ref B.wi, .ref B.tu]))) (hp_ne f_wi f_md (by simp)) f_wi
  have f_tu := hp_k (e := (.inr (6, [.ref B.ro, .int (nI 0), .ref B.te, .int (nI (V.ty)), .int (nI (V.ac)), .int (nI (V.al)), .int (nI (V.sd)), .ref B.he, .ref B.cn, .ref B.kd, .ref B.sz, .ref B.ky, .ref B.le, .ref B.dg, .ref B.nm, .ref B.ns, .ref B.sl, .ref B.sb, .int (nI (V.ss)), .ref B.su, .ref B.wi, .ref B.tu]))) (hp_ne f_tu f_md (by simp)) f_tu
  have f_md : hp_up M md (.inr (6, [.ref B.ro, .int (nI 0), .ref B.te, .int (nI (V.ty)), .int (nI (V.ac)), .int (nI (V.al)), .int (nI (V.sd)), .ref B.he, .ref B.cn, .ref B.kd, .ref B.sz, .ref B.ky, .ref B.le, .ref B.dg, .ref B.nm, .ref B.ns, .ref B.sl, .ref B.sb, .int (nI (V.ss)), .ref B.su, .ref B.wi, .ref B.tu])) md = some (.inr (6, [.ref B.ro, .int (nI 0), .ref B.te, .int (nI (V.ty)), .int (nI (V.ac)), .int (nI (V.al)), .int (nI (V.sd)), .ref B.he, .ref B.cn, .ref B.kd, .ref B.sz, .ref B.ky, .ref B.le, .ref B.dg, .ref B.nm, .ref B.ns, .ref B.sl, .ref B.sb, .int (nI (V.ss)), .ref B.su, .ref B.wi, .ref B.tu])) := hp_us
  obtain ⟨M1, eM1⟩ : ∃ z, z = hp_up M md (.inr (6, [.ref B.ro, .int (nI 0), .ref B.te, .int (nI (V.ty)), .int (nI (V.ac)), .int (nI (V.al)), .int (nI (V.sd)), .ref B.he, .ref B.cn, .ref B.kd, .ref B.sz, .ref B.ky, .ref B.le, .ref B.dg, .ref B.nm, .ref B.ns, .ref B.sl, .ref B.sb, .int (nI (V.ss)), .ref B.su, .ref B.wi, .ref B.tu])) := ⟨_, rfl⟩
  rw [← eM1] at hM f_md f_ro f_te f_he f_cn f_kd f_sz f_ky f_le f_dg f_nm f_ns f_sl f_sb f_su f_wi f_tu
  have hw1 : mdS ct M1 md B (mkS (V.te) (V.cn) (V.kd) (V.sz) (V.ky) (V.le) (V.nm) (V.ns) (V.sl) (V.sb) (V.he) (V.dg) (V.su) (V.wi) (V.tu) 0 (V.ty) (V.ac) (V.al) (V.sd) (V.ss)) := ⟨f_md, f_ro, f_te, f_he, f_cn, f_kd, f_sz, f_ky, f_le, f_dg, f_nm, f_ns, f_sl, f_sb, f_su, f_wi, f_tu, hB, b_te, b_cn, b_kd, b_sz, b_ky, b_le, b_nm, b_ns, b_sl, b_sb, Nat.zero_le _, b_ty, b_ac, b_al, b_sd, b_ss⟩
  refine lv_aload_n hx hb d_MD_size_5 rfl (lv_at hl 0 rfl) ?_
  refine lv_iload_n hx hb d_MD_size_6 rfl (lv_at hl 1 rfl) ?_
  refine hp_calli (go_V S hZ hK hM hS hA hz (c_MD_isAction l D ct Z hZ _ _ md B (mkS (V.te) (V.cn) (V.kd) (V.sz) (V.ky) (V.le) (V.nm) (V.ns) (V.sl) (V.sb) (V.he) (V.dg) (V.su) (V.wi) (V.tu) 0 (V.ty) (V.ac) (V.al) (V.sd) (V.ss)) hw1 x) mc_MD_isAction mz_MD ml_MD_168 mi_MD_isAction mx_MD_isAction hd_MD_isAction rfl ⟨by decide, by decide⟩ f_md rfl rfl hl.1 rfl (Nat.le_of_ble_eq_true rfl) d_MD_size_7 ⟨by decide, by decide⟩) hM hS hA (fun r2 N3 H locs hr2 hM hS => ?_)
  rw [hr2.1] at hM
  replace hr2 := hr2.2
  refine nt_ne (tgt := 15) hx hb d_MD_size_10 (by decide) hr2 (fun hia => ?_) (fun hia => ?_)
  · obtain ⟨j, hj, ej⟩ := hia
    subst ej
    have hj : j < LL.length := by rw [← hLL.1]; exact hj
    obtain ⟨hcn, hL24, hLr⟩ := hLL.2.2.1 j hj
    have hj12 : j < 12 := Nat.lt_of_lt_of_le hj hLL.2.1
    refine lv_aload_n hx hb d_MD_size_15 rfl (lv_at hl 0 rfl) ?_
    refine lv_iload_n hx hb d_MD_size_16 rfl (lv_at hl 1 rfl) ?_
    refine hp_callv (go_V S hZ hK hM hS hA hz (c_MD_write l D ct Z hZ _ _ md B (mkS (V.te) (V.cn) (V.kd) (V.sz) (V.ky) (V.le) (V.nm) (V.ns) (V.sl) (V.sb) (V.he) (V.dg) (V.su) (V.wi) (V.tu) 0 (V.ty) (V.ac) (V.al) (V.sd) (V.ss)) hw1 LL hLL Al hnA OO hOO j hj) mc_MD_write mz_MD ml_MD_212 mi_MD_write mx_MD_write hd_MD_write rfl ⟨by decide, by decide⟩ f_md rfl rfl hl.1 rfl (Nat.le_of_ble_eq_true rfl) d_MD_size_17 ⟨by decide, by decide⟩) hM hS hA (fun M9 H locs h9 hM hS => ?_)
    obtain ⟨sb1, hw2, hsb1, hT25⟩ := h9
    obtain ⟨T1, eT1⟩ : ∃ z, z = stA ((OO j).map clR) := ⟨_, rfl⟩
    rw [← eT1] at hw2 hsb1 hT25
    clear f_md f_ro f_te f_he f_cn f_kd f_sz f_ky f_le f_dg f_nm f_ns f_sl f_sb f_su f_wi f_tu
    obtain ⟨f_md, f_ro, f_te, f_he, f_cn, f_kd, f_sz, f_ky, f_le, f_dg, f_nm, f_ns, f_sl, f_sb, f_su, f_wi, f_tu, hB, hV⟩ := id hw2
    replace f_md : M9 md = some (.inr (6, [.ref B.ro, .int (nI 0), .ref B.te, .int (nI (V.ty)), .int (nI (V.ac)), .int (nI (V.al)), .int (nI (V.sd)), .ref B.he, .ref B.cn, .ref B.kd, .ref B.sz, .ref B.ky, .ref B.le, .ref B.dg, .ref B.nm, .ref B.ns, .ref B.sl, .ref B.sb, .int (nI (T1.length)), .ref B.su, .ref B.wi, .ref B.tu])) := f_md
    replace f_ro : M9 B.ro = some (.inl (ct 1, 72, .inl roF)) := f_ro
    replace f_te : M9 B.te = some (.inl (ct 1, 64, .inl (nf V.te))) := f_te
    replace f_he : M9 B.he = some (.inl (ct 1, 8, .inl (V.he))) := f_he
    replace f_cn : M9 B.cn = some (.inl (ct 1, 12, .inl (nf V.cn))) := f_cn
    replace f_kd : M9 B.kd = some (.inl (ct 1, 288, .inl (nf V.kd))) := f_kd
    replace f_sz : M9 B.sz = some (.inl (ct 1, 288, .inl (nf V.sz))) := f_sz
    replace f_ky : M9 B.ky = some (.inl (ct 1, 288, .inl (nf V.ky))) := f_ky
    replace f_le : M9 B.le = some (.inl (ct 1, 18432, .inl (nf V.le))) := f_le
    replace f_dg : M9 B.dg = some (.inl (ct 1, 2304, .inl (V.dg))) := f_dg
    replace f_nm : M9 B.nm = some (.inl (ct 1, 128, .inl (nf V.nm))) := f_nm
    replace f_ns : M9 B.ns = some (.inl (ct 1, 8, .inl (nf V.ns))) := f_ns
    replace f_sl : M9 B.sl = some (.inl (ct 1, 16, .inl (nf V.sl))) := f_sl
    replace f_sb : M9 B.sb = some (.inl (ct 1, 3000, .inl (nf sb1))) := f_sb
    replace f_su : M9 B.su = some (.inl (ct 1, 8, .inl (V.su))) := f_su
    replace f_wi : M9 B.wi = some (.inl (ct 1, 64, .inl (V.wi))) := f_wi
    replace f_tu : M9 B.tu = some (.inl (ct 1, 8, .inl (V.tu))) := f_tu
    have hT13 : T1.length ≤ 3000 := hV.2.2.2.2.2.2.2.2.2.2.2.2.2.2.2
    have b_sb1 : ∀ i, sb1 i < 65536 := hV.2.2.2.2.2.2.2.2.2.1
    refine lv_aload_n hx hb d_MD_size_20 rfl (lv_at hl 0 rfl) ?_
    refine hp_get S hK hM i_MD f_md rfl 18 (by decide) mf_MD_203 (fun _ h9 => h9) rfl d_MD_size_21 ?_
    exact hp_iret S hret hlk (rfl) hM hS (⟨Or.inl ⟨j, hj, rfl, congrArg (fun z : List Nat => nI z.length) eT1⟩, sb1, T1.length, hw2⟩) d_MD_size_24
  · refine lv_iconst (v := -1) hx hb d_MD_size_13 (by decide) ?_
    exact hp_iret S hret hlk (rfl) hM hS (⟨Or.inr ⟨fun j hj e => hia ⟨j, by first | (rw [hLL.1]; exact hj) | (show j < V.ac; rw [hLL.1]; exact hj), e⟩, rfl⟩, V.sb, V.ss, hw1⟩) d_MD_size_14
set_option maxHeartbeats 4000000 in
set_option maxRecDepth 100000 in
/-- character(a, k) -/
theorem c_MD_character (l : Launch) (D : va_G) (ct : Nat → ClassId) (Z : hp_Z) (hZ : hp_Zok Z) (M : hp_M) (sz : Nat) (md : Nat) (B : MA) (V : MS) (hw : mdS ct M md B V) (LL : List (List MR)) (hLL : mdL V LL) (Al : List (List Nat)) (hnA : nmA V Al) (OO : Nat → List MR) (hOO : ∀ j, j < LL.length → ordL Al (LL.getD j []) (OO j)) (x k : Int32) : Mi l y_MD_character b_MD_character 3 (some .int) 3 77 0 0 [.ref md, .int x, .int k] D ct Z M sz (fun r M1 => onM LL x r (fun j r => onK (stA ((OO j).map clR)).length k r (fun q r => r = nI ((stA ((OO j).map clR)).getD q 0)) (-1)) (-1) ∧ ∃ sb ss, mdS ct M1 md B (mkS (V.te) (V.cn) (V.kd) (V.sz) (V.ky) (V.le) (V.nm) (V.ns) (V.sl) sb (V.he) (V.dg) (V.su) (V.wi) (V.tu) 0 (V.ty) (V.ac) (V.al) (V.sd) ss)) := by
  refine hp_start (by decide) (Nat.le_of_ble_eq_true rfl) (fun p e s m below meth c ls S hret hlk hnm hsz hK hM hS hA hz hl => ?_)
  have hx := S.1
  have hb := S.2.1
  have hl : lv_has ls 3 [(0, .ref md), (1, .int x), (2, .int k)] := hl
  obtain ⟨f_md, f_ro, f_te, f_he, f_cn, f_kd, f_sz, f_ky, f_le, f_dg, f_nm, f_ns, f_sl, f_sb, f_su, f_wi, f_tu, hB, hV⟩ := id hw
  obtain ⟨n_kdsz, n_kdky, n_szky, n_hens, n_hesu, n_hetu, n_nssu, n_nstu, n_sutu, n_tewi⟩ := id hB
  obtain ⟨b_te, b_cn, b_kd, b_sz, b_ky, b_le, b_nm, b_ns, b_sl, b_sb, b_co, b_ty, b_ac, b_al, b_sd, b_ss⟩ := id hV
  refine lv_aload_n hx hb d_MD_character_0 rfl (lv_at hl 0 rfl) ?_
  refine lv_iconst (v := nI 0) hx hb d_MD_character_1 rfl ?_
  refine hp_put (ty := .int) (fs' := [.ref B.ro, .int (nI 0), .ref B.te, .int (nI (V.ty)), .int (nI (V.ac)), .int (nI (V.al)), .int (nI (V.sd)), .ref B.he, .ref B.cn, .ref B.kd, .ref B.sz, .ref B.ky, .ref B.le, .ref B.dg, .ref B.nm, .ref B.ns, .ref B.sl, .ref B.sb, .int (nI (V.ss)), .ref B.su, .ref B.wi, .ref B.tu]) S hK hM hS i_MD t_MD to_MD n_MD f_md rfl 1 (by decide) mf_MD_137 (fun _ h9 => h9) rfl (by decide +kernel) rfl rfl (by simp) rfl d_MD_character_2 (fun H locs hM hS => ?_)
  have f_ro := hp_k (e := (.inr (6, [.ref B.ro, .int (nI 0), .ref B.te, .int (nI (V.ty)), .int (nI (V.ac)), .int (nI (V.al)), .int (nI (V.sd)), .ref B.he, .ref B.cn, .ref B.kd, .ref B.sz, .ref B.ky, .ref B.le, .ref B.dg, .ref B.nm, .ref B.ns, .ref B.sl, .ref B.sb, .int (nI (V.ss)), .ref B.su, .ref B.wi, .ref B.tu]))) (hp_ne f_ro f_md (by simp)) f_ro
  have f_te := hp_k (e := (.inr (6, [.ref B.ro, .int (nI 0), .ref B.te, .int (nI (V.ty)), .int (nI (V.ac)), .int (nI (V.al)), .int (nI (V.sd)), .ref B.he, .ref B.cn, .ref B.kd, .ref B.sz, .ref B.ky, .ref B.le, .ref B.dg, .ref B.nm, .ref B.ns, .ref B.sl, .ref B.sb, .int (nI (V.ss)), .ref B.su, .ref B.wi, .ref B.tu]))) (hp_ne f_te f_md (by simp)) f_te
  have f_he := hp_k (e := (.inr (6, [.ref B.ro, .int (nI 0), .ref B.te, .int (nI (V.ty)), .int (nI (V.ac)), .int (nI (V.al)), .int (nI (V.sd)), .ref B.he, .ref B.cn, .ref B.kd, .ref B.sz, .ref B.ky, .ref B.le, .ref B.dg, .ref B.nm, .ref B.ns, .ref B.sl, .ref B.sb, .int (nI (V.ss)), .ref B.su, .ref B.wi, .ref B.tu]))) (hp_ne f_he f_md (by simp)) f_he
  have f_cn := hp_k (e := (.inr (6, [.ref B.ro, .int (nI 0), .ref B.te, .int (nI (V.ty)), .int (nI (V.ac)), .int (nI (V.al)), .int (nI (V.sd)), .ref B.he, .ref B.cn, .ref B.kd, .ref B.sz, .ref B.ky, .ref B.le, .ref B.dg, .ref B.nm, .ref B.ns, .ref B.sl, .ref B.sb, .int (nI (V.ss)), .ref B.su, .ref B.wi, .ref B.tu]))) (hp_ne f_cn f_md (by simp)) f_cn
  have f_kd := hp_k (e := (.inr (6, [.ref B.ro, .int (nI 0), .ref B.te, .int (nI (V.ty)), .int (nI (V.ac)), .int (nI (V.al)), .int (nI (V.sd)), .ref B.he, .ref B.cn, .ref B.kd, .ref B.sz, .ref B.ky, .ref B.le, .ref B.dg, .ref B.nm, .ref B.ns, .ref B.sl, .ref B.sb, .int (nI (V.ss)), .ref B.su, .ref B.wi, .ref B.tu]))) (hp_ne f_kd f_md (by simp)) f_kd
  have f_sz := hp_k (e := (.inr (6, [.ref B.ro, .int (nI 0), .ref B.te, .int (nI (V.ty)), .int (nI (V.ac)), .int (nI (V.al)), .int (nI (V.sd)), .ref B.he, .ref B.cn, .ref B.kd, .ref B.sz, .ref B.ky, .ref B.le, .ref B.dg, .ref B.nm, .ref B.ns, .ref B.sl, .ref B.sb, .int (nI (V.ss)), .ref B.su, .ref B.wi, .ref B.tu]))) (hp_ne f_sz f_md (by simp)) f_sz
  have f_ky := hp_k (e := (.inr (6, [.ref B.ro, .int (nI 0), .ref B.te, .int (nI (V.ty)), .int (nI (V.ac)), .int (nI (V.al)), .int (nI (V.sd)), .ref B.he, .ref B.cn, .ref B.kd, .ref B.sz, .ref B.ky, .ref B.le, .ref B.dg, .ref B.nm, .ref B.ns, .ref B.sl, .ref B.sb, .int (nI (V.ss)), .ref B.su, .ref B.wi, .ref B.tu]))) (hp_ne f_ky f_md (by simp)) f_ky
  have f_le := hp_k (e := (.inr (6, [.ref B.ro, .int (nI 0), .ref B.te, .int (nI (V.ty)), .int (nI (V.ac)), .int (nI (V.al)), .int (nI (V.sd)), .ref B.he, .ref B.cn, .ref B.kd, .ref B.sz, .ref B.ky, .ref B.le, .ref B.dg, .ref B.nm, .ref B.ns, .ref B.sl, .ref B.sb, .int (nI (V.ss)), .ref B.su, .ref B.wi, .ref B.tu]))) (hp_ne f_le f_md (by simp)) f_le
  have f_dg := hp_k (e := (.inr (6, [.ref B.ro, .int (nI 0), .ref B.te, .int (nI (V.ty)), .int (nI (V.ac)), .int (nI (V.al)), .int (nI (V.sd)), .ref B.he, .ref B.cn, .ref B.kd, .ref B.sz, .ref B.ky, .ref B.le, .ref B.dg, .ref B.nm, .ref B.ns, .ref B.sl, .ref B.sb, .int (nI (V.ss)), .ref B.su, .ref B.wi, .ref B.tu]))) (hp_ne f_dg f_md (by simp)) f_dg
  have f_nm := hp_k (e := (.inr (6, [.ref B.ro, .int (nI 0), .ref B.te, .int (nI (V.ty)), .int (nI (V.ac)), .int (nI (V.al)), .int (nI (V.sd)), .ref B.he, .ref B.cn, .ref B.kd, .ref B.sz, .ref B.ky, .ref B.le, .ref B.dg, .ref B.nm, .ref B.ns, .ref B.sl, .ref B.sb, .int (nI (V.ss)), .ref B.su, .ref B.wi, .ref B.tu]))) (hp_ne f_nm f_md (by simp)) f_nm
  have f_ns := hp_k (e := (.inr (6, [.ref B.ro, .int (nI 0), .ref B.te, .int (nI (V.ty)), .int (nI (V.ac)), .int (nI (V.al)), .int (nI (V.sd)), .ref B.he, .ref B.cn, .ref B.kd, .ref B.sz, .ref B.ky, .ref B.le, .ref B.dg, .ref B.nm, .ref B.ns, .ref B.sl, .ref B.sb, .int (nI (V.ss)), .ref B.su, .ref B.wi, .ref B.tu]))) (hp_ne f_ns f_md (by simp)) f_ns
  have f_sl := hp_k (e := (.inr (6, [.ref B.ro, .int (nI 0), .ref B.te, .int (nI (V.ty)), .int (nI (V.ac)), .int (nI (V.al)), .int (nI (V.sd)), .ref B.he, .ref B.cn, .ref B.kd, .ref B.sz, .ref B.ky, .ref B.le, .ref B.dg, .ref B.nm, .ref B.ns, .ref B.sl, .ref B.sb, .int (nI (V.ss)), .ref B.su, .ref B.wi, .ref B.tu]))) (hp_ne f_sl f_md (by simp)) f_sl
  have f_sb := hp_k (e := (.inr (6, [.ref B.ro, .int (nI 0), .ref B.te, .int (nI (V.ty)), .int (nI (V.ac)), .int (nI (V.al)), .int (nI (V.sd)), .ref B.he, .ref B.cn, .ref B.kd, .ref B.sz, .ref B.ky, .ref B.le, .ref B.dg, .ref B.nm, .ref B.ns, .ref B.sl, .ref B.sb, .int (nI (V.ss)), .ref B.su, .ref B.wi, .ref B.tu]))) (hp_ne f_sb f_md (by simp)) f_sb
  have f_su := hp_k (e := (.inr (6, [.ref B.ro, .int (nI 0), .ref B.te, .int (nI (V.ty)), .int (nI (V.ac)), .int (nI (V.al)), .int (nI (V.sd)), .ref B.he, .ref B.cn, .ref B.kd, .ref B.sz, .ref B.ky, .ref B.le, .ref B.dg, .ref B.nm, .ref B.ns, .ref B.sl, .ref B.sb, .int (nI (V.ss)), .ref B.su, .ref B.wi, .ref B.tu]))) (hp_ne f_su f_md (by simp)) f_su
  have f_wi := hp_k (e := (.inr (6, [.ref B.ro, .int (nI 0), .ref B.te, .int (nI (V.ty)), .int (nI (V.ac)), .int (nI (V.al)), .int (nI (V.sd)), .ref B.he, .ref B.cn, .ref B.kd, .ref B.sz, .ref B.ky, .ref B.le, .ref B.dg, .ref B.nm, .ref B.ns, .ref B.sl, .ref B.sb, .int (nI (V.ss)), .ref B.su, .ref B.wi, .ref B.tu]))) (hp_ne f_wi f_md (by simp)) f_wi
  have f_tu := hp_k (e := (.inr (6, [.ref B.ro, .int (nI 0), .ref B.te, .int (nI (V.ty)), .int (nI (V.ac)), .int (nI (V.al)), .int (nI (V.sd)), .ref B.he, .ref B.cn, .ref B.kd, .ref B.sz, .ref B.ky, .ref B.le, .ref B.dg, .ref B.nm, .ref B.ns, .ref B.sl, .ref B.sb, .int (nI (V.ss)), .ref B.su, .ref B.wi, .ref B.tu]))) (hp_ne f_tu f_md (by simp)) f_tu
  have f_md : hp_up M md (.inr (6, [.ref B.ro, .int (nI 0), .ref B.te, .int (nI (V.ty)), .int (nI (V.ac)), .int (nI (V.al)), .int (nI (V.sd)), .ref B.he, .ref B.cn, .ref B.kd, .ref B.sz, .ref B.ky, .ref B.le, .ref B.dg, .ref B.nm, .ref B.ns, .ref B.sl, .ref B.sb, .int (nI (V.ss)), .ref B.su, .ref B.wi, .ref B.tu])) md = some (.inr (6, [.ref B.ro, .int (nI 0), .ref B.te, .int (nI (V.ty)), .int (nI (V.ac)), .int (nI (V.al)), .int (nI (V.sd)), .ref B.he, .ref B.cn, .ref B.kd, .ref B.sz, .ref B.ky, .ref B.le, .ref B.dg, .ref B.nm, .ref B.ns, .ref B.sl, .ref B.sb, .int (nI (V.ss)), .ref B.su, .ref B.wi, .ref B.tu])) := hp_us
  obtain ⟨M1, eM1⟩ : ∃ z, z = hp_up M md (.inr (6, [.ref B.ro, .int (nI 0), .ref B.te, .int (nI (V.ty)), .int (nI (V.ac)), .int (nI (V.al)), .int (nI (V.sd)), .ref B.he, .ref B.cn, .ref B.kd, .ref B.sz, .ref B.ky, .ref B.le, .ref B.dg, .ref B.nm, .ref B.ns, .ref B.sl, .ref B.sb, .int (nI (V.ss)), .ref B.su, .ref B.wi, .ref B.tu])) := ⟨_, rfl⟩
  rw [← eM1] at hM f_md f_ro f_te f_he f_cn f_kd f_sz f_ky f_le f_dg f_nm f_ns f_sl f_sb f_su f_wi f_tu
  have hw1 : mdS ct M1 md B (mkS (V.te) (V.cn) (V.kd) (V.sz) (V.ky) (V.le) (V.nm) (V.ns) (V.sl) (V.sb) (V.he) (V.dg) (V.su) (V.wi) (V.tu) 0 (V.ty) (V.ac) (V.al) (V.sd) (V.ss)) := ⟨f_md, f_ro, f_te, f_he, f_cn, f_kd, f_sz, f_ky, f_le, f_dg, f_nm, f_ns, f_sl, f_sb, f_su, f_wi, f_tu, hB, b_te, b_cn, b_kd, b_sz, b_ky, b_le, b_nm, b_ns, b_sl, b_sb, Nat.zero_le _, b_ty, b_ac, b_al, b_sd, b_ss⟩
  refine lv_aload_n hx hb d_MD_character_5 rfl (lv_at hl 0 rfl) ?_
  refine lv_iload_n hx hb d_MD_character_6 rfl (lv_at hl 1 rfl) ?_
  refine hp_calli (go_V S hZ hK hM hS hA hz (c_MD_isAction l D ct Z hZ _ _ md B (mkS (V.te) (V.cn) (V.kd) (V.sz) (V.ky) (V.le) (V.nm) (V.ns) (V.sl) (V.sb) (V.he) (V.dg) (V.su) (V.wi) (V.tu) 0 (V.ty) (V.ac) (V.al) (V.sd) (V.ss)) hw1 x) mc_MD_isAction mz_MD ml_MD_168 mi_MD_isAction mx_MD_isAction hd_MD_isAction rfl ⟨by decide, by decide⟩ f_md rfl rfl hl.1 rfl (Nat.le_of_ble_eq_true rfl) d_MD_character_7 ⟨by decide, by decide⟩) hM hS hA (fun r2 N3 H locs hr2 hM hS => ?_)
  rw [hr2.1] at hM
  replace hr2 := hr2.2
  refine nt_ne (tgt := 15) hx hb d_MD_character_10 (by decide) hr2 (fun hia => ?_) (fun hia => ?_)
  · obtain ⟨j, hj, ej⟩ := hia
    subst ej
    have hj : j < LL.length := by rw [← hLL.1]; exact hj
    obtain ⟨hcn, hL24, hLr⟩ := hLL.2.2.1 j hj
    have hj12 : j < 12 := Nat.lt_of_lt_of_le hj hLL.2.1
    refine lv_aload_n hx hb d_MD_character_15 rfl (lv_at hl 0 rfl) ?_
    refine lv_iload_n hx hb d_MD_character_16 rfl (lv_at hl 1 rfl) ?_
    refine hp_callv (go_V S hZ hK hM hS hA hz (c_MD_write l D ct Z hZ _ _ md B (mkS (V.te) (V.cn) (V.kd) (V.sz) (V.ky) (V.le) (V.nm) (V.ns) (V.sl) (V.sb) (V.he) (V.dg) (V.su) (V.wi) (V.tu) 0 (V.ty) (V.ac) (V.al) (V.sd) (V.ss)) hw1 LL hLL Al hnA OO hOO j hj) mc_MD_write mz_MD ml_MD_212 mi_MD_write mx_MD_write hd_MD_write rfl ⟨by decide, by decide⟩ f_md rfl rfl hl.1 rfl (Nat.le_of_ble_eq_true rfl) d_MD_character_17 ⟨by decide, by decide⟩) hM hS hA (fun M9 H locs h9 hM hS => ?_)
    obtain ⟨sb1, hw2, hsb1, hT25⟩ := h9
    obtain ⟨T1, eT1⟩ : ∃ z, z = stA ((OO j).map clR) := ⟨_, rfl⟩
    rw [← eT1] at hw2 hsb1 hT25
    clear f_md f_ro f_te f_he f_cn f_kd f_sz f_ky f_le f_dg f_nm f_ns f_sl f_sb f_su f_wi f_tu
    obtain ⟨f_md, f_ro, f_te, f_he, f_cn, f_kd, f_sz, f_ky, f_le, f_dg, f_nm, f_ns, f_sl, f_sb, f_su, f_wi, f_tu, hB, hV⟩ := id hw2
    replace f_md : M9 md = some (.inr (6, [.ref B.ro, .int (nI 0), .ref B.te, .int (nI (V.ty)), .int (nI (V.ac)), .int (nI (V.al)), .int (nI (V.sd)), .ref B.he, .ref B.cn, .ref B.kd, .ref B.sz, .ref B.ky, .ref B.le, .ref B.dg, .ref B.nm, .ref B.ns, .ref B.sl, .ref B.sb, .int (nI (T1.length)), .ref B.su, .ref B.wi, .ref B.tu])) := f_md
    replace f_ro : M9 B.ro = some (.inl (ct 1, 72, .inl roF)) := f_ro
    replace f_te : M9 B.te = some (.inl (ct 1, 64, .inl (nf V.te))) := f_te
    replace f_he : M9 B.he = some (.inl (ct 1, 8, .inl (V.he))) := f_he
    replace f_cn : M9 B.cn = some (.inl (ct 1, 12, .inl (nf V.cn))) := f_cn
    replace f_kd : M9 B.kd = some (.inl (ct 1, 288, .inl (nf V.kd))) := f_kd
    replace f_sz : M9 B.sz = some (.inl (ct 1, 288, .inl (nf V.sz))) := f_sz
    replace f_ky : M9 B.ky = some (.inl (ct 1, 288, .inl (nf V.ky))) := f_ky
    replace f_le : M9 B.le = some (.inl (ct 1, 18432, .inl (nf V.le))) := f_le
    replace f_dg : M9 B.dg = some (.inl (ct 1, 2304, .inl (V.dg))) := f_dg
    replace f_nm : M9 B.nm = some (.inl (ct 1, 128, .inl (nf V.nm))) := f_nm
    replace f_ns : M9 B.ns = some (.inl (ct 1, 8, .inl (nf V.ns))) := f_ns
    replace f_sl : M9 B.sl = some (.inl (ct 1, 16, .inl (nf V.sl))) := f_sl
    replace f_sb : M9 B.sb = some (.inl (ct 1, 3000, .inl (nf sb1))) := f_sb
    replace f_su : M9 B.su = some (.inl (ct 1, 8, .inl (V.su))) := f_su
    replace f_wi : M9 B.wi = some (.inl (ct 1, 64, .inl (V.wi))) := f_wi
    replace f_tu : M9 B.tu = some (.inl (ct 1, 8, .inl (V.tu))) := f_tu
    have hT13 : T1.length ≤ 3000 := hV.2.2.2.2.2.2.2.2.2.2.2.2.2.2.2
    have b_sb1 : ∀ i, sb1 i < 65536 := hV.2.2.2.2.2.2.2.2.2.1
    refine lv_iload_n hx hb d_MD_character_20 rfl (lv_at hl 2 rfl) ?_
    refine lv_if_lt (tgt := 32) hx hb d_MD_character_21 (by decide) (fun hk0 => ?_) (fun hk0 => ?_)
    · refine lv_iconst (v := -1) hx hb d_MD_character_32 (by decide) ?_
      refine lv_goto (tgt := 42) hx hb d_MD_character_33 (by decide) ?_
      exact hp_iret S hret hlk (rfl) hM hS (⟨Or.inl ⟨j, hj, rfl, Or.inr ⟨fun q hq e => by rw [← eT1] at hq; subst e; first | exact nI_pos (by omega) hk0 | exact hkn ((nI_ltI (by omega) (by omega)).mpr hq), rfl⟩⟩, sb1, T1.length, hw2⟩) d_MD_character_42
    · refine lv_iload_n hx hb d_MD_character_24 rfl (lv_at hl 2 rfl) ?_
      refine lv_aload_n hx hb d_MD_character_25 rfl (lv_at hl 0 rfl) ?_
      refine hp_get S hK hM i_MD f_md rfl 18 (by decide) mf_MD_203 (fun _ h9 => h9) rfl d_MD_character_26 ?_
      refine lv_icmp_lt (tgt := 36) hx hb d_MD_character_29 (by decide) (fun hkn => ?_) (fun hkn => ?_)
      · obtain ⟨k1, hk1, ek⟩ := nI_of hk0
        subst ek
        have hk2 : k1 < T1.length := (nI_ltI hk1 (by omega)).mp hkn
        refine lv_aload_n hx hb d_MD_character_36 rfl (lv_at hl 0 rfl) ?_
        refine hp_get S hK hM i_MD f_md rfl 17 (by decide) mf_MD_118 (fun _ h9 => h9) rfl d_MD_character_37 ?_
        refine lv_iload_n hx hb d_MD_character_40 rfl (lv_at hl 2 rfl) ?_
        refine hp_iald S hK hM 1 f_sb rfl k1 rfl (by omega) (by omega) d_MD_character_41 ?_
        exact hp_iret S hret hlk (rfl) hM hS (⟨Or.inl ⟨j, hj, rfl, Or.inl ⟨k1, by rw [← eT1]; exact hk2, rfl, by rw [← eT1]; exact congrArg nI (hsb1 k1 hk2)⟩⟩, sb1, T1.length, hw2⟩) d_MD_character_42
      · refine lv_iconst (v := -1) hx hb d_MD_character_32 (by decide) ?_
        refine lv_goto (tgt := 42) hx hb d_MD_character_33 (by decide) ?_
        exact hp_iret S hret hlk (rfl) hM hS (⟨Or.inl ⟨j, hj, rfl, Or.inr ⟨fun q hq e => by rw [← eT1] at hq; subst e; first | exact nI_pos (by omega) hk0 | exact hkn ((nI_ltI (by omega) (by omega)).mpr hq), rfl⟩⟩, sb1, T1.length, hw2⟩) d_MD_character_42
  · refine lv_iconst (v := -1) hx hb d_MD_character_13 (by decide) ?_
    exact hp_iret S hret hlk (rfl) hM hS (⟨Or.inr ⟨fun j hj e => hia ⟨j, by first | (rw [hLL.1]; exact hj) | (show j < V.ac; rw [hLL.1]; exact hj), e⟩, rfl⟩, V.sb, V.ss, hw1⟩) d_MD_character_14
