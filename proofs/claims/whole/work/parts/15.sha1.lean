/-! SHA-256: the tables, words, rounds -/
def kF (i : Nat) : Int32 := ([1116352408, 1899447441, -1245643825, -373957723, 961987163, 1508970993, -1841331548, -1424204075, -670586216, 310598401, 607225278, 1426881987, 1925078388, -2132889090, -1680079193, -1046744716, -459576895, -272742522, 264347078, 604807628, 770255983, 1249150122, 1555081692, 1996064986, -1740746414, -1473132947, -1341970488, -1084653625, -958395405, -710438585, 113926993, 338241895, 666307205, 773529912, 1294757372, 1396182291, 1695183700, 1986661051, -2117940946, -1838011259, -1564481375, -1474664885, -1035236496, -949202525, -778901479, -694614492, -200395387, 275423344, 430227734, 506948616, 659060556, 883997877, 958139571, 1322822218, 1537002063, 1747873779, 1955562222, 2024104815, -2067236844, -1933114872, -1866530822, -1538233109, -1090935817, -965641998] : List Int32).getD i 0
def hF (i : Nat) : Int32 := ([1779033703, -1150833019, 1013904242, -1521486534, 1359893119, -1694144372, 528734635, 1541459225] : List Int32).getD i 0
def zK (Z : hp_Z) (tk : Nat) : Prop := ∀ (A : Nat → Prop) (U : State) (H : Heap), Z A U H → va_Z "ActionDigests" "ROUND_CONSTANTS" "[I" (.ref tk) A U H ∧ va_T .int tk 64 (fun i => .int (kF i)) A U H ∧ va_Nw (.fieldLinkNest "ActionDigests$Sha" 47 "ActionDigests" "ROUND_CONSTANTS" "[I" "ActionDigests") U
def zH (Z : hp_Z) (th : Nat) : Prop := ∀ (A : Nat → Prop) (U : State) (H : Heap), Z A U H → va_Z "ActionDigests" "FIRST_SUMS" "[I" (.ref th) A U H ∧ va_T .int th 8 (fun i => .int (hF i)) A U H ∧ va_Nw (.fieldLinkNest "ActionDigests$Sha" 26 "ActionDigests" "FIRST_SUMS" "[I" "ActionDigests") U
theorem shr2 {n : Nat} (h : n < 2 ^ 31) : nI n >>> (nI 2 &&& 31) = nI (n / 4) := pk_shrN h _ 2 (by decide)
theorem shr3 {n : Nat} (h : n < 2 ^ 31) : nI n >>> (nI 3 &&& 31) = nI (n / 8) := pk_shrN h _ 3 (by decide)
theorem and7 {n : Nat} (h : n < 2 ^ 32) : nI n &&& nI 7 = nI (n % 8) := pk_andN h 3 (by decide)
theorem and15 {n : Nat} (h : n < 2 ^ 32) : nI n &&& nI 15 = nI (n % 16) := pk_andN h 4 (by decide)
theorem i2c_nI {n : Nat} (h : n < 65536) : ((nI n).toUInt32 % 65536).toInt32 = nI n := by
  rw [pk_char, pk_tn (by omega), Nat.mod_eq_of_lt h]
/-- a number's digit of sixteen -/
def nibN (x : Int32) (k : Nat) : Nat := x.toBitVec.toNat / 2 ^ k % 16
theorem nib_eq (x : Int32) {k : Nat} (hk : k < 32) : (x.toUInt32 >>> ((nI k).toUInt32 &&& Int32.toUInt32 31)).toInt32 &&& nI 15 = nI (nibN x k) := by
  have hs : ∀ k, k < 32 → (((nI k).toUInt32 &&& Int32.toUInt32 31).toBitVec % 32).toNat = k := by decide
  rw [pk_and _ (m := nI 15) 4 (by decide), pk_ushr x (nI k) k (hs k hk)]
  rfl
/-- turned right -/
def tr (x : Int32) (b : Nat) : Int32 := (Int32.toUInt32 x >>> (Int32.toUInt32 (nI b) &&& Int32.toUInt32 31)).toInt32 ||| (x <<< (nI (32 - b) &&& 31))
def us (x : Int32) (b : Nat) : Int32 := (Int32.toUInt32 x >>> (Int32.toUInt32 (nI b) &&& Int32.toUInt32 31)).toInt32
/-- one more word -/
def spj (w : Nat → Int32) (j : Nat) : Nat → Int32 := upd w j ((((tr (w (j - 2)) 17 ^^^ tr (w (j - 2)) 19) ^^^ us (w (j - 2)) 10) + w (j - 7)) + ((tr (w (j - 15)) 7 ^^^ tr (w (j - 15)) 18) ^^^ us (w (j - 15)) 3) + w (j - 16))
def spw (w : Nat → Int32) : Nat → Nat → Int32
  | 0 => w
  | k + 1 => spj (spw w k) (16 + k)
/-- a round -/
def rnX (k w : Int32) (v : Nat → Int32) : Int32 := (((v 7 + ((tr (v 4) 6 ^^^ tr (v 4) 11) ^^^ tr (v 4) 25)) + ((v 4 &&& v 5) ^^^ ((v 4 ^^^ (-1)) &&& v 6))) + k) + w
def rnY (v : Nat → Int32) : Int32 := ((tr (v 0) 2 ^^^ tr (v 0) 13) ^^^ tr (v 0) 22) + (((v 0 &&& v 1) ^^^ (v 0 &&& v 2)) ^^^ (v 1 &&& v 2))
def rnd (k w : Int32) (v : Nat → Int32) : Nat → Int32
  | 0 => rnX k w v + rnY v
  | 1 => v 0
  | 2 => v 1
  | 3 => v 2
  | 4 => v 3 + rnX k w v
  | 5 => v 4
  | 6 => v 5
  | _ => v 6
def mixn (w : Nat → Int32) (v : Nat → Int32) : Nat → Nat → Int32
  | 0 => v
  | t + 1 => rnd (kF t) (w t) (mixn w v t)
def ad1 (v : Nat → Int32) (k : Nat) (s : Nat → Int32) : Nat → Int32 := upd s k (s k + v k)
def adds (v s : Nat → Int32) : Nat → Int32 := ad1 v 7 (ad1 v 6 (ad1 v 5 (ad1 v 4 (ad1 v 3 (ad1 v 2 (ad1 v 1 (ad1 v 0 s)))))))
/-- a Sha's state: sums, words, how many bytes of a block, how many in all -/
abbrev ShT : Type := (Nat → Int32) × (Nat → Int32) × Nat × Int64
def shM (ct : Nat → ClassId) (M : hp_M) (sh su wo : Nat) (Y : ShT) : hp_M := hp_up (hp_up (hp_up M su (.inl (ct 1, 8, .inl Y.1))) wo (.inl (ct 1, 64, .inl Y.2.1))) sh (.inr (2, [.ref su, .ref wo, .int (nI Y.2.2.1), .long Y.2.2.2]))
def shOk (ct : Nat → ClassId) (M : hp_M) (sh su wo : Nat) (Y : ShT) : Prop := M su = some (.inl (ct 1, 8, .inl Y.1)) ∧ M wo = some (.inl (ct 1, 64, .inl Y.2.1)) ∧ M sh = some (.inr (2, [.ref su, .ref wo, .int (nI Y.2.2.1), .long Y.2.2.2])) ∧ Y.2.2.1 ≤ 64
theorem shM_ne {ct : Nat → ClassId} {M : hp_M} {sh su wo : Nat} {Y : ShT} (h : shOk ct M sh su wo Y) : su ≠ wo ∧ su ≠ sh ∧ wo ≠ sh := ⟨hp_ne h.1 h.2.1 (by simp), hp_ne h.1 h.2.2.1 (by simp), hp_ne h.2.1 h.2.2.1 (by simp)⟩
theorem shM_uu {ct : Nat → ClassId} {M : hp_M} {sh su wo : Nat} {Y X : ShT} : shM ct (shM ct M sh su wo Y) sh su wo X = shM ct M sh su wo X := by
  funext q
  unfold shM hp_up
  by_cases h1 : q = sh
  · simp only [if_pos h1]
  · by_cases h2 : q = wo
    · simp only [if_neg h1, if_pos h2]
    · by_cases h3 : q = su
      · simp only [if_neg h1, if_neg h2, if_pos h3]
      · simp only [if_neg h1, if_neg h2, if_neg h3]
theorem shM_self {ct : Nat → ClassId} {M : hp_M} {sh su wo : Nat} {Y : ShT} (h : shOk ct M sh su wo Y) : shM ct M sh su wo Y = M := by
  unfold shM
  rw [hp_same h.1, hp_same h.2.1, hp_same h.2.2.1]
theorem shM_su {ct : Nat → ClassId} {M : hp_M} {sh su wo : Nat} {Y : ShT} (h : shOk ct M sh su wo Y) (s : Nat → Int32) : hp_up M su (.inl (ct 1, 8, .inl s)) = shM ct M sh su wo (s, Y.2.1, Y.2.2.1, Y.2.2.2) := by
  obtain ⟨n1, n2, n3⟩ := shM_ne h
  unfold shM
  rw [hp_same (hp_k (Ne.symm n1) h.2.1), hp_same (hp_k (Ne.symm n2) h.2.2.1)]
theorem shM_wo {ct : Nat → ClassId} {M : hp_M} {sh su wo : Nat} {Y : ShT} (h : shOk ct M sh su wo Y) (w : Nat → Int32) : hp_up M wo (.inl (ct 1, 64, .inl w)) = shM ct M sh su wo (Y.1, w, Y.2.2.1, Y.2.2.2) := by
  obtain ⟨n1, n2, n3⟩ := shM_ne h
  unfold shM
  rw [hp_same h.1, hp_same (hp_k (Ne.symm n3) h.2.2.1)]
theorem shM_sh {ct : Nat → ClassId} {M : hp_M} {sh su wo : Nat} {Y : ShT} (h : shOk ct M sh su wo Y) (n : Nat) (d : Int64) : hp_up M sh (.inr (2, [.ref su, .ref wo, .int (nI n), .long d])) = shM ct M sh su wo (Y.1, Y.2.1, n, d) := by
  unfold shM
  rw [hp_same h.1, hp_same h.2.1]
theorem shM_ok {ct : Nat → ClassId} {M : hp_M} {sh su wo : Nat} {Y : ShT} (h : shOk ct M sh su wo Y) {X : ShT} (hX : X.2.2.1 ≤ 64) : shOk ct (shM ct M sh su wo X) sh su wo X := by
  obtain ⟨n1, n2, n3⟩ := shM_ne h
  exact ⟨hp_k n2 (hp_k n1 hp_us), hp_k n3 hp_us, hp_us, hX⟩
/-- a byte pushed into a word; a byte fed -/
def pb (w v : Int32) : Int32 := (w <<< (nI 8 &&& 31)) ||| (v &&& nI 255)
def blk (Y : ShT) : ShT := (adds (mixn (spw Y.2.1 48) Y.1 64) Y.1, spw Y.2.1 48, 0, Y.2.2.2)
def fd0 (v : Int32) (Y : ShT) : ShT := (Y.1, upd Y.2.1 (Y.2.2.1 / 4 % 16) (pb (Y.2.1 (Y.2.2.1 / 4 % 16)) v), Y.2.2.1 + 1, Y.2.2.2 + 1)
def feedS (v : Int32) (Y : ShT) : ShT := if (Y.2.2.1 + 1) < 64 then fd0 v Y else blk (fd0 v Y)
theorem feedS_lt {v : Int32} {Y : ShT} : (feedS v Y).2.2.1 < 64 := by
  unfold feedS
  by_cases h : Y.2.2.1 + 1 < 64
  · rw [if_pos h]; exact h
  · rw [if_neg h]; exact (by decide : 0 < 64)
theorem shM_k {ct : Nat → ClassId} {M : hp_M} {sh su wo t : Nat} {X : ShT} {e : va_E} (h : M t = some e) (h1 : t ≠ su) (h2 : t ≠ wo) (h3 : t ≠ sh) : shM ct M sh su wo X t = some e := hp_k h3 (hp_k h2 (hp_k h1 h))
def feedL (Y : ShT) (l : List Nat) : ShT := l.foldl (fun Y k => feedS (nI k) Y) Y
theorem d_SH_init_0 : decode b_SH_init 0 = .ok (.aload_n 0, 1) := by decide +kernel
theorem d_SH_init_1 : decode b_SH_init 1 = .ok (.invokespecial 3, 3) := by decide +kernel
theorem d_SH_init_4 : decode b_SH_init 4 = .ok (.aload_n 0, 1) := by decide +kernel
theorem d_SH_init_5 : decode b_SH_init 5 = .ok (.bipush 8, 2) := by decide +kernel
theorem d_SH_init_7 : decode b_SH_init 7 = .ok (.newarray .int, 2) := by decide +kernel
theorem d_SH_init_9 : decode b_SH_init 9 = .ok (.putfield 9, 3) := by decide +kernel
theorem d_SH_init_12 : decode b_SH_init 12 = .ok (.aload_n 0, 1) := by decide +kernel
theorem d_SH_init_13 : decode b_SH_init 13 = .ok (.bipush 64, 2) := by decide +kernel
theorem d_SH_init_15 : decode b_SH_init 15 = .ok (.newarray .int, 2) := by decide +kernel
theorem d_SH_init_17 : decode b_SH_init 17 = .ok (.putfield 15, 3) := by decide +kernel
theorem d_SH_init_20 : decode b_SH_init 20 = .ok (.aload_n 0, 1) := by decide +kernel
theorem d_SH_init_21 : decode b_SH_init 21 = .ok (.iconst 0, 1) := by decide +kernel
theorem d_SH_init_22 : decode b_SH_init 22 = .ok (.putfield 18, 3) := by decide +kernel
theorem d_SH_init_25 : decode b_SH_init 25 = .ok (.aload_n 0, 1) := by decide +kernel
theorem d_SH_init_26 : decode b_SH_init 26 = .ok (.lconst 0, 1) := by decide +kernel
theorem d_SH_init_27 : decode b_SH_init 27 = .ok (.putfield 22, 3) := by decide +kernel
theorem d_SH_init_30 : decode b_SH_init 30 = .ok (.return_, 1) := by decide +kernel
theorem d_SH_turned_0 : decode b_SH_turned 0 = .ok (.iload_n 0, 1) := by decide +kernel
theorem d_SH_turned_1 : decode b_SH_turned 1 = .ok (.iload_n 1, 1) := by decide +kernel
theorem d_SH_turned_2 : decode b_SH_turned 2 = .ok (.iushr, 1) := by decide +kernel
theorem d_SH_turned_3 : decode b_SH_turned 3 = .ok (.iload_n 0, 1) := by decide +kernel
theorem d_SH_turned_4 : decode b_SH_turned 4 = .ok (.bipush 32, 2) := by decide +kernel
theorem d_SH_turned_6 : decode b_SH_turned 6 = .ok (.iload_n 1, 1) := by decide +kernel
theorem d_SH_turned_7 : decode b_SH_turned 7 = .ok (.isub, 1) := by decide +kernel
theorem d_SH_turned_8 : decode b_SH_turned 8 = .ok (.ishl, 1) := by decide +kernel
theorem d_SH_turned_9 : decode b_SH_turned 9 = .ok (.ior, 1) := by decide +kernel
theorem d_SH_turned_10 : decode b_SH_turned 10 = .ok (.ireturn, 1) := by decide +kernel
theorem d_SH_spreadWords_0 : decode b_SH_spreadWords 0 = .ok (.bipush 16, 2) := by decide +kernel
theorem d_SH_spreadWords_2 : decode b_SH_spreadWords 2 = .ok (.istore_n 1, 1) := by decide +kernel
theorem d_SH_spreadWords_3 : decode b_SH_spreadWords 3 = .ok (.iload_n 1, 1) := by decide +kernel
theorem d_SH_spreadWords_4 : decode b_SH_spreadWords 4 = .ok (.bipush 64, 2) := by decide +kernel
theorem d_SH_spreadWords_6 : decode b_SH_spreadWords 6 = .ok (.if_icmp .ge 98, 3) := by decide +kernel
theorem d_SH_spreadWords_9 : decode b_SH_spreadWords 9 = .ok (.aload_n 0, 1) := by decide +kernel
theorem d_SH_spreadWords_10 : decode b_SH_spreadWords 10 = .ok (.getfield 15, 3) := by decide +kernel
theorem d_SH_spreadWords_13 : decode b_SH_spreadWords 13 = .ok (.iload_n 1, 1) := by decide +kernel
theorem d_SH_spreadWords_14 : decode b_SH_spreadWords 14 = .ok (.iconst 2, 1) := by decide +kernel
theorem d_SH_spreadWords_15 : decode b_SH_spreadWords 15 = .ok (.isub, 1) := by decide +kernel
theorem d_SH_spreadWords_16 : decode b_SH_spreadWords 16 = .ok (.iaload, 1) := by decide +kernel
theorem d_SH_spreadWords_17 : decode b_SH_spreadWords 17 = .ok (.istore_n 2, 1) := by decide +kernel
theorem d_SH_spreadWords_18 : decode b_SH_spreadWords 18 = .ok (.aload_n 0, 1) := by decide +kernel
theorem d_SH_spreadWords_19 : decode b_SH_spreadWords 19 = .ok (.getfield 15, 3) := by decide +kernel
theorem d_SH_spreadWords_22 : decode b_SH_spreadWords 22 = .ok (.iload_n 1, 1) := by decide +kernel
theorem d_SH_spreadWords_23 : decode b_SH_spreadWords 23 = .ok (.bipush 15, 2) := by decide +kernel
theorem d_SH_spreadWords_25 : decode b_SH_spreadWords 25 = .ok (.isub, 1) := by decide +kernel
theorem d_SH_spreadWords_26 : decode b_SH_spreadWords 26 = .ok (.iaload, 1) := by decide +kernel
theorem d_SH_spreadWords_27 : decode b_SH_spreadWords 27 = .ok (.istore_n 3, 1) := by decide +kernel
theorem d_SH_spreadWords_28 : decode b_SH_spreadWords 28 = .ok (.iload_n 2, 1) := by decide +kernel
theorem d_SH_spreadWords_29 : decode b_SH_spreadWords 29 = .ok (.bipush 17, 2) := by decide +kernel
theorem d_SH_spreadWords_31 : decode b_SH_spreadWords 31 = .ok (.invokestatic 43, 3) := by decide +kernel
theorem d_SH_spreadWords_34 : decode b_SH_spreadWords 34 = .ok (.iload_n 2, 1) := by decide +kernel
theorem d_SH_spreadWords_35 : decode b_SH_spreadWords 35 = .ok (.bipush 19, 2) := by decide +kernel
theorem d_SH_spreadWords_37 : decode b_SH_spreadWords 37 = .ok (.invokestatic 43, 3) := by decide +kernel
theorem d_SH_spreadWords_40 : decode b_SH_spreadWords 40 = .ok (.ixor, 1) := by decide +kernel
theorem d_SH_spreadWords_41 : decode b_SH_spreadWords 41 = .ok (.iload_n 2, 1) := by decide +kernel
theorem d_SH_spreadWords_42 : decode b_SH_spreadWords 42 = .ok (.bipush 10, 2) := by decide +kernel
theorem d_SH_spreadWords_44 : decode b_SH_spreadWords 44 = .ok (.iushr, 1) := by decide +kernel
theorem d_SH_spreadWords_45 : decode b_SH_spreadWords 45 = .ok (.ixor, 1) := by decide +kernel
theorem d_SH_spreadWords_46 : decode b_SH_spreadWords 46 = .ok (.istore 4, 2) := by decide +kernel
theorem d_SH_spreadWords_48 : decode b_SH_spreadWords 48 = .ok (.iload_n 3, 1) := by decide +kernel
theorem d_SH_spreadWords_49 : decode b_SH_spreadWords 49 = .ok (.bipush 7, 2) := by decide +kernel
theorem d_SH_spreadWords_51 : decode b_SH_spreadWords 51 = .ok (.invokestatic 43, 3) := by decide +kernel
theorem d_SH_spreadWords_54 : decode b_SH_spreadWords 54 = .ok (.iload_n 3, 1) := by decide +kernel
theorem d_SH_spreadWords_55 : decode b_SH_spreadWords 55 = .ok (.bipush 18, 2) := by decide +kernel
theorem d_SH_spreadWords_57 : decode b_SH_spreadWords 57 = .ok (.invokestatic 43, 3) := by decide +kernel
theorem d_SH_spreadWords_60 : decode b_SH_spreadWords 60 = .ok (.ixor, 1) := by decide +kernel
theorem d_SH_spreadWords_61 : decode b_SH_spreadWords 61 = .ok (.iload_n 3, 1) := by decide +kernel
theorem d_SH_spreadWords_62 : decode b_SH_spreadWords 62 = .ok (.iconst 3, 1) := by decide +kernel
theorem d_SH_spreadWords_63 : decode b_SH_spreadWords 63 = .ok (.iushr, 1) := by decide +kernel
theorem d_SH_spreadWords_64 : decode b_SH_spreadWords 64 = .ok (.ixor, 1) := by decide +kernel
theorem d_SH_spreadWords_65 : decode b_SH_spreadWords 65 = .ok (.istore 5, 2) := by decide +kernel
theorem d_SH_spreadWords_67 : decode b_SH_spreadWords 67 = .ok (.aload_n 0, 1) := by decide +kernel
theorem d_SH_spreadWords_68 : decode b_SH_spreadWords 68 = .ok (.getfield 15, 3) := by decide +kernel
theorem d_SH_spreadWords_71 : decode b_SH_spreadWords 71 = .ok (.iload_n 1, 1) := by decide +kernel
theorem d_SH_spreadWords_72 : decode b_SH_spreadWords 72 = .ok (.iload 4, 2) := by decide +kernel
theorem d_SH_spreadWords_74 : decode b_SH_spreadWords 74 = .ok (.aload_n 0, 1) := by decide +kernel
theorem d_SH_spreadWords_75 : decode b_SH_spreadWords 75 = .ok (.getfield 15, 3) := by decide +kernel
theorem d_SH_spreadWords_78 : decode b_SH_spreadWords 78 = .ok (.iload_n 1, 1) := by decide +kernel
theorem d_SH_spreadWords_79 : decode b_SH_spreadWords 79 = .ok (.bipush 7, 2) := by decide +kernel
theorem d_SH_spreadWords_81 : decode b_SH_spreadWords 81 = .ok (.isub, 1) := by decide +kernel
theorem d_SH_spreadWords_82 : decode b_SH_spreadWords 82 = .ok (.iaload, 1) := by decide +kernel
theorem d_SH_spreadWords_83 : decode b_SH_spreadWords 83 = .ok (.iadd, 1) := by decide +kernel
theorem d_SH_spreadWords_84 : decode b_SH_spreadWords 84 = .ok (.iload 5, 2) := by decide +kernel
theorem d_SH_spreadWords_86 : decode b_SH_spreadWords 86 = .ok (.iadd, 1) := by decide +kernel
theorem d_SH_spreadWords_87 : decode b_SH_spreadWords 87 = .ok (.aload_n 0, 1) := by decide +kernel
theorem d_SH_spreadWords_88 : decode b_SH_spreadWords 88 = .ok (.getfield 15, 3) := by decide +kernel
theorem d_SH_spreadWords_91 : decode b_SH_spreadWords 91 = .ok (.iload_n 1, 1) := by decide +kernel
theorem d_SH_spreadWords_92 : decode b_SH_spreadWords 92 = .ok (.bipush 16, 2) := by decide +kernel
theorem d_SH_spreadWords_94 : decode b_SH_spreadWords 94 = .ok (.isub, 1) := by decide +kernel
theorem d_SH_spreadWords_95 : decode b_SH_spreadWords 95 = .ok (.iaload, 1) := by decide +kernel
theorem d_SH_spreadWords_96 : decode b_SH_spreadWords 96 = .ok (.iadd, 1) := by decide +kernel
theorem d_SH_spreadWords_97 : decode b_SH_spreadWords 97 = .ok (.iastore, 1) := by decide +kernel
theorem d_SH_spreadWords_98 : decode b_SH_spreadWords 98 = .ok (.iinc 1 1, 3) := by decide +kernel
theorem d_SH_spreadWords_101 : decode b_SH_spreadWords 101 = .ok (.goto (-98), 3) := by decide +kernel
theorem d_SH_spreadWords_104 : decode b_SH_spreadWords 104 = .ok (.return_, 1) := by decide +kernel
theorem shinit {M : hp_M} {sh su wo : Nat} {e1 e2 e3 e4 : va_E} (h1 : sh ≠ su) (h2 : sh ≠ wo) : hp_up (hp_up (hp_up (hp_up M su e1) sh e2) wo e3) sh e4 = hp_up (hp_up (hp_up M su e1) wo e3) sh e4 := by
  rw [hp_uc h2, hp_uu]
set_option maxHeartbeats 4000000 in
set_option maxRecDepth 100000 in
/-- Sha() -/
theorem c_SH_init (l : Launch) (D : va_G) (ct : Nat → ClassId) (Z : hp_Z) (hZ : hp_Zok Z) (M : hp_M) (sz : Nat) (sh : Nat) (f_sh : M sh = some (.inr (2, [.null, .null, .int (nI 0), .long 0]))) : Mv l y_SH_init b_SH_init 1 none 1 12 2 72 [.ref sh] D ct Z M sz (fun M1 => ∃ su wo, M su = none ∧ M wo = none ∧ su ≠ wo ∧ M1 = shM ct M sh su wo (nf (fun _ => 0), nf (fun _ => 0), 0, 0)) := by
  refine hp_start (by decide) (Nat.le_of_ble_eq_true rfl) (fun p e s m below meth c ls S hret hlk hnm hsz hK hM hS hA hz hl => ?_)
  have hx := S.1
  have hb := S.2.1
  have hl : lv_has ls 1 [(0, .ref sh)] := hl
  refine lv_aload_n hx hb d_SH_init_0 rfl (lv_at hl 0 rfl) ?_
  refine W.objInit hx hb S.2.2.2.1 (S.2.2.2.2 _ ml_SH_3) (S.2.2.2.2 _ mi_OB_init) (S.2.2.2.2 _ mc_OB_init) rfl (by rw [S.2.2.1]; exact hl.1) rfl d_SH_init_1 (by decide) (Nat.le_of_ble_eq_true rfl) ?_
  refine W.eq (g2 := F0 m 4 ls []) rfl ?_
  refine lv_aload_n hx hb d_SH_init_4 rfl (lv_at hl 0 rfl) ?_
  refine lv_bipush (v := nI 8) hx hb d_SH_init_5 rfl ?_
  refine hp_newi S hK hM hS hA (atype := .int) rfl ma_int 1 rfl rfl (by decide) 8 rfl (by omega) (by decide) (by decide) d_SH_init_7 (fun q7 H hq_q7 hM hS => ?_)
  refine W.widen (k := 1) (n := 8) (by omega) (by omega) ?_
  rw [nf_0] at hM
  have ne_sh_q7 : sh ≠ q7 := hp_nn f_sh hq_q7
  have f_sh := hp_k (e := (.inl (ct 1, 8, .inl (nf (fun _ => 0))))) ne_sh_q7 f_sh
  have f_q7 : hp_up M q7 (.inl (ct 1, 8, .inl (nf (fun _ => 0)))) q7 = some (.inl (ct 1, 8, .inl (nf (fun _ => 0)))) := hp_us
  obtain ⟨M1, eM1⟩ : ∃ z, z = hp_up M q7 (.inl (ct 1, 8, .inl (nf (fun _ => 0)))) := ⟨_, rfl⟩
  rw [← eM1] at hM f_sh f_q7
  refine hp_putF (ty := (.array .int)) (fs' := [.ref q7, .null, .int (nI 0), .long 0]) S hK hM hS i_SH t_SH to_SH n_SH f_sh rfl 0 (by decide) mf_SH_9 (fun _ h9 => h9) rfl hnm rfl (by decide +kernel) rfl rfl (by simp) rfl d_SH_init_9 (fun H locs hM hS => ?_)
  have f_q7 := hp_k (e := (.inr (2, [.ref q7, .null, .int (nI 0), .long 0]))) (Ne.symm ne_sh_q7) f_q7
  have f_sh : hp_up M1 sh (.inr (2, [.ref q7, .null, .int (nI 0), .long 0])) sh = some (.inr (2, [.ref q7, .null, .int (nI 0), .long 0])) := hp_us
  obtain ⟨M2, eM2⟩ : ∃ z, z = hp_up M1 sh (.inr (2, [.ref q7, .null, .int (nI 0), .long 0])) := ⟨_, rfl⟩
  rw [← eM2] at hM f_sh f_q7
  refine lv_aload_n hx hb d_SH_init_12 rfl (lv_at hl 0 rfl) ?_
  refine lv_bipush (v := nI 64) hx hb d_SH_init_13 rfl ?_
  refine hp_newi S hK hM hS hA (atype := .int) rfl ma_int 1 rfl rfl (by decide) 64 rfl (by omega) (by decide) (by decide) d_SH_init_15 (fun q15 H hq_q15 hM hS => ?_)
  refine W.widen (k := 2) (n := 72) (by omega) (by omega) ?_
  rw [nf_0] at hM
  have ne_sh_q15 : sh ≠ q15 := hp_nn f_sh hq_q15
  have f_sh := hp_k (e := (.inl (ct 1, 64, .inl (nf (fun _ => 0))))) ne_sh_q15 f_sh
  have ne_q7_q15 : q7 ≠ q15 := hp_nn f_q7 hq_q15
  have f_q7 := hp_k (e := (.inl (ct 1, 64, .inl (nf (fun _ => 0))))) ne_q7_q15 f_q7
  have f_q15 : hp_up M2 q15 (.inl (ct 1, 64, .inl (nf (fun _ => 0)))) q15 = some (.inl (ct 1, 64, .inl (nf (fun _ => 0)))) := hp_us
  obtain ⟨M3, eM3⟩ : ∃ z, z = hp_up M2 q15 (.inl (ct 1, 64, .inl (nf (fun _ => 0)))) := ⟨_, rfl⟩
  rw [← eM3] at hM f_sh f_q7 f_q15
  refine hp_putF (ty := (.array .int)) (fs' := [.ref q7, .ref q15, .int (nI 0), .long 0]) S hK hM hS i_SH t_SH to_SH n_SH f_sh rfl 1 (by decide) mf_SH_15 (fun _ h9 => h9) rfl hnm rfl (by decide +kernel) rfl rfl (by simp) rfl d_SH_init_17 (fun H locs hM hS => ?_)
  have f_q7 := hp_k (e := (.inr (2, [.ref q7, .ref q15, .int (nI 0), .long 0]))) (Ne.symm ne_sh_q7) f_q7
  have f_q15 := hp_k (e := (.inr (2, [.ref q7, .ref q15, .int (nI 0), .long 0]))) (Ne.symm ne_sh_q15) f_q15
  have f_sh : hp_up M3 sh (.inr (2, [.ref q7, .ref q15, .int (nI 0), .long 0])) sh = some (.inr (2, [.ref q7, .ref q15, .int (nI 0), .long 0])) := hp_us
  obtain ⟨M4, eM4⟩ : ∃ z, z = hp_up M3 sh (.inr (2, [.ref q7, .ref q15, .int (nI 0), .long 0])) := ⟨_, rfl⟩
  rw [← eM4] at hM f_sh f_q7 f_q15
  refine lv_aload_n hx hb d_SH_init_20 rfl (lv_at hl 0 rfl) ?_
  refine lv_iconst (v := nI 0) hx hb d_SH_init_21 rfl ?_
  refine hp_put (ty := .int) (fs' := [.ref q7, .ref q15, .int (nI 0), .long 0]) S hK hM hS i_SH t_SH to_SH n_SH f_sh rfl 2 (by decide) mf_SH_18 (fun _ h9 => h9) rfl (by decide +kernel) rfl rfl (by simp) rfl d_SH_init_22 (fun H locs hM hS => ?_)
  have f_q7 := hp_k (e := (.inr (2, [.ref q7, .ref q15, .int (nI 0), .long 0]))) (Ne.symm ne_sh_q7) f_q7
  have f_q15 := hp_k (e := (.inr (2, [.ref q7, .ref q15, .int (nI 0), .long 0]))) (Ne.symm ne_sh_q15) f_q15
  have f_sh : hp_up M4 sh (.inr (2, [.ref q7, .ref q15, .int (nI 0), .long 0])) sh = some (.inr (2, [.ref q7, .ref q15, .int (nI 0), .long 0])) := hp_us
  obtain ⟨M5, eM5⟩ : ∃ z, z = hp_up M4 sh (.inr (2, [.ref q7, .ref q15, .int (nI 0), .long 0])) := ⟨_, rfl⟩
  rw [← eM5] at hM f_sh f_q7 f_q15
  refine lv_aload_n hx hb d_SH_init_25 rfl (lv_at hl 0 rfl) ?_
  refine lv_lconst (v := 0) hx hb d_SH_init_26 (by decide) ?_
  refine hp_put (ty := .long) (fs' := [.ref q7, .ref q15, .int (nI 0), .long 0]) S hK hM hS i_SH t_SH to_SH n_SH f_sh rfl 3 (by decide) mf_SH_22 (fun _ h9 => h9) rfl (by decide +kernel) rfl rfl (by simp) rfl d_SH_init_27 (fun H locs hM hS => ?_)
  have f_q7 := hp_k (e := (.inr (2, [.ref q7, .ref q15, .int (nI 0), .long 0]))) (Ne.symm ne_sh_q7) f_q7
  have f_q15 := hp_k (e := (.inr (2, [.ref q7, .ref q15, .int (nI 0), .long 0]))) (Ne.symm ne_sh_q15) f_q15
  have f_sh : hp_up M5 sh (.inr (2, [.ref q7, .ref q15, .int (nI 0), .long 0])) sh = some (.inr (2, [.ref q7, .ref q15, .int (nI 0), .long 0])) := hp_us
  obtain ⟨M6, eM6⟩ : ∃ z, z = hp_up M5 sh (.inr (2, [.ref q7, .ref q15, .int (nI 0), .long 0])) := ⟨_, rfl⟩
  rw [← eM6] at hM f_sh f_q7 f_q15
  have hq9 : M q15 = none := by rw [eM2, eM1, hp_un (Ne.symm ne_sh_q15), hp_un (Ne.symm ne_q7_q15)] at hq_q15; exact hq_q15
  exact hp_vret S hret hlk hM hS ⟨q7, q15, hq_q7, hq9, ne_q7_q15, by rw [eM6, eM5, eM4, eM3, eM2, eM1, hp_uu, hp_uu]; exact shinit ne_sh_q7 ne_sh_q15⟩ d_SH_init_30
set_option maxHeartbeats 4000000 in
set_option maxRecDepth 100000 in
/-- turned right -/
theorem c_SH_turned (l : Launch) (D : va_G) (ct : Nat → ClassId) (Z : hp_Z) (hZ : hp_Zok Z) (M : hp_M) (sz : Nat) (x : Int32) (b : Nat) (hb32 : b ≤ 32) : Mi l y_SH_turned b_SH_turned 2 (some .int) 0 0 0 0 [.int x, .int (nI b)] D ct Z M sz (fun r M1 => M1 = M ∧ r = tr x b) := by
  refine hp_start (by decide) (Nat.le_of_ble_eq_true rfl) (fun p e s m below meth c ls S hret hlk hnm hsz hK hM hS hA hz hl => ?_)
  have hx := S.1
  have hb := S.2.1
  have hl : lv_has ls 2 [(0, .int x), (1, .int (nI b))] := hl
  refine lv_iload_n hx hb d_SH_turned_0 rfl (lv_at hl 0 rfl) ?_
  refine lv_iload_n hx hb d_SH_turned_1 rfl (lv_at hl 1 rfl) ?_
  refine lv_iushr hx hb d_SH_turned_2 rfl ?_
  refine lv_iload_n hx hb d_SH_turned_3 rfl (lv_at hl 0 rfl) ?_
  refine lv_bipush (v := nI 32) hx hb d_SH_turned_4 rfl ?_
  refine lv_iload_n hx hb d_SH_turned_6 rfl (lv_at hl 1 rfl) ?_
  refine nb_isub hx hb d_SH_turned_7 (by omega) ?_
  refine lv_ishl hx hb d_SH_turned_8 ?_
  refine lv_ior hx hb d_SH_turned_9 ?_
  exact hp_iret S hret hlk (rfl) hM hS (⟨rfl, rfl⟩) d_SH_turned_10
set_option maxHeartbeats 4000000 in
set_option maxRecDepth 100000 in
/-- the words 16 .. 63 -/
theorem c_SH_spreadWords (l : Launch) (D : va_G) (ct : Nat → ClassId) (Z : hp_Z) (hZ : hp_Zok Z) (M : hp_M) (sz : Nat) (sh su wo : Nat) (Y : ShT) (hsh : shOk ct M sh su wo Y) : Mv l y_SH_spreadWords b_SH_spreadWords 6 none 1 21 0 0 [.ref sh] D ct Z M sz (fun M1 => M1 = shM ct M sh su wo (Y.1, spw Y.2.1 48, Y.2.2.1, Y.2.2.2)) := by
  refine hp_start (by decide) (Nat.le_of_ble_eq_true rfl) (fun p e s m below meth c ls S hret hlk hnm hsz hK hM hS hA hz hl => ?_)
  have hx := S.1
  have hb := S.2.1
  have hl : lv_has ls 6 [(0, .ref sh)] := hl
  obtain ⟨f_su, f_wo, f_sh, hfl⟩ := id hsh
  have f0_wo := f_wo
  refine lv_bipush (v := nI 16) hx hb d_SH_spreadWords_0 rfl ?_
  refine lv_istore_n (lv' := [(1, .int (nI 16)), (0, .ref sh)]) hx hb d_SH_spreadWords_2 rfl hl (by decide) rfl (fun ls hl => ?_)
  replace hl : lv_has ls 6 [(0, .ref sh), (1, .int (nI 16))] := lv_sub hl [1, 0] rfl
  obtain ⟨j, e9j⟩ : ∃ z : Nat, z = 16 := ⟨_, rfl⟩
  obtain ⟨wv, e9wv⟩ : ∃ z : Nat → Int32, z = Y.2.1 := ⟨_, rfl⟩
  replace hl : lv_has ls 6 [(0, .ref sh), (1, .int (nI j))] := by subst e9j e9wv; exact hl
  obtain ⟨H, e9H⟩ : ∃ z : Heap, z = s.heap := ⟨_, rfl⟩
  replace hM : hp_H D ccl (hp_A M sz) M H := by rw [e9H]; exact hM
  replace hS : va_S (hp_A M sz) s.heap H [] := by rw [e9H]; exact hS
  rw [← e9H]
  clear e9H
  obtain ⟨locs, e9L⟩ : ∃ z : List Loc, z = [] := ⟨_, rfl⟩
  replace hS : va_S (hp_A M sz) s.heap H locs := by rw [e9L]; exact hS
  rw [← e9L]
  clear e9L
  obtain ⟨N1, e9N1⟩ : ∃ z : hp_M, z = M := ⟨_, rfl⟩
  replace hM : hp_H D ccl (hp_A M sz) N1 H := by rw [e9N1]; exact hM
  replace f_su : N1 su = some (.inl (ct 1, 8, .inl (Y.1))) := by rw [e9N1]; exact f_su
  replace f_wo : N1 wo = some (.inl (ct 1, 64, .inl (Y.2.1))) := by rw [e9N1]; exact f_wo
  replace f_sh : N1 sh = some (.inr (2, [.ref su, .ref wo, .int (nI Y.2.2.1), .long Y.2.2.2])) := by rw [e9N1]; exact f_sh
  replace f_wo : N1 wo = some (.inl (ct 1, 64, .inl wv)) := by subst e9j e9wv; exact f_wo
  have h16 : 16 ≤ j := by subst e9j e9wv; decide
  have hwv : wv = spw Y.2.1 (j - 16) := by subst e9j e9wv; rfl
  have hN : N1 = hp_up M wo (.inl (ct 1, 64, .inl wv)) := by subst e9j e9wv; rw [hp_same f0_wo]; exact e9N1
  obtain ⟨fu, hn⟩ : ∃ fu : Nat, j + fu = 64 := ⟨64 - j, by omega⟩
  clear e9j e9wv e9N1
  induction fu generalizing j wv H locs N1 ls with
  | zero =>
    have hn : j = 64 := by omega
    refine lv_iload_n hx hb d_SH_spreadWords_3 rfl (lv_at hl 1 rfl) ?_
    refine lv_bipush (v := nI 64) hx hb d_SH_spreadWords_4 rfl ?_
    refine nb_ge (tgt := 104) hx hb d_SH_spreadWords_6 (by decide) (by omega) (by omega) (fun h2 => ?_) (fun h2 => ?_)
    · exact hp_vret S hret hlk hM hS (by rw [hN, hwv, show j - 16 = 48 by omega]; exact shM_wo hsh _) d_SH_spreadWords_104
    · exact absurd hn (by omega)
  | succ fu ih =>
    refine lv_iload_n hx hb d_SH_spreadWords_3 rfl (lv_at hl 1 rfl) ?_
    refine lv_bipush (v := nI 64) hx hb d_SH_spreadWords_4 rfl ?_
    refine nb_ge (tgt := 104) hx hb d_SH_spreadWords_6 (by decide) (by omega) (by omega) (fun h3 => ?_) (fun h3 => ?_)
    · exact absurd hn (by omega)
    · refine lv_aload_n hx hb d_SH_spreadWords_9 rfl (lv_at hl 0 rfl) ?_
      refine hp_get S hK hM i_SH f_sh rfl 1 (by decide) mf_SH_15 (fun _ h9 => h9) rfl d_SH_spreadWords_10 ?_
      refine lv_iload_n hx hb d_SH_spreadWords_13 rfl (lv_at hl 1 rfl) ?_
      refine lv_iconst (v := nI 2) hx hb d_SH_spreadWords_14 rfl ?_
      refine nb_isub hx hb d_SH_spreadWords_15 (by omega) ?_
      refine hp_iald S hK hM 1 f_wo rfl (j - 2) rfl (by omega) (by omega) d_SH_spreadWords_16 ?_
      refine lv_istore_n (lv' := [(2, .int (wv (j - 2))), (0, .ref sh), (1, .int (nI j))]) hx hb d_SH_spreadWords_17 rfl hl (by decide) rfl (fun ls hl => ?_)
      refine lv_aload_n hx hb d_SH_spreadWords_18 rfl (lv_at hl 1 rfl) ?_
      refine hp_get S hK hM i_SH f_sh rfl 1 (by decide) mf_SH_15 (fun _ h9 => h9) rfl d_SH_spreadWords_19 ?_
      refine lv_iload_n hx hb d_SH_spreadWords_22 rfl (lv_at hl 2 rfl) ?_
      refine lv_bipush (v := nI 15) hx hb d_SH_spreadWords_23 rfl ?_
      refine nb_isub hx hb d_SH_spreadWords_25 (by omega) ?_
      refine hp_iald S hK hM 1 f_wo rfl (j - 15) rfl (by omega) (by omega) d_SH_spreadWords_26 ?_
      refine lv_istore_n (lv' := [(3, .int (wv (j - 15))), (2, .int (wv (j - 2))), (0, .ref sh), (1, .int (nI j))]) hx hb d_SH_spreadWords_27 rfl hl (by decide) rfl (fun ls hl => ?_)
      refine lv_iload_n hx hb d_SH_spreadWords_28 rfl (lv_at hl 1 rfl) ?_
      refine lv_bipush (v := nI 17) hx hb d_SH_spreadWords_29 rfl ?_
      refine hp_calli (go_S S hZ hK hM hS hA hz (c_SH_turned l D ct Z hZ _ _ (wv (j - 2)) 17 (by decide)) mc_SH_turned mz_SH ml_SH_43 ms_SH_turned hd_SH_turned rfl ⟨by decide, by decide⟩ hl.1 rfl (Nat.le_of_ble_eq_true rfl) d_SH_spreadWords_31 ⟨by decide, by decide⟩) hM hS hA (fun r4 N5 H locs hr4 hM hS => ?_)
      rw [hr4.1] at hM
      replace hr4 := hr4.2
      subst hr4
      refine lv_iload_n hx hb d_SH_spreadWords_34 rfl (lv_at hl 1 rfl) ?_
      refine lv_bipush (v := nI 19) hx hb d_SH_spreadWords_35 rfl ?_
      refine hp_calli (go_S S hZ hK hM hS hA hz (c_SH_turned l D ct Z hZ _ _ (wv (j - 2)) 19 (by decide)) mc_SH_turned mz_SH ml_SH_43 ms_SH_turned hd_SH_turned rfl ⟨by decide, by decide⟩ hl.1 rfl (Nat.le_of_ble_eq_true rfl) d_SH_spreadWords_37 ⟨by decide, by decide⟩) hM hS hA (fun r6 N7 H locs hr6 hM hS => ?_)
      rw [hr6.1] at hM
      replace hr6 := hr6.2
      subst hr6
      refine lv_ixor hx hb d_SH_spreadWords_40 ?_
      refine lv_iload_n hx hb d_SH_spreadWords_41 rfl (lv_at hl 1 rfl) ?_
      refine lv_bipush (v := nI 10) hx hb d_SH_spreadWords_42 rfl ?_
      refine lv_iushr hx hb d_SH_spreadWords_44 rfl ?_
      refine lv_ixor hx hb d_SH_spreadWords_45 ?_
      refine lv_istore (lv' := [(4, .int (((tr (wv (j - 2)) 17) ^^^ (tr (wv (j - 2)) 19)) ^^^ ((Int32.toUInt32 (wv (j - 2)) >>> (Int32.toUInt32 (nI 10) &&& Int32.toUInt32 31)).toInt32))), (3, .int (wv (j - 15))), (2, .int (wv (j - 2))), (0, .ref sh), (1, .int (nI j))]) hx hb d_SH_spreadWords_46 hl (by decide) rfl (fun ls hl => ?_)
      refine lv_iload_n hx hb d_SH_spreadWords_48 rfl (lv_at hl 1 rfl) ?_
      refine lv_bipush (v := nI 7) hx hb d_SH_spreadWords_49 rfl ?_
      refine hp_calli (go_S S hZ hK hM hS hA hz (c_SH_turned l D ct Z hZ _ _ (wv (j - 15)) 7 (by decide)) mc_SH_turned mz_SH ml_SH_43 ms_SH_turned hd_SH_turned rfl ⟨by decide, by decide⟩ hl.1 rfl (Nat.le_of_ble_eq_true rfl) d_SH_spreadWords_51 ⟨by decide, by decide⟩) hM hS hA (fun r8 N9 H locs hr8 hM hS => ?_)
      rw [hr8.1] at hM
      replace hr8 := hr8.2
      subst hr8
      refine lv_iload_n hx hb d_SH_spreadWords_54 rfl (lv_at hl 1 rfl) ?_
      refine lv_bipush (v := nI 18) hx hb d_SH_spreadWords_55 rfl ?_
      refine hp_calli (go_S S hZ hK hM hS hA hz (c_SH_turned l D ct Z hZ _ _ (wv (j - 15)) 18 (by decide)) mc_SH_turned mz_SH ml_SH_43 ms_SH_turned hd_SH_turned rfl ⟨by decide, by decide⟩ hl.1 rfl (Nat.le_of_ble_eq_true rfl) d_SH_spreadWords_57 ⟨by decide, by decide⟩) hM hS hA (fun r10 N11 H locs hr10 hM hS => ?_)
      rw [hr10.1] at hM
      replace hr10 := hr10.2
      subst hr10
      refine lv_ixor hx hb d_SH_spreadWords_60 ?_
      refine lv_iload_n hx hb d_SH_spreadWords_61 rfl (lv_at hl 1 rfl) ?_
      refine lv_iconst (v := nI 3) hx hb d_SH_spreadWords_62 rfl ?_
      refine lv_iushr hx hb d_SH_spreadWords_63 rfl ?_
      refine lv_ixor hx hb d_SH_spreadWords_64 ?_
      refine lv_istore (lv' := [(5, .int (((tr (wv (j - 15)) 7) ^^^ (tr (wv (j - 15)) 18)) ^^^ ((Int32.toUInt32 (wv (j - 15)) >>> (Int32.toUInt32 (nI 3) &&& Int32.toUInt32 31)).toInt32))), (4, .int (((tr (wv (j - 2)) 17) ^^^ (tr (wv (j - 2)) 19)) ^^^ ((Int32.toUInt32 (wv (j - 2)) >>> (Int32.toUInt32 (nI 10) &&& Int32.toUInt32 31)).toInt32))), (3, .int (wv (j - 15))), (2, .int (wv (j - 2))), (0, .ref sh), (1, .int (nI j))]) hx hb d_SH_spreadWords_65 hl (by decide) rfl (fun ls hl => ?_)
      refine lv_aload_n hx hb d_SH_spreadWords_67 rfl (lv_at hl 4 rfl) ?_
      refine hp_get S hK hM i_SH f_sh rfl 1 (by decide) mf_SH_15 (fun _ h9 => h9) rfl d_SH_spreadWords_68 ?_
      refine lv_iload_n hx hb d_SH_spreadWords_71 rfl (lv_at hl 5 rfl) ?_
      refine lv_iload hx hb d_SH_spreadWords_72 (lv_at hl 1 rfl) ?_
      refine lv_aload_n hx hb d_SH_spreadWords_74 rfl (lv_at hl 4 rfl) ?_
      refine hp_get S hK hM i_SH f_sh rfl 1 (by decide) mf_SH_15 (fun _ h9 => h9) rfl d_SH_spreadWords_75 ?_
      refine lv_iload_n hx hb d_SH_spreadWords_78 rfl (lv_at hl 5 rfl) ?_
      refine lv_bipush (v := nI 7) hx hb d_SH_spreadWords_79 rfl ?_
      refine nb_isub hx hb d_SH_spreadWords_81 (by omega) ?_
      refine hp_iald S hK hM 1 f_wo rfl (j - 7) rfl (by omega) (by omega) d_SH_spreadWords_82 ?_
      refine lv_iadd hx hb d_SH_spreadWords_83 ?_
      refine lv_iload hx hb d_SH_spreadWords_84 (lv_at hl 0 rfl) ?_
      refine lv_iadd hx hb d_SH_spreadWords_86 ?_
      refine lv_aload_n hx hb d_SH_spreadWords_87 rfl (lv_at hl 4 rfl) ?_
      refine hp_get S hK hM i_SH f_sh rfl 1 (by decide) mf_SH_15 (fun _ h9 => h9) rfl d_SH_spreadWords_88 ?_
      refine lv_iload_n hx hb d_SH_spreadWords_91 rfl (lv_at hl 5 rfl) ?_
      refine lv_bipush (v := nI 16) hx hb d_SH_spreadWords_92 rfl ?_
      refine nb_isub hx hb d_SH_spreadWords_94 (by omega) ?_
      refine hp_iald S hK hM 1 f_wo rfl (j - 16) rfl (by omega) (by omega) d_SH_spreadWords_95 ?_
      refine lv_iadd hx hb d_SH_spreadWords_96 ?_
      refine hp_iast S hK hM hS 1 f_wo rfl j rfl (by omega) (by omega) d_SH_spreadWords_97 (fun H locs hM hS => ?_)
      have f_su := hp_k (e := (.inl (ct 1, 64, .inl (upd wv j ((((((tr (wv (j - 2)) 17) ^^^ (tr (wv (j - 2)) 19)) ^^^ ((Int32.toUInt32 (wv (j - 2)) >>> (Int32.toUInt32 (nI 10) &&& Int32.toUInt32 31)).toInt32)) + (wv (j - 7))) + (((tr (wv (j - 15)) 7) ^^^ (tr (wv (j - 15)) 18)) ^^^ ((Int32.toUInt32 (wv (j - 15)) >>> (Int32.toUInt32 (nI 3) &&& Int32.toUInt32 31)).toInt32))) + (wv (j - 16))))))) (hp_ne f_su f_wo (by simp)) f_su
      have f_sh := hp_k (e := (.inl (ct 1, 64, .inl (upd wv j ((((((tr (wv (j - 2)) 17) ^^^ (tr (wv (j - 2)) 19)) ^^^ ((Int32.toUInt32 (wv (j - 2)) >>> (Int32.toUInt32 (nI 10) &&& Int32.toUInt32 31)).toInt32)) + (wv (j - 7))) + (((tr (wv (j - 15)) 7) ^^^ (tr (wv (j - 15)) 18)) ^^^ ((Int32.toUInt32 (wv (j - 15)) >>> (Int32.toUInt32 (nI 3) &&& Int32.toUInt32 31)).toInt32))) + (wv (j - 16))))))) (hp_ne f_sh f_wo (by simp)) f_sh
      have f_wo : hp_up N1 wo (.inl (ct 1, 64, .inl (upd wv j ((((((tr (wv (j - 2)) 17) ^^^ (tr (wv (j - 2)) 19)) ^^^ ((Int32.toUInt32 (wv (j - 2)) >>> (Int32.toUInt32 (nI 10) &&& Int32.toUInt32 31)).toInt32)) + (wv (j - 7))) + (((tr (wv (j - 15)) 7) ^^^ (tr (wv (j - 15)) 18)) ^^^ ((Int32.toUInt32 (wv (j - 15)) >>> (Int32.toUInt32 (nI 3) &&& Int32.toUInt32 31)).toInt32))) + (wv (j - 16)))))) wo = some (.inl (ct 1, 64, .inl (upd wv j ((((((tr (wv (j - 2)) 17) ^^^ (tr (wv (j - 2)) 19)) ^^^ ((Int32.toUInt32 (wv (j - 2)) >>> (Int32.toUInt32 (nI 10) &&& Int32.toUInt32 31)).toInt32)) + (wv (j - 7))) + (((tr (wv (j - 15)) 7) ^^^ (tr (wv (j - 15)) 18)) ^^^ ((Int32.toUInt32 (wv (j - 15)) >>> (Int32.toUInt32 (nI 3) &&& Int32.toUInt32 31)).toInt32))) + (wv (j - 16)))))) := hp_us
      obtain ⟨M12, eM12⟩ : ∃ z, z = hp_up N1 wo (.inl (ct 1, 64, .inl (upd wv j ((((((tr (wv (j - 2)) 17) ^^^ (tr (wv (j - 2)) 19)) ^^^ ((Int32.toUInt32 (wv (j - 2)) >>> (Int32.toUInt32 (nI 10) &&& Int32.toUInt32 31)).toInt32)) + (wv (j - 7))) + (((tr (wv (j - 15)) 7) ^^^ (tr (wv (j - 15)) 18)) ^^^ ((Int32.toUInt32 (wv (j - 15)) >>> (Int32.toUInt32 (nI 3) &&& Int32.toUInt32 31)).toInt32))) + (wv (j - 16)))))) := ⟨_, rfl⟩
      rw [← eM12] at hM f_su f_wo f_sh
      refine lv_iinc (v := nI (j + 1)) (lv' := [(1, .int (nI (j + 1))), (5, .int (((tr (wv (j - 15)) 7) ^^^ (tr (wv (j - 15)) 18)) ^^^ ((Int32.toUInt32 (wv (j - 15)) >>> (Int32.toUInt32 (nI 3) &&& Int32.toUInt32 31)).toInt32))), (4, .int (((tr (wv (j - 2)) 17) ^^^ (tr (wv (j - 2)) 19)) ^^^ ((Int32.toUInt32 (wv (j - 2)) >>> (Int32.toUInt32 (nI 10) &&& Int32.toUInt32 31)).toInt32))), (3, .int (wv (j - 15))), (2, .int (wv (j - 2))), (0, .ref sh)]) hx hb d_SH_spreadWords_98 hl (k := 5) rfl (nI_add j 1) (by decide) rfl (fun ls hl => ?_)
      refine lv_goto (tgt := 3) hx hb d_SH_spreadWords_101 (by decide) ?_
      exact ih (ls := ls) (hl := lv_sub hl [5, 0] rfl) (j := j + 1) (hn := by omega) (wv := spj wv j) (h16 := by omega) (hwv := by rw [hwv, show j + 1 - 16 = (j - 16) + 1 by omega]; show spj _ _ = spj _ _; rw [show 16 + (j - 16) = j by omega]) (hN := by rw [eM12, hN, hp_uu]; rfl) (H := H) (locs := locs) (hM := hM) (hS := hS) (N1 := M12) (f_su := f_su) (f_wo := f_wo) (f_sh := f_sh)
