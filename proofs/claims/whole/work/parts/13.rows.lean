/-! KEYS, ROWS: what they are in a heaplet -/
/-- KIND, PATH or NAME, what follows the length in the STABLE TEXT -/
abbrev RowT : Type := Nat × List Nat × List Nat
/-- a Key that holds a PATH or NAME; fz: its characters are nobody's to write -/
def kyOk (ct : Nat → ClassId) (fz : Nat → Prop) (M : hp_M) (a : Nat) (K : List Nat) : Prop := ∃ (ca : Nat) (xs : List Nat), M a = some (.inr (5, [.ref ca, .int (nI K.length)])) ∧ M ca = some (.inl (ct 0, xs.length, .inl (tx xs))) ∧ xs.take K.length = K ∧ K.length ≤ xs.length ∧ xs.length ≤ 64 ∧ (∀ i, xs.getD i 0 < 65536) ∧ fz ca
def rwOk (ct : Nat → ClassId) (fz : Nat → Prop) (M : hp_M) (a : Nat) (R : RowT) : Prop := ∃ ky ba : Nat, M a = some (.inr (4, [.int (nI R.1), .ref ky, .ref ba])) ∧ kyOk ct fz M ky R.2.1 ∧ M ba = some (.inl (ct 0, R.2.2.length, .inl (tx R.2.2))) ∧ R.2.2.length ≤ 105 ∧ (∀ i, R.2.2.getD i 0 < 65536) ∧ fz ba ∧ R.1 ≤ 7
/-- the sign of an answer -/
def cmpR (r : Int32) (c : Int) : Prop := (r = 0 ↔ c = 0) ∧ (0 < r ↔ 0 < c)
theorem sub_sgn {a b : Nat} (ha : a < 2 ^ 30) (hb : b < 2 ^ 30) : (nI a - nI b = 0 ↔ a = b) ∧ (0 < nI a - nI b ↔ b < a) := by
  have h := pk_sub_toInt ha hb
  constructor
  · constructor
    · intro q
      rw [q, Int32.toInt_zero] at h
      omega
    · intro q
      subst q
      exact Int32.toInt_inj.mp (by rw [h, Int32.toInt_zero]; omega)
  · rw [Int32.lt_iff_toInt_lt, h, Int32.toInt_zero]
    omega
theorem take_getD {x : List Nat} {n i : Nat} (h : i < n) : (x.take n).getD i 0 = x.getD i 0 := by
  simp [List.getD_eq_getElem?_getD, List.getElem?_take, h]
theorem list_ext {x y : List Nat} (h : x.length = y.length) (hg : ∀ i, i < x.length → x.getD i 0 = y.getD i 0) : x = y := by
  apply List.ext_getElem h
  intro i h1 h2
  have h3 := hg i h1
  rw [List.getD_eq_getElem?_getD, List.getD_eq_getElem?_getD, List.getElem?_eq_getElem h1, List.getElem?_eq_getElem h2] at h3
  exact h3
/-- the STABLE TEXT of a row -/
def stT (R : RowT) : List Nat := (48 + R.1) :: (48 + R.2.2.length / 64) :: (48 + R.2.2.length % 64) :: R.2.2
/-- a row comes behind another -/
def behind (R S : RowT) : Prop := S.1 < R.1 ∨ (R.1 = S.1 ∧ 0 < cmpK R.2.1 S.2.1)
theorem d_KY_compareWith_0 : decode b_KY_compareWith 0 = .ok (.aload_n 0, 1) := by decide +kernel
theorem d_KY_compareWith_1 : decode b_KY_compareWith 1 = .ok (.getfield 19, 3) := by decide +kernel
theorem d_KY_compareWith_4 : decode b_KY_compareWith 4 = .ok (.aload_n 1, 1) := by decide +kernel
theorem d_KY_compareWith_5 : decode b_KY_compareWith 5 = .ok (.getfield 19, 3) := by decide +kernel
theorem d_KY_compareWith_8 : decode b_KY_compareWith 8 = .ok (.invokestatic 13, 3) := by decide +kernel
theorem d_KY_compareWith_11 : decode b_KY_compareWith 11 = .ok (.istore_n 2, 1) := by decide +kernel
theorem d_KY_compareWith_12 : decode b_KY_compareWith 12 = .ok (.iconst 0, 1) := by decide +kernel
theorem d_KY_compareWith_13 : decode b_KY_compareWith 13 = .ok (.istore_n 3, 1) := by decide +kernel
theorem d_KY_compareWith_14 : decode b_KY_compareWith 14 = .ok (.iload_n 3, 1) := by decide +kernel
theorem d_KY_compareWith_15 : decode b_KY_compareWith 15 = .ok (.iload_n 2, 1) := by decide +kernel
theorem d_KY_compareWith_16 : decode b_KY_compareWith 16 = .ok (.if_icmp .ge 38, 3) := by decide +kernel
theorem d_KY_compareWith_19 : decode b_KY_compareWith 19 = .ok (.aload_n 0, 1) := by decide +kernel
theorem d_KY_compareWith_20 : decode b_KY_compareWith 20 = .ok (.getfield 7, 3) := by decide +kernel
theorem d_KY_compareWith_23 : decode b_KY_compareWith 23 = .ok (.iload_n 3, 1) := by decide +kernel
theorem d_KY_compareWith_24 : decode b_KY_compareWith 24 = .ok (.caload, 1) := by decide +kernel
theorem d_KY_compareWith_25 : decode b_KY_compareWith 25 = .ok (.aload_n 1, 1) := by decide +kernel
theorem d_KY_compareWith_26 : decode b_KY_compareWith 26 = .ok (.getfield 7, 3) := by decide +kernel
theorem d_KY_compareWith_29 : decode b_KY_compareWith 29 = .ok (.iload_n 3, 1) := by decide +kernel
theorem d_KY_compareWith_30 : decode b_KY_compareWith 30 = .ok (.caload, 1) := by decide +kernel
theorem d_KY_compareWith_31 : decode b_KY_compareWith 31 = .ok (.if_icmp .eq 17, 3) := by decide +kernel
theorem d_KY_compareWith_34 : decode b_KY_compareWith 34 = .ok (.aload_n 0, 1) := by decide +kernel
theorem d_KY_compareWith_35 : decode b_KY_compareWith 35 = .ok (.getfield 7, 3) := by decide +kernel
theorem d_KY_compareWith_38 : decode b_KY_compareWith 38 = .ok (.iload_n 3, 1) := by decide +kernel
theorem d_KY_compareWith_39 : decode b_KY_compareWith 39 = .ok (.caload, 1) := by decide +kernel
theorem d_KY_compareWith_40 : decode b_KY_compareWith 40 = .ok (.aload_n 1, 1) := by decide +kernel
theorem d_KY_compareWith_41 : decode b_KY_compareWith 41 = .ok (.getfield 7, 3) := by decide +kernel
theorem d_KY_compareWith_44 : decode b_KY_compareWith 44 = .ok (.iload_n 3, 1) := by decide +kernel
theorem d_KY_compareWith_45 : decode b_KY_compareWith 45 = .ok (.caload, 1) := by decide +kernel
theorem d_KY_compareWith_46 : decode b_KY_compareWith 46 = .ok (.isub, 1) := by decide +kernel
theorem d_KY_compareWith_47 : decode b_KY_compareWith 47 = .ok (.ireturn, 1) := by decide +kernel
theorem d_KY_compareWith_48 : decode b_KY_compareWith 48 = .ok (.iinc 3 1, 3) := by decide +kernel
theorem d_KY_compareWith_51 : decode b_KY_compareWith 51 = .ok (.goto (-37), 3) := by decide +kernel
theorem d_KY_compareWith_54 : decode b_KY_compareWith 54 = .ok (.aload_n 0, 1) := by decide +kernel
theorem d_KY_compareWith_55 : decode b_KY_compareWith 55 = .ok (.getfield 19, 3) := by decide +kernel
theorem d_KY_compareWith_58 : decode b_KY_compareWith 58 = .ok (.aload_n 1, 1) := by decide +kernel
theorem d_KY_compareWith_59 : decode b_KY_compareWith 59 = .ok (.getfield 19, 3) := by decide +kernel
theorem d_KY_compareWith_62 : decode b_KY_compareWith 62 = .ok (.isub, 1) := by decide +kernel
theorem d_KY_compareWith_63 : decode b_KY_compareWith 63 = .ok (.ireturn, 1) := by decide +kernel
theorem d_RW_stableLength_0 : decode b_RW_stableLength 0 = .ok (.iconst 3, 1) := by decide +kernel
theorem d_RW_stableLength_1 : decode b_RW_stableLength 1 = .ok (.aload_n 0, 1) := by decide +kernel
theorem d_RW_stableLength_2 : decode b_RW_stableLength 2 = .ok (.getfield 19, 3) := by decide +kernel
theorem d_RW_stableLength_5 : decode b_RW_stableLength 5 = .ok (.arraylength, 1) := by decide +kernel
theorem d_RW_stableLength_6 : decode b_RW_stableLength 6 = .ok (.iadd, 1) := by decide +kernel
theorem d_RW_stableLength_7 : decode b_RW_stableLength 7 = .ok (.ireturn, 1) := by decide +kernel
theorem d_RW_stableCharacter_0 : decode b_RW_stableCharacter 0 = .ok (.iload_n 1, 1) := by decide +kernel
theorem d_RW_stableCharacter_1 : decode b_RW_stableCharacter 1 = .ok (.ifCond .ne 11, 3) := by decide +kernel
theorem d_RW_stableCharacter_4 : decode b_RW_stableCharacter 4 = .ok (.bipush 48, 2) := by decide +kernel
theorem d_RW_stableCharacter_6 : decode b_RW_stableCharacter 6 = .ok (.aload_n 0, 1) := by decide +kernel
theorem d_RW_stableCharacter_7 : decode b_RW_stableCharacter 7 = .ok (.getfield 9, 3) := by decide +kernel
theorem d_RW_stableCharacter_10 : decode b_RW_stableCharacter 10 = .ok (.iadd, 1) := by decide +kernel
theorem d_RW_stableCharacter_11 : decode b_RW_stableCharacter 11 = .ok (.ireturn, 1) := by decide +kernel
theorem d_RW_stableCharacter_12 : decode b_RW_stableCharacter 12 = .ok (.iload_n 1, 1) := by decide +kernel
theorem d_RW_stableCharacter_13 : decode b_RW_stableCharacter 13 = .ok (.iconst 1, 1) := by decide +kernel
theorem d_RW_stableCharacter_14 : decode b_RW_stableCharacter 14 = .ok (.if_icmp .ne 15, 3) := by decide +kernel
theorem d_RW_stableCharacter_17 : decode b_RW_stableCharacter 17 = .ok (.bipush 48, 2) := by decide +kernel
theorem d_RW_stableCharacter_19 : decode b_RW_stableCharacter 19 = .ok (.aload_n 0, 1) := by decide +kernel
theorem d_RW_stableCharacter_20 : decode b_RW_stableCharacter 20 = .ok (.getfield 19, 3) := by decide +kernel
theorem d_RW_stableCharacter_23 : decode b_RW_stableCharacter 23 = .ok (.arraylength, 1) := by decide +kernel
theorem d_RW_stableCharacter_24 : decode b_RW_stableCharacter 24 = .ok (.bipush 64, 2) := by decide +kernel
theorem d_RW_stableCharacter_26 : decode b_RW_stableCharacter 26 = .ok (.idiv, 1) := by decide +kernel
theorem d_RW_stableCharacter_27 : decode b_RW_stableCharacter 27 = .ok (.iadd, 1) := by decide +kernel
theorem d_RW_stableCharacter_28 : decode b_RW_stableCharacter 28 = .ok (.ireturn, 1) := by decide +kernel
theorem d_RW_stableCharacter_29 : decode b_RW_stableCharacter 29 = .ok (.iload_n 1, 1) := by decide +kernel
theorem d_RW_stableCharacter_30 : decode b_RW_stableCharacter 30 = .ok (.iconst 2, 1) := by decide +kernel
theorem d_RW_stableCharacter_31 : decode b_RW_stableCharacter 31 = .ok (.if_icmp .ne 15, 3) := by decide +kernel
theorem d_RW_stableCharacter_34 : decode b_RW_stableCharacter 34 = .ok (.bipush 48, 2) := by decide +kernel
theorem d_RW_stableCharacter_36 : decode b_RW_stableCharacter 36 = .ok (.aload_n 0, 1) := by decide +kernel
theorem d_RW_stableCharacter_37 : decode b_RW_stableCharacter 37 = .ok (.getfield 19, 3) := by decide +kernel
theorem d_RW_stableCharacter_40 : decode b_RW_stableCharacter 40 = .ok (.arraylength, 1) := by decide +kernel
theorem d_RW_stableCharacter_41 : decode b_RW_stableCharacter 41 = .ok (.bipush 64, 2) := by decide +kernel
theorem d_RW_stableCharacter_43 : decode b_RW_stableCharacter 43 = .ok (.irem, 1) := by decide +kernel
theorem d_RW_stableCharacter_44 : decode b_RW_stableCharacter 44 = .ok (.iadd, 1) := by decide +kernel
theorem d_RW_stableCharacter_45 : decode b_RW_stableCharacter 45 = .ok (.ireturn, 1) := by decide +kernel
theorem d_RW_stableCharacter_46 : decode b_RW_stableCharacter 46 = .ok (.iload_n 1, 1) := by decide +kernel
theorem d_RW_stableCharacter_47 : decode b_RW_stableCharacter 47 = .ok (.iconst 3, 1) := by decide +kernel
theorem d_RW_stableCharacter_48 : decode b_RW_stableCharacter 48 = .ok (.isub, 1) := by decide +kernel
theorem d_RW_stableCharacter_49 : decode b_RW_stableCharacter 49 = .ok (.istore_n 2, 1) := by decide +kernel
theorem d_RW_stableCharacter_50 : decode b_RW_stableCharacter 50 = .ok (.iload_n 2, 1) := by decide +kernel
theorem d_RW_stableCharacter_51 : decode b_RW_stableCharacter 51 = .ok (.ifCond .lt 12, 3) := by decide +kernel
theorem d_RW_stableCharacter_54 : decode b_RW_stableCharacter 54 = .ok (.iload_n 2, 1) := by decide +kernel
theorem d_RW_stableCharacter_55 : decode b_RW_stableCharacter 55 = .ok (.aload_n 0, 1) := by decide +kernel
theorem d_RW_stableCharacter_56 : decode b_RW_stableCharacter 56 = .ok (.getfield 19, 3) := by decide +kernel
theorem d_RW_stableCharacter_59 : decode b_RW_stableCharacter 59 = .ok (.arraylength, 1) := by decide +kernel
theorem d_RW_stableCharacter_60 : decode b_RW_stableCharacter 60 = .ok (.if_icmp .lt 7, 3) := by decide +kernel
theorem d_RW_stableCharacter_63 : decode b_RW_stableCharacter 63 = .ok (.iconst (-1), 1) := by decide +kernel
theorem d_RW_stableCharacter_64 : decode b_RW_stableCharacter 64 = .ok (.goto 9, 3) := by decide +kernel
theorem d_RW_stableCharacter_67 : decode b_RW_stableCharacter 67 = .ok (.aload_n 0, 1) := by decide +kernel
theorem d_RW_stableCharacter_68 : decode b_RW_stableCharacter 68 = .ok (.getfield 19, 3) := by decide +kernel
theorem d_RW_stableCharacter_71 : decode b_RW_stableCharacter 71 = .ok (.iload_n 2, 1) := by decide +kernel
theorem d_RW_stableCharacter_72 : decode b_RW_stableCharacter 72 = .ok (.caload, 1) := by decide +kernel
theorem d_RW_stableCharacter_73 : decode b_RW_stableCharacter 73 = .ok (.ireturn, 1) := by decide +kernel
theorem d_RW_isBehind_0 : decode b_RW_isBehind 0 = .ok (.aload_n 0, 1) := by decide +kernel
theorem d_RW_isBehind_1 : decode b_RW_isBehind 1 = .ok (.getfield 9, 3) := by decide +kernel
theorem d_RW_isBehind_4 : decode b_RW_isBehind 4 = .ok (.aload_n 1, 1) := by decide +kernel
theorem d_RW_isBehind_5 : decode b_RW_isBehind 5 = .ok (.getfield 9, 3) := by decide +kernel
theorem d_RW_isBehind_8 : decode b_RW_isBehind 8 = .ok (.if_icmp .eq 22, 3) := by decide +kernel
theorem d_RW_isBehind_11 : decode b_RW_isBehind 11 = .ok (.aload_n 0, 1) := by decide +kernel
theorem d_RW_isBehind_12 : decode b_RW_isBehind 12 = .ok (.getfield 9, 3) := by decide +kernel
theorem d_RW_isBehind_15 : decode b_RW_isBehind 15 = .ok (.aload_n 1, 1) := by decide +kernel
theorem d_RW_isBehind_16 : decode b_RW_isBehind 16 = .ok (.getfield 9, 3) := by decide +kernel
theorem d_RW_isBehind_19 : decode b_RW_isBehind 19 = .ok (.if_icmp .le 7, 3) := by decide +kernel
theorem d_RW_isBehind_22 : decode b_RW_isBehind 22 = .ok (.iconst 1, 1) := by decide +kernel
theorem d_RW_isBehind_23 : decode b_RW_isBehind 23 = .ok (.goto 26, 3) := by decide +kernel
theorem d_RW_isBehind_26 : decode b_RW_isBehind 26 = .ok (.iconst 0, 1) := by decide +kernel
theorem d_RW_isBehind_27 : decode b_RW_isBehind 27 = .ok (.goto 22, 3) := by decide +kernel
theorem d_RW_isBehind_30 : decode b_RW_isBehind 30 = .ok (.aload_n 0, 1) := by decide +kernel
theorem d_RW_isBehind_31 : decode b_RW_isBehind 31 = .ok (.getfield 15, 3) := by decide +kernel
theorem d_RW_isBehind_34 : decode b_RW_isBehind 34 = .ok (.aload_n 1, 1) := by decide +kernel
theorem d_RW_isBehind_35 : decode b_RW_isBehind 35 = .ok (.getfield 15, 3) := by decide +kernel
theorem d_RW_isBehind_38 : decode b_RW_isBehind 38 = .ok (.invokevirtual 23, 3) := by decide +kernel
theorem d_RW_isBehind_41 : decode b_RW_isBehind 41 = .ok (.ifCond .le 7, 3) := by decide +kernel
theorem d_RW_isBehind_44 : decode b_RW_isBehind 44 = .ok (.iconst 1, 1) := by decide +kernel
theorem d_RW_isBehind_45 : decode b_RW_isBehind 45 = .ok (.goto 4, 3) := by decide +kernel
theorem d_RW_isBehind_48 : decode b_RW_isBehind 48 = .ok (.iconst 0, 1) := by decide +kernel
theorem d_RW_isBehind_49 : decode b_RW_isBehind 49 = .ok (.ireturn, 1) := by decide +kernel
theorem d_RW_isLike_0 : decode b_RW_isLike 0 = .ok (.aload_n 0, 1) := by decide +kernel
theorem d_RW_isLike_1 : decode b_RW_isLike 1 = .ok (.getfield 9, 3) := by decide +kernel
theorem d_RW_isLike_4 : decode b_RW_isLike 4 = .ok (.aload_n 1, 1) := by decide +kernel
theorem d_RW_isLike_5 : decode b_RW_isLike 5 = .ok (.getfield 9, 3) := by decide +kernel
theorem d_RW_isLike_8 : decode b_RW_isLike 8 = .ok (.if_icmp .ne 16, 3) := by decide +kernel
theorem d_RW_isLike_11 : decode b_RW_isLike 11 = .ok (.aload_n 0, 1) := by decide +kernel
theorem d_RW_isLike_12 : decode b_RW_isLike 12 = .ok (.getfield 19, 3) := by decide +kernel
theorem d_RW_isLike_15 : decode b_RW_isLike 15 = .ok (.arraylength, 1) := by decide +kernel
theorem d_RW_isLike_16 : decode b_RW_isLike 16 = .ok (.aload_n 1, 1) := by decide +kernel
theorem d_RW_isLike_17 : decode b_RW_isLike 17 = .ok (.getfield 19, 3) := by decide +kernel
theorem d_RW_isLike_20 : decode b_RW_isLike 20 = .ok (.arraylength, 1) := by decide +kernel
theorem d_RW_isLike_21 : decode b_RW_isLike 21 = .ok (.if_icmp .eq 5, 3) := by decide +kernel
theorem d_RW_isLike_24 : decode b_RW_isLike 24 = .ok (.iconst 0, 1) := by decide +kernel
theorem d_RW_isLike_25 : decode b_RW_isLike 25 = .ok (.ireturn, 1) := by decide +kernel
theorem d_RW_isLike_26 : decode b_RW_isLike 26 = .ok (.iconst 0, 1) := by decide +kernel
theorem d_RW_isLike_27 : decode b_RW_isLike 27 = .ok (.istore_n 2, 1) := by decide +kernel
theorem d_RW_isLike_28 : decode b_RW_isLike 28 = .ok (.iload_n 2, 1) := by decide +kernel
theorem d_RW_isLike_29 : decode b_RW_isLike 29 = .ok (.aload_n 0, 1) := by decide +kernel
theorem d_RW_isLike_30 : decode b_RW_isLike 30 = .ok (.getfield 19, 3) := by decide +kernel
theorem d_RW_isLike_33 : decode b_RW_isLike 33 = .ok (.arraylength, 1) := by decide +kernel
theorem d_RW_isLike_34 : decode b_RW_isLike 34 = .ok (.if_icmp .ge 26, 3) := by decide +kernel
theorem d_RW_isLike_37 : decode b_RW_isLike 37 = .ok (.aload_n 0, 1) := by decide +kernel
theorem d_RW_isLike_38 : decode b_RW_isLike 38 = .ok (.getfield 19, 3) := by decide +kernel
theorem d_RW_isLike_41 : decode b_RW_isLike 41 = .ok (.iload_n 2, 1) := by decide +kernel
theorem d_RW_isLike_42 : decode b_RW_isLike 42 = .ok (.caload, 1) := by decide +kernel
theorem d_RW_isLike_43 : decode b_RW_isLike 43 = .ok (.aload_n 1, 1) := by decide +kernel
theorem d_RW_isLike_44 : decode b_RW_isLike 44 = .ok (.getfield 19, 3) := by decide +kernel
theorem d_RW_isLike_47 : decode b_RW_isLike 47 = .ok (.iload_n 2, 1) := by decide +kernel
theorem d_RW_isLike_48 : decode b_RW_isLike 48 = .ok (.caload, 1) := by decide +kernel
theorem d_RW_isLike_49 : decode b_RW_isLike 49 = .ok (.if_icmp .eq 5, 3) := by decide +kernel
theorem d_RW_isLike_52 : decode b_RW_isLike 52 = .ok (.iconst 0, 1) := by decide +kernel
theorem d_RW_isLike_53 : decode b_RW_isLike 53 = .ok (.ireturn, 1) := by decide +kernel
theorem d_RW_isLike_54 : decode b_RW_isLike 54 = .ok (.iinc 2 1, 3) := by decide +kernel
theorem d_RW_isLike_57 : decode b_RW_isLike 57 = .ok (.goto (-29), 3) := by decide +kernel
theorem d_RW_isLike_60 : decode b_RW_isLike 60 = .ok (.iconst 1, 1) := by decide +kernel
theorem d_RW_isLike_61 : decode b_RW_isLike 61 = .ok (.ireturn, 1) := by decide +kernel
set_option maxHeartbeats 4000000 in
set_option maxRecDepth 100000 in
/-- the order of PATHS and NAMES -/
theorem c_KY_compareWith (l : Launch) (D : va_G) (ct : Nat → ClassId) (Z : hp_Z) (hZ : hp_Zok Z) (M : hp_M) (sz : Nat) (fz : Nat → Prop) (a b : Nat) (K L : List Nat) (hka : kyOk ct fz M a K) (hkb : kyOk ct fz M b L) : Mi l y_KY_compareWith b_KY_compareWith 4 (some .int) 1 13 0 0 [.ref a, .ref b] D ct Z M sz (fun r M1 => M1 = M ∧ cmpR r (cmpK K L)) := by
  refine hp_start (by decide) (Nat.le_of_ble_eq_true rfl) (fun p e s m below meth c ls S hret hlk hnm hsz hK hM hS hA hz hl => ?_)
  have hx := S.1
  have hb := S.2.1
  have hl : lv_has ls 4 [(0, .ref a), (1, .ref b)] := hl
  obtain ⟨ca, xa, f_a, f_ca, hta, hla, hxa, hc_xa, -⟩ := hka
  obtain ⟨cb, xb, f_b, f_cb, htb, hlb, hxb, hc_xb, -⟩ := hkb
  have ga : ∀ i, i < K.length → K.getD i 0 = xa.getD i 0 := fun i hi => by have h := take_getD (x := xa) hi; rw [hta] at h; exact h
  have gb : ∀ i, i < L.length → L.getD i 0 = xb.getD i 0 := fun i hi => by have h := take_getD (x := xb) hi; rw [htb] at h; exact h
  refine lv_aload_n hx hb d_KY_compareWith_0 rfl (lv_at hl 0 rfl) ?_
  refine hp_get S hK hM i_KY f_a rfl 1 (by decide) mf_KY_19 (fun _ h9 => h9) rfl d_KY_compareWith_1 ?_
  refine lv_aload_n hx hb d_KY_compareWith_4 rfl (lv_at hl 1 rfl) ?_
  refine hp_get S hK hM i_KY f_b rfl 1 (by decide) mf_KY_19 (fun _ h9 => h9) rfl d_KY_compareWith_5 ?_
  refine va_mmin hx hb (by rw [S.2.2.1]; exact hl.1.symm) S.2.2.2.1 (S.2.2.2.2 _ ml_KY_13) (S.2.2.2.2 _ ms_MA_min) (S.2.2.2.2 _ mz_MA) (S.2.2.2.2 _ mc_MA_min) (by decide) (Nat.le_of_ble_eq_true rfl) (by decide) (by decide) d_KY_compareWith_8 ?_
  rw [min_nI (by omega) (by omega)]
  refine lv_istore_n (lv' := [(2, .int (nI (min K.length L.length))), (0, .ref a), (1, .ref b)]) hx hb d_KY_compareWith_11 rfl hl (by decide) rfl (fun ls hl => ?_)
  refine lv_iconst (v := nI 0) hx hb d_KY_compareWith_12 rfl ?_
  refine lv_istore_n (lv' := [(3, .int (nI 0)), (2, .int (nI (min K.length L.length))), (0, .ref a), (1, .ref b)]) hx hb d_KY_compareWith_13 rfl hl (by decide) rfl (fun ls hl => ?_)
  replace hl : lv_has ls 4 [(0, .ref a), (1, .ref b), (2, .int (nI (min K.length L.length))), (3, .int (nI 0))] := lv_sub hl [2, 3, 1, 0] rfl
  obtain ⟨j, e9j⟩ : ∃ z : Nat, z = 0 := ⟨_, rfl⟩
  replace hl : lv_has ls 4 [(0, .ref a), (1, .ref b), (2, .int (nI (min K.length L.length))), (3, .int (nI j))] := by subst e9j; exact hl
  have hinv : ∀ i, i < j → xa.getD i 0 = xb.getD i 0 := by subst e9j; intro i hi; omega
  obtain ⟨fu, hn⟩ : ∃ fu : Nat, j + fu = min K.length L.length := ⟨min K.length L.length - j, by omega⟩
  clear e9j
  induction fu generalizing j ls with
  | zero =>
    have hn : j = min K.length L.length := by omega
    refine lv_iload_n hx hb d_KY_compareWith_14 rfl (lv_at hl 3 rfl) ?_
    refine lv_iload_n hx hb d_KY_compareWith_15 rfl (lv_at hl 2 rfl) ?_
    refine nb_ge (tgt := 54) hx hb d_KY_compareWith_16 (by decide) (by omega) (by omega) (fun h1 => ?_) (fun h1 => ?_)
    · refine lv_aload_n hx hb d_KY_compareWith_54 rfl (lv_at hl 0 rfl) ?_
      refine hp_get S hK hM i_KY f_a rfl 1 (by decide) mf_KY_19 (fun _ h9 => h9) rfl d_KY_compareWith_55 ?_
      refine lv_aload_n hx hb d_KY_compareWith_58 rfl (lv_at hl 1 rfl) ?_
      refine hp_get S hK hM i_KY f_b rfl 1 (by decide) mf_KY_19 (fun _ h9 => h9) rfl d_KY_compareWith_59 ?_
      refine lv_isub hx hb d_KY_compareWith_62 ?_
      have hs := sub_sgn (a := K.length) (b := L.length) (by omega) (by omega)
      have hc := cmpK_pre K L (fun i h1 h2 => by rw [ga i h1, gb i h2]; exact hinv i (by omega))
      refine hp_iret S hret hlk rfl hM hS ⟨rfl, ?_⟩ d_KY_compareWith_63
      rw [hc]; unfold cmpR; rw [hs.1, hs.2]
      by_cases q1 : K.length = L.length
      · rw [if_pos q1]; omega
      · rw [if_neg q1]
        by_cases q2 : K.length < L.length
        · rw [if_pos q2]; omega
        · rw [if_neg q2]; omega
    · exact absurd hn (by omega)
  | succ fu ih =>
    refine lv_iload_n hx hb d_KY_compareWith_14 rfl (lv_at hl 3 rfl) ?_
    refine lv_iload_n hx hb d_KY_compareWith_15 rfl (lv_at hl 2 rfl) ?_
    refine nb_ge (tgt := 54) hx hb d_KY_compareWith_16 (by decide) (by omega) (by omega) (fun h2 => ?_) (fun h2 => ?_)
    · exact absurd hn (by omega)
    · refine lv_aload_n hx hb d_KY_compareWith_19 rfl (lv_at hl 0 rfl) ?_
      refine hp_get S hK hM i_KY f_a rfl 0 (by decide) mf_KY_7 (fun _ h9 => h9) rfl d_KY_compareWith_20 ?_
      refine lv_iload_n hx hb d_KY_compareWith_23 rfl (lv_at hl 3 rfl) ?_
      refine hp_cald S hK hM 0 f_ca rfl j rfl (by omega) (by omega) d_KY_compareWith_24 ?_
      refine lv_aload_n hx hb d_KY_compareWith_25 rfl (lv_at hl 1 rfl) ?_
      refine hp_get S hK hM i_KY f_b rfl 0 (by decide) mf_KY_7 (fun _ h9 => h9) rfl d_KY_compareWith_26 ?_
      refine lv_iload_n hx hb d_KY_compareWith_29 rfl (lv_at hl 3 rfl) ?_
      refine hp_cald S hK hM 0 f_cb rfl j rfl (by omega) (by omega) d_KY_compareWith_30 ?_
      refine nb_eq (tgt := 48) hx hb d_KY_compareWith_31 (by decide) (Nat.lt_trans (hc_xa _) (by decide)) (Nat.lt_trans (hc_xb _) (by decide)) (fun heq => ?_) (fun heq => ?_)
      · refine lv_iinc (v := nI (j + 1)) (lv' := [(3, .int (nI (j + 1))), (0, .ref a), (1, .ref b), (2, .int (nI (min K.length L.length)))]) hx hb d_KY_compareWith_48 hl (k := 3) rfl (nI_add j 1) (by decide) rfl (fun ls hl => ?_)
        refine lv_goto (tgt := 14) hx hb d_KY_compareWith_51 (by decide) ?_
        exact ih (ls := ls) (hl := lv_sub hl [1, 2, 3, 0] rfl) (j := j + 1) (hn := by omega) (hinv := lt_s hinv heq)
      · refine lv_aload_n hx hb d_KY_compareWith_34 rfl (lv_at hl 0 rfl) ?_
        refine hp_get S hK hM i_KY f_a rfl 0 (by decide) mf_KY_7 (fun _ h9 => h9) rfl d_KY_compareWith_35 ?_
        refine lv_iload_n hx hb d_KY_compareWith_38 rfl (lv_at hl 3 rfl) ?_
        refine hp_cald S hK hM 0 f_ca rfl j rfl (by omega) (by omega) d_KY_compareWith_39 ?_
        refine lv_aload_n hx hb d_KY_compareWith_40 rfl (lv_at hl 1 rfl) ?_
        refine hp_get S hK hM i_KY f_b rfl 0 (by decide) mf_KY_7 (fun _ h9 => h9) rfl d_KY_compareWith_41 ?_
        refine lv_iload_n hx hb d_KY_compareWith_44 rfl (lv_at hl 3 rfl) ?_
        refine hp_cald S hK hM 0 f_cb rfl j rfl (by omega) (by omega) d_KY_compareWith_45 ?_
        refine lv_isub hx hb d_KY_compareWith_46 ?_
        have hs := sub_sgn (a := xa.getD j 0) (b := xb.getD j 0) (Nat.lt_trans (hc_xa _) (by decide)) (Nat.lt_trans (hc_xb _) (by decide))
        have hc := cmpK_diff K L j (by omega) (by omega) (fun i hi => by rw [ga i (by omega), gb i (by omega)]; exact hinv i hi) (by rw [ga j (by omega), gb j (by omega)]; exact heq)
        rw [ga j (by omega), gb j (by omega)] at hc
        refine hp_iret S hret hlk rfl hM hS ⟨rfl, ?_⟩ d_KY_compareWith_47
        show cmpR (nI (xa.getD j 0) - nI (xb.getD j 0)) _
        rw [hc]; unfold cmpR; rw [hs.1, hs.2]
        by_cases q2 : xa.getD j 0 < xb.getD j 0
        · rw [if_pos q2]; omega
        · rw [if_neg q2]; omega
set_option maxHeartbeats 4000000 in
set_option maxRecDepth 100000 in
/-- how many characters a row gives -/
theorem c_RW_stableLength (l : Launch) (D : va_G) (ct : Nat → ClassId) (Z : hp_Z) (hZ : hp_Zok Z) (M : hp_M) (sz : Nat) (fz : Nat → Prop) (a : Nat) (R : RowT) (hra : rwOk ct fz M a R) : Mi l y_RW_stableLength b_RW_stableLength 1 (some .int) 0 0 0 0 [.ref a] D ct Z M sz (fun r M1 => M1 = M ∧ r = nI (stT R).length) := by
  refine hp_start (by decide) (Nat.le_of_ble_eq_true rfl) (fun p e s m below meth c ls S hret hlk hnm hsz hK hM hS hA hz hl => ?_)
  have hx := S.1
  have hb := S.2.1
  have hl : lv_has ls 1 [(0, .ref a)] := hl
  obtain ⟨ky, ba, f_a, hky, f_ba, hbl, hc_bd, hfb, hk7⟩ := hra
  refine lv_iconst (v := nI 3) hx hb d_RW_stableLength_0 rfl ?_
  refine lv_aload_n hx hb d_RW_stableLength_1 rfl (lv_at hl 0 rfl) ?_
  refine hp_get S hK hM i_RW f_a rfl 2 (by decide) mf_RW_19 (fun _ h9 => h9) rfl d_RW_stableLength_2 ?_
  refine hp_alen S hK hM 0 f_ba rfl d_RW_stableLength_5 ?_
  refine nb_iadd hx hb d_RW_stableLength_6 ?_
  exact hp_iret S hret hlk (rfl) hM hS (⟨rfl, congrArg nI (show 3 + R.2.2.length = (R.2.2.length + 1 + 1 + 1) by omega)⟩) d_RW_stableLength_7
set_option maxHeartbeats 4000000 in
set_option maxRecDepth 100000 in
/-- a character of a row -/
theorem c_RW_stableCharacter (l : Launch) (D : va_G) (ct : Nat → ClassId) (Z : hp_Z) (hZ : hp_Zok Z) (M : hp_M) (sz : Nat) (fz : Nat → Prop) (a : Nat) (R : RowT) (hra : rwOk ct fz M a R) (i : Nat) (hi : i < (stT R).length) : Mi l y_RW_stableCharacter b_RW_stableCharacter 3 (some .int) 0 0 0 0 [.ref a, .int (nI i)] D ct Z M sz (fun r M1 => M1 = M ∧ r = nI ((stT R).getD i 0)) := by
  refine hp_start (by decide) (Nat.le_of_ble_eq_true rfl) (fun p e s m below meth c ls S hret hlk hnm hsz hK hM hS hA hz hl => ?_)
  have hx := S.1
  have hb := S.2.1
  have hl : lv_has ls 3 [(0, .ref a), (1, .int (nI i))] := hl
  obtain ⟨ky, ba, f_a, hky, f_ba, hbl, hc_bd, hfb, hk7⟩ := hra
  have hi : i < R.2.2.length + 3 := hi
  refine lv_iload_n hx hb d_RW_stableCharacter_0 rfl (lv_at hl 1 rfl) ?_
  refine nz_ne (tgt := 12) hx hb d_RW_stableCharacter_1 (by decide) (by omega) (fun h1 => ?_) (fun h1 => ?_)
  · refine lv_iload_n hx hb d_RW_stableCharacter_12 rfl (lv_at hl 1 rfl) ?_
    refine lv_iconst (v := nI 1) hx hb d_RW_stableCharacter_13 rfl ?_
    refine nb_ne (tgt := 29) hx hb d_RW_stableCharacter_14 (by decide) (by omega) (by omega) (fun h2 => ?_) (fun h2 => ?_)
    · refine lv_iload_n hx hb d_RW_stableCharacter_29 rfl (lv_at hl 1 rfl) ?_
      refine lv_iconst (v := nI 2) hx hb d_RW_stableCharacter_30 rfl ?_
      refine nb_ne (tgt := 46) hx hb d_RW_stableCharacter_31 (by decide) (by omega) (by omega) (fun h3 => ?_) (fun h3 => ?_)
      · refine lv_iload_n hx hb d_RW_stableCharacter_46 rfl (lv_at hl 1 rfl) ?_
        refine lv_iconst (v := nI 3) hx hb d_RW_stableCharacter_47 rfl ?_
        refine nb_isub hx hb d_RW_stableCharacter_48 (by omega) ?_
        refine lv_istore_n (lv' := [(2, .int (nI (i - 3))), (0, .ref a), (1, .int (nI i))]) hx hb d_RW_stableCharacter_49 rfl hl (by decide) rfl (fun ls hl => ?_)
        refine lv_iload_n hx hb d_RW_stableCharacter_50 rfl (lv_at hl 0 rfl) ?_
        refine nz_lt (tgt := 63) hx hb d_RW_stableCharacter_51 (by decide) (by omega) (fun h4 => ?_) (fun h4 => ?_)
        · exact absurd h4 (fun q => q)
        · refine lv_iload_n hx hb d_RW_stableCharacter_54 rfl (lv_at hl 0 rfl) ?_
          refine lv_aload_n hx hb d_RW_stableCharacter_55 rfl (lv_at hl 1 rfl) ?_
          refine hp_get S hK hM i_RW f_a rfl 2 (by decide) mf_RW_19 (fun _ h9 => h9) rfl d_RW_stableCharacter_56 ?_
          refine hp_alen S hK hM 0 f_ba rfl d_RW_stableCharacter_59 ?_
          refine nb_lt (tgt := 67) hx hb d_RW_stableCharacter_60 (by decide) (by omega) (by omega) (fun h5 => ?_) (fun h5 => ?_)
          · refine lv_aload_n hx hb d_RW_stableCharacter_67 rfl (lv_at hl 1 rfl) ?_
            refine hp_get S hK hM i_RW f_a rfl 2 (by decide) mf_RW_19 (fun _ h9 => h9) rfl d_RW_stableCharacter_68 ?_
            refine lv_iload_n hx hb d_RW_stableCharacter_71 rfl (lv_at hl 0 rfl) ?_
            refine hp_cald S hK hM 0 f_ba rfl (i - 3) rfl (by omega) (by omega) d_RW_stableCharacter_72 ?_
            obtain ⟨u, eu⟩ : ∃ u, i = u + 3 := ⟨i - 3, by omega⟩
            subst eu
            exact hp_iret S hret hlk rfl hM hS ⟨rfl, rfl⟩ d_RW_stableCharacter_73
          · exact absurd h5 (by omega)
      · refine lv_bipush (v := nI 48) hx hb d_RW_stableCharacter_34 rfl ?_
        refine lv_aload_n hx hb d_RW_stableCharacter_36 rfl (lv_at hl 0 rfl) ?_
        refine hp_get S hK hM i_RW f_a rfl 2 (by decide) mf_RW_19 (fun _ h9 => h9) rfl d_RW_stableCharacter_37 ?_
        refine hp_alen S hK hM 0 f_ba rfl d_RW_stableCharacter_40 ?_
        refine lv_bipush (v := nI 64) hx hb d_RW_stableCharacter_41 rfl ?_
        refine nb_irem hx hb d_RW_stableCharacter_43 (by omega) (by omega) (by omega) ?_
        refine nb_iadd hx hb d_RW_stableCharacter_44 ?_
        have e0 : i = 2 := by omega
        subst e0
        exact hp_iret S hret hlk rfl hM hS ⟨rfl, rfl⟩ d_RW_stableCharacter_45
    · refine lv_bipush (v := nI 48) hx hb d_RW_stableCharacter_17 rfl ?_
      refine lv_aload_n hx hb d_RW_stableCharacter_19 rfl (lv_at hl 0 rfl) ?_
      refine hp_get S hK hM i_RW f_a rfl 2 (by decide) mf_RW_19 (fun _ h9 => h9) rfl d_RW_stableCharacter_20 ?_
      refine hp_alen S hK hM 0 f_ba rfl d_RW_stableCharacter_23 ?_
      refine lv_bipush (v := nI 64) hx hb d_RW_stableCharacter_24 rfl ?_
      refine nb_idiv hx hb d_RW_stableCharacter_26 (by omega) (by omega) (by omega) ?_
      refine nb_iadd hx hb d_RW_stableCharacter_27 ?_
      have e0 : i = 1 := by omega
      subst e0
      exact hp_iret S hret hlk rfl hM hS ⟨rfl, rfl⟩ d_RW_stableCharacter_28
  · refine lv_bipush (v := nI 48) hx hb d_RW_stableCharacter_4 rfl ?_
    refine lv_aload_n hx hb d_RW_stableCharacter_6 rfl (lv_at hl 0 rfl) ?_
    refine hp_get S hK hM i_RW f_a rfl 0 (by decide) mf_RW_9 (fun _ h9 => h9) rfl d_RW_stableCharacter_7 ?_
    refine nb_iadd hx hb d_RW_stableCharacter_10 ?_
    have e0 : i = 0 := by omega
    subst e0
    exact hp_iret S hret hlk rfl hM hS ⟨rfl, rfl⟩ d_RW_stableCharacter_11
set_option maxHeartbeats 4000000 in
set_option maxRecDepth 100000 in
/-- a row comes behind another -/
theorem c_RW_isBehind (l : Launch) (D : va_G) (ct : Nat → ClassId) (Z : hp_Z) (hZ : hp_Zok Z) (M : hp_M) (sz : Nat) (fz : Nat → Prop) (a b : Nat) (R R2 : RowT) (hra : rwOk ct fz M a R) (hrb : rwOk ct fz M b R2) : Mi l y_RW_isBehind b_RW_isBehind 2 (some .boolean) 2 36 0 0 [.ref a, .ref b] D ct Z M sz (fun r M1 => M1 = M ∧ bo r (behind R R2)) := by
  refine hp_start (by decide) (Nat.le_of_ble_eq_true rfl) (fun p e s m below meth c ls S hret hlk hnm hsz hK hM hS hA hz hl => ?_)
  have hx := S.1
  have hb := S.2.1
  have hl : lv_has ls 2 [(0, .ref a), (1, .ref b)] := hl
  obtain ⟨ky, ba, f_a, hky, f_ba, hbl, hc_bd, hfb, hk7⟩ := hra
  obtain ⟨ky2, ba2, f_b, hky2, f_ba2, hbl2, hc_bd2, hfb2, hk72⟩ := hrb
  obtain ⟨ca, xa, f_ky, -⟩ := id hky
  refine lv_aload_n hx hb d_RW_isBehind_0 rfl (lv_at hl 0 rfl) ?_
  refine hp_get S hK hM i_RW f_a rfl 0 (by decide) mf_RW_9 (fun _ h9 => h9) rfl d_RW_isBehind_1 ?_
  refine lv_aload_n hx hb d_RW_isBehind_4 rfl (lv_at hl 1 rfl) ?_
  refine hp_get S hK hM i_RW f_b rfl 0 (by decide) mf_RW_9 (fun _ h9 => h9) rfl d_RW_isBehind_5 ?_
  refine nb_eq (tgt := 30) hx hb d_RW_isBehind_8 (by decide) (by omega) (by omega) (fun hAA => ?_) (fun hAA => ?_)
  · refine lv_aload_n hx hb d_RW_isBehind_30 rfl (lv_at hl 0 rfl) ?_
    refine hp_get S hK hM i_RW f_a rfl 1 (by decide) mf_RW_15 (fun _ h9 => h9) rfl d_RW_isBehind_31 ?_
    refine lv_aload_n hx hb d_RW_isBehind_34 rfl (lv_at hl 1 rfl) ?_
    refine hp_get S hK hM i_RW f_b rfl 1 (by decide) mf_RW_15 (fun _ h9 => h9) rfl d_RW_isBehind_35 ?_
    refine hp_calli (go_V S hZ hK hM hS hA hz (c_KY_compareWith l D ct Z hZ _ _ fz ky ky2 R.2.1 R2.2.1 hky hky2) mc_KY_compareWith mz_KY ml_RW_23 mi_KY_compareWith mx_KY_compareWith hd_KY_compareWith rfl ⟨by decide, by decide⟩ f_ky rfl rfl hl.1 rfl (Nat.le_of_ble_eq_true rfl) d_RW_isBehind_38 ⟨by decide, by decide⟩) hM hS hA (fun r1 N2 H locs hr1 hM hS => ?_)
    rw [hr1.1] at hM
    replace hr1 := hr1.2
    refine lv_if_le (tgt := 48) hx hb d_RW_isBehind_41 (by decide) (fun hCC => ?_) (fun hCC => ?_)
    · refine lv_iconst (v := nI 0) hx hb d_RW_isBehind_48 rfl ?_
      exact hp_iret S hret hlk rfl hM hS ⟨rfl, bo_f (fun q => q.elim (fun q => by omega) (fun q => absurd (hr1.2.mpr q.2) (Int32.not_lt.mpr hCC)))⟩ d_RW_isBehind_49
    · refine lv_iconst (v := nI 1) hx hb d_RW_isBehind_44 rfl ?_
      refine lv_goto (tgt := 49) hx hb d_RW_isBehind_45 (by decide) ?_
      exact hp_iret S hret hlk rfl hM hS ⟨rfl, bo_t (Or.inr ⟨hAA, hr1.2.mp (Int32.not_le.mp hCC)⟩)⟩ d_RW_isBehind_49
  · refine lv_aload_n hx hb d_RW_isBehind_11 rfl (lv_at hl 0 rfl) ?_
    refine hp_get S hK hM i_RW f_a rfl 0 (by decide) mf_RW_9 (fun _ h9 => h9) rfl d_RW_isBehind_12 ?_
    refine lv_aload_n hx hb d_RW_isBehind_15 rfl (lv_at hl 1 rfl) ?_
    refine hp_get S hK hM i_RW f_b rfl 0 (by decide) mf_RW_9 (fun _ h9 => h9) rfl d_RW_isBehind_16 ?_
    refine nb_le (tgt := 26) hx hb d_RW_isBehind_19 (by decide) (by omega) (by omega) (fun hBB => ?_) (fun hBB => ?_)
    · refine lv_iconst (v := nI 0) hx hb d_RW_isBehind_26 rfl ?_
      refine lv_goto (tgt := 49) hx hb d_RW_isBehind_27 (by decide) ?_
      exact hp_iret S hret hlk rfl hM hS ⟨rfl, bo_f (fun q => q.elim (fun q => by omega) (fun q => hAA q.1))⟩ d_RW_isBehind_49
    · refine lv_iconst (v := nI 1) hx hb d_RW_isBehind_22 rfl ?_
      refine lv_goto (tgt := 49) hx hb d_RW_isBehind_23 (by decide) ?_
      exact hp_iret S hret hlk rfl hM hS ⟨rfl, bo_t (Or.inl (by omega))⟩ d_RW_isBehind_49
set_option maxHeartbeats 4000000 in
set_option maxRecDepth 100000 in
/-- two rows say the same -/
theorem c_RW_isLike (l : Launch) (D : va_G) (ct : Nat → ClassId) (Z : hp_Z) (hZ : hp_Zok Z) (M : hp_M) (sz : Nat) (fz : Nat → Prop) (a b : Nat) (R R2 : RowT) (hra : rwOk ct fz M a R) (hrb : rwOk ct fz M b R2) : Mi l y_RW_isLike b_RW_isLike 3 (some .boolean) 0 0 0 0 [.ref a, .ref b] D ct Z M sz (fun r M1 => M1 = M ∧ bo r (R.1 = R2.1 ∧ R.2.2 = R2.2.2)) := by
  refine hp_start (by decide) (Nat.le_of_ble_eq_true rfl) (fun p e s m below meth c ls S hret hlk hnm hsz hK hM hS hA hz hl => ?_)
  have hx := S.1
  have hb := S.2.1
  have hl : lv_has ls 3 [(0, .ref a), (1, .ref b)] := hl
  obtain ⟨ky, ba, f_a, hky, f_ba, hbl, hc_bd, hfb, hk7⟩ := hra
  obtain ⟨ky2, ba2, f_b, hky2, f_ba2, hbl2, hc_bd2, hfb2, hk72⟩ := hrb
  refine lv_aload_n hx hb d_RW_isLike_0 rfl (lv_at hl 0 rfl) ?_
  refine hp_get S hK hM i_RW f_a rfl 0 (by decide) mf_RW_9 (fun _ h9 => h9) rfl d_RW_isLike_1 ?_
  refine lv_aload_n hx hb d_RW_isLike_4 rfl (lv_at hl 1 rfl) ?_
  refine hp_get S hK hM i_RW f_b rfl 0 (by decide) mf_RW_9 (fun _ h9 => h9) rfl d_RW_isLike_5 ?_
  refine nb_ne (tgt := 24) hx hb d_RW_isLike_8 (by decide) (by omega) (by omega) (fun hAA => ?_) (fun hAA => ?_)
  · refine lv_iconst (v := nI 0) hx hb d_RW_isLike_24 rfl ?_
    exact hp_iret S hret hlk (rfl) hM hS (⟨rfl, bo_f (fun q => by first | exact hAA q.1 | exact hBB (by rw [q.2]))⟩) d_RW_isLike_25
  · refine lv_aload_n hx hb d_RW_isLike_11 rfl (lv_at hl 0 rfl) ?_
    refine hp_get S hK hM i_RW f_a rfl 2 (by decide) mf_RW_19 (fun _ h9 => h9) rfl d_RW_isLike_12 ?_
    refine hp_alen S hK hM 0 f_ba rfl d_RW_isLike_15 ?_
    refine lv_aload_n hx hb d_RW_isLike_16 rfl (lv_at hl 1 rfl) ?_
    refine hp_get S hK hM i_RW f_b rfl 2 (by decide) mf_RW_19 (fun _ h9 => h9) rfl d_RW_isLike_17 ?_
    refine hp_alen S hK hM 0 f_ba2 rfl d_RW_isLike_20 ?_
    refine nb_eq (tgt := 26) hx hb d_RW_isLike_21 (by decide) (by omega) (by omega) (fun hBB => ?_) (fun hBB => ?_)
    · refine lv_iconst (v := nI 0) hx hb d_RW_isLike_26 rfl ?_
      refine lv_istore_n (lv' := [(2, .int (nI 0)), (0, .ref a), (1, .ref b)]) hx hb d_RW_isLike_27 rfl hl (by decide) rfl (fun ls hl => ?_)
      replace hl : lv_has ls 3 [(0, .ref a), (1, .ref b), (2, .int (nI 0))] := lv_sub hl [1, 2, 0] rfl
      obtain ⟨j, e9j⟩ : ∃ z : Nat, z = 0 := ⟨_, rfl⟩
      replace hl : lv_has ls 3 [(0, .ref a), (1, .ref b), (2, .int (nI j))] := by subst e9j; exact hl
      have hinv : ∀ i, i < j → R.2.2.getD i 0 = R2.2.2.getD i 0 := by subst e9j; intro i hi; omega
      obtain ⟨fu, hn⟩ : ∃ fu : Nat, j + fu = R.2.2.length := ⟨R.2.2.length - j, by omega⟩
      clear e9j
      induction fu generalizing j ls with
      | zero =>
        have hn : j = R.2.2.length := by omega
        refine lv_iload_n hx hb d_RW_isLike_28 rfl (lv_at hl 2 rfl) ?_
        refine lv_aload_n hx hb d_RW_isLike_29 rfl (lv_at hl 0 rfl) ?_
        refine hp_get S hK hM i_RW f_a rfl 2 (by decide) mf_RW_19 (fun _ h9 => h9) rfl d_RW_isLike_30 ?_
        refine hp_alen S hK hM 0 f_ba rfl d_RW_isLike_33 ?_
        refine nb_ge (tgt := 60) hx hb d_RW_isLike_34 (by decide) (by omega) (by omega) (fun h1 => ?_) (fun h1 => ?_)
        · refine lv_iconst (v := nI 1) hx hb d_RW_isLike_60 rfl ?_
          exact hp_iret S hret hlk (rfl) hM hS (⟨rfl, bo_t ⟨hAA, list_ext hBB (fun i h1 => hinv i (by omega))⟩⟩) d_RW_isLike_61
        · exact absurd hn (by omega)
      | succ fu ih =>
        refine lv_iload_n hx hb d_RW_isLike_28 rfl (lv_at hl 2 rfl) ?_
        refine lv_aload_n hx hb d_RW_isLike_29 rfl (lv_at hl 0 rfl) ?_
        refine hp_get S hK hM i_RW f_a rfl 2 (by decide) mf_RW_19 (fun _ h9 => h9) rfl d_RW_isLike_30 ?_
        refine hp_alen S hK hM 0 f_ba rfl d_RW_isLike_33 ?_
        refine nb_ge (tgt := 60) hx hb d_RW_isLike_34 (by decide) (by omega) (by omega) (fun h2 => ?_) (fun h2 => ?_)
        · exact absurd hn (by omega)
        · refine lv_aload_n hx hb d_RW_isLike_37 rfl (lv_at hl 0 rfl) ?_
          refine hp_get S hK hM i_RW f_a rfl 2 (by decide) mf_RW_19 (fun _ h9 => h9) rfl d_RW_isLike_38 ?_
          refine lv_iload_n hx hb d_RW_isLike_41 rfl (lv_at hl 2 rfl) ?_
          refine hp_cald S hK hM 0 f_ba rfl j rfl (by omega) (by omega) d_RW_isLike_42 ?_
          refine lv_aload_n hx hb d_RW_isLike_43 rfl (lv_at hl 1 rfl) ?_
          refine hp_get S hK hM i_RW f_b rfl 2 (by decide) mf_RW_19 (fun _ h9 => h9) rfl d_RW_isLike_44 ?_
          refine lv_iload_n hx hb d_RW_isLike_47 rfl (lv_at hl 2 rfl) ?_
          refine hp_cald S hK hM 0 f_ba2 rfl j rfl (by omega) (by omega) d_RW_isLike_48 ?_
          refine nb_eq (tgt := 54) hx hb d_RW_isLike_49 (by decide) (Nat.lt_trans (hc_bd _) (by decide)) (Nat.lt_trans (hc_bd2 _) (by decide)) (fun heq => ?_) (fun heq => ?_)
          · refine lv_iinc (v := nI (j + 1)) (lv' := [(2, .int (nI (j + 1))), (0, .ref a), (1, .ref b)]) hx hb d_RW_isLike_54 hl (k := 2) rfl (nI_add j 1) (by decide) rfl (fun ls hl => ?_)
            refine lv_goto (tgt := 28) hx hb d_RW_isLike_57 (by decide) ?_
            exact ih (ls := ls) (hl := lv_sub hl [1, 2, 0] rfl) (j := j + 1) (hn := by omega) (hinv := lt_s hinv heq)
          · refine lv_iconst (v := nI 0) hx hb d_RW_isLike_52 rfl ?_
            exact hp_iret S hret hlk (rfl) hM hS (⟨rfl, bo_f (fun q => heq (by rw [q.2]))⟩) d_RW_isLike_53
    · refine lv_iconst (v := nI 0) hx hb d_RW_isLike_24 rfl ?_
      exact hp_iret S hret hlk (rfl) hM hS (⟨rfl, bo_f (fun q => by first | exact hAA q.1 | exact hBB (by rw [q.2]))⟩) d_RW_isLike_25
