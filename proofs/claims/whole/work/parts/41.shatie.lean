/-! TWO SUMS, ONE DIGEST: bytes fed one by one, and the padded blocks -/
theorem bv4 (g a b c d : BitVec 32) : ((((((g <<< 8 ||| a) <<< 8) ||| b) <<< 8 ||| c) <<< 8) ||| d) = (((a <<< 24 ||| b <<< 16) ||| c <<< 8) ||| d) := by
  simp only [BitVec.shiftLeft_or_distrib, ← BitVec.shiftLeft_add]
  have z : g <<< (8 + 8 + 8 + 8) = 0#32 := BitVec.shiftLeft_eq_zero (by decide)
  rw [z, BitVec.zero_or]
theorem pb_bv (w : Int32) {b : Nat} (hb : b < 256) : (pb w (nI b)).toBitVec = w.toBitVec <<< 8 ||| (nI b).toBitVec := by
  have e : nI b &&& nI 255 = nI b := by rw [pk_andN (by omega) (m := nI 255) 8 (by decide), Nat.mod_eq_of_lt (by omega)]
  unfold pb
  rw [e]
  show (w <<< (nI 8 &&& 31)).toBitVec ||| _ = _
  rw [Int32.toBitVec_shiftLeft]
  rfl
/-- a word with q bytes behind what was there -/
def pw (g : Int32) (p : Nat → Nat) (a : Nat) : Nat → Int32
  | 0 => g
  | q + 1 => pb (pw g p a q) (nI (p (a + q)))
theorem pw_4 (g : Int32) (T : List Nat) (a : Nat) (h : ∀ i, padB T i < 256) : pw g (padB T) a 4 = wdM T a := by
  apply Int32.toBitVec_inj.mp
  show (pb (pb (pb (pb g (nI (padB T (a + 0)))) (nI (padB T (a + 1)))) (nI (padB T (a + 2)))) (nI (padB T (a + 3)))).toBitVec = _
  rw [pb_bv _ (h _), pb_bv _ (h _), pb_bv _ (h _), pb_bv _ (h _), bv4]
  unfold wdM
  show _ = (((nI (padB T a) <<< (nI 24 &&& 31)).toBitVec ||| (nI (padB T (a + 1)) <<< (nI 16 &&& 31)).toBitVec) ||| (nI (padB T (a + 2)) <<< (nI 8 &&& 31)).toBitVec) ||| (nI (padB T (a + 3))).toBitVec
  rw [Int32.toBitVec_shiftLeft, Int32.toBitVec_shiftLeft, Int32.toBitVec_shiftLeft]
  rfl
theorem adds_c (v s : Nat → Int32) {i : Nat} (hi : i < 8) : adds v s i = s i + v i := by
  unfold adds ad1
  rcases (show i = 0 ∨ i = 1 ∨ i = 2 ∨ i = 3 ∨ i = 4 ∨ i = 5 ∨ i = 6 ∨ i = 7 by omega) with z | z | z | z | z | z | z | z <;> subst z <;> simp [upd]
/-- k bytes of the padded text are in -/
def fedT (T : List Nat) (k : Nat) (Y : ShT) : Prop := Y.2.2.1 = k % 64 ∧ (∀ i, i < 8 → Y.1 i = shB T (k / 64) i) ∧ (∀ t, 4 * t + 4 ≤ k % 64 → Y.2.1 t = wdM T (64 * (k / 64) + 4 * t)) ∧ ∃ g, Y.2.1 (k % 64 / 4) = pw g (padB T) (64 * (k / 64) + 4 * (k % 64 / 4)) (k % 64 % 4)
theorem fedT_s {T : List Nat} (hp : ∀ i, padB T i < 256) {k : Nat} {Y : ShT} (h : fedT T k Y) : fedT T (k + 1) (feedS (nI (padB T k)) Y) := by
  obtain ⟨h1, h2, h3, g, h4⟩ := h
  have hr : k % 64 < 64 := Nat.mod_lt _ (by decide)
  have hk : k = 64 * (k / 64) + k % 64 := by omega
  have hw : ∀ t, 4 * t + 4 ≤ k % 64 + 1 → (fd0 (nI (padB T k)) Y).2.1 t = wdM T (64 * (k / 64) + 4 * t) := by
    intro t ht
    show upd Y.2.1 (Y.2.2.1 / 4 % 16) (pb (Y.2.1 (Y.2.2.1 / 4 % 16)) (nI (padB T k))) t = _
    have e : Y.2.2.1 / 4 % 16 = k % 64 / 4 := by omega
    rw [e]
    by_cases z : t = k % 64 / 4
    · have e3 : k % 64 % 4 = 3 := by omega
      rw [z, pk_us, h4, e3, ← pw_4 g T _ hp]
      show pb _ _ = pb _ _
      rw [show 64 * (k / 64) + 4 * (k % 64 / 4) + 3 = k by omega]
    · rw [pk_un z]; exact h3 t (by omega)
  unfold feedS
  by_cases h64 : Y.2.2.1 + 1 < 64
  · rw [if_pos h64]
    have e1 : (k + 1) % 64 = k % 64 + 1 := by omega
    have e2 : (k + 1) / 64 = k / 64 := by omega
    unfold fedT
    rw [e1, e2]
    refine ⟨by show Y.2.2.1 + 1 = _; omega, h2, hw, ?_⟩
    by_cases z : k % 64 % 4 = 3
    · rw [show (k % 64 + 1) % 4 = 0 by omega]; exact ⟨_, rfl⟩
    · refine ⟨g, ?_⟩
      rw [show (k % 64 + 1) / 4 = k % 64 / 4 by omega, show (k % 64 + 1) % 4 = k % 64 % 4 + 1 by omega]
      show upd Y.2.1 (Y.2.2.1 / 4 % 16) (pb (Y.2.1 (Y.2.2.1 / 4 % 16)) (nI (padB T k))) (k % 64 / 4) = pb (pw g (padB T) (64 * (k / 64) + 4 * (k % 64 / 4)) (k % 64 % 4)) (nI (padB T (64 * (k / 64) + 4 * (k % 64 / 4) + k % 64 % 4)))
      rw [show Y.2.2.1 / 4 % 16 = k % 64 / 4 by omega, pk_us, h4, show 64 * (k / 64) + 4 * (k % 64 / 4) + k % 64 % 4 = k by omega]
  · rw [if_neg h64]
    have e1 : (k + 1) % 64 = 0 := by omega
    have e2 : (k + 1) / 64 = k / 64 + 1 := by omega
    unfold fedT
    rw [e1, e2]
    refine ⟨rfl, fun i hi => ?_, fun t ht => absurd ht (by omega), _, rfl⟩
    show adds (mixn (spw (fd0 (nI (padB T k)) Y).2.1 48) Y.1 64) Y.1 i = _
    rw [adds_c _ _ hi]
    exact shB_step hi h2 (fun q hq => spw_c (fun t ht => hw t (by omega)) 48 (Nat.le_refl _) q hq)
theorem feedS_n {v : Int32} {Y : ShT} : (feedS v Y).2.2.2 = Y.2.2.2 + 1 := by
  unfold feedS
  by_cases h : Y.2.2.1 + 1 < 64
  · rw [if_pos h]; rfl
  · rw [if_neg h]; rfl
theorem fedT_L {T : List Nat} (hp : ∀ i, padB T i < 256) : ∀ (m k : Nat) (Y : ShT), k + m = T.length → fedT T k Y → Y.2.2.2 = lN k → fedT T T.length (feedL Y (T.drop k)) ∧ (feedL Y (T.drop k)).2.2.2 = lN T.length
  | 0, k, Y, hk, h, hn => by
    have e : k = T.length := by omega
    subst e
    rw [List.drop_length]
    exact ⟨h, hn⟩
  | m + 1, k, Y, hk, h, hn => by
    have hlt : k < T.length := by omega
    rw [List.drop_eq_getElem_cons hlt]
    show fedT T T.length (feedL (feedS (nI T[k]) Y) (T.drop (k + 1))) ∧ _
    have e : T[k] = padB T k := by
      unfold padB
      rw [if_pos hlt, List.getD_eq_getElem?_getD, List.getElem?_eq_getElem hlt]; rfl
    have ih := fedT_L hp m (k + 1) (feedS (nI (padB T k)) Y) (by omega) (fedT_s hp h) (by rw [feedS_n, hn, lN_1])
    rw [e]
    exact ih
theorem fedT_z {T : List Nat} (hp : ∀ i, padB T i < 256) : ∀ (n k : Nat) (Y : ShT), T.length < k → k ≤ (T.length + 72) / 64 * 64 - 8 → (T.length + 72) / 64 * 64 - 8 - k < n → n ≤ 64 → fedT T k Y → fedT T ((T.length + 72) / 64 * 64 - 8) (zer n Y)
  | 0, k, Y, _, _, h0, _, _ => absurd h0 (Nat.not_lt_zero _)
  | n + 1, k, Y, hT, hk, hn, hn2, h => by
    show fedT T _ (if Y.2.2.1 = 56 then Y else zer n (feedS (nI 0) Y))
    by_cases z : k = (T.length + 72) / 64 * 64 - 8
    · rw [if_pos (by rw [h.1]; omega), ← z]; exact h
    · rw [if_neg (by rw [h.1]; omega)]
      have e : padB T k = 0 := by
        unfold padB
        rw [if_neg (by omega), if_neg (by omega), if_pos (by omega)]
      have hs := fedT_s hp h
      rw [e] at hs
      exact fedT_z hp n (k + 1) _ (by omega) (by omega) (by omega) (by omega) hs
theorem lby_c {n j : Nat} (hn : n < 2 ^ 20) (hj : j < 8) : lby (lN n * 8) (8 * j) = nI (8 * n / 2 ^ (8 * j) % 256) := by
  have e1 : lN n * 8 = lN (8 * n) := by rw [Nat.mul_comm]; exact lN_mul n 8
  have hs : ∀ j, j < 8 → (((Int32.toInt64 (nI (8 * j))).toUInt64 &&& Int64.toUInt64 63).toBitVec % 64).toNat = 8 * j := by decide
  unfold lby
  rw [e1]
  have e2 : ((lN (8 * n)).toUInt64 >>> ((Int32.toInt64 (nI (8 * j))).toUInt64 &&& Int64.toUInt64 63)).toInt64 &&& 255 = lN (8 * n / 2 ^ (8 * j) % 256) := by
    apply Int64.toBitVec_inj.mp
    apply BitVec.eq_of_toNat_eq
    show ((lN (8 * n)).toBitVec >>> (((Int32.toInt64 (nI (8 * j))).toUInt64 &&& Int64.toUInt64 63).toBitVec % 64)).toNat &&& 255 = _
    rw [BitVec.ushiftRight_eq', BitVec.toNat_ushiftRight, hs j hj, Nat.shiftRight_eq_div_pow]
    have a : (lN (8 * n)).toBitVec.toNat = 8 * n := Nat.mod_eq_of_lt (by omega)
    have b : 8 * n / 2 ^ (8 * j) % 256 < 256 := Nat.mod_lt _ (by decide)
    have c : (lN (8 * n / 2 ^ (8 * j) % 256)).toBitVec.toNat = 8 * n / 2 ^ (8 * j) % 256 := Nat.mod_eq_of_lt (by omega)
    rw [a, c, Nat.and_two_pow_sub_one_eq_mod _ 8]
  rw [e2, lN_i]
theorem fedT_8 {T : List Nat} (hp : ∀ i, padB T i < 256) (hn : T.length < 2 ^ 20) : ∀ (j : Nat) (Y : ShT), j ≤ 8 → fedT T ((T.length + 72) / 64 * 64 - j) Y → fedT T ((T.length + 72) / 64 * 64) (len8 (lN T.length * 8) j Y)
  | 0, Y, _, h => h
  | j + 1, Y, hj, h => by
    show fedT T _ (len8 _ j (feedS (lby (lN T.length * 8) (8 * j)) Y))
    have e : padB T ((T.length + 72) / 64 * 64 - (j + 1)) = 8 * T.length / 2 ^ (8 * j) % 256 := by
      unfold padB
      rw [if_neg (by omega), if_neg (by omega), if_neg (by omega), show (T.length + 72) / 64 * 64 - 1 - ((T.length + 72) / 64 * 64 - (j + 1)) = j by omega]
    have hs := fedT_s hp h
    rw [e, show (T.length + 72) / 64 * 64 - (j + 1) + 1 = (T.length + 72) / 64 * 64 - j by omega] at hs
    rw [lby_c hn (by omega)]
    exact fedT_8 hp hn j _ (by omega) hs
theorem padB_256 {T : List Nat} (h : ∀ i, T.getD i 0 < 256) (k : Nat) : padB T k < 256 := by
  unfold padB
  by_cases h1 : k < T.length
  · rw [if_pos h1]; exact h k
  · rw [if_neg h1]
    by_cases h2 : k = T.length
    · rw [if_pos h2]; decide
    · rw [if_neg h2]
      by_cases h3 : k < (T.length + 72) / 64 * 64 - 8
      · rw [if_pos h3]; decide
      · rw [if_neg h3]; exact Nat.mod_lt _ (by decide)
/-- the class's digest of a text is the model's -/
theorem dgW_shaM (w : Nat → Int32) {T : List Nat} (h : ∀ i, T.getD i 0 < 256) (hn : T.length < 2 ^ 20) {i : Nat} (hi : i < 8) : dgW w T i = shaM T i := by
  have hp := padB_256 h
  have h0 : fedT T 0 (hF, w, 0, 0) := ⟨rfl, fun i _ => rfl, fun t ht => absurd ht (by omega), _, rfl⟩
  have h1 := fedT_L hp T.length 0 _ (by omega) h0 rfl
  rw [List.drop_zero] at h1
  have h2 := fedT_s hp h1.1
  have e : padB T T.length = 128 := by unfold padB; rw [if_neg (Nat.lt_irrefl _), if_pos rfl]
  rw [e] at h2
  have h3 := fedT_z hp 64 (T.length + 1) _ (by omega) (by omega) (by omega) (Nat.le_refl _) h2
  have h4 := fedT_8 hp hn 8 _ (Nat.le_refl _) h3
  have h5 := h4.2.1 i hi
  rw [Nat.mul_div_cancel _ (by decide)] at h5
  unfold dgW endS shaM
  rw [h1.2]
  exact h5
