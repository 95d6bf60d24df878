theorem min_nI {a b : Nat} (ha : a < 2 ^ 31) (hb : b < 2 ^ 31) : (if nI b < nI a then nI b else nI a) = nI (min a b) := by
  by_cases h : b < a
  · rw [if_pos ((nI_ltI hb ha).mpr h), Nat.min_eq_right (Nat.le_of_lt h)]
  · rw [if_neg (fun q => h ((nI_ltI hb ha).mp q)), Nat.min_eq_left (by omega)]
theorem d_TX_init_0 : decode b_TX_init 0 = .ok (.aload_n 0, 1) := by decide +kernel
theorem d_TX_init_1 : decode b_TX_init 1 = .ok (.invokespecial 3, 3) := by decide +kernel
theorem d_TX_init_4 : decode b_TX_init 4 = .ok (.aload_n 0, 1) := by decide +kernel
theorem d_TX_init_5 : decode b_TX_init 5 = .ok (.bipush 64, 2) := by decide +kernel
theorem d_TX_init_7 : decode b_TX_init 7 = .ok (.newarray .char, 2) := by decide +kernel
theorem d_TX_init_9 : decode b_TX_init 9 = .ok (.putfield 9, 3) := by decide +kernel
theorem d_TX_init_12 : decode b_TX_init 12 = .ok (.aload_n 0, 1) := by decide +kernel
theorem d_TX_init_13 : decode b_TX_init 13 = .ok (.iconst 0, 1) := by decide +kernel
theorem d_TX_init_14 : decode b_TX_init 14 = .ok (.putfield 15, 3) := by decide +kernel
theorem d_TX_init_17 : decode b_TX_init 17 = .ok (.return_, 1) := by decide +kernel
theorem d_TX_append_0 : decode b_TX_append 0 = .ok (.iload_n 1, 1) := by decide +kernel
theorem d_TX_append_1 : decode b_TX_append 1 = .ok (.bipush 32, 2) := by decide +kernel
theorem d_TX_append_3 : decode b_TX_append 3 = .ok (.if_icmp .lt 18, 3) := by decide +kernel
theorem d_TX_append_6 : decode b_TX_append 6 = .ok (.iload_n 1, 1) := by decide +kernel
theorem d_TX_append_7 : decode b_TX_append 7 = .ok (.bipush 126, 2) := by decide +kernel
theorem d_TX_append_9 : decode b_TX_append 9 = .ok (.if_icmp .gt 12, 3) := by decide +kernel
theorem d_TX_append_12 : decode b_TX_append 12 = .ok (.aload_n 0, 1) := by decide +kernel
theorem d_TX_append_13 : decode b_TX_append 13 = .ok (.getfield 15, 3) := by decide +kernel
theorem d_TX_append_16 : decode b_TX_append 16 = .ok (.bipush 64, 2) := by decide +kernel
theorem d_TX_append_18 : decode b_TX_append 18 = .ok (.if_icmp .lt 5, 3) := by decide +kernel
theorem d_TX_append_21 : decode b_TX_append 21 = .ok (.iconst 0, 1) := by decide +kernel
theorem d_TX_append_22 : decode b_TX_append 22 = .ok (.ireturn, 1) := by decide +kernel
theorem d_TX_append_23 : decode b_TX_append 23 = .ok (.aload_n 0, 1) := by decide +kernel
theorem d_TX_append_24 : decode b_TX_append 24 = .ok (.getfield 9, 3) := by decide +kernel
theorem d_TX_append_27 : decode b_TX_append 27 = .ok (.aload_n 0, 1) := by decide +kernel
theorem d_TX_append_28 : decode b_TX_append 28 = .ok (.getfield 15, 3) := by decide +kernel
theorem d_TX_append_31 : decode b_TX_append 31 = .ok (.iload_n 1, 1) := by decide +kernel
theorem d_TX_append_32 : decode b_TX_append 32 = .ok (.castore, 1) := by decide +kernel
theorem d_TX_append_33 : decode b_TX_append 33 = .ok (.aload_n 0, 1) := by decide +kernel
theorem d_TX_append_34 : decode b_TX_append 34 = .ok (.dup, 1) := by decide +kernel
theorem d_TX_append_35 : decode b_TX_append 35 = .ok (.getfield 15, 3) := by decide +kernel
theorem d_TX_append_38 : decode b_TX_append 38 = .ok (.iconst 1, 1) := by decide +kernel
theorem d_TX_append_39 : decode b_TX_append 39 = .ok (.iadd, 1) := by decide +kernel
theorem d_TX_append_40 : decode b_TX_append 40 = .ok (.putfield 15, 3) := by decide +kernel
theorem d_TX_append_43 : decode b_TX_append 43 = .ok (.iconst 1, 1) := by decide +kernel
theorem d_TX_append_44 : decode b_TX_append 44 = .ok (.ireturn, 1) := by decide +kernel
theorem d_TX_take_0 : decode b_TX_take 0 = .ok (.aload_n 0, 1) := by decide +kernel
theorem d_TX_take_1 : decode b_TX_take 1 = .ok (.getfield 15, 3) := by decide +kernel
theorem d_TX_take_4 : decode b_TX_take 4 = .ok (.newarray .char, 2) := by decide +kernel
theorem d_TX_take_6 : decode b_TX_take 6 = .ok (.astore_n 1, 1) := by decide +kernel
theorem d_TX_take_7 : decode b_TX_take 7 = .ok (.iconst 0, 1) := by decide +kernel
theorem d_TX_take_8 : decode b_TX_take 8 = .ok (.istore_n 2, 1) := by decide +kernel
theorem d_TX_take_9 : decode b_TX_take 9 = .ok (.iload_n 2, 1) := by decide +kernel
theorem d_TX_take_10 : decode b_TX_take 10 = .ok (.aload_n 1, 1) := by decide +kernel
theorem d_TX_take_11 : decode b_TX_take 11 = .ok (.arraylength, 1) := by decide +kernel
theorem d_TX_take_12 : decode b_TX_take 12 = .ok (.if_icmp .ge 18, 3) := by decide +kernel
theorem d_TX_take_15 : decode b_TX_take 15 = .ok (.aload_n 1, 1) := by decide +kernel
theorem d_TX_take_16 : decode b_TX_take 16 = .ok (.iload_n 2, 1) := by decide +kernel
theorem d_TX_take_17 : decode b_TX_take 17 = .ok (.aload_n 0, 1) := by decide +kernel
theorem d_TX_take_18 : decode b_TX_take 18 = .ok (.getfield 9, 3) := by decide +kernel
theorem d_TX_take_21 : decode b_TX_take 21 = .ok (.iload_n 2, 1) := by decide +kernel
theorem d_TX_take_22 : decode b_TX_take 22 = .ok (.caload, 1) := by decide +kernel
theorem d_TX_take_23 : decode b_TX_take 23 = .ok (.castore, 1) := by decide +kernel
theorem d_TX_take_24 : decode b_TX_take 24 = .ok (.iinc 2 1, 3) := by decide +kernel
theorem d_TX_take_27 : decode b_TX_take 27 = .ok (.goto (-18), 3) := by decide +kernel
theorem d_TX_take_30 : decode b_TX_take 30 = .ok (.aload_n 0, 1) := by decide +kernel
theorem d_TX_take_31 : decode b_TX_take 31 = .ok (.iconst 0, 1) := by decide +kernel
theorem d_TX_take_32 : decode b_TX_take 32 = .ok (.putfield 15, 3) := by decide +kernel
theorem d_TX_take_35 : decode b_TX_take 35 = .ok (.aload_n 1, 1) := by decide +kernel
theorem d_TX_take_36 : decode b_TX_take 36 = .ok (.areturn, 1) := by decide +kernel
theorem d_KY_init_0 : decode b_KY_init 0 = .ok (.aload_n 0, 1) := by decide +kernel
theorem d_KY_init_1 : decode b_KY_init 1 = .ok (.invokespecial 1, 3) := by decide +kernel
theorem d_KY_init_4 : decode b_KY_init 4 = .ok (.aload_n 0, 1) := by decide +kernel
theorem d_KY_init_5 : decode b_KY_init 5 = .ok (.aload_n 1, 1) := by decide +kernel
theorem d_KY_init_6 : decode b_KY_init 6 = .ok (.putfield 7, 3) := by decide +kernel
theorem d_KY_init_9 : decode b_KY_init 9 = .ok (.aload_n 0, 1) := by decide +kernel
theorem d_KY_init_10 : decode b_KY_init 10 = .ok (.iload_n 2, 1) := by decide +kernel
theorem d_KY_init_11 : decode b_KY_init 11 = .ok (.aload_n 1, 1) := by decide +kernel
theorem d_KY_init_12 : decode b_KY_init 12 = .ok (.arraylength, 1) := by decide +kernel
theorem d_KY_init_13 : decode b_KY_init 13 = .ok (.invokestatic 13, 3) := by decide +kernel
theorem d_KY_init_16 : decode b_KY_init 16 = .ok (.putfield 19, 3) := by decide +kernel
theorem d_KY_init_19 : decode b_KY_init 19 = .ok (.return_, 1) := by decide +kernel
theorem d_RW_init_0 : decode b_RW_init 0 = .ok (.aload_n 0, 1) := by decide +kernel
theorem d_RW_init_1 : decode b_RW_init 1 = .ok (.invokespecial 3, 3) := by decide +kernel
theorem d_RW_init_4 : decode b_RW_init 4 = .ok (.aload_n 0, 1) := by decide +kernel
theorem d_RW_init_5 : decode b_RW_init 5 = .ok (.iload_n 1, 1) := by decide +kernel
theorem d_RW_init_6 : decode b_RW_init 6 = .ok (.putfield 9, 3) := by decide +kernel
theorem d_RW_init_9 : decode b_RW_init 9 = .ok (.aload_n 0, 1) := by decide +kernel
theorem d_RW_init_10 : decode b_RW_init 10 = .ok (.aload_n 2, 1) := by decide +kernel
theorem d_RW_init_11 : decode b_RW_init 11 = .ok (.putfield 15, 3) := by decide +kernel
theorem d_RW_init_14 : decode b_RW_init 14 = .ok (.aload_n 0, 1) := by decide +kernel
theorem d_RW_init_15 : decode b_RW_init 15 = .ok (.aload_n 3, 1) := by decide +kernel
theorem d_RW_init_16 : decode b_RW_init 16 = .ok (.putfield 19, 3) := by decide +kernel
theorem d_RW_init_19 : decode b_RW_init 19 = .ok (.return_, 1) := by decide +kernel
set_option maxHeartbeats 4000000 in
set_option maxRecDepth 100000 in
/-- Text() -/
theorem c_TX_init (l : Launch) (D : va_G) (ct : Nat → ClassId) (Z : hp_Z) (hZ : hp_Zok Z) (M : hp_M) (sz : Nat) (a : Nat) (f_a : M a = some (.inr (1, [.null, .int (nI 0)]))) : Mv l y_TX_init b_TX_init 1 none 1 12 1 64 [.ref a] D ct Z M sz (fun M1 => ∃ ch, M ch = none ∧ M1 = hp_up (hp_up M ch (.inl (ct 0, 64, .inl (nf (fun _ => 0))))) a (.inr (1, [.ref ch, .int (nI 0)]))) := by
  refine hp_start (by decide) (Nat.le_of_ble_eq_true rfl) (fun p e s m below meth c ls S hret hlk hnm hsz hK hM hS hA hz hl => ?_)
  have hx := S.1
  have hb := S.2.1
  have hl : lv_has ls 1 [(0, .ref a)] := hl
  refine lv_aload_n hx hb d_TX_init_0 rfl (lv_at hl 0 rfl) ?_
  refine W.objInit hx hb S.2.2.2.1 (S.2.2.2.2 _ ml_TX_3) (S.2.2.2.2 _ mi_OB_init) (S.2.2.2.2 _ mc_OB_init) rfl (by rw [S.2.2.1]; exact hl.1) rfl d_TX_init_1 (by decide) (Nat.le_of_ble_eq_true rfl) ?_
  refine W.eq (g2 := F0 m 4 ls []) rfl ?_
  refine lv_aload_n hx hb d_TX_init_4 rfl (lv_at hl 0 rfl) ?_
  refine lv_bipush (v := nI 64) hx hb d_TX_init_5 rfl ?_
  refine hp_newi S hK hM hS hA (atype := .char) rfl ma_char 0 rfl rfl (by decide) 64 rfl (by omega) (by decide) (by decide) d_TX_init_7 (fun q7 H hq_q7 hM hS => ?_)
  refine W.widen (k := 1) (n := 64) (by omega) (by omega) ?_
  rw [nf_0] at hM
  have ne_a_q7 : a ≠ q7 := hp_nn f_a hq_q7
  have f_a := hp_k (e := (.inl (ct 0, 64, .inl (nf (fun _ => 0))))) ne_a_q7 f_a
  have f_q7 : hp_up M q7 (.inl (ct 0, 64, .inl (nf (fun _ => 0)))) q7 = some (.inl (ct 0, 64, .inl (nf (fun _ => 0)))) := hp_us
  obtain ⟨M1, eM1⟩ : ∃ z, z = hp_up M q7 (.inl (ct 0, 64, .inl (nf (fun _ => 0)))) := ⟨_, rfl⟩
  rw [← eM1] at hM f_a f_q7
  refine hp_putF (ty := (.array .char)) (fs' := [.ref q7, .int (nI 0)]) S hK hM hS i_TX t_TX to_TX n_TX f_a rfl 0 (by decide) mf_TX_9 (fun _ h9 => h9) rfl hnm rfl (by decide +kernel) rfl rfl (by simp) rfl d_TX_init_9 (fun H locs hM hS => ?_)
  have f_q7 := hp_k (e := (.inr (1, [.ref q7, .int (nI 0)]))) (Ne.symm ne_a_q7) f_q7
  have f_a : hp_up M1 a (.inr (1, [.ref q7, .int (nI 0)])) a = some (.inr (1, [.ref q7, .int (nI 0)])) := hp_us
  obtain ⟨M2, eM2⟩ : ∃ z, z = hp_up M1 a (.inr (1, [.ref q7, .int (nI 0)])) := ⟨_, rfl⟩
  rw [← eM2] at hM f_a f_q7
  refine lv_aload_n hx hb d_TX_init_12 rfl (lv_at hl 0 rfl) ?_
  refine lv_iconst (v := nI 0) hx hb d_TX_init_13 rfl ?_
  refine hp_put (ty := .int) (fs' := [.ref q7, .int (nI 0)]) S hK hM hS i_TX t_TX to_TX n_TX f_a rfl 1 (by decide) mf_TX_15 (fun _ h9 => h9) rfl (by decide +kernel) rfl rfl (by simp) rfl d_TX_init_14 (fun H locs hM hS => ?_)
  have f_q7 := hp_k (e := (.inr (1, [.ref q7, .int (nI 0)]))) (Ne.symm ne_a_q7) f_q7
  have f_a : hp_up M2 a (.inr (1, [.ref q7, .int (nI 0)])) a = some (.inr (1, [.ref q7, .int (nI 0)])) := hp_us
  obtain ⟨M3, eM3⟩ : ∃ z, z = hp_up M2 a (.inr (1, [.ref q7, .int (nI 0)])) := ⟨_, rfl⟩
  rw [← eM3] at hM f_a f_q7
  exact hp_vret S hret hlk hM hS (⟨q7, hq_q7, by rw [eM3, eM2, eM1, hp_uu]⟩) d_TX_init_17
set_option maxHeartbeats 4000000 in
set_option maxRecDepth 100000 in
/-- Text.append -/
theorem c_TX_append (l : Launch) (D : va_G) (ct : Nat → ClassId) (Z : hp_Z) (hZ : hp_Zok Z) (M : hp_M) (sz : Nat) (a ch n : Nat) (g : Nat → Nat) (hn : n ≤ 64) (f_a : M a = some (.inr (1, [.ref ch, .int (nI n)]))) (f_ch : M ch = some (.inl (ct 0, 64, .inl (nf g)))) (k : Nat) (hk : k < 65536) : Mi l y_TX_append b_TX_append 2 (some .boolean) 0 0 0 0 [.ref a, .int (nI k)] D ct Z M sz (fun r M1 => ((32 ≤ k ∧ k ≤ 126 ∧ n < 64) ∧ r = nI 1 ∧ M1 = hp_up (hp_up M ch (.inl (ct 0, 64, .inl (nf (va_up g n k))))) a (.inr (1, [.ref ch, .int (nI (n + 1))]))) ∨ (¬ (32 ≤ k ∧ k ≤ 126 ∧ n < 64) ∧ r = nI 0 ∧ M1 = M)) := by
  refine hp_start (by decide) (Nat.le_of_ble_eq_true rfl) (fun p e s m below meth c ls S hret hlk hnm hsz hK hM hS hA hz hl => ?_)
  have hx := S.1
  have hb := S.2.1
  have hl : lv_has ls 2 [(0, .ref a), (1, .int (nI k))] := hl
  refine lv_iload_n hx hb d_TX_append_0 rfl (lv_at hl 1 rfl) ?_
  refine lv_bipush (v := nI 32) hx hb d_TX_append_1 rfl ?_
  refine nb_lt (tgt := 21) hx hb d_TX_append_3 (by decide) (by omega) (by omega) (fun h1 => ?_) (fun h1 => ?_)
  · refine lv_iconst (v := nI 0) hx hb d_TX_append_21 rfl ?_
    exact hp_iret S hret hlk (rfl) hM hS (Or.inr ⟨by omega, rfl, rfl⟩) d_TX_append_22
  · refine lv_iload_n hx hb d_TX_append_6 rfl (lv_at hl 1 rfl) ?_
    refine lv_bipush (v := nI 126) hx hb d_TX_append_7 rfl ?_
    refine nb_gt (tgt := 21) hx hb d_TX_append_9 (by decide) (by omega) (by omega) (fun h2 => ?_) (fun h2 => ?_)
    · refine lv_iconst (v := nI 0) hx hb d_TX_append_21 rfl ?_
      exact hp_iret S hret hlk (rfl) hM hS (Or.inr ⟨by omega, rfl, rfl⟩) d_TX_append_22
    · refine lv_aload_n hx hb d_TX_append_12 rfl (lv_at hl 0 rfl) ?_
      refine hp_get S hK hM i_TX f_a rfl 1 (by decide) mf_TX_15 (fun _ h9 => h9) rfl d_TX_append_13 ?_
      refine lv_bipush (v := nI 64) hx hb d_TX_append_16 rfl ?_
      refine nb_lt (tgt := 23) hx hb d_TX_append_18 (by decide) (by omega) (by omega) (fun h3 => ?_) (fun h3 => ?_)
      · refine lv_aload_n hx hb d_TX_append_23 rfl (lv_at hl 0 rfl) ?_
        refine hp_get S hK hM i_TX f_a rfl 0 (by decide) mf_TX_9 (fun _ h9 => h9) rfl d_TX_append_24 ?_
        refine lv_aload_n hx hb d_TX_append_27 rfl (lv_at hl 0 rfl) ?_
        refine hp_get S hK hM i_TX f_a rfl 1 (by decide) mf_TX_15 (fun _ h9 => h9) rfl d_TX_append_28 ?_
        refine lv_iload_n hx hb d_TX_append_31 rfl (lv_at hl 1 rfl) ?_
        refine hp_cast S hK hM hS 0 f_ch rfl n rfl (by omega) (by omega) (nar_nI (by omega)) d_TX_append_32 (fun H locs hM hS => ?_)
        rw [nf_up] at hM
        have f_a := hp_k (e := (.inl (ct 0, 64, .inl (nf (va_up g n k))))) (hp_ne f_a f_ch (by simp)) f_a
        have f_ch : hp_up M ch (.inl (ct 0, 64, .inl (nf (va_up g n k)))) ch = some (.inl (ct 0, 64, .inl (nf (va_up g n k)))) := hp_us
        obtain ⟨M4, eM4⟩ : ∃ z, z = hp_up M ch (.inl (ct 0, 64, .inl (nf (va_up g n k)))) := ⟨_, rfl⟩
        rw [← eM4] at hM f_a f_ch
        refine lv_aload_n hx hb d_TX_append_33 rfl (lv_at hl 0 rfl) ?_
        refine lv_dup hx hb d_TX_append_34 rfl ?_
        refine hp_get S hK hM i_TX f_a rfl 1 (by decide) mf_TX_15 (fun _ h9 => h9) rfl d_TX_append_35 ?_
        refine lv_iconst (v := nI 1) hx hb d_TX_append_38 rfl ?_
        refine nb_iadd hx hb d_TX_append_39 ?_
        refine hp_put (ty := .int) (fs' := [.ref ch, .int (nI (n + 1))]) S hK hM hS i_TX t_TX to_TX n_TX f_a rfl 1 (by decide) mf_TX_15 (fun _ h9 => h9) rfl (by decide +kernel) rfl rfl (by simp) rfl d_TX_append_40 (fun H locs hM hS => ?_)
        have f_ch := hp_k (e := (.inr (1, [.ref ch, .int (nI (n + 1))]))) (hp_ne f_ch f_a (by simp)) f_ch
        have f_a : hp_up M4 a (.inr (1, [.ref ch, .int (nI (n + 1))])) a = some (.inr (1, [.ref ch, .int (nI (n + 1))])) := hp_us
        obtain ⟨M5, eM5⟩ : ∃ z, z = hp_up M4 a (.inr (1, [.ref ch, .int (nI (n + 1))])) := ⟨_, rfl⟩
        rw [← eM5] at hM f_a f_ch
        refine lv_iconst (v := nI 1) hx hb d_TX_append_43 rfl ?_
        exact hp_iret S hret hlk (rfl) hM hS (Or.inl ⟨by omega, rfl, by rw [eM5, eM4]⟩) d_TX_append_44
      · refine lv_iconst (v := nI 0) hx hb d_TX_append_21 rfl ?_
        exact hp_iret S hret hlk (rfl) hM hS (Or.inr ⟨by omega, rfl, rfl⟩) d_TX_append_22
set_option maxHeartbeats 4000000 in
set_option maxRecDepth 100000 in
/-- Text.take -/
theorem c_TX_take (l : Launch) (D : va_G) (ct : Nat → ClassId) (Z : hp_Z) (hZ : hp_Zok Z) (M : hp_M) (sz : Nat) (a ch n : Nat) (g : Nat → Nat) (hn : n ≤ 64) (f_a : M a = some (.inr (1, [.ref ch, .int (nI n)]))) (f_ch : M ch = some (.inl (ct 0, 64, .inl (nf g)))) (hg : ∀ i, g i < 65536) : Mq l y_TX_take b_TX_take 3 (some (.array .char)) 0 0 1 64 [.ref a] D ct Z M sz (fun r M1 => ∃ q, r = some q ∧ M q = none ∧ M1 = hp_up (hp_up M q (.inl (ct 0, n, .inl (nf g)))) a (.inr (1, [.ref ch, .int (nI 0)]))) := by
  refine hp_start (by decide) (Nat.le_of_ble_eq_true rfl) (fun p e s m below meth c ls S hret hlk hnm hsz hK hM hS hA hz hl => ?_)
  have hx := S.1
  have hb := S.2.1
  have hl : lv_has ls 3 [(0, .ref a)] := hl
  have f0_a := f_a
  have f0_ch := f_ch
  refine lv_aload_n hx hb d_TX_take_0 rfl (lv_at hl 0 rfl) ?_
  refine hp_get S hK hM i_TX f_a rfl 1 (by decide) mf_TX_15 (fun _ h9 => h9) rfl d_TX_take_1 ?_
  refine hp_newi S hK hM hS hA (atype := .char) rfl ma_char 0 rfl rfl (by decide) n rfl (by omega) (by decide) (by show 0 + n ≤ 64; omega) d_TX_take_4 (fun q H hq_q hM hS => ?_)
  refine W.widen (k := 1) (n := 64) (by omega) (by omega) ?_
  rw [nf_0] at hM
  have ne_a_q : a ≠ q := hp_nn f_a hq_q
  have f_a := hp_k (e := (.inl (ct 0, n, .inl (nf (fun _ => 0))))) ne_a_q f_a
  have ne_ch_q : ch ≠ q := hp_nn f_ch hq_q
  have f_ch := hp_k (e := (.inl (ct 0, n, .inl (nf (fun _ => 0))))) ne_ch_q f_ch
  have f_q : hp_up M q (.inl (ct 0, n, .inl (nf (fun _ => 0)))) q = some (.inl (ct 0, n, .inl (nf (fun _ => 0)))) := hp_us
  obtain ⟨M1, eM1⟩ : ∃ z, z = hp_up M q (.inl (ct 0, n, .inl (nf (fun _ => 0)))) := ⟨_, rfl⟩
  rw [← eM1] at hM f_a f_ch f_q
  refine lv_astore_n (lv' := [(1, .ref q), (0, .ref a)]) hx hb d_TX_take_6 rfl hl (by decide) rfl (fun ls hl => ?_)
  refine lv_iconst (v := nI 0) hx hb d_TX_take_7 rfl ?_
  refine lv_istore_n (lv' := [(2, .int (nI 0)), (1, .ref q), (0, .ref a)]) hx hb d_TX_take_8 rfl hl (by decide) rfl (fun ls hl => ?_)
  replace hl : lv_has ls 3 [(0, .ref a), (1, .ref q), (2, .int (nI 0))] := lv_sub hl [2, 1, 0] rfl
  obtain ⟨j, e9j⟩ : ∃ z : Nat, z = 0 := ⟨_, rfl⟩
  obtain ⟨gq, e9gq⟩ : ∃ z : Nat → Nat, z = fun _ => 0 := ⟨_, rfl⟩
  replace hl : lv_has ls 3 [(0, .ref a), (1, .ref q), (2, .int (nI j))] := by subst e9j e9gq; exact hl
  obtain ⟨locs, e9L⟩ : ∃ z : List Loc, z = [] := ⟨_, rfl⟩
  replace hS : va_S (hp_A M sz) s.heap H locs := by rw [e9L]; exact hS
  rw [← e9L]
  clear e9L
  obtain ⟨N2, e9N2⟩ : ∃ z : hp_M, z = M1 := ⟨_, rfl⟩
  replace hM : hp_H D ccl (hp_A M sz) N2 H := by rw [e9N2]; exact hM
  replace f_a : N2 a = some (.inr (1, [.ref ch, .int (nI n)])) := by rw [e9N2]; exact f_a
  replace f_ch : N2 ch = some (.inl (ct 0, 64, .inl (nf g))) := by rw [e9N2]; exact f_ch
  replace f_q : N2 q = some (.inl (ct 0, n, .inl (nf (fun _ => 0)))) := by rw [e9N2]; exact f_q
  replace f_q : N2 q = some (.inl (ct 0, n, .inl (nf gq))) := by subst e9j e9gq; exact f_q
  have hN : N2 = hp_up M q (.inl (ct 0, n, .inl (nf gq))) := by subst e9j e9gq; exact e9N2.trans eM1
  have hgq : ∀ i, i < j → gq i = g i := by subst e9j e9gq; intro i hi; omega
  obtain ⟨fu, hn⟩ : ∃ fu : Nat, j + fu = n := ⟨n - j, by omega⟩
  clear e9j e9gq e9N2
  induction fu generalizing j gq H locs N2 ls with
  | zero =>
    have hn : j = n := by omega
    have hn2 : j = n := by omega
    replace hM := hM.cong f_q (g := nf g) (fun i hi => congrArg nI (hgq i (by omega)))
    rw [hN, hp_uu] at hM
    replace f_a := hp_k (e := .inl (ct 0, n, .inl (nf g))) ne_a_q f0_a
    replace f_ch := hp_k (e := .inl (ct 0, n, .inl (nf g))) ne_ch_q f0_ch
    have f_q : hp_up M q (.inl (ct 0, n, .inl (nf g))) q = some (.inl (ct 0, n, .inl (nf g))) := hp_us
    refine lv_iload_n hx hb d_TX_take_9 rfl (lv_at hl 2 rfl) ?_
    refine lv_aload_n hx hb d_TX_take_10 rfl (lv_at hl 1 rfl) ?_
    refine hp_alen S hK hM 0 f_q rfl d_TX_take_11 ?_
    refine nb_ge (tgt := 30) hx hb d_TX_take_12 (by decide) (by omega) (by omega) (fun h3 => ?_) (fun h3 => ?_)
    · refine lv_aload_n hx hb d_TX_take_30 rfl (lv_at hl 0 rfl) ?_
      refine lv_iconst (v := nI 0) hx hb d_TX_take_31 rfl ?_
      refine hp_put (ty := .int) (fs' := [.ref ch, .int (nI 0)]) S hK hM hS i_TX t_TX to_TX n_TX f_a rfl 1 (by decide) mf_TX_15 (fun _ h9 => h9) rfl (by decide +kernel) rfl rfl (by simp) rfl d_TX_take_32 (fun H locs hM hS => ?_)
      have f_ch := hp_k (e := (.inr (1, [.ref ch, .int (nI 0)]))) (hp_ne f_ch f_a (by simp)) f_ch
      have f_q := hp_k (e := (.inr (1, [.ref ch, .int (nI 0)]))) (Ne.symm ne_a_q) f_q
      have f_a : hp_up (hp_up M q (.inl (ct 0, n, .inl (nf g)))) a (.inr (1, [.ref ch, .int (nI 0)])) a = some (.inr (1, [.ref ch, .int (nI 0)])) := hp_us
      obtain ⟨M4, eM4⟩ : ∃ z, z = hp_up (hp_up M q (.inl (ct 0, n, .inl (nf g)))) a (.inr (1, [.ref ch, .int (nI 0)])) := ⟨_, rfl⟩
      rw [← eM4] at hM f_a f_ch f_q
      refine lv_aload_n hx hb d_TX_take_35 rfl (lv_at hl 1 rfl) ?_
      exact hp_aret (some q) rfl S hret (Or.inr ⟨_, rfl⟩) hlk hM hS (⟨q, rfl, hq_q, by rw [eM4]⟩) d_TX_take_36
    · exact absurd hn2 (by omega)
  | succ fu ih =>
    refine lv_iload_n hx hb d_TX_take_9 rfl (lv_at hl 2 rfl) ?_
    refine lv_aload_n hx hb d_TX_take_10 rfl (lv_at hl 1 rfl) ?_
    refine hp_alen S hK hM 0 f_q rfl d_TX_take_11 ?_
    refine nb_ge (tgt := 30) hx hb d_TX_take_12 (by decide) (by omega) (by omega) (fun h5 => ?_) (fun h5 => ?_)
    · exact absurd hn (by omega)
    · refine lv_aload_n hx hb d_TX_take_15 rfl (lv_at hl 1 rfl) ?_
      refine lv_iload_n hx hb d_TX_take_16 rfl (lv_at hl 2 rfl) ?_
      refine lv_aload_n hx hb d_TX_take_17 rfl (lv_at hl 0 rfl) ?_
      refine hp_get S hK hM i_TX f_a rfl 0 (by decide) mf_TX_9 (fun _ h9 => h9) rfl d_TX_take_18 ?_
      refine lv_iload_n hx hb d_TX_take_21 rfl (lv_at hl 2 rfl) ?_
      refine hp_cald S hK hM 0 f_ch rfl j rfl (by omega) (by omega) d_TX_take_22 ?_
      refine hp_cast S hK hM hS 0 f_q rfl j rfl (by omega) (by omega) (nar_nI (hg _)) d_TX_take_23 (fun H locs hM hS => ?_)
      first | rw [nf_up] at hM | rw [show upd (nf gq) j (nf g j) = nf (va_up gq j (g j)) from nf_up] at hM
      have f_a := hp_k (e := (.inl (ct 0, n, .inl (nf (va_up gq j (g j)))))) ne_a_q f_a
      have f_ch := hp_k (e := (.inl (ct 0, n, .inl (nf (va_up gq j (g j)))))) ne_ch_q f_ch
      have f_q : hp_up N2 q (.inl (ct 0, n, .inl (nf (va_up gq j (g j))))) q = some (.inl (ct 0, n, .inl (nf (va_up gq j (g j))))) := hp_us
      obtain ⟨M6, eM6⟩ : ∃ z, z = hp_up N2 q (.inl (ct 0, n, .inl (nf (va_up gq j (g j))))) := ⟨_, rfl⟩
      rw [← eM6] at hM f_a f_ch f_q
      refine lv_iinc (v := nI (j + 1)) (lv' := [(2, .int (nI (j + 1))), (0, .ref a), (1, .ref q)]) hx hb d_TX_take_24 hl (k := 2) rfl (nI_add j 1) (by decide) rfl (fun ls hl => ?_)
      refine lv_goto (tgt := 9) hx hb d_TX_take_27 (by decide) ?_
      exact ih (ls := ls) (hl := lv_sub hl [1, 2, 0] rfl) (j := j + 1) (hn := by omega) (gq := va_up gq j (g j)) (hN := by rw [eM6, hN, hp_uu]) (hgq := lt_s (fun i hi => by rw [up_n (Nat.ne_of_lt hi)]; exact hgq i hi) up_s) (H := H) (locs := locs) (hM := hM) (hS := hS) (N2 := M6) (f_a := f_a) (f_ch := f_ch) (f_q := f_q)
set_option maxHeartbeats 4000000 in
set_option maxRecDepth 100000 in
/-- Key() -/
theorem c_KY_init (l : Launch) (D : va_G) (ct : Nat → ClassId) (Z : hp_Z) (hZ : hp_Zok Z) (M : hp_M) (sz : Nat) {m : Nat} {f : Nat → Int32} (a cs n : Nat) (hn9 : n ≤ m) (hm9 : m < 2 ^ 31) (f_a : M a = some (.inr (5, [.null, .int (nI 0)]))) (f_cs : M cs = some (.inl (ct 0, m, .inl f))) : Mv l y_KY_init b_KY_init 3 none 1 14 0 0 [.ref a, .ref cs, .int (nI n)] D ct Z M sz (fun M1 => M1 = hp_up M a (.inr (5, [.ref cs, .int (nI n)]))) := by
  refine hp_start (by decide) (Nat.le_of_ble_eq_true rfl) (fun p e s m below meth c ls S hret hlk hnm hsz hK hM hS hA hz hl => ?_)
  have hx := S.1
  have hb := S.2.1
  have hl : lv_has ls 3 [(0, .ref a), (1, .ref cs), (2, .int (nI n))] := hl
  refine lv_aload_n hx hb d_KY_init_0 rfl (lv_at hl 0 rfl) ?_
  refine W.objInit hx hb S.2.2.2.1 (S.2.2.2.2 _ ml_KY_1) (S.2.2.2.2 _ mi_OB_init) (S.2.2.2.2 _ mc_OB_init) rfl (by rw [S.2.2.1]; exact hl.1) rfl d_KY_init_1 (by decide) (Nat.le_of_ble_eq_true rfl) ?_
  refine W.eq (g2 := F0 m 4 ls []) rfl ?_
  refine lv_aload_n hx hb d_KY_init_4 rfl (lv_at hl 0 rfl) ?_
  refine lv_aload_n hx hb d_KY_init_5 rfl (lv_at hl 1 rfl) ?_
  refine hp_putF (ty := (.array .char)) (fs' := [.ref cs, .int (nI 0)]) S hK hM hS i_KY t_KY to_KY n_KY f_a rfl 0 (by decide) mf_KY_7 (fun _ h9 => h9) rfl hnm rfl (by decide +kernel) rfl rfl (by simp) rfl d_KY_init_6 (fun H locs hM hS => ?_)
  have f_cs := hp_k (e := (.inr (5, [.ref cs, .int (nI 0)]))) (hp_ne f_cs f_a (by simp)) f_cs
  have f_a : hp_up M a (.inr (5, [.ref cs, .int (nI 0)])) a = some (.inr (5, [.ref cs, .int (nI 0)])) := hp_us
  obtain ⟨M1, eM1⟩ : ∃ z, z = hp_up M a (.inr (5, [.ref cs, .int (nI 0)])) := ⟨_, rfl⟩
  rw [← eM1] at hM f_a f_cs
  refine lv_aload_n hx hb d_KY_init_9 rfl (lv_at hl 0 rfl) ?_
  refine lv_iload_n hx hb d_KY_init_10 rfl (lv_at hl 2 rfl) ?_
  refine lv_aload_n hx hb d_KY_init_11 rfl (lv_at hl 1 rfl) ?_
  refine hp_alen S hK hM 0 f_cs rfl d_KY_init_12 ?_
  refine va_mmin hx hb (by rw [S.2.2.1]; exact hl.1.symm) S.2.2.2.1 (S.2.2.2.2 _ ml_KY_13) (S.2.2.2.2 _ ms_MA_min) (S.2.2.2.2 _ mz_MA) (S.2.2.2.2 _ mc_MA_min) (by decide) (Nat.le_of_ble_eq_true rfl) (by decide) (by decide) d_KY_init_13 ?_
  rw [min_nI (by omega) (by omega), Nat.min_eq_left hn9]
  refine hp_putF (ty := .int) (fs' := [.ref cs, .int (nI n)]) S hK hM hS i_KY t_KY to_KY n_KY f_a rfl 1 (by decide) mf_KY_19 (fun _ h9 => h9) rfl hnm rfl (by decide +kernel) rfl rfl (by simp) rfl d_KY_init_16 (fun H locs hM hS => ?_)
  have f_cs := hp_k (e := (.inr (5, [.ref cs, .int (nI n)]))) (hp_ne f_cs f_a (by simp)) f_cs
  have f_a : hp_up M1 a (.inr (5, [.ref cs, .int (nI n)])) a = some (.inr (5, [.ref cs, .int (nI n)])) := hp_us
  obtain ⟨M2, eM2⟩ : ∃ z, z = hp_up M1 a (.inr (5, [.ref cs, .int (nI n)])) := ⟨_, rfl⟩
  rw [← eM2] at hM f_a f_cs
  exact hp_vret S hret hlk hM hS (by rw [eM2, eM1, hp_uu]) d_KY_init_19
set_option maxHeartbeats 4000000 in
set_option maxRecDepth 100000 in
/-- Row() -/
theorem c_RW_init (l : Launch) (D : va_G) (ct : Nat → ClassId) (Z : hp_Z) (hZ : hp_Zok Z) (M : hp_M) (sz : Nat) (a k ky bd : Nat) (f_a : M a = some (.inr (4, [.int (nI 0), .null, .null]))) : Mv l y_RW_init b_RW_init 4 none 1 12 0 0 [.ref a, .int (nI k), .ref ky, .ref bd] D ct Z M sz (fun M1 => M1 = hp_up M a (.inr (4, [.int (nI k), .ref ky, .ref bd]))) := by
  refine hp_start (by decide) (Nat.le_of_ble_eq_true rfl) (fun p e s m below meth c ls S hret hlk hnm hsz hK hM hS hA hz hl => ?_)
  have hx := S.1
  have hb := S.2.1
  have hl : lv_has ls 4 [(0, .ref a), (1, .int (nI k)), (2, .ref ky), (3, .ref bd)] := hl
  refine lv_aload_n hx hb d_RW_init_0 rfl (lv_at hl 0 rfl) ?_
  refine W.objInit hx hb S.2.2.2.1 (S.2.2.2.2 _ ml_RW_3) (S.2.2.2.2 _ mi_OB_init) (S.2.2.2.2 _ mc_OB_init) rfl (by rw [S.2.2.1]; exact hl.1) rfl d_RW_init_1 (by decide) (Nat.le_of_ble_eq_true rfl) ?_
  refine W.eq (g2 := F0 m 4 ls []) rfl ?_
  refine lv_aload_n hx hb d_RW_init_4 rfl (lv_at hl 0 rfl) ?_
  refine lv_iload_n hx hb d_RW_init_5 rfl (lv_at hl 1 rfl) ?_
  refine hp_putF (ty := .int) (fs' := [.int (nI k), .null, .null]) S hK hM hS i_RW t_RW to_RW n_RW f_a rfl 0 (by decide) mf_RW_9 (fun _ h9 => h9) rfl hnm rfl (by decide +kernel) rfl rfl (by simp) rfl d_RW_init_6 (fun H locs hM hS => ?_)
  have f_a : hp_up M a (.inr (4, [.int (nI k), .null, .null])) a = some (.inr (4, [.int (nI k), .null, .null])) := hp_us
  obtain ⟨M1, eM1⟩ : ∃ z, z = hp_up M a (.inr (4, [.int (nI k), .null, .null])) := ⟨_, rfl⟩
  rw [← eM1] at hM f_a
  refine lv_aload_n hx hb d_RW_init_9 rfl (lv_at hl 0 rfl) ?_
  refine lv_aload_n hx hb d_RW_init_10 rfl (lv_at hl 2 rfl) ?_
  refine hp_putF (ty := (.object "ActionDigests$Key")) (fs' := [.int (nI k), .ref ky, .null]) S hK hM hS i_RW t_RW to_RW n_RW f_a rfl 1 (by decide) mf_RW_15 (fun _ h9 => h9) rfl hnm rfl (by decide +kernel) rfl rfl (by simp) rfl d_RW_init_11 (fun H locs hM hS => ?_)
  have f_a : hp_up M1 a (.inr (4, [.int (nI k), .ref ky, .null])) a = some (.inr (4, [.int (nI k), .ref ky, .null])) := hp_us
  obtain ⟨M2, eM2⟩ : ∃ z, z = hp_up M1 a (.inr (4, [.int (nI k), .ref ky, .null])) := ⟨_, rfl⟩
  rw [← eM2] at hM f_a
  refine lv_aload_n hx hb d_RW_init_14 rfl (lv_at hl 0 rfl) ?_
  refine lv_aload_n hx hb d_RW_init_15 rfl (lv_at hl 3 rfl) ?_
  refine hp_putF (ty := (.array .char)) (fs' := [.int (nI k), .ref ky, .ref bd]) S hK hM hS i_RW t_RW to_RW n_RW f_a rfl 2 (by decide) mf_RW_19 (fun _ h9 => h9) rfl hnm rfl (by decide +kernel) rfl rfl (by simp) rfl d_RW_init_16 (fun H locs hM hS => ?_)
  have f_a : hp_up M2 a (.inr (4, [.int (nI k), .ref ky, .ref bd])) a = some (.inr (4, [.int (nI k), .ref ky, .ref bd])) := hp_us
  obtain ⟨M3, eM3⟩ : ∃ z, z = hp_up M2 a (.inr (4, [.int (nI k), .ref ky, .ref bd])) := ⟨_, rfl⟩
  rw [← eM3] at hM f_a
  exact hp_vret S hret hlk hM hS (by rw [eM3, eM2, eM1, hp_uu, hp_uu]) d_RW_init_19
