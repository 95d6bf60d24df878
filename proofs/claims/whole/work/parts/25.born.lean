theorem d_AD_init_0 : decode b_AD_init 0 = .ok (.aload_n 0, 1) := by decide +kernel
theorem d_AD_init_1 : decode b_AD_init 1 = .ok (.invokespecial 1, 3) := by decide +kernel
theorem d_AD_init_4 : decode b_AD_init 4 = .ok (.aload_n 0, 1) := by decide +kernel
theorem d_AD_init_5 : decode b_AD_init 5 = .ok (.new 7, 3) := by decide +kernel
theorem d_AD_init_8 : decode b_AD_init 8 = .ok (.dup, 1) := by decide +kernel
theorem d_AD_init_9 : decode b_AD_init 9 = .ok (.invokespecial 9, 3) := by decide +kernel
theorem d_AD_init_12 : decode b_AD_init 12 = .ok (.putfield 10, 3) := by decide +kernel
theorem d_AD_init_15 : decode b_AD_init 15 = .ok (.aload_n 0, 1) := by decide +kernel
theorem d_AD_init_16 : decode b_AD_init 16 = .ok (.new 16, 3) := by decide +kernel
theorem d_AD_init_19 : decode b_AD_init 19 = .ok (.dup, 1) := by decide +kernel
theorem d_AD_init_20 : decode b_AD_init 20 = .ok (.invokespecial 18, 3) := by decide +kernel
theorem d_AD_init_23 : decode b_AD_init 23 = .ok (.putfield 19, 3) := by decide +kernel
theorem d_AD_init_26 : decode b_AD_init 26 = .ok (.aload_n 0, 1) := by decide +kernel
theorem d_AD_init_27 : decode b_AD_init 27 = .ok (.bipush 12, 2) := by decide +kernel
theorem d_AD_init_29 : decode b_AD_init 29 = .ok (.anewarray 23, 3) := by decide +kernel
theorem d_AD_init_32 : decode b_AD_init 32 = .ok (.putfield 25, 3) := by decide +kernel
theorem d_AD_init_35 : decode b_AD_init 35 = .ok (.aload_n 0, 1) := by decide +kernel
theorem d_AD_init_36 : decode b_AD_init 36 = .ok (.iconst 0, 1) := by decide +kernel
theorem d_AD_init_37 : decode b_AD_init 37 = .ok (.putfield 29, 3) := by decide +kernel
theorem d_AD_init_40 : decode b_AD_init 40 = .ok (.aload_n 0, 1) := by decide +kernel
theorem d_AD_init_41 : decode b_AD_init 41 = .ok (.bipush 8, 2) := by decide +kernel
theorem d_AD_init_43 : decode b_AD_init 43 = .ok (.anewarray 33, 3) := by decide +kernel
theorem d_AD_init_46 : decode b_AD_init 46 = .ok (.putfield 35, 3) := by decide +kernel
theorem d_AD_init_49 : decode b_AD_init 49 = .ok (.aload_n 0, 1) := by decide +kernel
theorem d_AD_init_50 : decode b_AD_init 50 = .ok (.iconst 0, 1) := by decide +kernel
theorem d_AD_init_51 : decode b_AD_init 51 = .ok (.putfield 39, 3) := by decide +kernel
theorem d_AD_init_54 : decode b_AD_init 54 = .ok (.aload_n 0, 1) := by decide +kernel
theorem d_AD_init_55 : decode b_AD_init 55 = .ok (.iconst 0, 1) := by decide +kernel
theorem d_AD_init_56 : decode b_AD_init 56 = .ok (.newarray .char, 2) := by decide +kernel
theorem d_AD_init_58 : decode b_AD_init 58 = .ok (.putfield 42, 3) := by decide +kernel
theorem d_AD_init_61 : decode b_AD_init 61 = .ok (.aload_n 0, 1) := by decide +kernel
theorem d_AD_init_62 : decode b_AD_init 62 = .ok (.bipush 64, 2) := by decide +kernel
theorem d_AD_init_64 : decode b_AD_init 64 = .ok (.newarray .char, 2) := by decide +kernel
theorem d_AD_init_66 : decode b_AD_init 66 = .ok (.putfield 46, 3) := by decide +kernel
theorem d_AD_init_69 : decode b_AD_init 69 = .ok (.aload_n 0, 1) := by decide +kernel
theorem d_AD_init_70 : decode b_AD_init 70 = .ok (.iconst 0, 1) := by decide +kernel
theorem d_AD_init_71 : decode b_AD_init 71 = .ok (.newarray .char, 2) := by decide +kernel
theorem d_AD_init_73 : decode b_AD_init 73 = .ok (.invokevirtual 49, 3) := by decide +kernel
theorem d_AD_init_76 : decode b_AD_init 76 = .ok (.return_, 1) := by decide +kernel
/-- what the constructors of nest mates and arrays of own objects ask of the tables -/
def zN (Z : hp_Z) : Prop := ∀ (A : Nat → Prop) (U : State) (H : Heap), Z A U H → va_Nw (.methodLinkNest "ActionDigests" 9 y_TX_init "ActionDigests") U ∧ va_Nw (.methodLinkNest "ActionDigests" 18 y_SH_init "ActionDigests") U ∧ va_AO "ActionDigests$Action" U ∧ va_AO "ActionDigests$Key" U ∧ va_AO "ActionDigests$Row" U
theorem rep_at (i : Nat) : (List.replicate 64 0).getD i 0 = 0 := by
  rw [List.getD_eq_getElem?_getD, List.getElem?_replicate]
  by_cases h : i < 64
  · rw [if_pos h]; rfl
  · rw [if_neg h]; rfl
theorem tx_rep : tx (List.replicate 64 0) = nf (fun _ => 0) := by
  funext i
  unfold tx nf
  rw [rep_at]
set_option maxHeartbeats 4000000 in
set_option maxRecDepth 100000 in
/-- a new object -/
theorem c_AD_init (l : Launch) (D : va_G) (ct : Nat → ClassId) (Z : hp_Z) (hZ : hp_Zok Z) (M : hp_M) (sz : Nat) (tk th : Nat) (hzk : zK Z tk) (hzh : zH Z th) (hzn : zN Z) (x : Nat) (f_x : M x = some (.inr (0, [.null, .null, .null, .int (nI 0), .null, .int (nI 0), .null, .null]))) : Mv l y_AD_init b_AD_init 1 none 5 120 10 226 [.ref x] D ct Z M sz (fun M1 => ∃ (xt ch sh su wo ac al sc hg : Nat) (X : ShT), adW ct M1 x xt ch sh su wo ac al sc hg [] X [] [] [] (hexL (dgW (nf (fun _ => 0)) []))) := by
  refine hp_start (by decide) (Nat.le_of_ble_eq_true rfl) (fun p e s m below meth c ls S hret hlk hnm hsz hK hM hS hA hz hl => ?_)
  have hx := S.1
  have hb := S.2.1
  have hl : lv_has ls 1 [(0, .ref x)] := hl
  refine lv_aload_n hx hb d_AD_init_0 rfl (lv_at hl 0 rfl) ?_
  refine W.objInit hx hb S.2.2.2.1 (S.2.2.2.2 _ ml_AD_1) (S.2.2.2.2 _ mi_OB_init) (S.2.2.2.2 _ mc_OB_init) rfl (by rw [S.2.2.1]; exact hl.1) rfl d_AD_init_1 (by decide) (Nat.le_of_ble_eq_true rfl) ?_
  refine W.eq (g2 := F0 m 4 ls []) rfl ?_
  refine lv_aload_n hx hb d_AD_init_4 rfl (lv_at hl 0 rfl) ?_
  refine hp_new (ci := 1) (fs := [.null, .int (nI 0)]) S hK hM hS hA i_TX t_TX to_TX mk_AD_7 mt_TX mz_TX rfl (fun j hj => by rcases (show j = 0 ∨ j = 1 by omega) with rfl | rfl <;> rfl) (by decide) (by decide) d_AD_init_5 (fun xt H hq_xt hM hS => ?_)
  refine W.widen (k := 1) (n := 2) (by omega) (by omega) ?_
  have ne_x_xt : x ≠ xt := hp_nn f_x hq_xt
  have f_x := hp_k (e := (.inr (1, [.null, .int (nI 0)]))) ne_x_xt f_x
  have f_xt : hp_up M xt (.inr (1, [.null, .int (nI 0)])) xt = some (.inr (1, [.null, .int (nI 0)])) := hp_us
  obtain ⟨M1, eM1⟩ : ∃ z, z = hp_up M xt (.inr (1, [.null, .int (nI 0)])) := ⟨_, rfl⟩
  rw [← eM1] at hM f_x f_xt
  refine lv_dup hx hb d_AD_init_8 rfl ?_
  refine hp_callv (go_IN S hZ hK hM hS hA hz (c_TX_init l D ct Z hZ _ _ xt f_xt) mc_TX_init mz_TX ((hzn _ _ _ hz).1) mi_TX_init rfl hd_TX_init rfl ⟨by decide, by decide⟩ hl.1 rfl (Nat.le_of_ble_eq_true rfl) d_AD_init_9 ⟨by decide, by decide⟩) hM hS hA (fun M9 H locs h9 hM hS => ?_)
  obtain ⟨ch, hchn, e9⟩ := h9
  rw [e9] at hM
  have ne_x_ch : x ≠ ch := hp_nn f_x hchn
  have f_x := hp_k (e := (.inl (ct 0, 64, .inl (nf (fun _ => 0))))) ne_x_ch f_x
  have ne_xt_ch : xt ≠ ch := hp_nn f_xt hchn
  have f_xt := hp_k (e := (.inl (ct 0, 64, .inl (nf (fun _ => 0))))) ne_xt_ch f_xt
  have f_ch : hp_up M1 ch (.inl (ct 0, 64, .inl (nf (fun _ => 0)))) ch = some (.inl (ct 0, 64, .inl (nf (fun _ => 0)))) := hp_us
  obtain ⟨M2, eM2⟩ : ∃ z, z = hp_up M1 ch (.inl (ct 0, 64, .inl (nf (fun _ => 0)))) := ⟨_, rfl⟩
  rw [← eM2] at hM f_x f_xt f_ch
  have f_x := hp_k (e := (.inr (1, [.ref ch, .int (nI 0)]))) ne_x_xt f_x
  have f_ch := hp_k (e := (.inr (1, [.ref ch, .int (nI 0)]))) (Ne.symm ne_xt_ch) f_ch
  have f_xt : hp_up M2 xt (.inr (1, [.ref ch, .int (nI 0)])) xt = some (.inr (1, [.ref ch, .int (nI 0)])) := hp_us
  obtain ⟨M3, eM3⟩ : ∃ z, z = hp_up M2 xt (.inr (1, [.ref ch, .int (nI 0)])) := ⟨_, rfl⟩
  rw [← eM3] at hM f_x f_xt f_ch
  refine hp_putF (ty := (.object "ActionDigests$Text")) (fs' := [.ref xt, .null, .null, .int (nI 0), .null, .int (nI 0), .null, .null]) S hK hM hS i_AD t_AD to_AD n_AD f_x rfl 0 (by decide) mf_AD_10 (fun _ h9 => h9) rfl hnm rfl (by decide +kernel) rfl rfl (by simp) rfl d_AD_init_12 (fun H locs hM hS => ?_)
  have f_xt := hp_k (e := (.inr (0, [.ref xt, .null, .null, .int (nI 0), .null, .int (nI 0), .null, .null]))) (Ne.symm ne_x_xt) f_xt
  have f_ch := hp_k (e := (.inr (0, [.ref xt, .null, .null, .int (nI 0), .null, .int (nI 0), .null, .null]))) (Ne.symm ne_x_ch) f_ch
  have f_x : hp_up M3 x (.inr (0, [.ref xt, .null, .null, .int (nI 0), .null, .int (nI 0), .null, .null])) x = some (.inr (0, [.ref xt, .null, .null, .int (nI 0), .null, .int (nI 0), .null, .null])) := hp_us
  obtain ⟨M4, eM4⟩ : ∃ z, z = hp_up M3 x (.inr (0, [.ref xt, .null, .null, .int (nI 0), .null, .int (nI 0), .null, .null])) := ⟨_, rfl⟩
  rw [← eM4] at hM f_x f_xt f_ch
  refine lv_aload_n hx hb d_AD_init_15 rfl (lv_at hl 0 rfl) ?_
  refine hp_new (ci := 2) (fs := [.null, .null, .int (nI 0), .long 0]) S hK hM hS hA i_SH t_SH to_SH mk_AD_16 mt_SH mz_SH rfl (fun j hj => by rcases (show j = 0 ∨ j = 1 ∨ j = 2 ∨ j = 3 by omega) with rfl | rfl | rfl | rfl <;> rfl) (by decide) (by decide) d_AD_init_16 (fun sh H hq_sh hM hS => ?_)
  refine W.widen (k := 3) (n := 70) (by omega) (by omega) ?_
  have ne_x_sh : x ≠ sh := hp_nn f_x hq_sh
  have f_x := hp_k (e := (.inr (2, [.null, .null, .int (nI 0), .long 0]))) ne_x_sh f_x
  have ne_xt_sh : xt ≠ sh := hp_nn f_xt hq_sh
  have f_xt := hp_k (e := (.inr (2, [.null, .null, .int (nI 0), .long 0]))) ne_xt_sh f_xt
  have ne_ch_sh : ch ≠ sh := hp_nn f_ch hq_sh
  have f_ch := hp_k (e := (.inr (2, [.null, .null, .int (nI 0), .long 0]))) ne_ch_sh f_ch
  have f_sh : hp_up M4 sh (.inr (2, [.null, .null, .int (nI 0), .long 0])) sh = some (.inr (2, [.null, .null, .int (nI 0), .long 0])) := hp_us
  obtain ⟨M5, eM5⟩ : ∃ z, z = hp_up M4 sh (.inr (2, [.null, .null, .int (nI 0), .long 0])) := ⟨_, rfl⟩
  rw [← eM5] at hM f_x f_xt f_ch f_sh
  refine lv_dup hx hb d_AD_init_19 rfl ?_
  refine hp_callv (go_IN S hZ hK hM hS hA hz (c_SH_init l D ct Z hZ _ _ sh f_sh) mc_SH_init mz_SH ((hzn _ _ _ hz).2.1) mi_SH_init rfl hd_SH_init rfl ⟨by decide, by decide⟩ hl.1 rfl (Nat.le_of_ble_eq_true rfl) d_AD_init_20 ⟨by decide, by decide⟩) hM hS hA (fun M9 H locs h9 hM hS => ?_)
  obtain ⟨su, wo, hsun, hwon, hsw, e9⟩ := h9
  rw [e9] at hM
  unfold shM at hM
  have ne_x_su : x ≠ su := hp_nn f_x hsun
  have f_x := hp_k (e := (.inl (ct 1, 8, .inl (nf (fun _ => 0))))) ne_x_su f_x
  have ne_xt_su : xt ≠ su := hp_nn f_xt hsun
  have f_xt := hp_k (e := (.inl (ct 1, 8, .inl (nf (fun _ => 0))))) ne_xt_su f_xt
  have ne_ch_su : ch ≠ su := hp_nn f_ch hsun
  have f_ch := hp_k (e := (.inl (ct 1, 8, .inl (nf (fun _ => 0))))) ne_ch_su f_ch
  have ne_sh_su : sh ≠ su := hp_nn f_sh hsun
  have f_sh := hp_k (e := (.inl (ct 1, 8, .inl (nf (fun _ => 0))))) ne_sh_su f_sh
  have f_su : hp_up M5 su (.inl (ct 1, 8, .inl (nf (fun _ => 0)))) su = some (.inl (ct 1, 8, .inl (nf (fun _ => 0)))) := hp_us
  obtain ⟨M6, eM6⟩ : ∃ z, z = hp_up M5 su (.inl (ct 1, 8, .inl (nf (fun _ => 0)))) := ⟨_, rfl⟩
  rw [← eM6] at hM f_x f_xt f_ch f_sh f_su
  have hwon1 : M6 wo = none := by rw [eM6, hp_un (Ne.symm hsw)]; exact hwon
  have ne_x_wo : x ≠ wo := hp_nn f_x hwon1
  have f_x := hp_k (e := (.inl (ct 1, 64, .inl (nf (fun _ => 0))))) ne_x_wo f_x
  have ne_xt_wo : xt ≠ wo := hp_nn f_xt hwon1
  have f_xt := hp_k (e := (.inl (ct 1, 64, .inl (nf (fun _ => 0))))) ne_xt_wo f_xt
  have ne_ch_wo : ch ≠ wo := hp_nn f_ch hwon1
  have f_ch := hp_k (e := (.inl (ct 1, 64, .inl (nf (fun _ => 0))))) ne_ch_wo f_ch
  have ne_sh_wo : sh ≠ wo := hp_nn f_sh hwon1
  have f_sh := hp_k (e := (.inl (ct 1, 64, .inl (nf (fun _ => 0))))) ne_sh_wo f_sh
  have ne_su_wo : su ≠ wo := hp_nn f_su hwon1
  have f_su := hp_k (e := (.inl (ct 1, 64, .inl (nf (fun _ => 0))))) ne_su_wo f_su
  have f_wo : hp_up M6 wo (.inl (ct 1, 64, .inl (nf (fun _ => 0)))) wo = some (.inl (ct 1, 64, .inl (nf (fun _ => 0)))) := hp_us
  obtain ⟨M7, eM7⟩ : ∃ z, z = hp_up M6 wo (.inl (ct 1, 64, .inl (nf (fun _ => 0)))) := ⟨_, rfl⟩
  rw [← eM7] at hM f_x f_xt f_ch f_sh f_su f_wo
  have f_x := hp_k (e := (.inr (2, [.ref su, .ref wo, .int (nI 0), .long 0]))) ne_x_sh f_x
  have f_xt := hp_k (e := (.inr (2, [.ref su, .ref wo, .int (nI 0), .long 0]))) ne_xt_sh f_xt
  have f_ch := hp_k (e := (.inr (2, [.ref su, .ref wo, .int (nI 0), .long 0]))) ne_ch_sh f_ch
  have f_su := hp_k (e := (.inr (2, [.ref su, .ref wo, .int (nI 0), .long 0]))) (Ne.symm ne_sh_su) f_su
  have f_wo := hp_k (e := (.inr (2, [.ref su, .ref wo, .int (nI 0), .long 0]))) (Ne.symm ne_sh_wo) f_wo
  have f_sh : hp_up M7 sh (.inr (2, [.ref su, .ref wo, .int (nI 0), .long 0])) sh = some (.inr (2, [.ref su, .ref wo, .int (nI 0), .long 0])) := hp_us
  obtain ⟨M8, eM8⟩ : ∃ z, z = hp_up M7 sh (.inr (2, [.ref su, .ref wo, .int (nI 0), .long 0])) := ⟨_, rfl⟩
  rw [← eM8] at hM f_x f_xt f_ch f_sh f_su f_wo
  refine hp_putF (ty := (.object "ActionDigests$Sha")) (fs' := [.ref xt, .ref sh, .null, .int (nI 0), .null, .int (nI 0), .null, .null]) S hK hM hS i_AD t_AD to_AD n_AD f_x rfl 1 (by decide) mf_AD_19 (fun _ h9 => h9) rfl hnm rfl (by decide +kernel) rfl rfl (by simp) rfl d_AD_init_23 (fun H locs hM hS => ?_)
  have f_xt := hp_k (e := (.inr (0, [.ref xt, .ref sh, .null, .int (nI 0), .null, .int (nI 0), .null, .null]))) (Ne.symm ne_x_xt) f_xt
  have f_ch := hp_k (e := (.inr (0, [.ref xt, .ref sh, .null, .int (nI 0), .null, .int (nI 0), .null, .null]))) (Ne.symm ne_x_ch) f_ch
  have f_sh := hp_k (e := (.inr (0, [.ref xt, .ref sh, .null, .int (nI 0), .null, .int (nI 0), .null, .null]))) (Ne.symm ne_x_sh) f_sh
  have f_su := hp_k (e := (.inr (0, [.ref xt, .ref sh, .null, .int (nI 0), .null, .int (nI 0), .null, .null]))) (Ne.symm ne_x_su) f_su
  have f_wo := hp_k (e := (.inr (0, [.ref xt, .ref sh, .null, .int (nI 0), .null, .int (nI 0), .null, .null]))) (Ne.symm ne_x_wo) f_wo
  have f_x : hp_up M8 x (.inr (0, [.ref xt, .ref sh, .null, .int (nI 0), .null, .int (nI 0), .null, .null])) x = some (.inr (0, [.ref xt, .ref sh, .null, .int (nI 0), .null, .int (nI 0), .null, .null])) := hp_us
  obtain ⟨M9, eM9⟩ : ∃ z, z = hp_up M8 x (.inr (0, [.ref xt, .ref sh, .null, .int (nI 0), .null, .int (nI 0), .null, .null])) := ⟨_, rfl⟩
  rw [← eM9] at hM f_x f_xt f_ch f_sh f_su f_wo
  refine lv_aload_n hx hb d_AD_init_26 rfl (lv_at hl 0 rfl) ?_
  refine lv_bipush (v := nI 12) hx hb d_AD_init_27 rfl ?_
  refine hp_newq S hK hM hS hA mk_AD_23 ((hzn _ _ _ hz).2.2.1) 4 rfl 12 rfl (by decide) (by decide) (by decide) d_AD_init_29 (fun ac H hq_ac hM hS => ?_)
  refine W.widen (k := 6) (n := 154) (by omega) (by omega) ?_
  have ne_x_ac : x ≠ ac := hp_nn f_x hq_ac
  have f_x := hp_k (e := (.inl (ct 4, 12, .inr (.inr (.inr (.inr (fun _ => none))))))) ne_x_ac f_x
  have ne_xt_ac : xt ≠ ac := hp_nn f_xt hq_ac
  have f_xt := hp_k (e := (.inl (ct 4, 12, .inr (.inr (.inr (.inr (fun _ => none))))))) ne_xt_ac f_xt
  have ne_ch_ac : ch ≠ ac := hp_nn f_ch hq_ac
  have f_ch := hp_k (e := (.inl (ct 4, 12, .inr (.inr (.inr (.inr (fun _ => none))))))) ne_ch_ac f_ch
  have ne_sh_ac : sh ≠ ac := hp_nn f_sh hq_ac
  have f_sh := hp_k (e := (.inl (ct 4, 12, .inr (.inr (.inr (.inr (fun _ => none))))))) ne_sh_ac f_sh
  have ne_su_ac : su ≠ ac := hp_nn f_su hq_ac
  have f_su := hp_k (e := (.inl (ct 4, 12, .inr (.inr (.inr (.inr (fun _ => none))))))) ne_su_ac f_su
  have ne_wo_ac : wo ≠ ac := hp_nn f_wo hq_ac
  have f_wo := hp_k (e := (.inl (ct 4, 12, .inr (.inr (.inr (.inr (fun _ => none))))))) ne_wo_ac f_wo
  have f_ac : hp_up M9 ac (.inl (ct 4, 12, .inr (.inr (.inr (.inr (fun _ => none)))))) ac = some (.inl (ct 4, 12, .inr (.inr (.inr (.inr (fun _ => none)))))) := hp_us
  obtain ⟨M10, eM10⟩ : ∃ z, z = hp_up M9 ac (.inl (ct 4, 12, .inr (.inr (.inr (.inr (fun _ => none)))))) := ⟨_, rfl⟩
  rw [← eM10] at hM f_x f_xt f_ch f_sh f_su f_wo f_ac
  refine hp_putF (ty := (.array (.object "ActionDigests$Action"))) (fs' := [.ref xt, .ref sh, .ref ac, .int (nI 0), .null, .int (nI 0), .null, .null]) S hK hM hS i_AD t_AD to_AD n_AD f_x rfl 2 (by decide) mf_AD_25 (fun _ h9 => h9) rfl hnm rfl (by decide +kernel) rfl rfl (by simp) rfl d_AD_init_32 (fun H locs hM hS => ?_)
  have f_xt := hp_k (e := (.inr (0, [.ref xt, .ref sh, .ref ac, .int (nI 0), .null, .int (nI 0), .null, .null]))) (Ne.symm ne_x_xt) f_xt
  have f_ch := hp_k (e := (.inr (0, [.ref xt, .ref sh, .ref ac, .int (nI 0), .null, .int (nI 0), .null, .null]))) (Ne.symm ne_x_ch) f_ch
  have f_sh := hp_k (e := (.inr (0, [.ref xt, .ref sh, .ref ac, .int (nI 0), .null, .int (nI 0), .null, .null]))) (Ne.symm ne_x_sh) f_sh
  have f_su := hp_k (e := (.inr (0, [.ref xt, .ref sh, .ref ac, .int (nI 0), .null, .int (nI 0), .null, .null]))) (Ne.symm ne_x_su) f_su
  have f_wo := hp_k (e := (.inr (0, [.ref xt, .ref sh, .ref ac, .int (nI 0), .null, .int (nI 0), .null, .null]))) (Ne.symm ne_x_wo) f_wo
  have f_ac := hp_k (e := (.inr (0, [.ref xt, .ref sh, .ref ac, .int (nI 0), .null, .int (nI 0), .null, .null]))) (Ne.symm ne_x_ac) f_ac
  have f_x : hp_up M10 x (.inr (0, [.ref xt, .ref sh, .ref ac, .int (nI 0), .null, .int (nI 0), .null, .null])) x = some (.inr (0, [.ref xt, .ref sh, .ref ac, .int (nI 0), .null, .int (nI 0), .null, .null])) := hp_us
  obtain ⟨M11, eM11⟩ : ∃ z, z = hp_up M10 x (.inr (0, [.ref xt, .ref sh, .ref ac, .int (nI 0), .null, .int (nI 0), .null, .null])) := ⟨_, rfl⟩
  rw [← eM11] at hM f_x f_xt f_ch f_sh f_su f_wo f_ac
  refine lv_aload_n hx hb d_AD_init_35 rfl (lv_at hl 0 rfl) ?_
  refine lv_iconst (v := nI 0) hx hb d_AD_init_36 rfl ?_
  refine hp_put (ty := .int) (fs' := [.ref xt, .ref sh, .ref ac, .int (nI 0), .null, .int (nI 0), .null, .null]) S hK hM hS i_AD t_AD to_AD n_AD f_x rfl 3 (by decide) mf_AD_29 (fun _ h9 => h9) rfl (by decide +kernel) rfl rfl (by simp) rfl d_AD_init_37 (fun H locs hM hS => ?_)
  have f_xt := hp_k (e := (.inr (0, [.ref xt, .ref sh, .ref ac, .int (nI 0), .null, .int (nI 0), .null, .null]))) (Ne.symm ne_x_xt) f_xt
  have f_ch := hp_k (e := (.inr (0, [.ref xt, .ref sh, .ref ac, .int (nI 0), .null, .int (nI 0), .null, .null]))) (Ne.symm ne_x_ch) f_ch
  have f_sh := hp_k (e := (.inr (0, [.ref xt, .ref sh, .ref ac, .int (nI 0), .null, .int (nI 0), .null, .null]))) (Ne.symm ne_x_sh) f_sh
  have f_su := hp_k (e := (.inr (0, [.ref xt, .ref sh, .ref ac, .int (nI 0), .null, .int (nI 0), .null, .null]))) (Ne.symm ne_x_su) f_su
  have f_wo := hp_k (e := (.inr (0, [.ref xt, .ref sh, .ref ac, .int (nI 0), .null, .int (nI 0), .null, .null]))) (Ne.symm ne_x_wo) f_wo
  have f_ac := hp_k (e := (.inr (0, [.ref xt, .ref sh, .ref ac, .int (nI 0), .null, .int (nI 0), .null, .null]))) (Ne.symm ne_x_ac) f_ac
  have f_x : hp_up M11 x (.inr (0, [.ref xt, .ref sh, .ref ac, .int (nI 0), .null, .int (nI 0), .null, .null])) x = some (.inr (0, [.ref xt, .ref sh, .ref ac, .int (nI 0), .null, .int (nI 0), .null, .null])) := hp_us
  obtain ⟨M12, eM12⟩ : ∃ z, z = hp_up M11 x (.inr (0, [.ref xt, .ref sh, .ref ac, .int (nI 0), .null, .int (nI 0), .null, .null])) := ⟨_, rfl⟩
  rw [← eM12] at hM f_x f_xt f_ch f_sh f_su f_wo f_ac
  refine lv_aload_n hx hb d_AD_init_40 rfl (lv_at hl 0 rfl) ?_
  refine lv_bipush (v := nI 8) hx hb d_AD_init_41 rfl ?_
  refine hp_newq S hK hM hS hA mk_AD_33 ((hzn _ _ _ hz).2.2.2.1) 3 rfl 8 rfl (by decide) (by decide) (by decide) d_AD_init_43 (fun al H hq_al hM hS => ?_)
  refine W.widen (k := 7) (n := 162) (by omega) (by omega) ?_
  have ne_x_al : x ≠ al := hp_nn f_x hq_al
  have f_x := hp_k (e := (.inl (ct 3, 8, .inr (.inr (.inr (.inr (fun _ => none))))))) ne_x_al f_x
  have ne_xt_al : xt ≠ al := hp_nn f_xt hq_al
  have f_xt := hp_k (e := (.inl (ct 3, 8, .inr (.inr (.inr (.inr (fun _ => none))))))) ne_xt_al f_xt
  have ne_ch_al : ch ≠ al := hp_nn f_ch hq_al
  have f_ch := hp_k (e := (.inl (ct 3, 8, .inr (.inr (.inr (.inr (fun _ => none))))))) ne_ch_al f_ch
  have ne_sh_al : sh ≠ al := hp_nn f_sh hq_al
  have f_sh := hp_k (e := (.inl (ct 3, 8, .inr (.inr (.inr (.inr (fun _ => none))))))) ne_sh_al f_sh
  have ne_su_al : su ≠ al := hp_nn f_su hq_al
  have f_su := hp_k (e := (.inl (ct 3, 8, .inr (.inr (.inr (.inr (fun _ => none))))))) ne_su_al f_su
  have ne_wo_al : wo ≠ al := hp_nn f_wo hq_al
  have f_wo := hp_k (e := (.inl (ct 3, 8, .inr (.inr (.inr (.inr (fun _ => none))))))) ne_wo_al f_wo
  have ne_ac_al : ac ≠ al := hp_nn f_ac hq_al
  have f_ac := hp_k (e := (.inl (ct 3, 8, .inr (.inr (.inr (.inr (fun _ => none))))))) ne_ac_al f_ac
  have f_al : hp_up M12 al (.inl (ct 3, 8, .inr (.inr (.inr (.inr (fun _ => none)))))) al = some (.inl (ct 3, 8, .inr (.inr (.inr (.inr (fun _ => none)))))) := hp_us
  obtain ⟨M13, eM13⟩ : ∃ z, z = hp_up M12 al (.inl (ct 3, 8, .inr (.inr (.inr (.inr (fun _ => none)))))) := ⟨_, rfl⟩
  rw [← eM13] at hM f_x f_xt f_ch f_sh f_su f_wo f_ac f_al
  refine hp_putF (ty := (.array (.object "ActionDigests$Key"))) (fs' := [.ref xt, .ref sh, .ref ac, .int (nI 0), .ref al, .int (nI 0), .null, .null]) S hK hM hS i_AD t_AD to_AD n_AD f_x rfl 4 (by decide) mf_AD_35 (fun _ h9 => h9) rfl hnm rfl (by decide +kernel) rfl rfl (by simp) rfl d_AD_init_46 (fun H locs hM hS => ?_)
  have f_xt := hp_k (e := (.inr (0, [.ref xt, .ref sh, .ref ac, .int (nI 0), .ref al, .int (nI 0), .null, .null]))) (Ne.symm ne_x_xt) f_xt
  have f_ch := hp_k (e := (.inr (0, [.ref xt, .ref sh, .ref ac, .int (nI 0), .ref al, .int (nI 0), .null, .null]))) (Ne.symm ne_x_ch) f_ch
  have f_sh := hp_k (e := (.inr (0, [.ref xt, .ref sh, .ref ac, .int (nI 0), .ref al, .int (nI 0), .null, .null]))) (Ne.symm ne_x_sh) f_sh
  have f_su := hp_k (e := (.inr (0, [.ref xt, .ref sh, .ref ac, .int (nI 0), .ref al, .int (nI 0), .null, .null]))) (Ne.symm ne_x_su) f_su
  have f_wo := hp_k (e := (.inr (0, [.ref xt, .ref sh, .ref ac, .int (nI 0), .ref al, .int (nI 0), .null, .null]))) (Ne.symm ne_x_wo) f_wo
  have f_ac := hp_k (e := (.inr (0, [.ref xt, .ref sh, .ref ac, .int (nI 0), .ref al, .int (nI 0), .null, .null]))) (Ne.symm ne_x_ac) f_ac
  have f_al := hp_k (e := (.inr (0, [.ref xt, .ref sh, .ref ac, .int (nI 0), .ref al, .int (nI 0), .null, .null]))) (Ne.symm ne_x_al) f_al
  have f_x : hp_up M13 x (.inr (0, [.ref xt, .ref sh, .ref ac, .int (nI 0), .ref al, .int (nI 0), .null, .null])) x = some (.inr (0, [.ref xt, .ref sh, .ref ac, .int (nI 0), .ref al, .int (nI 0), .null, .null])) := hp_us
  obtain ⟨M14, eM14⟩ : ∃ z, z = hp_up M13 x (.inr (0, [.ref xt, .ref sh, .ref ac, .int (nI 0), .ref al, .int (nI 0), .null, .null])) := ⟨_, rfl⟩
  rw [← eM14] at hM f_x f_xt f_ch f_sh f_su f_wo f_ac f_al
  refine lv_aload_n hx hb d_AD_init_49 rfl (lv_at hl 0 rfl) ?_
  refine lv_iconst (v := nI 0) hx hb d_AD_init_50 rfl ?_
  refine hp_put (ty := .int) (fs' := [.ref xt, .ref sh, .ref ac, .int (nI 0), .ref al, .int (nI 0), .null, .null]) S hK hM hS i_AD t_AD to_AD n_AD f_x rfl 5 (by decide) mf_AD_39 (fun _ h9 => h9) rfl (by decide +kernel) rfl rfl (by simp) rfl d_AD_init_51 (fun H locs hM hS => ?_)
  have f_xt := hp_k (e := (.inr (0, [.ref xt, .ref sh, .ref ac, .int (nI 0), .ref al, .int (nI 0), .null, .null]))) (Ne.symm ne_x_xt) f_xt
  have f_ch := hp_k (e := (.inr (0, [.ref xt, .ref sh, .ref ac, .int (nI 0), .ref al, .int (nI 0), .null, .null]))) (Ne.symm ne_x_ch) f_ch
  have f_sh := hp_k (e := (.inr (0, [.ref xt, .ref sh, .ref ac, .int (nI 0), .ref al, .int (nI 0), .null, .null]))) (Ne.symm ne_x_sh) f_sh
  have f_su := hp_k (e := (.inr (0, [.ref xt, .ref sh, .ref ac, .int (nI 0), .ref al, .int (nI 0), .null, .null]))) (Ne.symm ne_x_su) f_su
  have f_wo := hp_k (e := (.inr (0, [.ref xt, .ref sh, .ref ac, .int (nI 0), .ref al, .int (nI 0), .null, .null]))) (Ne.symm ne_x_wo) f_wo
  have f_ac := hp_k (e := (.inr (0, [.ref xt, .ref sh, .ref ac, .int (nI 0), .ref al, .int (nI 0), .null, .null]))) (Ne.symm ne_x_ac) f_ac
  have f_al := hp_k (e := (.inr (0, [.ref xt, .ref sh, .ref ac, .int (nI 0), .ref al, .int (nI 0), .null, .null]))) (Ne.symm ne_x_al) f_al
  have f_x : hp_up M14 x (.inr (0, [.ref xt, .ref sh, .ref ac, .int (nI 0), .ref al, .int (nI 0), .null, .null])) x = some (.inr (0, [.ref xt, .ref sh, .ref ac, .int (nI 0), .ref al, .int (nI 0), .null, .null])) := hp_us
  obtain ⟨M15, eM15⟩ : ∃ z, z = hp_up M14 x (.inr (0, [.ref xt, .ref sh, .ref ac, .int (nI 0), .ref al, .int (nI 0), .null, .null])) := ⟨_, rfl⟩
  rw [← eM15] at hM f_x f_xt f_ch f_sh f_su f_wo f_ac f_al
  refine lv_aload_n hx hb d_AD_init_54 rfl (lv_at hl 0 rfl) ?_
  refine lv_iconst (v := nI 0) hx hb d_AD_init_55 rfl ?_
  refine hp_newi S hK hM hS hA (atype := .char) rfl ma_char 0 rfl rfl (by decide) 0 rfl (by omega) (by decide) (by decide) d_AD_init_56 (fun sc H hq_sc hM hS => ?_)
  refine W.widen (k := 8) (n := 162) (by omega) (by omega) ?_
  rw [nf_0] at hM
  have ne_x_sc : x ≠ sc := hp_nn f_x hq_sc
  have f_x := hp_k (e := (.inl (ct 0, 0, .inl (nf (fun _ => 0))))) ne_x_sc f_x
  have ne_xt_sc : xt ≠ sc := hp_nn f_xt hq_sc
  have f_xt := hp_k (e := (.inl (ct 0, 0, .inl (nf (fun _ => 0))))) ne_xt_sc f_xt
  have ne_ch_sc : ch ≠ sc := hp_nn f_ch hq_sc
  have f_ch := hp_k (e := (.inl (ct 0, 0, .inl (nf (fun _ => 0))))) ne_ch_sc f_ch
  have ne_sh_sc : sh ≠ sc := hp_nn f_sh hq_sc
  have f_sh := hp_k (e := (.inl (ct 0, 0, .inl (nf (fun _ => 0))))) ne_sh_sc f_sh
  have ne_su_sc : su ≠ sc := hp_nn f_su hq_sc
  have f_su := hp_k (e := (.inl (ct 0, 0, .inl (nf (fun _ => 0))))) ne_su_sc f_su
  have ne_wo_sc : wo ≠ sc := hp_nn f_wo hq_sc
  have f_wo := hp_k (e := (.inl (ct 0, 0, .inl (nf (fun _ => 0))))) ne_wo_sc f_wo
  have ne_ac_sc : ac ≠ sc := hp_nn f_ac hq_sc
  have f_ac := hp_k (e := (.inl (ct 0, 0, .inl (nf (fun _ => 0))))) ne_ac_sc f_ac
  have ne_al_sc : al ≠ sc := hp_nn f_al hq_sc
  have f_al := hp_k (e := (.inl (ct 0, 0, .inl (nf (fun _ => 0))))) ne_al_sc f_al
  have f_sc : hp_up M15 sc (.inl (ct 0, 0, .inl (nf (fun _ => 0)))) sc = some (.inl (ct 0, 0, .inl (nf (fun _ => 0)))) := hp_us
  obtain ⟨M16, eM16⟩ : ∃ z, z = hp_up M15 sc (.inl (ct 0, 0, .inl (nf (fun _ => 0)))) := ⟨_, rfl⟩
  rw [← eM16] at hM f_x f_xt f_ch f_sh f_su f_wo f_ac f_al f_sc
  refine hp_put (ty := (.array .char)) (fs' := [.ref xt, .ref sh, .ref ac, .int (nI 0), .ref al, .int (nI 0), .ref sc, .null]) S hK hM hS i_AD t_AD to_AD n_AD f_x rfl 6 (by decide) mf_AD_42 (fun _ h9 => h9) rfl (by decide +kernel) rfl rfl (by simp) rfl d_AD_init_58 (fun H locs hM hS => ?_)
  have f_xt := hp_k (e := (.inr (0, [.ref xt, .ref sh, .ref ac, .int (nI 0), .ref al, .int (nI 0), .ref sc, .null]))) (Ne.symm ne_x_xt) f_xt
  have f_ch := hp_k (e := (.inr (0, [.ref xt, .ref sh, .ref ac, .int (nI 0), .ref al, .int (nI 0), .ref sc, .null]))) (Ne.symm ne_x_ch) f_ch
  have f_sh := hp_k (e := (.inr (0, [.ref xt, .ref sh, .ref ac, .int (nI 0), .ref al, .int (nI 0), .ref sc, .null]))) (Ne.symm ne_x_sh) f_sh
  have f_su := hp_k (e := (.inr (0, [.ref xt, .ref sh, .ref ac, .int (nI 0), .ref al, .int (nI 0), .ref sc, .null]))) (Ne.symm ne_x_su) f_su
  have f_wo := hp_k (e := (.inr (0, [.ref xt, .ref sh, .ref ac, .int (nI 0), .ref al, .int (nI 0), .ref sc, .null]))) (Ne.symm ne_x_wo) f_wo
  have f_ac := hp_k (e := (.inr (0, [.ref xt, .ref sh, .ref ac, .int (nI 0), .ref al, .int (nI 0), .ref sc, .null]))) (Ne.symm ne_x_ac) f_ac
  have f_al := hp_k (e := (.inr (0, [.ref xt, .ref sh, .ref ac, .int (nI 0), .ref al, .int (nI 0), .ref sc, .null]))) (Ne.symm ne_x_al) f_al
  have f_sc := hp_k (e := (.inr (0, [.ref xt, .ref sh, .ref ac, .int (nI 0), .ref al, .int (nI 0), .ref sc, .null]))) (Ne.symm ne_x_sc) f_sc
  have f_x : hp_up M16 x (.inr (0, [.ref xt, .ref sh, .ref ac, .int (nI 0), .ref al, .int (nI 0), .ref sc, .null])) x = some (.inr (0, [.ref xt, .ref sh, .ref ac, .int (nI 0), .ref al, .int (nI 0), .ref sc, .null])) := hp_us
  obtain ⟨M17, eM17⟩ : ∃ z, z = hp_up M16 x (.inr (0, [.ref xt, .ref sh, .ref ac, .int (nI 0), .ref al, .int (nI 0), .ref sc, .null])) := ⟨_, rfl⟩
  rw [← eM17] at hM f_x f_xt f_ch f_sh f_su f_wo f_ac f_al f_sc
  refine lv_aload_n hx hb d_AD_init_61 rfl (lv_at hl 0 rfl) ?_
  refine lv_bipush (v := nI 64) hx hb d_AD_init_62 rfl ?_
  refine hp_newi S hK hM hS hA (atype := .char) rfl ma_char 0 rfl rfl (by decide) 64 rfl (by omega) (by decide) (by decide) d_AD_init_64 (fun hg H hq_hg hM hS => ?_)
  refine W.widen (k := 9) (n := 226) (by omega) (by omega) ?_
  rw [nf_0] at hM
  have ne_x_hg : x ≠ hg := hp_nn f_x hq_hg
  have f_x := hp_k (e := (.inl (ct 0, 64, .inl (nf (fun _ => 0))))) ne_x_hg f_x
  have ne_xt_hg : xt ≠ hg := hp_nn f_xt hq_hg
  have f_xt := hp_k (e := (.inl (ct 0, 64, .inl (nf (fun _ => 0))))) ne_xt_hg f_xt
  have ne_ch_hg : ch ≠ hg := hp_nn f_ch hq_hg
  have f_ch := hp_k (e := (.inl (ct 0, 64, .inl (nf (fun _ => 0))))) ne_ch_hg f_ch
  have ne_sh_hg : sh ≠ hg := hp_nn f_sh hq_hg
  have f_sh := hp_k (e := (.inl (ct 0, 64, .inl (nf (fun _ => 0))))) ne_sh_hg f_sh
  have ne_su_hg : su ≠ hg := hp_nn f_su hq_hg
  have f_su := hp_k (e := (.inl (ct 0, 64, .inl (nf (fun _ => 0))))) ne_su_hg f_su
  have ne_wo_hg : wo ≠ hg := hp_nn f_wo hq_hg
  have f_wo := hp_k (e := (.inl (ct 0, 64, .inl (nf (fun _ => 0))))) ne_wo_hg f_wo
  have ne_ac_hg : ac ≠ hg := hp_nn f_ac hq_hg
  have f_ac := hp_k (e := (.inl (ct 0, 64, .inl (nf (fun _ => 0))))) ne_ac_hg f_ac
  have ne_al_hg : al ≠ hg := hp_nn f_al hq_hg
  have f_al := hp_k (e := (.inl (ct 0, 64, .inl (nf (fun _ => 0))))) ne_al_hg f_al
  have ne_sc_hg : sc ≠ hg := hp_nn f_sc hq_hg
  have f_sc := hp_k (e := (.inl (ct 0, 64, .inl (nf (fun _ => 0))))) ne_sc_hg f_sc
  have f_hg : hp_up M17 hg (.inl (ct 0, 64, .inl (nf (fun _ => 0)))) hg = some (.inl (ct 0, 64, .inl (nf (fun _ => 0)))) := hp_us
  obtain ⟨M18, eM18⟩ : ∃ z, z = hp_up M17 hg (.inl (ct 0, 64, .inl (nf (fun _ => 0)))) := ⟨_, rfl⟩
  rw [← eM18] at hM f_x f_xt f_ch f_sh f_su f_wo f_ac f_al f_sc f_hg
  refine hp_putF (ty := (.array .char)) (fs' := [.ref xt, .ref sh, .ref ac, .int (nI 0), .ref al, .int (nI 0), .ref sc, .ref hg]) S hK hM hS i_AD t_AD to_AD n_AD f_x rfl 7 (by decide) mf_AD_46 (fun _ h9 => h9) rfl hnm rfl (by decide +kernel) rfl rfl (by simp) rfl d_AD_init_66 (fun H locs hM hS => ?_)
  have f_xt := hp_k (e := (.inr (0, [.ref xt, .ref sh, .ref ac, .int (nI 0), .ref al, .int (nI 0), .ref sc, .ref hg]))) (Ne.symm ne_x_xt) f_xt
  have f_ch := hp_k (e := (.inr (0, [.ref xt, .ref sh, .ref ac, .int (nI 0), .ref al, .int (nI 0), .ref sc, .ref hg]))) (Ne.symm ne_x_ch) f_ch
  have f_sh := hp_k (e := (.inr (0, [.ref xt, .ref sh, .ref ac, .int (nI 0), .ref al, .int (nI 0), .ref sc, .ref hg]))) (Ne.symm ne_x_sh) f_sh
  have f_su := hp_k (e := (.inr (0, [.ref xt, .ref sh, .ref ac, .int (nI 0), .ref al, .int (nI 0), .ref sc, .ref hg]))) (Ne.symm ne_x_su) f_su
  have f_wo := hp_k (e := (.inr (0, [.ref xt, .ref sh, .ref ac, .int (nI 0), .ref al, .int (nI 0), .ref sc, .ref hg]))) (Ne.symm ne_x_wo) f_wo
  have f_ac := hp_k (e := (.inr (0, [.ref xt, .ref sh, .ref ac, .int (nI 0), .ref al, .int (nI 0), .ref sc, .ref hg]))) (Ne.symm ne_x_ac) f_ac
  have f_al := hp_k (e := (.inr (0, [.ref xt, .ref sh, .ref ac, .int (nI 0), .ref al, .int (nI 0), .ref sc, .ref hg]))) (Ne.symm ne_x_al) f_al
  have f_sc := hp_k (e := (.inr (0, [.ref xt, .ref sh, .ref ac, .int (nI 0), .ref al, .int (nI 0), .ref sc, .ref hg]))) (Ne.symm ne_x_sc) f_sc
  have f_hg := hp_k (e := (.inr (0, [.ref xt, .ref sh, .ref ac, .int (nI 0), .ref al, .int (nI 0), .ref sc, .ref hg]))) (Ne.symm ne_x_hg) f_hg
  have f_x : hp_up M18 x (.inr (0, [.ref xt, .ref sh, .ref ac, .int (nI 0), .ref al, .int (nI 0), .ref sc, .ref hg])) x = some (.inr (0, [.ref xt, .ref sh, .ref ac, .int (nI 0), .ref al, .int (nI 0), .ref sc, .ref hg])) := hp_us
  obtain ⟨M19, eM19⟩ : ∃ z, z = hp_up M18 x (.inr (0, [.ref xt, .ref sh, .ref ac, .int (nI 0), .ref al, .int (nI 0), .ref sc, .ref hg])) := ⟨_, rfl⟩
  rw [← eM19] at hM f_x f_xt f_ch f_sh f_su f_wo f_ac f_al f_sc f_hg
  refine lv_aload_n hx hb d_AD_init_69 rfl (lv_at hl 0 rfl) ?_
  refine lv_iconst (v := nI 0) hx hb d_AD_init_70 rfl ?_
  refine hp_newi S hK hM hS hA (atype := .char) rfl ma_char 0 rfl rfl (by decide) 0 rfl (by omega) (by decide) (by decide) d_AD_init_71 (fun tc H hq_tc hM hS => ?_)
  refine W.widen (k := 10) (n := 226) (by omega) (by omega) ?_
  rw [nf_0] at hM
  have ne_x_tc : x ≠ tc := hp_nn f_x hq_tc
  have f_x := hp_k (e := (.inl (ct 0, 0, .inl (nf (fun _ => 0))))) ne_x_tc f_x
  have ne_xt_tc : xt ≠ tc := hp_nn f_xt hq_tc
  have f_xt := hp_k (e := (.inl (ct 0, 0, .inl (nf (fun _ => 0))))) ne_xt_tc f_xt
  have ne_ch_tc : ch ≠ tc := hp_nn f_ch hq_tc
  have f_ch := hp_k (e := (.inl (ct 0, 0, .inl (nf (fun _ => 0))))) ne_ch_tc f_ch
  have ne_sh_tc : sh ≠ tc := hp_nn f_sh hq_tc
  have f_sh := hp_k (e := (.inl (ct 0, 0, .inl (nf (fun _ => 0))))) ne_sh_tc f_sh
  have ne_su_tc : su ≠ tc := hp_nn f_su hq_tc
  have f_su := hp_k (e := (.inl (ct 0, 0, .inl (nf (fun _ => 0))))) ne_su_tc f_su
  have ne_wo_tc : wo ≠ tc := hp_nn f_wo hq_tc
  have f_wo := hp_k (e := (.inl (ct 0, 0, .inl (nf (fun _ => 0))))) ne_wo_tc f_wo
  have ne_ac_tc : ac ≠ tc := hp_nn f_ac hq_tc
  have f_ac := hp_k (e := (.inl (ct 0, 0, .inl (nf (fun _ => 0))))) ne_ac_tc f_ac
  have ne_al_tc : al ≠ tc := hp_nn f_al hq_tc
  have f_al := hp_k (e := (.inl (ct 0, 0, .inl (nf (fun _ => 0))))) ne_al_tc f_al
  have ne_sc_tc : sc ≠ tc := hp_nn f_sc hq_tc
  have f_sc := hp_k (e := (.inl (ct 0, 0, .inl (nf (fun _ => 0))))) ne_sc_tc f_sc
  have ne_hg_tc : hg ≠ tc := hp_nn f_hg hq_tc
  have f_hg := hp_k (e := (.inl (ct 0, 0, .inl (nf (fun _ => 0))))) ne_hg_tc f_hg
  have f_tc : hp_up M19 tc (.inl (ct 0, 0, .inl (nf (fun _ => 0)))) tc = some (.inl (ct 0, 0, .inl (nf (fun _ => 0)))) := hp_us
  obtain ⟨M20, eM20⟩ : ∃ z, z = hp_up M19 tc (.inl (ct 0, 0, .inl (nf (fun _ => 0)))) := ⟨_, rfl⟩
  rw [← eM20] at hM f_x f_xt f_ch f_sh f_su f_wo f_ac f_al f_sc f_hg f_tc
  have hsh : shOk ct M20 sh su wo (nf (fun _ => 0), nf (fun _ => 0), 0, 0) := ⟨f_su, f_wo, f_sh, by decide⟩
  have hw0 : adW ct M20 x xt ch sh su wo ac al sc hg [] (nf (fun _ => 0), nf (fun _ => 0), 0, 0) [] [] [] (List.replicate 64 0) := ⟨f_x, ⟨fun _ => 0, f_xt, f_ch, fun i hi => absurd hi (Nat.not_lt_zero i), fun _ => (by decide : (0 : Nat) < 65536), by decide⟩, hsh, ⟨fun _ => none, fun _ => 0, fun _ => 0, fun _ _ => none, f_ac, by decide, fun i hi => absurd hi (Nat.not_lt_zero i), fun i j hi => absurd hi (Nat.not_lt_zero i)⟩, ⟨fun _ => none, f_al, ⟨by decide, fun _ _ => rfl⟩, fun i hi => absurd hi (Nat.not_lt_zero i)⟩, ⟨f_sc, by decide, fun i => by simp, ⟨Ne.symm ne_ch_sc, ne_sc_hg⟩⟩, ⟨by rw [tx_rep]; exact f_hg, by simp, fun i => by rw [rep_at]; decide⟩, ne_ch_hg⟩
  refine hp_callv (go_V S hZ hK hM hS hA hz (c_AD_holdContent l D ct Z hZ _ _ tk th hzk hzh (fzc ch hg) x xt sh ac 0 al 0 sc hg f_x su wo _ hsh [] f_hg tc [] (by decide) (fun i => by show ([] : List Nat).getD i 0 < 65536; simp) f_tc) mc_AD_holdContent mz_AD ml_AD_49 mi_AD_holdContent mx_AD_holdContent hd_AD_holdContent rfl ⟨by decide, by decide⟩ f_x rfl rfl hl.1 rfl (Nat.le_of_ble_eq_true rfl) d_AD_init_73 ⟨by decide, by decide⟩) hM hS hA (fun M9 H locs h9 hM hS => ?_)
  obtain ⟨X, hX, rfl⟩ := h9
  have hw3 := hw0.sha (ct01 hK) hX
  replace hM := hM.cong (a := hg) (g := tx (hexL (dgW (nf (fun _ => 0)) []))) hp_us (fun i hi => congrArg nI (hexL_at hi).symm)
  rw [hp_uu] at hM
  exact hp_vret S hret hlk hM hS ⟨xt, ch, sh, su, wo, ac, al, sc, hg, X, hw3.held (ct01 hK) hexL_len (fun i => Nat.lt_trans (hexL_lt i) (by decide))⟩ d_AD_init_76
