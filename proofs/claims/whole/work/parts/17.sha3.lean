set_option maxHeartbeats 4000000 in
set_option maxRecDepth 100000 in
/-- a byte is fed -/
theorem c_SH_feed (l : Launch) (D : va_G) (ct : Nat → ClassId) (Z : hp_Z) (hZ : hp_Zok Z) (M : hp_M) (sz : Nat) (tk : Nat) (hzk : zK Z tk) (sh su wo : Nat) (Y : ShT) (hsh : shOk ct M sh su wo Y) (hlt : Y.2.2.1 < 64) (v : Int32) : Mv l y_SH_feed b_SH_feed 3 none 2 54 0 0 [.ref sh, .int v] D ct Z M sz (fun M1 => M1 = shM ct M sh su wo (feedS v Y)) := by
  refine hp_start (by decide) (Nat.le_of_ble_eq_true rfl) (fun p e s m below meth c ls S hret hlk hnm hsz hK hM hS hA hz hl => ?_)
  have hx := S.1
  have hb := S.2.1
  have hl : lv_has ls 3 [(0, .ref sh), (1, .int v)] := hl
  obtain ⟨f_su, f_wo, f_sh, hfl⟩ := id hsh
  refine lv_aload_n hx hb d_SH_feed_0 rfl (lv_at hl 0 rfl) ?_
  refine hp_get S hK hM i_SH f_sh rfl 2 (by decide) mf_SH_18 (fun _ h9 => h9) rfl d_SH_feed_1 ?_
  refine lv_iconst (v := nI 2) hx hb d_SH_feed_4 rfl ?_
  refine lv_ishr hx hb d_SH_feed_5 ?_
  rw [shr2 (by omega)]
  refine lv_bipush (v := nI 15) hx hb d_SH_feed_6 rfl ?_
  refine lv_iand hx hb d_SH_feed_8 ?_
  rw [and15 (by omega)]
  refine lv_istore_n (lv' := [(2, .int (nI (((Y.2.2.1) / 4) % 16))), (0, .ref sh), (1, .int v)]) hx hb d_SH_feed_9 rfl hl (by decide) rfl (fun ls hl => ?_)
  refine lv_aload_n hx hb d_SH_feed_10 rfl (lv_at hl 1 rfl) ?_
  refine hp_get S hK hM i_SH f_sh rfl 1 (by decide) mf_SH_15 (fun _ h9 => h9) rfl d_SH_feed_11 ?_
  refine lv_iload_n hx hb d_SH_feed_14 rfl (lv_at hl 0 rfl) ?_
  refine lv_aload_n hx hb d_SH_feed_15 rfl (lv_at hl 1 rfl) ?_
  refine hp_get S hK hM i_SH f_sh rfl 1 (by decide) mf_SH_15 (fun _ h9 => h9) rfl d_SH_feed_16 ?_
  refine lv_iload_n hx hb d_SH_feed_19 rfl (lv_at hl 0 rfl) ?_
  refine hp_iald S hK hM 1 f_wo rfl (((Y.2.2.1) / 4) % 16) rfl (by omega) (by omega) d_SH_feed_20 ?_
  refine lv_bipush (v := nI 8) hx hb d_SH_feed_21 rfl ?_
  refine lv_ishl hx hb d_SH_feed_23 ?_
  refine lv_iload_n hx hb d_SH_feed_24 rfl (lv_at hl 2 rfl) ?_
  refine lv_sipush (v := nI 255) hx hb d_SH_feed_25 rfl ?_
  refine lv_iand hx hb d_SH_feed_28 ?_
  refine lv_ior hx hb d_SH_feed_29 ?_
  refine hp_iast S hK hM hS 1 f_wo rfl (((Y.2.2.1) / 4) % 16) rfl (by omega) (by omega) d_SH_feed_30 (fun H locs hM hS => ?_)
  have f_su := hp_k (e := (.inl (ct 1, 64, .inl (upd (Y.2.1) (((Y.2.2.1) / 4) % 16) ((((Y.2.1) (((Y.2.2.1) / 4) % 16)) <<< ((nI 8) &&& 31)) ||| (v &&& (nI 255))))))) (hp_ne f_su f_wo (by simp)) f_su
  have f_sh := hp_k (e := (.inl (ct 1, 64, .inl (upd (Y.2.1) (((Y.2.2.1) / 4) % 16) ((((Y.2.1) (((Y.2.2.1) / 4) % 16)) <<< ((nI 8) &&& 31)) ||| (v &&& (nI 255))))))) (hp_ne f_sh f_wo (by simp)) f_sh
  have f_wo : hp_up M wo (.inl (ct 1, 64, .inl (upd (Y.2.1) (((Y.2.2.1) / 4) % 16) ((((Y.2.1) (((Y.2.2.1) / 4) % 16)) <<< ((nI 8) &&& 31)) ||| (v &&& (nI 255)))))) wo = some (.inl (ct 1, 64, .inl (upd (Y.2.1) (((Y.2.2.1) / 4) % 16) ((((Y.2.1) (((Y.2.2.1) / 4) % 16)) <<< ((nI 8) &&& 31)) ||| (v &&& (nI 255)))))) := hp_us
  obtain ⟨M1, eM1⟩ : ∃ z, z = hp_up M wo (.inl (ct 1, 64, .inl (upd (Y.2.1) (((Y.2.2.1) / 4) % 16) ((((Y.2.1) (((Y.2.2.1) / 4) % 16)) <<< ((nI 8) &&& 31)) ||| (v &&& (nI 255)))))) := ⟨_, rfl⟩
  rw [← eM1] at hM f_su f_wo f_sh
  refine lv_aload_n hx hb d_SH_feed_31 rfl (lv_at hl 1 rfl) ?_
  refine lv_dup hx hb d_SH_feed_32 rfl ?_
  refine hp_get S hK hM i_SH f_sh rfl 2 (by decide) mf_SH_18 (fun _ h9 => h9) rfl d_SH_feed_33 ?_
  refine lv_iconst (v := nI 1) hx hb d_SH_feed_36 rfl ?_
  refine nb_iadd hx hb d_SH_feed_37 ?_
  refine hp_put (ty := .int) (fs' := [.ref su, .ref wo, .int (nI ((Y.2.2.1) + 1)), .long Y.2.2.2]) S hK hM hS i_SH t_SH to_SH n_SH f_sh rfl 2 (by decide) mf_SH_18 (fun _ h9 => h9) rfl (by decide +kernel) rfl rfl (by simp) rfl d_SH_feed_38 (fun H locs hM hS => ?_)
  have f_su := hp_k (e := (.inr (2, [.ref su, .ref wo, .int (nI ((Y.2.2.1) + 1)), .long Y.2.2.2]))) (hp_ne f_su f_sh (by simp)) f_su
  have f_wo := hp_k (e := (.inr (2, [.ref su, .ref wo, .int (nI ((Y.2.2.1) + 1)), .long Y.2.2.2]))) (hp_ne f_wo f_sh (by simp)) f_wo
  have f_sh : hp_up M1 sh (.inr (2, [.ref su, .ref wo, .int (nI ((Y.2.2.1) + 1)), .long Y.2.2.2])) sh = some (.inr (2, [.ref su, .ref wo, .int (nI ((Y.2.2.1) + 1)), .long Y.2.2.2])) := hp_us
  obtain ⟨M2, eM2⟩ : ∃ z, z = hp_up M1 sh (.inr (2, [.ref su, .ref wo, .int (nI ((Y.2.2.1) + 1)), .long Y.2.2.2])) := ⟨_, rfl⟩
  rw [← eM2] at hM f_su f_wo f_sh
  refine lv_aload_n hx hb d_SH_feed_41 rfl (lv_at hl 1 rfl) ?_
  refine lv_dup hx hb d_SH_feed_42 rfl ?_
  refine hp_get S hK hM i_SH f_sh rfl 3 (by decide) mf_SH_22 (fun _ h9 => h9) rfl d_SH_feed_43 ?_
  refine lv_lconst (v := 1) hx hb d_SH_feed_46 (by decide) ?_
  refine lv_ladd hx hb d_SH_feed_47 ?_
  refine hp_put (ty := .long) (fs' := [.ref su, .ref wo, .int (nI ((Y.2.2.1) + 1)), .long ((Y.2.2.2) + 1)]) S hK hM hS i_SH t_SH to_SH n_SH f_sh rfl 3 (by decide) mf_SH_22 (fun _ h9 => h9) rfl (by decide +kernel) rfl rfl (by simp) rfl d_SH_feed_48 (fun H locs hM hS => ?_)
  have f_su := hp_k (e := (.inr (2, [.ref su, .ref wo, .int (nI ((Y.2.2.1) + 1)), .long ((Y.2.2.2) + 1)]))) (hp_ne f_su f_sh (by simp)) f_su
  have f_wo := hp_k (e := (.inr (2, [.ref su, .ref wo, .int (nI ((Y.2.2.1) + 1)), .long ((Y.2.2.2) + 1)]))) (hp_ne f_wo f_sh (by simp)) f_wo
  have f_sh : hp_up M2 sh (.inr (2, [.ref su, .ref wo, .int (nI ((Y.2.2.1) + 1)), .long ((Y.2.2.2) + 1)])) sh = some (.inr (2, [.ref su, .ref wo, .int (nI ((Y.2.2.1) + 1)), .long ((Y.2.2.2) + 1)])) := hp_us
  obtain ⟨M3, eM3⟩ : ∃ z, z = hp_up M2 sh (.inr (2, [.ref su, .ref wo, .int (nI ((Y.2.2.1) + 1)), .long ((Y.2.2.2) + 1)])) := ⟨_, rfl⟩
  rw [← eM3] at hM f_su f_wo f_sh
  have hX : M3 = shM ct M sh su wo (fd0 v Y) := by rw [eM3, eM2, eM1, hp_uu]; unfold shM fd0; rw [hp_same hsh.1]; rfl
  rw [hX] at hM
  obtain ⟨X, eX⟩ : ∃ z : ShT, z = fd0 v Y := ⟨_, rfl⟩
  rw [← eX] at hM
  have hXf : X.2.2.1 = Y.2.2.1 + 1 := by rw [eX]; rfl
  have hshX := shM_ok hsh (X := X) (by omega)
  obtain ⟨f_su, f_wo, f_sh, -⟩ := id hshX
  refine lv_aload_n hx hb d_SH_feed_51 rfl (lv_at hl 1 rfl) ?_
  refine hp_get S hK hM i_SH f_sh rfl 2 (by decide) mf_SH_18 (fun _ h9 => h9) rfl d_SH_feed_52 ?_
  refine lv_bipush (v := nI 64) hx hb d_SH_feed_55 rfl ?_
  refine nb_lt (tgt := 73) hx hb d_SH_feed_57 (by decide) (by omega) (by omega) (fun h64 => ?_) (fun h64 => ?_)
  · exact hp_vret S hret hlk hM hS (by rw [eX]; unfold feedS; rw [if_pos (by omega)]) d_SH_feed_73
  · refine lv_aload_n hx hb d_SH_feed_60 rfl (lv_at hl 1 rfl) ?_
    refine hp_callv (go_V S hZ hK hM hS hA hz (c_SH_spreadWords l D ct Z hZ _ _ sh su wo X hshX) mc_SH_spreadWords mz_SH ml_SH_33 mi_SH_spreadWords mx_SH_spreadWords hd_SH_spreadWords rfl ⟨by decide, by decide⟩ f_sh rfl rfl hl.1 rfl (Nat.le_of_ble_eq_true rfl) d_SH_feed_61 ⟨by decide, by decide⟩) hM hS hA (fun M9 H locs h9 hM hS => ?_)
    rw [h9, shM_uu] at hM
    obtain ⟨U, eU⟩ : ∃ z : ShT, z = (X.1, spw X.2.1 48, X.2.2.1, X.2.2.2) := ⟨_, rfl⟩
    rw [← eU] at hM
    have hUf : U.2.2.1 = Y.2.2.1 + 1 := by rw [eU]; exact hXf
    have hshX := shM_ok hsh (X := U) (by omega)
    obtain ⟨f_su, f_wo, f_sh, -⟩ := id hshX
    refine lv_aload_n hx hb d_SH_feed_64 rfl (lv_at hl 1 rfl) ?_
    refine hp_callv (go_V S hZ hK hM hS hA hz (c_SH_mixBlock l D ct Z hZ _ _ tk hzk sh su wo U hshX) mc_SH_mixBlock mz_SH ml_SH_36 mi_SH_mixBlock mx_SH_mixBlock hd_SH_mixBlock rfl ⟨by decide, by decide⟩ f_sh rfl rfl hl.1 rfl (Nat.le_of_ble_eq_true rfl) d_SH_feed_65 ⟨by decide, by decide⟩) hM hS hA (fun M9 H locs h9 hM hS => ?_)
    rw [h9, shM_uu] at hM
    obtain ⟨T, eT⟩ : ∃ z : ShT, z = (adds (mixn U.2.1 U.1 64) U.1, U.2.1, U.2.2.1, U.2.2.2) := ⟨_, rfl⟩
    rw [← eT] at hM
    have hTf : T.2.2.1 = Y.2.2.1 + 1 := by rw [eT]; exact hUf
    have hshX := shM_ok hsh (X := T) (by omega)
    obtain ⟨f_su, f_wo, f_sh, -⟩ := id hshX
    refine lv_aload_n hx hb d_SH_feed_68 rfl (lv_at hl 1 rfl) ?_
    refine lv_iconst (v := nI 0) hx hb d_SH_feed_69 rfl ?_
    refine hp_put (ty := .int) (fs' := [.ref su, .ref wo, .int (nI 0), .long T.2.2.2]) S hK hM hS i_SH t_SH to_SH n_SH f_sh rfl 2 (by decide) mf_SH_18 (fun _ h9 => h9) rfl (by decide +kernel) rfl rfl (by simp) rfl d_SH_feed_70 (fun H locs hM hS => ?_)
    have f_su := hp_k (e := (.inr (2, [.ref su, .ref wo, .int (nI 0), .long T.2.2.2]))) (hp_ne f_su f_sh (by simp)) f_su
    have f_wo := hp_k (e := (.inr (2, [.ref su, .ref wo, .int (nI 0), .long T.2.2.2]))) (hp_ne f_wo f_sh (by simp)) f_wo
    have f_sh : hp_up (shM ct M sh su wo T) sh (.inr (2, [.ref su, .ref wo, .int (nI 0), .long T.2.2.2])) sh = some (.inr (2, [.ref su, .ref wo, .int (nI 0), .long T.2.2.2])) := hp_us
    obtain ⟨M4, eM4⟩ : ∃ z, z = hp_up (shM ct M sh su wo T) sh (.inr (2, [.ref su, .ref wo, .int (nI 0), .long T.2.2.2])) := ⟨_, rfl⟩
    rw [← eM4] at hM f_su f_wo f_sh
    exact hp_vret S hret hlk hM hS (by rw [eM4, shM_sh hshX, shM_uu, eT, eU, eX]; unfold feedS; rw [if_neg (by omega)]; rfl) d_SH_feed_73
theorem feedL_s {Y : ShT} {x : List Nat} {j : Nat} (h : j < x.length) : feedL Y (x.take (j + 1)) = feedS (nI (x.getD j 0)) (feedL Y (x.take j)) := by
  unfold feedL
  rw [List.take_succ, List.foldl_append, List.getElem?_eq_getElem h, List.getD_eq_getElem?_getD, List.getElem?_eq_getElem h]
  rfl
theorem feedL_lt {Y : ShT} (h : Y.2.2.1 < 64) : ∀ l : List Nat, (feedL Y l).2.2.1 < 64 := by
  intro l
  induction l generalizing Y with
  | nil => exact h
  | cons k l ih => exact ih (Y := feedS (nI k) Y) feedS_lt
set_option maxHeartbeats 4000000 in
set_option maxRecDepth 100000 in
/-- characters are fed -/
theorem c_SH_feedAll (l : Launch) (D : va_G) (ct : Nat → ClassId) (Z : hp_Z) (hZ : hp_Zok Z) (M : hp_M) (sz : Nat) (tk : Nat) (hzk : zK Z tk) (sh su wo : Nat) (Y : ShT) (hsh : shOk ct M sh su wo Y) (hlt : Y.2.2.1 < 64) (t : Nat) (x : List Nat) (hL : x.length ≤ 4000) (hc_x : ∀ i, x.getD i 0 < 65536) (f_t : M t = some (.inl (ct 0, x.length, .inl (tx x)))) : Mv l y_SH_feedAll b_SH_feedAll 3 none 3 76 0 0 [.ref sh, .ref t] D ct Z M sz (fun M1 => M1 = shM ct M sh su wo (feedL Y x)) := by
  refine hp_start (by decide) (Nat.le_of_ble_eq_true rfl) (fun p e s m below meth c ls S hret hlk hnm hsz hK hM hS hA hz hl => ?_)
  have hx := S.1
  have hb := S.2.1
  have hl : lv_has ls 3 [(0, .ref sh), (1, .ref t)] := hl
  obtain ⟨f_su, f_wo, f_sh, hfl⟩ := id hsh
  have nt_su : t ≠ su := (hp_ne f_t f_su (fun q9 => ct_ne hK (i := 0) (j := 1) rfl rfl (by decide) (congrArg Prod.fst (Sum.inl.inj q9))))
  have nt_wo : t ≠ wo := (hp_ne f_t f_wo (fun q9 => ct_ne hK (i := 0) (j := 1) rfl rfl (by decide) (congrArg Prod.fst (Sum.inl.inj q9))))
  have nt_sh : t ≠ sh := (hp_ne f_t f_sh (by simp))
  have f0_t := f_t
  refine lv_iconst (v := nI 0) hx hb d_SH_feedAll_0 rfl ?_
  refine lv_istore_n (lv' := [(2, .int (nI 0)), (0, .ref sh), (1, .ref t)]) hx hb d_SH_feedAll_1 rfl hl (by decide) rfl (fun ls hl => ?_)
  replace hl : lv_has ls 3 [(0, .ref sh), (1, .ref t), (2, .int (nI 0))] := lv_sub hl [1, 2, 0] rfl
  obtain ⟨j, e9j⟩ : ∃ z : Nat, z = 0 := ⟨_, rfl⟩
  obtain ⟨X, e9X⟩ : ∃ z : ShT, z = Y := ⟨_, rfl⟩
  replace hl : lv_has ls 3 [(0, .ref sh), (1, .ref t), (2, .int (nI j))] := by subst e9j e9X; exact hl
  obtain ⟨H, e9H⟩ : ∃ z : Heap, z = s.heap := ⟨_, rfl⟩
  replace hM : hp_H D ccl (hp_A M sz) M H := by rw [e9H]; exact hM
  replace hS : va_S (hp_A M sz) s.heap H [] := by rw [e9H]; exact hS
  rw [← e9H]
  clear e9H
  obtain ⟨locs, e9L⟩ : ∃ z : List Loc, z = [] := ⟨_, rfl⟩
  replace hS : va_S (hp_A M sz) s.heap H locs := by rw [e9L]; exact hS
  rw [← e9L]
  clear e9L
  replace hM : hp_H D ccl (hp_A M sz) (shM ct M sh su wo X) H := by rw [e9X, shM_self hsh]; exact hM
  have hX : X = feedL Y (x.take j) := by subst e9j e9X; rfl
  have hXl : X.2.2.1 < 64 := by subst e9j e9X; exact hlt
  obtain ⟨fu, hn⟩ : ∃ fu : Nat, j + fu = x.length := ⟨x.length - j, by omega⟩
  clear e9j e9X
  induction fu generalizing j X H locs ls with
  | zero =>
    have hn : j = x.length := by omega
    have hshX := shM_ok hsh (X := X) (Nat.le_of_lt hXl)
    obtain ⟨f_su, f_wo, f_sh, -⟩ := id hshX
    have f_t := shM_k (ct := ct) (X := X) f0_t nt_su nt_wo nt_sh
    refine lv_iload_n hx hb d_SH_feedAll_2 rfl (lv_at hl 2 rfl) ?_
    refine lv_aload_n hx hb d_SH_feedAll_3 rfl (lv_at hl 1 rfl) ?_
    refine hp_alen S hK hM 0 f_t rfl d_SH_feedAll_4 ?_
    refine nb_ge (tgt := 21) hx hb d_SH_feedAll_5 (by decide) (by omega) (by omega) (fun h1 => ?_) (fun h1 => ?_)
    · exact hp_vret S hret hlk hM hS (by rw [hX, hn, List.take_length]) d_SH_feedAll_21
    · exact absurd hn (by omega)
  | succ fu ih =>
    have hshX := shM_ok hsh (X := X) (Nat.le_of_lt hXl)
    obtain ⟨f_su, f_wo, f_sh, -⟩ := id hshX
    have f_t := shM_k (ct := ct) (X := X) f0_t nt_su nt_wo nt_sh
    refine lv_iload_n hx hb d_SH_feedAll_2 rfl (lv_at hl 2 rfl) ?_
    refine lv_aload_n hx hb d_SH_feedAll_3 rfl (lv_at hl 1 rfl) ?_
    refine hp_alen S hK hM 0 f_t rfl d_SH_feedAll_4 ?_
    refine nb_ge (tgt := 21) hx hb d_SH_feedAll_5 (by decide) (by omega) (by omega) (fun h2 => ?_) (fun h2 => ?_)
    · exact absurd hn (by omega)
    · refine lv_aload_n hx hb d_SH_feedAll_8 rfl (lv_at hl 0 rfl) ?_
      refine lv_aload_n hx hb d_SH_feedAll_9 rfl (lv_at hl 1 rfl) ?_
      refine lv_iload_n hx hb d_SH_feedAll_10 rfl (lv_at hl 2 rfl) ?_
      refine hp_cald S hK hM 0 f_t rfl j rfl (by omega) (by omega) d_SH_feedAll_11 ?_
      refine hp_callv (go_V S hZ hK hM hS hA hz (c_SH_feed l D ct Z hZ _ _ tk hzk sh su wo X hshX hXl (nI (x.getD j 0))) mc_SH_feed mz_SH ml_SH_29 mi_SH_feed mx_SH_feed hd_SH_feed rfl ⟨by decide, by decide⟩ f_sh rfl rfl hl.1 rfl (Nat.le_of_ble_eq_true rfl) d_SH_feedAll_12 ⟨by decide, by decide⟩) hM hS hA (fun M9 H locs h9 hM hS => ?_)
      rw [h9, shM_uu] at hM
      refine lv_iinc (v := nI (j + 1)) (lv' := [(2, .int (nI (j + 1))), (0, .ref sh), (1, .ref t)]) hx hb d_SH_feedAll_15 hl (k := 2) rfl (nI_add j 1) (by decide) rfl (fun ls hl => ?_)
      refine lv_goto (tgt := 2) hx hb d_SH_feedAll_18 (by decide) ?_
      exact ih (ls := ls) (hl := lv_sub hl [1, 2, 0] rfl) (j := j + 1) (hn := by omega) (X := feedS (nI (x.getD j 0)) X) (hX := by rw [hX, feedL_s (by omega)]) (hXl := feedS_lt) (H := H) (locs := locs) (hM := hM) (hS := hS)
/-- bytes of 0, till 56 of a block are there -/
def zer : Nat → ShT → ShT
  | 0, Y => Y
  | n + 1, Y => if Y.2.2.1 = 56 then Y else zer n (feedS (nI 0) Y)
def lby (b : Int64) (s : Nat) : Int32 := ((Int64.toUInt64 b >>> ((Int32.toInt64 (nI s)).toUInt64 &&& Int64.toUInt64 63)).toInt64 &&& 255).toInt32
/-- the eight bytes of a number, from the k-th on -/
def len8 (b : Int64) : Nat → ShT → ShT
  | 0, Y => Y
  | k + 1, Y => len8 b k (feedS (lby b (8 * k)) Y)
def endS (Y : ShT) : ShT := len8 (Y.2.2.2 * 8) 8 (zer 64 (feedS (nI 128) Y))
theorem iinc_m8 (x : Int32) : x + Int32.ofInt (-8) = x - nI 8 := by
  rw [Int32.sub_eq_add_neg]
  rfl
set_option maxHeartbeats 4000000 in
set_option maxRecDepth 100000 in
/-- the end of the bytes -/
theorem c_SH_end (l : Launch) (D : va_G) (ct : Nat → ClassId) (Z : hp_Z) (hZ : hp_Zok Z) (M : hp_M) (sz : Nat) (tk : Nat) (hzk : zK Z tk) (sh su wo : Nat) (Y : ShT) (hsh : shOk ct M sh su wo Y) (hlt : Y.2.2.1 < 64) : Mv l y_SH_end b_SH_end 4 none 3 76 0 0 [.ref sh] D ct Z M sz (fun M1 => M1 = shM ct M sh su wo (endS Y)) := by
  refine hp_start (by decide) (Nat.le_of_ble_eq_true rfl) (fun p e s m below meth c ls S hret hlk hnm hsz hK hM hS hA hz hl => ?_)
  have hx := S.1
  have hb := S.2.1
  have hl : lv_has ls 4 [(0, .ref sh)] := hl
  obtain ⟨f_su, f_wo, f_sh, hfl⟩ := id hsh
  refine lv_aload_n hx hb d_SH_end_0 rfl (lv_at hl 0 rfl) ?_
  refine hp_get S hK hM i_SH f_sh rfl 3 (by decide) mf_SH_22 (fun _ h9 => h9) rfl d_SH_end_1 ?_
  refine lv_ldc2 hx hb S.2.2.2.1 (S.2.2.2.2 _ mq_SH_39) d_SH_end_4 ?_
  refine lv_lmul hx hb d_SH_end_7 ?_
  refine lv_lstore_n (lv' := [(1, .long ((Y.2.2.2) * 8)), (0, .ref sh)]) hx hb d_SH_end_8 rfl hl (by decide) rfl (fun ls hl => ?_)
  refine lv_aload_n hx hb d_SH_end_9 rfl (lv_at hl 1 rfl) ?_
  refine lv_sipush (v := nI 128) hx hb d_SH_end_10 rfl ?_
  refine hp_callv (go_V S hZ hK hM hS hA hz (c_SH_feed l D ct Z hZ _ _ tk hzk sh su wo Y hsh hlt (nI 128)) mc_SH_feed mz_SH ml_SH_29 mi_SH_feed mx_SH_feed hd_SH_feed rfl ⟨by decide, by decide⟩ f_sh rfl rfl hl.1 rfl (Nat.le_of_ble_eq_true rfl) d_SH_end_13 ⟨by decide, by decide⟩) hM hS hA (fun M9 H locs h9 hM hS => ?_)
  rw [h9] at hM
  refine lv_iconst (v := nI 0) hx hb d_SH_end_16 rfl ?_
  refine lv_istore_n (lv' := [(3, .int (nI 0)), (1, .long ((Y.2.2.2) * 8)), (0, .ref sh)]) hx hb d_SH_end_17 rfl hl (by decide) rfl (fun ls hl => ?_)
  replace hl : lv_has ls 4 [(0, .ref sh), (1, .long ((Y.2.2.2) * 8)), (3, .int (nI 0))] := lv_sub hl [2, 1, 0] rfl
  obtain ⟨j, e9j⟩ : ∃ z : Nat, z = 0 := ⟨_, rfl⟩
  obtain ⟨X, e9X⟩ : ∃ z : ShT, z = feedS (nI 128) Y := ⟨_, rfl⟩
  replace hl : lv_has ls 4 [(0, .ref sh), (1, .long ((Y.2.2.2) * 8)), (3, .int (nI j))] := by subst e9j e9X; exact hl
  replace hM : hp_H D ccl (hp_A M sz) (shM ct M sh su wo X) H := by rw [e9X]; exact hM
  have hX : zer (64 - j) X = zer 64 (feedS (nI 128) Y) := by subst e9j e9X; rfl
  have hXl : X.2.2.1 < 64 := by subst e9j e9X; exact feedS_lt
  obtain ⟨fu, hn⟩ : ∃ fu : Nat, j + fu = 64 := ⟨64 - j, by omega⟩
  clear e9j e9X
  induction fu generalizing j X H locs ls with
  | zero =>
    have hn : j = 64 := by omega
    have hshX := shM_ok hsh (X := X) (Nat.le_of_lt hXl)
    obtain ⟨f_su, f_wo, f_sh, -⟩ := id hshX
    refine lv_iload_n hx hb d_SH_end_18 rfl (lv_at hl 2 rfl) ?_
    refine lv_bipush (v := nI 64) hx hb d_SH_end_19 rfl ?_
    refine nb_ge (tgt := 44) hx hb d_SH_end_21 (by decide) (by omega) (by omega) (fun h1 => ?_) (fun h1 => ?_)
    · have hE : endS Y = len8 (Y.2.2.2 * 8) 8 X := by unfold endS; rw [← hX, hn]; rfl
      replace hl : lv_has ls 4 [(0, .ref sh), (1, .long ((Y.2.2.2) * 8))] := lv_sub hl [0, 1] rfl
      refine lv_bipush (v := nI 56) hx hb d_SH_end_44 rfl ?_
      refine lv_istore_n (lv' := [(3, .int (nI 56)), (0, .ref sh), (1, .long ((Y.2.2.2) * 8))]) hx hb d_SH_end_46 rfl hl (by decide) rfl (fun ls hl => ?_)
      replace hl : lv_has ls 4 [(0, .ref sh), (1, .long ((Y.2.2.2) * 8)), (3, .int (nI 56))] := lv_sub hl [1, 2, 0] rfl
      clear hX
      obtain ⟨u, e9u⟩ : ∃ z : Nat, z = 8 := ⟨_, rfl⟩
      obtain ⟨T, e9T⟩ : ∃ z : ShT, z = X := ⟨_, rfl⟩
      replace hl : lv_has ls 4 [(0, .ref sh), (1, .long ((Y.2.2.2) * 8)), (3, .int (nI (8 * u) - nI 8))] := by subst e9u; exact hl
      replace hM : hp_H D ccl (hp_A M sz) (shM ct M sh su wo T) H := by rw [e9T]; exact hM
      have hTl : T.2.2.1 < 64 := by rw [e9T]; exact hXl
      have hT : endS Y = len8 (Y.2.2.2 * 8) u T := by rw [e9u, e9T]; exact hE
      have hu : u ≤ 8 := by omega
      clear e9u e9T
      induction u generalizing T H locs ls with
      | zero =>
        have hshX := shM_ok hsh (X := T) (Nat.le_of_lt hTl)
        obtain ⟨f_su, f_wo, f_sh, -⟩ := id hshX
        refine lv_iload_n hx hb d_SH_end_47 rfl (lv_at hl 2 rfl) ?_
        refine lv_if_lt (tgt := 69) hx hb d_SH_end_48 (by decide) (fun h2 => ?_) (fun h2 => ?_)
        · exact hp_vret S hret hlk hM hS (by rw [hT]; rfl) d_SH_end_69
        · exact absurd (by decide) h2
      | succ u ih =>
        have hshX := shM_ok hsh (X := T) (Nat.le_of_lt hTl)
        obtain ⟨f_su, f_wo, f_sh, -⟩ := id hshX
        replace hl : lv_has ls 4 [(0, .ref sh), (1, .long ((Y.2.2.2) * 8)), (3, .int (nI (8 * u)))] := by rw [show nI (8 * u) = nI (8 * (u + 1)) - nI 8 by rw [pk_sub (by omega)]; exact congrArg nI (by omega)]; exact hl
        refine lv_iload_n hx hb d_SH_end_47 rfl (lv_at hl 2 rfl) ?_
        refine nz_lt (tgt := 69) hx hb d_SH_end_48 (by decide) (by omega) (fun h3 => ?_) (fun h3 => ?_)
        · exact absurd h3 (fun q => q)
        · refine lv_aload_n hx hb d_SH_end_51 rfl (lv_at hl 0 rfl) ?_
          refine lv_lload_n hx hb d_SH_end_52 rfl (lv_at hl 1 rfl) ?_
          refine lv_iload_n hx hb d_SH_end_53 rfl (lv_at hl 2 rfl) ?_
          refine lv_lushr hx hb d_SH_end_54 rfl ?_
          refine lv_ldc2 hx hb S.2.2.2.1 (S.2.2.2.2 _ mq_SH_41) d_SH_end_55 ?_
          refine lv_land hx hb d_SH_end_58 ?_
          refine lv_l2i hx hb d_SH_end_59 rfl ?_
          refine hp_callv (go_V S hZ hK hM hS hA hz (c_SH_feed l D ct Z hZ _ _ tk hzk sh su wo T hshX hTl (lby (Y.2.2.2 * 8) (8 * u))) mc_SH_feed mz_SH ml_SH_29 mi_SH_feed mx_SH_feed hd_SH_feed rfl ⟨by decide, by decide⟩ f_sh rfl rfl hl.1 rfl (Nat.le_of_ble_eq_true rfl) d_SH_end_60 ⟨by decide, by decide⟩) hM hS hA (fun M9 H locs h9 hM hS => ?_)
          rw [h9, shM_uu] at hM
          refine lv_iinc (v := nI (8 * u) - nI 8) (lv' := [(3, .int (nI (8 * u) - nI 8)), (0, .ref sh), (1, .long ((Y.2.2.2) * 8))]) hx hb d_SH_end_63 hl (k := 2) rfl (iinc_m8 _) (by decide) rfl (fun ls hl => ?_)
          refine lv_goto (tgt := 47) hx hb d_SH_end_66 (by decide) ?_
          exact ih (T := feedS (lby (Y.2.2.2 * 8) (8 * u)) T) (H := H) (locs := locs) (ls := ls) (hl := lv_sub hl [1, 2, 0] rfl) (hM := hM) (hS := hS) (hTl := feedS_lt) (hT := hT) (hu := by omega)
    · exact absurd hn (by omega)
  | succ fu ih =>
    have hshX := shM_ok hsh (X := X) (Nat.le_of_lt hXl)
    obtain ⟨f_su, f_wo, f_sh, -⟩ := id hshX
    refine lv_iload_n hx hb d_SH_end_18 rfl (lv_at hl 2 rfl) ?_
    refine lv_bipush (v := nI 64) hx hb d_SH_end_19 rfl ?_
    refine nb_ge (tgt := 44) hx hb d_SH_end_21 (by decide) (by omega) (by omega) (fun h4 => ?_) (fun h4 => ?_)
    · exact absurd hn (by omega)
    · refine lv_aload_n hx hb d_SH_end_24 rfl (lv_at hl 0 rfl) ?_
      refine hp_get S hK hM i_SH f_sh rfl 2 (by decide) mf_SH_18 (fun _ h9 => h9) rfl d_SH_end_25 ?_
      refine lv_bipush (v := nI 56) hx hb d_SH_end_28 rfl ?_
      refine nb_eq (tgt := 44) hx hb d_SH_end_30 (by decide) (by omega) (by omega) (fun h56 => ?_) (fun h56 => ?_)
      · have hE : endS Y = len8 (Y.2.2.2 * 8) 8 X := by unfold endS; rw [← hX, show 64 - j = (63 - j) + 1 by omega]; unfold zer; rw [if_pos h56]
        replace hl : lv_has ls 4 [(0, .ref sh), (1, .long ((Y.2.2.2) * 8))] := lv_sub hl [0, 1] rfl
        refine lv_bipush (v := nI 56) hx hb d_SH_end_44 rfl ?_
        refine lv_istore_n (lv' := [(3, .int (nI 56)), (0, .ref sh), (1, .long ((Y.2.2.2) * 8))]) hx hb d_SH_end_46 rfl hl (by decide) rfl (fun ls hl => ?_)
        replace hl : lv_has ls 4 [(0, .ref sh), (1, .long ((Y.2.2.2) * 8)), (3, .int (nI 56))] := lv_sub hl [1, 2, 0] rfl
        clear hX
        obtain ⟨u, e9u⟩ : ∃ z : Nat, z = 8 := ⟨_, rfl⟩
        obtain ⟨T, e9T⟩ : ∃ z : ShT, z = X := ⟨_, rfl⟩
        replace hl : lv_has ls 4 [(0, .ref sh), (1, .long ((Y.2.2.2) * 8)), (3, .int (nI (8 * u) - nI 8))] := by subst e9u; exact hl
        replace hM : hp_H D ccl (hp_A M sz) (shM ct M sh su wo T) H := by rw [e9T]; exact hM
        have hTl : T.2.2.1 < 64 := by rw [e9T]; exact hXl
        have hT : endS Y = len8 (Y.2.2.2 * 8) u T := by rw [e9u, e9T]; exact hE
        have hu : u ≤ 8 := by omega
        clear e9u e9T
        induction u generalizing T H locs ls with
        | zero =>
          have hshX := shM_ok hsh (X := T) (Nat.le_of_lt hTl)
          obtain ⟨f_su, f_wo, f_sh, -⟩ := id hshX
          refine lv_iload_n hx hb d_SH_end_47 rfl (lv_at hl 2 rfl) ?_
          refine lv_if_lt (tgt := 69) hx hb d_SH_end_48 (by decide) (fun h5 => ?_) (fun h5 => ?_)
          · exact hp_vret S hret hlk hM hS (by rw [hT]; rfl) d_SH_end_69
          · exact absurd (by decide) h5
        | succ u ih =>
          have hshX := shM_ok hsh (X := T) (Nat.le_of_lt hTl)
          obtain ⟨f_su, f_wo, f_sh, -⟩ := id hshX
          replace hl : lv_has ls 4 [(0, .ref sh), (1, .long ((Y.2.2.2) * 8)), (3, .int (nI (8 * u)))] := by rw [show nI (8 * u) = nI (8 * (u + 1)) - nI 8 by rw [pk_sub (by omega)]; exact congrArg nI (by omega)]; exact hl
          refine lv_iload_n hx hb d_SH_end_47 rfl (lv_at hl 2 rfl) ?_
          refine nz_lt (tgt := 69) hx hb d_SH_end_48 (by decide) (by omega) (fun h6 => ?_) (fun h6 => ?_)
          · exact absurd h6 (fun q => q)
          · refine lv_aload_n hx hb d_SH_end_51 rfl (lv_at hl 0 rfl) ?_
            refine lv_lload_n hx hb d_SH_end_52 rfl (lv_at hl 1 rfl) ?_
            refine lv_iload_n hx hb d_SH_end_53 rfl (lv_at hl 2 rfl) ?_
            refine lv_lushr hx hb d_SH_end_54 rfl ?_
            refine lv_ldc2 hx hb S.2.2.2.1 (S.2.2.2.2 _ mq_SH_41) d_SH_end_55 ?_
            refine lv_land hx hb d_SH_end_58 ?_
            refine lv_l2i hx hb d_SH_end_59 rfl ?_
            refine hp_callv (go_V S hZ hK hM hS hA hz (c_SH_feed l D ct Z hZ _ _ tk hzk sh su wo T hshX hTl (lby (Y.2.2.2 * 8) (8 * u))) mc_SH_feed mz_SH ml_SH_29 mi_SH_feed mx_SH_feed hd_SH_feed rfl ⟨by decide, by decide⟩ f_sh rfl rfl hl.1 rfl (Nat.le_of_ble_eq_true rfl) d_SH_end_60 ⟨by decide, by decide⟩) hM hS hA (fun M9 H locs h9 hM hS => ?_)
            rw [h9, shM_uu] at hM
            refine lv_iinc (v := nI (8 * u) - nI 8) (lv' := [(3, .int (nI (8 * u) - nI 8)), (0, .ref sh), (1, .long ((Y.2.2.2) * 8))]) hx hb d_SH_end_63 hl (k := 2) rfl (iinc_m8 _) (by decide) rfl (fun ls hl => ?_)
            refine lv_goto (tgt := 47) hx hb d_SH_end_66 (by decide) ?_
            exact ih (T := feedS (lby (Y.2.2.2 * 8) (8 * u)) T) (H := H) (locs := locs) (ls := ls) (hl := lv_sub hl [1, 2, 0] rfl) (hM := hM) (hS := hS) (hTl := feedS_lt) (hT := hT) (hu := by omega)
      · refine lv_aload_n hx hb d_SH_end_33 rfl (lv_at hl 0 rfl) ?_
        refine lv_iconst (v := nI 0) hx hb d_SH_end_34 rfl ?_
        refine hp_callv (go_V S hZ hK hM hS hA hz (c_SH_feed l D ct Z hZ _ _ tk hzk sh su wo X hshX hXl (nI 0)) mc_SH_feed mz_SH ml_SH_29 mi_SH_feed mx_SH_feed hd_SH_feed rfl ⟨by decide, by decide⟩ f_sh rfl rfl hl.1 rfl (Nat.le_of_ble_eq_true rfl) d_SH_end_35 ⟨by decide, by decide⟩) hM hS hA (fun M9 H locs h9 hM hS => ?_)
        rw [h9, shM_uu] at hM
        refine lv_iinc (v := nI (j + 1)) (lv' := [(3, .int (nI (j + 1))), (0, .ref sh), (1, .long ((Y.2.2.2) * 8))]) hx hb d_SH_end_38 hl (k := 2) rfl (nI_add j 1) (by decide) rfl (fun ls hl => ?_)
        refine lv_goto (tgt := 18) hx hb d_SH_end_41 (by decide) ?_
        exact ih (ls := ls) (hl := lv_sub hl [1, 2, 0] rfl) (j := j + 1) (hn := by omega) (X := feedS (nI 0) X) (hX := by rw [← hX, show 64 - j = (64 - (j + 1)) + 1 by omega]; show _ = (if X.2.2.1 = 56 then X else _); rw [if_neg h56]) (hXl := feedS_lt) (H := H) (locs := locs) (hM := hM) (hS := hS)
