def cntL (Al : List (List Nat)) (L : List MR) : Nat := (L.filter (fun R => cB Al (clR R))).length
theorem cntL_1 {Al : List (List Nat)} {L : List MR} {k : Nat} (hk : k < L.length) (h : cnts Al (clR (L.getD k mr0))) : cntL Al (L.take (k + 1)) = cntL Al (L.take k) + 1 := by
  unfold cntL
  rw [take_s mr0 hk, List.filter_append, List.length_append, List.filter_cons_of_pos (p := fun R => cB Al (clR R)) ((cnts_dec _ _).mp h)]
  rfl
theorem cntL_0 {Al : List (List Nat)} {L : List MR} {k : Nat} (hk : k < L.length) (h : ¬ cnts Al (clR (L.getD k mr0))) : cntL Al (L.take (k + 1)) = cntL Al (L.take k) := by
  unfold cntL
  rw [take_s mr0 hk, List.filter_append, List.length_append, List.filter_cons_of_neg (p := fun R => cB Al (clR R)) (fun z => h ((cnts_dec _ _).mpr z))]
  rfl
theorem cntL_le {Al : List (List Nat)} {L : List MR} : cntL Al L ≤ L.length := List.length_filter_le _ _
def befB (i : Nat) (R : MR) (j : Nat) (R2 : MR) : Bool := decide (R.1 < R2.1) || (decide (R.1 = R2.1) && ((decide (R.1 = 0) && decide (i < j)) || (decide (R.1 ≠ 0) && decide (cmpK (kyR R) (kyR R2) < 0))))
theorem befB_iff {i j : Nat} {R R2 : MR} : befB i R j R2 = true ↔ befR i R j R2 := by
  unfold befB befR
  rw [Bool.or_eq_true, Bool.and_eq_true, Bool.or_eq_true, Bool.and_eq_true, Bool.and_eq_true, decide_eq_true_iff, decide_eq_true_iff, decide_eq_true_iff, decide_eq_true_iff, decide_eq_true_iff, decide_eq_true_iff]
/-- how many of the first i rows count and stand before row k -/
def rkU (Al : List (List Nat)) (L : List MR) (k i : Nat) : Nat := ((List.range i).filter (fun q => cB Al (clR (L.getD q mr0)) && befB q (L.getD q mr0) k (L.getD k mr0))).length
theorem rkU_1 {Al : List (List Nat)} {L : List MR} {k i : Nat} (h : cnts Al (clR (L.getD i mr0))) (h2 : befR i (L.getD i mr0) k (L.getD k mr0)) : rkU Al L k (i + 1) = rkU Al L k i + 1 := by
  unfold rkU
  rw [List.range_succ, List.filter_append, List.length_append, List.filter_cons_of_pos (by rw [Bool.and_eq_true]; exact ⟨(cnts_dec _ _).mp h, befB_iff.mpr h2⟩)]
  rfl
theorem rkU_0 {Al : List (List Nat)} {L : List MR} {k i : Nat} (h : ¬ (cnts Al (clR (L.getD i mr0)) ∧ befR i (L.getD i mr0) k (L.getD k mr0))) : rkU Al L k (i + 1) = rkU Al L k i := by
  unfold rkU
  rw [List.range_succ, List.filter_append, List.length_append, List.filter_cons_of_neg (fun z => h (by rw [Bool.and_eq_true] at z; exact ⟨(cnts_dec _ _).mpr z.1, befB_iff.mp z.2⟩))]
  rfl
theorem rkU_le {Al : List (List Nat)} {L : List MR} {k i : Nat} : rkU Al L k i ≤ i := by
  unfold rkU
  exact Nat.le_trans (List.length_filter_le _ _) (by rw [List.length_range]; exact Nat.le_refl _)
/-- row k of the action is the one at place pt of those that count -/
def isAt (Al : List (List Nat)) (L : List MR) (k pt : Nat) : Prop := k < L.length ∧ cnts Al (clR (L.getD k mr0)) ∧ rkU Al L k L.length = pt
theorem d_MD_rows_0 : decode b_MD_rows 0 = .ok (.aload_n 0, 1) := by decide +kernel
theorem d_MD_rows_1 : decode b_MD_rows 1 = .ok (.iconst 0, 1) := by decide +kernel
theorem d_MD_rows_2 : decode b_MD_rows 2 = .ok (.putfield 137, 3) := by decide +kernel
theorem d_MD_rows_5 : decode b_MD_rows 5 = .ok (.aload_n 0, 1) := by decide +kernel
theorem d_MD_rows_6 : decode b_MD_rows 6 = .ok (.iload_n 1, 1) := by decide +kernel
theorem d_MD_rows_7 : decode b_MD_rows 7 = .ok (.invokevirtual 168, 3) := by decide +kernel
theorem d_MD_rows_10 : decode b_MD_rows 10 = .ok (.ifCond .eq 11, 3) := by decide +kernel
theorem d_MD_rows_13 : decode b_MD_rows 13 = .ok (.aload_n 0, 1) := by decide +kernel
theorem d_MD_rows_14 : decode b_MD_rows 14 = .ok (.iload_n 1, 1) := by decide +kernel
theorem d_MD_rows_15 : decode b_MD_rows 15 = .ok (.invokevirtual 196, 3) := by decide +kernel
theorem d_MD_rows_18 : decode b_MD_rows 18 = .ok (.goto 4, 3) := by decide +kernel
theorem d_MD_rows_21 : decode b_MD_rows 21 = .ok (.iconst (-1), 1) := by decide +kernel
theorem d_MD_rows_22 : decode b_MD_rows 22 = .ok (.ireturn, 1) := by decide +kernel
theorem d_MD_kind_0 : decode b_MD_kind 0 = .ok (.aload_n 0, 1) := by decide +kernel
theorem d_MD_kind_1 : decode b_MD_kind 1 = .ok (.iconst 0, 1) := by decide +kernel
theorem d_MD_kind_2 : decode b_MD_kind 2 = .ok (.putfield 137, 3) := by decide +kernel
theorem d_MD_kind_5 : decode b_MD_kind 5 = .ok (.aload_n 0, 1) := by decide +kernel
theorem d_MD_kind_6 : decode b_MD_kind 6 = .ok (.iload_n 1, 1) := by decide +kernel
theorem d_MD_kind_7 : decode b_MD_kind 7 = .ok (.invokevirtual 168, 3) := by decide +kernel
theorem d_MD_kind_10 : decode b_MD_kind 10 = .ok (.ifCond .eq 16, 3) := by decide +kernel
theorem d_MD_kind_13 : decode b_MD_kind 13 = .ok (.iload_n 2, 1) := by decide +kernel
theorem d_MD_kind_14 : decode b_MD_kind 14 = .ok (.ifCond .lt 12, 3) := by decide +kernel
theorem d_MD_kind_17 : decode b_MD_kind 17 = .ok (.iload_n 2, 1) := by decide +kernel
theorem d_MD_kind_18 : decode b_MD_kind 18 = .ok (.aload_n 0, 1) := by decide +kernel
theorem d_MD_kind_19 : decode b_MD_kind 19 = .ok (.iload_n 1, 1) := by decide +kernel
theorem d_MD_kind_20 : decode b_MD_kind 20 = .ok (.invokevirtual 196, 3) := by decide +kernel
theorem d_MD_kind_23 : decode b_MD_kind 23 = .ok (.if_icmp .lt 5, 3) := by decide +kernel
theorem d_MD_kind_26 : decode b_MD_kind 26 = .ok (.iconst (-1), 1) := by decide +kernel
theorem d_MD_kind_27 : decode b_MD_kind 27 = .ok (.ireturn, 1) := by decide +kernel
theorem d_MD_kind_28 : decode b_MD_kind 28 = .ok (.aload_n 0, 1) := by decide +kernel
theorem d_MD_kind_29 : decode b_MD_kind 29 = .ok (.getfield 94, 3) := by decide +kernel
theorem d_MD_kind_32 : decode b_MD_kind 32 = .ok (.aload_n 0, 1) := by decide +kernel
theorem d_MD_kind_33 : decode b_MD_kind 33 = .ok (.iload_n 1, 1) := by decide +kernel
theorem d_MD_kind_34 : decode b_MD_kind 34 = .ok (.iload_n 2, 1) := by decide +kernel
theorem d_MD_kind_35 : decode b_MD_kind 35 = .ok (.invokevirtual 200, 3) := by decide +kernel
theorem d_MD_kind_38 : decode b_MD_kind 38 = .ok (.iaload, 1) := by decide +kernel
theorem d_MD_kind_39 : decode b_MD_kind 39 = .ok (.ireturn, 1) := by decide +kernel
set_option maxHeartbeats 4000000 in
set_option maxRecDepth 100000 in
/-- how many rows count -/
theorem c_MD_counting (l : Launch) (D : va_G) (ct : Nat → ClassId) (Z : hp_Z) (hZ : hp_Zok Z) (M : hp_M) (sz : Nat) (md : Nat) (B : MA) (V : MS) (hw : mdS ct M md B V) (Al : List (List Nat)) (hnA : nmA V Al) (a : Nat) (ha : a < 12) (L : List MR) (hcn : V.cn a = L.length) (hL24 : L.length ≤ 24) (hLr : ∀ k, k < L.length → mrA V (24 * a + k) (L.getD k mr0)) : Mi l y_MD_counting b_MD_counting 4 (some .int) 1 24 0 0 [.ref md, .int (nI a)] D ct Z M sz (fun r M1 => M1 = M ∧ r = nI (cntL Al L)) := by
  refine hp_start (by decide) (Nat.le_of_ble_eq_true rfl) (fun p e s m below meth c ls S hret hlk hnm hsz hK hM hS hA hz hl => ?_)
  have hx := S.1
  have hb := S.2.1
  have hl : lv_has ls 4 [(0, .ref md), (1, .int (nI a))] := hl
  obtain ⟨f_md, f_ro, f_te, f_he, f_cn, f_kd, f_sz, f_ky, f_le, f_dg, f_nm, f_ns, f_sl, f_sb, f_su, f_wi, f_tu, hB, hV⟩ := id hw
  obtain ⟨n_kdsz, n_kdky, n_szky, n_hens, n_hesu, n_hetu, n_nssu, n_nstu, n_sutu, n_tewi⟩ := id hB
  obtain ⟨b_te, b_cn, b_kd, b_sz, b_ky, b_le, b_nm, b_ns, b_sl, b_sb, b_co, b_ty, b_ac, b_al, b_sd, b_ss⟩ := id hV
  refine lv_iconst (v := nI 0) hx hb d_MD_counting_0 rfl ?_
  refine lv_istore_n (lv' := [(2, .int (nI 0)), (0, .ref md), (1, .int (nI a))]) hx hb d_MD_counting_1 rfl hl (by decide) rfl (fun ls hl => ?_)
  refine lv_iconst (v := nI 0) hx hb d_MD_counting_2 rfl ?_
  refine lv_istore_n (lv' := [(3, .int (nI 0)), (2, .int (nI 0)), (0, .ref md), (1, .int (nI a))]) hx hb d_MD_counting_3 rfl hl (by decide) rfl (fun ls hl => ?_)
  replace hl : lv_has ls 4 [(0, .ref md), (1, .int (nI a)), (2, .int (nI 0)), (3, .int (nI 0))] := lv_sub hl [2, 3, 1, 0] rfl
  obtain ⟨k, e9k⟩ : ∃ z : Nat, z = 0 := ⟨_, rfl⟩
  obtain ⟨n, e9n⟩ : ∃ z : Nat, z = 0 := ⟨_, rfl⟩
  replace hl : lv_has ls 4 [(0, .ref md), (1, .int (nI a)), (2, .int (nI n)), (3, .int (nI k))] := by subst e9k e9n; exact hl
  obtain ⟨H, e9H⟩ : ∃ z : Heap, z = s.heap := ⟨_, rfl⟩
  replace hM : hp_H D ccl (hp_A M sz) M H := by rw [e9H]; exact hM
  replace hS : va_S (hp_A M sz) s.heap H [] := by rw [e9H]; exact hS
  rw [← e9H]
  clear e9H
  obtain ⟨locs, e9L⟩ : ∃ z : List Loc, z = [] := ⟨_, rfl⟩
  replace hS : va_S (hp_A M sz) s.heap H locs := by rw [e9L]; exact hS
  rw [← e9L]
  clear e9L
  have hkL : k ≤ L.length := by subst e9k e9n; exact Nat.zero_le _
  have hnn : n = cntL Al (L.take k) := by subst e9k e9n; rfl
  obtain ⟨fu1, hn1⟩ : ∃ fu : Nat, L.length ≤ k + fu := ⟨L.length, by omega⟩
  clear e9k e9n
  induction fu1 generalizing k n H locs ls with
  | zero =>
    refine lv_iload_n hx hb d_MD_counting_4 rfl (lv_at hl 3 rfl) ?_
    refine lv_aload_n hx hb d_MD_counting_5 rfl (lv_at hl 0 rfl) ?_
    refine hp_get S hK hM i_MD f_md rfl 8 (by decide) mf_MD_91 (fun _ h9 => h9) rfl d_MD_counting_6 ?_
    refine lv_iload_n hx hb d_MD_counting_9 rfl (lv_at hl 1 rfl) ?_
    refine hp_iald S hK hM 1 f_cn rfl a rfl (by omega) (by omega) d_MD_counting_10 ?_
    refine nb_ge (tgt := 41) hx hb d_MD_counting_11 (by decide) (by omega) (by have := b_cn (a); omega) (fun hkn => ?_) (fun hkn => ?_)
    · refine lv_iload_n hx hb d_MD_counting_41 rfl (lv_at hl 2 rfl) ?_
      exact hp_iret S hret hlk (rfl) hM hS (⟨rfl, by rw [hnn, List.take_of_length_le (by omega)]⟩) d_MD_counting_42
    · exact absurd hn1 (by omega)
  | succ fu1 ih1 =>
    refine lv_iload_n hx hb d_MD_counting_4 rfl (lv_at hl 3 rfl) ?_
    refine lv_aload_n hx hb d_MD_counting_5 rfl (lv_at hl 0 rfl) ?_
    refine hp_get S hK hM i_MD f_md rfl 8 (by decide) mf_MD_91 (fun _ h9 => h9) rfl d_MD_counting_6 ?_
    refine lv_iload_n hx hb d_MD_counting_9 rfl (lv_at hl 1 rfl) ?_
    refine hp_iald S hK hM 1 f_cn rfl a rfl (by omega) (by omega) d_MD_counting_10 ?_
    refine nb_ge (tgt := 41) hx hb d_MD_counting_11 (by decide) (by omega) (by have := b_cn (a); omega) (fun hkn => ?_) (fun hkn => ?_)
    · refine lv_iload_n hx hb d_MD_counting_41 rfl (lv_at hl 2 rfl) ?_
      exact hp_iret S hret hlk (rfl) hM hS (⟨rfl, by rw [hnn, List.take_of_length_le (by omega)]⟩) d_MD_counting_42
    · refine lv_iload_n hx hb d_MD_counting_14 rfl (lv_at hl 2 rfl) ?_
      refine lv_aload_n hx hb d_MD_counting_15 rfl (lv_at hl 0 rfl) ?_
      refine lv_aload_n hx hb d_MD_counting_16 rfl (lv_at hl 0 rfl) ?_
      refine lv_iload_n hx hb d_MD_counting_17 rfl (lv_at hl 1 rfl) ?_
      refine lv_iload_n hx hb d_MD_counting_18 rfl (lv_at hl 3 rfl) ?_
      refine hp_calli (go_V S hZ hK hM hS hA hz (c_MD_place l D ct Z hZ _ _ md a k) mc_MD_place mz_MD ml_MD_160 mi_MD_place mx_MD_place hd_MD_place rfl ⟨by decide, by decide⟩ f_md rfl rfl hl.1 rfl (Nat.le_of_ble_eq_true rfl) d_MD_counting_19 ⟨by decide, by decide⟩) hM hS hA (fun r1 M9 H locs hr1 hM hS => ?_)
      rw [hr1.1] at hM
      rw [hr1.2]
      refine hp_calli (go_V S hZ hK hM hS hA hz (c_MD_isAllowed l D ct Z hZ _ _ md B V hw Al hnA (24 * a + k) (by omega) (L.getD k mr0) (hLr k (by omega))) mc_MD_isAllowed mz_MD ml_MD_189 mi_MD_isAllowed mx_MD_isAllowed hd_MD_isAllowed rfl ⟨by decide, by decide⟩ f_md rfl rfl hl.1 rfl (Nat.le_of_ble_eq_true rfl) d_MD_counting_22 ⟨by decide, by decide⟩) hM hS hA (fun r2 N3 H locs hr2 hM hS => ?_)
      rw [hr2.1] at hM
      replace hr2 := hr2.2
      refine nt_eq (tgt := 32) hx hb d_MD_counting_25 (by decide) hr2 (fun hc => ?_) (fun hc => ?_)
      · refine lv_iconst (v := nI 0) hx hb d_MD_counting_32 rfl ?_
        refine nb_iadd hx hb d_MD_counting_33 ?_
        refine lv_istore_n (lv' := [(2, .int (nI (n + 0))), (0, .ref md), (1, .int (nI a)), (3, .int (nI k))]) hx hb d_MD_counting_34 rfl hl (by decide) rfl (fun ls hl => ?_)
        refine lv_iinc (v := nI (k + 1)) (lv' := [(3, .int (nI (k + 1))), (2, .int (nI (n + 0))), (0, .ref md), (1, .int (nI a))]) hx hb d_MD_counting_35 hl (k := 3) rfl (nI_add k 1) (by decide) rfl (fun ls hl => ?_)
        refine lv_goto (tgt := 4) hx hb d_MD_counting_38 (by decide) ?_
        exact ih1 (ls := ls) (hl := lv_sub hl [2, 3, 1, 0] rfl) (hn1 := by omega) (k := k + 1) (n := n + 0) (hkL := by omega) (hnn := by rw [cntL_0 (by omega) hc, hnn]; rfl) (H := H) (locs := locs) (hM := hM) (hS := hS)
      · refine lv_iconst (v := nI 1) hx hb d_MD_counting_28 rfl ?_
        refine lv_goto (tgt := 33) hx hb d_MD_counting_29 (by decide) ?_
        refine nb_iadd hx hb d_MD_counting_33 ?_
        refine lv_istore_n (lv' := [(2, .int (nI (n + 1))), (0, .ref md), (1, .int (nI a)), (3, .int (nI k))]) hx hb d_MD_counting_34 rfl hl (by decide) rfl (fun ls hl => ?_)
        refine lv_iinc (v := nI (k + 1)) (lv' := [(3, .int (nI (k + 1))), (2, .int (nI (n + 1))), (0, .ref md), (1, .int (nI a))]) hx hb d_MD_counting_35 hl (k := 3) rfl (nI_add k 1) (by decide) rfl (fun ls hl => ?_)
        refine lv_goto (tgt := 4) hx hb d_MD_counting_38 (by decide) ?_
        exact ih1 (ls := ls) (hl := lv_sub hl [2, 3, 1, 0] rfl) (hn1 := by omega) (k := k + 1) (n := n + 1) (hkL := by omega) (hnn := by rw [cntL_1 (by omega) hc, hnn]) (H := H) (locs := locs) (hM := hM) (hS := hS)
set_option maxHeartbeats 4000000 in
set_option maxRecDepth 100000 in
/-- the row at a place -/
theorem c_MD_rowAt (l : Launch) (D : va_G) (ct : Nat → ClassId) (Z : hp_Z) (hZ : hp_Zok Z) (M : hp_M) (sz : Nat) (md : Nat) (B : MA) (V : MS) (hw : mdS ct M md B V) (Al : List (List Nat)) (hnA : nmA V Al) (a : Nat) (ha : a < 12) (L : List MR) (hcn : V.cn a = L.length) (hL24 : L.length ≤ 24) (hLr : ∀ k, k < L.length → mrA V (24 * a + k) (L.getD k mr0)) (pt : Nat) (hpt : pt < 2 ^ 31) : Mi l y_MD_rowAt b_MD_rowAt 7 (some .int) 1 24 0 0 [.ref md, .int (nI a), .int (nI pt)] D ct Z M sz (fun r M1 => M1 = M ∧ ((∃ k, isAt Al L k pt ∧ r = nI (24 * a + k)) ∨ ((∀ k, ¬ isAt Al L k pt) ∧ r = -1))) := by
  refine hp_start (by decide) (Nat.le_of_ble_eq_true rfl) (fun p e s m below meth c ls S hret hlk hnm hsz hK hM hS hA hz hl => ?_)
  have hx := S.1
  have hb := S.2.1
  have hl : lv_has ls 7 [(0, .ref md), (1, .int (nI a)), (2, .int (nI pt))] := hl
  obtain ⟨f_md, f_ro, f_te, f_he, f_cn, f_kd, f_sz, f_ky, f_le, f_dg, f_nm, f_ns, f_sl, f_sb, f_su, f_wi, f_tu, hB, hV⟩ := id hw
  obtain ⟨n_kdsz, n_kdky, n_szky, n_hens, n_hesu, n_hetu, n_nssu, n_nstu, n_sutu, n_tewi⟩ := id hB
  obtain ⟨b_te, b_cn, b_kd, b_sz, b_ky, b_le, b_nm, b_ns, b_sl, b_sb, b_co, b_ty, b_ac, b_al, b_sd, b_ss⟩ := id hV
  refine lv_iconst (v := nI 0) hx hb d_MD_rowAt_0 rfl ?_
  refine lv_istore_n (lv' := [(3, .int (nI 0)), (0, .ref md), (1, .int (nI a)), (2, .int (nI pt))]) hx hb d_MD_rowAt_1 rfl hl (by decide) rfl (fun ls hl => ?_)
  replace hl : lv_has ls 7 [(0, .ref md), (1, .int (nI a)), (2, .int (nI pt)), (3, .int (nI 0))] := lv_sub hl [1, 2, 3, 0] rfl
  obtain ⟨k, e9k⟩ : ∃ z : Nat, z = 0 := ⟨_, rfl⟩
  replace hl : lv_has ls 7 [(0, .ref md), (1, .int (nI a)), (2, .int (nI pt)), (3, .int (nI k))] := by subst e9k; exact hl
  obtain ⟨H, e9H⟩ : ∃ z : Heap, z = s.heap := ⟨_, rfl⟩
  replace hM : hp_H D ccl (hp_A M sz) M H := by rw [e9H]; exact hM
  replace hS : va_S (hp_A M sz) s.heap H [] := by rw [e9H]; exact hS
  rw [← e9H]
  clear e9H
  obtain ⟨locs, e9L⟩ : ∃ z : List Loc, z = [] := ⟨_, rfl⟩
  replace hS : va_S (hp_A M sz) s.heap H locs := by rw [e9L]; exact hS
  rw [← e9L]
  clear e9L
  have hkL : k ≤ L.length := by subst e9k; exact Nat.zero_le _
  have hno : ∀ q, q < k → ¬ isAt Al L q pt := by subst e9k; intro q hq; omega
  obtain ⟨fu1, hn1⟩ : ∃ fu : Nat, L.length ≤ k + fu := ⟨L.length, by omega⟩
  clear e9k
  induction fu1 generalizing k H locs ls with
  | zero =>
    refine lv_iload_n hx hb d_MD_rowAt_2 rfl (lv_at hl 3 rfl) ?_
    refine lv_aload_n hx hb d_MD_rowAt_3 rfl (lv_at hl 0 rfl) ?_
    refine hp_get S hK hM i_MD f_md rfl 8 (by decide) mf_MD_91 (fun _ h9 => h9) rfl d_MD_rowAt_4 ?_
    refine lv_iload_n hx hb d_MD_rowAt_7 rfl (lv_at hl 1 rfl) ?_
    refine hp_iald S hK hM 1 f_cn rfl a rfl (by omega) (by omega) d_MD_rowAt_8 ?_
    refine nb_ge (tgt := 107) hx hb d_MD_rowAt_9 (by decide) (by omega) (by have := b_cn (a); omega) (fun hkn => ?_) (fun hkn => ?_)
    · refine lv_iconst (v := -1) hx hb d_MD_rowAt_107 (by decide) ?_
      exact hp_iret S hret hlk (rfl) hM hS (⟨rfl, Or.inr ⟨fun q hq => hno q (by have := hq.1; omega) hq, rfl⟩⟩) d_MD_rowAt_108
    · exact absurd hn1 (by omega)
  | succ fu1 ih1 =>
    refine lv_iload_n hx hb d_MD_rowAt_2 rfl (lv_at hl 3 rfl) ?_
    refine lv_aload_n hx hb d_MD_rowAt_3 rfl (lv_at hl 0 rfl) ?_
    refine hp_get S hK hM i_MD f_md rfl 8 (by decide) mf_MD_91 (fun _ h9 => h9) rfl d_MD_rowAt_4 ?_
    refine lv_iload_n hx hb d_MD_rowAt_7 rfl (lv_at hl 1 rfl) ?_
    refine hp_iald S hK hM 1 f_cn rfl a rfl (by omega) (by omega) d_MD_rowAt_8 ?_
    refine nb_ge (tgt := 107) hx hb d_MD_rowAt_9 (by decide) (by omega) (by have := b_cn (a); omega) (fun hkn => ?_) (fun hkn => ?_)
    · refine lv_iconst (v := -1) hx hb d_MD_rowAt_107 (by decide) ?_
      exact hp_iret S hret hlk (rfl) hM hS (⟨rfl, Or.inr ⟨fun q hq => hno q (by have := hq.1; omega) hq, rfl⟩⟩) d_MD_rowAt_108
    · refine lv_aload_n hx hb d_MD_rowAt_12 rfl (lv_at hl 0 rfl) ?_
      refine lv_iload_n hx hb d_MD_rowAt_13 rfl (lv_at hl 1 rfl) ?_
      refine lv_iload_n hx hb d_MD_rowAt_14 rfl (lv_at hl 3 rfl) ?_
      refine hp_calli (go_V S hZ hK hM hS hA hz (c_MD_place l D ct Z hZ _ _ md a k) mc_MD_place mz_MD ml_MD_160 mi_MD_place mx_MD_place hd_MD_place rfl ⟨by decide, by decide⟩ f_md rfl rfl hl.1 rfl (Nat.le_of_ble_eq_true rfl) d_MD_rowAt_15 ⟨by decide, by decide⟩) hM hS hA (fun r1 M9 H locs hr1 hM hS => ?_)
      rw [hr1.1] at hM
      rw [hr1.2]
      refine lv_istore (lv' := [(4, .int (nI (24 * a + k))), (0, .ref md), (1, .int (nI a)), (2, .int (nI pt)), (3, .int (nI k))]) hx hb d_MD_rowAt_18 hl (by decide) rfl (fun ls hl => ?_)
      refine lv_iconst (v := nI 0) hx hb d_MD_rowAt_20 rfl ?_
      refine lv_istore (lv' := [(5, .int (nI 0)), (4, .int (nI (24 * a + k))), (0, .ref md), (1, .int (nI a)), (2, .int (nI pt)), (3, .int (nI k))]) hx hb d_MD_rowAt_21 hl (by decide) rfl (fun ls hl => ?_)
      refine lv_iconst (v := nI 0) hx hb d_MD_rowAt_23 rfl ?_
      refine lv_istore (lv' := [(6, .int (nI 0)), (5, .int (nI 0)), (4, .int (nI (24 * a + k))), (0, .ref md), (1, .int (nI a)), (2, .int (nI pt)), (3, .int (nI k))]) hx hb d_MD_rowAt_24 hl (by decide) rfl (fun ls hl => ?_)
      replace hl : lv_has ls 7 [(0, .ref md), (1, .int (nI a)), (2, .int (nI pt)), (3, .int (nI k)), (4, .int (nI (24 * a + k))), (5, .int (nI 0)), (6, .int (nI 0))] := lv_sub hl [3, 4, 5, 6, 2, 1, 0] rfl
      obtain ⟨i, e9i⟩ : ∃ z : Nat, z = 0 := ⟨_, rfl⟩
      obtain ⟨bb, e9bb⟩ : ∃ z : Nat, z = 0 := ⟨_, rfl⟩
      replace hl : lv_has ls 7 [(0, .ref md), (1, .int (nI a)), (2, .int (nI pt)), (3, .int (nI k)), (4, .int (nI (24 * a + k))), (5, .int (nI bb)), (6, .int (nI i))] := by subst e9i e9bb; exact hl
      have hiL : i ≤ L.length := by subst e9i e9bb; exact Nat.zero_le _
      have hbb : bb = rkU Al L k i := by subst e9i e9bb; rfl
      obtain ⟨fu2, hn2⟩ : ∃ fu : Nat, L.length ≤ i + fu := ⟨L.length, by omega⟩
      clear e9i e9bb
      induction fu2 generalizing i bb H locs ls with
      | zero =>
        refine lv_iload hx hb d_MD_rowAt_26 (lv_at hl 6 rfl) ?_
        refine lv_aload_n hx hb d_MD_rowAt_28 rfl (lv_at hl 0 rfl) ?_
        refine hp_get S hK hM i_MD f_md rfl 8 (by decide) mf_MD_91 (fun _ h9 => h9) rfl d_MD_rowAt_29 ?_
        refine lv_iload_n hx hb d_MD_rowAt_32 rfl (lv_at hl 1 rfl) ?_
        refine hp_iald S hK hM 1 f_cn rfl a rfl (by omega) (by omega) d_MD_rowAt_33 ?_
        refine nb_ge (tgt := 83) hx hb d_MD_rowAt_34 (by decide) (by omega) (by have := b_cn (a); omega) (fun hin => ?_) (fun hin => ?_)
        · have hbb2 : bb = rkU Al L k L.length := by rw [hbb, show i = L.length by omega]
          refine lv_aload_n hx hb d_MD_rowAt_83 rfl (lv_at hl 0 rfl) ?_
          refine lv_iload hx hb d_MD_rowAt_84 (lv_at hl 4 rfl) ?_
          refine hp_calli (go_V S hZ hK hM hS hA hz (c_MD_isAllowed l D ct Z hZ _ _ md B V hw Al hnA (24 * a + k) (by omega) (L.getD k mr0) (hLr k (by omega))) mc_MD_isAllowed mz_MD ml_MD_189 mi_MD_isAllowed mx_MD_isAllowed hd_MD_isAllowed rfl ⟨by decide, by decide⟩ f_md rfl rfl hl.1 rfl (Nat.le_of_ble_eq_true rfl) d_MD_rowAt_86 ⟨by decide, by decide⟩) hM hS hA (fun r2 N3 H locs hr2 hM hS => ?_)
          rw [hr2.1] at hM
          replace hr2 := hr2.2
          refine nt_eq (tgt := 101) hx hb d_MD_rowAt_89 (by decide) hr2 (fun hck => ?_) (fun hck => ?_)
          · refine lv_iinc (v := nI (k + 1)) (lv' := [(3, .int (nI (k + 1))), (0, .ref md), (1, .int (nI a)), (2, .int (nI pt)), (4, .int (nI (24 * a + k))), (5, .int (nI bb)), (6, .int (nI i))]) hx hb d_MD_rowAt_101 hl (k := 3) rfl (nI_add k 1) (by decide) rfl (fun ls hl => ?_)
            refine lv_goto (tgt := 2) hx hb d_MD_rowAt_104 (by decide) ?_
            exact ih1 (ls := ls) (hl := lv_sub hl [1, 2, 3, 0] rfl) (hn1 := by omega) (k := k + 1) (hkL := by omega) (hno := lt_s hno (fun q => by first | exact hck q.2.1 | exact hbp (hbb2.trans q.2.2))) (H := H) (locs := locs) (hM := hM) (hS := hS)
          · refine lv_iload hx hb d_MD_rowAt_92 (lv_at hl 5 rfl) ?_
            refine lv_iload_n hx hb d_MD_rowAt_94 rfl (lv_at hl 2 rfl) ?_
            refine nb_ne (tgt := 101) hx hb d_MD_rowAt_95 (by decide) (by have := @rkU_le Al L k i; omega) (by omega) (fun hbp => ?_) (fun hbp => ?_)
            · refine lv_iinc (v := nI (k + 1)) (lv' := [(3, .int (nI (k + 1))), (0, .ref md), (1, .int (nI a)), (2, .int (nI pt)), (4, .int (nI (24 * a + k))), (5, .int (nI bb)), (6, .int (nI i))]) hx hb d_MD_rowAt_101 hl (k := 3) rfl (nI_add k 1) (by decide) rfl (fun ls hl => ?_)
              refine lv_goto (tgt := 2) hx hb d_MD_rowAt_104 (by decide) ?_
              exact ih1 (ls := ls) (hl := lv_sub hl [1, 2, 3, 0] rfl) (hn1 := by omega) (k := k + 1) (hkL := by omega) (hno := lt_s hno (fun q => by first | exact hck q.2.1 | exact hbp (hbb2.trans q.2.2))) (H := H) (locs := locs) (hM := hM) (hS := hS)
            · refine lv_iload hx hb d_MD_rowAt_98 (lv_at hl 4 rfl) ?_
              exact hp_iret S hret hlk (rfl) hM hS (⟨rfl, Or.inl ⟨k, ⟨by omega, hck, hbb2.symm.trans hbp⟩, rfl⟩⟩) d_MD_rowAt_100
        · exact absurd hn2 (by omega)
      | succ fu2 ih2 =>
        refine lv_iload hx hb d_MD_rowAt_26 (lv_at hl 6 rfl) ?_
        refine lv_aload_n hx hb d_MD_rowAt_28 rfl (lv_at hl 0 rfl) ?_
        refine hp_get S hK hM i_MD f_md rfl 8 (by decide) mf_MD_91 (fun _ h9 => h9) rfl d_MD_rowAt_29 ?_
        refine lv_iload_n hx hb d_MD_rowAt_32 rfl (lv_at hl 1 rfl) ?_
        refine hp_iald S hK hM 1 f_cn rfl a rfl (by omega) (by omega) d_MD_rowAt_33 ?_
        refine nb_ge (tgt := 83) hx hb d_MD_rowAt_34 (by decide) (by omega) (by have := b_cn (a); omega) (fun hin => ?_) (fun hin => ?_)
        · have hbb2 : bb = rkU Al L k L.length := by rw [hbb, show i = L.length by omega]
          refine lv_aload_n hx hb d_MD_rowAt_83 rfl (lv_at hl 0 rfl) ?_
          refine lv_iload hx hb d_MD_rowAt_84 (lv_at hl 4 rfl) ?_
          refine hp_calli (go_V S hZ hK hM hS hA hz (c_MD_isAllowed l D ct Z hZ _ _ md B V hw Al hnA (24 * a + k) (by omega) (L.getD k mr0) (hLr k (by omega))) mc_MD_isAllowed mz_MD ml_MD_189 mi_MD_isAllowed mx_MD_isAllowed hd_MD_isAllowed rfl ⟨by decide, by decide⟩ f_md rfl rfl hl.1 rfl (Nat.le_of_ble_eq_true rfl) d_MD_rowAt_86 ⟨by decide, by decide⟩) hM hS hA (fun r4 N5 H locs hr4 hM hS => ?_)
          rw [hr4.1] at hM
          replace hr4 := hr4.2
          refine nt_eq (tgt := 101) hx hb d_MD_rowAt_89 (by decide) hr4 (fun hck => ?_) (fun hck => ?_)
          · refine lv_iinc (v := nI (k + 1)) (lv' := [(3, .int (nI (k + 1))), (0, .ref md), (1, .int (nI a)), (2, .int (nI pt)), (4, .int (nI (24 * a + k))), (5, .int (nI bb)), (6, .int (nI i))]) hx hb d_MD_rowAt_101 hl (k := 3) rfl (nI_add k 1) (by decide) rfl (fun ls hl => ?_)
            refine lv_goto (tgt := 2) hx hb d_MD_rowAt_104 (by decide) ?_
            exact ih1 (ls := ls) (hl := lv_sub hl [1, 2, 3, 0] rfl) (hn1 := by omega) (k := k + 1) (hkL := by omega) (hno := lt_s hno (fun q => by first | exact hck q.2.1 | exact hbp (hbb2.trans q.2.2))) (H := H) (locs := locs) (hM := hM) (hS := hS)
          · refine lv_iload hx hb d_MD_rowAt_92 (lv_at hl 5 rfl) ?_
            refine lv_iload_n hx hb d_MD_rowAt_94 rfl (lv_at hl 2 rfl) ?_
            refine nb_ne (tgt := 101) hx hb d_MD_rowAt_95 (by decide) (by have := @rkU_le Al L k i; omega) (by omega) (fun hbp => ?_) (fun hbp => ?_)
            · refine lv_iinc (v := nI (k + 1)) (lv' := [(3, .int (nI (k + 1))), (0, .ref md), (1, .int (nI a)), (2, .int (nI pt)), (4, .int (nI (24 * a + k))), (5, .int (nI bb)), (6, .int (nI i))]) hx hb d_MD_rowAt_101 hl (k := 3) rfl (nI_add k 1) (by decide) rfl (fun ls hl => ?_)
              refine lv_goto (tgt := 2) hx hb d_MD_rowAt_104 (by decide) ?_
              exact ih1 (ls := ls) (hl := lv_sub hl [1, 2, 3, 0] rfl) (hn1 := by omega) (k := k + 1) (hkL := by omega) (hno := lt_s hno (fun q => by first | exact hck q.2.1 | exact hbp (hbb2.trans q.2.2))) (H := H) (locs := locs) (hM := hM) (hS := hS)
            · refine lv_iload hx hb d_MD_rowAt_98 (lv_at hl 4 rfl) ?_
              exact hp_iret S hret hlk (rfl) hM hS (⟨rfl, Or.inl ⟨k, ⟨by omega, hck, hbb2.symm.trans hbp⟩, rfl⟩⟩) d_MD_rowAt_100
        · refine lv_iload hx hb d_MD_rowAt_37 (lv_at hl 5 rfl) ?_
          refine lv_aload_n hx hb d_MD_rowAt_39 rfl (lv_at hl 0 rfl) ?_
          refine lv_aload_n hx hb d_MD_rowAt_40 rfl (lv_at hl 0 rfl) ?_
          refine lv_iload_n hx hb d_MD_rowAt_41 rfl (lv_at hl 1 rfl) ?_
          refine lv_iload hx hb d_MD_rowAt_42 (lv_at hl 6 rfl) ?_
          refine hp_calli (go_V S hZ hK hM hS hA hz (c_MD_place l D ct Z hZ _ _ md a i) mc_MD_place mz_MD ml_MD_160 mi_MD_place mx_MD_place hd_MD_place rfl ⟨by decide, by decide⟩ f_md rfl rfl hl.1 rfl (Nat.le_of_ble_eq_true rfl) d_MD_rowAt_44 ⟨by decide, by decide⟩) hM hS hA (fun r6 M9 H locs hr6 hM hS => ?_)
          rw [hr6.1] at hM
          rw [hr6.2]
          refine hp_calli (go_V S hZ hK hM hS hA hz (c_MD_isAllowed l D ct Z hZ _ _ md B V hw Al hnA (24 * a + i) (by omega) (L.getD i mr0) (hLr i (by omega))) mc_MD_isAllowed mz_MD ml_MD_189 mi_MD_isAllowed mx_MD_isAllowed hd_MD_isAllowed rfl ⟨by decide, by decide⟩ f_md rfl rfl hl.1 rfl (Nat.le_of_ble_eq_true rfl) d_MD_rowAt_47 ⟨by decide, by decide⟩) hM hS hA (fun r7 N8 H locs hr7 hM hS => ?_)
          rw [hr7.1] at hM
          replace hr7 := hr7.2
          refine nt_eq (tgt := 73) hx hb d_MD_rowAt_50 (by decide) hr7 (fun hc => ?_) (fun hc => ?_)
          · refine lv_iconst (v := nI 0) hx hb d_MD_rowAt_73 rfl ?_
            refine nb_iadd hx hb d_MD_rowAt_74 ?_
            refine lv_istore (lv' := [(5, .int (nI (bb + 0))), (0, .ref md), (1, .int (nI a)), (2, .int (nI pt)), (3, .int (nI k)), (4, .int (nI (24 * a + k))), (6, .int (nI i))]) hx hb d_MD_rowAt_75 hl (by decide) rfl (fun ls hl => ?_)
            refine lv_iinc (v := nI (i + 1)) (lv' := [(6, .int (nI (i + 1))), (5, .int (nI (bb + 0))), (0, .ref md), (1, .int (nI a)), (2, .int (nI pt)), (3, .int (nI k)), (4, .int (nI (24 * a + k)))]) hx hb d_MD_rowAt_77 hl (k := 6) rfl (nI_add i 1) (by decide) rfl (fun ls hl => ?_)
            refine lv_goto (tgt := 26) hx hb d_MD_rowAt_80 (by decide) ?_
            exact ih2 (ls := ls) (hl := lv_sub hl [2, 3, 4, 5, 6, 1, 0] rfl) (hn2 := by omega) (i := i + 1) (bb := bb + 0) (hiL := by omega) (hbb := by rw [rkU_0 (fun q => by first | exact hc q.1 | exact hb1 (befR_s.mpr q.2)), hbb]; rfl) (H := H) (locs := locs) (hM := hM) (hS := hS)
          · refine lv_aload_n hx hb d_MD_rowAt_53 rfl (lv_at hl 0 rfl) ?_
            refine lv_aload_n hx hb d_MD_rowAt_54 rfl (lv_at hl 0 rfl) ?_
            refine lv_iload_n hx hb d_MD_rowAt_55 rfl (lv_at hl 1 rfl) ?_
            refine lv_iload hx hb d_MD_rowAt_56 (lv_at hl 6 rfl) ?_
            refine hp_calli (go_V S hZ hK hM hS hA hz (c_MD_place l D ct Z hZ _ _ md a i) mc_MD_place mz_MD ml_MD_160 mi_MD_place mx_MD_place hd_MD_place rfl ⟨by decide, by decide⟩ f_md rfl rfl hl.1 rfl (Nat.le_of_ble_eq_true rfl) d_MD_rowAt_58 ⟨by decide, by decide⟩) hM hS hA (fun r9 M9 H locs hr9 hM hS => ?_)
            rw [hr9.1] at hM
            rw [hr9.2]
            refine lv_iload hx hb d_MD_rowAt_61 (lv_at hl 4 rfl) ?_
            refine hp_calli (go_V S hZ hK hM hS hA hz (c_MD_isBefore l D ct Z hZ _ _ md B V hw (24 * a + i) (24 * a + k) (by omega) (by omega) (L.getD i mr0) (L.getD k mr0) (hLr i (by omega)) (hLr k (by omega))) mc_MD_isBefore mz_MD ml_MD_192 mi_MD_isBefore mx_MD_isBefore hd_MD_isBefore rfl ⟨by decide, by decide⟩ f_md rfl rfl hl.1 rfl (Nat.le_of_ble_eq_true rfl) d_MD_rowAt_63 ⟨by decide, by decide⟩) hM hS hA (fun r10 N11 H locs hr10 hM hS => ?_)
            rw [hr10.1] at hM
            replace hr10 := hr10.2
            refine nt_eq (tgt := 73) hx hb d_MD_rowAt_66 (by decide) hr10 (fun hb1 => ?_) (fun hb1 => ?_)
            · refine lv_iconst (v := nI 0) hx hb d_MD_rowAt_73 rfl ?_
              refine nb_iadd hx hb d_MD_rowAt_74 ?_
              refine lv_istore (lv' := [(5, .int (nI (bb + 0))), (0, .ref md), (1, .int (nI a)), (2, .int (nI pt)), (3, .int (nI k)), (4, .int (nI (24 * a + k))), (6, .int (nI i))]) hx hb d_MD_rowAt_75 hl (by decide) rfl (fun ls hl => ?_)
              refine lv_iinc (v := nI (i + 1)) (lv' := [(6, .int (nI (i + 1))), (5, .int (nI (bb + 0))), (0, .ref md), (1, .int (nI a)), (2, .int (nI pt)), (3, .int (nI k)), (4, .int (nI (24 * a + k)))]) hx hb d_MD_rowAt_77 hl (k := 6) rfl (nI_add i 1) (by decide) rfl (fun ls hl => ?_)
              refine lv_goto (tgt := 26) hx hb d_MD_rowAt_80 (by decide) ?_
              exact ih2 (ls := ls) (hl := lv_sub hl [2, 3, 4, 5, 6, 1, 0] rfl) (hn2 := by omega) (i := i + 1) (bb := bb + 0) (hiL := by omega) (hbb := by rw [rkU_0 (fun q => by first | exact hc q.1 | exact hb1 (befR_s.mpr q.2)), hbb]; rfl) (H := H) (locs := locs) (hM := hM) (hS := hS)
            · refine lv_iconst (v := nI 1) hx hb d_MD_rowAt_69 rfl ?_
              refine lv_goto (tgt := 74) hx hb d_MD_rowAt_70 (by decide) ?_
              refine nb_iadd hx hb d_MD_rowAt_74 ?_
              refine lv_istore (lv' := [(5, .int (nI (bb + 1))), (0, .ref md), (1, .int (nI a)), (2, .int (nI pt)), (3, .int (nI k)), (4, .int (nI (24 * a + k))), (6, .int (nI i))]) hx hb d_MD_rowAt_75 hl (by decide) rfl (fun ls hl => ?_)
              refine lv_iinc (v := nI (i + 1)) (lv' := [(6, .int (nI (i + 1))), (5, .int (nI (bb + 1))), (0, .ref md), (1, .int (nI a)), (2, .int (nI pt)), (3, .int (nI k)), (4, .int (nI (24 * a + k)))]) hx hb d_MD_rowAt_77 hl (k := 6) rfl (nI_add i 1) (by decide) rfl (fun ls hl => ?_)
              refine lv_goto (tgt := 26) hx hb d_MD_rowAt_80 (by decide) ?_
              exact ih2 (ls := ls) (hl := lv_sub hl [2, 3, 4, 5, 6, 1, 0] rfl) (hn2 := by omega) (i := i + 1) (bb := bb + 1) (hiL := by omega) (hbb := by rw [rkU_1 hc (befR_s.mp hb1), hbb]) (H := H) (locs := locs) (hM := hM) (hS := hS)
/-- the rows of the actions -/
def mdL (V : MS) (LL : List (List MR)) : Prop := V.ac = LL.length ∧ LL.length ≤ 12 ∧ (∀ a, a < LL.length → V.cn a = (LL.getD a []).length ∧ (LL.getD a []).length ≤ 24 ∧ ∀ k, k < (LL.getD a []).length → mrA V (24 * a + k) ((LL.getD a []).getD k mr0)) ∧ ∀ a, LL.length ≤ a → a < 12 → V.cn a = 0
/-- O are the rows of L that count, in their order -/
def ordL (Al : List (List Nat)) (L O : List MR) : Prop := O.length = cntL Al L ∧ (∀ k, k < O.length → ∃ q, isAt Al L q k) ∧ ∀ q k, isAt Al L q k → L.getD q mr0 = O.getD k mr0
def onM (LL : List (List MR)) (x r : Int32) (P : Nat → Int32 → Prop) (r0 : Int32) : Prop := (∃ j, j < LL.length ∧ x = nI j ∧ P j r) ∨ ((∀ j, j < LL.length → x ≠ nI j) ∧ r = r0)
set_option maxHeartbeats 4000000 in
set_option maxRecDepth 100000 in
/-- rows(a) -/
theorem c_MD_rows (l : Launch) (D : va_G) (ct : Nat → ClassId) (Z : hp_Z) (hZ : hp_Zok Z) (M : hp_M) (sz : Nat) (md : Nat) (B : MA) (V : MS) (hw : mdS ct M md B V) (LL : List (List MR)) (hLL : mdL V LL) (Al : List (List Nat)) (hnA : nmA V Al) (OO : Nat → List MR) (hOO : ∀ j, j < LL.length → ordL Al (LL.getD j []) (OO j)) (x : Int32) : Mi l y_MD_rows b_MD_rows 2 (some .int) 2 47 0 0 [.ref md, .int x] D ct Z M sz (fun r M1 => onM LL x r (fun j r => r = nI (OO j).length) (-1) ∧ mdS ct M1 md B (mkS (V.te) (V.cn) (V.kd) (V.sz) (V.ky) (V.le) (V.nm) (V.ns) (V.sl) (V.sb) (V.he) (V.dg) (V.su) (V.wi) (V.tu) 0 (V.ty) (V.ac) (V.al) (V.sd) (V.ss))) := by
  refine hp_start (by decide) (Nat.le_of_ble_eq_true rfl) (fun p e s m below meth c ls S hret hlk hnm hsz hK hM hS hA hz hl => ?_)
  have hx := S.1
  have hb := S.2.1
  have hl : lv_has ls 2 [(0, .ref md), (1, .int x)] := hl
  obtain ⟨f_md, f_ro, f_te, f_he, f_cn, f_kd, f_sz, f_ky, f_le, f_dg, f_nm, f_ns, f_sl, f_sb, f_su, f_wi, f_tu, hB, hV⟩ := id hw
  obtain ⟨n_kdsz, n_kdky, n_szky, n_hens, n_hesu, n_hetu, n_nssu, n_nstu, n_sutu, n_tewi⟩ := id hB
  obtain ⟨b_te, b_cn, b_kd, b_sz, b_ky, b_le, b_nm, b_ns, b_sl, b_sb, b_co, b_ty, b_ac, b_al, b_sd, b_ss⟩ := id hV
  refine lv_aload_n hx hb d_MD_rows_0 rfl (lv_at hl 0 rfl) ?_
  refine lv_iconst (v := nI 0) hx hb d_MD_rows_1 rfl ?_
  refine hp_put (ty := .int) (fs' := [.ref B.ro, .int (nI 0), .ref B.te, .int (nI (V.ty)), .int (nI (V.ac)), .int (nI (V.al)), .int (nI (V.sd)), .ref B.he, .ref B.cn, .ref B.kd, .ref B.sz, .ref B.ky, .ref B.le, .ref B.dg, .ref B.nm, .ref B.ns, .ref B.sl, .ref B.sb, .int (nI (V.ss)), .ref B.su, .ref B.wi, .ref B.tu]) S hK hM hS i_MD t_MD to_MD n_MD f_md rfl 1 (by decide) mf_MD_137 (fun _ h9 => h9) rfl (by decide +kernel) rfl rfl (by simp) rfl d_MD_rows_2 (fun H locs hM hS => ?_)
  have f_ro := hp_k (e := (.inr (6, [.ref B.ro, .int (nI 0), .ref B.te, .int (nI (V.ty)), .int (nI (V.ac)), .int (nI (V.al)), .int (nI (V.sd)), .ref B.he, .ref B.cn, .ref B.kd, .ref B.sz, .ref B.ky, .ref B.le, .ref B.dg, .ref B.nm, .ref B.ns, .ref B.sl, .ref B.sb, .int (nI (V.ss)), .ref B.su, .ref B.wi, .ref B.tu]))) (hp_ne f_ro f_md (by simp)) f_ro
  have f_te := hp_k (e := (.inr (6, [.ref B.ro, .int (nI 0), .ref B.te, .int (nI (V.ty)), .int (nI (V.ac)), .int (nI (V.al)), .int (nI (V.sd)), .ref B.he, .ref B.cn, .ref B.kd, .ref B.sz, .ref B.ky, .ref B.le, .ref B.dg, .ref B.nm, .ref B.ns, .ref B.sl, .ref B.sb, .int (nI (V.ss)), .ref B.su, .ref B.wi, .ref B.tu]))) (hp_ne f_te f_md (by simp)) f_te
  have f_he := hp_k (e := (.inr (6, [.ref B.ro, .int (nI 0), .ref B.te, .int (nI (V.ty)), .int (nI (V.ac)), .int (nI (V.al)), .int (nI (V.sd)), .ref B.he, .ref B.cn, .ref B.kd, .ref B.sz, .ref B.ky, .ref B.le, .ref B.dg, .ref B.nm, .ref B.ns, .ref B.sl, .ref B.sb, .int (nI (V.ss)), .ref B.su, .ref B.wi, .ref B.tu]))) (hp_ne f_he f_md (by simp)) f_he
  have f_cn := hp_k (e := (.inr (6, [.ref B.ro, .int (nI 0), .ref B.te, .int (nI (V.ty)), .int (nI (V.ac)), .int (nI (V.al)), .int (nI (V.sd)), .ref B.he, .ref B.cn, .ref B.kd, .ref B.sz, .ref B.ky, .ref B.le, .ref B.dg, .ref B.nm, .ref B.ns, .ref B.sl, .ref B.sb, .int (nI (V.ss)), .ref B.su, .ref B.wi, .ref B.tu]))) (hp_ne f_cn f_md (by simp)) f_cn
  have f_kd := hp_k (e := (.inr (6, [.ref B.ro, .int (nI 0), .ref B.te, .int (nI (V.ty)), .int (nI (V.ac)), .int (nI (V.al)), .int (nI (V.sd)), .ref B.he, .ref B.cn, .ref B.kd, .ref B.sz, .ref B.ky, .ref B.le, .ref B.dg, .ref B.nm, .ref B.ns, .ref B.sl, .ref B.sb, .int (nI (V.ss)), .ref B.su, .ref B.wi, .ref B.tu]))) (hp_ne f_kd f_md (by simp)) f_kd
  have f_sz := hp_k (e := (.inr (6, [.ref B.ro, .int (nI 0), .ref B.te, .int (nI (V.ty)), .int (nI (V.ac)), .int (nI (V.al)), .int (nI (V.sd)), .ref B.he, .ref B.cn, .ref B.kd, .ref B.sz, .ref B.ky, .ref B.le, .ref B.dg, .ref B.nm, .ref B.ns, .ref B.sl, .ref B.sb, .int (nI (V.ss)), .ref B.su, .ref B.wi, .ref B.tu]))) (hp_ne f_sz f_md (by simp)) f_sz
  have f_ky := hp_k (e := (.inr (6, [.ref B.ro, .int (nI 0), .ref B.te, .int (nI (V.ty)), .int (nI (V.ac)), .int (nI (V.al)), .int (nI (V.sd)), .ref B.he, .ref B.cn, .ref B.kd, .ref B.sz, .ref B.ky, .ref B.le, .ref B.dg, .ref B.nm, .ref B.ns, .ref B.sl, .ref B.sb, .int (nI (V.ss)), .ref B.su, .ref B.wi, .ref B.tu]))) (hp_ne f_ky f_md (by simp)) f_ky
  have f_le := hp_k (e := (.inr (6, [.ref B.ro, .int (nI 0), .ref B.te, .int (nI (V.ty)), .int (nI (V.ac)), .int (nI (V.al)), .int (nI (V.sd)), .ref B.he, .ref B.cn, .ref B.kd, .ref B.sz, .ref B.ky, .ref B.le, .ref B.dg, .ref B.nm, .ref B.ns, .ref B.sl, .ref B.sb, .int (nI (V.ss)), .ref B.su, .ref B.wi, .ref B.tu]))) (hp_ne f_le f_md (by simp)) f_le
  have f_dg := hp_k (e := (.inr (6, [.ref B.ro, .int (nI 0), .ref B.te, .int (nI (V.ty)), .int (nI (V.ac)), .int (nI (V.al)), .int (nI (V.sd)), .ref B.he, .ref B.cn, .ref B.kd, .ref B.sz, .ref B.ky, .ref B.le, .ref B.dg, .ref B.nm, .ref B.ns, .ref B.sl, .ref B.sb, .int (nI (V.ss)), .ref B.su, .ref B.wi, .ref B.tu]))) (hp_ne f_dg f_md (by simp)) f_dg
  have f_nm := hp_k (e := (.inr (6, [.ref B.ro, .int (nI 0), .ref B.te, .int (nI (V.ty)), .int (nI (V.ac)), .int (nI (V.al)), .int (nI (V.sd)), .ref B.he, .ref B.cn, .ref B.kd, .ref B.sz, .ref B.ky, .ref B.le, .ref B.dg, .ref B.nm, .ref B.ns, .ref B.sl, .ref B.sb, .int (nI (V.ss)), .ref B.su, .ref B.wi, .ref B.tu]))) (hp_ne f_nm f_md (by simp)) f_nm
  have f_ns := hp_k (e := (.inr (6, [.ref B.ro, .int (nI 0), .ref B.te, .int (nI (V.ty)), .int (nI (V.ac)), .int (nI (V.al)), .int (nI (V.sd)), .ref B.he, .ref B.cn, .ref B.kd, .ref B.sz, .ref B.ky, .ref B.le, .ref B.dg, .ref B.nm, .ref B.ns, .ref B.sl, .ref B.sb, .int (nI (V.ss)), .ref B.su, .ref B.wi, .ref B.tu]))) (hp_ne f_ns f_md (by simp)) f_ns
  have f_sl := hp_k (e := (.inr (6, [.ref B.ro, .int (nI 0), .ref B.te, .int (nI (V.ty)), .int (nI (V.ac)), .int (nI (V.al)), .int (nI (V.sd)), .ref B.he, .ref B.cn, .ref B.kd, .ref B.sz, .ref B.ky, .ref B.le, .ref B.dg, .ref B.nm, .ref B.ns, .ref B.sl, .ref B.sb, .int (nI (V.ss)), .ref B.su, .ref B.wi, .ref B.tu]))) (hp_ne f_sl f_md (by simp)) f_sl
  have f_sb := hp_k (e := (.inr (6, [.ref B.ro, .int (nI 0), .ref B.te, .int (nI (V.ty)), .int (nI (V.ac)), .int (nI (V.al)), .int (nI (V.sd)), .ref B.he, .ref B.cn, .ref B.kd, .ref B.sz, .ref B.ky, .ref B.le, .ref B.dg, .ref B.nm, .ref B.ns, .ref B.sl, .ref B.sb, .int (nI (V.ss)), .ref B.su, .ref B.wi, .ref B.tu]))) (hp_ne f_sb f_md (by simp)) f_sb
  have f_su := hp_k (e := (.inr (6, [.ref B.ro, .int (nI 0), .ref B.te, .int (nI (V.ty)), .int (nI (V.ac)), .int (nI (V.al)), .int (nI (V.sd)), .ref B.he, .ref B.cn, .ref B.kd, .ref B.sz, .ref B.ky, .ref B.le, .ref B.dg, .ref B.nm, .ref B.ns, .ref B.sl, .ref B.sb, .int (nI (V.ss)), .ref B.su, .ref B.wi, .ref B.tu]))) (hp_ne f_su f_md (by simp)) f_su
  have f_wi := hp_k (e := (.inr (6, [.ref B.ro, .int (nI 0), .ref B.te, .int (nI (V.ty)), .int (nI (V.ac)), .int (nI (V.al)), .int (nI (V.sd)), .ref B.he, .ref B.cn, .ref B.kd, .ref B.sz, .ref B.ky, .ref B.le, .ref B.dg, .ref B.nm, .ref B.ns, .ref B.sl, .ref B.sb, .int (nI (V.ss)), .ref B.su, .ref B.wi, .ref B.tu]))) (hp_ne f_wi f_md (by simp)) f_wi
  have f_tu := hp_k (e := (.inr (6, [.ref B.ro, .int (nI 0), .ref B.te, .int (nI (V.ty)), .int (nI (V.ac)), .int (nI (V.al)), .int (nI (V.sd)), .ref B.he, .ref B.cn, .ref B.kd, .ref B.sz, .ref B.ky, .ref B.le, .ref B.dg, .ref B.nm, .ref B.ns, .ref B.sl, .ref B.sb, .int (nI (V.ss)), .ref B.su, .ref B.wi, .ref B.tu]))) (hp_ne f_tu f_md (by simp)) f_tu
  have f_md : hp_up M md (.inr (6, [.ref B.ro, .int (nI 0), .ref B.te, .int (nI (V.ty)), .int (nI (V.ac)), .int (nI (V.al)), .int (nI (V.sd)), .ref B.he, .ref B.cn, .ref B.kd, .ref B.sz, .ref B.ky, .ref B.le, .ref B.dg, .ref B.nm, .ref B.ns, .ref B.sl, .ref B.sb, .int (nI (V.ss)), .ref B.su, .ref B.wi, .ref B.tu])) md = some (.inr (6, [.ref B.ro, .int (nI 0), .ref B.te, .int (nI (V.ty)), .int (nI (V.ac)), .int (nI (V.al)), .int (nI (V.sd)), .ref B.he, .ref B.cn, .ref B.kd, .ref B.sz, .ref B.ky, .ref B.le, .ref B.dg, .ref B.nm, .ref B.ns, .ref B.sl, .ref B.sb, .int (nI (V.ss)), .ref B.su, .ref B.wi, .ref B.tu])) := hp_us
  obtain ⟨M1, eM1⟩ : ∃ z, z = hp_up M md (.inr (6, [.ref B.ro, .int (nI 0), .ref B.te, .int (nI (V.ty)), .int (nI (V.ac)), .int (nI (V.al)), .int (nI (V.sd)), .ref B.he, .ref B.cn, .ref B.kd, .ref B.sz, .ref B.ky, .ref B.le, .ref B.dg, .ref B.nm, .ref B.ns, .ref B.sl, .ref B.sb, .int (nI (V.ss)), .ref B.su, .ref B.wi, .ref B.tu])) := ⟨_, rfl⟩
  rw [← eM1] at hM f_md f_ro f_te f_he f_cn f_kd f_sz f_ky f_le f_dg f_nm f_ns f_sl f_sb f_su f_wi f_tu
  have hw1 : mdS ct M1 md B (mkS (V.te) (V.cn) (V.kd) (V.sz) (V.ky) (V.le) (V.nm) (V.ns) (V.sl) (V.sb) (V.he) (V.dg) (V.su) (V.wi) (V.tu) 0 (V.ty) (V.ac) (V.al) (V.sd) (V.ss)) := ⟨f_md, f_ro, f_te, f_he, f_cn, f_kd, f_sz, f_ky, f_le, f_dg, f_nm, f_ns, f_sl, f_sb, f_su, f_wi, f_tu, hB, b_te, b_cn, b_kd, b_sz, b_ky, b_le, b_nm, b_ns, b_sl, b_sb, Nat.zero_le _, b_ty, b_ac, b_al, b_sd, b_ss⟩
  refine lv_aload_n hx hb d_MD_rows_5 rfl (lv_at hl 0 rfl) ?_
  refine lv_iload_n hx hb d_MD_rows_6 rfl (lv_at hl 1 rfl) ?_
  refine hp_calli (go_V S hZ hK hM hS hA hz (c_MD_isAction l D ct Z hZ _ _ md B (mkS (V.te) (V.cn) (V.kd) (V.sz) (V.ky) (V.le) (V.nm) (V.ns) (V.sl) (V.sb) (V.he) (V.dg) (V.su) (V.wi) (V.tu) 0 (V.ty) (V.ac) (V.al) (V.sd) (V.ss)) hw1 x) mc_MD_isAction mz_MD ml_MD_168 mi_MD_isAction mx_MD_isAction hd_MD_isAction rfl ⟨by decide, by decide⟩ f_md rfl rfl hl.1 rfl (Nat.le_of_ble_eq_true rfl) d_MD_rows_7 ⟨by decide, by decide⟩) hM hS hA (fun r2 N3 H locs hr2 hM hS => ?_)
  rw [hr2.1] at hM
  replace hr2 := hr2.2
  refine nt_eq (tgt := 21) hx hb d_MD_rows_10 (by decide) hr2 (fun hia => ?_) (fun hia => ?_)
  · refine lv_iconst (v := -1) hx hb d_MD_rows_21 (by decide) ?_
    exact hp_iret S hret hlk (rfl) hM hS (⟨Or.inr ⟨fun j hj e => hia ⟨j, by first | (rw [hLL.1]; exact hj) | (show j < V.ac; rw [hLL.1]; exact hj), e⟩, rfl⟩, hw1⟩) d_MD_rows_22
  · obtain ⟨j, hj, ej⟩ := hia
    subst ej
    have hj : j < LL.length := by rw [← hLL.1]; exact hj
    obtain ⟨hcn, hL24, hLr⟩ := hLL.2.2.1 j hj
    have hj12 : j < 12 := Nat.lt_of_lt_of_le hj hLL.2.1
    refine lv_aload_n hx hb d_MD_rows_13 rfl (lv_at hl 0 rfl) ?_
    refine lv_iload_n hx hb d_MD_rows_14 rfl (lv_at hl 1 rfl) ?_
    refine hp_calli (go_V S hZ hK hM hS hA hz (c_MD_counting l D ct Z hZ _ _ md B (mkS (V.te) (V.cn) (V.kd) (V.sz) (V.ky) (V.le) (V.nm) (V.ns) (V.sl) (V.sb) (V.he) (V.dg) (V.su) (V.wi) (V.tu) 0 (V.ty) (V.ac) (V.al) (V.sd) (V.ss)) hw1 Al hnA j hj12 (LL.getD j []) hcn hL24 hLr) mc_MD_counting mz_MD ml_MD_196 mi_MD_counting mx_MD_counting hd_MD_counting rfl ⟨by decide, by decide⟩ f_md rfl rfl hl.1 rfl (Nat.le_of_ble_eq_true rfl) d_MD_rows_15 ⟨by decide, by decide⟩) hM hS hA (fun r9 M9 H locs h9 hM hS => ?_)
    rw [h9.1] at hM
    rw [h9.2, ← (hOO j hj).1]
    have hO24 : (OO j).length ≤ 24 := by rw [(hOO j hj).1]; exact Nat.le_trans cntL_le hL24
    refine lv_goto (tgt := 22) hx hb d_MD_rows_18 (by decide) ?_
    exact hp_iret S hret hlk (rfl) hM hS (⟨Or.inl ⟨j, hj, rfl, rfl⟩, hw1⟩) d_MD_rows_22
set_option maxHeartbeats 4000000 in
set_option maxRecDepth 100000 in
/-- kind(a, k) -/
theorem c_MD_kind (l : Launch) (D : va_G) (ct : Nat → ClassId) (Z : hp_Z) (hZ : hp_Zok Z) (M : hp_M) (sz : Nat) (md : Nat) (B : MA) (V : MS) (hw : mdS ct M md B V) (LL : List (List MR)) (hLL : mdL V LL) (Al : List (List Nat)) (hnA : nmA V Al) (OO : Nat → List MR) (hOO : ∀ j, j < LL.length → ordL Al (LL.getD j []) (OO j)) (x k : Int32) : Mi l y_MD_kind b_MD_kind 3 (some .int) 2 50 0 0 [.ref md, .int x, .int k] D ct Z M sz (fun r M1 => onM LL x r (fun j r => onK (OO j).length k r (fun q r => r = nI ((OO j).getD q mr0).1) (-1)) (-1) ∧ mdS ct M1 md B (mkS (V.te) (V.cn) (V.kd) (V.sz) (V.ky) (V.le) (V.nm) (V.ns) (V.sl) (V.sb) (V.he) (V.dg) (V.su) (V.wi) (V.tu) 0 (V.ty) (V.ac) (V.al) (V.sd) (V.ss))) := by
  refine hp_start (by decide) (Nat.le_of_ble_eq_true rfl) (fun p e s m below meth c ls S hret hlk hnm hsz hK hM hS hA hz hl => ?_)
  have hx := S.1
  have hb := S.2.1
  have hl : lv_has ls 3 [(0, .ref md), (1, .int x), (2, .int k)] := hl
  obtain ⟨f_md, f_ro, f_te, f_he, f_cn, f_kd, f_sz, f_ky, f_le, f_dg, f_nm, f_ns, f_sl, f_sb, f_su, f_wi, f_tu, hB, hV⟩ := id hw
  obtain ⟨n_kdsz, n_kdky, n_szky, n_hens, n_hesu, n_hetu, n_nssu, n_nstu, n_sutu, n_tewi⟩ := id hB
  obtain ⟨b_te, b_cn, b_kd, b_sz, b_ky, b_le, b_nm, b_ns, b_sl, b_sb, b_co, b_ty, b_ac, b_al, b_sd, b_ss⟩ := id hV
  refine lv_aload_n hx hb d_MD_kind_0 rfl (lv_at hl 0 rfl) ?_
  refine lv_iconst (v := nI 0) hx hb d_MD_kind_1 rfl ?_
  refine hp_put (ty := .int) (fs' := [.ref B.ro, .int (nI 0), .ref B.te, .int (nI (V.ty)), .int (nI (V.ac)), .int (nI (V.al)), .int (nI (V.sd)), .ref B.he, .ref B.cn, .ref B.kd, .ref B.sz, .ref B.ky, .ref B.le, .ref B.dg, .ref B.nm, .ref B.ns, .ref B.sl, .ref B.sb, .int (nI (V.ss)), .ref B.su, .ref B.wi, .ref B.tu]) S hK hM hS i_MD t_MD to_MD n_MD f_md rfl 1 (by decide) mf_MD_137 (fun _ h9 => h9) rfl (by decide +kernel) rfl rfl (by simp) rfl d_MD_kind_2 (fun H locs hM hS => ?_)
  have f_ro := hp_k (e := (.inr (6, [.ref B.ro, .int (nI 0), .ref B.te, .int (nI (V.ty)), .int (nI (V.ac)), .int (nI (V.al)), .int (nI (V.sd)), .ref B.he, .ref B.cn, .ref B.kd, .ref B.sz, .ref B.ky, .ref B.le, .ref B.dg, .ref B.nm, .ref B.ns, .ref B.sl, .ref B.sb, .int (nI (V.ss)), .ref B.su, .ref B.wi, .ref B.tu]))) (hp_ne f_ro f_md (by simp)) f_ro
  have f_te := hp_k (e := (.inr (6, [.ref B.ro, .int (nI 0), .ref B.te, .int (nI (V.ty)), .int (nI (V.ac)), .int (nI (V.al)), .int (nI (V.sd)), .ref B.he, .ref B.cn, .ref B.kd, .ref B.sz, .ref B.ky, .ref B.le, .ref B.dg, .ref B.nm, .ref B.ns, .ref B.sl, .ref B.sb, .int (nI (V.ss)), .ref B.su, .ref B.wi, .ref B.tu]))) (hp_ne f_te f_md (by simp)) f_te
  have f_he := hp_k (e := (.inr (6, [.ref B.ro, .int (nI 0), .ref B.te, .int (nI (V.ty)), .int (nI (V.ac)), .int (nI (V.al)), .int (nI (V.sd)), .ref B.he, .ref B.cn, .ref B.kd, .ref B.sz, .ref B.ky, .ref B.le, .ref B.dg, .ref B.nm, .ref B.ns, .ref B.sl, .ref B.sb, .int (nI (V.ss)), .ref B.su, .ref B.wi, .ref B.tu]))) (hp_ne f_he f_md (by simp)) f_he
  have f_cn := hp_k (e := (.inr (6, [.ref B.ro, .int (nI 0), .ref B.te, .int (nI (V.ty)), .int (nI (V.ac)), .int (nI (V.al)), .int (nI (V.sd)), .ref B.he, .ref B.cn, .ref B.kd, .ref B.sz, .ref B.ky, .ref B.le, .ref B.dg, .ref B.nm, .ref B.ns, .ref B.sl, .ref B.sb, .int (nI (V.ss)), .ref B.su, .ref B.wi, .ref B.tu]))) (hp_ne f_cn f_md (by simp)) f_cn
  have f_kd := hp_k (e := (.inr (6, [.ref B.ro, .int (nI 0), .ref B.te, .int (nI (V.ty)), .int (nI (V.ac)), .int (nI (V.al)), .int (nI (V.sd)), .ref B.he, .ref B.cn, .ref B.kd, .ref B.sz, .ref B.ky, .ref B.le, .ref B.dg, .ref B.nm, .ref B.ns, .ref B.sl, .ref B.sb, .int (nI (V.ss)), .ref B.su, .ref B.wi, .ref B.tu]))) (hp_ne f_kd f_md (by simp)) f_kd
  have f_sz := hp_k (e := (.inr (6, [.ref B.ro, .int (nI 0), .ref B.te, .int (nI (V.ty)), .int (nI (V.ac)), .int (nI (V.al)), .int (nI (V.sd)), .ref B.he, .ref B.cn, .ref B.kd, .ref B.sz, .ref B.ky, .ref B.le, .ref B.dg, .ref B.nm, .ref B.ns, .ref B.sl, .ref B.sb, .int (nI (V.ss)), .ref B.su, .ref B.wi, .ref B.tu]))) (hp_ne f_sz f_md (by simp)) f_sz
  have f_ky := hp_k (e := (.inr (6, [.ref B.ro, .int (nI 0), .ref B.te, .int (nI (V.ty)), .int (nI (V.ac)), .int (nI (V.al)), .int (nI (V.sd)), .ref B.he, .ref B.cn, .ref B.kd, .ref B.sz, .ref B.ky, .ref B.le, .ref B.dg, .ref B.nm, .ref B.ns, .ref B.sl, .ref B.sb, .int (nI (V.ss)), .ref B.su, .ref B.wi, .ref B.tu]))) (hp_ne f_ky f_md (by simp)) f_ky
  have f_le := hp_k (e := (.inr (6, [.ref B.ro, .int (nI 0), .ref B.te, .int (nI (V.ty)), .int (nI (V.ac)), .int (nI (V.al)), .int (nI (V.sd)), .ref B.he, .ref B.cn, .ref B.kd, .ref B.sz, .ref B.ky, .ref B.le, .ref B.dg, .ref B.nm, .ref B.ns, .ref B.sl, .ref B.sb, .int (nI (V.ss)), .ref B.su, .ref B.wi, .ref B.tu]))) (hp_ne f_le f_md (by simp)) f_le
  have f_dg := hp_k (e := (.inr (6, [.ref B.ro, .int (nI 0), .ref B.te, .int (nI (V.ty)), .int (nI (V.ac)), .int (nI (V.al)), .int (nI (V.sd)), .ref B.he, .ref B.cn, .ref B.kd, .ref B.sz, .ref B.ky, .ref B.le, .ref B.dg, .ref B.nm, .ref B.ns, .ref B.sl, .ref B.sb, .int (nI (V.ss)), .ref B.su, .ref B.wi, .ref B.tu]))) (hp_ne f_dg f_md (by simp)) f_dg
  have f_nm := hp_k (e := (.inr (6, [.ref B.ro, .int (nI 0), .ref B.te, .int (nI (V.ty)), .int (nI (V.ac)), .int (nI (V.al)), .int (nI (V.sd)), .ref B.he, .ref B.cn, .ref B.kd, .ref B.sz, .ref B.ky, .ref B.le, .ref B.dg, .ref B.nm, .ref B.ns, .ref B.sl, .ref B.sb, .int (nI (V.ss)), .ref B.su, .ref B.wi, .ref B.tu]))) (hp_ne f_nm f_md (by simp)) f_nm
  have f_ns := hp_k (e := (.inr (6, [.ref B.ro, .int (nI 0), .ref B.te, .int (nI (V.ty)), .int (nI (V.ac)), .int (nI (V.al)), .int (nI (V.sd)), .ref B.he, .ref B.cn, .ref B.kd, .ref B.sz, .ref B.ky, .ref B.le, .ref B.dg, .ref B.nm, .ref B.ns, .ref B.sl, .ref B.sb, .int (nI (V.ss)), .ref B.su, .ref B.wi, .ref B.tu]))) (hp_ne f_ns f_md (by simp)) f_ns
  have f_sl := hp_k (e := (.inr (6, [.ref B.ro, .int (nI 0), .ref B.te, .int (nI (V.ty)), .int (nI (V.ac)), .int (nI (V.al)), .int (nI (V.sd)), .ref B.he, .ref B.cn, .ref B.kd, .ref B.sz, .ref B.ky, .ref B.le, .ref B.dg, .ref B.nm, .ref B.ns, .ref B.sl, .ref B.sb, .int (nI (V.ss)), .ref B.su, .ref B.wi, .ref B.tu]))) (hp_ne f_sl f_md (by simp)) f_sl
  have f_sb := hp_k (e := (.inr (6, [.ref B.ro, .int (nI 0), .ref B.te, .int (nI (V.ty)), .int (nI (V.ac)), .int (nI (V.al)), .int (nI (V.sd)), .ref B.he, .ref B.cn, .ref B.kd, .ref B.sz, .ref B.ky, .ref B.le, .ref B.dg, .ref B.nm, .ref B.ns, .ref B.sl, .ref B.sb, .int (nI (V.ss)), .ref B.su, .ref B.wi, .ref B.tu]))) (hp_ne f_sb f_md (by simp)) f_sb
  have f_su := hp_k (e := (.inr (6, [.ref B.ro, .int (nI 0), .ref B.te, .int (nI (V.ty)), .int (nI (V.ac)), .int (nI (V.al)), .int (nI (V.sd)), .ref B.he, .ref B.cn, .ref B.kd, .ref B.sz, .ref B.ky, .ref B.le, .ref B.dg, .ref B.nm, .ref B.ns, .ref B.sl, .ref B.sb, .int (nI (V.ss)), .ref B.su, .ref B.wi, .ref B.tu]))) (hp_ne f_su f_md (by simp)) f_su
  have f_wi := hp_k (e := (.inr (6, [.ref B.ro, .int (nI 0), .ref B.te, .int (nI (V.ty)), .int (nI (V.ac)), .int (nI (V.al)), .int (nI (V.sd)), .ref B.he, .ref B.cn, .ref B.kd, .ref B.sz, .ref B.ky, .ref B.le, .ref B.dg, .ref B.nm, .ref B.ns, .ref B.sl, .ref B.sb, .int (nI (V.ss)), .ref B.su, .ref B.wi, .ref B.tu]))) (hp_ne f_wi f_md (by simp)) f_wi
  have f_tu := hp_k (e := (.inr (6, [.ref B.ro, .int (nI 0), .ref B.te, .int (nI (V.ty)), .int (nI (V.ac)), .int (nI (V.al)), .int (nI (V.sd)), .ref B.he, .ref B.cn, .ref B.kd, .ref B.sz, .ref B.ky, .ref B.le, .ref B.dg, .ref B.nm, .ref B.ns, .ref B.sl, .ref B.sb, .int (nI (V.ss)), .ref B.su, .ref B.wi, .ref B.tu]))) (hp_ne f_tu f_md (by simp)) f_tu
  have f_md : hp_up M md (.inr (6, [.ref B.ro, .int (nI 0), .ref B.te, .int (nI (V.ty)), .int (nI (V.ac)), .int (nI (V.al)), .int (nI (V.sd)), .ref B.he, .ref B.cn, .ref B.kd, .ref B.sz, .ref B.ky, .ref B.le, .ref B.dg, .ref B.nm, .ref B.ns, .ref B.sl, .ref B.sb, .int (nI (V.ss)), .ref B.su, .ref B.wi, .ref B.tu])) md = some (.inr (6, [.ref B.ro, .int (nI 0), .ref B.te, .int (nI (V.ty)), .int (nI (V.ac)), .int (nI (V.al)), .int (nI (V.sd)), .ref B.he, .ref B.cn, .ref B.kd, .ref B.sz, .ref B.ky, .ref B.le, .ref B.dg, .ref B.nm, .ref B.ns, .ref B.sl, .ref B.sb, .int (nI (V.ss)), .ref B.su, .ref B.wi, .ref B.tu])) := hp_us
  obtain ⟨M1, eM1⟩ : ∃ z, z = hp_up M md (.inr (6, [.ref B.ro, .int (nI 0), .ref B.te, .int (nI (V.ty)), .int (nI (V.ac)), .int (nI (V.al)), .int (nI (V.sd)), .ref B.he, .ref B.cn, .ref B.kd, .ref B.sz, .ref B.ky, .ref B.le, .ref B.dg, .ref B.nm, .ref B.ns, .ref B.sl, .ref B.sb, .int (nI (V.ss)), .ref B.su, .ref B.wi, .ref B.tu])) := ⟨_, rfl⟩
  rw [← eM1] at hM f_md f_ro f_te f_he f_cn f_kd f_sz f_ky f_le f_dg f_nm f_ns f_sl f_sb f_su f_wi f_tu
  have hw1 : mdS ct M1 md B (mkS (V.te) (V.cn) (V.kd) (V.sz) (V.ky) (V.le) (V.nm) (V.ns) (V.sl) (V.sb) (V.he) (V.dg) (V.su) (V.wi) (V.tu) 0 (V.ty) (V.ac) (V.al) (V.sd) (V.ss)) := ⟨f_md, f_ro, f_te, f_he, f_cn, f_kd, f_sz, f_ky, f_le, f_dg, f_nm, f_ns, f_sl, f_sb, f_su, f_wi, f_tu, hB, b_te, b_cn, b_kd, b_sz, b_ky, b_le, b_nm, b_ns, b_sl, b_sb, Nat.zero_le _, b_ty, b_ac, b_al, b_sd, b_ss⟩
  refine lv_aload_n hx hb d_MD_kind_5 rfl (lv_at hl 0 rfl) ?_
  refine lv_iload_n hx hb d_MD_kind_6 rfl (lv_at hl 1 rfl) ?_
  refine hp_calli (go_V S hZ hK hM hS hA hz (c_MD_isAction l D ct Z hZ _ _ md B (mkS (V.te) (V.cn) (V.kd) (V.sz) (V.ky) (V.le) (V.nm) (V.ns) (V.sl) (V.sb) (V.he) (V.dg) (V.su) (V.wi) (V.tu) 0 (V.ty) (V.ac) (V.al) (V.sd) (V.ss)) hw1 x) mc_MD_isAction mz_MD ml_MD_168 mi_MD_isAction mx_MD_isAction hd_MD_isAction rfl ⟨by decide, by decide⟩ f_md rfl rfl hl.1 rfl (Nat.le_of_ble_eq_true rfl) d_MD_kind_7 ⟨by decide, by decide⟩) hM hS hA (fun r2 N3 H locs hr2 hM hS => ?_)
  rw [hr2.1] at hM
  replace hr2 := hr2.2
  refine nt_eq (tgt := 26) hx hb d_MD_kind_10 (by decide) hr2 (fun hia => ?_) (fun hia => ?_)
  · refine lv_iconst (v := -1) hx hb d_MD_kind_26 (by decide) ?_
    exact hp_iret S hret hlk (rfl) hM hS (⟨Or.inr ⟨fun j hj e => hia ⟨j, by first | (rw [hLL.1]; exact hj) | (show j < V.ac; rw [hLL.1]; exact hj), e⟩, rfl⟩, hw1⟩) d_MD_kind_27
  · obtain ⟨j, hj, ej⟩ := hia
    subst ej
    have hj : j < LL.length := by rw [← hLL.1]; exact hj
    obtain ⟨hcn, hL24, hLr⟩ := hLL.2.2.1 j hj
    have hj12 : j < 12 := Nat.lt_of_lt_of_le hj hLL.2.1
    refine lv_iload_n hx hb d_MD_kind_13 rfl (lv_at hl 2 rfl) ?_
    refine lv_if_lt (tgt := 26) hx hb d_MD_kind_14 (by decide) (fun hk0 => ?_) (fun hk0 => ?_)
    · refine lv_iconst (v := -1) hx hb d_MD_kind_26 (by decide) ?_
      exact hp_iret S hret hlk (rfl) hM hS (⟨Or.inl ⟨j, hj, rfl, Or.inr ⟨fun q hq e => by subst e; first | exact nI_pos (by have := (hOO j hj).1; have := @cntL_le Al (LL.getD j []); omega) hk0 | exact hkn ((nI_ltI (by omega) (by omega)).mpr hq), rfl⟩⟩, hw1⟩) d_MD_kind_27
    · refine lv_iload_n hx hb d_MD_kind_17 rfl (lv_at hl 2 rfl) ?_
      refine lv_aload_n hx hb d_MD_kind_18 rfl (lv_at hl 0 rfl) ?_
      refine lv_iload_n hx hb d_MD_kind_19 rfl (lv_at hl 1 rfl) ?_
      refine hp_calli (go_V S hZ hK hM hS hA hz (c_MD_counting l D ct Z hZ _ _ md B (mkS (V.te) (V.cn) (V.kd) (V.sz) (V.ky) (V.le) (V.nm) (V.ns) (V.sl) (V.sb) (V.he) (V.dg) (V.su) (V.wi) (V.tu) 0 (V.ty) (V.ac) (V.al) (V.sd) (V.ss)) hw1 Al hnA j hj12 (LL.getD j []) hcn hL24 hLr) mc_MD_counting mz_MD ml_MD_196 mi_MD_counting mx_MD_counting hd_MD_counting rfl ⟨by decide, by decide⟩ f_md rfl rfl hl.1 rfl (Nat.le_of_ble_eq_true rfl) d_MD_kind_20 ⟨by decide, by decide⟩) hM hS hA (fun r9 M9 H locs h9 hM hS => ?_)
      rw [h9.1] at hM
      rw [h9.2, ← (hOO j hj).1]
      have hO24 : (OO j).length ≤ 24 := by rw [(hOO j hj).1]; exact Nat.le_trans cntL_le hL24
      refine lv_icmp_lt (tgt := 28) hx hb d_MD_kind_23 (by decide) (fun hkn => ?_) (fun hkn => ?_)
      · obtain ⟨k1, hk1, ek⟩ := nI_of hk0
        subst ek
        have hk2 : k1 < (OO j).length := (nI_ltI hk1 (by omega)).mp hkn
        refine lv_aload_n hx hb d_MD_kind_28 rfl (lv_at hl 0 rfl) ?_
        refine hp_get S hK hM i_MD f_md rfl 9 (by decide) mf_MD_94 (fun _ h9 => h9) rfl d_MD_kind_29 ?_
        refine lv_aload_n hx hb d_MD_kind_32 rfl (lv_at hl 0 rfl) ?_
        refine lv_iload_n hx hb d_MD_kind_33 rfl (lv_at hl 1 rfl) ?_
        refine lv_iload_n hx hb d_MD_kind_34 rfl (lv_at hl 2 rfl) ?_
        refine hp_calli (go_V S hZ hK hM hS hA hz (c_MD_rowAt l D ct Z hZ _ _ md B (mkS (V.te) (V.cn) (V.kd) (V.sz) (V.ky) (V.le) (V.nm) (V.ns) (V.sl) (V.sb) (V.he) (V.dg) (V.su) (V.wi) (V.tu) 0 (V.ty) (V.ac) (V.al) (V.sd) (V.ss)) hw1 Al hnA j hj12 (LL.getD j []) hcn hL24 hLr k1 (by omega)) mc_MD_rowAt mz_MD ml_MD_200 mi_MD_rowAt mx_MD_rowAt hd_MD_rowAt rfl ⟨by decide, by decide⟩ f_md rfl rfl hl.1 rfl (Nat.le_of_ble_eq_true rfl) d_MD_kind_35 ⟨by decide, by decide⟩) hM hS hA (fun r9 M9 H locs h9 hM hS => ?_)
        rw [h9.1] at hM
        obtain ⟨q, hatq, e9⟩ : ∃ q, isAt Al (LL.getD j []) q k1 ∧ r9 = nI (24 * j + q) := by
          rcases h9.2 with z | z
          · exact z
          · obtain ⟨q0, hq0⟩ := (hOO j hj).2.1 k1 (by omega); exact absurd hq0 (z.1 q0)
        rw [e9]
        have hqLq := hatq.1
        have hqRq := hLr q hqLq
        rw [(hOO j hj).2.2 q k1 hatq] at hqRq
        refine hp_iald S hK hM 1 f_kd rfl (24 * j + q) rfl (by omega) (by omega) d_MD_kind_38 ?_
        exact hp_iret S hret hlk (rfl) hM hS (⟨Or.inl ⟨j, hj, rfl, Or.inl ⟨k1, hk2, rfl, congrArg nI hqRq.1⟩⟩, hw1⟩) d_MD_kind_39
      · refine lv_iconst (v := -1) hx hb d_MD_kind_26 (by decide) ?_
        exact hp_iret S hret hlk (rfl) hM hS (⟨Or.inl ⟨j, hj, rfl, Or.inr ⟨fun q hq e => by subst e; first | exact nI_pos (by have := (hOO j hj).1; have := @cntL_le Al (LL.getD j []); omega) hk0 | exact hkn ((nI_ltI (by omega) (by omega)).mpr hq), rfl⟩⟩, hw1⟩) d_MD_kind_27
