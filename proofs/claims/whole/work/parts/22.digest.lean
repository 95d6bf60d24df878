theorem zer_lt : ∀ (n : Nat) {Y : ShT}, Y.2.2.1 < 64 → (zer n Y).2.2.1 < 64
  | 0, _, h => h
  | n + 1, Y, h => by
    show (if Y.2.2.1 = 56 then Y else zer n (feedS (nI 0) Y)).2.2.1 < 64
    by_cases q : Y.2.2.1 = 56
    · rw [if_pos q]; exact h
    · rw [if_neg q]; exact zer_lt n feedS_lt
theorem len8_lt : ∀ (b : Int64) (n : Nat) {Y : ShT}, Y.2.2.1 < 64 → (len8 b n Y).2.2.1 < 64
  | _, 0, _, h => h
  | b, n + 1, Y, _ => len8_lt b n (Y := feedS (lby b (8 * n)) Y) feedS_lt
theorem endS_lt {Y : ShT} : (endS Y).2.2.1 < 64 := by
  unfold endS
  exact len8_lt (Y.2.2.2 * 8) 8 (Y := zer 64 (feedS (nI 128) Y)) (zer_lt 64 (Y := feedS (nI 128) Y) feedS_lt)
theorem feedL_app {Y : ShT} {a b : List Nat} : feedL Y (a ++ b) = feedL (feedL Y a) b := List.foldl_append
/-- the sums over bytes, by a Sha whose words hold w -/
def dgW (w : Nat → Int32) (l : List Nat) : Nat → Int32 := (endS (feedL (hF, w, 0, 0) l)).1
set_option maxHeartbeats 4000000 in
set_option maxRecDepth 100000 in
/-- a part of the DIGEST -/
theorem c_AD_digest (l : Launch) (D : va_G) (ct : Nat → ClassId) (Z : hp_Z) (hZ : hp_Zok Z) (M : hp_M) (sz : Nat) (tk th : Nat) (hzk : zK Z tk) (hzh : zH Z th) (As : List (List RowT)) (Al : List (List Nat)) (fz : Nat → Prop) (x : Nat) (xt sh ac na al nl sc hg : Nat) (f_x : M x = some (xO xt sh ac na al nl sc hg)) (su wo : Nat) (Y : ShT) (hsh : shOk ct M sh su wo Y) (hat : atP ct fz M x As) (hal : alP ct fz M x Al) (sal : List Nat) (hL : sal.length ≤ 4000) (hc_sal : ∀ i, sal.getD i 0 < 65536) (f_sc : M sc = some (.inl (ct 0, sal.length, .inl (tx sal)))) (hfsc : fz sc) (k m9 : Int32) : Mi l y_AD_digest b_AD_digest 6 (some .int) 5 103 0 0 [.ref x, .int k, .int m9] D ct Z M sz (fun r M1 => (∃ X : ShT, M1 = shM ct M sh su wo X ∧ X.2.2.1 ≤ 64) ∧ onA As k r (fun rs r => onK 8 m9 r (fun j r => r = dgW Y.2.1 (sal ++ stA (cR Al rs)) j) (nI 0)) (nI 0)) := by
  refine hp_start (by decide) (Nat.le_of_ble_eq_true rfl) (fun p e s m below meth c ls S hret hlk hnm hsz hK hM hS hA hz hl => ?_)
  have hx := S.1
  have hb := S.2.1
  have hl : lv_has ls 6 [(0, .ref x), (1, .int k), (2, .int m9)] := hl
  obtain ⟨f_su, f_wo, f_sh, hfl⟩ := id hsh
  have f0_x := f_x
  refine lv_aload_n hx hb d_AD_digest_0 rfl (lv_at hl 0 rfl) ?_
  refine lv_iload_n hx hb d_AD_digest_1 rfl (lv_at hl 1 rfl) ?_
  refine hp_callq (go_V S hZ hK hM hS hA hz (c_AD_actionAt l D ct Z hZ _ _ fz x As hat k) mc_AD_actionAt mz_AD ml_AD_69 mi_AD_actionAt mx_AD_actionAt hd_AD_actionAt rfl ⟨by decide, by decide⟩ f_x rfl rfl hl.1 rfl (Nat.le_of_ble_eq_true rfl) d_AD_digest_2 ⟨by decide, by decide⟩) hM hS hA (fun r1 M9 H locs hr1 hM hS => ?_)
  rw [hr1.1] at hM
  replace hr1 := hr1.2
  rcases hr1 with ⟨j0, a, hj0, ek, e9r, hac0⟩ | ⟨hno0, e9r⟩
  · subst e9r
    subst ek
    have haca := hac0
    obtain ⟨oaa, foa, f_a, f_oaa, hn24a, hrsa⟩ := id haca
    refine lv_astore_n (lv' := [(3, .ref a), (0, .ref x), (1, .int (nI j0)), (2, .int m9)]) hx hb d_AD_digest_5 rfl hl (by decide) rfl (fun ls hl => ?_)
    refine lv_aload_n hx hb d_AD_digest_6 rfl (lv_at hl 0 rfl) ?_
    refine lv_ifnull hx hb d_AD_digest_7 ?_
    refine lv_iload_n hx hb d_AD_digest_10 rfl (lv_at hl 3 rfl) ?_
    refine lv_if_lt (tgt := 20) hx hb d_AD_digest_11 (by decide) (fun hlo => ?_) (fun hlo => ?_)
    · refine lv_iconst (v := nI 0) hx hb d_AD_digest_20 rfl ?_
      exact hp_iret S hret hlk rfl hM hS ⟨⟨Y, (shM_self hsh).symm, hfl⟩, Or.inl ⟨j0, hj0, rfl, Or.inr ⟨fun j hj e => by subst e; first | exact nI_pos (by omega) hlo | exact hhi ((nI_ltI (by omega) (by decide)).mpr hj), rfl⟩⟩⟩ d_AD_digest_21
    · refine lv_iload_n hx hb d_AD_digest_14 rfl (lv_at hl 3 rfl) ?_
      refine lv_bipush (v := nI 8) hx hb d_AD_digest_15 rfl ?_
      refine lv_icmp_lt (tgt := 22) hx hb d_AD_digest_17 (by decide) (fun hhi => ?_) (fun hhi => ?_)
      · obtain ⟨k2, hk2, ek2⟩ : ∃ j, j < 8 ∧ m9 = nI j := by
          obtain ⟨j, hj, ej⟩ := nI_of hlo
          rw [ej] at hhi
          exact ⟨j, (nI_ltI hj (by decide)).mp hhi, ej⟩
        subst ek2
        refine lv_aload_n hx hb d_AD_digest_22 rfl (lv_at hl 1 rfl) ?_
        refine hp_get S hK hM i_AD f_x rfl 1 (by decide) mf_AD_19 (fun _ h9 => h9) rfl d_AD_digest_23 ?_
        refine hp_callv (go_V S hZ hK hM hS hA hz (c_SH_begin l D ct Z hZ _ _ th hzh sh su wo Y hsh) mc_SH_begin mz_SH ml_AD_162 mi_SH_begin mx_SH_begin hd_SH_begin rfl ⟨by decide, by decide⟩ f_sh rfl rfl hl.1 rfl (Nat.le_of_ble_eq_true rfl) d_AD_digest_26 ⟨by decide, by decide⟩) hM hS hA (fun M9 H locs h9 hM hS => ?_)
        rw [h9] at hM
        obtain ⟨U, eU⟩ : ∃ z : ShT, z = (hF, Y.2.1, 0, 0) := ⟨_, rfl⟩
        rw [← eU] at hM
        have hUl : U.2.2.1 < 64 := by rw [eU]; exact (by decide : 0 < 64)
        have hshX := shM_ok hsh (X := U) (Nat.le_of_lt hUl)
        obtain ⟨f_su, f_wo, f_sh, -⟩ := id hshX
        have f_x := xO_sh (X := U) hsh f0_x
        refine lv_aload_n hx hb d_AD_digest_29 rfl (lv_at hl 1 rfl) ?_
        refine hp_get S hK hM i_AD f_x rfl 1 (by decide) mf_AD_19 (fun _ h9 => h9) rfl d_AD_digest_30 ?_
        refine lv_aload_n hx hb d_AD_digest_33 rfl (lv_at hl 1 rfl) ?_
        refine hp_get S hK hM i_AD f_x rfl 6 (by decide) mf_AD_42 (fun _ h9 => h9) rfl d_AD_digest_34 ?_
        have f_sc1 := (kp_sh (fz := fz) (X := U) (ct01 hK) hsh).1.2 _ _ _ hfsc f_sc
        refine hp_callv (go_V S hZ hK hM hS hA hz (c_SH_feedAll l D ct Z hZ _ _ tk hzk sh su wo U hshX hUl sc sal hL hc_sal f_sc1) mc_SH_feedAll mz_SH ml_AD_165 mi_SH_feedAll mx_SH_feedAll hd_SH_feedAll rfl ⟨by decide, by decide⟩ f_sh rfl rfl hl.1 rfl (Nat.le_of_ble_eq_true rfl) d_AD_digest_37 ⟨by decide, by decide⟩) hM hS hA (fun M9 H locs h9 hM hS => ?_)
        rw [h9, shM_uu] at hM
        obtain ⟨V, eV⟩ : ∃ z : ShT, z = feedL U sal := ⟨_, rfl⟩
        rw [← eV] at hM
        have hVl : V.2.2.1 < 64 := by rw [eV]; exact feedL_lt hUl _
        have hshX := shM_ok hsh (X := V) (Nat.le_of_lt hVl)
        obtain ⟨f_su, f_wo, f_sh, -⟩ := id hshX
        have f_x := xO_sh (X := V) hsh f0_x
        refine lv_iconst (v := nI 0) hx hb d_AD_digest_40 rfl ?_
        refine lv_istore (lv' := [(4, .int (nI 0)), (3, .ref a), (0, .ref x), (1, .int (nI j0)), (2, .int (nI k2))]) hx hb d_AD_digest_41 hl (by decide) rfl (fun ls hl => ?_)
        replace hl : lv_has ls 6 [(0, .ref x), (2, .int (nI k2)), (3, .ref a), (4, .int (nI 0))] := lv_sub hl [2, 4, 1, 0] rfl
        obtain ⟨j, e9j⟩ : ∃ z : Nat, z = 0 := ⟨_, rfl⟩
        obtain ⟨X, e9X⟩ : ∃ z : ShT, z = V := ⟨_, rfl⟩
        replace hl : lv_has ls 6 [(0, .ref x), (2, .int (nI k2)), (3, .ref a), (4, .int (nI j))] := by subst e9j e9X; exact hl
        replace hM : hp_H D ccl (hp_A M sz) (shM ct M sh su wo X) H := by rw [e9X]; exact hM
        have hX : X = feedL U (sal ++ stA (cR Al ((As.getD j0 []).take j))) := by subst e9j e9X; rw [eV]; simp [cR, stA]
        have hXl : X.2.2.1 < 64 := by subst e9j e9X; exact hVl
        obtain ⟨fu, hn⟩ : ∃ fu : Nat, j + fu = 24 := ⟨24 - j, by omega⟩
        clear e9j e9X
        induction fu generalizing j X H locs ls with
        | zero =>
          have hn : j = 24 := by omega
          have hshX := shM_ok hsh (X := X) (Nat.le_of_lt hXl)
          obtain ⟨f_su, f_wo, f_sh, -⟩ := id hshX
          have f_x := xO_sh (X := X) hsh f0_x
          have hkp := kp_sh (fz := fz) (X := X) (ct01 hK) hsh
          have hal1 := hal.kp hkp
          have hac1 := haca.kp hkp
          obtain ⟨oa1, fo1, f_a, -⟩ := id hac1
          rw [hn, List.take_of_length_le hn24a] at hX
          refine lv_iload hx hb d_AD_digest_43 (lv_at hl 3 rfl) ?_
          refine lv_bipush (v := nI 24) hx hb d_AD_digest_45 rfl ?_
          refine nb_ge (tgt := 76) hx hb d_AD_digest_47 (by decide) (by omega) (by omega) (fun h2 => ?_) (fun h2 => ?_)
          · refine lv_aload_n hx hb d_AD_digest_76 rfl (lv_at hl 0 rfl) ?_
            refine hp_get S hK hM i_AD f_x rfl 1 (by decide) mf_AD_19 (fun _ h9 => h9) rfl d_AD_digest_77 ?_
            refine hp_callv (go_V S hZ hK hM hS hA hz (c_SH_end l D ct Z hZ _ _ tk hzk sh su wo X hshX hXl) mc_SH_end mz_SH ml_AD_171 mi_SH_end mx_SH_end hd_SH_end rfl ⟨by decide, by decide⟩ f_sh rfl rfl hl.1 rfl (Nat.le_of_ble_eq_true rfl) d_AD_digest_80 ⟨by decide, by decide⟩) hM hS hA (fun M9 H locs h9 hM hS => ?_)
            rw [h9, shM_uu] at hM
            obtain ⟨T, eT⟩ : ∃ z : ShT, z = endS X := ⟨_, rfl⟩
            rw [← eT] at hM
            have hTl : T.2.2.1 < 64 := by rw [eT]; exact endS_lt
            have hshX := shM_ok hsh (X := T) (Nat.le_of_lt hTl)
            obtain ⟨f_su, f_wo, f_sh, -⟩ := id hshX
            have f_x := xO_sh (X := T) hsh f0_x
            refine lv_aload_n hx hb d_AD_digest_83 rfl (lv_at hl 0 rfl) ?_
            refine hp_get S hK hM i_AD f_x rfl 1 (by decide) mf_AD_19 (fun _ h9 => h9) rfl d_AD_digest_84 ?_
            refine hp_get S hK hM i_SH f_sh rfl 0 (by decide) mf_AD_174 (fun _ h9 => h9) rfl d_AD_digest_87 ?_
            refine lv_iload_n hx hb d_AD_digest_90 rfl (lv_at hl 1 rfl) ?_
            refine hp_iald S hK hM 1 f_su rfl k2 rfl (by omega) (by omega) d_AD_digest_91 ?_
            exact hp_iret S hret hlk (rfl) hM hS (⟨⟨T, rfl, Nat.le_of_lt hTl⟩, Or.inl ⟨j0, hj0, rfl, Or.inl ⟨k2, hk2, rfl, by rw [eT, hX, eU]; unfold dgW; rfl⟩⟩⟩) d_AD_digest_92
          · exact absurd hn (by omega)
        | succ fu ih =>
          have hshX := shM_ok hsh (X := X) (Nat.le_of_lt hXl)
          obtain ⟨f_su, f_wo, f_sh, -⟩ := id hshX
          have f_x := xO_sh (X := X) hsh f0_x
          have hkp := kp_sh (fz := fz) (X := X) (ct01 hK) hsh
          have hal1 := hal.kp hkp
          have hac1 := haca.kp hkp
          obtain ⟨oa1, fo1, f_a, -⟩ := id hac1
          refine lv_iload hx hb d_AD_digest_43 (lv_at hl 3 rfl) ?_
          refine lv_bipush (v := nI 24) hx hb d_AD_digest_45 rfl ?_
          refine nb_ge (tgt := 76) hx hb d_AD_digest_47 (by decide) (by omega) (by omega) (fun h3 => ?_) (fun h3 => ?_)
          · exact absurd hn (by omega)
          · refine lv_aload_n hx hb d_AD_digest_50 rfl (lv_at hl 0 rfl) ?_
            refine lv_aload_n hx hb d_AD_digest_51 rfl (lv_at hl 2 rfl) ?_
            refine lv_iload hx hb d_AD_digest_52 (lv_at hl 3 rfl) ?_
            refine hp_callq (go_V S hZ hK hM hS hA hz (c_AD_countingRowAt l D ct Z hZ _ _ fz x Al hal1 a (As.getD j0 []) hac1 j (by omega)) mc_AD_countingRowAt mz_AD ml_AD_144 mi_AD_countingRowAt mx_AD_countingRowAt hd_AD_countingRowAt rfl ⟨by decide, by decide⟩ f_x rfl rfl hl.1 rfl (Nat.le_of_ble_eq_true rfl) d_AD_digest_54 ⟨by decide, by decide⟩) hM hS hA (fun r4 M9 H locs hr4 hM hS => ?_)
            rw [hr4.1] at hM
            replace hr4 := hr4.2
            rcases hr4 with ⟨hlt, hcn, q, e9r, hq⟩ | ⟨hno, e9r⟩
            · subst e9r
              refine lv_astore (lv' := [(5, .ref q), (0, .ref x), (2, .int (nI k2)), (3, .ref a), (4, .int (nI j))]) hx hb d_AD_digest_57 hl (by decide) rfl (fun ls hl => ?_)
              refine lv_aload hx hb d_AD_digest_59 (lv_at hl 0 rfl) ?_
              refine lv_ifnull hx hb d_AD_digest_61 ?_
              refine lv_aload_n hx hb d_AD_digest_64 rfl (lv_at hl 1 rfl) ?_
              refine lv_aload hx hb d_AD_digest_65 (lv_at hl 0 rfl) ?_
              refine hp_callv (go_V S hZ hK hM hS hA hz (c_AD_feedRow l D ct Z hZ _ _ tk hzk fz x xt sh ac na al nl sc hg f_x su wo X hshX hXl q ((As.getD j0 []).getD j rw0) hq) mc_AD_feedRow mz_AD ml_AD_168 mi_AD_feedRow mx_AD_feedRow hd_AD_feedRow rfl ⟨by decide, by decide⟩ f_x rfl rfl hl.1 rfl (Nat.le_of_ble_eq_true rfl) d_AD_digest_67 ⟨by decide, by decide⟩) hM hS hA (fun M9 H locs h9 hM hS => ?_)
              rw [h9, shM_uu] at hM
              refine lv_iinc (v := nI (j + 1)) (lv' := [(4, .int (nI (j + 1))), (5, .ref q), (0, .ref x), (2, .int (nI k2)), (3, .ref a)]) hx hb d_AD_digest_70 hl (k := 4) rfl (nI_add j 1) (by decide) rfl (fun ls hl => ?_)
              refine lv_goto (tgt := 43) hx hb d_AD_digest_73 (by decide) ?_
              exact ih (ls := ls) (hl := lv_sub hl [2, 3, 4, 0] rfl) (j := j + 1) (hn := by omega) (X := feedL X (stT ((As.getD j0 []).getD j rw0))) (hX := by rw [cR_1 hlt hcn, stA_1, ← List.append_assoc, feedL_app, hX]) (hXl := feedL_lt hXl _) (H := H) (locs := locs) (hM := hM) (hS := hS)
            · subst e9r
              refine lv_astoreN (lv' := [(5, .null), (0, .ref x), (2, .int (nI k2)), (3, .ref a), (4, .int (nI j))]) hx hb d_AD_digest_57 hl (by decide) rfl (fun ls hl => ?_)
              refine lv_aloadN hx hb d_AD_digest_59 (lv_at hl 0 rfl) ?_
              refine lv_ifnullN (tgt := 70) hx hb d_AD_digest_61 (by decide) ?_
              refine lv_iinc (v := nI (j + 1)) (lv' := [(4, .int (nI (j + 1))), (5, .null), (0, .ref x), (2, .int (nI k2)), (3, .ref a)]) hx hb d_AD_digest_70 hl (k := 4) rfl (nI_add j 1) (by decide) rfl (fun ls hl => ?_)
              refine lv_goto (tgt := 43) hx hb d_AD_digest_73 (by decide) ?_
              exact ih (ls := ls) (hl := lv_sub hl [2, 3, 4, 0] rfl) (j := j + 1) (hn := by omega) (X := X) (hX := by rw [cR_0 hno]; exact hX) (hXl := hXl) (H := H) (locs := locs) (hM := hM) (hS := hS)
      · refine lv_iconst (v := nI 0) hx hb d_AD_digest_20 rfl ?_
        exact hp_iret S hret hlk rfl hM hS ⟨⟨Y, (shM_self hsh).symm, hfl⟩, Or.inl ⟨j0, hj0, rfl, Or.inr ⟨fun j hj e => by subst e; first | exact nI_pos (by omega) hlo | exact hhi ((nI_ltI (by omega) (by decide)).mpr hj), rfl⟩⟩⟩ d_AD_digest_21
  · subst e9r
    refine lv_astore_nN (lv' := [(3, .null), (0, .ref x), (1, .int k), (2, .int m9)]) hx hb d_AD_digest_5 rfl hl (by decide) rfl (fun ls hl => ?_)
    refine lv_aload_nN hx hb d_AD_digest_6 rfl (lv_at hl 0 rfl) ?_
    refine lv_ifnullN (tgt := 20) hx hb d_AD_digest_7 (by decide) ?_
    refine lv_iconst (v := nI 0) hx hb d_AD_digest_20 rfl ?_
    exact hp_iret S hret hlk rfl hM hS ⟨⟨Y, (shM_self hsh).symm, hfl⟩, Or.inr ⟨hno0, rfl⟩⟩ d_AD_digest_21
set_option maxHeartbeats 4000000 in
set_option maxRecDepth 100000 in
/-- a content is held -/
theorem c_AD_holdContent (l : Launch) (D : va_G) (ct : Nat → ClassId) (Z : hp_Z) (hZ : hp_Zok Z) (M : hp_M) (sz : Nat) (tk th : Nat) (hzk : zK Z tk) (hzh : zH Z th) (fz : Nat → Prop) (x : Nat) (xt sh ac na al nl sc hg : Nat) (f_x : M x = some (xO xt sh ac na al nl sc hg)) (su wo : Nat) (Y : ShT) (hsh : shOk ct M sh su wo Y) (hgc : List Nat) (f_hg : M hg = some (.inl (ct 0, 64, .inl (tx hgc)))) (t : Nat) (cn : List Nat) (hL : cn.length ≤ 4000) (hc_cn : ∀ i, cn.getD i 0 < 65536) (f_t : M t = some (.inl (ct 0, cn.length, .inl (tx cn)))) : Mv l y_AD_holdContent b_AD_holdContent 2 none 4 99 0 0 [.ref x, .ref t] D ct Z M sz (fun M1 => ∃ X : ShT, X.2.2.1 ≤ 64 ∧ M1 = hp_up (shM ct M sh su wo X) hg (.inl (ct 0, 64, .inl (nf (hexF (dgW Y.2.1 cn)))))) := by
  refine hp_start (by decide) (Nat.le_of_ble_eq_true rfl) (fun p e s m below meth c ls S hret hlk hnm hsz hK hM hS hA hz hl => ?_)
  have hx := S.1
  have hb := S.2.1
  have hl : lv_has ls 2 [(0, .ref x), (1, .ref t)] := hl
  obtain ⟨f_su, f_wo, f_sh, hfl⟩ := id hsh
  have f0_x := f_x
  have nt_su : t ≠ su := (hp_ne f_t f_su (fun q9 => ct_ne hK (i := 0) (j := 1) rfl rfl (by decide) (congrArg Prod.fst (Sum.inl.inj q9))))
  have ng_su : hg ≠ su := (hp_ne f_hg f_su (fun q9 => ct_ne hK (i := 0) (j := 1) rfl rfl (by decide) (congrArg Prod.fst (Sum.inl.inj q9))))
  have nt_wo : t ≠ wo := (hp_ne f_t f_wo (fun q9 => ct_ne hK (i := 0) (j := 1) rfl rfl (by decide) (congrArg Prod.fst (Sum.inl.inj q9))))
  have ng_wo : hg ≠ wo := (hp_ne f_hg f_wo (fun q9 => ct_ne hK (i := 0) (j := 1) rfl rfl (by decide) (congrArg Prod.fst (Sum.inl.inj q9))))
  have nt_sh : t ≠ sh := (hp_ne f_t f_sh (by simp))
  have ng_sh : hg ≠ sh := (hp_ne f_hg f_sh (by simp))
  refine lv_aload_n hx hb d_AD_holdContent_0 rfl (lv_at hl 0 rfl) ?_
  refine hp_get S hK hM i_AD f_x rfl 1 (by decide) mf_AD_19 (fun _ h9 => h9) rfl d_AD_holdContent_1 ?_
  refine hp_callv (go_V S hZ hK hM hS hA hz (c_SH_begin l D ct Z hZ _ _ th hzh sh su wo Y hsh) mc_SH_begin mz_SH ml_AD_162 mi_SH_begin mx_SH_begin hd_SH_begin rfl ⟨by decide, by decide⟩ f_sh rfl rfl hl.1 rfl (Nat.le_of_ble_eq_true rfl) d_AD_holdContent_4 ⟨by decide, by decide⟩) hM hS hA (fun M9 H locs h9 hM hS => ?_)
  rw [h9] at hM
  obtain ⟨U, eU⟩ : ∃ z : ShT, z = (hF, Y.2.1, 0, 0) := ⟨_, rfl⟩
  rw [← eU] at hM
  have hUl : U.2.2.1 < 64 := by rw [eU]; exact (by decide : 0 < 64)
  have hshX := shM_ok hsh (X := U) (Nat.le_of_lt hUl)
  obtain ⟨f_su, f_wo, f_sh, -⟩ := id hshX
  have f_x := xO_sh (X := U) hsh f0_x
  refine lv_aload_n hx hb d_AD_holdContent_7 rfl (lv_at hl 0 rfl) ?_
  refine hp_get S hK hM i_AD f_x rfl 1 (by decide) mf_AD_19 (fun _ h9 => h9) rfl d_AD_holdContent_8 ?_
  refine lv_aload_n hx hb d_AD_holdContent_11 rfl (lv_at hl 1 rfl) ?_
  have f_t1 := shM_k (ct := ct) (X := U) f_t nt_su nt_wo nt_sh
  refine hp_callv (go_V S hZ hK hM hS hA hz (c_SH_feedAll l D ct Z hZ _ _ tk hzk sh su wo U hshX hUl t cn hL hc_cn f_t1) mc_SH_feedAll mz_SH ml_AD_165 mi_SH_feedAll mx_SH_feedAll hd_SH_feedAll rfl ⟨by decide, by decide⟩ f_sh rfl rfl hl.1 rfl (Nat.le_of_ble_eq_true rfl) d_AD_holdContent_12 ⟨by decide, by decide⟩) hM hS hA (fun M9 H locs h9 hM hS => ?_)
  rw [h9, shM_uu] at hM
  obtain ⟨V, eV⟩ : ∃ z : ShT, z = feedL U cn := ⟨_, rfl⟩
  rw [← eV] at hM
  have hVl : V.2.2.1 < 64 := by rw [eV]; exact feedL_lt hUl _
  have hshX := shM_ok hsh (X := V) (Nat.le_of_lt hVl)
  obtain ⟨f_su, f_wo, f_sh, -⟩ := id hshX
  have f_x := xO_sh (X := V) hsh f0_x
  refine lv_aload_n hx hb d_AD_holdContent_15 rfl (lv_at hl 0 rfl) ?_
  refine hp_get S hK hM i_AD f_x rfl 1 (by decide) mf_AD_19 (fun _ h9 => h9) rfl d_AD_holdContent_16 ?_
  refine hp_callv (go_V S hZ hK hM hS hA hz (c_SH_end l D ct Z hZ _ _ tk hzk sh su wo V hshX hVl) mc_SH_end mz_SH ml_AD_171 mi_SH_end mx_SH_end hd_SH_end rfl ⟨by decide, by decide⟩ f_sh rfl rfl hl.1 rfl (Nat.le_of_ble_eq_true rfl) d_AD_holdContent_19 ⟨by decide, by decide⟩) hM hS hA (fun M9 H locs h9 hM hS => ?_)
  rw [h9, shM_uu] at hM
  obtain ⟨T, eT⟩ : ∃ z : ShT, z = endS V := ⟨_, rfl⟩
  rw [← eT] at hM
  have hTl : T.2.2.1 < 64 := by rw [eT]; exact endS_lt
  have hshX := shM_ok hsh (X := T) (Nat.le_of_lt hTl)
  obtain ⟨f_su, f_wo, f_sh, -⟩ := id hshX
  have f_x := xO_sh (X := T) hsh f0_x
  have f_hg1 : shM ct M sh su wo T hg = some (.inl (ct 0, 64, .inl (nf (fun i => hgc.getD i 0)))) := shM_k (ct := ct) (X := T) f_hg ng_su ng_wo ng_sh
  refine lv_aload_n hx hb d_AD_holdContent_22 rfl (lv_at hl 0 rfl) ?_
  refine hp_get S hK hM i_AD f_x rfl 1 (by decide) mf_AD_19 (fun _ h9 => h9) rfl d_AD_holdContent_23 ?_
  refine lv_aload_n hx hb d_AD_holdContent_26 rfl (lv_at hl 0 rfl) ?_
  refine hp_get S hK hM i_AD f_x rfl 7 (by decide) mf_AD_46 (fun _ h9 => h9) rfl d_AD_holdContent_27 ?_
  refine hp_callv (go_V S hZ hK hM hS hA hz (c_SH_writeDigits l D ct Z hZ _ _ sh su wo T hshX hg (fun i => hgc.getD i 0) f_hg1) mc_SH_writeDigits mz_SH ml_AD_187 mi_SH_writeDigits mx_SH_writeDigits hd_SH_writeDigits rfl ⟨by decide, by decide⟩ f_sh rfl rfl hl.1 rfl (Nat.le_of_ble_eq_true rfl) d_AD_holdContent_30 ⟨by decide, by decide⟩) hM hS hA (fun M9 H locs h9 hM hS => ?_)
  rw [h9] at hM
  exact hp_vret S hret hlk hM hS (⟨T, Nat.le_of_lt hTl, by rw [eT, eV, eU]; unfold dgW; rfl⟩) d_AD_holdContent_33
