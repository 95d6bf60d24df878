/-- one row of one action becomes another, or is new behind the last -/
theorem mdL_put {V W : MS} {LL : List (List MR)} (h : mdL V LL) {j k0 : Nat} (hj : j < LL.length) {L1 : List MR} (hac : W.ac = V.ac) (hcn : W.cn j = L1.length) (hcn2 : ∀ a, a ≠ j → W.cn a = V.cn a) (hl : L1.length ≤ 24) (hk0 : k0 < L1.length) (hold : ∀ k, k < L1.length → k ≠ k0 → k < (LL.getD j []).length ∧ L1.getD k mr0 = (LL.getD j []).getD k mr0) (hnew : mrA W (24 * j + k0) (L1.getD k0 mr0))
    (hfr : ∀ r, r ≠ 24 * j + k0 → W.kd r = V.kd r ∧ W.sz r = V.sz r ∧ W.ky r = V.ky r ∧ (∀ i, i < 64 → W.le (64 * r + i) = V.le (64 * r + i)) ∧ ∀ i, i < 8 → W.dg (8 * r + i) = V.dg (8 * r + i)) : mdL W (LL.set j L1) := by
  obtain ⟨h1, h2, h3, h4⟩ := h
  have keep : ∀ r R, r ≠ 24 * j + k0 → mrA V r R → mrA W r R := fun r R hr hR => by
    obtain ⟨f1, f2, f3, f4, f5⟩ := hfr r hr
    obtain ⟨a1, a2, a3, a4, a5, a6, a7, a8⟩ := hR
    exact ⟨f1.trans a1, f3.trans a2, f2.trans a3, fun i hi => (f4 i (by omega)).trans (a4 i hi), fun i hi => (f5 i hi).trans (a5 i hi), a6, a7, a8⟩
  refine ⟨by rw [List.length_set, hac]; exact h1, by rw [List.length_set]; exact h2, fun a ha => ?_, fun a ha1 ha2 => ?_⟩
  · rw [List.length_set] at ha
    rw [getD_set hj]
    by_cases z : a = j
    · rw [if_pos z, z]
      refine ⟨hcn, hl, fun k hk => ?_⟩
      by_cases y : k = k0
      · rw [y]; exact hnew
      · obtain ⟨b1, b2⟩ := hold k hk y
        rw [b2]
        exact keep _ _ (by omega) ((h3 j hj).2.2 k b1)
    · rw [if_neg z]
      obtain ⟨b1, b2, b3⟩ := h3 a ha
      refine ⟨(hcn2 a z).trans b1, b2, fun k hk => keep _ _ (fun y => ?_) (b3 k hk)⟩
      rcases Nat.lt_trichotomy a j with q | q | q <;> omega
  · rw [List.length_set] at ha1
    rw [hcn2 a (by omega)]
    exact h4 a ha1 ha2
set_option maxHeartbeats 4000000 in
set_option maxRecDepth 100000 in
/-- row(a, k) -/
theorem c_MD_row (l : Launch) (D : va_G) (ct : Nat → ClassId) (Z : hp_Z) (hZ : hp_Zok Z) (M : hp_M) (sz : Nat) (md : Nat) (B : MA) (V : MS) (hw : mdS ct M md B V) (T : List Nat) (hty : V.ty = T.length) (hte : ∀ i, i < T.length → V.te i = T.getD i 0) (hT64 : T.length ≤ 64) (hcT : ∀ i, T.getD i 0 < 128) (LL : List (List MR)) (hLL : mdL V LL) (x k : Int32) : Mv l y_MD_row b_MD_row 9 none 3 67 0 0 [.ref md, .int x, .int k] D ct Z M sz (fun M1 => ((¬ ∃ j w, j < LL.length ∧ x = nI j ∧ w ≤ 6 ∧ k = nI w ∧ fitK T (nI w)) ∧ mdS ct M1 md B (mkS (V.te) (V.cn) (V.kd) (V.sz) (V.ky) (V.le) (V.nm) (V.ns) (V.sl) (V.sb) (V.he) (V.dg) (V.su) (V.wi) (V.tu) 1 0 (V.ac) (V.al) (V.sd) (V.ss))) ∨ ((∃ j w n, j < LL.length ∧ x = nI j ∧ k = nI w ∧ w ≤ 6 ∧ fitK T (nI w) ∧ isKl T (nI w) n ∧ ((w ≠ 0 ∧ (∃ i, i < (LL.getD j []).length ∧ ((LL.getD j []).getD i mr0).1 = w ∧ kyR ((LL.getD j []).getD i mr0) = T.take n)) ∨ 24 ≤ (LL.getD j []).length)) ∧ mdS ct M1 md B (mkS (V.te) (V.cn) (V.kd) (V.sz) (V.ky) (V.le) (V.nm) (V.ns) (V.sl) (V.sb) (V.he) (V.dg) (V.su) (V.wi) (V.tu) 2 0 (V.ac) (V.al) (V.sd) (V.ss))) ∨ ∃ j w n, j < LL.length ∧ x = nI j ∧ k = nI w ∧ w ≤ 6 ∧ fitK T (nI w) ∧ isKl T (nI w) n ∧ (w = 0 ∨ ¬ (∃ i, i < (LL.getD j []).length ∧ ((LL.getD j []).getD i mr0).1 = w ∧ kyR ((LL.getD j []).getD i mr0) = T.take n)) ∧ (LL.getD j []).length < 24 ∧ ∃ cn kd sz9 ky le dg, mdS ct M1 md B (mkS (V.te) cn kd sz9 ky le (V.nm) (V.ns) (V.sl) (V.sb) (V.he) dg (V.su) (V.wi) (V.tu) 0 0 (V.ac) (V.al) (V.sd) (V.ss)) ∧ mdL (mkS (V.te) cn kd sz9 ky le (V.nm) (V.ns) (V.sl) (V.sb) (V.he) dg (V.su) (V.wi) (V.tu) 0 0 (V.ac) (V.al) (V.sd) (V.ss)) (LL.set j ((LL.getD j []) ++ [(w, n, T, V.he)]))) := by
  refine hp_start (by decide) (Nat.le_of_ble_eq_true rfl) (fun p e s m below meth c ls S hret hlk hnm hsz hK hM hS hA hz hl => ?_)
  have hx := S.1
  have hb := S.2.1
  have hl : lv_has ls 9 [(0, .ref md), (1, .int x), (2, .int k)] := hl
  obtain ⟨f_md, f_ro, f_te, f_he, f_cn, f_kd, f_sz, f_ky, f_le, f_dg, f_nm, f_ns, f_sl, f_sb, f_su, f_wi, f_tu, hB, hV⟩ := id hw
  obtain ⟨n_kdsz, n_kdky, n_szky, n_hens, n_hesu, n_hetu, n_nssu, n_nstu, n_sutu, n_tewi⟩ := id hB
  obtain ⟨b_te, b_cn, b_kd, b_sz, b_ky, b_le, b_nm, b_ns, b_sl, b_sb, b_co, b_ty, b_ac, b_al, b_sd, b_ss⟩ := id hV
  refine lv_aload_n hx hb d_MD_row_0 rfl (lv_at hl 0 rfl) ?_
  refine hp_calli (go_V S hZ hK hM hS hA hz (c_MD_takes l D ct Z hZ _ _ md B V hw) mc_MD_takes mz_MD ml_MD_164 mi_MD_takes mx_MD_takes hd_MD_takes rfl ⟨by decide, by decide⟩ f_md rfl rfl hl.1 rfl (Nat.le_of_ble_eq_true rfl) d_MD_row_1 ⟨by decide, by decide⟩) hM hS hA (fun r9 M9 H locs h9 hM hS => ?_)
  obtain ⟨N1, eN1⟩ : ∃ z, z = M9 := ⟨_, rfl⟩
  rw [← eN1] at hM h9
  have hw2 : mdS ct N1 md B (mkS (V.te) (V.cn) (V.kd) (V.sz) (V.ky) (V.le) (V.nm) (V.ns) (V.sl) (V.sb) (V.he) (V.dg) (V.su) (V.wi) (V.tu) (V.co) 0 (V.ac) (V.al) (V.sd) (V.ss)) := h9.2
  clear f_md f_ro f_te f_he f_cn f_kd f_sz f_ky f_le f_dg f_nm f_ns f_sl f_sb f_su f_wi f_tu
  obtain ⟨f_md, f_ro, f_te, f_he, f_cn, f_kd, f_sz, f_ky, f_le, f_dg, f_nm, f_ns, f_sl, f_sb, f_su, f_wi, f_tu, hB, hV⟩ := id hw2
  replace f_md : N1 md = some (.inr (6, [.ref B.ro, .int (nI (V.co)), .ref B.te, .int (nI 0), .int (nI (V.ac)), .int (nI (V.al)), .int (nI (V.sd)), .ref B.he, .ref B.cn, .ref B.kd, .ref B.sz, .ref B.ky, .ref B.le, .ref B.dg, .ref B.nm, .ref B.ns, .ref B.sl, .ref B.sb, .int (nI (V.ss)), .ref B.su, .ref B.wi, .ref B.tu])) := f_md
  replace f_ro : N1 B.ro = some (.inl (ct 1, 72, .inl roF)) := f_ro
  replace f_te : N1 B.te = some (.inl (ct 1, 64, .inl (nf V.te))) := f_te
  replace f_he : N1 B.he = some (.inl (ct 1, 8, .inl (V.he))) := f_he
  replace f_cn : N1 B.cn = some (.inl (ct 1, 12, .inl (nf V.cn))) := f_cn
  replace f_kd : N1 B.kd = some (.inl (ct 1, 288, .inl (nf V.kd))) := f_kd
  replace f_sz : N1 B.sz = some (.inl (ct 1, 288, .inl (nf V.sz))) := f_sz
  replace f_ky : N1 B.ky = some (.inl (ct 1, 288, .inl (nf V.ky))) := f_ky
  replace f_le : N1 B.le = some (.inl (ct 1, 18432, .inl (nf V.le))) := f_le
  replace f_dg : N1 B.dg = some (.inl (ct 1, 2304, .inl (V.dg))) := f_dg
  replace f_nm : N1 B.nm = some (.inl (ct 1, 128, .inl (nf V.nm))) := f_nm
  replace f_ns : N1 B.ns = some (.inl (ct 1, 8, .inl (nf V.ns))) := f_ns
  replace f_sl : N1 B.sl = some (.inl (ct 1, 16, .inl (nf V.sl))) := f_sl
  replace f_sb : N1 B.sb = some (.inl (ct 1, 3000, .inl (nf V.sb))) := f_sb
  replace f_su : N1 B.su = some (.inl (ct 1, 8, .inl (V.su))) := f_su
  replace f_wi : N1 B.wi = some (.inl (ct 1, 64, .inl (V.wi))) := f_wi
  replace f_tu : N1 B.tu = some (.inl (ct 1, 8, .inl (V.tu))) := f_tu
  rw [h9.1, hty]
  refine lv_istore_n (lv' := [(3, .int (nI (T.length))), (0, .ref md), (1, .int x), (2, .int k)]) hx hb d_MD_row_4 rfl hl (by decide) rfl (fun ls hl => ?_)
  refine w_join hM hS (P := fun z => bo z (¬ ((∃ j, j < V.ac ∧ x = nI j) ∧ ∃ w, w ≤ 6 ∧ k = nI w))) (pc2 := 28) (rest := []) (fun v2 H locs hM hS hv2 => ?_) (fun hjv2 => ?_)
  · refine lv_istore (lv' := [(4, .int v2), (3, .int (nI (T.length))), (0, .ref md), (1, .int x), (2, .int k)]) hx hb d_MD_row_28 hl (by decide) rfl (fun ls hl => ?_)
    refine w_join hM hS (P := fun z => ((¬ ∃ j w, j < V.ac ∧ x = nI j ∧ w ≤ 6 ∧ k = nI w ∧ fitK T (nI w)) ∧ z = -1) ∨ ∃ j w n, j < V.ac ∧ x = nI j ∧ w ≤ 6 ∧ k = nI w ∧ fitK T (nI w) ∧ isKl T (nI w) n ∧ z = nI n) (pc2 := 45) (rest := []) (fun v3 H locs hM hS hv3 => ?_) (fun hjv3 => ?_)
    · rcases hv3 with ⟨hnf, ev⟩ | ⟨j, w, n, hj, ej, hw6, ew, hft, hkl, ev⟩
      · subst ev
        refine lv_istore (lv' := [(5, .int (-1)), (4, .int v2), (3, .int (nI (T.length))), (0, .ref md), (1, .int x), (2, .int k)]) hx hb d_MD_row_45 hl (by decide) rfl (fun ls hl => ?_)
        refine lv_iload hx hb d_MD_row_47 (lv_at hl 0 rfl) ?_
        refine lv_if_lt (tgt := 82) hx hb d_MD_row_49 (by decide) (fun hv0 => ?_) (fun hv0 => ?_)
        · refine lv_iconst (v := nI 0) hx hb d_MD_row_82 rfl ?_
          refine lv_istore (lv' := [(6, .int (nI 0)), (5, .int (-1)), (4, .int v2), (3, .int (nI (T.length))), (0, .ref md), (1, .int x), (2, .int k)]) hx hb d_MD_row_83 hl (by decide) rfl (fun ls hl => ?_)
          refine lv_aload_n hx hb d_MD_row_85 rfl (lv_at hl 4 rfl) ?_
          refine lv_iload hx hb d_MD_row_86 (lv_at hl 1 rfl) ?_
          refine lv_if_ge (tgt := 95) hx hb d_MD_row_88 (by decide) (fun hv1 => ?_) (fun hv1 => ?_)
          · exact absurd hv1 (by decide)
          · refine lv_iconst (v := nI 1) hx hb d_MD_row_91 rfl ?_
            refine lv_goto (tgt := 96) hx hb d_MD_row_92 (by decide) ?_
            refine lv_iload hx hb d_MD_row_96 (lv_at hl 0 rfl) ?_
            refine hp_calli (go_V S hZ hK hM hS hA hz (c_MD_refuses l D ct Z hZ _ _ md B (mkS (V.te) (V.cn) (V.kd) (V.sz) (V.ky) (V.le) (V.nm) (V.ns) (V.sl) (V.sb) (V.he) (V.dg) (V.su) (V.wi) (V.tu) (V.co) 0 (V.ac) (V.al) (V.sd) (V.ss)) hw2 (nI 1) (nI 0) (True) (False) (bo_t trivial) (bo_f id)) mc_MD_refuses mz_MD ml_MD_178 mi_MD_refuses mx_MD_refuses hd_MD_refuses rfl ⟨by decide, by decide⟩ f_md rfl rfl hl.1 rfl (Nat.le_of_ble_eq_true rfl) d_MD_row_98 ⟨by decide, by decide⟩) hM hS hA (fun r9 M9 H locs h9 hM hS => ?_)
            obtain ⟨N4, eN4⟩ : ∃ z, z = M9 := ⟨_, rfl⟩
            rw [← eN4] at hM h9
            rcases h9 with ⟨hp1, er, h9⟩ | ⟨hp1, hp2, er, h9⟩ | ⟨hp1, hp2, er, h9⟩
            · subst er
              have hw4 : mdS ct N4 md B (mkS (V.te) (V.cn) (V.kd) (V.sz) (V.ky) (V.le) (V.nm) (V.ns) (V.sl) (V.sb) (V.he) (V.dg) (V.su) (V.wi) (V.tu) 1 0 (V.ac) (V.al) (V.sd) (V.ss)) := h9
              clear f_md f_ro f_te f_he f_cn f_kd f_sz f_ky f_le f_dg f_nm f_ns f_sl f_sb f_su f_wi f_tu
              obtain ⟨f_md, f_ro, f_te, f_he, f_cn, f_kd, f_sz, f_ky, f_le, f_dg, f_nm, f_ns, f_sl, f_sb, f_su, f_wi, f_tu, hB, hV⟩ := id hw4
              replace f_md : N4 md = some (.inr (6, [.ref B.ro, .int (nI 1), .ref B.te, .int (nI 0), .int (nI (V.ac)), .int (nI (V.al)), .int (nI (V.sd)), .ref B.he, .ref B.cn, .ref B.kd, .ref B.sz, .ref B.ky, .ref B.le, .ref B.dg, .ref B.nm, .ref B.ns, .ref B.sl, .ref B.sb, .int (nI (V.ss)), .ref B.su, .ref B.wi, .ref B.tu])) := f_md
              replace f_ro : N4 B.ro = some (.inl (ct 1, 72, .inl roF)) := f_ro
              replace f_te : N4 B.te = some (.inl (ct 1, 64, .inl (nf V.te))) := f_te
              replace f_he : N4 B.he = some (.inl (ct 1, 8, .inl (V.he))) := f_he
              replace f_cn : N4 B.cn = some (.inl (ct 1, 12, .inl (nf V.cn))) := f_cn
              replace f_kd : N4 B.kd = some (.inl (ct 1, 288, .inl (nf V.kd))) := f_kd
              replace f_sz : N4 B.sz = some (.inl (ct 1, 288, .inl (nf V.sz))) := f_sz
              replace f_ky : N4 B.ky = some (.inl (ct 1, 288, .inl (nf V.ky))) := f_ky
              replace f_le : N4 B.le = some (.inl (ct 1, 18432, .inl (nf V.le))) := f_le
              replace f_dg : N4 B.dg = some (.inl (ct 1, 2304, .inl (V.dg))) := f_dg
              replace f_nm : N4 B.nm = some (.inl (ct 1, 128, .inl (nf V.nm))) := f_nm
              replace f_ns : N4 B.ns = some (.inl (ct 1, 8, .inl (nf V.ns))) := f_ns
              replace f_sl : N4 B.sl = some (.inl (ct 1, 16, .inl (nf V.sl))) := f_sl
              replace f_sb : N4 B.sb = some (.inl (ct 1, 3000, .inl (nf V.sb))) := f_sb
              replace f_su : N4 B.su = some (.inl (ct 1, 8, .inl (V.su))) := f_su
              replace f_wi : N4 B.wi = some (.inl (ct 1, 64, .inl (V.wi))) := f_wi
              replace f_tu : N4 B.tu = some (.inl (ct 1, 8, .inl (V.tu))) := f_tu
              refine nz_eq (tgt := 105) hx hb d_MD_row_101 (by decide) (by omega) (fun h5 => ?_) (fun h5 => ?_)
              · exact absurd h5 (by decide)
              · exact hp_vret S hret hlk hM hS (Or.inl ⟨fun ⟨j, w, a1, a2, a3, a4, a5⟩ => hnf ⟨j, w, by rw [hLL.1]; exact a1, a2, a3, a4, a5⟩, hw4⟩) d_MD_row_104
            · subst er
              have hw4 : mdS ct N4 md B (mkS (V.te) (V.cn) (V.kd) (V.sz) (V.ky) (V.le) (V.nm) (V.ns) (V.sl) (V.sb) (V.he) (V.dg) (V.su) (V.wi) (V.tu) 2 0 (V.ac) (V.al) (V.sd) (V.ss)) := h9
              clear f_md f_ro f_te f_he f_cn f_kd f_sz f_ky f_le f_dg f_nm f_ns f_sl f_sb f_su f_wi f_tu
              obtain ⟨f_md, f_ro, f_te, f_he, f_cn, f_kd, f_sz, f_ky, f_le, f_dg, f_nm, f_ns, f_sl, f_sb, f_su, f_wi, f_tu, hB, hV⟩ := id hw4
              replace f_md : N4 md = some (.inr (6, [.ref B.ro, .int (nI 2), .ref B.te, .int (nI 0), .int (nI (V.ac)), .int (nI (V.al)), .int (nI (V.sd)), .ref B.he, .ref B.cn, .ref B.kd, .ref B.sz, .ref B.ky, .ref B.le, .ref B.dg, .ref B.nm, .ref B.ns, .ref B.sl, .ref B.sb, .int (nI (V.ss)), .ref B.su, .ref B.wi, .ref B.tu])) := f_md
              replace f_ro : N4 B.ro = some (.inl (ct 1, 72, .inl roF)) := f_ro
              replace f_te : N4 B.te = some (.inl (ct 1, 64, .inl (nf V.te))) := f_te
              replace f_he : N4 B.he = some (.inl (ct 1, 8, .inl (V.he))) := f_he
              replace f_cn : N4 B.cn = some (.inl (ct 1, 12, .inl (nf V.cn))) := f_cn
              replace f_kd : N4 B.kd = some (.inl (ct 1, 288, .inl (nf V.kd))) := f_kd
              replace f_sz : N4 B.sz = some (.inl (ct 1, 288, .inl (nf V.sz))) := f_sz
              replace f_ky : N4 B.ky = some (.inl (ct 1, 288, .inl (nf V.ky))) := f_ky
              replace f_le : N4 B.le = some (.inl (ct 1, 18432, .inl (nf V.le))) := f_le
              replace f_dg : N4 B.dg = some (.inl (ct 1, 2304, .inl (V.dg))) := f_dg
              replace f_nm : N4 B.nm = some (.inl (ct 1, 128, .inl (nf V.nm))) := f_nm
              replace f_ns : N4 B.ns = some (.inl (ct 1, 8, .inl (nf V.ns))) := f_ns
              replace f_sl : N4 B.sl = some (.inl (ct 1, 16, .inl (nf V.sl))) := f_sl
              replace f_sb : N4 B.sb = some (.inl (ct 1, 3000, .inl (nf V.sb))) := f_sb
              replace f_su : N4 B.su = some (.inl (ct 1, 8, .inl (V.su))) := f_su
              replace f_wi : N4 B.wi = some (.inl (ct 1, 64, .inl (V.wi))) := f_wi
              replace f_tu : N4 B.tu = some (.inl (ct 1, 8, .inl (V.tu))) := f_tu
              refine nz_eq (tgt := 105) hx hb d_MD_row_101 (by decide) (by omega) (fun h6 => ?_) (fun h6 => ?_)
              · exact absurd h6 (by decide)
              · exact hp_vret S hret hlk hM hS (absurd trivial hp1) d_MD_row_104
            · subst er
              have hw4 : mdS ct N4 md B (mkS (V.te) (V.cn) (V.kd) (V.sz) (V.ky) (V.le) (V.nm) (V.ns) (V.sl) (V.sb) (V.he) (V.dg) (V.su) (V.wi) (V.tu) 0 0 (V.ac) (V.al) (V.sd) (V.ss)) := h9
              clear f_md f_ro f_te f_he f_cn f_kd f_sz f_ky f_le f_dg f_nm f_ns f_sl f_sb f_su f_wi f_tu
              obtain ⟨f_md, f_ro, f_te, f_he, f_cn, f_kd, f_sz, f_ky, f_le, f_dg, f_nm, f_ns, f_sl, f_sb, f_su, f_wi, f_tu, hB, hV⟩ := id hw4
              replace f_md : N4 md = some (.inr (6, [.ref B.ro, .int (nI 0), .ref B.te, .int (nI 0), .int (nI (V.ac)), .int (nI (V.al)), .int (nI (V.sd)), .ref B.he, .ref B.cn, .ref B.kd, .ref B.sz, .ref B.ky, .ref B.le, .ref B.dg, .ref B.nm, .ref B.ns, .ref B.sl, .ref B.sb, .int (nI (V.ss)), .ref B.su, .ref B.wi, .ref B.tu])) := f_md
              replace f_ro : N4 B.ro = some (.inl (ct 1, 72, .inl roF)) := f_ro
              replace f_te : N4 B.te = some (.inl (ct 1, 64, .inl (nf V.te))) := f_te
              replace f_he : N4 B.he = some (.inl (ct 1, 8, .inl (V.he))) := f_he
              replace f_cn : N4 B.cn = some (.inl (ct 1, 12, .inl (nf V.cn))) := f_cn
              replace f_kd : N4 B.kd = some (.inl (ct 1, 288, .inl (nf V.kd))) := f_kd
              replace f_sz : N4 B.sz = some (.inl (ct 1, 288, .inl (nf V.sz))) := f_sz
              replace f_ky : N4 B.ky = some (.inl (ct 1, 288, .inl (nf V.ky))) := f_ky
              replace f_le : N4 B.le = some (.inl (ct 1, 18432, .inl (nf V.le))) := f_le
              replace f_dg : N4 B.dg = some (.inl (ct 1, 2304, .inl (V.dg))) := f_dg
              replace f_nm : N4 B.nm = some (.inl (ct 1, 128, .inl (nf V.nm))) := f_nm
              replace f_ns : N4 B.ns = some (.inl (ct 1, 8, .inl (nf V.ns))) := f_ns
              replace f_sl : N4 B.sl = some (.inl (ct 1, 16, .inl (nf V.sl))) := f_sl
              replace f_sb : N4 B.sb = some (.inl (ct 1, 3000, .inl (nf V.sb))) := f_sb
              replace f_su : N4 B.su = some (.inl (ct 1, 8, .inl (V.su))) := f_su
              replace f_wi : N4 B.wi = some (.inl (ct 1, 64, .inl (V.wi))) := f_wi
              replace f_tu : N4 B.tu = some (.inl (ct 1, 8, .inl (V.tu))) := f_tu
              refine nz_eq (tgt := 105) hx hb d_MD_row_101 (by decide) (by omega) (fun h7 => ?_) (fun h7 => ?_)
              · exact absurd trivial hp1
              · exact absurd rfl h7
        · exact absurd (by decide) hv0
      · subst ev
        subst ej
        subst ew
        have hj : j < LL.length := by rw [← hLL.1]; exact hj
        obtain ⟨hcn, hL24, hLr⟩ := hLL.2.2.1 j hj
        have hj12 : j < 12 := Nat.lt_of_lt_of_le hj hLL.2.1
        have hnT := hkl.le
        refine lv_istore (lv' := [(5, .int (nI n)), (4, .int v2), (3, .int (nI (T.length))), (0, .ref md), (1, .int (nI j)), (2, .int (nI w))]) hx hb d_MD_row_45 hl (by decide) rfl (fun ls hl => ?_)
        refine lv_iload hx hb d_MD_row_47 (lv_at hl 0 rfl) ?_
        refine nz_lt (tgt := 82) hx hb d_MD_row_49 (by decide) (by omega) (fun hv0 => ?_) (fun hv0 => ?_)
        · exact absurd hv0 (fun q => q)
        · refine w_join hM hS (P := fun z => bo z ((w ≠ 0 ∧ (∃ i, i < (LL.getD j []).length ∧ ((LL.getD j []).getD i mr0).1 = w ∧ kyR ((LL.getD j []).getD i mr0) = T.take n)) ∨ 24 ≤ (LL.getD j []).length)) (pc2 := 83) (rest := []) (fun v8 H locs hM hS hv8 => ?_) (fun hjv8 => ?_)
          · refine lv_istore (lv' := [(6, .int v8), (5, .int (nI n)), (4, .int v2), (3, .int (nI (T.length))), (0, .ref md), (1, .int (nI j)), (2, .int (nI w))]) hx hb d_MD_row_83 hl (by decide) rfl (fun ls hl => ?_)
            refine lv_aload_n hx hb d_MD_row_85 rfl (lv_at hl 4 rfl) ?_
            refine lv_iload hx hb d_MD_row_86 (lv_at hl 1 rfl) ?_
            refine nz_ge (tgt := 95) hx hb d_MD_row_88 (by decide) (by omega) (fun hv1 => ?_) (fun hv1 => ?_)
            · refine lv_iconst (v := nI 0) hx hb d_MD_row_95 rfl ?_
              refine lv_iload hx hb d_MD_row_96 (lv_at hl 0 rfl) ?_
              refine hp_calli (go_V S hZ hK hM hS hA hz (c_MD_refuses l D ct Z hZ _ _ md B (mkS (V.te) (V.cn) (V.kd) (V.sz) (V.ky) (V.le) (V.nm) (V.ns) (V.sl) (V.sb) (V.he) (V.dg) (V.su) (V.wi) (V.tu) (V.co) 0 (V.ac) (V.al) (V.sd) (V.ss)) hw2 (nI 0) v8 (False) ((w ≠ 0 ∧ (∃ i, i < (LL.getD j []).length ∧ ((LL.getD j []).getD i mr0).1 = w ∧ kyR ((LL.getD j []).getD i mr0) = T.take n)) ∨ 24 ≤ (LL.getD j []).length) (bo_f id) (hv8)) mc_MD_refuses mz_MD ml_MD_178 mi_MD_refuses mx_MD_refuses hd_MD_refuses rfl ⟨by decide, by decide⟩ f_md rfl rfl hl.1 rfl (Nat.le_of_ble_eq_true rfl) d_MD_row_98 ⟨by decide, by decide⟩) hM hS hA (fun r9 M9 H locs h9 hM hS => ?_)
              obtain ⟨N9, eN9⟩ : ∃ z, z = M9 := ⟨_, rfl⟩
              rw [← eN9] at hM h9
              rcases h9 with ⟨hp1, er, h9⟩ | ⟨hp1, hp2, er, h9⟩ | ⟨hp1, hp2, er, h9⟩
              · subst er
                have hw4 : mdS ct N9 md B (mkS (V.te) (V.cn) (V.kd) (V.sz) (V.ky) (V.le) (V.nm) (V.ns) (V.sl) (V.sb) (V.he) (V.dg) (V.su) (V.wi) (V.tu) 1 0 (V.ac) (V.al) (V.sd) (V.ss)) := h9
                clear f_md f_ro f_te f_he f_cn f_kd f_sz f_ky f_le f_dg f_nm f_ns f_sl f_sb f_su f_wi f_tu
                obtain ⟨f_md, f_ro, f_te, f_he, f_cn, f_kd, f_sz, f_ky, f_le, f_dg, f_nm, f_ns, f_sl, f_sb, f_su, f_wi, f_tu, hB, hV⟩ := id hw4
                replace f_md : N9 md = some (.inr (6, [.ref B.ro, .int (nI 1), .ref B.te, .int (nI 0), .int (nI (V.ac)), .int (nI (V.al)), .int (nI (V.sd)), .ref B.he, .ref B.cn, .ref B.kd, .ref B.sz, .ref B.ky, .ref B.le, .ref B.dg, .ref B.nm, .ref B.ns, .ref B.sl, .ref B.sb, .int (nI (V.ss)), .ref B.su, .ref B.wi, .ref B.tu])) := f_md
                replace f_ro : N9 B.ro = some (.inl (ct 1, 72, .inl roF)) := f_ro
                replace f_te : N9 B.te = some (.inl (ct 1, 64, .inl (nf V.te))) := f_te
                replace f_he : N9 B.he = some (.inl (ct 1, 8, .inl (V.he))) := f_he
                replace f_cn : N9 B.cn = some (.inl (ct 1, 12, .inl (nf V.cn))) := f_cn
                replace f_kd : N9 B.kd = some (.inl (ct 1, 288, .inl (nf V.kd))) := f_kd
                replace f_sz : N9 B.sz = some (.inl (ct 1, 288, .inl (nf V.sz))) := f_sz
                replace f_ky : N9 B.ky = some (.inl (ct 1, 288, .inl (nf V.ky))) := f_ky
                replace f_le : N9 B.le = some (.inl (ct 1, 18432, .inl (nf V.le))) := f_le
                replace f_dg : N9 B.dg = some (.inl (ct 1, 2304, .inl (V.dg))) := f_dg
                replace f_nm : N9 B.nm = some (.inl (ct 1, 128, .inl (nf V.nm))) := f_nm
                replace f_ns : N9 B.ns = some (.inl (ct 1, 8, .inl (nf V.ns))) := f_ns
                replace f_sl : N9 B.sl = some (.inl (ct 1, 16, .inl (nf V.sl))) := f_sl
                replace f_sb : N9 B.sb = some (.inl (ct 1, 3000, .inl (nf V.sb))) := f_sb
                replace f_su : N9 B.su = some (.inl (ct 1, 8, .inl (V.su))) := f_su
                replace f_wi : N9 B.wi = some (.inl (ct 1, 64, .inl (V.wi))) := f_wi
                replace f_tu : N9 B.tu = some (.inl (ct 1, 8, .inl (V.tu))) := f_tu
                refine nz_eq (tgt := 105) hx hb d_MD_row_101 (by decide) (by omega) (fun h10 => ?_) (fun h10 => ?_)
                · exact absurd h10 (by decide)
                · exact hp_vret S hret hlk hM hS (absurd hp1 id) d_MD_row_104
              · subst er
                have hw4 : mdS ct N9 md B (mkS (V.te) (V.cn) (V.kd) (V.sz) (V.ky) (V.le) (V.nm) (V.ns) (V.sl) (V.sb) (V.he) (V.dg) (V.su) (V.wi) (V.tu) 2 0 (V.ac) (V.al) (V.sd) (V.ss)) := h9
                clear f_md f_ro f_te f_he f_cn f_kd f_sz f_ky f_le f_dg f_nm f_ns f_sl f_sb f_su f_wi f_tu
                obtain ⟨f_md, f_ro, f_te, f_he, f_cn, f_kd, f_sz, f_ky, f_le, f_dg, f_nm, f_ns, f_sl, f_sb, f_su, f_wi, f_tu, hB, hV⟩ := id hw4
                replace f_md : N9 md = some (.inr (6, [.ref B.ro, .int (nI 2), .ref B.te, .int (nI 0), .int (nI (V.ac)), .int (nI (V.al)), .int (nI (V.sd)), .ref B.he, .ref B.cn, .ref B.kd, .ref B.sz, .ref B.ky, .ref B.le, .ref B.dg, .ref B.nm, .ref B.ns, .ref B.sl, .ref B.sb, .int (nI (V.ss)), .ref B.su, .ref B.wi, .ref B.tu])) := f_md
                replace f_ro : N9 B.ro = some (.inl (ct 1, 72, .inl roF)) := f_ro
                replace f_te : N9 B.te = some (.inl (ct 1, 64, .inl (nf V.te))) := f_te
                replace f_he : N9 B.he = some (.inl (ct 1, 8, .inl (V.he))) := f_he
                replace f_cn : N9 B.cn = some (.inl (ct 1, 12, .inl (nf V.cn))) := f_cn
                replace f_kd : N9 B.kd = some (.inl (ct 1, 288, .inl (nf V.kd))) := f_kd
                replace f_sz : N9 B.sz = some (.inl (ct 1, 288, .inl (nf V.sz))) := f_sz
                replace f_ky : N9 B.ky = some (.inl (ct 1, 288, .inl (nf V.ky))) := f_ky
                replace f_le : N9 B.le = some (.inl (ct 1, 18432, .inl (nf V.le))) := f_le
                replace f_dg : N9 B.dg = some (.inl (ct 1, 2304, .inl (V.dg))) := f_dg
                replace f_nm : N9 B.nm = some (.inl (ct 1, 128, .inl (nf V.nm))) := f_nm
                replace f_ns : N9 B.ns = some (.inl (ct 1, 8, .inl (nf V.ns))) := f_ns
                replace f_sl : N9 B.sl = some (.inl (ct 1, 16, .inl (nf V.sl))) := f_sl
                replace f_sb : N9 B.sb = some (.inl (ct 1, 3000, .inl (nf V.sb))) := f_sb
                replace f_su : N9 B.su = some (.inl (ct 1, 8, .inl (V.su))) := f_su
                replace f_wi : N9 B.wi = some (.inl (ct 1, 64, .inl (V.wi))) := f_wi
                replace f_tu : N9 B.tu = some (.inl (ct 1, 8, .inl (V.tu))) := f_tu
                refine nz_eq (tgt := 105) hx hb d_MD_row_101 (by decide) (by omega) (fun h11 => ?_) (fun h11 => ?_)
                · exact absurd h11 (by decide)
                · exact hp_vret S hret hlk hM hS (Or.inr (Or.inl ⟨⟨j, w, n, hj, rfl, rfl, hw6, hft, hkl, hp2⟩, hw4⟩)) d_MD_row_104
              · subst er
                have hw4 : mdS ct N9 md B (mkS (V.te) (V.cn) (V.kd) (V.sz) (V.ky) (V.le) (V.nm) (V.ns) (V.sl) (V.sb) (V.he) (V.dg) (V.su) (V.wi) (V.tu) 0 0 (V.ac) (V.al) (V.sd) (V.ss)) := h9
                clear f_md f_ro f_te f_he f_cn f_kd f_sz f_ky f_le f_dg f_nm f_ns f_sl f_sb f_su f_wi f_tu
                obtain ⟨f_md, f_ro, f_te, f_he, f_cn, f_kd, f_sz, f_ky, f_le, f_dg, f_nm, f_ns, f_sl, f_sb, f_su, f_wi, f_tu, hB, hV⟩ := id hw4
                replace f_md : N9 md = some (.inr (6, [.ref B.ro, .int (nI 0), .ref B.te, .int (nI 0), .int (nI (V.ac)), .int (nI (V.al)), .int (nI (V.sd)), .ref B.he, .ref B.cn, .ref B.kd, .ref B.sz, .ref B.ky, .ref B.le, .ref B.dg, .ref B.nm, .ref B.ns, .ref B.sl, .ref B.sb, .int (nI (V.ss)), .ref B.su, .ref B.wi, .ref B.tu])) := f_md
                replace f_ro : N9 B.ro = some (.inl (ct 1, 72, .inl roF)) := f_ro
                replace f_te : N9 B.te = some (.inl (ct 1, 64, .inl (nf V.te))) := f_te
                replace f_he : N9 B.he = some (.inl (ct 1, 8, .inl (V.he))) := f_he
                replace f_cn : N9 B.cn = some (.inl (ct 1, 12, .inl (nf V.cn))) := f_cn
                replace f_kd : N9 B.kd = some (.inl (ct 1, 288, .inl (nf V.kd))) := f_kd
                replace f_sz : N9 B.sz = some (.inl (ct 1, 288, .inl (nf V.sz))) := f_sz
                replace f_ky : N9 B.ky = some (.inl (ct 1, 288, .inl (nf V.ky))) := f_ky
                replace f_le : N9 B.le = some (.inl (ct 1, 18432, .inl (nf V.le))) := f_le
                replace f_dg : N9 B.dg = some (.inl (ct 1, 2304, .inl (V.dg))) := f_dg
                replace f_nm : N9 B.nm = some (.inl (ct 1, 128, .inl (nf V.nm))) := f_nm
                replace f_ns : N9 B.ns = some (.inl (ct 1, 8, .inl (nf V.ns))) := f_ns
                replace f_sl : N9 B.sl = some (.inl (ct 1, 16, .inl (nf V.sl))) := f_sl
                replace f_sb : N9 B.sb = some (.inl (ct 1, 3000, .inl (nf V.sb))) := f_sb
                replace f_su : N9 B.su = some (.inl (ct 1, 8, .inl (V.su))) := f_su
                replace f_wi : N9 B.wi = some (.inl (ct 1, 64, .inl (V.wi))) := f_wi
                replace f_tu : N9 B.tu = some (.inl (ct 1, 8, .inl (V.tu))) := f_tu
                refine nz_eq (tgt := 105) hx hb d_MD_row_101 (by decide) (by omega) (fun h12 => ?_) (fun h12 => ?_)
                · refine lv_aload_n hx hb d_MD_row_105 rfl (lv_at hl 4 rfl) ?_
                  refine lv_iload_n hx hb d_MD_row_106 rfl (lv_at hl 5 rfl) ?_
                  refine lv_aload_n hx hb d_MD_row_107 rfl (lv_at hl 4 rfl) ?_
                  refine hp_get S hK hM i_MD f_md rfl 8 (by decide) mf_MD_91 (fun _ h9 => h9) rfl d_MD_row_108 ?_
                  refine lv_iload_n hx hb d_MD_row_111 rfl (lv_at hl 5 rfl) ?_
                  refine hp_iald S hK hM 1 f_cn rfl j rfl (by omega) (by omega) d_MD_row_112 ?_
                  refine hp_calli (go_V S hZ hK hM hS hA hz (c_MD_place l D ct Z hZ _ _ md j (V.cn j)) mc_MD_place mz_MD ml_MD_160 mi_MD_place mx_MD_place hd_MD_place rfl ⟨by decide, by decide⟩ f_md rfl rfl hl.1 rfl (Nat.le_of_ble_eq_true rfl) d_MD_row_113 ⟨by decide, by decide⟩) hM hS hA (fun r9 M9 H locs h9 hM hS => ?_)
                  rw [h9.1] at hM
                  rw [h9.2, hcn]
                  have hlt : (LL.getD j []).length < 24 := Nat.lt_of_not_le (fun q => hp2 (Or.inr q))
                  obtain ⟨rr, err⟩ : ∃ z, z = 24 * j + (LL.getD j []).length := ⟨_, rfl⟩
                  rw [← err]
                  have hrr : rr < 288 := by omega
                  refine lv_istore (lv' := [(7, .int (nI rr)), (6, .int v8), (5, .int (nI n)), (4, .int v2), (3, .int (nI (T.length))), (0, .ref md), (1, .int (nI j)), (2, .int (nI w))]) hx hb d_MD_row_116 hl (by decide) rfl (fun ls hl => ?_)
                  refine lv_aload_n hx hb d_MD_row_118 rfl (lv_at hl 5 rfl) ?_
                  refine hp_get S hK hM i_MD f_md rfl 9 (by decide) mf_MD_94 (fun _ h9 => h9) rfl d_MD_row_119 ?_
                  refine lv_iload hx hb d_MD_row_122 (lv_at hl 0 rfl) ?_
                  refine lv_iload_n hx hb d_MD_row_124 rfl (lv_at hl 7 rfl) ?_
                  refine hp_iast S hK hM hS 1 f_kd rfl rr rfl (by omega) (by omega) d_MD_row_125 (fun H locs hM hS => ?_)
                  rw [nf_up] at hM
                  have f_md := hp_k (e := (.inl (ct 1, 288, .inl (nf (va_up (V.kd) rr w))))) (hp_ne f_md f_kd (by simp)) f_md
                  have f_ro := hp_k (e := (.inl (ct 1, 288, .inl (nf (va_up (V.kd) rr w))))) (hp_ne f_ro f_kd (by simp)) f_ro
                  have f_te := hp_k (e := (.inl (ct 1, 288, .inl (nf (va_up (V.kd) rr w))))) (hp_ne f_te f_kd (by simp)) f_te
                  have f_he := hp_k (e := (.inl (ct 1, 288, .inl (nf (va_up (V.kd) rr w))))) (hp_ne f_he f_kd (by simp)) f_he
                  have f_cn := hp_k (e := (.inl (ct 1, 288, .inl (nf (va_up (V.kd) rr w))))) (hp_ne f_cn f_kd (by simp)) f_cn
                  have f_sz := hp_k (e := (.inl (ct 1, 288, .inl (nf (va_up (V.kd) rr w))))) (Ne.symm n_kdsz) f_sz
                  have f_ky := hp_k (e := (.inl (ct 1, 288, .inl (nf (va_up (V.kd) rr w))))) (Ne.symm n_kdky) f_ky
                  have f_le := hp_k (e := (.inl (ct 1, 288, .inl (nf (va_up (V.kd) rr w))))) (hp_ne f_le f_kd (by simp)) f_le
                  have f_dg := hp_k (e := (.inl (ct 1, 288, .inl (nf (va_up (V.kd) rr w))))) (hp_ne f_dg f_kd (by simp)) f_dg
                  have f_nm := hp_k (e := (.inl (ct 1, 288, .inl (nf (va_up (V.kd) rr w))))) (hp_ne f_nm f_kd (by simp)) f_nm
                  have f_ns := hp_k (e := (.inl (ct 1, 288, .inl (nf (va_up (V.kd) rr w))))) (hp_ne f_ns f_kd (by simp)) f_ns
                  have f_sl := hp_k (e := (.inl (ct 1, 288, .inl (nf (va_up (V.kd) rr w))))) (hp_ne f_sl f_kd (by simp)) f_sl
                  have f_sb := hp_k (e := (.inl (ct 1, 288, .inl (nf (va_up (V.kd) rr w))))) (hp_ne f_sb f_kd (by simp)) f_sb
                  have f_su := hp_k (e := (.inl (ct 1, 288, .inl (nf (va_up (V.kd) rr w))))) (hp_ne f_su f_kd (by simp)) f_su
                  have f_wi := hp_k (e := (.inl (ct 1, 288, .inl (nf (va_up (V.kd) rr w))))) (hp_ne f_wi f_kd (by simp)) f_wi
                  have f_tu := hp_k (e := (.inl (ct 1, 288, .inl (nf (va_up (V.kd) rr w))))) (hp_ne f_tu f_kd (by simp)) f_tu
                  have f_kd : hp_up N9 B.kd (.inl (ct 1, 288, .inl (nf (va_up (V.kd) rr w)))) B.kd = some (.inl (ct 1, 288, .inl (nf (va_up (V.kd) rr w)))) := hp_us
                  obtain ⟨M13, eM13⟩ : ∃ z, z = hp_up N9 B.kd (.inl (ct 1, 288, .inl (nf (va_up (V.kd) rr w)))) := ⟨_, rfl⟩
                  rw [← eM13] at hM f_md f_ro f_te f_he f_cn f_kd f_sz f_ky f_le f_dg f_nm f_ns f_sl f_sb f_su f_wi f_tu
                  refine lv_aload_n hx hb d_MD_row_126 rfl (lv_at hl 5 rfl) ?_
                  refine hp_get S hK hM i_MD f_md rfl 10 (by decide) mf_MD_97 (fun _ h9 => h9) rfl d_MD_row_127 ?_
                  refine lv_iload hx hb d_MD_row_130 (lv_at hl 0 rfl) ?_
                  refine lv_iload_n hx hb d_MD_row_132 rfl (lv_at hl 4 rfl) ?_
                  refine hp_iast S hK hM hS 1 f_sz rfl rr rfl (by omega) (by omega) d_MD_row_133 (fun H locs hM hS => ?_)
                  rw [nf_up] at hM
                  have f_md := hp_k (e := (.inl (ct 1, 288, .inl (nf (va_up (V.sz) rr (T.length)))))) (hp_ne f_md f_sz (by simp)) f_md
                  have f_ro := hp_k (e := (.inl (ct 1, 288, .inl (nf (va_up (V.sz) rr (T.length)))))) (hp_ne f_ro f_sz (by simp)) f_ro
                  have f_te := hp_k (e := (.inl (ct 1, 288, .inl (nf (va_up (V.sz) rr (T.length)))))) (hp_ne f_te f_sz (by simp)) f_te
                  have f_he := hp_k (e := (.inl (ct 1, 288, .inl (nf (va_up (V.sz) rr (T.length)))))) (hp_ne f_he f_sz (by simp)) f_he
                  have f_cn := hp_k (e := (.inl (ct 1, 288, .inl (nf (va_up (V.sz) rr (T.length)))))) (hp_ne f_cn f_sz (by simp)) f_cn
                  have f_kd := hp_k (e := (.inl (ct 1, 288, .inl (nf (va_up (V.sz) rr (T.length)))))) n_kdsz f_kd
                  have f_ky := hp_k (e := (.inl (ct 1, 288, .inl (nf (va_up (V.sz) rr (T.length)))))) (Ne.symm n_szky) f_ky
                  have f_le := hp_k (e := (.inl (ct 1, 288, .inl (nf (va_up (V.sz) rr (T.length)))))) (hp_ne f_le f_sz (by simp)) f_le
                  have f_dg := hp_k (e := (.inl (ct 1, 288, .inl (nf (va_up (V.sz) rr (T.length)))))) (hp_ne f_dg f_sz (by simp)) f_dg
                  have f_nm := hp_k (e := (.inl (ct 1, 288, .inl (nf (va_up (V.sz) rr (T.length)))))) (hp_ne f_nm f_sz (by simp)) f_nm
                  have f_ns := hp_k (e := (.inl (ct 1, 288, .inl (nf (va_up (V.sz) rr (T.length)))))) (hp_ne f_ns f_sz (by simp)) f_ns
                  have f_sl := hp_k (e := (.inl (ct 1, 288, .inl (nf (va_up (V.sz) rr (T.length)))))) (hp_ne f_sl f_sz (by simp)) f_sl
                  have f_sb := hp_k (e := (.inl (ct 1, 288, .inl (nf (va_up (V.sz) rr (T.length)))))) (hp_ne f_sb f_sz (by simp)) f_sb
                  have f_su := hp_k (e := (.inl (ct 1, 288, .inl (nf (va_up (V.sz) rr (T.length)))))) (hp_ne f_su f_sz (by simp)) f_su
                  have f_wi := hp_k (e := (.inl (ct 1, 288, .inl (nf (va_up (V.sz) rr (T.length)))))) (hp_ne f_wi f_sz (by simp)) f_wi
                  have f_tu := hp_k (e := (.inl (ct 1, 288, .inl (nf (va_up (V.sz) rr (T.length)))))) (hp_ne f_tu f_sz (by simp)) f_tu
                  have f_sz : hp_up M13 B.sz (.inl (ct 1, 288, .inl (nf (va_up (V.sz) rr (T.length))))) B.sz = some (.inl (ct 1, 288, .inl (nf (va_up (V.sz) rr (T.length))))) := hp_us
                  obtain ⟨M14, eM14⟩ : ∃ z, z = hp_up M13 B.sz (.inl (ct 1, 288, .inl (nf (va_up (V.sz) rr (T.length))))) := ⟨_, rfl⟩
                  rw [← eM14] at hM f_md f_ro f_te f_he f_cn f_kd f_sz f_ky f_le f_dg f_nm f_ns f_sl f_sb f_su f_wi f_tu
                  refine lv_aload_n hx hb d_MD_row_134 rfl (lv_at hl 5 rfl) ?_
                  refine hp_get S hK hM i_MD f_md rfl 11 (by decide) mf_MD_100 (fun _ h9 => h9) rfl d_MD_row_135 ?_
                  refine lv_iload hx hb d_MD_row_138 (lv_at hl 0 rfl) ?_
                  refine lv_iload hx hb d_MD_row_140 (lv_at hl 2 rfl) ?_
                  refine hp_iast S hK hM hS 1 f_ky rfl rr rfl (by omega) (by omega) d_MD_row_142 (fun H locs hM hS => ?_)
                  rw [nf_up] at hM
                  have f_md := hp_k (e := (.inl (ct 1, 288, .inl (nf (va_up (V.ky) rr n))))) (hp_ne f_md f_ky (by simp)) f_md
                  have f_ro := hp_k (e := (.inl (ct 1, 288, .inl (nf (va_up (V.ky) rr n))))) (hp_ne f_ro f_ky (by simp)) f_ro
                  have f_te := hp_k (e := (.inl (ct 1, 288, .inl (nf (va_up (V.ky) rr n))))) (hp_ne f_te f_ky (by simp)) f_te
                  have f_he := hp_k (e := (.inl (ct 1, 288, .inl (nf (va_up (V.ky) rr n))))) (hp_ne f_he f_ky (by simp)) f_he
                  have f_cn := hp_k (e := (.inl (ct 1, 288, .inl (nf (va_up (V.ky) rr n))))) (hp_ne f_cn f_ky (by simp)) f_cn
                  have f_kd := hp_k (e := (.inl (ct 1, 288, .inl (nf (va_up (V.ky) rr n))))) n_kdky f_kd
                  have f_sz := hp_k (e := (.inl (ct 1, 288, .inl (nf (va_up (V.ky) rr n))))) n_szky f_sz
                  have f_le := hp_k (e := (.inl (ct 1, 288, .inl (nf (va_up (V.ky) rr n))))) (hp_ne f_le f_ky (by simp)) f_le
                  have f_dg := hp_k (e := (.inl (ct 1, 288, .inl (nf (va_up (V.ky) rr n))))) (hp_ne f_dg f_ky (by simp)) f_dg
                  have f_nm := hp_k (e := (.inl (ct 1, 288, .inl (nf (va_up (V.ky) rr n))))) (hp_ne f_nm f_ky (by simp)) f_nm
                  have f_ns := hp_k (e := (.inl (ct 1, 288, .inl (nf (va_up (V.ky) rr n))))) (hp_ne f_ns f_ky (by simp)) f_ns
                  have f_sl := hp_k (e := (.inl (ct 1, 288, .inl (nf (va_up (V.ky) rr n))))) (hp_ne f_sl f_ky (by simp)) f_sl
                  have f_sb := hp_k (e := (.inl (ct 1, 288, .inl (nf (va_up (V.ky) rr n))))) (hp_ne f_sb f_ky (by simp)) f_sb
                  have f_su := hp_k (e := (.inl (ct 1, 288, .inl (nf (va_up (V.ky) rr n))))) (hp_ne f_su f_ky (by simp)) f_su
                  have f_wi := hp_k (e := (.inl (ct 1, 288, .inl (nf (va_up (V.ky) rr n))))) (hp_ne f_wi f_ky (by simp)) f_wi
                  have f_tu := hp_k (e := (.inl (ct 1, 288, .inl (nf (va_up (V.ky) rr n))))) (hp_ne f_tu f_ky (by simp)) f_tu
                  have f_ky : hp_up M14 B.ky (.inl (ct 1, 288, .inl (nf (va_up (V.ky) rr n)))) B.ky = some (.inl (ct 1, 288, .inl (nf (va_up (V.ky) rr n)))) := hp_us
                  obtain ⟨M15, eM15⟩ : ∃ z, z = hp_up M14 B.ky (.inl (ct 1, 288, .inl (nf (va_up (V.ky) rr n)))) := ⟨_, rfl⟩
                  rw [← eM15] at hM f_md f_ro f_te f_he f_cn f_kd f_sz f_ky f_le f_dg f_nm f_ns f_sl f_sb f_su f_wi f_tu
                  refine lv_iconst (v := nI 0) hx hb d_MD_row_143 rfl ?_
                  refine lv_istore (lv' := [(8, .int (nI 0)), (7, .int (nI rr)), (6, .int v8), (5, .int (nI n)), (4, .int v2), (3, .int (nI (T.length))), (0, .ref md), (1, .int (nI j)), (2, .int (nI w))]) hx hb d_MD_row_144 hl (by decide) rfl (fun ls hl => ?_)
                  replace hl : lv_has ls 9 [(0, .ref md), (1, .int (nI j)), (2, .int (nI w)), (3, .int (nI (T.length))), (7, .int (nI rr)), (8, .int (nI 0))] := lv_sub hl [6, 7, 8, 5, 1, 0] rfl
                  obtain ⟨i, e9i⟩ : ∃ z : Nat, z = 0 := ⟨_, rfl⟩
                  obtain ⟨le, e9le⟩ : ∃ z : Nat → Nat, z = V.le := ⟨_, rfl⟩
                  replace hl : lv_has ls 9 [(0, .ref md), (1, .int (nI j)), (2, .int (nI w)), (3, .int (nI (T.length))), (7, .int (nI rr)), (8, .int (nI i))] := by subst e9i e9le; exact hl
                  obtain ⟨N16, e9N16⟩ : ∃ z : hp_M, z = M15 := ⟨_, rfl⟩
                  replace hM : hp_H D ccl (hp_A M sz) N16 H := by rw [e9N16]; exact hM
                  replace f_md : N16 md = some (.inr (6, [.ref B.ro, .int (nI 0), .ref B.te, .int (nI 0), .int (nI (V.ac)), .int (nI (V.al)), .int (nI (V.sd)), .ref B.he, .ref B.cn, .ref B.kd, .ref B.sz, .ref B.ky, .ref B.le, .ref B.dg, .ref B.nm, .ref B.ns, .ref B.sl, .ref B.sb, .int (nI (V.ss)), .ref B.su, .ref B.wi, .ref B.tu])) := by rw [e9N16]; exact f_md
                  replace f_ro : N16 B.ro = some (.inl (ct 1, 72, .inl roF)) := by rw [e9N16]; exact f_ro
                  replace f_te : N16 B.te = some (.inl (ct 1, 64, .inl (nf V.te))) := by rw [e9N16]; exact f_te
                  replace f_he : N16 B.he = some (.inl (ct 1, 8, .inl (V.he))) := by rw [e9N16]; exact f_he
                  replace f_cn : N16 B.cn = some (.inl (ct 1, 12, .inl (nf V.cn))) := by rw [e9N16]; exact f_cn
                  replace f_kd : N16 B.kd = some (.inl (ct 1, 288, .inl (nf (va_up (V.kd) rr w)))) := by rw [e9N16]; exact f_kd
                  replace f_sz : N16 B.sz = some (.inl (ct 1, 288, .inl (nf (va_up (V.sz) rr (T.length))))) := by rw [e9N16]; exact f_sz
                  replace f_ky : N16 B.ky = some (.inl (ct 1, 288, .inl (nf (va_up (V.ky) rr n)))) := by rw [e9N16]; exact f_ky
                  replace f_le : N16 B.le = some (.inl (ct 1, 18432, .inl (nf V.le))) := by rw [e9N16]; exact f_le
                  replace f_dg : N16 B.dg = some (.inl (ct 1, 2304, .inl (V.dg))) := by rw [e9N16]; exact f_dg
                  replace f_nm : N16 B.nm = some (.inl (ct 1, 128, .inl (nf V.nm))) := by rw [e9N16]; exact f_nm
                  replace f_ns : N16 B.ns = some (.inl (ct 1, 8, .inl (nf V.ns))) := by rw [e9N16]; exact f_ns
                  replace f_sl : N16 B.sl = some (.inl (ct 1, 16, .inl (nf V.sl))) := by rw [e9N16]; exact f_sl
                  replace f_sb : N16 B.sb = some (.inl (ct 1, 3000, .inl (nf V.sb))) := by rw [e9N16]; exact f_sb
                  replace f_su : N16 B.su = some (.inl (ct 1, 8, .inl (V.su))) := by rw [e9N16]; exact f_su
                  replace f_wi : N16 B.wi = some (.inl (ct 1, 64, .inl (V.wi))) := by rw [e9N16]; exact f_wi
                  replace f_tu : N16 B.tu = some (.inl (ct 1, 8, .inl (V.tu))) := by rw [e9N16]; exact f_tu
                  replace f_le : N16 B.le = some (.inl (ct 1, 18432, .inl (nf le))) := by subst e9i e9le; exact f_le
                  have hle : ∀ q, q < i → le (64 * rr + q) = T.getD q 0 := by subst e9i e9le; intro q hq; omega
                  have hle2 : ∀ q, (q < 64 * rr ∨ 64 * rr + 64 ≤ q) → le q = V.le q := by subst e9i e9le; intro q hq; rfl
                  have hleb : ∀ i, le i < 65536 := by subst e9i e9le; exact b_le
                  obtain ⟨fu1, hn1⟩ : ∃ fu : Nat, i + fu = T.length := ⟨T.length - i, by omega⟩
                  clear e9i e9le e9N16
                  induction fu1 generalizing i le H locs N16 ls with
                  | zero =>
                    refine lv_iload hx hb d_MD_row_146 (lv_at hl 5 rfl) ?_
                    refine lv_iload_n hx hb d_MD_row_148 rfl (lv_at hl 3 rfl) ?_
                    refine nb_ge (tgt := 178) hx hb d_MD_row_149 (by decide) (by omega) (by omega) (fun h17 => ?_) (fun h17 => ?_)
                    · refine lv_iconst (v := nI 0) hx hb d_MD_row_178 rfl ?_
                      refine lv_istore (lv' := [(8, .int (nI 0)), (0, .ref md), (1, .int (nI j)), (2, .int (nI w)), (3, .int (nI (T.length))), (7, .int (nI rr))]) hx hb d_MD_row_179 hl (by decide) rfl (fun ls hl => ?_)
                      have hi9 : i = T.length := by omega
                      replace hl : lv_has ls 9 [(0, .ref md), (1, .int (nI j)), (2, .int (nI w)), (3, .int (nI (T.length))), (7, .int (nI rr)), (8, .int (nI 0))] := lv_sub hl [1, 2, 3, 4, 5, 0] rfl
                      obtain ⟨i8, e9i8⟩ : ∃ z : Nat, z = 0 := ⟨_, rfl⟩
                      obtain ⟨dg, e9dg⟩ : ∃ z : Nat → Int32, z = V.dg := ⟨_, rfl⟩
                      replace hl : lv_has ls 9 [(0, .ref md), (1, .int (nI j)), (2, .int (nI w)), (3, .int (nI (T.length))), (7, .int (nI rr)), (8, .int (nI i8))] := by subst e9i8 e9dg; exact hl
                      obtain ⟨N18, e9N18⟩ : ∃ z : hp_M, z = N16 := ⟨_, rfl⟩
                      replace hM : hp_H D ccl (hp_A M sz) N18 H := by rw [e9N18]; exact hM
                      replace f_md : N18 md = some (.inr (6, [.ref B.ro, .int (nI 0), .ref B.te, .int (nI 0), .int (nI (V.ac)), .int (nI (V.al)), .int (nI (V.sd)), .ref B.he, .ref B.cn, .ref B.kd, .ref B.sz, .ref B.ky, .ref B.le, .ref B.dg, .ref B.nm, .ref B.ns, .ref B.sl, .ref B.sb, .int (nI (V.ss)), .ref B.su, .ref B.wi, .ref B.tu])) := by rw [e9N18]; exact f_md
                      replace f_ro : N18 B.ro = some (.inl (ct 1, 72, .inl roF)) := by rw [e9N18]; exact f_ro
                      replace f_te : N18 B.te = some (.inl (ct 1, 64, .inl (nf V.te))) := by rw [e9N18]; exact f_te
                      replace f_he : N18 B.he = some (.inl (ct 1, 8, .inl (V.he))) := by rw [e9N18]; exact f_he
                      replace f_cn : N18 B.cn = some (.inl (ct 1, 12, .inl (nf V.cn))) := by rw [e9N18]; exact f_cn
                      replace f_kd : N18 B.kd = some (.inl (ct 1, 288, .inl (nf (va_up (V.kd) rr w)))) := by rw [e9N18]; exact f_kd
                      replace f_sz : N18 B.sz = some (.inl (ct 1, 288, .inl (nf (va_up (V.sz) rr (T.length))))) := by rw [e9N18]; exact f_sz
                      replace f_ky : N18 B.ky = some (.inl (ct 1, 288, .inl (nf (va_up (V.ky) rr n)))) := by rw [e9N18]; exact f_ky
                      replace f_le : N18 B.le = some (.inl (ct 1, 18432, .inl (nf le))) := by rw [e9N18]; exact f_le
                      replace f_dg : N18 B.dg = some (.inl (ct 1, 2304, .inl (V.dg))) := by rw [e9N18]; exact f_dg
                      replace f_nm : N18 B.nm = some (.inl (ct 1, 128, .inl (nf V.nm))) := by rw [e9N18]; exact f_nm
                      replace f_ns : N18 B.ns = some (.inl (ct 1, 8, .inl (nf V.ns))) := by rw [e9N18]; exact f_ns
                      replace f_sl : N18 B.sl = some (.inl (ct 1, 16, .inl (nf V.sl))) := by rw [e9N18]; exact f_sl
                      replace f_sb : N18 B.sb = some (.inl (ct 1, 3000, .inl (nf V.sb))) := by rw [e9N18]; exact f_sb
                      replace f_su : N18 B.su = some (.inl (ct 1, 8, .inl (V.su))) := by rw [e9N18]; exact f_su
                      replace f_wi : N18 B.wi = some (.inl (ct 1, 64, .inl (V.wi))) := by rw [e9N18]; exact f_wi
                      replace f_tu : N18 B.tu = some (.inl (ct 1, 8, .inl (V.tu))) := by rw [e9N18]; exact f_tu
                      replace f_dg : N18 B.dg = some (.inl (ct 1, 2304, .inl dg)) := by subst e9i8 e9dg; exact f_dg
                      have hdg : ∀ q, q < i8 → dg (8 * rr + q) = V.he q := by subst e9i8 e9dg; intro q hq; omega
                      have hdg2 : ∀ q, (q < 8 * rr ∨ 8 * rr + 8 ≤ q) → dg q = V.dg q := by subst e9i8 e9dg; intro q hq; rfl
                      obtain ⟨fu2, hn2⟩ : ∃ fu : Nat, i8 + fu = 8 := ⟨8 - i8, by omega⟩
                      clear e9i8 e9dg e9N18
                      induction fu2 generalizing i8 dg H locs N18 ls with
                      | zero =>
                        refine lv_iload hx hb d_MD_row_181 (lv_at hl 5 rfl) ?_
                        refine lv_bipush (v := nI 8) hx hb d_MD_row_183 rfl ?_
                        refine nb_ge (tgt := 214) hx hb d_MD_row_185 (by decide) (by omega) (by omega) (fun h19 => ?_) (fun h19 => ?_)
                        · refine lv_aload_n hx hb d_MD_row_214 rfl (lv_at hl 0 rfl) ?_
                          refine hp_get S hK hM i_MD f_md rfl 8 (by decide) mf_MD_91 (fun _ h9 => h9) rfl d_MD_row_215 ?_
                          refine lv_iload_n hx hb d_MD_row_218 rfl (lv_at hl 1 rfl) ?_
                          refine lv_dup2_11 hx hb d_MD_row_219 rfl rfl ?_
                          refine hp_iald S hK hM 1 f_cn rfl j rfl (by omega) (by omega) d_MD_row_220 ?_
                          refine lv_iconst (v := nI 1) hx hb d_MD_row_221 rfl ?_
                          refine nb_iadd hx hb d_MD_row_222 ?_
                          refine hp_iast S hK hM hS 1 f_cn rfl j rfl (by omega) (by omega) d_MD_row_223 (fun H locs hM hS => ?_)
                          rw [nf_up] at hM
                          have f_md := hp_k (e := (.inl (ct 1, 12, .inl (nf (va_up (V.cn) j ((V.cn j) + 1)))))) (hp_ne f_md f_cn (by simp)) f_md
                          have f_ro := hp_k (e := (.inl (ct 1, 12, .inl (nf (va_up (V.cn) j ((V.cn j) + 1)))))) (hp_ne f_ro f_cn (by simp)) f_ro
                          have f_te := hp_k (e := (.inl (ct 1, 12, .inl (nf (va_up (V.cn) j ((V.cn j) + 1)))))) (hp_ne f_te f_cn (by simp)) f_te
                          have f_he := hp_k (e := (.inl (ct 1, 12, .inl (nf (va_up (V.cn) j ((V.cn j) + 1)))))) (hp_ne f_he f_cn (by simp)) f_he
                          have f_kd := hp_k (e := (.inl (ct 1, 12, .inl (nf (va_up (V.cn) j ((V.cn j) + 1)))))) (hp_ne f_kd f_cn (by simp)) f_kd
                          have f_sz := hp_k (e := (.inl (ct 1, 12, .inl (nf (va_up (V.cn) j ((V.cn j) + 1)))))) (hp_ne f_sz f_cn (by simp)) f_sz
                          have f_ky := hp_k (e := (.inl (ct 1, 12, .inl (nf (va_up (V.cn) j ((V.cn j) + 1)))))) (hp_ne f_ky f_cn (by simp)) f_ky
                          have f_le := hp_k (e := (.inl (ct 1, 12, .inl (nf (va_up (V.cn) j ((V.cn j) + 1)))))) (hp_ne f_le f_cn (by simp)) f_le
                          have f_dg := hp_k (e := (.inl (ct 1, 12, .inl (nf (va_up (V.cn) j ((V.cn j) + 1)))))) (hp_ne f_dg f_cn (by simp)) f_dg
                          have f_nm := hp_k (e := (.inl (ct 1, 12, .inl (nf (va_up (V.cn) j ((V.cn j) + 1)))))) (hp_ne f_nm f_cn (by simp)) f_nm
                          have f_ns := hp_k (e := (.inl (ct 1, 12, .inl (nf (va_up (V.cn) j ((V.cn j) + 1)))))) (hp_ne f_ns f_cn (by simp)) f_ns
                          have f_sl := hp_k (e := (.inl (ct 1, 12, .inl (nf (va_up (V.cn) j ((V.cn j) + 1)))))) (hp_ne f_sl f_cn (by simp)) f_sl
                          have f_sb := hp_k (e := (.inl (ct 1, 12, .inl (nf (va_up (V.cn) j ((V.cn j) + 1)))))) (hp_ne f_sb f_cn (by simp)) f_sb
                          have f_su := hp_k (e := (.inl (ct 1, 12, .inl (nf (va_up (V.cn) j ((V.cn j) + 1)))))) (hp_ne f_su f_cn (by simp)) f_su
                          have f_wi := hp_k (e := (.inl (ct 1, 12, .inl (nf (va_up (V.cn) j ((V.cn j) + 1)))))) (hp_ne f_wi f_cn (by simp)) f_wi
                          have f_tu := hp_k (e := (.inl (ct 1, 12, .inl (nf (va_up (V.cn) j ((V.cn j) + 1)))))) (hp_ne f_tu f_cn (by simp)) f_tu
                          have f_cn : hp_up N18 B.cn (.inl (ct 1, 12, .inl (nf (va_up (V.cn) j ((V.cn j) + 1))))) B.cn = some (.inl (ct 1, 12, .inl (nf (va_up (V.cn) j ((V.cn j) + 1))))) := hp_us
                          obtain ⟨M20, eM20⟩ : ∃ z, z = hp_up N18 B.cn (.inl (ct 1, 12, .inl (nf (va_up (V.cn) j ((V.cn j) + 1))))) := ⟨_, rfl⟩
                          rw [← eM20] at hM f_md f_ro f_te f_he f_cn f_kd f_sz f_ky f_le f_dg f_nm f_ns f_sl f_sb f_su f_wi f_tu
                          have hlen : ((LL.getD j []) ++ [((w, n, T, V.he) : MR)]).length = (LL.getD j []).length + 1 := by rw [List.length_append]; rfl
                          have hLw : mdL (mkS (V.te) (va_up V.cn j (V.cn j + 1)) (va_up V.kd rr w) (va_up V.sz rr T.length) (va_up V.ky rr n) le (V.nm) (V.ns) (V.sl) (V.sb) (V.he) dg (V.su) (V.wi) (V.tu) 0 0 (V.ac) (V.al) (V.sd) (V.ss)) (LL.set j ((LL.getD j []) ++ [((w, n, T, V.he) : MR)])) := by
                            refine mdL_put hLL (k0 := (LL.getD j []).length) hj rfl (by show va_up V.cn j (V.cn j + 1) j = _; rw [up_s, hlen, hcn]) (fun a ha => up_n ha) (by rw [hlen]; exact hlt) (by rw [hlen]; exact Nat.lt_succ_self _) (fun q hq hq2 => ?_) ?_ (fun r hr => ?_)
                            · rw [hlen] at hq; exact ⟨by omega, by rw [getD_app (by omega), if_neg hq2]⟩
                            · rw [getD_app (Nat.le_refl _), if_pos rfl, ← err]
                              obtain ⟨k1, hk16, ek1, h40⟩ := hft.nat
                              have ek1 := (nI_eq (by omega) (by omega)).mp ek1
                              subst ek1
                              exact ⟨up_s, up_s, up_s, fun q hq => hle q (by have hq : q < T.length := hq; omega), fun q hq => hdg q (by omega), hnT, hT64, hcT, by show w ≤ 7; omega, h40⟩
                            · rw [← err] at hr
                              exact ⟨up_n hr, up_n hr, up_n hr, fun q hq => hle2 _ (by omega), fun q hq => hdg2 _ (by omega)⟩
                          exact hp_vret S hret hlk hM hS (Or.inr (Or.inr ⟨j, w, n, hj, rfl, rfl, hw6, hft, hkl, Classical.or_iff_not_imp_left.mpr (fun q1 q2 => hp2 (Or.inl ⟨q1, q2⟩)), hlt, va_up V.cn j (V.cn j + 1), va_up V.kd rr w, va_up V.sz rr T.length, va_up V.ky rr n, le, dg, ⟨f_md, f_ro, f_te, f_he, f_cn, f_kd, f_sz, f_ky, f_le, f_dg, f_nm, f_ns, f_sl, f_sb, f_su, f_wi, f_tu, hB, b_te, up_le b_cn (by omega), up_le b_kd (by omega), up_le b_sz hT64, up_le b_ky (by omega), hleb, b_nm, b_ns, b_sl, b_sb, Nat.zero_le _, Nat.zero_le _, b_ac, b_al, b_sd, b_ss⟩, hLw⟩)) d_MD_row_224
                        · exact absurd hn2 (by omega)
                      | succ fu2 ih2 =>
                        refine lv_iload hx hb d_MD_row_181 (lv_at hl 5 rfl) ?_
                        refine lv_bipush (v := nI 8) hx hb d_MD_row_183 rfl ?_
                        refine nb_ge (tgt := 214) hx hb d_MD_row_185 (by decide) (by omega) (by omega) (fun h21 => ?_) (fun h21 => ?_)
                        · exact absurd hn2 (by omega)
                        · refine lv_aload_n hx hb d_MD_row_188 rfl (lv_at hl 0 rfl) ?_
                          refine hp_get S hK hM i_MD f_md rfl 13 (by decide) mf_MD_106 (fun _ h9 => h9) rfl d_MD_row_189 ?_
                          refine lv_bipush (v := nI 8) hx hb d_MD_row_192 rfl ?_
                          refine lv_iload hx hb d_MD_row_194 (lv_at hl 4 rfl) ?_
                          refine nb_imul hx hb d_MD_row_196 ?_
                          refine lv_iload hx hb d_MD_row_197 (lv_at hl 5 rfl) ?_
                          refine nb_iadd hx hb d_MD_row_199 ?_
                          refine lv_aload_n hx hb d_MD_row_200 rfl (lv_at hl 0 rfl) ?_
                          refine hp_get S hK hM i_MD f_md rfl 7 (by decide) mf_MD_88 (fun _ h9 => h9) rfl d_MD_row_201 ?_
                          refine lv_iload hx hb d_MD_row_204 (lv_at hl 5 rfl) ?_
                          refine hp_iald S hK hM 1 f_he rfl i8 rfl (by omega) (by omega) d_MD_row_206 ?_
                          refine hp_iast S hK hM hS 1 f_dg rfl ((8 * rr) + i8) rfl (by omega) (by omega) d_MD_row_207 (fun H locs hM hS => ?_)
                          have f_md := hp_k (e := (.inl (ct 1, 2304, .inl (upd dg ((8 * rr) + i8) ((V.he) i8))))) (hp_ne f_md f_dg (by simp)) f_md
                          have f_ro := hp_k (e := (.inl (ct 1, 2304, .inl (upd dg ((8 * rr) + i8) ((V.he) i8))))) (hp_ne f_ro f_dg (by simp)) f_ro
                          have f_te := hp_k (e := (.inl (ct 1, 2304, .inl (upd dg ((8 * rr) + i8) ((V.he) i8))))) (hp_ne f_te f_dg (by simp)) f_te
                          have f_he := hp_k (e := (.inl (ct 1, 2304, .inl (upd dg ((8 * rr) + i8) ((V.he) i8))))) (hp_ne f_he f_dg (by simp)) f_he
                          have f_cn := hp_k (e := (.inl (ct 1, 2304, .inl (upd dg ((8 * rr) + i8) ((V.he) i8))))) (hp_ne f_cn f_dg (by simp)) f_cn
                          have f_kd := hp_k (e := (.inl (ct 1, 2304, .inl (upd dg ((8 * rr) + i8) ((V.he) i8))))) (hp_ne f_kd f_dg (by simp)) f_kd
                          have f_sz := hp_k (e := (.inl (ct 1, 2304, .inl (upd dg ((8 * rr) + i8) ((V.he) i8))))) (hp_ne f_sz f_dg (by simp)) f_sz
                          have f_ky := hp_k (e := (.inl (ct 1, 2304, .inl (upd dg ((8 * rr) + i8) ((V.he) i8))))) (hp_ne f_ky f_dg (by simp)) f_ky
                          have f_le := hp_k (e := (.inl (ct 1, 2304, .inl (upd dg ((8 * rr) + i8) ((V.he) i8))))) (hp_ne f_le f_dg (by simp)) f_le
                          have f_nm := hp_k (e := (.inl (ct 1, 2304, .inl (upd dg ((8 * rr) + i8) ((V.he) i8))))) (hp_ne f_nm f_dg (by simp)) f_nm
                          have f_ns := hp_k (e := (.inl (ct 1, 2304, .inl (upd dg ((8 * rr) + i8) ((V.he) i8))))) (hp_ne f_ns f_dg (by simp)) f_ns
                          have f_sl := hp_k (e := (.inl (ct 1, 2304, .inl (upd dg ((8 * rr) + i8) ((V.he) i8))))) (hp_ne f_sl f_dg (by simp)) f_sl
                          have f_sb := hp_k (e := (.inl (ct 1, 2304, .inl (upd dg ((8 * rr) + i8) ((V.he) i8))))) (hp_ne f_sb f_dg (by simp)) f_sb
                          have f_su := hp_k (e := (.inl (ct 1, 2304, .inl (upd dg ((8 * rr) + i8) ((V.he) i8))))) (hp_ne f_su f_dg (by simp)) f_su
                          have f_wi := hp_k (e := (.inl (ct 1, 2304, .inl (upd dg ((8 * rr) + i8) ((V.he) i8))))) (hp_ne f_wi f_dg (by simp)) f_wi
                          have f_tu := hp_k (e := (.inl (ct 1, 2304, .inl (upd dg ((8 * rr) + i8) ((V.he) i8))))) (hp_ne f_tu f_dg (by simp)) f_tu
                          have f_dg : hp_up N18 B.dg (.inl (ct 1, 2304, .inl (upd dg ((8 * rr) + i8) ((V.he) i8)))) B.dg = some (.inl (ct 1, 2304, .inl (upd dg ((8 * rr) + i8) ((V.he) i8)))) := hp_us
                          obtain ⟨M22, eM22⟩ : ∃ z, z = hp_up N18 B.dg (.inl (ct 1, 2304, .inl (upd dg ((8 * rr) + i8) ((V.he) i8)))) := ⟨_, rfl⟩
                          rw [← eM22] at hM f_md f_ro f_te f_he f_cn f_kd f_sz f_ky f_le f_dg f_nm f_ns f_sl f_sb f_su f_wi f_tu
                          refine lv_iinc (v := nI (i8 + 1)) (lv' := [(8, .int (nI (i8 + 1))), (0, .ref md), (1, .int (nI j)), (2, .int (nI w)), (3, .int (nI (T.length))), (7, .int (nI rr))]) hx hb d_MD_row_208 hl (k := 5) rfl (nI_add i8 1) (by decide) rfl (fun ls hl => ?_)
                          refine lv_goto (tgt := 181) hx hb d_MD_row_211 (by decide) ?_
                          exact ih2 (ls := ls) (hl := lv_sub hl [1, 2, 3, 4, 5, 0] rfl) (hn2 := by omega) (i8 := i8 + 1) (dg := upd dg ((8 * rr) + i8) ((V.he) i8)) (hdg := lt_s (fun q hq => by rw [pk_un (by omega)]; exact hdg q hq) (by rw [pk_us])) (hdg2 := fun q hq => by rw [pk_un (by omega)]; exact hdg2 q hq) (H := H) (locs := locs) (hM := hM) (hS := hS) (N18 := M22) (f_md := f_md) (f_ro := f_ro) (f_te := f_te) (f_he := f_he) (f_cn := f_cn) (f_kd := f_kd) (f_sz := f_sz) (f_ky := f_ky) (f_le := f_le) (f_dg := f_dg) (f_nm := f_nm) (f_ns := f_ns) (f_sl := f_sl) (f_sb := f_sb) (f_su := f_su) (f_wi := f_wi) (f_tu := f_tu)
                    · exact absurd hn1 (by omega)
                  | succ fu1 ih1 =>
                    refine lv_iload hx hb d_MD_row_146 (lv_at hl 5 rfl) ?_
                    refine lv_iload_n hx hb d_MD_row_148 rfl (lv_at hl 3 rfl) ?_
                    refine nb_ge (tgt := 178) hx hb d_MD_row_149 (by decide) (by omega) (by omega) (fun h23 => ?_) (fun h23 => ?_)
                    · exact absurd hn1 (by omega)
                    · refine lv_aload_n hx hb d_MD_row_152 rfl (lv_at hl 0 rfl) ?_
                      refine hp_get S hK hM i_MD f_md rfl 12 (by decide) mf_MD_103 (fun _ h9 => h9) rfl d_MD_row_153 ?_
                      refine lv_bipush (v := nI 64) hx hb d_MD_row_156 rfl ?_
                      refine lv_iload hx hb d_MD_row_158 (lv_at hl 4 rfl) ?_
                      refine nb_imul hx hb d_MD_row_160 ?_
                      refine lv_iload hx hb d_MD_row_161 (lv_at hl 5 rfl) ?_
                      refine nb_iadd hx hb d_MD_row_163 ?_
                      refine lv_aload_n hx hb d_MD_row_164 rfl (lv_at hl 0 rfl) ?_
                      refine hp_get S hK hM i_MD f_md rfl 2 (by decide) mf_MD_85 (fun _ h9 => h9) rfl d_MD_row_165 ?_
                      refine lv_iload hx hb d_MD_row_168 (lv_at hl 5 rfl) ?_
                      refine hp_iald S hK hM 1 f_te rfl i rfl (by omega) (by omega) d_MD_row_170 ?_
                      refine hp_iast S hK hM hS 1 f_le rfl ((64 * rr) + i) rfl (by omega) (by omega) d_MD_row_171 (fun H locs hM hS => ?_)
                      first | rw [nf_up] at hM | rw [show upd (nf le) ((64 * rr) + i) (nf V.te i) = nf (va_up le ((64 * rr) + i) (V.te i)) from nf_up] at hM
                      have f_md := hp_k (e := (.inl (ct 1, 18432, .inl (nf (va_up le ((64 * rr) + i) (V.te i)))))) (hp_ne f_md f_le (by simp)) f_md
                      have f_ro := hp_k (e := (.inl (ct 1, 18432, .inl (nf (va_up le ((64 * rr) + i) (V.te i)))))) (hp_ne f_ro f_le (by simp)) f_ro
                      have f_te := hp_k (e := (.inl (ct 1, 18432, .inl (nf (va_up le ((64 * rr) + i) (V.te i)))))) (hp_ne f_te f_le (by simp)) f_te
                      have f_he := hp_k (e := (.inl (ct 1, 18432, .inl (nf (va_up le ((64 * rr) + i) (V.te i)))))) (hp_ne f_he f_le (by simp)) f_he
                      have f_cn := hp_k (e := (.inl (ct 1, 18432, .inl (nf (va_up le ((64 * rr) + i) (V.te i)))))) (hp_ne f_cn f_le (by simp)) f_cn
                      have f_kd := hp_k (e := (.inl (ct 1, 18432, .inl (nf (va_up le ((64 * rr) + i) (V.te i)))))) (hp_ne f_kd f_le (by simp)) f_kd
                      have f_sz := hp_k (e := (.inl (ct 1, 18432, .inl (nf (va_up le ((64 * rr) + i) (V.te i)))))) (hp_ne f_sz f_le (by simp)) f_sz
                      have f_ky := hp_k (e := (.inl (ct 1, 18432, .inl (nf (va_up le ((64 * rr) + i) (V.te i)))))) (hp_ne f_ky f_le (by simp)) f_ky
                      have f_dg := hp_k (e := (.inl (ct 1, 18432, .inl (nf (va_up le ((64 * rr) + i) (V.te i)))))) (hp_ne f_dg f_le (by simp)) f_dg
                      have f_nm := hp_k (e := (.inl (ct 1, 18432, .inl (nf (va_up le ((64 * rr) + i) (V.te i)))))) (hp_ne f_nm f_le (by simp)) f_nm
                      have f_ns := hp_k (e := (.inl (ct 1, 18432, .inl (nf (va_up le ((64 * rr) + i) (V.te i)))))) (hp_ne f_ns f_le (by simp)) f_ns
                      have f_sl := hp_k (e := (.inl (ct 1, 18432, .inl (nf (va_up le ((64 * rr) + i) (V.te i)))))) (hp_ne f_sl f_le (by simp)) f_sl
                      have f_sb := hp_k (e := (.inl (ct 1, 18432, .inl (nf (va_up le ((64 * rr) + i) (V.te i)))))) (hp_ne f_sb f_le (by simp)) f_sb
                      have f_su := hp_k (e := (.inl (ct 1, 18432, .inl (nf (va_up le ((64 * rr) + i) (V.te i)))))) (hp_ne f_su f_le (by simp)) f_su
                      have f_wi := hp_k (e := (.inl (ct 1, 18432, .inl (nf (va_up le ((64 * rr) + i) (V.te i)))))) (hp_ne f_wi f_le (by simp)) f_wi
                      have f_tu := hp_k (e := (.inl (ct 1, 18432, .inl (nf (va_up le ((64 * rr) + i) (V.te i)))))) (hp_ne f_tu f_le (by simp)) f_tu
                      have f_le : hp_up N16 B.le (.inl (ct 1, 18432, .inl (nf (va_up le ((64 * rr) + i) (V.te i))))) B.le = some (.inl (ct 1, 18432, .inl (nf (va_up le ((64 * rr) + i) (V.te i))))) := hp_us
                      obtain ⟨M24, eM24⟩ : ∃ z, z = hp_up N16 B.le (.inl (ct 1, 18432, .inl (nf (va_up le ((64 * rr) + i) (V.te i))))) := ⟨_, rfl⟩
                      rw [← eM24] at hM f_md f_ro f_te f_he f_cn f_kd f_sz f_ky f_le f_dg f_nm f_ns f_sl f_sb f_su f_wi f_tu
                      refine lv_iinc (v := nI (i + 1)) (lv' := [(8, .int (nI (i + 1))), (0, .ref md), (1, .int (nI j)), (2, .int (nI w)), (3, .int (nI (T.length))), (7, .int (nI rr))]) hx hb d_MD_row_172 hl (k := 5) rfl (nI_add i 1) (by decide) rfl (fun ls hl => ?_)
                      refine lv_goto (tgt := 146) hx hb d_MD_row_175 (by decide) ?_
                      exact ih1 (ls := ls) (hl := lv_sub hl [1, 2, 3, 4, 5, 0] rfl) (hn1 := by omega) (i := i + 1) (le := va_up le (64 * rr + i) (V.te i)) (hle := lt_s (fun q hq => by rw [up_n (by omega)]; exact hle q hq) (by rw [up_s]; exact hte i (by omega))) (hle2 := fun q hq => by rw [up_n (by omega)]; exact hle2 q hq) (hleb := up_lt hleb (b_te i)) (H := H) (locs := locs) (hM := hM) (hS := hS) (N16 := M24) (f_md := f_md) (f_ro := f_ro) (f_te := f_te) (f_he := f_he) (f_cn := f_cn) (f_kd := f_kd) (f_sz := f_sz) (f_ky := f_ky) (f_le := f_le) (f_dg := f_dg) (f_nm := f_nm) (f_ns := f_ns) (f_sl := f_sl) (f_sb := f_sb) (f_su := f_su) (f_wi := f_wi) (f_tu := f_tu)
                · exact absurd rfl h12
            · exact absurd hv1 (fun q => q)
          · refine lv_iload_n hx hb d_MD_row_52 rfl (lv_at hl 5 rfl) ?_
            refine nz_le (tgt := 67) hx hb d_MD_row_53 (by decide) (by omega) (fun hw0 => ?_) (fun hw0 => ?_)
            · refine lv_aload_n hx hb d_MD_row_67 rfl (lv_at hl 3 rfl) ?_
              refine hp_get S hK hM i_MD f_md rfl 8 (by decide) mf_MD_91 (fun _ h9 => h9) rfl d_MD_row_68 ?_
              refine lv_iload_n hx hb d_MD_row_71 rfl (lv_at hl 4 rfl) ?_
              refine hp_iald S hK hM 1 f_cn rfl j rfl (by omega) (by omega) d_MD_row_72 ?_
              refine lv_bipush (v := nI 24) hx hb d_MD_row_73 rfl ?_
              refine nb_ne (tgt := 82) hx hb d_MD_row_75 (by decide) (by have := b_cn (j); omega) (by omega) (fun h24 => ?_) (fun h24 => ?_)
              · refine lv_iconst (v := nI 0) hx hb d_MD_row_82 rfl ?_
                exact hjv8 _ H _ hM hS (bo_f (fun q => by rcases q with q | q; (first | exact hhas q.2 | omega); (omega)))
              · refine lv_iconst (v := nI 1) hx hb d_MD_row_78 rfl ?_
                refine lv_goto (tgt := 83) hx hb d_MD_row_79 (by decide) ?_
                exact hjv8 _ H _ hM hS (bo_t (by first | exact Or.inl ⟨by omega, hhas⟩ | exact Or.inr (by omega)))
            · refine lv_aload_n hx hb d_MD_row_56 rfl (lv_at hl 3 rfl) ?_
              refine lv_iload_n hx hb d_MD_row_57 rfl (lv_at hl 4 rfl) ?_
              refine lv_iload_n hx hb d_MD_row_58 rfl (lv_at hl 5 rfl) ?_
              refine lv_iload hx hb d_MD_row_59 (lv_at hl 0 rfl) ?_
              refine hp_calli (go_V S hZ hK hM hS hA hz (c_MD_hasKey l D ct Z hZ _ _ md B (mkS (V.te) (V.cn) (V.kd) (V.sz) (V.ky) (V.le) (V.nm) (V.ns) (V.sl) (V.sb) (V.he) (V.dg) (V.su) (V.wi) (V.tu) (V.co) 0 (V.ac) (V.al) (V.sd) (V.ss)) hw2 T hT64 hte j hj12 (LL.getD j []) hcn hL24 hLr w n hw6 hnT) mc_MD_hasKey mz_MD ml_MD_174 mi_MD_hasKey mx_MD_hasKey hd_MD_hasKey rfl ⟨by decide, by decide⟩ f_md rfl rfl hl.1 rfl (Nat.le_of_ble_eq_true rfl) d_MD_row_61 ⟨by decide, by decide⟩) hM hS hA (fun r25 N26 H locs hr25 hM hS => ?_)
              rw [hr25.1] at hM
              replace hr25 := hr25.2
              refine nt_ne (tgt := 78) hx hb d_MD_row_64 (by decide) hr25 (fun hhas => ?_) (fun hhas => ?_)
              · refine lv_iconst (v := nI 1) hx hb d_MD_row_78 rfl ?_
                refine lv_goto (tgt := 83) hx hb d_MD_row_79 (by decide) ?_
                exact hjv8 _ H _ hM hS (bo_t (by first | exact Or.inl ⟨by omega, hhas⟩ | exact Or.inr (by omega)))
              · refine lv_aload_n hx hb d_MD_row_67 rfl (lv_at hl 3 rfl) ?_
                refine hp_get S hK hM i_MD f_md rfl 8 (by decide) mf_MD_91 (fun _ h9 => h9) rfl d_MD_row_68 ?_
                refine lv_iload_n hx hb d_MD_row_71 rfl (lv_at hl 4 rfl) ?_
                refine hp_iald S hK hM 1 f_cn rfl j rfl (by omega) (by omega) d_MD_row_72 ?_
                refine lv_bipush (v := nI 24) hx hb d_MD_row_73 rfl ?_
                refine nb_ne (tgt := 82) hx hb d_MD_row_75 (by decide) (by have := b_cn (j); omega) (by omega) (fun h24 => ?_) (fun h24 => ?_)
                · refine lv_iconst (v := nI 0) hx hb d_MD_row_82 rfl ?_
                  exact hjv8 _ H _ hM hS (bo_f (fun q => by rcases q with q | q; (first | exact hhas q.2 | omega); (omega)))
                · refine lv_iconst (v := nI 1) hx hb d_MD_row_78 rfl ?_
                  refine lv_goto (tgt := 83) hx hb d_MD_row_79 (by decide) ?_
                  exact hjv8 _ H _ hM hS (bo_t (by first | exact Or.inl ⟨by omega, hhas⟩ | exact Or.inr (by omega)))
    · refine lv_iload hx hb d_MD_row_30 (lv_at hl 0 rfl) ?_
      refine nt_eq (tgt := 39) hx hb d_MD_row_32 (by decide) hv2 (fun hbad => ?_) (fun hbad => ?_)
      · obtain ⟨⟨j, hj, ej⟩, w, hw6, ew⟩ := Classical.byContradiction hbad
        subst ej
        subst ew
        refine lv_aload_n hx hb d_MD_row_39 rfl (lv_at hl 2 rfl) ?_
        refine lv_iload_n hx hb d_MD_row_40 rfl (lv_at hl 4 rfl) ?_
        refine lv_iload_n hx hb d_MD_row_41 rfl (lv_at hl 1 rfl) ?_
        refine hp_calli (go_V S hZ hK hM hS hA hz (c_MD_keyOf l D ct Z hZ _ _ md B (mkS (V.te) (V.cn) (V.kd) (V.sz) (V.ky) (V.le) (V.nm) (V.ns) (V.sl) (V.sb) (V.he) (V.dg) (V.su) (V.wi) (V.tu) (V.co) 0 (V.ac) (V.al) (V.sd) (V.ss)) hw2 T hT64 hte w hw6) mc_MD_keyOf mz_MD ml_MD_171 mi_MD_keyOf mx_MD_keyOf hd_MD_keyOf rfl ⟨by decide, by decide⟩ f_md rfl rfl hl.1 rfl (Nat.le_of_ble_eq_true rfl) d_MD_row_42 ⟨by decide, by decide⟩) hM hS hA (fun r27 N28 H locs hr27 hM hS => ?_)
        rw [hr27.1] at hM
        replace hr27 := hr27.2
        exact hjv3 _ H _ hM hS (by rcases hr27 with ⟨a, n, b1, b2⟩ | ⟨a, b⟩; (exact Or.inr ⟨j, w, n, hj, rfl, hw6, rfl, a, b1, b2⟩); (exact Or.inl ⟨fun ⟨j2, w2, a1, a2, a3, a4, a5⟩ => by have e9 := (nI_eq (by omega) (by omega)).mp a4; subst e9; exact a a5, b⟩))
      · refine lv_iconst (v := -1) hx hb d_MD_row_35 (by decide) ?_
        refine lv_goto (tgt := 45) hx hb d_MD_row_36 (by decide) ?_
        exact hjv3 _ H _ hM hS (Or.inl ⟨fun ⟨j, w, a1, a2, a3, a4, a5⟩ => hbad ⟨⟨j, a1, a2⟩, w, a3, a4⟩, rfl⟩)
  · refine lv_aload_n hx hb d_MD_row_5 rfl (lv_at hl 1 rfl) ?_
    refine lv_iload_n hx hb d_MD_row_6 rfl (lv_at hl 2 rfl) ?_
    refine hp_calli (go_V S hZ hK hM hS hA hz (c_MD_isAction l D ct Z hZ _ _ md B (mkS (V.te) (V.cn) (V.kd) (V.sz) (V.ky) (V.le) (V.nm) (V.ns) (V.sl) (V.sb) (V.he) (V.dg) (V.su) (V.wi) (V.tu) (V.co) 0 (V.ac) (V.al) (V.sd) (V.ss)) hw2 x) mc_MD_isAction mz_MD ml_MD_168 mi_MD_isAction mx_MD_isAction hd_MD_isAction rfl ⟨by decide, by decide⟩ f_md rfl rfl hl.1 rfl (Nat.le_of_ble_eq_true rfl) d_MD_row_7 ⟨by decide, by decide⟩) hM hS hA (fun r29 N30 H locs hr29 hM hS => ?_)
    rw [hr29.1] at hM
    replace hr29 := hr29.2
    refine nt_eq (tgt := 23) hx hb d_MD_row_10 (by decide) hr29 (fun hia => ?_) (fun hia => ?_)
    · refine lv_iconst (v := nI 1) hx hb d_MD_row_23 rfl ?_
      refine lv_goto (tgt := 28) hx hb d_MD_row_24 (by decide) ?_
      exact hjv2 _ H _ hM hS (bo_t (fun ⟨q1, q2⟩ => by first | exact hia q1 | (obtain ⟨w, q2, rfl⟩ := q2; first | exact nI_pos (by omega) hk0 | exact hk6 ((nI_leI (by omega) (by decide)).mpr q2))))
    · refine lv_iload_n hx hb d_MD_row_13 rfl (lv_at hl 3 rfl) ?_
      refine lv_if_lt (tgt := 23) hx hb d_MD_row_14 (by decide) (fun hk0 => ?_) (fun hk0 => ?_)
      · refine lv_iconst (v := nI 1) hx hb d_MD_row_23 rfl ?_
        refine lv_goto (tgt := 28) hx hb d_MD_row_24 (by decide) ?_
        exact hjv2 _ H _ hM hS (bo_t (fun ⟨q1, q2⟩ => by first | exact hia q1 | (obtain ⟨w, q2, rfl⟩ := q2; first | exact nI_pos (by omega) hk0 | exact hk6 ((nI_leI (by omega) (by decide)).mpr q2))))
      · refine lv_iload_n hx hb d_MD_row_17 rfl (lv_at hl 3 rfl) ?_
        refine lv_bipush (v := nI 6) hx hb d_MD_row_18 rfl ?_
        refine lv_icmp_le (tgt := 27) hx hb d_MD_row_20 (by decide) (fun hk6 => ?_) (fun hk6 => ?_)
        · refine lv_iconst (v := nI 0) hx hb d_MD_row_27 rfl ?_
          exact hjv2 _ H _ hM hS (bo_f (fun q => q ⟨hia, by obtain ⟨w, hw9, rfl⟩ := nI_of hk0; exact ⟨w, (nI_leI hw9 (by decide)).mp hk6, rfl⟩⟩))
        · refine lv_iconst (v := nI 1) hx hb d_MD_row_23 rfl ?_
          refine lv_goto (tgt := 28) hx hb d_MD_row_24 (by decide) ?_
          exact hjv2 _ H _ hM hS (bo_t (fun ⟨q1, q2⟩ => by first | exact hia q1 | (obtain ⟨w, q2, rfl⟩ := q2; first | exact nI_pos (by omega) hk0 | exact hk6 ((nI_leI (by omega) (by decide)).mpr q2))))
theorem edL_lt8 {n : Nat} (i : Nat) : (edL n).getD i 0 < 128 := by
  rcases Nat.lt_or_ge i 8 with h | h
  · rw [edL_at h]; have := Nat.mod_lt (n / 10 ^ (7 - i)) (show 0 < 10 by decide); omega
  · rw [List.getD_eq_getElem?_getD, List.getElem?_eq_none (by rw [edL_len]; exact h)]; decide
set_option maxHeartbeats 4000000 in
set_option maxRecDepth 100000 in
/-- edition(a, n) -/
theorem c_MD_edition (l : Launch) (D : va_G) (ct : Nat → ClassId) (Z : hp_Z) (hZ : hp_Zok Z) (M : hp_M) (sz : Nat) (md : Nat) (B : MA) (V : MS) (hw : mdS ct M md B V) (LL : List (List MR)) (hLL : mdL V LL) (x k : Int32) : Mv l y_MD_edition b_MD_edition 8 none 1 22 0 0 [.ref md, .int x, .int k] D ct Z M sz (fun M1 => ((¬ ∃ j n, j < LL.length ∧ x = nI j ∧ k = nI n ∧ n ≤ 99999999) ∧ mdS ct M1 md B (mkS (V.te) (V.cn) (V.kd) (V.sz) (V.ky) (V.le) (V.nm) (V.ns) (V.sl) (V.sb) (V.he) (V.dg) (V.su) (V.wi) (V.tu) 1 (V.ty) (V.ac) (V.al) (V.sd) (V.ss))) ∨ ((∃ j n, j < LL.length ∧ x = nI j ∧ k = nI n ∧ n ≤ 99999999 ∧ (∀ i, i < (LL.getD j []).length → ((LL.getD j []).getD i mr0).1 ≠ 7) ∧ 24 ≤ (LL.getD j []).length) ∧ mdS ct M1 md B (mkS (V.te) (V.cn) (V.kd) (V.sz) (V.ky) (V.le) (V.nm) (V.ns) (V.sl) (V.sb) (V.he) (V.dg) (V.su) (V.wi) (V.tu) 2 (V.ty) (V.ac) (V.al) (V.sd) (V.ss))) ∨ ∃ j n d, j < LL.length ∧ x = nI j ∧ k = nI n ∧ n ≤ 99999999 ∧ ∃ cn kd sz9 ky le, mdS ct M1 md B (mkS (V.te) cn kd sz9 ky le (V.nm) (V.ns) (V.sl) (V.sb) (V.he) (V.dg) (V.su) (V.wi) (V.tu) 0 (V.ty) (V.ac) (V.al) (V.sd) (V.ss)) ∧ (((∀ i, i < (LL.getD j []).length → ((LL.getD j []).getD i mr0).1 ≠ 7) ∧ (LL.getD j []).length < 24 ∧ mdL (mkS (V.te) cn kd sz9 ky le (V.nm) (V.ns) (V.sl) (V.sb) (V.he) (V.dg) (V.su) (V.wi) (V.tu) 0 (V.ty) (V.ac) (V.al) (V.sd) (V.ss)) (LL.set j ((LL.getD j []) ++ [(7, 0, edL n, d)]))) ∨ ∃ i, i < (LL.getD j []).length ∧ ((LL.getD j []).getD i mr0).1 = 7 ∧ mdL (mkS (V.te) cn kd sz9 ky le (V.nm) (V.ns) (V.sl) (V.sb) (V.he) (V.dg) (V.su) (V.wi) (V.tu) 0 (V.ty) (V.ac) (V.al) (V.sd) (V.ss)) (LL.set j ((LL.getD j []).set i (7, 0, edL n, d))))) := by
  refine hp_start (by decide) (Nat.le_of_ble_eq_true rfl) (fun p e s m below meth c ls S hret hlk hnm hsz hK hM hS hA hz hl => ?_)
  have hx := S.1
  have hb := S.2.1
  have hl : lv_has ls 8 [(0, .ref md), (1, .int x), (2, .int k)] := hl
  obtain ⟨f_md, f_ro, f_te, f_he, f_cn, f_kd, f_sz, f_ky, f_le, f_dg, f_nm, f_ns, f_sl, f_sb, f_su, f_wi, f_tu, hB, hV⟩ := id hw
  obtain ⟨n_kdsz, n_kdky, n_szky, n_hens, n_hesu, n_hetu, n_nssu, n_nstu, n_sutu, n_tewi⟩ := id hB
  obtain ⟨b_te, b_cn, b_kd, b_sz, b_ky, b_le, b_nm, b_ns, b_sl, b_sb, b_co, b_ty, b_ac, b_al, b_sd, b_ss⟩ := id hV
  refine w_join hM hS (P := fun z => bo z (¬ ((∃ j, j < V.ac ∧ x = nI j) ∧ ∃ n, n ≤ 99999999 ∧ k = nI n))) (pc2 := 23) (rest := []) (fun v1 H locs hM hS hv1 => ?_) (fun hjv1 => ?_)
  · rcases hv1 with ⟨hbad, ev⟩ | ⟨hbad, ev⟩
    · subst ev
      refine lv_istore_n (lv' := [(3, .int (nI 1)), (0, .ref md), (1, .int x), (2, .int k)]) hx hb d_MD_edition_23 rfl hl (by decide) rfl (fun ls hl => ?_)
      refine lv_iload_n hx hb d_MD_edition_24 rfl (lv_at hl 0 rfl) ?_
      refine nz_eq (tgt := 32) hx hb d_MD_edition_25 (by decide) (by omega) (fun h2 => ?_) (fun h2 => ?_)
      · exact absurd h2 (by decide)
      · refine lv_iconst (v := nI 0) hx hb d_MD_edition_28 rfl ?_
        refine lv_goto (tgt := 38) hx hb d_MD_edition_29 (by decide) ?_
        refine lv_istore (lv' := [(4, .int (nI 0)), (3, .int (nI 1)), (0, .ref md), (1, .int x), (2, .int k)]) hx hb d_MD_edition_38 hl (by decide) rfl (fun ls hl => ?_)
        refine lv_iconst (v := nI 0) hx hb d_MD_edition_40 rfl ?_
        refine lv_istore (lv' := [(5, .int (nI 0)), (4, .int (nI 0)), (3, .int (nI 1)), (0, .ref md), (1, .int x), (2, .int k)]) hx hb d_MD_edition_41 hl (by decide) rfl (fun ls hl => ?_)
        refine lv_iload_n hx hb d_MD_edition_43 rfl (lv_at hl 2 rfl) ?_
        refine nz_ne (tgt := 90) hx hb d_MD_edition_44 (by decide) (by omega) (fun h3 => ?_) (fun h3 => ?_)
        · refine lv_aload_n hx hb d_MD_edition_90 rfl (lv_at hl 3 rfl) ?_
          refine lv_iload_n hx hb d_MD_edition_91 rfl (lv_at hl 2 rfl) ?_
          refine lv_iload hx hb d_MD_edition_92 (lv_at hl 1 rfl) ?_
          refine lv_bipush (v := nI 24) hx hb d_MD_edition_94 rfl ?_
          refine nb_ne (tgt := 103) hx hb d_MD_edition_96 (by decide) (by omega) (by omega) (fun h24 => ?_) (fun h24 => ?_)
          · refine lv_iconst (v := nI 0) hx hb d_MD_edition_103 rfl ?_
            refine hp_calli (go_V S hZ hK hM hS hA hz (c_MD_refuses l D ct Z hZ _ _ md B V hw (nI 1) (nI 0) (True) (False) (bo_t trivial) (bo_f id)) mc_MD_refuses mz_MD ml_MD_178 mi_MD_refuses mx_MD_refuses hd_MD_refuses rfl ⟨by decide, by decide⟩ f_md rfl rfl hl.1 rfl (Nat.le_of_ble_eq_true rfl) d_MD_edition_104 ⟨by decide, by decide⟩) hM hS hA (fun r9 M9 H locs h9 hM hS => ?_)
            obtain ⟨N4, eN4⟩ : ∃ z, z = M9 := ⟨_, rfl⟩
            rw [← eN4] at hM h9
            rcases h9 with ⟨hp1, er, h9⟩ | ⟨hp1, hp2, er, h9⟩ | ⟨hp1, hp2, er, h9⟩
            · subst er
              have hw4 : mdS ct N4 md B (mkS (V.te) (V.cn) (V.kd) (V.sz) (V.ky) (V.le) (V.nm) (V.ns) (V.sl) (V.sb) (V.he) (V.dg) (V.su) (V.wi) (V.tu) 1 (V.ty) (V.ac) (V.al) (V.sd) (V.ss)) := h9
              clear f_md f_ro f_te f_he f_cn f_kd f_sz f_ky f_le f_dg f_nm f_ns f_sl f_sb f_su f_wi f_tu
              obtain ⟨f_md, f_ro, f_te, f_he, f_cn, f_kd, f_sz, f_ky, f_le, f_dg, f_nm, f_ns, f_sl, f_sb, f_su, f_wi, f_tu, hB, hV⟩ := id hw4
              replace f_md : N4 md = some (.inr (6, [.ref B.ro, .int (nI 1), .ref B.te, .int (nI (V.ty)), .int (nI (V.ac)), .int (nI (V.al)), .int (nI (V.sd)), .ref B.he, .ref B.cn, .ref B.kd, .ref B.sz, .ref B.ky, .ref B.le, .ref B.dg, .ref B.nm, .ref B.ns, .ref B.sl, .ref B.sb, .int (nI (V.ss)), .ref B.su, .ref B.wi, .ref B.tu])) := f_md
              replace f_ro : N4 B.ro = some (.inl (ct 1, 72, .inl roF)) := f_ro
              replace f_te : N4 B.te = some (.inl (ct 1, 64, .inl (nf V.te))) := f_te
              replace f_he : N4 B.he = some (.inl (ct 1, 8, .inl (V.he))) := f_he
              replace f_cn : N4 B.cn = some (.inl (ct 1, 12, .inl (nf V.cn))) := f_cn
              replace f_kd : N4 B.kd = some (.inl (ct 1, 288, .inl (nf V.kd))) := f_kd
              replace f_sz : N4 B.sz = some (.inl (ct 1, 288, .inl (nf V.sz))) := f_sz
              replace f_ky : N4 B.ky = some (.inl (ct 1, 288, .inl (nf V.ky))) := f_ky
              replace f_le : N4 B.le = some (.inl (ct 1, 18432, .inl (nf V.le))) := f_le
              replace f_dg : N4 B.dg = some (.inl (ct 1, 2304, .inl (V.dg))) := f_dg
              replace f_nm : N4 B.nm = some (.inl (ct 1, 128, .inl (nf V.nm))) := f_nm
              replace f_ns : N4 B.ns = some (.inl (ct 1, 8, .inl (nf V.ns))) := f_ns
              replace f_sl : N4 B.sl = some (.inl (ct 1, 16, .inl (nf V.sl))) := f_sl
              replace f_sb : N4 B.sb = some (.inl (ct 1, 3000, .inl (nf V.sb))) := f_sb
              replace f_su : N4 B.su = some (.inl (ct 1, 8, .inl (V.su))) := f_su
              replace f_wi : N4 B.wi = some (.inl (ct 1, 64, .inl (V.wi))) := f_wi
              replace f_tu : N4 B.tu = some (.inl (ct 1, 8, .inl (V.tu))) := f_tu
              refine nz_eq (tgt := 111) hx hb d_MD_edition_107 (by decide) (by omega) (fun h5 => ?_) (fun h5 => ?_)
              · exact absurd h5 (by decide)
              · exact hp_vret S hret hlk hM hS (Or.inl ⟨fun ⟨j, n, a1, a2, a3, a4⟩ => hbad ⟨⟨j, by rw [hLL.1]; exact a1, a2⟩, n, a4, a3⟩, hw4⟩) d_MD_edition_110
            · subst er
              have hw4 : mdS ct N4 md B (mkS (V.te) (V.cn) (V.kd) (V.sz) (V.ky) (V.le) (V.nm) (V.ns) (V.sl) (V.sb) (V.he) (V.dg) (V.su) (V.wi) (V.tu) 2 (V.ty) (V.ac) (V.al) (V.sd) (V.ss)) := h9
              clear f_md f_ro f_te f_he f_cn f_kd f_sz f_ky f_le f_dg f_nm f_ns f_sl f_sb f_su f_wi f_tu
              obtain ⟨f_md, f_ro, f_te, f_he, f_cn, f_kd, f_sz, f_ky, f_le, f_dg, f_nm, f_ns, f_sl, f_sb, f_su, f_wi, f_tu, hB, hV⟩ := id hw4
              replace f_md : N4 md = some (.inr (6, [.ref B.ro, .int (nI 2), .ref B.te, .int (nI (V.ty)), .int (nI (V.ac)), .int (nI (V.al)), .int (nI (V.sd)), .ref B.he, .ref B.cn, .ref B.kd, .ref B.sz, .ref B.ky, .ref B.le, .ref B.dg, .ref B.nm, .ref B.ns, .ref B.sl, .ref B.sb, .int (nI (V.ss)), .ref B.su, .ref B.wi, .ref B.tu])) := f_md
              replace f_ro : N4 B.ro = some (.inl (ct 1, 72, .inl roF)) := f_ro
              replace f_te : N4 B.te = some (.inl (ct 1, 64, .inl (nf V.te))) := f_te
              replace f_he : N4 B.he = some (.inl (ct 1, 8, .inl (V.he))) := f_he
              replace f_cn : N4 B.cn = some (.inl (ct 1, 12, .inl (nf V.cn))) := f_cn
              replace f_kd : N4 B.kd = some (.inl (ct 1, 288, .inl (nf V.kd))) := f_kd
              replace f_sz : N4 B.sz = some (.inl (ct 1, 288, .inl (nf V.sz))) := f_sz
              replace f_ky : N4 B.ky = some (.inl (ct 1, 288, .inl (nf V.ky))) := f_ky
              replace f_le : N4 B.le = some (.inl (ct 1, 18432, .inl (nf V.le))) := f_le
              replace f_dg : N4 B.dg = some (.inl (ct 1, 2304, .inl (V.dg))) := f_dg
              replace f_nm : N4 B.nm = some (.inl (ct 1, 128, .inl (nf V.nm))) := f_nm
              replace f_ns : N4 B.ns = some (.inl (ct 1, 8, .inl (nf V.ns))) := f_ns
              replace f_sl : N4 B.sl = some (.inl (ct 1, 16, .inl (nf V.sl))) := f_sl
              replace f_sb : N4 B.sb = some (.inl (ct 1, 3000, .inl (nf V.sb))) := f_sb
              replace f_su : N4 B.su = some (.inl (ct 1, 8, .inl (V.su))) := f_su
              replace f_wi : N4 B.wi = some (.inl (ct 1, 64, .inl (V.wi))) := f_wi
              replace f_tu : N4 B.tu = some (.inl (ct 1, 8, .inl (V.tu))) := f_tu
              refine nz_eq (tgt := 111) hx hb d_MD_edition_107 (by decide) (by omega) (fun h6 => ?_) (fun h6 => ?_)
              · exact absurd h6 (by decide)
              · exact hp_vret S hret hlk hM hS (absurd trivial hp1) d_MD_edition_110
            · subst er
              have hw4 : mdS ct N4 md B (mkS (V.te) (V.cn) (V.kd) (V.sz) (V.ky) (V.le) (V.nm) (V.ns) (V.sl) (V.sb) (V.he) (V.dg) (V.su) (V.wi) (V.tu) 0 (V.ty) (V.ac) (V.al) (V.sd) (V.ss)) := h9
              clear f_md f_ro f_te f_he f_cn f_kd f_sz f_ky f_le f_dg f_nm f_ns f_sl f_sb f_su f_wi f_tu
              obtain ⟨f_md, f_ro, f_te, f_he, f_cn, f_kd, f_sz, f_ky, f_le, f_dg, f_nm, f_ns, f_sl, f_sb, f_su, f_wi, f_tu, hB, hV⟩ := id hw4
              replace f_md : N4 md = some (.inr (6, [.ref B.ro, .int (nI 0), .ref B.te, .int (nI (V.ty)), .int (nI (V.ac)), .int (nI (V.al)), .int (nI (V.sd)), .ref B.he, .ref B.cn, .ref B.kd, .ref B.sz, .ref B.ky, .ref B.le, .ref B.dg, .ref B.nm, .ref B.ns, .ref B.sl, .ref B.sb, .int (nI (V.ss)), .ref B.su, .ref B.wi, .ref B.tu])) := f_md
              replace f_ro : N4 B.ro = some (.inl (ct 1, 72, .inl roF)) := f_ro
              replace f_te : N4 B.te = some (.inl (ct 1, 64, .inl (nf V.te))) := f_te
              replace f_he : N4 B.he = some (.inl (ct 1, 8, .inl (V.he))) := f_he
              replace f_cn : N4 B.cn = some (.inl (ct 1, 12, .inl (nf V.cn))) := f_cn
              replace f_kd : N4 B.kd = some (.inl (ct 1, 288, .inl (nf V.kd))) := f_kd
              replace f_sz : N4 B.sz = some (.inl (ct 1, 288, .inl (nf V.sz))) := f_sz
              replace f_ky : N4 B.ky = some (.inl (ct 1, 288, .inl (nf V.ky))) := f_ky
              replace f_le : N4 B.le = some (.inl (ct 1, 18432, .inl (nf V.le))) := f_le
              replace f_dg : N4 B.dg = some (.inl (ct 1, 2304, .inl (V.dg))) := f_dg
              replace f_nm : N4 B.nm = some (.inl (ct 1, 128, .inl (nf V.nm))) := f_nm
              replace f_ns : N4 B.ns = some (.inl (ct 1, 8, .inl (nf V.ns))) := f_ns
              replace f_sl : N4 B.sl = some (.inl (ct 1, 16, .inl (nf V.sl))) := f_sl
              replace f_sb : N4 B.sb = some (.inl (ct 1, 3000, .inl (nf V.sb))) := f_sb
              replace f_su : N4 B.su = some (.inl (ct 1, 8, .inl (V.su))) := f_su
              replace f_wi : N4 B.wi = some (.inl (ct 1, 64, .inl (V.wi))) := f_wi
              replace f_tu : N4 B.tu = some (.inl (ct 1, 8, .inl (V.tu))) := f_tu
              refine nz_eq (tgt := 111) hx hb d_MD_edition_107 (by decide) (by omega) (fun h7 => ?_) (fun h7 => ?_)
              · exact absurd trivial hp1
              · exact absurd rfl h7
          · exact absurd h24 (by decide)
        · exact absurd h3 (by decide)
    · subst ev
      obtain ⟨⟨j, hj, ej⟩, n, hn9, en⟩ := Classical.byContradiction hbad
      subst ej
      subst en
      have hj : j < LL.length := by rw [← hLL.1]; exact hj
      obtain ⟨hcn, hL24, hLr⟩ := hLL.2.2.1 j hj
      have hj12 : j < 12 := Nat.lt_of_lt_of_le hj hLL.2.1
      refine lv_istore_n (lv' := [(3, .int (nI 0)), (0, .ref md), (1, .int (nI j)), (2, .int (nI n))]) hx hb d_MD_edition_23 rfl hl (by decide) rfl (fun ls hl => ?_)
      refine lv_iload_n hx hb d_MD_edition_24 rfl (lv_at hl 0 rfl) ?_
      refine nz_eq (tgt := 32) hx hb d_MD_edition_25 (by decide) (by omega) (fun h8 => ?_) (fun h8 => ?_)
      · refine lv_aload_n hx hb d_MD_edition_32 rfl (lv_at hl 1 rfl) ?_
        refine hp_get S hK hM i_MD f_md rfl 8 (by decide) mf_MD_91 (fun _ h9 => h9) rfl d_MD_edition_33 ?_
        refine lv_iload_n hx hb d_MD_edition_36 rfl (lv_at hl 2 rfl) ?_
        refine hp_iald S hK hM 1 f_cn rfl j rfl (by omega) (by omega) d_MD_edition_37 ?_
        refine lv_istore (lv' := [(4, .int (nI (V.cn j))), (3, .int (nI 0)), (0, .ref md), (1, .int (nI j)), (2, .int (nI n))]) hx hb d_MD_edition_38 hl (by decide) rfl (fun ls hl => ?_)
        refine lv_iconst (v := nI 0) hx hb d_MD_edition_40 rfl ?_
        refine lv_istore (lv' := [(5, .int (nI 0)), (4, .int (nI (V.cn j))), (3, .int (nI 0)), (0, .ref md), (1, .int (nI j)), (2, .int (nI n))]) hx hb d_MD_edition_41 hl (by decide) rfl (fun ls hl => ?_)
        replace hl : lv_has ls 8 [(0, .ref md), (1, .int (nI j)), (2, .int (nI n)), (3, .int (nI 0)), (4, .int (nI (V.cn j))), (5, .int (nI 0))] := lv_sub hl [3, 4, 5, 2, 1, 0] rfl
        obtain ⟨k5, e9k5⟩ : ∃ z : Nat, z = 0 := ⟨_, rfl⟩
        obtain ⟨pt, e9pt⟩ : ∃ z : Nat, z = V.cn j := ⟨_, rfl⟩
        replace hl : lv_has ls 8 [(0, .ref md), (1, .int (nI j)), (2, .int (nI n)), (3, .int (nI 0)), (4, .int (nI pt)), (5, .int (nI k5))] := by subst e9k5 e9pt; exact hl
        have hk5 : k5 ≤ (LL.getD j []).length := by subst e9k5 e9pt; exact Nat.zero_le _
        have hpt : ((∃ i, i < k5 ∧ ((LL.getD j []).getD i mr0).1 = 7 ∧ pt = i) ∨ ((∀ i, i < k5 → ((LL.getD j []).getD i mr0).1 ≠ 7) ∧ pt = (LL.getD j []).length)) := by subst e9k5 e9pt; exact Or.inr ⟨fun i hi => absurd hi (Nat.not_lt_zero i), hcn⟩
        obtain ⟨fu1, hn1⟩ : ∃ fu : Nat, (LL.getD j []).length ≤ k5 + fu := ⟨(LL.getD j []).length, by omega⟩
        clear e9k5 e9pt
        induction fu1 generalizing k5 pt H locs ls with
        | zero =>
          refine lv_iload_n hx hb d_MD_edition_43 rfl (lv_at hl 3 rfl) ?_
          refine nz_ne (tgt := 90) hx hb d_MD_edition_44 (by decide) (by omega) (fun h9 => ?_) (fun h9 => ?_)
          · exact absurd rfl h9
          · refine lv_iload hx hb d_MD_edition_47 (lv_at hl 5 rfl) ?_
            refine lv_aload_n hx hb d_MD_edition_49 rfl (lv_at hl 0 rfl) ?_
            refine hp_get S hK hM i_MD f_md rfl 8 (by decide) mf_MD_91 (fun _ h9 => h9) rfl d_MD_edition_50 ?_
            refine lv_iload_n hx hb d_MD_edition_53 rfl (lv_at hl 1 rfl) ?_
            refine hp_iald S hK hM 1 f_cn rfl j rfl (by omega) (by omega) d_MD_edition_54 ?_
            refine nb_ge (tgt := 90) hx hb d_MD_edition_55 (by decide) (by omega) (by have := b_cn (j); omega) (fun hkn => ?_) (fun hkn => ?_)
            · have hpt24 : pt ≤ 24 := by rcases hpt with ⟨i, a, b, e⟩ | ⟨a, e⟩ <;> omega
              have hk5 : k5 = (LL.getD j []).length := by omega
              subst hk5
              refine lv_aload_n hx hb d_MD_edition_90 rfl (lv_at hl 0 rfl) ?_
              refine lv_iload_n hx hb d_MD_edition_91 rfl (lv_at hl 3 rfl) ?_
              refine w_join hM hS (P := fun z => bo z (pt = 24)) (pc2 := 104) (rest := [.int (nI 0), .ref md]) (fun v10 H locs hM hS hv10 => ?_) (fun hjv10 => ?_)
              · refine hp_calli (go_V S hZ hK hM hS hA hz (c_MD_refuses l D ct Z hZ _ _ md B V hw (nI 0) v10 (False) (pt = 24) (bo_f id) (hv10)) mc_MD_refuses mz_MD ml_MD_178 mi_MD_refuses mx_MD_refuses hd_MD_refuses rfl ⟨by decide, by decide⟩ f_md rfl rfl hl.1 rfl (Nat.le_of_ble_eq_true rfl) d_MD_edition_104 ⟨by decide, by decide⟩) hM hS hA (fun r9 M9 H locs h9 hM hS => ?_)
                obtain ⟨N11, eN11⟩ : ∃ z, z = M9 := ⟨_, rfl⟩
                rw [← eN11] at hM h9
                rcases h9 with ⟨hp1, er, h9⟩ | ⟨hp1, hp2, er, h9⟩ | ⟨hp1, hp2, er, h9⟩
                · subst er
                  have hw4 : mdS ct N11 md B (mkS (V.te) (V.cn) (V.kd) (V.sz) (V.ky) (V.le) (V.nm) (V.ns) (V.sl) (V.sb) (V.he) (V.dg) (V.su) (V.wi) (V.tu) 1 (V.ty) (V.ac) (V.al) (V.sd) (V.ss)) := h9
                  clear f_md f_ro f_te f_he f_cn f_kd f_sz f_ky f_le f_dg f_nm f_ns f_sl f_sb f_su f_wi f_tu
                  obtain ⟨f_md, f_ro, f_te, f_he, f_cn, f_kd, f_sz, f_ky, f_le, f_dg, f_nm, f_ns, f_sl, f_sb, f_su, f_wi, f_tu, hB, hV⟩ := id hw4
                  replace f_md : N11 md = some (.inr (6, [.ref B.ro, .int (nI 1), .ref B.te, .int (nI (V.ty)), .int (nI (V.ac)), .int (nI (V.al)), .int (nI (V.sd)), .ref B.he, .ref B.cn, .ref B.kd, .ref B.sz, .ref B.ky, .ref B.le, .ref B.dg, .ref B.nm, .ref B.ns, .ref B.sl, .ref B.sb, .int (nI (V.ss)), .ref B.su, .ref B.wi, .ref B.tu])) := f_md
                  replace f_ro : N11 B.ro = some (.inl (ct 1, 72, .inl roF)) := f_ro
                  replace f_te : N11 B.te = some (.inl (ct 1, 64, .inl (nf V.te))) := f_te
                  replace f_he : N11 B.he = some (.inl (ct 1, 8, .inl (V.he))) := f_he
                  replace f_cn : N11 B.cn = some (.inl (ct 1, 12, .inl (nf V.cn))) := f_cn
                  replace f_kd : N11 B.kd = some (.inl (ct 1, 288, .inl (nf V.kd))) := f_kd
                  replace f_sz : N11 B.sz = some (.inl (ct 1, 288, .inl (nf V.sz))) := f_sz
                  replace f_ky : N11 B.ky = some (.inl (ct 1, 288, .inl (nf V.ky))) := f_ky
                  replace f_le : N11 B.le = some (.inl (ct 1, 18432, .inl (nf V.le))) := f_le
                  replace f_dg : N11 B.dg = some (.inl (ct 1, 2304, .inl (V.dg))) := f_dg
                  replace f_nm : N11 B.nm = some (.inl (ct 1, 128, .inl (nf V.nm))) := f_nm
                  replace f_ns : N11 B.ns = some (.inl (ct 1, 8, .inl (nf V.ns))) := f_ns
                  replace f_sl : N11 B.sl = some (.inl (ct 1, 16, .inl (nf V.sl))) := f_sl
                  replace f_sb : N11 B.sb = some (.inl (ct 1, 3000, .inl (nf V.sb))) := f_sb
                  replace f_su : N11 B.su = some (.inl (ct 1, 8, .inl (V.su))) := f_su
                  replace f_wi : N11 B.wi = some (.inl (ct 1, 64, .inl (V.wi))) := f_wi
                  replace f_tu : N11 B.tu = some (.inl (ct 1, 8, .inl (V.tu))) := f_tu
                  refine nz_eq (tgt := 111) hx hb d_MD_edition_107 (by decide) (by omega) (fun h12 => ?_) (fun h12 => ?_)
                  · exact absurd h12 (by decide)
                  · exact hp_vret S hret hlk hM hS (absurd hp1 id) d_MD_edition_110
                · subst er
                  have hw4 : mdS ct N11 md B (mkS (V.te) (V.cn) (V.kd) (V.sz) (V.ky) (V.le) (V.nm) (V.ns) (V.sl) (V.sb) (V.he) (V.dg) (V.su) (V.wi) (V.tu) 2 (V.ty) (V.ac) (V.al) (V.sd) (V.ss)) := h9
                  clear f_md f_ro f_te f_he f_cn f_kd f_sz f_ky f_le f_dg f_nm f_ns f_sl f_sb f_su f_wi f_tu
                  obtain ⟨f_md, f_ro, f_te, f_he, f_cn, f_kd, f_sz, f_ky, f_le, f_dg, f_nm, f_ns, f_sl, f_sb, f_su, f_wi, f_tu, hB, hV⟩ := id hw4
                  replace f_md : N11 md = some (.inr (6, [.ref B.ro, .int (nI 2), .ref B.te, .int (nI (V.ty)), .int (nI (V.ac)), .int (nI (V.al)), .int (nI (V.sd)), .ref B.he, .ref B.cn, .ref B.kd, .ref B.sz, .ref B.ky, .ref B.le, .ref B.dg, .ref B.nm, .ref B.ns, .ref B.sl, .ref B.sb, .int (nI (V.ss)), .ref B.su, .ref B.wi, .ref B.tu])) := f_md
                  replace f_ro : N11 B.ro = some (.inl (ct 1, 72, .inl roF)) := f_ro
                  replace f_te : N11 B.te = some (.inl (ct 1, 64, .inl (nf V.te))) := f_te
                  replace f_he : N11 B.he = some (.inl (ct 1, 8, .inl (V.he))) := f_he
                  replace f_cn : N11 B.cn = some (.inl (ct 1, 12, .inl (nf V.cn))) := f_cn
                  replace f_kd : N11 B.kd = some (.inl (ct 1, 288, .inl (nf V.kd))) := f_kd
                  replace f_sz : N11 B.sz = some (.inl (ct 1, 288, .inl (nf V.sz))) := f_sz
                  replace f_ky : N11 B.ky = some (.inl (ct 1, 288, .inl (nf V.ky))) := f_ky
                  replace f_le : N11 B.le = some (.inl (ct 1, 18432, .inl (nf V.le))) := f_le
                  replace f_dg : N11 B.dg = some (.inl (ct 1, 2304, .inl (V.dg))) := f_dg
                  replace f_nm : N11 B.nm = some (.inl (ct 1, 128, .inl (nf V.nm))) := f_nm
                  replace f_ns : N11 B.ns = some (.inl (ct 1, 8, .inl (nf V.ns))) := f_ns
                  replace f_sl : N11 B.sl = some (.inl (ct 1, 16, .inl (nf V.sl))) := f_sl
                  replace f_sb : N11 B.sb = some (.inl (ct 1, 3000, .inl (nf V.sb))) := f_sb
                  replace f_su : N11 B.su = some (.inl (ct 1, 8, .inl (V.su))) := f_su
                  replace f_wi : N11 B.wi = some (.inl (ct 1, 64, .inl (V.wi))) := f_wi
                  replace f_tu : N11 B.tu = some (.inl (ct 1, 8, .inl (V.tu))) := f_tu
                  refine nz_eq (tgt := 111) hx hb d_MD_edition_107 (by decide) (by omega) (fun h13 => ?_) (fun h13 => ?_)
                  · exact absurd h13 (by decide)
                  · rcases hpt with ⟨i, a, b, e9⟩ | ⟨a, e9⟩
                    · exact absurd hL24 (by omega)
                    · exact hp_vret S hret hlk hM hS (Or.inr (Or.inl ⟨⟨j, n, hj, rfl, rfl, hn9, a, by omega⟩, hw4⟩)) d_MD_edition_110
                · subst er
                  have hw4 : mdS ct N11 md B (mkS (V.te) (V.cn) (V.kd) (V.sz) (V.ky) (V.le) (V.nm) (V.ns) (V.sl) (V.sb) (V.he) (V.dg) (V.su) (V.wi) (V.tu) 0 (V.ty) (V.ac) (V.al) (V.sd) (V.ss)) := h9
                  clear f_md f_ro f_te f_he f_cn f_kd f_sz f_ky f_le f_dg f_nm f_ns f_sl f_sb f_su f_wi f_tu
                  obtain ⟨f_md, f_ro, f_te, f_he, f_cn, f_kd, f_sz, f_ky, f_le, f_dg, f_nm, f_ns, f_sl, f_sb, f_su, f_wi, f_tu, hB, hV⟩ := id hw4
                  replace f_md : N11 md = some (.inr (6, [.ref B.ro, .int (nI 0), .ref B.te, .int (nI (V.ty)), .int (nI (V.ac)), .int (nI (V.al)), .int (nI (V.sd)), .ref B.he, .ref B.cn, .ref B.kd, .ref B.sz, .ref B.ky, .ref B.le, .ref B.dg, .ref B.nm, .ref B.ns, .ref B.sl, .ref B.sb, .int (nI (V.ss)), .ref B.su, .ref B.wi, .ref B.tu])) := f_md
                  replace f_ro : N11 B.ro = some (.inl (ct 1, 72, .inl roF)) := f_ro
                  replace f_te : N11 B.te = some (.inl (ct 1, 64, .inl (nf V.te))) := f_te
                  replace f_he : N11 B.he = some (.inl (ct 1, 8, .inl (V.he))) := f_he
                  replace f_cn : N11 B.cn = some (.inl (ct 1, 12, .inl (nf V.cn))) := f_cn
                  replace f_kd : N11 B.kd = some (.inl (ct 1, 288, .inl (nf V.kd))) := f_kd
                  replace f_sz : N11 B.sz = some (.inl (ct 1, 288, .inl (nf V.sz))) := f_sz
                  replace f_ky : N11 B.ky = some (.inl (ct 1, 288, .inl (nf V.ky))) := f_ky
                  replace f_le : N11 B.le = some (.inl (ct 1, 18432, .inl (nf V.le))) := f_le
                  replace f_dg : N11 B.dg = some (.inl (ct 1, 2304, .inl (V.dg))) := f_dg
                  replace f_nm : N11 B.nm = some (.inl (ct 1, 128, .inl (nf V.nm))) := f_nm
                  replace f_ns : N11 B.ns = some (.inl (ct 1, 8, .inl (nf V.ns))) := f_ns
                  replace f_sl : N11 B.sl = some (.inl (ct 1, 16, .inl (nf V.sl))) := f_sl
                  replace f_sb : N11 B.sb = some (.inl (ct 1, 3000, .inl (nf V.sb))) := f_sb
                  replace f_su : N11 B.su = some (.inl (ct 1, 8, .inl (V.su))) := f_su
                  replace f_wi : N11 B.wi = some (.inl (ct 1, 64, .inl (V.wi))) := f_wi
                  replace f_tu : N11 B.tu = some (.inl (ct 1, 8, .inl (V.tu))) := f_tu
                  refine nz_eq (tgt := 111) hx hb d_MD_edition_107 (by decide) (by omega) (fun h14 => ?_) (fun h14 => ?_)
                  · refine lv_aload_n hx hb d_MD_edition_111 rfl (lv_at hl 0 rfl) ?_
                    refine lv_iload_n hx hb d_MD_edition_112 rfl (lv_at hl 1 rfl) ?_
                    refine lv_iload hx hb d_MD_edition_113 (lv_at hl 4 rfl) ?_
                    refine hp_calli (go_V S hZ hK hM hS hA hz (c_MD_place l D ct Z hZ _ _ md j pt) mc_MD_place mz_MD ml_MD_160 mi_MD_place mx_MD_place hd_MD_place rfl ⟨by decide, by decide⟩ f_md rfl rfl hl.1 rfl (Nat.le_of_ble_eq_true rfl) d_MD_edition_115 ⟨by decide, by decide⟩) hM hS hA (fun r9 M9 H locs h9 hM hS => ?_)
                    rw [h9.1] at hM
                    rw [h9.2]
                    obtain ⟨rr, err⟩ : ∃ z, z = 24 * j + pt := ⟨_, rfl⟩
                    rw [← err]
                    have hrr : rr < 288 := by omega
                    refine lv_istore (lv' := [(5, .int (nI rr)), (0, .ref md), (1, .int (nI j)), (2, .int (nI n)), (3, .int (nI 0)), (4, .int (nI pt))]) hx hb d_MD_edition_118 hl (by decide) rfl (fun ls hl => ?_)
                    refine lv_aload_n hx hb d_MD_edition_120 rfl (lv_at hl 1 rfl) ?_
                    refine hp_get S hK hM i_MD f_md rfl 9 (by decide) mf_MD_94 (fun _ h9 => h9) rfl d_MD_edition_121 ?_
                    refine lv_iload hx hb d_MD_edition_124 (lv_at hl 0 rfl) ?_
                    refine lv_bipush (v := nI 7) hx hb d_MD_edition_126 rfl ?_
                    refine hp_iast S hK hM hS 1 f_kd rfl rr rfl (by omega) (by omega) d_MD_edition_128 (fun H locs hM hS => ?_)
                    rw [nf_up] at hM
                    have f_md := hp_k (e := (.inl (ct 1, 288, .inl (nf (va_up (V.kd) rr 7))))) (hp_ne f_md f_kd (by simp)) f_md
                    have f_ro := hp_k (e := (.inl (ct 1, 288, .inl (nf (va_up (V.kd) rr 7))))) (hp_ne f_ro f_kd (by simp)) f_ro
                    have f_te := hp_k (e := (.inl (ct 1, 288, .inl (nf (va_up (V.kd) rr 7))))) (hp_ne f_te f_kd (by simp)) f_te
                    have f_he := hp_k (e := (.inl (ct 1, 288, .inl (nf (va_up (V.kd) rr 7))))) (hp_ne f_he f_kd (by simp)) f_he
                    have f_cn := hp_k (e := (.inl (ct 1, 288, .inl (nf (va_up (V.kd) rr 7))))) (hp_ne f_cn f_kd (by simp)) f_cn
                    have f_sz := hp_k (e := (.inl (ct 1, 288, .inl (nf (va_up (V.kd) rr 7))))) (Ne.symm n_kdsz) f_sz
                    have f_ky := hp_k (e := (.inl (ct 1, 288, .inl (nf (va_up (V.kd) rr 7))))) (Ne.symm n_kdky) f_ky
                    have f_le := hp_k (e := (.inl (ct 1, 288, .inl (nf (va_up (V.kd) rr 7))))) (hp_ne f_le f_kd (by simp)) f_le
                    have f_dg := hp_k (e := (.inl (ct 1, 288, .inl (nf (va_up (V.kd) rr 7))))) (hp_ne f_dg f_kd (by simp)) f_dg
                    have f_nm := hp_k (e := (.inl (ct 1, 288, .inl (nf (va_up (V.kd) rr 7))))) (hp_ne f_nm f_kd (by simp)) f_nm
                    have f_ns := hp_k (e := (.inl (ct 1, 288, .inl (nf (va_up (V.kd) rr 7))))) (hp_ne f_ns f_kd (by simp)) f_ns
                    have f_sl := hp_k (e := (.inl (ct 1, 288, .inl (nf (va_up (V.kd) rr 7))))) (hp_ne f_sl f_kd (by simp)) f_sl
                    have f_sb := hp_k (e := (.inl (ct 1, 288, .inl (nf (va_up (V.kd) rr 7))))) (hp_ne f_sb f_kd (by simp)) f_sb
                    have f_su := hp_k (e := (.inl (ct 1, 288, .inl (nf (va_up (V.kd) rr 7))))) (hp_ne f_su f_kd (by simp)) f_su
                    have f_wi := hp_k (e := (.inl (ct 1, 288, .inl (nf (va_up (V.kd) rr 7))))) (hp_ne f_wi f_kd (by simp)) f_wi
                    have f_tu := hp_k (e := (.inl (ct 1, 288, .inl (nf (va_up (V.kd) rr 7))))) (hp_ne f_tu f_kd (by simp)) f_tu
                    have f_kd : hp_up N11 B.kd (.inl (ct 1, 288, .inl (nf (va_up (V.kd) rr 7)))) B.kd = some (.inl (ct 1, 288, .inl (nf (va_up (V.kd) rr 7)))) := hp_us
                    obtain ⟨M15, eM15⟩ : ∃ z, z = hp_up N11 B.kd (.inl (ct 1, 288, .inl (nf (va_up (V.kd) rr 7)))) := ⟨_, rfl⟩
                    rw [← eM15] at hM f_md f_ro f_te f_he f_cn f_kd f_sz f_ky f_le f_dg f_nm f_ns f_sl f_sb f_su f_wi f_tu
                    refine lv_aload_n hx hb d_MD_edition_129 rfl (lv_at hl 1 rfl) ?_
                    refine hp_get S hK hM i_MD f_md rfl 10 (by decide) mf_MD_97 (fun _ h9 => h9) rfl d_MD_edition_130 ?_
                    refine lv_iload hx hb d_MD_edition_133 (lv_at hl 0 rfl) ?_
                    refine lv_bipush (v := nI 8) hx hb d_MD_edition_135 rfl ?_
                    refine hp_iast S hK hM hS 1 f_sz rfl rr rfl (by omega) (by omega) d_MD_edition_137 (fun H locs hM hS => ?_)
                    rw [nf_up] at hM
                    have f_md := hp_k (e := (.inl (ct 1, 288, .inl (nf (va_up (V.sz) rr 8))))) (hp_ne f_md f_sz (by simp)) f_md
                    have f_ro := hp_k (e := (.inl (ct 1, 288, .inl (nf (va_up (V.sz) rr 8))))) (hp_ne f_ro f_sz (by simp)) f_ro
                    have f_te := hp_k (e := (.inl (ct 1, 288, .inl (nf (va_up (V.sz) rr 8))))) (hp_ne f_te f_sz (by simp)) f_te
                    have f_he := hp_k (e := (.inl (ct 1, 288, .inl (nf (va_up (V.sz) rr 8))))) (hp_ne f_he f_sz (by simp)) f_he
                    have f_cn := hp_k (e := (.inl (ct 1, 288, .inl (nf (va_up (V.sz) rr 8))))) (hp_ne f_cn f_sz (by simp)) f_cn
                    have f_kd := hp_k (e := (.inl (ct 1, 288, .inl (nf (va_up (V.sz) rr 8))))) n_kdsz f_kd
                    have f_ky := hp_k (e := (.inl (ct 1, 288, .inl (nf (va_up (V.sz) rr 8))))) (Ne.symm n_szky) f_ky
                    have f_le := hp_k (e := (.inl (ct 1, 288, .inl (nf (va_up (V.sz) rr 8))))) (hp_ne f_le f_sz (by simp)) f_le
                    have f_dg := hp_k (e := (.inl (ct 1, 288, .inl (nf (va_up (V.sz) rr 8))))) (hp_ne f_dg f_sz (by simp)) f_dg
                    have f_nm := hp_k (e := (.inl (ct 1, 288, .inl (nf (va_up (V.sz) rr 8))))) (hp_ne f_nm f_sz (by simp)) f_nm
                    have f_ns := hp_k (e := (.inl (ct 1, 288, .inl (nf (va_up (V.sz) rr 8))))) (hp_ne f_ns f_sz (by simp)) f_ns
                    have f_sl := hp_k (e := (.inl (ct 1, 288, .inl (nf (va_up (V.sz) rr 8))))) (hp_ne f_sl f_sz (by simp)) f_sl
                    have f_sb := hp_k (e := (.inl (ct 1, 288, .inl (nf (va_up (V.sz) rr 8))))) (hp_ne f_sb f_sz (by simp)) f_sb
                    have f_su := hp_k (e := (.inl (ct 1, 288, .inl (nf (va_up (V.sz) rr 8))))) (hp_ne f_su f_sz (by simp)) f_su
                    have f_wi := hp_k (e := (.inl (ct 1, 288, .inl (nf (va_up (V.sz) rr 8))))) (hp_ne f_wi f_sz (by simp)) f_wi
                    have f_tu := hp_k (e := (.inl (ct 1, 288, .inl (nf (va_up (V.sz) rr 8))))) (hp_ne f_tu f_sz (by simp)) f_tu
                    have f_sz : hp_up M15 B.sz (.inl (ct 1, 288, .inl (nf (va_up (V.sz) rr 8)))) B.sz = some (.inl (ct 1, 288, .inl (nf (va_up (V.sz) rr 8)))) := hp_us
                    obtain ⟨M16, eM16⟩ : ∃ z, z = hp_up M15 B.sz (.inl (ct 1, 288, .inl (nf (va_up (V.sz) rr 8)))) := ⟨_, rfl⟩
                    rw [← eM16] at hM f_md f_ro f_te f_he f_cn f_kd f_sz f_ky f_le f_dg f_nm f_ns f_sl f_sb f_su f_wi f_tu
                    refine lv_aload_n hx hb d_MD_edition_138 rfl (lv_at hl 1 rfl) ?_
                    refine hp_get S hK hM i_MD f_md rfl 11 (by decide) mf_MD_100 (fun _ h9 => h9) rfl d_MD_edition_139 ?_
                    refine lv_iload hx hb d_MD_edition_142 (lv_at hl 0 rfl) ?_
                    refine lv_iconst (v := nI 0) hx hb d_MD_edition_144 rfl ?_
                    refine hp_iast S hK hM hS 1 f_ky rfl rr rfl (by omega) (by omega) d_MD_edition_145 (fun H locs hM hS => ?_)
                    rw [nf_up] at hM
                    have f_md := hp_k (e := (.inl (ct 1, 288, .inl (nf (va_up (V.ky) rr 0))))) (hp_ne f_md f_ky (by simp)) f_md
                    have f_ro := hp_k (e := (.inl (ct 1, 288, .inl (nf (va_up (V.ky) rr 0))))) (hp_ne f_ro f_ky (by simp)) f_ro
                    have f_te := hp_k (e := (.inl (ct 1, 288, .inl (nf (va_up (V.ky) rr 0))))) (hp_ne f_te f_ky (by simp)) f_te
                    have f_he := hp_k (e := (.inl (ct 1, 288, .inl (nf (va_up (V.ky) rr 0))))) (hp_ne f_he f_ky (by simp)) f_he
                    have f_cn := hp_k (e := (.inl (ct 1, 288, .inl (nf (va_up (V.ky) rr 0))))) (hp_ne f_cn f_ky (by simp)) f_cn
                    have f_kd := hp_k (e := (.inl (ct 1, 288, .inl (nf (va_up (V.ky) rr 0))))) n_kdky f_kd
                    have f_sz := hp_k (e := (.inl (ct 1, 288, .inl (nf (va_up (V.ky) rr 0))))) n_szky f_sz
                    have f_le := hp_k (e := (.inl (ct 1, 288, .inl (nf (va_up (V.ky) rr 0))))) (hp_ne f_le f_ky (by simp)) f_le
                    have f_dg := hp_k (e := (.inl (ct 1, 288, .inl (nf (va_up (V.ky) rr 0))))) (hp_ne f_dg f_ky (by simp)) f_dg
                    have f_nm := hp_k (e := (.inl (ct 1, 288, .inl (nf (va_up (V.ky) rr 0))))) (hp_ne f_nm f_ky (by simp)) f_nm
                    have f_ns := hp_k (e := (.inl (ct 1, 288, .inl (nf (va_up (V.ky) rr 0))))) (hp_ne f_ns f_ky (by simp)) f_ns
                    have f_sl := hp_k (e := (.inl (ct 1, 288, .inl (nf (va_up (V.ky) rr 0))))) (hp_ne f_sl f_ky (by simp)) f_sl
                    have f_sb := hp_k (e := (.inl (ct 1, 288, .inl (nf (va_up (V.ky) rr 0))))) (hp_ne f_sb f_ky (by simp)) f_sb
                    have f_su := hp_k (e := (.inl (ct 1, 288, .inl (nf (va_up (V.ky) rr 0))))) (hp_ne f_su f_ky (by simp)) f_su
                    have f_wi := hp_k (e := (.inl (ct 1, 288, .inl (nf (va_up (V.ky) rr 0))))) (hp_ne f_wi f_ky (by simp)) f_wi
                    have f_tu := hp_k (e := (.inl (ct 1, 288, .inl (nf (va_up (V.ky) rr 0))))) (hp_ne f_tu f_ky (by simp)) f_tu
                    have f_ky : hp_up M16 B.ky (.inl (ct 1, 288, .inl (nf (va_up (V.ky) rr 0)))) B.ky = some (.inl (ct 1, 288, .inl (nf (va_up (V.ky) rr 0)))) := hp_us
                    obtain ⟨M17, eM17⟩ : ∃ z, z = hp_up M16 B.ky (.inl (ct 1, 288, .inl (nf (va_up (V.ky) rr 0)))) := ⟨_, rfl⟩
                    rw [← eM17] at hM f_md f_ro f_te f_he f_cn f_kd f_sz f_ky f_le f_dg f_nm f_ns f_sl f_sb f_su f_wi f_tu
                    refine lv_iload_n hx hb d_MD_edition_146 rfl (lv_at hl 3 rfl) ?_
                    refine lv_istore (lv' := [(6, .int (nI n)), (5, .int (nI rr)), (0, .ref md), (1, .int (nI j)), (2, .int (nI n)), (3, .int (nI 0)), (4, .int (nI pt))]) hx hb d_MD_edition_147 hl (by decide) rfl (fun ls hl => ?_)
                    refine lv_bipush (v := nI 7) hx hb d_MD_edition_149 rfl ?_
                    refine lv_istore (lv' := [(7, .int (nI 7)), (6, .int (nI n)), (5, .int (nI rr)), (0, .ref md), (1, .int (nI j)), (2, .int (nI n)), (3, .int (nI 0)), (4, .int (nI pt))]) hx hb d_MD_edition_151 hl (by decide) rfl (fun ls hl => ?_)
                    replace hl : lv_has ls 8 [(0, .ref md), (1, .int (nI j)), (2, .int (nI n)), (4, .int (nI pt)), (5, .int (nI rr)), (6, .int (nI n)), (7, .int (nI 7))] := lv_sub hl [3, 4, 5, 7, 2, 1, 0] rfl
                    obtain ⟨u, e9u⟩ : ∃ z : Nat, z = 8 := ⟨_, rfl⟩
                    obtain ⟨lf, e9f⟩ : ∃ z : Nat, z = n := ⟨_, rfl⟩
                    obtain ⟨le, e9g⟩ : ∃ z : Nat → Nat, z = V.le := ⟨_, rfl⟩
                    replace hl : lv_has ls 8 [(0, .ref md), (1, .int (nI j)), (2, .int (nI n)), (4, .int (nI pt)), (5, .int (nI rr)), (6, .int (nI lf)), (7, .int (nI u - nI 1))] := by subst e9u e9f; exact hl
                    obtain ⟨N, e9N⟩ : ∃ z : hp_M, z = M17 := ⟨_, rfl⟩
                    replace hM : hp_H D ccl (hp_A M sz) N H := by rw [e9N]; exact hM
                    replace f_md : N md = some (.inr (6, [.ref B.ro, .int (nI 0), .ref B.te, .int (nI (V.ty)), .int (nI (V.ac)), .int (nI (V.al)), .int (nI (V.sd)), .ref B.he, .ref B.cn, .ref B.kd, .ref B.sz, .ref B.ky, .ref B.le, .ref B.dg, .ref B.nm, .ref B.ns, .ref B.sl, .ref B.sb, .int (nI (V.ss)), .ref B.su, .ref B.wi, .ref B.tu])) := by rw [e9N]; exact f_md
                    replace f_ro : N B.ro = some (.inl (ct 1, 72, .inl roF)) := by rw [e9N]; exact f_ro
                    replace f_te : N B.te = some (.inl (ct 1, 64, .inl (nf V.te))) := by rw [e9N]; exact f_te
                    replace f_he : N B.he = some (.inl (ct 1, 8, .inl (V.he))) := by rw [e9N]; exact f_he
                    replace f_cn : N B.cn = some (.inl (ct 1, 12, .inl (nf V.cn))) := by rw [e9N]; exact f_cn
                    replace f_kd : N B.kd = some (.inl (ct 1, 288, .inl (nf (va_up (V.kd) rr 7)))) := by rw [e9N]; exact f_kd
                    replace f_sz : N B.sz = some (.inl (ct 1, 288, .inl (nf (va_up (V.sz) rr 8)))) := by rw [e9N]; exact f_sz
                    replace f_ky : N B.ky = some (.inl (ct 1, 288, .inl (nf (va_up (V.ky) rr 0)))) := by rw [e9N]; exact f_ky
                    replace f_le : N B.le = some (.inl (ct 1, 18432, .inl (nf le))) := by rw [e9N, e9g]; exact f_le
                    replace f_dg : N B.dg = some (.inl (ct 1, 2304, .inl (V.dg))) := by rw [e9N]; exact f_dg
                    replace f_nm : N B.nm = some (.inl (ct 1, 128, .inl (nf V.nm))) := by rw [e9N]; exact f_nm
                    replace f_ns : N B.ns = some (.inl (ct 1, 8, .inl (nf V.ns))) := by rw [e9N]; exact f_ns
                    replace f_sl : N B.sl = some (.inl (ct 1, 16, .inl (nf V.sl))) := by rw [e9N]; exact f_sl
                    replace f_sb : N B.sb = some (.inl (ct 1, 3000, .inl (nf V.sb))) := by rw [e9N]; exact f_sb
                    replace f_su : N B.su = some (.inl (ct 1, 8, .inl (V.su))) := by rw [e9N]; exact f_su
                    replace f_wi : N B.wi = some (.inl (ct 1, 64, .inl (V.wi))) := by rw [e9N]; exact f_wi
                    replace f_tu : N B.tu = some (.inl (ct 1, 8, .inl (V.tu))) := by rw [e9N]; exact f_tu
                    have hu : u ≤ 8 := by omega
                    have hlf : lf = n / 10 ^ (8 - u) := by rw [e9u, e9f]; simp
                    have hle : ∀ k, u ≤ k → k < 8 → le (64 * rr + k) = 48 + n / 10 ^ (7 - k) % 10 := fun k h1 h2 => by omega
                    have hle2 : ∀ q, (q < 64 * rr ∨ 64 * rr + 64 ≤ q) → le q = V.le q := fun q _ => by rw [e9g]
                    have hleb : ∀ i, le i < 65536 := by rw [e9g]; exact b_le
                    have hlb : lf ≤ 99999999 := by omega
                    clear e9u e9f e9g e9N
                    induction u generalizing lf le N H locs ls with
                    | zero =>
                      refine lv_iload hx hb d_MD_edition_153 (lv_at hl 6 rfl) ?_
                      refine lv_if_lt (tgt := 192) hx hb d_MD_edition_155 (by decide) (fun h18 => ?_) (fun h18 => ?_)
                      · refine lv_iload hx hb d_MD_edition_192 (lv_at hl 3 rfl) ?_
                        refine lv_aload_n hx hb d_MD_edition_194 rfl (lv_at hl 0 rfl) ?_
                        refine hp_get S hK hM i_MD f_md rfl 8 (by decide) mf_MD_91 (fun _ h9 => h9) rfl d_MD_edition_195 ?_
                        refine lv_iload_n hx hb d_MD_edition_198 rfl (lv_at hl 1 rfl) ?_
                        refine hp_iald S hK hM 1 f_cn rfl j rfl (by omega) (by omega) d_MD_edition_199 ?_
                        refine nb_ne (tgt := 213) hx hb d_MD_edition_200 (by decide) (by omega) (by have := b_cn (j); omega) (fun hcq => ?_) (fun hcq => ?_)
                        · have hq9 : ∀ q, q < (edL n).length → le (64 * rr + q) = (edL n).getD q 0 := fun q hq => by rw [edL_len] at hq; exact (hle q (Nat.zero_le _) hq).trans (edL_at hq).symm
                          have h64 : (edL n).length ≤ 64 := by rw [edL_len]; decide
                          have hmr : mrA (mkS (V.te) (V.cn) (va_up V.kd rr 7) (va_up V.sz rr 8) (va_up V.ky rr 0) le (V.nm) (V.ns) (V.sl) (V.sb) (V.he) (V.dg) (V.su) (V.wi) (V.tu) 0 (V.ty) (V.ac) (V.al) (V.sd) (V.ss)) rr ((7, 0, edL n, fun q => V.dg (8 * rr + q)) : MR) := ⟨up_s, up_s, up_s.trans edL_len.symm, hq9, fun q hq => rfl, Nat.zero_le _, h64, edL_lt8, Nat.le_refl 7, fun z => by rcases z with z | z <;> cases z⟩
                          have hfr9 : ∀ r, r ≠ 24 * j + pt → va_up V.kd rr 7 r = V.kd r ∧ va_up V.sz rr 8 r = V.sz r ∧ va_up V.ky rr 0 r = V.ky r ∧ (∀ i, i < 64 → le (64 * r + i) = V.le (64 * r + i)) ∧ ∀ i, i < 8 → V.dg (8 * r + i) = V.dg (8 * r + i) := fun r hr => by rw [← err] at hr; exact ⟨up_n hr, up_n hr, up_n hr, fun q hq => hle2 _ (by omega), fun q hq => rfl⟩
                          rcases hpt with ⟨i, a1, a2, e9⟩ | ⟨a1, e9⟩
                          · subst e9
                            have hLw : mdL (mkS (V.te) (V.cn) (va_up V.kd rr 7) (va_up V.sz rr 8) (va_up V.ky rr 0) le (V.nm) (V.ns) (V.sl) (V.sb) (V.he) (V.dg) (V.su) (V.wi) (V.tu) 0 (V.ty) (V.ac) (V.al) (V.sd) (V.ss)) (LL.set j ((LL.getD j []).set pt ((7, 0, edL n, fun q => V.dg (8 * rr + q)) : MR))) := mdL_put hLL (k0 := pt) hj rfl (by rw [List.length_set]; exact hcn) (fun a ha => rfl) (by rw [List.length_set]; exact hL24) (by rw [List.length_set]; exact a1) (fun q hq hq2 => by rw [List.length_set] at hq; exact ⟨hq, by rw [getD_set a1, if_neg hq2]⟩) (by rw [getD_set a1, if_pos rfl, ← err]; exact hmr) hfr9
                            exact hp_vret S hret hlk hM hS (Or.inr (Or.inr ⟨j, n, fun q => V.dg (8 * rr + q), hj, rfl, rfl, hn9, V.cn, va_up V.kd rr 7, va_up V.sz rr 8, va_up V.ky rr 0, le, ⟨f_md, f_ro, f_te, f_he, f_cn, f_kd, f_sz, f_ky, f_le, f_dg, f_nm, f_ns, f_sl, f_sb, f_su, f_wi, f_tu, hB, b_te, b_cn, up_le b_kd (by decide), up_le b_sz (by decide), up_le b_ky (by decide), hleb, b_nm, b_ns, b_sl, b_sb, Nat.zero_le _, b_ty, b_ac, b_al, b_sd, b_ss⟩, Or.inr ⟨pt, a1, a2, hLw⟩⟩)) d_MD_edition_213
                          · exact absurd (e9.trans hcn.symm) hcq
                        · refine lv_aload_n hx hb d_MD_edition_203 rfl (lv_at hl 0 rfl) ?_
                          refine hp_get S hK hM i_MD f_md rfl 8 (by decide) mf_MD_91 (fun _ h9 => h9) rfl d_MD_edition_204 ?_
                          refine lv_iload_n hx hb d_MD_edition_207 rfl (lv_at hl 1 rfl) ?_
                          refine lv_dup2_11 hx hb d_MD_edition_208 rfl rfl ?_
                          refine hp_iald S hK hM 1 f_cn rfl j rfl (by omega) (by omega) d_MD_edition_209 ?_
                          refine lv_iconst (v := nI 1) hx hb d_MD_edition_210 rfl ?_
                          refine nb_iadd hx hb d_MD_edition_211 ?_
                          refine hp_iast S hK hM hS 1 f_cn rfl j rfl (by omega) (by omega) d_MD_edition_212 (fun H locs hM hS => ?_)
                          rw [nf_up] at hM
                          have f_md := hp_k (e := (.inl (ct 1, 12, .inl (nf (va_up (V.cn) j ((V.cn j) + 1)))))) (hp_ne f_md f_cn (by simp)) f_md
                          have f_ro := hp_k (e := (.inl (ct 1, 12, .inl (nf (va_up (V.cn) j ((V.cn j) + 1)))))) (hp_ne f_ro f_cn (by simp)) f_ro
                          have f_te := hp_k (e := (.inl (ct 1, 12, .inl (nf (va_up (V.cn) j ((V.cn j) + 1)))))) (hp_ne f_te f_cn (by simp)) f_te
                          have f_he := hp_k (e := (.inl (ct 1, 12, .inl (nf (va_up (V.cn) j ((V.cn j) + 1)))))) (hp_ne f_he f_cn (by simp)) f_he
                          have f_kd := hp_k (e := (.inl (ct 1, 12, .inl (nf (va_up (V.cn) j ((V.cn j) + 1)))))) (hp_ne f_kd f_cn (by simp)) f_kd
                          have f_sz := hp_k (e := (.inl (ct 1, 12, .inl (nf (va_up (V.cn) j ((V.cn j) + 1)))))) (hp_ne f_sz f_cn (by simp)) f_sz
                          have f_ky := hp_k (e := (.inl (ct 1, 12, .inl (nf (va_up (V.cn) j ((V.cn j) + 1)))))) (hp_ne f_ky f_cn (by simp)) f_ky
                          have f_le := hp_k (e := (.inl (ct 1, 12, .inl (nf (va_up (V.cn) j ((V.cn j) + 1)))))) (hp_ne f_le f_cn (by simp)) f_le
                          have f_dg := hp_k (e := (.inl (ct 1, 12, .inl (nf (va_up (V.cn) j ((V.cn j) + 1)))))) (hp_ne f_dg f_cn (by simp)) f_dg
                          have f_nm := hp_k (e := (.inl (ct 1, 12, .inl (nf (va_up (V.cn) j ((V.cn j) + 1)))))) (hp_ne f_nm f_cn (by simp)) f_nm
                          have f_ns := hp_k (e := (.inl (ct 1, 12, .inl (nf (va_up (V.cn) j ((V.cn j) + 1)))))) (hp_ne f_ns f_cn (by simp)) f_ns
                          have f_sl := hp_k (e := (.inl (ct 1, 12, .inl (nf (va_up (V.cn) j ((V.cn j) + 1)))))) (hp_ne f_sl f_cn (by simp)) f_sl
                          have f_sb := hp_k (e := (.inl (ct 1, 12, .inl (nf (va_up (V.cn) j ((V.cn j) + 1)))))) (hp_ne f_sb f_cn (by simp)) f_sb
                          have f_su := hp_k (e := (.inl (ct 1, 12, .inl (nf (va_up (V.cn) j ((V.cn j) + 1)))))) (hp_ne f_su f_cn (by simp)) f_su
                          have f_wi := hp_k (e := (.inl (ct 1, 12, .inl (nf (va_up (V.cn) j ((V.cn j) + 1)))))) (hp_ne f_wi f_cn (by simp)) f_wi
                          have f_tu := hp_k (e := (.inl (ct 1, 12, .inl (nf (va_up (V.cn) j ((V.cn j) + 1)))))) (hp_ne f_tu f_cn (by simp)) f_tu
                          have f_cn : hp_up N B.cn (.inl (ct 1, 12, .inl (nf (va_up (V.cn) j ((V.cn j) + 1))))) B.cn = some (.inl (ct 1, 12, .inl (nf (va_up (V.cn) j ((V.cn j) + 1))))) := hp_us
                          obtain ⟨M19, eM19⟩ : ∃ z, z = hp_up N B.cn (.inl (ct 1, 12, .inl (nf (va_up (V.cn) j ((V.cn j) + 1))))) := ⟨_, rfl⟩
                          rw [← eM19] at hM f_md f_ro f_te f_he f_cn f_kd f_sz f_ky f_le f_dg f_nm f_ns f_sl f_sb f_su f_wi f_tu
                          have hq9 : ∀ q, q < (edL n).length → le (64 * rr + q) = (edL n).getD q 0 := fun q hq => by rw [edL_len] at hq; exact (hle q (Nat.zero_le _) hq).trans (edL_at hq).symm
                          have h64 : (edL n).length ≤ 64 := by rw [edL_len]; decide
                          have hmr : mrA (mkS (V.te) (va_up V.cn j (V.cn j + 1)) (va_up V.kd rr 7) (va_up V.sz rr 8) (va_up V.ky rr 0) le (V.nm) (V.ns) (V.sl) (V.sb) (V.he) (V.dg) (V.su) (V.wi) (V.tu) 0 (V.ty) (V.ac) (V.al) (V.sd) (V.ss)) rr ((7, 0, edL n, fun q => V.dg (8 * rr + q)) : MR) := ⟨up_s, up_s, up_s.trans edL_len.symm, hq9, fun q hq => rfl, Nat.zero_le _, h64, edL_lt8, Nat.le_refl 7, fun z => by rcases z with z | z <;> cases z⟩
                          have hfr9 : ∀ r, r ≠ 24 * j + pt → va_up V.kd rr 7 r = V.kd r ∧ va_up V.sz rr 8 r = V.sz r ∧ va_up V.ky rr 0 r = V.ky r ∧ (∀ i, i < 64 → le (64 * r + i) = V.le (64 * r + i)) ∧ ∀ i, i < 8 → V.dg (8 * r + i) = V.dg (8 * r + i) := fun r hr => by rw [← err] at hr; exact ⟨up_n hr, up_n hr, up_n hr, fun q hq => hle2 _ (by omega), fun q hq => rfl⟩
                          rcases hpt with ⟨i, a1, a2, e9⟩ | ⟨a1, e9⟩
                          · exact absurd hcq (by omega)
                          · have hlen : ((LL.getD j []) ++ [((7, 0, edL n, fun q => V.dg (8 * rr + q)) : MR)]).length = (LL.getD j []).length + 1 := by rw [List.length_append]; rfl
                            have hLw : mdL (mkS (V.te) (va_up V.cn j (V.cn j + 1)) (va_up V.kd rr 7) (va_up V.sz rr 8) (va_up V.ky rr 0) le (V.nm) (V.ns) (V.sl) (V.sb) (V.he) (V.dg) (V.su) (V.wi) (V.tu) 0 (V.ty) (V.ac) (V.al) (V.sd) (V.ss)) (LL.set j ((LL.getD j []) ++ [((7, 0, edL n, fun q => V.dg (8 * rr + q)) : MR)])) := mdL_put hLL (k0 := pt) hj rfl (by show va_up V.cn j (V.cn j + 1) j = _; rw [up_s, hlen, hcn]) (fun a ha => up_n ha) (by rw [hlen]; omega) (by rw [hlen]; omega) (fun q hq hq2 => by rw [hlen] at hq; exact ⟨by omega, by rw [getD_app (by omega), if_neg (by omega)]⟩) (by rw [getD_app (by omega), if_pos e9, ← err]; exact hmr) hfr9
                            exact hp_vret S hret hlk hM hS (Or.inr (Or.inr ⟨j, n, fun q => V.dg (8 * rr + q), hj, rfl, rfl, hn9, va_up V.cn j (V.cn j + 1), va_up V.kd rr 7, va_up V.sz rr 8, va_up V.ky rr 0, le, ⟨f_md, f_ro, f_te, f_he, f_cn, f_kd, f_sz, f_ky, f_le, f_dg, f_nm, f_ns, f_sl, f_sb, f_su, f_wi, f_tu, hB, b_te, up_le b_cn (by omega), up_le b_kd (by decide), up_le b_sz (by decide), up_le b_ky (by decide), hleb, b_nm, b_ns, b_sl, b_sb, Nat.zero_le _, b_ty, b_ac, b_al, b_sd, b_ss⟩, Or.inl ⟨a1, by omega, hLw⟩⟩)) d_MD_edition_213
                      · exact absurd (by decide) h18
                    | succ u ih =>
                      replace hl : lv_has ls 8 [(0, .ref md), (1, .int (nI j)), (2, .int (nI n)), (4, .int (nI pt)), (5, .int (nI rr)), (6, .int (nI lf)), (7, .int (nI u))] := by rw [show nI u = nI (u + 1) - nI 1 by rw [pk_sub (by omega)]; rfl]; exact hl
                      refine lv_iload hx hb d_MD_edition_153 (lv_at hl 6 rfl) ?_
                      refine nz_lt (tgt := 192) hx hb d_MD_edition_155 (by decide) (by omega) (fun h20 => ?_) (fun h20 => ?_)
                      · exact absurd h20 (fun q => q)
                      · refine lv_aload_n hx hb d_MD_edition_158 rfl (lv_at hl 0 rfl) ?_
                        refine hp_get S hK hM i_MD f_md rfl 12 (by decide) mf_MD_103 (fun _ h9 => h9) rfl d_MD_edition_159 ?_
                        refine lv_bipush (v := nI 64) hx hb d_MD_edition_162 rfl ?_
                        refine lv_iload hx hb d_MD_edition_164 (lv_at hl 4 rfl) ?_
                        refine nb_imul hx hb d_MD_edition_166 ?_
                        refine lv_iload hx hb d_MD_edition_167 (lv_at hl 6 rfl) ?_
                        refine nb_iadd hx hb d_MD_edition_169 ?_
                        refine lv_bipush (v := nI 48) hx hb d_MD_edition_170 rfl ?_
                        refine lv_iload hx hb d_MD_edition_172 (lv_at hl 5 rfl) ?_
                        refine lv_bipush (v := nI 10) hx hb d_MD_edition_174 rfl ?_
                        refine nb_irem hx hb d_MD_edition_176 (by omega) (by omega) (by omega) ?_
                        refine nb_iadd hx hb d_MD_edition_177 ?_
                        refine hp_iast S hK hM hS 1 f_le rfl ((64 * rr) + u) rfl (by omega) (by omega) d_MD_edition_178 (fun H locs hM hS => ?_)
                        rw [nf_up] at hM
                        have f_md := hp_k (e := (.inl (ct 1, 18432, .inl (nf (va_up le ((64 * rr) + u) (48 + (lf % 10))))))) (hp_ne f_md f_le (by simp)) f_md
                        have f_ro := hp_k (e := (.inl (ct 1, 18432, .inl (nf (va_up le ((64 * rr) + u) (48 + (lf % 10))))))) (hp_ne f_ro f_le (by simp)) f_ro
                        have f_te := hp_k (e := (.inl (ct 1, 18432, .inl (nf (va_up le ((64 * rr) + u) (48 + (lf % 10))))))) (hp_ne f_te f_le (by simp)) f_te
                        have f_he := hp_k (e := (.inl (ct 1, 18432, .inl (nf (va_up le ((64 * rr) + u) (48 + (lf % 10))))))) (hp_ne f_he f_le (by simp)) f_he
                        have f_cn := hp_k (e := (.inl (ct 1, 18432, .inl (nf (va_up le ((64 * rr) + u) (48 + (lf % 10))))))) (hp_ne f_cn f_le (by simp)) f_cn
                        have f_kd := hp_k (e := (.inl (ct 1, 18432, .inl (nf (va_up le ((64 * rr) + u) (48 + (lf % 10))))))) (hp_ne f_kd f_le (by simp)) f_kd
                        have f_sz := hp_k (e := (.inl (ct 1, 18432, .inl (nf (va_up le ((64 * rr) + u) (48 + (lf % 10))))))) (hp_ne f_sz f_le (by simp)) f_sz
                        have f_ky := hp_k (e := (.inl (ct 1, 18432, .inl (nf (va_up le ((64 * rr) + u) (48 + (lf % 10))))))) (hp_ne f_ky f_le (by simp)) f_ky
                        have f_dg := hp_k (e := (.inl (ct 1, 18432, .inl (nf (va_up le ((64 * rr) + u) (48 + (lf % 10))))))) (hp_ne f_dg f_le (by simp)) f_dg
                        have f_nm := hp_k (e := (.inl (ct 1, 18432, .inl (nf (va_up le ((64 * rr) + u) (48 + (lf % 10))))))) (hp_ne f_nm f_le (by simp)) f_nm
                        have f_ns := hp_k (e := (.inl (ct 1, 18432, .inl (nf (va_up le ((64 * rr) + u) (48 + (lf % 10))))))) (hp_ne f_ns f_le (by simp)) f_ns
                        have f_sl := hp_k (e := (.inl (ct 1, 18432, .inl (nf (va_up le ((64 * rr) + u) (48 + (lf % 10))))))) (hp_ne f_sl f_le (by simp)) f_sl
                        have f_sb := hp_k (e := (.inl (ct 1, 18432, .inl (nf (va_up le ((64 * rr) + u) (48 + (lf % 10))))))) (hp_ne f_sb f_le (by simp)) f_sb
                        have f_su := hp_k (e := (.inl (ct 1, 18432, .inl (nf (va_up le ((64 * rr) + u) (48 + (lf % 10))))))) (hp_ne f_su f_le (by simp)) f_su
                        have f_wi := hp_k (e := (.inl (ct 1, 18432, .inl (nf (va_up le ((64 * rr) + u) (48 + (lf % 10))))))) (hp_ne f_wi f_le (by simp)) f_wi
                        have f_tu := hp_k (e := (.inl (ct 1, 18432, .inl (nf (va_up le ((64 * rr) + u) (48 + (lf % 10))))))) (hp_ne f_tu f_le (by simp)) f_tu
                        have f_le : hp_up N B.le (.inl (ct 1, 18432, .inl (nf (va_up le ((64 * rr) + u) (48 + (lf % 10)))))) B.le = some (.inl (ct 1, 18432, .inl (nf (va_up le ((64 * rr) + u) (48 + (lf % 10)))))) := hp_us
                        obtain ⟨M21, eM21⟩ : ∃ z, z = hp_up N B.le (.inl (ct 1, 18432, .inl (nf (va_up le ((64 * rr) + u) (48 + (lf % 10)))))) := ⟨_, rfl⟩
                        rw [← eM21] at hM f_md f_ro f_te f_he f_cn f_kd f_sz f_ky f_le f_dg f_nm f_ns f_sl f_sb f_su f_wi f_tu
                        refine lv_iload hx hb d_MD_edition_179 (lv_at hl 5 rfl) ?_
                        refine lv_bipush (v := nI 10) hx hb d_MD_edition_181 rfl ?_
                        refine nb_idiv hx hb d_MD_edition_183 (by omega) (by omega) (by omega) ?_
                        refine lv_istore (lv' := [(6, .int (nI (lf / 10))), (0, .ref md), (1, .int (nI j)), (2, .int (nI n)), (4, .int (nI pt)), (5, .int (nI rr)), (7, .int (nI u))]) hx hb d_MD_edition_184 hl (by decide) rfl (fun ls hl => ?_)
                        refine lv_iinc (v := nI u - nI 1) (lv' := [(7, .int (nI u - nI 1)), (6, .int (nI (lf / 10))), (0, .ref md), (1, .int (nI j)), (2, .int (nI n)), (4, .int (nI pt)), (5, .int (nI rr))]) hx hb d_MD_edition_186 hl (k := 6) rfl (iinc_m1 _) (by decide) rfl (fun ls hl => ?_)
                        refine lv_goto (tgt := 153) hx hb d_MD_edition_189 (by decide) ?_
                        exact ih (lf := lf / 10) (le := va_up le (64 * rr + u) (48 + lf % 10)) (N := M21) (H := H) (locs := locs) (ls := ls) (hl := lv_sub hl [2, 3, 4, 5, 6, 1, 0] rfl) (hM := hM) (hS := hS) (hu := by omega) (hlf := by rw [hlf, Nat.div_div_eq_div_mul, ← Nat.pow_succ]; congr 2; omega) (hle := fun k h1 h2 => by by_cases z : k = u; (rw [z, up_s, hlf]; congr 3; congr 1; omega); (rw [up_n (by omega)]; exact hle k (by omega) h2)) (hle2 := fun q hq => by rw [up_n (by omega)]; exact hle2 q hq) (hleb := up_lt hleb (by have := Nat.mod_lt lf (show 0 < 10 by decide); omega)) (hlb := by omega) (f_md := f_md) (f_ro := f_ro) (f_te := f_te) (f_he := f_he) (f_cn := f_cn) (f_kd := f_kd) (f_sz := f_sz) (f_ky := f_ky) (f_le := f_le) (f_dg := f_dg) (f_nm := f_nm) (f_ns := f_ns) (f_sl := f_sl) (f_sb := f_sb) (f_su := f_su) (f_wi := f_wi) (f_tu := f_tu)
                  · exact absurd rfl h14
              · refine lv_iload hx hb d_MD_edition_92 (lv_at hl 4 rfl) ?_
                refine lv_bipush (v := nI 24) hx hb d_MD_edition_94 rfl ?_
                refine nb_ne (tgt := 103) hx hb d_MD_edition_96 (by decide) (by omega) (by omega) (fun h24 => ?_) (fun h24 => ?_)
                · refine lv_iconst (v := nI 0) hx hb d_MD_edition_103 rfl ?_
                  exact hjv10 _ H _ hM hS (bo_f (h24))
                · refine lv_iconst (v := nI 1) hx hb d_MD_edition_99 rfl ?_
                  refine lv_goto (tgt := 104) hx hb d_MD_edition_100 (by decide) ?_
                  exact hjv10 _ H _ hM hS (bo_t (h24))
            · exact absurd hn1 (by omega)
        | succ fu1 ih1 =>
          have hR5 : k5 < (LL.getD j []).length → V.kd (24 * j + k5) = ((LL.getD j []).getD k5 mr0).1 := fun z => (hLr k5 z).1
          refine lv_iload_n hx hb d_MD_edition_43 rfl (lv_at hl 3 rfl) ?_
          refine nz_ne (tgt := 90) hx hb d_MD_edition_44 (by decide) (by omega) (fun h22 => ?_) (fun h22 => ?_)
          · exact absurd rfl h22
          · refine lv_iload hx hb d_MD_edition_47 (lv_at hl 5 rfl) ?_
            refine lv_aload_n hx hb d_MD_edition_49 rfl (lv_at hl 0 rfl) ?_
            refine hp_get S hK hM i_MD f_md rfl 8 (by decide) mf_MD_91 (fun _ h9 => h9) rfl d_MD_edition_50 ?_
            refine lv_iload_n hx hb d_MD_edition_53 rfl (lv_at hl 1 rfl) ?_
            refine hp_iald S hK hM 1 f_cn rfl j rfl (by omega) (by omega) d_MD_edition_54 ?_
            refine nb_ge (tgt := 90) hx hb d_MD_edition_55 (by decide) (by omega) (by have := b_cn (j); omega) (fun hkn => ?_) (fun hkn => ?_)
            · have hpt24 : pt ≤ 24 := by rcases hpt with ⟨i, a, b, e⟩ | ⟨a, e⟩ <;> omega
              have hk5 : k5 = (LL.getD j []).length := by omega
              subst hk5
              refine lv_aload_n hx hb d_MD_edition_90 rfl (lv_at hl 0 rfl) ?_
              refine lv_iload_n hx hb d_MD_edition_91 rfl (lv_at hl 3 rfl) ?_
              refine w_join hM hS (P := fun z => bo z (pt = 24)) (pc2 := 104) (rest := [.int (nI 0), .ref md]) (fun v23 H locs hM hS hv23 => ?_) (fun hjv23 => ?_)
              · refine hp_calli (go_V S hZ hK hM hS hA hz (c_MD_refuses l D ct Z hZ _ _ md B V hw (nI 0) v23 (False) (pt = 24) (bo_f id) (hv23)) mc_MD_refuses mz_MD ml_MD_178 mi_MD_refuses mx_MD_refuses hd_MD_refuses rfl ⟨by decide, by decide⟩ f_md rfl rfl hl.1 rfl (Nat.le_of_ble_eq_true rfl) d_MD_edition_104 ⟨by decide, by decide⟩) hM hS hA (fun r9 M9 H locs h9 hM hS => ?_)
                obtain ⟨N24, eN24⟩ : ∃ z, z = M9 := ⟨_, rfl⟩
                rw [← eN24] at hM h9
                rcases h9 with ⟨hp1, er, h9⟩ | ⟨hp1, hp2, er, h9⟩ | ⟨hp1, hp2, er, h9⟩
                · subst er
                  have hw4 : mdS ct N24 md B (mkS (V.te) (V.cn) (V.kd) (V.sz) (V.ky) (V.le) (V.nm) (V.ns) (V.sl) (V.sb) (V.he) (V.dg) (V.su) (V.wi) (V.tu) 1 (V.ty) (V.ac) (V.al) (V.sd) (V.ss)) := h9
                  clear f_md f_ro f_te f_he f_cn f_kd f_sz f_ky f_le f_dg f_nm f_ns f_sl f_sb f_su f_wi f_tu
                  obtain ⟨f_md, f_ro, f_te, f_he, f_cn, f_kd, f_sz, f_ky, f_le, f_dg, f_nm, f_ns, f_sl, f_sb, f_su, f_wi, f_tu, hB, hV⟩ := id hw4
                  replace f_md : N24 md = some (.inr (6, [.ref B.ro, .int (nI 1), .ref B.te, .int (nI (V.ty)), .int (nI (V.ac)), .int (nI (V.al)), .int (nI (V.sd)), .ref B.he, .ref B.cn, .ref B.kd, .ref B.sz, .ref B.ky, .ref B.le, .ref B.dg, .ref B.nm, .ref B.ns, .ref B.sl, .ref B.sb, .int (nI (V.ss)), .ref B.su, .ref B.wi, .ref B.tu])) := f_md
                  replace f_ro : N24 B.ro = some (.inl (ct 1, 72, .inl roF)) := f_ro
                  replace f_te : N24 B.te = some (.inl (ct 1, 64, .inl (nf V.te))) := f_te
                  replace f_he : N24 B.he = some (.inl (ct 1, 8, .inl (V.he))) := f_he
                  replace f_cn : N24 B.cn = some (.inl (ct 1, 12, .inl (nf V.cn))) := f_cn
                  replace f_kd : N24 B.kd = some (.inl (ct 1, 288, .inl (nf V.kd))) := f_kd
                  replace f_sz : N24 B.sz = some (.inl (ct 1, 288, .inl (nf V.sz))) := f_sz
                  replace f_ky : N24 B.ky = some (.inl (ct 1, 288, .inl (nf V.ky))) := f_ky
                  replace f_le : N24 B.le = some (.inl (ct 1, 18432, .inl (nf V.le))) := f_le
                  replace f_dg : N24 B.dg = some (.inl (ct 1, 2304, .inl (V.dg))) := f_dg
                  replace f_nm : N24 B.nm = some (.inl (ct 1, 128, .inl (nf V.nm))) := f_nm
                  replace f_ns : N24 B.ns = some (.inl (ct 1, 8, .inl (nf V.ns))) := f_ns
                  replace f_sl : N24 B.sl = some (.inl (ct 1, 16, .inl (nf V.sl))) := f_sl
                  replace f_sb : N24 B.sb = some (.inl (ct 1, 3000, .inl (nf V.sb))) := f_sb
                  replace f_su : N24 B.su = some (.inl (ct 1, 8, .inl (V.su))) := f_su
                  replace f_wi : N24 B.wi = some (.inl (ct 1, 64, .inl (V.wi))) := f_wi
                  replace f_tu : N24 B.tu = some (.inl (ct 1, 8, .inl (V.tu))) := f_tu
                  refine nz_eq (tgt := 111) hx hb d_MD_edition_107 (by decide) (by omega) (fun h25 => ?_) (fun h25 => ?_)
                  · exact absurd h25 (by decide)
                  · exact hp_vret S hret hlk hM hS (absurd hp1 id) d_MD_edition_110
                · subst er
                  have hw4 : mdS ct N24 md B (mkS (V.te) (V.cn) (V.kd) (V.sz) (V.ky) (V.le) (V.nm) (V.ns) (V.sl) (V.sb) (V.he) (V.dg) (V.su) (V.wi) (V.tu) 2 (V.ty) (V.ac) (V.al) (V.sd) (V.ss)) := h9
                  clear f_md f_ro f_te f_he f_cn f_kd f_sz f_ky f_le f_dg f_nm f_ns f_sl f_sb f_su f_wi f_tu
                  obtain ⟨f_md, f_ro, f_te, f_he, f_cn, f_kd, f_sz, f_ky, f_le, f_dg, f_nm, f_ns, f_sl, f_sb, f_su, f_wi, f_tu, hB, hV⟩ := id hw4
                  replace f_md : N24 md = some (.inr (6, [.ref B.ro, .int (nI 2), .ref B.te, .int (nI (V.ty)), .int (nI (V.ac)), .int (nI (V.al)), .int (nI (V.sd)), .ref B.he, .ref B.cn, .ref B.kd, .ref B.sz, .ref B.ky, .ref B.le, .ref B.dg, .ref B.nm, .ref B.ns, .ref B.sl, .ref B.sb, .int (nI (V.ss)), .ref B.su, .ref B.wi, .ref B.tu])) := f_md
                  replace f_ro : N24 B.ro = some (.inl (ct 1, 72, .inl roF)) := f_ro
                  replace f_te : N24 B.te = some (.inl (ct 1, 64, .inl (nf V.te))) := f_te
                  replace f_he : N24 B.he = some (.inl (ct 1, 8, .inl (V.he))) := f_he
                  replace f_cn : N24 B.cn = some (.inl (ct 1, 12, .inl (nf V.cn))) := f_cn
                  replace f_kd : N24 B.kd = some (.inl (ct 1, 288, .inl (nf V.kd))) := f_kd
                  replace f_sz : N24 B.sz = some (.inl (ct 1, 288, .inl (nf V.sz))) := f_sz
                  replace f_ky : N24 B.ky = some (.inl (ct 1, 288, .inl (nf V.ky))) := f_ky
                  replace f_le : N24 B.le = some (.inl (ct 1, 18432, .inl (nf V.le))) := f_le
                  replace f_dg : N24 B.dg = some (.inl (ct 1, 2304, .inl (V.dg))) := f_dg
                  replace f_nm : N24 B.nm = some (.inl (ct 1, 128, .inl (nf V.nm))) := f_nm
                  replace f_ns : N24 B.ns = some (.inl (ct 1, 8, .inl (nf V.ns))) := f_ns
                  replace f_sl : N24 B.sl = some (.inl (ct 1, 16, .inl (nf V.sl))) := f_sl
                  replace f_sb : N24 B.sb = some (.inl (ct 1, 3000, .inl (nf V.sb))) := f_sb
                  replace f_su : N24 B.su = some (.inl (ct 1, 8, .inl (V.su))) := f_su
                  replace f_wi : N24 B.wi = some (.inl (ct 1, 64, .inl (V.wi))) := f_wi
                  replace f_tu : N24 B.tu = some (.inl (ct 1, 8, .inl (V.tu))) := f_tu
                  refine nz_eq (tgt := 111) hx hb d_MD_edition_107 (by decide) (by omega) (fun h26 => ?_) (fun h26 => ?_)
                  · exact absurd h26 (by decide)
                  · rcases hpt with ⟨i, a, b, e9⟩ | ⟨a, e9⟩
                    · exact absurd hL24 (by omega)
                    · exact hp_vret S hret hlk hM hS (Or.inr (Or.inl ⟨⟨j, n, hj, rfl, rfl, hn9, a, by omega⟩, hw4⟩)) d_MD_edition_110
                · subst er
                  have hw4 : mdS ct N24 md B (mkS (V.te) (V.cn) (V.kd) (V.sz) (V.ky) (V.le) (V.nm) (V.ns) (V.sl) (V.sb) (V.he) (V.dg) (V.su) (V.wi) (V.tu) 0 (V.ty) (V.ac) (V.al) (V.sd) (V.ss)) := h9
                  clear f_md f_ro f_te f_he f_cn f_kd f_sz f_ky f_le f_dg f_nm f_ns f_sl f_sb f_su f_wi f_tu
                  obtain ⟨f_md, f_ro, f_te, f_he, f_cn, f_kd, f_sz, f_ky, f_le, f_dg, f_nm, f_ns, f_sl, f_sb, f_su, f_wi, f_tu, hB, hV⟩ := id hw4
                  replace f_md : N24 md = some (.inr (6, [.ref B.ro, .int (nI 0), .ref B.te, .int (nI (V.ty)), .int (nI (V.ac)), .int (nI (V.al)), .int (nI (V.sd)), .ref B.he, .ref B.cn, .ref B.kd, .ref B.sz, .ref B.ky, .ref B.le, .ref B.dg, .ref B.nm, .ref B.ns, .ref B.sl, .ref B.sb, .int (nI (V.ss)), .ref B.su, .ref B.wi, .ref B.tu])) := f_md
                  replace f_ro : N24 B.ro = some (.inl (ct 1, 72, .inl roF)) := f_ro
                  replace f_te : N24 B.te = some (.inl (ct 1, 64, .inl (nf V.te))) := f_te
                  replace f_he : N24 B.he = some (.inl (ct 1, 8, .inl (V.he))) := f_he
                  replace f_cn : N24 B.cn = some (.inl (ct 1, 12, .inl (nf V.cn))) := f_cn
                  replace f_kd : N24 B.kd = some (.inl (ct 1, 288, .inl (nf V.kd))) := f_kd
                  replace f_sz : N24 B.sz = some (.inl (ct 1, 288, .inl (nf V.sz))) := f_sz
                  replace f_ky : N24 B.ky = some (.inl (ct 1, 288, .inl (nf V.ky))) := f_ky
                  replace f_le : N24 B.le = some (.inl (ct 1, 18432, .inl (nf V.le))) := f_le
                  replace f_dg : N24 B.dg = some (.inl (ct 1, 2304, .inl (V.dg))) := f_dg
                  replace f_nm : N24 B.nm = some (.inl (ct 1, 128, .inl (nf V.nm))) := f_nm
                  replace f_ns : N24 B.ns = some (.inl (ct 1, 8, .inl (nf V.ns))) := f_ns
                  replace f_sl : N24 B.sl = some (.inl (ct 1, 16, .inl (nf V.sl))) := f_sl
                  replace f_sb : N24 B.sb = some (.inl (ct 1, 3000, .inl (nf V.sb))) := f_sb
                  replace f_su : N24 B.su = some (.inl (ct 1, 8, .inl (V.su))) := f_su
                  replace f_wi : N24 B.wi = some (.inl (ct 1, 64, .inl (V.wi))) := f_wi
                  replace f_tu : N24 B.tu = some (.inl (ct 1, 8, .inl (V.tu))) := f_tu
                  refine nz_eq (tgt := 111) hx hb d_MD_edition_107 (by decide) (by omega) (fun h27 => ?_) (fun h27 => ?_)
                  · refine lv_aload_n hx hb d_MD_edition_111 rfl (lv_at hl 0 rfl) ?_
                    refine lv_iload_n hx hb d_MD_edition_112 rfl (lv_at hl 1 rfl) ?_
                    refine lv_iload hx hb d_MD_edition_113 (lv_at hl 4 rfl) ?_
                    refine hp_calli (go_V S hZ hK hM hS hA hz (c_MD_place l D ct Z hZ _ _ md j pt) mc_MD_place mz_MD ml_MD_160 mi_MD_place mx_MD_place hd_MD_place rfl ⟨by decide, by decide⟩ f_md rfl rfl hl.1 rfl (Nat.le_of_ble_eq_true rfl) d_MD_edition_115 ⟨by decide, by decide⟩) hM hS hA (fun r9 M9 H locs h9 hM hS => ?_)
                    rw [h9.1] at hM
                    rw [h9.2]
                    obtain ⟨rr, err⟩ : ∃ z, z = 24 * j + pt := ⟨_, rfl⟩
                    rw [← err]
                    have hrr : rr < 288 := by omega
                    refine lv_istore (lv' := [(5, .int (nI rr)), (0, .ref md), (1, .int (nI j)), (2, .int (nI n)), (3, .int (nI 0)), (4, .int (nI pt))]) hx hb d_MD_edition_118 hl (by decide) rfl (fun ls hl => ?_)
                    refine lv_aload_n hx hb d_MD_edition_120 rfl (lv_at hl 1 rfl) ?_
                    refine hp_get S hK hM i_MD f_md rfl 9 (by decide) mf_MD_94 (fun _ h9 => h9) rfl d_MD_edition_121 ?_
                    refine lv_iload hx hb d_MD_edition_124 (lv_at hl 0 rfl) ?_
                    refine lv_bipush (v := nI 7) hx hb d_MD_edition_126 rfl ?_
                    refine hp_iast S hK hM hS 1 f_kd rfl rr rfl (by omega) (by omega) d_MD_edition_128 (fun H locs hM hS => ?_)
                    rw [nf_up] at hM
                    have f_md := hp_k (e := (.inl (ct 1, 288, .inl (nf (va_up (V.kd) rr 7))))) (hp_ne f_md f_kd (by simp)) f_md
                    have f_ro := hp_k (e := (.inl (ct 1, 288, .inl (nf (va_up (V.kd) rr 7))))) (hp_ne f_ro f_kd (by simp)) f_ro
                    have f_te := hp_k (e := (.inl (ct 1, 288, .inl (nf (va_up (V.kd) rr 7))))) (hp_ne f_te f_kd (by simp)) f_te
                    have f_he := hp_k (e := (.inl (ct 1, 288, .inl (nf (va_up (V.kd) rr 7))))) (hp_ne f_he f_kd (by simp)) f_he
                    have f_cn := hp_k (e := (.inl (ct 1, 288, .inl (nf (va_up (V.kd) rr 7))))) (hp_ne f_cn f_kd (by simp)) f_cn
                    have f_sz := hp_k (e := (.inl (ct 1, 288, .inl (nf (va_up (V.kd) rr 7))))) (Ne.symm n_kdsz) f_sz
                    have f_ky := hp_k (e := (.inl (ct 1, 288, .inl (nf (va_up (V.kd) rr 7))))) (Ne.symm n_kdky) f_ky
                    have f_le := hp_k (e := (.inl (ct 1, 288, .inl (nf (va_up (V.kd) rr 7))))) (hp_ne f_le f_kd (by simp)) f_le
                    have f_dg := hp_k (e := (.inl (ct 1, 288, .inl (nf (va_up (V.kd) rr 7))))) (hp_ne f_dg f_kd (by simp)) f_dg
                    have f_nm := hp_k (e := (.inl (ct 1, 288, .inl (nf (va_up (V.kd) rr 7))))) (hp_ne f_nm f_kd (by simp)) f_nm
                    have f_ns := hp_k (e := (.inl (ct 1, 288, .inl (nf (va_up (V.kd) rr 7))))) (hp_ne f_ns f_kd (by simp)) f_ns
                    have f_sl := hp_k (e := (.inl (ct 1, 288, .inl (nf (va_up (V.kd) rr 7))))) (hp_ne f_sl f_kd (by simp)) f_sl
                    have f_sb := hp_k (e := (.inl (ct 1, 288, .inl (nf (va_up (V.kd) rr 7))))) (hp_ne f_sb f_kd (by simp)) f_sb
                    have f_su := hp_k (e := (.inl (ct 1, 288, .inl (nf (va_up (V.kd) rr 7))))) (hp_ne f_su f_kd (by simp)) f_su
                    have f_wi := hp_k (e := (.inl (ct 1, 288, .inl (nf (va_up (V.kd) rr 7))))) (hp_ne f_wi f_kd (by simp)) f_wi
                    have f_tu := hp_k (e := (.inl (ct 1, 288, .inl (nf (va_up (V.kd) rr 7))))) (hp_ne f_tu f_kd (by simp)) f_tu
                    have f_kd : hp_up N24 B.kd (.inl (ct 1, 288, .inl (nf (va_up (V.kd) rr 7)))) B.kd = some (.inl (ct 1, 288, .inl (nf (va_up (V.kd) rr 7)))) := hp_us
                    obtain ⟨M28, eM28⟩ : ∃ z, z = hp_up N24 B.kd (.inl (ct 1, 288, .inl (nf (va_up (V.kd) rr 7)))) := ⟨_, rfl⟩
                    rw [← eM28] at hM f_md f_ro f_te f_he f_cn f_kd f_sz f_ky f_le f_dg f_nm f_ns f_sl f_sb f_su f_wi f_tu
                    refine lv_aload_n hx hb d_MD_edition_129 rfl (lv_at hl 1 rfl) ?_
                    refine hp_get S hK hM i_MD f_md rfl 10 (by decide) mf_MD_97 (fun _ h9 => h9) rfl d_MD_edition_130 ?_
                    refine lv_iload hx hb d_MD_edition_133 (lv_at hl 0 rfl) ?_
                    refine lv_bipush (v := nI 8) hx hb d_MD_edition_135 rfl ?_
                    refine hp_iast S hK hM hS 1 f_sz rfl rr rfl (by omega) (by omega) d_MD_edition_137 (fun H locs hM hS => ?_)
                    rw [nf_up] at hM
                    have f_md := hp_k (e := (.inl (ct 1, 288, .inl (nf (va_up (V.sz) rr 8))))) (hp_ne f_md f_sz (by simp)) f_md
                    have f_ro := hp_k (e := (.inl (ct 1, 288, .inl (nf (va_up (V.sz) rr 8))))) (hp_ne f_ro f_sz (by simp)) f_ro
                    have f_te := hp_k (e := (.inl (ct 1, 288, .inl (nf (va_up (V.sz) rr 8))))) (hp_ne f_te f_sz (by simp)) f_te
                    have f_he := hp_k (e := (.inl (ct 1, 288, .inl (nf (va_up (V.sz) rr 8))))) (hp_ne f_he f_sz (by simp)) f_he
                    have f_cn := hp_k (e := (.inl (ct 1, 288, .inl (nf (va_up (V.sz) rr 8))))) (hp_ne f_cn f_sz (by simp)) f_cn
                    have f_kd := hp_k (e := (.inl (ct 1, 288, .inl (nf (va_up (V.sz) rr 8))))) n_kdsz f_kd
                    have f_ky := hp_k (e := (.inl (ct 1, 288, .inl (nf (va_up (V.sz) rr 8))))) (Ne.symm n_szky) f_ky
                    have f_le := hp_k (e := (.inl (ct 1, 288, .inl (nf (va_up (V.sz) rr 8))))) (hp_ne f_le f_sz (by simp)) f_le
                    have f_dg := hp_k (e := (.inl (ct 1, 288, .inl (nf (va_up (V.sz) rr 8))))) (hp_ne f_dg f_sz (by simp)) f_dg
                    have f_nm := hp_k (e := (.inl (ct 1, 288, .inl (nf (va_up (V.sz) rr 8))))) (hp_ne f_nm f_sz (by simp)) f_nm
                    have f_ns := hp_k (e := (.inl (ct 1, 288, .inl (nf (va_up (V.sz) rr 8))))) (hp_ne f_ns f_sz (by simp)) f_ns
                    have f_sl := hp_k (e := (.inl (ct 1, 288, .inl (nf (va_up (V.sz) rr 8))))) (hp_ne f_sl f_sz (by simp)) f_sl
                    have f_sb := hp_k (e := (.inl (ct 1, 288, .inl (nf (va_up (V.sz) rr 8))))) (hp_ne f_sb f_sz (by simp)) f_sb
                    have f_su := hp_k (e := (.inl (ct 1, 288, .inl (nf (va_up (V.sz) rr 8))))) (hp_ne f_su f_sz (by simp)) f_su
                    have f_wi := hp_k (e := (.inl (ct 1, 288, .inl (nf (va_up (V.sz) rr 8))))) (hp_ne f_wi f_sz (by simp)) f_wi
                    have f_tu := hp_k (e := (.inl (ct 1, 288, .inl (nf (va_up (V.sz) rr 8))))) (hp_ne f_tu f_sz (by simp)) f_tu
                    have f_sz : hp_up M28 B.sz (.inl (ct 1, 288, .inl (nf (va_up (V.sz) rr 8)))) B.sz = some (.inl (ct 1, 288, .inl (nf (va_up (V.sz) rr 8)))) := hp_us
                    obtain ⟨M29, eM29⟩ : ∃ z, z = hp_up M28 B.sz (.inl (ct 1, 288, .inl (nf (va_up (V.sz) rr 8)))) := ⟨_, rfl⟩
                    rw [← eM29] at hM f_md f_ro f_te f_he f_cn f_kd f_sz f_ky f_le f_dg f_nm f_ns f_sl f_sb f_su f_wi f_tu
                    refine lv_aload_n hx hb d_MD_edition_138 rfl (lv_at hl 1 rfl) ?_
                    refine hp_get S hK hM i_MD f_md rfl 11 (by decide) mf_MD_100 (fun _ h9 => h9) rfl d_MD_edition_139 ?_
                    refine lv_iload hx hb d_MD_edition_142 (lv_at hl 0 rfl) ?_
                    refine lv_iconst (v := nI 0) hx hb d_MD_edition_144 rfl ?_
                    refine hp_iast S hK hM hS 1 f_ky rfl rr rfl (by omega) (by omega) d_MD_edition_145 (fun H locs hM hS => ?_)
                    rw [nf_up] at hM
                    have f_md := hp_k (e := (.inl (ct 1, 288, .inl (nf (va_up (V.ky) rr 0))))) (hp_ne f_md f_ky (by simp)) f_md
                    have f_ro := hp_k (e := (.inl (ct 1, 288, .inl (nf (va_up (V.ky) rr 0))))) (hp_ne f_ro f_ky (by simp)) f_ro
                    have f_te := hp_k (e := (.inl (ct 1, 288, .inl (nf (va_up (V.ky) rr 0))))) (hp_ne f_te f_ky (by simp)) f_te
                    have f_he := hp_k (e := (.inl (ct 1, 288, .inl (nf (va_up (V.ky) rr 0))))) (hp_ne f_he f_ky (by simp)) f_he
                    have f_cn := hp_k (e := (.inl (ct 1, 288, .inl (nf (va_up (V.ky) rr 0))))) (hp_ne f_cn f_ky (by simp)) f_cn
                    have f_kd := hp_k (e := (.inl (ct 1, 288, .inl (nf (va_up (V.ky) rr 0))))) n_kdky f_kd
                    have f_sz := hp_k (e := (.inl (ct 1, 288, .inl (nf (va_up (V.ky) rr 0))))) n_szky f_sz
                    have f_le := hp_k (e := (.inl (ct 1, 288, .inl (nf (va_up (V.ky) rr 0))))) (hp_ne f_le f_ky (by simp)) f_le
                    have f_dg := hp_k (e := (.inl (ct 1, 288, .inl (nf (va_up (V.ky) rr 0))))) (hp_ne f_dg f_ky (by simp)) f_dg
                    have f_nm := hp_k (e := (.inl (ct 1, 288, .inl (nf (va_up (V.ky) rr 0))))) (hp_ne f_nm f_ky (by simp)) f_nm
                    have f_ns := hp_k (e := (.inl (ct 1, 288, .inl (nf (va_up (V.ky) rr 0))))) (hp_ne f_ns f_ky (by simp)) f_ns
                    have f_sl := hp_k (e := (.inl (ct 1, 288, .inl (nf (va_up (V.ky) rr 0))))) (hp_ne f_sl f_ky (by simp)) f_sl
                    have f_sb := hp_k (e := (.inl (ct 1, 288, .inl (nf (va_up (V.ky) rr 0))))) (hp_ne f_sb f_ky (by simp)) f_sb
                    have f_su := hp_k (e := (.inl (ct 1, 288, .inl (nf (va_up (V.ky) rr 0))))) (hp_ne f_su f_ky (by simp)) f_su
                    have f_wi := hp_k (e := (.inl (ct 1, 288, .inl (nf (va_up (V.ky) rr 0))))) (hp_ne f_wi f_ky (by simp)) f_wi
                    have f_tu := hp_k (e := (.inl (ct 1, 288, .inl (nf (va_up (V.ky) rr 0))))) (hp_ne f_tu f_ky (by simp)) f_tu
                    have f_ky : hp_up M29 B.ky (.inl (ct 1, 288, .inl (nf (va_up (V.ky) rr 0)))) B.ky = some (.inl (ct 1, 288, .inl (nf (va_up (V.ky) rr 0)))) := hp_us
                    obtain ⟨M30, eM30⟩ : ∃ z, z = hp_up M29 B.ky (.inl (ct 1, 288, .inl (nf (va_up (V.ky) rr 0)))) := ⟨_, rfl⟩
                    rw [← eM30] at hM f_md f_ro f_te f_he f_cn f_kd f_sz f_ky f_le f_dg f_nm f_ns f_sl f_sb f_su f_wi f_tu
                    refine lv_iload_n hx hb d_MD_edition_146 rfl (lv_at hl 3 rfl) ?_
                    refine lv_istore (lv' := [(6, .int (nI n)), (5, .int (nI rr)), (0, .ref md), (1, .int (nI j)), (2, .int (nI n)), (3, .int (nI 0)), (4, .int (nI pt))]) hx hb d_MD_edition_147 hl (by decide) rfl (fun ls hl => ?_)
                    refine lv_bipush (v := nI 7) hx hb d_MD_edition_149 rfl ?_
                    refine lv_istore (lv' := [(7, .int (nI 7)), (6, .int (nI n)), (5, .int (nI rr)), (0, .ref md), (1, .int (nI j)), (2, .int (nI n)), (3, .int (nI 0)), (4, .int (nI pt))]) hx hb d_MD_edition_151 hl (by decide) rfl (fun ls hl => ?_)
                    replace hl : lv_has ls 8 [(0, .ref md), (1, .int (nI j)), (2, .int (nI n)), (4, .int (nI pt)), (5, .int (nI rr)), (6, .int (nI n)), (7, .int (nI 7))] := lv_sub hl [3, 4, 5, 7, 2, 1, 0] rfl
                    obtain ⟨u, e9u⟩ : ∃ z : Nat, z = 8 := ⟨_, rfl⟩
                    obtain ⟨lf, e9f⟩ : ∃ z : Nat, z = n := ⟨_, rfl⟩
                    obtain ⟨le, e9g⟩ : ∃ z : Nat → Nat, z = V.le := ⟨_, rfl⟩
                    replace hl : lv_has ls 8 [(0, .ref md), (1, .int (nI j)), (2, .int (nI n)), (4, .int (nI pt)), (5, .int (nI rr)), (6, .int (nI lf)), (7, .int (nI u - nI 1))] := by subst e9u e9f; exact hl
                    obtain ⟨N, e9N⟩ : ∃ z : hp_M, z = M30 := ⟨_, rfl⟩
                    replace hM : hp_H D ccl (hp_A M sz) N H := by rw [e9N]; exact hM
                    replace f_md : N md = some (.inr (6, [.ref B.ro, .int (nI 0), .ref B.te, .int (nI (V.ty)), .int (nI (V.ac)), .int (nI (V.al)), .int (nI (V.sd)), .ref B.he, .ref B.cn, .ref B.kd, .ref B.sz, .ref B.ky, .ref B.le, .ref B.dg, .ref B.nm, .ref B.ns, .ref B.sl, .ref B.sb, .int (nI (V.ss)), .ref B.su, .ref B.wi, .ref B.tu])) := by rw [e9N]; exact f_md
                    replace f_ro : N B.ro = some (.inl (ct 1, 72, .inl roF)) := by rw [e9N]; exact f_ro
                    replace f_te : N B.te = some (.inl (ct 1, 64, .inl (nf V.te))) := by rw [e9N]; exact f_te
                    replace f_he : N B.he = some (.inl (ct 1, 8, .inl (V.he))) := by rw [e9N]; exact f_he
                    replace f_cn : N B.cn = some (.inl (ct 1, 12, .inl (nf V.cn))) := by rw [e9N]; exact f_cn
                    replace f_kd : N B.kd = some (.inl (ct 1, 288, .inl (nf (va_up (V.kd) rr 7)))) := by rw [e9N]; exact f_kd
                    replace f_sz : N B.sz = some (.inl (ct 1, 288, .inl (nf (va_up (V.sz) rr 8)))) := by rw [e9N]; exact f_sz
                    replace f_ky : N B.ky = some (.inl (ct 1, 288, .inl (nf (va_up (V.ky) rr 0)))) := by rw [e9N]; exact f_ky
                    replace f_le : N B.le = some (.inl (ct 1, 18432, .inl (nf le))) := by rw [e9N, e9g]; exact f_le
                    replace f_dg : N B.dg = some (.inl (ct 1, 2304, .inl (V.dg))) := by rw [e9N]; exact f_dg
                    replace f_nm : N B.nm = some (.inl (ct 1, 128, .inl (nf V.nm))) := by rw [e9N]; exact f_nm
                    replace f_ns : N B.ns = some (.inl (ct 1, 8, .inl (nf V.ns))) := by rw [e9N]; exact f_ns
                    replace f_sl : N B.sl = some (.inl (ct 1, 16, .inl (nf V.sl))) := by rw [e9N]; exact f_sl
                    replace f_sb : N B.sb = some (.inl (ct 1, 3000, .inl (nf V.sb))) := by rw [e9N]; exact f_sb
                    replace f_su : N B.su = some (.inl (ct 1, 8, .inl (V.su))) := by rw [e9N]; exact f_su
                    replace f_wi : N B.wi = some (.inl (ct 1, 64, .inl (V.wi))) := by rw [e9N]; exact f_wi
                    replace f_tu : N B.tu = some (.inl (ct 1, 8, .inl (V.tu))) := by rw [e9N]; exact f_tu
                    have hu : u ≤ 8 := by omega
                    have hlf : lf = n / 10 ^ (8 - u) := by rw [e9u, e9f]; simp
                    have hle : ∀ k, u ≤ k → k < 8 → le (64 * rr + k) = 48 + n / 10 ^ (7 - k) % 10 := fun k h1 h2 => by omega
                    have hle2 : ∀ q, (q < 64 * rr ∨ 64 * rr + 64 ≤ q) → le q = V.le q := fun q _ => by rw [e9g]
                    have hleb : ∀ i, le i < 65536 := by rw [e9g]; exact b_le
                    have hlb : lf ≤ 99999999 := by omega
                    clear e9u e9f e9g e9N
                    induction u generalizing lf le N H locs ls with
                    | zero =>
                      refine lv_iload hx hb d_MD_edition_153 (lv_at hl 6 rfl) ?_
                      refine lv_if_lt (tgt := 192) hx hb d_MD_edition_155 (by decide) (fun h31 => ?_) (fun h31 => ?_)
                      · refine lv_iload hx hb d_MD_edition_192 (lv_at hl 3 rfl) ?_
                        refine lv_aload_n hx hb d_MD_edition_194 rfl (lv_at hl 0 rfl) ?_
                        refine hp_get S hK hM i_MD f_md rfl 8 (by decide) mf_MD_91 (fun _ h9 => h9) rfl d_MD_edition_195 ?_
                        refine lv_iload_n hx hb d_MD_edition_198 rfl (lv_at hl 1 rfl) ?_
                        refine hp_iald S hK hM 1 f_cn rfl j rfl (by omega) (by omega) d_MD_edition_199 ?_
                        refine nb_ne (tgt := 213) hx hb d_MD_edition_200 (by decide) (by omega) (by have := b_cn (j); omega) (fun hcq => ?_) (fun hcq => ?_)
                        · have hq9 : ∀ q, q < (edL n).length → le (64 * rr + q) = (edL n).getD q 0 := fun q hq => by rw [edL_len] at hq; exact (hle q (Nat.zero_le _) hq).trans (edL_at hq).symm
                          have h64 : (edL n).length ≤ 64 := by rw [edL_len]; decide
                          have hmr : mrA (mkS (V.te) (V.cn) (va_up V.kd rr 7) (va_up V.sz rr 8) (va_up V.ky rr 0) le (V.nm) (V.ns) (V.sl) (V.sb) (V.he) (V.dg) (V.su) (V.wi) (V.tu) 0 (V.ty) (V.ac) (V.al) (V.sd) (V.ss)) rr ((7, 0, edL n, fun q => V.dg (8 * rr + q)) : MR) := ⟨up_s, up_s, up_s.trans edL_len.symm, hq9, fun q hq => rfl, Nat.zero_le _, h64, edL_lt8, Nat.le_refl 7, fun z => by rcases z with z | z <;> cases z⟩
                          have hfr9 : ∀ r, r ≠ 24 * j + pt → va_up V.kd rr 7 r = V.kd r ∧ va_up V.sz rr 8 r = V.sz r ∧ va_up V.ky rr 0 r = V.ky r ∧ (∀ i, i < 64 → le (64 * r + i) = V.le (64 * r + i)) ∧ ∀ i, i < 8 → V.dg (8 * r + i) = V.dg (8 * r + i) := fun r hr => by rw [← err] at hr; exact ⟨up_n hr, up_n hr, up_n hr, fun q hq => hle2 _ (by omega), fun q hq => rfl⟩
                          rcases hpt with ⟨i, a1, a2, e9⟩ | ⟨a1, e9⟩
                          · subst e9
                            have hLw : mdL (mkS (V.te) (V.cn) (va_up V.kd rr 7) (va_up V.sz rr 8) (va_up V.ky rr 0) le (V.nm) (V.ns) (V.sl) (V.sb) (V.he) (V.dg) (V.su) (V.wi) (V.tu) 0 (V.ty) (V.ac) (V.al) (V.sd) (V.ss)) (LL.set j ((LL.getD j []).set pt ((7, 0, edL n, fun q => V.dg (8 * rr + q)) : MR))) := mdL_put hLL (k0 := pt) hj rfl (by rw [List.length_set]; exact hcn) (fun a ha => rfl) (by rw [List.length_set]; exact hL24) (by rw [List.length_set]; exact a1) (fun q hq hq2 => by rw [List.length_set] at hq; exact ⟨hq, by rw [getD_set a1, if_neg hq2]⟩) (by rw [getD_set a1, if_pos rfl, ← err]; exact hmr) hfr9
                            exact hp_vret S hret hlk hM hS (Or.inr (Or.inr ⟨j, n, fun q => V.dg (8 * rr + q), hj, rfl, rfl, hn9, V.cn, va_up V.kd rr 7, va_up V.sz rr 8, va_up V.ky rr 0, le, ⟨f_md, f_ro, f_te, f_he, f_cn, f_kd, f_sz, f_ky, f_le, f_dg, f_nm, f_ns, f_sl, f_sb, f_su, f_wi, f_tu, hB, b_te, b_cn, up_le b_kd (by decide), up_le b_sz (by decide), up_le b_ky (by decide), hleb, b_nm, b_ns, b_sl, b_sb, Nat.zero_le _, b_ty, b_ac, b_al, b_sd, b_ss⟩, Or.inr ⟨pt, a1, a2, hLw⟩⟩)) d_MD_edition_213
                          · exact absurd (e9.trans hcn.symm) hcq
                        · refine lv_aload_n hx hb d_MD_edition_203 rfl (lv_at hl 0 rfl) ?_
                          refine hp_get S hK hM i_MD f_md rfl 8 (by decide) mf_MD_91 (fun _ h9 => h9) rfl d_MD_edition_204 ?_
                          refine lv_iload_n hx hb d_MD_edition_207 rfl (lv_at hl 1 rfl) ?_
                          refine lv_dup2_11 hx hb d_MD_edition_208 rfl rfl ?_
                          refine hp_iald S hK hM 1 f_cn rfl j rfl (by omega) (by omega) d_MD_edition_209 ?_
                          refine lv_iconst (v := nI 1) hx hb d_MD_edition_210 rfl ?_
                          refine nb_iadd hx hb d_MD_edition_211 ?_
                          refine hp_iast S hK hM hS 1 f_cn rfl j rfl (by omega) (by omega) d_MD_edition_212 (fun H locs hM hS => ?_)
                          rw [nf_up] at hM
                          have f_md := hp_k (e := (.inl (ct 1, 12, .inl (nf (va_up (V.cn) j ((V.cn j) + 1)))))) (hp_ne f_md f_cn (by simp)) f_md
                          have f_ro := hp_k (e := (.inl (ct 1, 12, .inl (nf (va_up (V.cn) j ((V.cn j) + 1)))))) (hp_ne f_ro f_cn (by simp)) f_ro
                          have f_te := hp_k (e := (.inl (ct 1, 12, .inl (nf (va_up (V.cn) j ((V.cn j) + 1)))))) (hp_ne f_te f_cn (by simp)) f_te
                          have f_he := hp_k (e := (.inl (ct 1, 12, .inl (nf (va_up (V.cn) j ((V.cn j) + 1)))))) (hp_ne f_he f_cn (by simp)) f_he
                          have f_kd := hp_k (e := (.inl (ct 1, 12, .inl (nf (va_up (V.cn) j ((V.cn j) + 1)))))) (hp_ne f_kd f_cn (by simp)) f_kd
                          have f_sz := hp_k (e := (.inl (ct 1, 12, .inl (nf (va_up (V.cn) j ((V.cn j) + 1)))))) (hp_ne f_sz f_cn (by simp)) f_sz
                          have f_ky := hp_k (e := (.inl (ct 1, 12, .inl (nf (va_up (V.cn) j ((V.cn j) + 1)))))) (hp_ne f_ky f_cn (by simp)) f_ky
                          have f_le := hp_k (e := (.inl (ct 1, 12, .inl (nf (va_up (V.cn) j ((V.cn j) + 1)))))) (hp_ne f_le f_cn (by simp)) f_le
                          have f_dg := hp_k (e := (.inl (ct 1, 12, .inl (nf (va_up (V.cn) j ((V.cn j) + 1)))))) (hp_ne f_dg f_cn (by simp)) f_dg
                          have f_nm := hp_k (e := (.inl (ct 1, 12, .inl (nf (va_up (V.cn) j ((V.cn j) + 1)))))) (hp_ne f_nm f_cn (by simp)) f_nm
                          have f_ns := hp_k (e := (.inl (ct 1, 12, .inl (nf (va_up (V.cn) j ((V.cn j) + 1)))))) (hp_ne f_ns f_cn (by simp)) f_ns
                          have f_sl := hp_k (e := (.inl (ct 1, 12, .inl (nf (va_up (V.cn) j ((V.cn j) + 1)))))) (hp_ne f_sl f_cn (by simp)) f_sl
                          have f_sb := hp_k (e := (.inl (ct 1, 12, .inl (nf (va_up (V.cn) j ((V.cn j) + 1)))))) (hp_ne f_sb f_cn (by simp)) f_sb
                          have f_su := hp_k (e := (.inl (ct 1, 12, .inl (nf (va_up (V.cn) j ((V.cn j) + 1)))))) (hp_ne f_su f_cn (by simp)) f_su
                          have f_wi := hp_k (e := (.inl (ct 1, 12, .inl (nf (va_up (V.cn) j ((V.cn j) + 1)))))) (hp_ne f_wi f_cn (by simp)) f_wi
                          have f_tu := hp_k (e := (.inl (ct 1, 12, .inl (nf (va_up (V.cn) j ((V.cn j) + 1)))))) (hp_ne f_tu f_cn (by simp)) f_tu
                          have f_cn : hp_up N B.cn (.inl (ct 1, 12, .inl (nf (va_up (V.cn) j ((V.cn j) + 1))))) B.cn = some (.inl (ct 1, 12, .inl (nf (va_up (V.cn) j ((V.cn j) + 1))))) := hp_us
                          obtain ⟨M32, eM32⟩ : ∃ z, z = hp_up N B.cn (.inl (ct 1, 12, .inl (nf (va_up (V.cn) j ((V.cn j) + 1))))) := ⟨_, rfl⟩
                          rw [← eM32] at hM f_md f_ro f_te f_he f_cn f_kd f_sz f_ky f_le f_dg f_nm f_ns f_sl f_sb f_su f_wi f_tu
                          have hq9 : ∀ q, q < (edL n).length → le (64 * rr + q) = (edL n).getD q 0 := fun q hq => by rw [edL_len] at hq; exact (hle q (Nat.zero_le _) hq).trans (edL_at hq).symm
                          have h64 : (edL n).length ≤ 64 := by rw [edL_len]; decide
                          have hmr : mrA (mkS (V.te) (va_up V.cn j (V.cn j + 1)) (va_up V.kd rr 7) (va_up V.sz rr 8) (va_up V.ky rr 0) le (V.nm) (V.ns) (V.sl) (V.sb) (V.he) (V.dg) (V.su) (V.wi) (V.tu) 0 (V.ty) (V.ac) (V.al) (V.sd) (V.ss)) rr ((7, 0, edL n, fun q => V.dg (8 * rr + q)) : MR) := ⟨up_s, up_s, up_s.trans edL_len.symm, hq9, fun q hq => rfl, Nat.zero_le _, h64, edL_lt8, Nat.le_refl 7, fun z => by rcases z with z | z <;> cases z⟩
                          have hfr9 : ∀ r, r ≠ 24 * j + pt → va_up V.kd rr 7 r = V.kd r ∧ va_up V.sz rr 8 r = V.sz r ∧ va_up V.ky rr 0 r = V.ky r ∧ (∀ i, i < 64 → le (64 * r + i) = V.le (64 * r + i)) ∧ ∀ i, i < 8 → V.dg (8 * r + i) = V.dg (8 * r + i) := fun r hr => by rw [← err] at hr; exact ⟨up_n hr, up_n hr, up_n hr, fun q hq => hle2 _ (by omega), fun q hq => rfl⟩
                          rcases hpt with ⟨i, a1, a2, e9⟩ | ⟨a1, e9⟩
                          · exact absurd hcq (by omega)
                          · have hlen : ((LL.getD j []) ++ [((7, 0, edL n, fun q => V.dg (8 * rr + q)) : MR)]).length = (LL.getD j []).length + 1 := by rw [List.length_append]; rfl
                            have hLw : mdL (mkS (V.te) (va_up V.cn j (V.cn j + 1)) (va_up V.kd rr 7) (va_up V.sz rr 8) (va_up V.ky rr 0) le (V.nm) (V.ns) (V.sl) (V.sb) (V.he) (V.dg) (V.su) (V.wi) (V.tu) 0 (V.ty) (V.ac) (V.al) (V.sd) (V.ss)) (LL.set j ((LL.getD j []) ++ [((7, 0, edL n, fun q => V.dg (8 * rr + q)) : MR)])) := mdL_put hLL (k0 := pt) hj rfl (by show va_up V.cn j (V.cn j + 1) j = _; rw [up_s, hlen, hcn]) (fun a ha => up_n ha) (by rw [hlen]; omega) (by rw [hlen]; omega) (fun q hq hq2 => by rw [hlen] at hq; exact ⟨by omega, by rw [getD_app (by omega), if_neg (by omega)]⟩) (by rw [getD_app (by omega), if_pos e9, ← err]; exact hmr) hfr9
                            exact hp_vret S hret hlk hM hS (Or.inr (Or.inr ⟨j, n, fun q => V.dg (8 * rr + q), hj, rfl, rfl, hn9, va_up V.cn j (V.cn j + 1), va_up V.kd rr 7, va_up V.sz rr 8, va_up V.ky rr 0, le, ⟨f_md, f_ro, f_te, f_he, f_cn, f_kd, f_sz, f_ky, f_le, f_dg, f_nm, f_ns, f_sl, f_sb, f_su, f_wi, f_tu, hB, b_te, up_le b_cn (by omega), up_le b_kd (by decide), up_le b_sz (by decide), up_le b_ky (by decide), hleb, b_nm, b_ns, b_sl, b_sb, Nat.zero_le _, b_ty, b_ac, b_al, b_sd, b_ss⟩, Or.inl ⟨a1, by omega, hLw⟩⟩)) d_MD_edition_213
                      · exact absurd (by decide) h31
                    | succ u ih =>
                      replace hl : lv_has ls 8 [(0, .ref md), (1, .int (nI j)), (2, .int (nI n)), (4, .int (nI pt)), (5, .int (nI rr)), (6, .int (nI lf)), (7, .int (nI u))] := by rw [show nI u = nI (u + 1) - nI 1 by rw [pk_sub (by omega)]; rfl]; exact hl
                      refine lv_iload hx hb d_MD_edition_153 (lv_at hl 6 rfl) ?_
                      refine nz_lt (tgt := 192) hx hb d_MD_edition_155 (by decide) (by omega) (fun h33 => ?_) (fun h33 => ?_)
                      · exact absurd h33 (fun q => q)
                      · refine lv_aload_n hx hb d_MD_edition_158 rfl (lv_at hl 0 rfl) ?_
                        refine hp_get S hK hM i_MD f_md rfl 12 (by decide) mf_MD_103 (fun _ h9 => h9) rfl d_MD_edition_159 ?_
                        refine lv_bipush (v := nI 64) hx hb d_MD_edition_162 rfl ?_
                        refine lv_iload hx hb d_MD_edition_164 (lv_at hl 4 rfl) ?_
                        refine nb_imul hx hb d_MD_edition_166 ?_
                        refine lv_iload hx hb d_MD_edition_167 (lv_at hl 6 rfl) ?_
                        refine nb_iadd hx hb d_MD_edition_169 ?_
                        refine lv_bipush (v := nI 48) hx hb d_MD_edition_170 rfl ?_
                        refine lv_iload hx hb d_MD_edition_172 (lv_at hl 5 rfl) ?_
                        refine lv_bipush (v := nI 10) hx hb d_MD_edition_174 rfl ?_
                        refine nb_irem hx hb d_MD_edition_176 (by omega) (by omega) (by omega) ?_
                        refine nb_iadd hx hb d_MD_edition_177 ?_
                        refine hp_iast S hK hM hS 1 f_le rfl ((64 * rr) + u) rfl (by omega) (by omega) d_MD_edition_178 (fun H locs hM hS => ?_)
                        rw [nf_up] at hM
                        have f_md := hp_k (e := (.inl (ct 1, 18432, .inl (nf (va_up le ((64 * rr) + u) (48 + (lf % 10))))))) (hp_ne f_md f_le (by simp)) f_md
                        have f_ro := hp_k (e := (.inl (ct 1, 18432, .inl (nf (va_up le ((64 * rr) + u) (48 + (lf % 10))))))) (hp_ne f_ro f_le (by simp)) f_ro
                        have f_te := hp_k (e := (.inl (ct 1, 18432, .inl (nf (va_up le ((64 * rr) + u) (48 + (lf % 10))))))) (hp_ne f_te f_le (by simp)) f_te
                        have f_he := hp_k (e := (.inl (ct 1, 18432, .inl (nf (va_up le ((64 * rr) + u) (48 + (lf % 10))))))) (hp_ne f_he f_le (by simp)) f_he
                        have f_cn := hp_k (e := (.inl (ct 1, 18432, .inl (nf (va_up le ((64 * rr) + u) (48 + (lf % 10))))))) (hp_ne f_cn f_le (by simp)) f_cn
                        have f_kd := hp_k (e := (.inl (ct 1, 18432, .inl (nf (va_up le ((64 * rr) + u) (48 + (lf % 10))))))) (hp_ne f_kd f_le (by simp)) f_kd
                        have f_sz := hp_k (e := (.inl (ct 1, 18432, .inl (nf (va_up le ((64 * rr) + u) (48 + (lf % 10))))))) (hp_ne f_sz f_le (by simp)) f_sz
                        have f_ky := hp_k (e := (.inl (ct 1, 18432, .inl (nf (va_up le ((64 * rr) + u) (48 + (lf % 10))))))) (hp_ne f_ky f_le (by simp)) f_ky
                        have f_dg := hp_k (e := (.inl (ct 1, 18432, .inl (nf (va_up le ((64 * rr) + u) (48 + (lf % 10))))))) (hp_ne f_dg f_le (by simp)) f_dg
                        have f_nm := hp_k (e := (.inl (ct 1, 18432, .inl (nf (va_up le ((64 * rr) + u) (48 + (lf % 10))))))) (hp_ne f_nm f_le (by simp)) f_nm
                        have f_ns := hp_k (e := (.inl (ct 1, 18432, .inl (nf (va_up le ((64 * rr) + u) (48 + (lf % 10))))))) (hp_ne f_ns f_le (by simp)) f_ns
                        have f_sl := hp_k (e := (.inl (ct 1, 18432, .inl (nf (va_up le ((64 * rr) + u) (48 + (lf % 10))))))) (hp_ne f_sl f_le (by simp)) f_sl
                        have f_sb := hp_k (e := (.inl (ct 1, 18432, .inl (nf (va_up le ((64 * rr) + u) (48 + (lf % 10))))))) (hp_ne f_sb f_le (by simp)) f_sb
                        have f_su := hp_k (e := (.inl (ct 1, 18432, .inl (nf (va_up le ((64 * rr) + u) (48 + (lf % 10))))))) (hp_ne f_su f_le (by simp)) f_su
                        have f_wi := hp_k (e := (.inl (ct 1, 18432, .inl (nf (va_up le ((64 * rr) + u) (48 + (lf % 10))))))) (hp_ne f_wi f_le (by simp)) f_wi
                        have f_tu := hp_k (e := (.inl (ct 1, 18432, .inl (nf (va_up le ((64 * rr) + u) (48 + (lf % 10))))))) (hp_ne f_tu f_le (by simp)) f_tu
                        have f_le : hp_up N B.le (.inl (ct 1, 18432, .inl (nf (va_up le ((64 * rr) + u) (48 + (lf % 10)))))) B.le = some (.inl (ct 1, 18432, .inl (nf (va_up le ((64 * rr) + u) (48 + (lf % 10)))))) := hp_us
                        obtain ⟨M34, eM34⟩ : ∃ z, z = hp_up N B.le (.inl (ct 1, 18432, .inl (nf (va_up le ((64 * rr) + u) (48 + (lf % 10)))))) := ⟨_, rfl⟩
                        rw [← eM34] at hM f_md f_ro f_te f_he f_cn f_kd f_sz f_ky f_le f_dg f_nm f_ns f_sl f_sb f_su f_wi f_tu
                        refine lv_iload hx hb d_MD_edition_179 (lv_at hl 5 rfl) ?_
                        refine lv_bipush (v := nI 10) hx hb d_MD_edition_181 rfl ?_
                        refine nb_idiv hx hb d_MD_edition_183 (by omega) (by omega) (by omega) ?_
                        refine lv_istore (lv' := [(6, .int (nI (lf / 10))), (0, .ref md), (1, .int (nI j)), (2, .int (nI n)), (4, .int (nI pt)), (5, .int (nI rr)), (7, .int (nI u))]) hx hb d_MD_edition_184 hl (by decide) rfl (fun ls hl => ?_)
                        refine lv_iinc (v := nI u - nI 1) (lv' := [(7, .int (nI u - nI 1)), (6, .int (nI (lf / 10))), (0, .ref md), (1, .int (nI j)), (2, .int (nI n)), (4, .int (nI pt)), (5, .int (nI rr))]) hx hb d_MD_edition_186 hl (k := 6) rfl (iinc_m1 _) (by decide) rfl (fun ls hl => ?_)
                        refine lv_goto (tgt := 153) hx hb d_MD_edition_189 (by decide) ?_
                        exact ih (lf := lf / 10) (le := va_up le (64 * rr + u) (48 + lf % 10)) (N := M34) (H := H) (locs := locs) (ls := ls) (hl := lv_sub hl [2, 3, 4, 5, 6, 1, 0] rfl) (hM := hM) (hS := hS) (hu := by omega) (hlf := by rw [hlf, Nat.div_div_eq_div_mul, ← Nat.pow_succ]; congr 2; omega) (hle := fun k h1 h2 => by by_cases z : k = u; (rw [z, up_s, hlf]; congr 3; congr 1; omega); (rw [up_n (by omega)]; exact hle k (by omega) h2)) (hle2 := fun q hq => by rw [up_n (by omega)]; exact hle2 q hq) (hleb := up_lt hleb (by have := Nat.mod_lt lf (show 0 < 10 by decide); omega)) (hlb := by omega) (f_md := f_md) (f_ro := f_ro) (f_te := f_te) (f_he := f_he) (f_cn := f_cn) (f_kd := f_kd) (f_sz := f_sz) (f_ky := f_ky) (f_le := f_le) (f_dg := f_dg) (f_nm := f_nm) (f_ns := f_ns) (f_sl := f_sl) (f_sb := f_sb) (f_su := f_su) (f_wi := f_wi) (f_tu := f_tu)
                  · exact absurd rfl h27
              · refine lv_iload hx hb d_MD_edition_92 (lv_at hl 4 rfl) ?_
                refine lv_bipush (v := nI 24) hx hb d_MD_edition_94 rfl ?_
                refine nb_ne (tgt := 103) hx hb d_MD_edition_96 (by decide) (by omega) (by omega) (fun h24 => ?_) (fun h24 => ?_)
                · refine lv_iconst (v := nI 0) hx hb d_MD_edition_103 rfl ?_
                  exact hjv23 _ H _ hM hS (bo_f (h24))
                · refine lv_iconst (v := nI 1) hx hb d_MD_edition_99 rfl ?_
                  refine lv_goto (tgt := 104) hx hb d_MD_edition_100 (by decide) ?_
                  exact hjv23 _ H _ hM hS (bo_t (h24))
            · refine lv_aload_n hx hb d_MD_edition_58 rfl (lv_at hl 0 rfl) ?_
              refine hp_get S hK hM i_MD f_md rfl 9 (by decide) mf_MD_94 (fun _ h9 => h9) rfl d_MD_edition_59 ?_
              refine lv_aload_n hx hb d_MD_edition_62 rfl (lv_at hl 0 rfl) ?_
              refine lv_iload_n hx hb d_MD_edition_63 rfl (lv_at hl 1 rfl) ?_
              refine lv_iload hx hb d_MD_edition_64 (lv_at hl 5 rfl) ?_
              refine hp_calli (go_V S hZ hK hM hS hA hz (c_MD_place l D ct Z hZ _ _ md j k5) mc_MD_place mz_MD ml_MD_160 mi_MD_place mx_MD_place hd_MD_place rfl ⟨by decide, by decide⟩ f_md rfl rfl hl.1 rfl (Nat.le_of_ble_eq_true rfl) d_MD_edition_66 ⟨by decide, by decide⟩) hM hS hA (fun r35 M9 H locs hr35 hM hS => ?_)
              rw [hr35.1] at hM
              rw [hr35.2]
              refine hp_iald S hK hM 1 f_kd rfl (24 * j + k5) rfl (by omega) (by omega) d_MD_edition_69 ?_
              refine lv_bipush (v := nI 7) hx hb d_MD_edition_70 rfl ?_
              refine nb_ne (tgt := 80) hx hb d_MD_edition_72 (by decide) (by have := b_kd ((24 * j + k5)); omega) (by omega) (fun h7 => ?_) (fun h7 => ?_)
              · refine lv_iload hx hb d_MD_edition_80 (lv_at hl 4 rfl) ?_
                refine lv_istore (lv' := [(4, .int (nI pt)), (0, .ref md), (1, .int (nI j)), (2, .int (nI n)), (3, .int (nI 0)), (5, .int (nI k5))]) hx hb d_MD_edition_82 hl (by decide) rfl (fun ls hl => ?_)
                refine lv_iinc (v := nI (k5 + 1)) (lv' := [(5, .int (nI (k5 + 1))), (4, .int (nI pt)), (0, .ref md), (1, .int (nI j)), (2, .int (nI n)), (3, .int (nI 0))]) hx hb d_MD_edition_84 hl (k := 5) rfl (nI_add k5 1) (by decide) rfl (fun ls hl => ?_)
                refine lv_goto (tgt := 43) hx hb d_MD_edition_87 (by decide) ?_
                exact ih1 (ls := ls) (hl := lv_sub hl [2, 3, 4, 5, 1, 0] rfl) (hn1 := by omega) (k5 := k5 + 1) (pt := pt) (hk5 := by omega) (hpt := hpt.imp (fun ⟨i, a, b⟩ => ⟨i, by omega, b⟩) (fun ⟨a, b⟩ => ⟨lt_s a (by rw [← hR5 (by omega)]; exact h7), b⟩)) (H := H) (locs := locs) (hM := hM) (hS := hS)
              · refine lv_iload hx hb d_MD_edition_75 (lv_at hl 5 rfl) ?_
                refine lv_goto (tgt := 82) hx hb d_MD_edition_77 (by decide) ?_
                refine lv_istore (lv' := [(4, .int (nI k5)), (0, .ref md), (1, .int (nI j)), (2, .int (nI n)), (3, .int (nI 0)), (5, .int (nI k5))]) hx hb d_MD_edition_82 hl (by decide) rfl (fun ls hl => ?_)
                refine lv_iinc (v := nI (k5 + 1)) (lv' := [(5, .int (nI (k5 + 1))), (4, .int (nI k5)), (0, .ref md), (1, .int (nI j)), (2, .int (nI n)), (3, .int (nI 0))]) hx hb d_MD_edition_84 hl (k := 5) rfl (nI_add k5 1) (by decide) rfl (fun ls hl => ?_)
                refine lv_goto (tgt := 43) hx hb d_MD_edition_87 (by decide) ?_
                exact ih1 (ls := ls) (hl := lv_sub hl [2, 3, 4, 5, 1, 0] rfl) (hn1 := by omega) (k5 := k5 + 1) (pt := k5) (hk5 := by omega) (hpt := Or.inl ⟨k5, Nat.lt_succ_self k5, by rw [← hR5 (by omega)]; exact h7, rfl⟩) (H := H) (locs := locs) (hM := hM) (hS := hS)
      · exact absurd rfl h8
  · refine lv_aload_n hx hb d_MD_edition_0 rfl (lv_at hl 0 rfl) ?_
    refine lv_iload_n hx hb d_MD_edition_1 rfl (lv_at hl 1 rfl) ?_
    refine hp_calli (go_V S hZ hK hM hS hA hz (c_MD_isAction l D ct Z hZ _ _ md B V hw x) mc_MD_isAction mz_MD ml_MD_168 mi_MD_isAction mx_MD_isAction hd_MD_isAction rfl ⟨by decide, by decide⟩ f_md rfl rfl hl.1 rfl (Nat.le_of_ble_eq_true rfl) d_MD_edition_2 ⟨by decide, by decide⟩) hM hS hA (fun r36 N37 H locs hr36 hM hS => ?_)
    rw [hr36.1] at hM
    replace hr36 := hr36.2
    refine nt_eq (tgt := 18) hx hb d_MD_edition_5 (by decide) hr36 (fun hia => ?_) (fun hia => ?_)
    · refine lv_iconst (v := nI 1) hx hb d_MD_edition_18 rfl ?_
      refine lv_goto (tgt := 23) hx hb d_MD_edition_19 (by decide) ?_
      exact hjv1 _ H _ hM hS (bo_t (fun ⟨q1, q2⟩ => by first | exact hia q1 | (obtain ⟨w, q2, rfl⟩ := q2; first | exact nI_pos (by omega) hk0 | exact hk9 (by rw [show (99999999 : Int32) = nI 99999999 from rfl]; exact (nI_leI (by omega) (by decide)).mpr q2))))
    · refine lv_iload_n hx hb d_MD_edition_8 rfl (lv_at hl 2 rfl) ?_
      refine lv_if_lt (tgt := 18) hx hb d_MD_edition_9 (by decide) (fun hk0 => ?_) (fun hk0 => ?_)
      · refine lv_iconst (v := nI 1) hx hb d_MD_edition_18 rfl ?_
        refine lv_goto (tgt := 23) hx hb d_MD_edition_19 (by decide) ?_
        exact hjv1 _ H _ hM hS (bo_t (fun ⟨q1, q2⟩ => by first | exact hia q1 | (obtain ⟨w, q2, rfl⟩ := q2; first | exact nI_pos (by omega) hk0 | exact hk9 (by rw [show (99999999 : Int32) = nI 99999999 from rfl]; exact (nI_leI (by omega) (by decide)).mpr q2))))
      · refine lv_iload_n hx hb d_MD_edition_12 rfl (lv_at hl 2 rfl) ?_
        refine lv_ldc hx hb S.2.2.2.1 (S.2.2.2.2 _ mq_MD_182) d_MD_edition_13 ?_
        refine lv_icmp_le (tgt := 22) hx hb d_MD_edition_15 (by decide) (fun hk9 => ?_) (fun hk9 => ?_)
        · refine lv_iconst (v := nI 0) hx hb d_MD_edition_22 rfl ?_
          exact hjv1 _ H _ hM hS (bo_f (fun q => q ⟨hia, by obtain ⟨w, hw9, rfl⟩ := nI_of hk0; exact ⟨w, (nI_leI hw9 (by decide)).mp hk9, rfl⟩⟩))
        · refine lv_iconst (v := nI 1) hx hb d_MD_edition_18 rfl ?_
          refine lv_goto (tgt := 23) hx hb d_MD_edition_19 (by decide) ?_
          exact hjv1 _ H _ hM hS (bo_t (fun ⟨q1, q2⟩ => by first | exact hia q1 | (obtain ⟨w, q2, rfl⟩ := q2; first | exact nI_pos (by omega) hk0 | exact hk9 (by rw [show (99999999 : Int32) = nI 99999999 from rfl]; exact (nI_leI (by omega) (by decide)).mpr q2))))
