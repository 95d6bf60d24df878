theorem d_MD_differ_0 : decode b_MD_differ 0 = .ok (.aload_n 0, 1) := by decide +kernel
theorem d_MD_differ_1 : decode b_MD_differ 1 = .ok (.iconst 0, 1) := by decide +kernel
theorem d_MD_differ_2 : decode b_MD_differ 2 = .ok (.putfield 137, 3) := by decide +kernel
theorem d_MD_differ_5 : decode b_MD_differ 5 = .ok (.aload_n 0, 1) := by decide +kernel
theorem d_MD_differ_6 : decode b_MD_differ 6 = .ok (.iload_n 1, 1) := by decide +kernel
theorem d_MD_differ_7 : decode b_MD_differ 7 = .ok (.invokevirtual 168, 3) := by decide +kernel
theorem d_MD_differ_10 : decode b_MD_differ 10 = .ok (.ifCond .eq 11, 3) := by decide +kernel
theorem d_MD_differ_13 : decode b_MD_differ 13 = .ok (.aload_n 0, 1) := by decide +kernel
theorem d_MD_differ_14 : decode b_MD_differ 14 = .ok (.iload_n 2, 1) := by decide +kernel
theorem d_MD_differ_15 : decode b_MD_differ 15 = .ok (.invokevirtual 168, 3) := by decide +kernel
theorem d_MD_differ_18 : decode b_MD_differ 18 = .ok (.ifCond .ne 5, 3) := by decide +kernel
theorem d_MD_differ_21 : decode b_MD_differ 21 = .ok (.iconst (-1), 1) := by decide +kernel
theorem d_MD_differ_22 : decode b_MD_differ 22 = .ok (.ireturn, 1) := by decide +kernel
theorem d_MD_differ_23 : decode b_MD_differ 23 = .ok (.aload_n 0, 1) := by decide +kernel
theorem d_MD_differ_24 : decode b_MD_differ 24 = .ok (.iload_n 1, 1) := by decide +kernel
theorem d_MD_differ_25 : decode b_MD_differ 25 = .ok (.invokevirtual 196, 3) := by decide +kernel
theorem d_MD_differ_28 : decode b_MD_differ 28 = .ok (.istore_n 3, 1) := by decide +kernel
theorem d_MD_differ_29 : decode b_MD_differ 29 = .ok (.aload_n 0, 1) := by decide +kernel
theorem d_MD_differ_30 : decode b_MD_differ 30 = .ok (.iload_n 2, 1) := by decide +kernel
theorem d_MD_differ_31 : decode b_MD_differ 31 = .ok (.invokevirtual 196, 3) := by decide +kernel
theorem d_MD_differ_34 : decode b_MD_differ 34 = .ok (.istore 4, 2) := by decide +kernel
theorem d_MD_differ_36 : decode b_MD_differ 36 = .ok (.iconst 0, 1) := by decide +kernel
theorem d_MD_differ_37 : decode b_MD_differ 37 = .ok (.istore 5, 2) := by decide +kernel
theorem d_MD_differ_39 : decode b_MD_differ 39 = .ok (.iload 5, 2) := by decide +kernel
theorem d_MD_differ_41 : decode b_MD_differ 41 = .ok (.iload_n 3, 1) := by decide +kernel
theorem d_MD_differ_42 : decode b_MD_differ 42 = .ok (.if_icmp .ge 37, 3) := by decide +kernel
theorem d_MD_differ_45 : decode b_MD_differ 45 = .ok (.iload 5, 2) := by decide +kernel
theorem d_MD_differ_47 : decode b_MD_differ 47 = .ok (.iload 4, 2) := by decide +kernel
theorem d_MD_differ_49 : decode b_MD_differ 49 = .ok (.if_icmp .ge 30, 3) := by decide +kernel
theorem d_MD_differ_52 : decode b_MD_differ 52 = .ok (.aload_n 0, 1) := by decide +kernel
theorem d_MD_differ_53 : decode b_MD_differ 53 = .ok (.aload_n 0, 1) := by decide +kernel
theorem d_MD_differ_54 : decode b_MD_differ 54 = .ok (.iload_n 1, 1) := by decide +kernel
theorem d_MD_differ_55 : decode b_MD_differ 55 = .ok (.iload 5, 2) := by decide +kernel
theorem d_MD_differ_57 : decode b_MD_differ 57 = .ok (.invokevirtual 200, 3) := by decide +kernel
theorem d_MD_differ_60 : decode b_MD_differ 60 = .ok (.aload_n 0, 1) := by decide +kernel
theorem d_MD_differ_61 : decode b_MD_differ 61 = .ok (.iload_n 2, 1) := by decide +kernel
theorem d_MD_differ_62 : decode b_MD_differ 62 = .ok (.iload 5, 2) := by decide +kernel
theorem d_MD_differ_64 : decode b_MD_differ 64 = .ok (.invokevirtual 200, 3) := by decide +kernel
theorem d_MD_differ_67 : decode b_MD_differ 67 = .ok (.invokevirtual 227, 3) := by decide +kernel
theorem d_MD_differ_70 : decode b_MD_differ 70 = .ok (.ifCond .eq 9, 3) := by decide +kernel
theorem d_MD_differ_73 : decode b_MD_differ 73 = .ok (.iinc 5 1, 3) := by decide +kernel
theorem d_MD_differ_76 : decode b_MD_differ 76 = .ok (.goto (-37), 3) := by decide +kernel
theorem d_MD_differ_79 : decode b_MD_differ 79 = .ok (.iload 5, 2) := by decide +kernel
theorem d_MD_differ_81 : decode b_MD_differ 81 = .ok (.iload_n 3, 1) := by decide +kernel
theorem d_MD_differ_82 : decode b_MD_differ 82 = .ok (.if_icmp .ne 14, 3) := by decide +kernel
theorem d_MD_differ_85 : decode b_MD_differ 85 = .ok (.iload 5, 2) := by decide +kernel
theorem d_MD_differ_87 : decode b_MD_differ 87 = .ok (.iload 4, 2) := by decide +kernel
theorem d_MD_differ_89 : decode b_MD_differ 89 = .ok (.if_icmp .ne 7, 3) := by decide +kernel
theorem d_MD_differ_92 : decode b_MD_differ 92 = .ok (.iconst (-1), 1) := by decide +kernel
theorem d_MD_differ_93 : decode b_MD_differ 93 = .ok (.goto 5, 3) := by decide +kernel
theorem d_MD_differ_96 : decode b_MD_differ 96 = .ok (.iload 5, 2) := by decide +kernel
theorem d_MD_differ_98 : decode b_MD_differ 98 = .ok (.ireturn, 1) := by decide +kernel
set_option maxHeartbeats 4000000 in
set_option maxRecDepth 100000 in
/-- hold() -/
theorem c_MD_hold (l : Launch) (D : va_G) (ct : Nat → ClassId) (Z : hp_Z) (hZ : hp_Zok Z) (M : hp_M) (sz : Nat) (md : Nat) (B : MA) (V : MS) (hw : mdS ct M md B V) (T : List Nat) (hty : V.ty = T.length) (hte : ∀ i, i < T.length → V.te i = T.getD i 0) (hT64 : T.length ≤ 64) (hcT : ∀ i, T.getD i 0 < 65536) : Mv l y_MD_hold b_MD_hold 3 none 3 76 0 0 [.ref md] D ct Z M sz (fun M1 => ∃ sb su wi tu he, mdS ct M1 md B (mkS (V.te) (V.cn) (V.kd) (V.sz) (V.ky) (V.le) (V.nm) (V.ns) (V.sl) sb he (V.dg) su wi tu 0 0 (V.ac) (V.al) (V.sd) (V.ss)) ∧ ∀ i, i < 8 → he i = shaM T i) := by
  refine hp_start (by decide) (Nat.le_of_ble_eq_true rfl) (fun p e s m below meth c ls S hret hlk hnm hsz hK hM hS hA hz hl => ?_)
  have hx := S.1
  have hb := S.2.1
  have hl : lv_has ls 3 [(0, .ref md)] := hl
  obtain ⟨f_md, f_ro, f_te, f_he, f_cn, f_kd, f_sz, f_ky, f_le, f_dg, f_nm, f_ns, f_sl, f_sb, f_su, f_wi, f_tu, hB, hV⟩ := id hw
  obtain ⟨n_kdsz, n_kdky, n_szky, n_hens, n_hesu, n_hetu, n_nssu, n_nstu, n_sutu, n_tewi⟩ := id hB
  obtain ⟨b_te, b_cn, b_kd, b_sz, b_ky, b_le, b_nm, b_ns, b_sl, b_sb, b_co, b_ty, b_ac, b_al, b_sd, b_ss⟩ := id hV
  refine lv_aload_n hx hb d_MD_hold_0 rfl (lv_at hl 0 rfl) ?_
  refine lv_iconst (v := nI 0) hx hb d_MD_hold_1 rfl ?_
  refine hp_put (ty := .int) (fs' := [.ref B.ro, .int (nI 0), .ref B.te, .int (nI (V.ty)), .int (nI (V.ac)), .int (nI (V.al)), .int (nI (V.sd)), .ref B.he, .ref B.cn, .ref B.kd, .ref B.sz, .ref B.ky, .ref B.le, .ref B.dg, .ref B.nm, .ref B.ns, .ref B.sl, .ref B.sb, .int (nI (V.ss)), .ref B.su, .ref B.wi, .ref B.tu]) S hK hM hS i_MD t_MD to_MD n_MD f_md rfl 1 (by decide) mf_MD_137 (fun _ h9 => h9) rfl (by decide +kernel) rfl rfl (by simp) rfl d_MD_hold_2 (fun H locs hM hS => ?_)
  have f_ro := hp_k (e := (.inr (6, [.ref B.ro, .int (nI 0), .ref B.te, .int (nI (V.ty)), .int (nI (V.ac)), .int (nI (V.al)), .int (nI (V.sd)), .ref B.he, .ref B.cn, .ref B.kd, .ref B.sz, .ref B.ky, .ref B.le, .ref B.dg, .ref B.nm, .ref B.ns, .ref B.sl, .ref B.sb, .int (nI (V.ss)), .ref B.su, .ref B.wi, .ref B.tu]))) (hp_ne f_ro f_md (by simp)) f_ro
  have f_te := hp_k (e := (.inr (6, [.ref B.ro, .int (nI 0), .ref B.te, .int (nI (V.ty)), .int (nI (V.ac)), .int (nI (V.al)), .int (nI (V.sd)), .ref B.he, .ref B.cn, .ref B.kd, .ref B.sz, .ref B.ky, .ref B.le, .ref B.dg, .ref B.nm, .ref B.ns, .ref B.sl, .ref B.sb, .int (nI (V.ss)), .ref B.su, .ref B.wi, .ref B.tu]))) (hp_ne f_te f_md (by simp)) f_te
  have f_he := hp_k (e := (.inr (6, [.ref B.ro, .int (nI 0), .ref B.te, .int (nI (V.ty)), .int (nI (V.ac)), .int (nI (V.al)), .int (nI (V.sd)), .ref B.he, .ref B.cn, .ref B.kd, .ref B.sz, .ref B.ky, .ref B.le, .ref B.dg, .ref B.nm, .ref B.ns, .ref B.sl, .ref B.sb, .int (nI (V.ss)), .ref B.su, .ref B.wi, .ref B.tu]))) (hp_ne f_he f_md (by simp)) f_he
  have f_cn := hp_k (e := (.inr (6, [.ref B.ro, .int (nI 0), .ref B.te, .int (nI (V.ty)), .int (nI (V.ac)), .int (nI (V.al)), .int (nI (V.sd)), .ref B.he, .ref B.cn, .ref B.kd, .ref B.sz, .ref B.ky, .ref B.le, .ref B.dg, .ref B.nm, .ref B.ns, .ref B.sl, .ref B.sb, .int (nI (V.ss)), .ref B.su, .ref B.wi, .ref B.tu]))) (hp_ne f_cn f_md (by simp)) f_cn
  have f_kd := hp_k (e := (.inr (6, [.ref B.ro, .int (nI 0), .ref B.te, .int (nI (V.ty)), .int (nI (V.ac)), .int (nI (V.al)), .int (nI (V.sd)), .ref B.he, .ref B.cn, .ref B.kd, .ref B.sz, .ref B.ky, .ref B.le, .ref B.dg, .ref B.nm, .ref B.ns, .ref B.sl, .ref B.sb, .int (nI (V.ss)), .ref B.su, .ref B.wi, .ref B.tu]))) (hp_ne f_kd f_md (by simp)) f_kd
  have f_sz := hp_k (e := (.inr (6, [.ref B.ro, .int (nI 0), .ref B.te, .int (nI (V.ty)), .int (nI (V.ac)), .int (nI (V.al)), .int (nI (V.sd)), .ref B.he, .ref B.cn, .ref B.kd, .ref B.sz, .ref B.ky, .ref B.le, .ref B.dg, .ref B.nm, .ref B.ns, .ref B.sl, .ref B.sb, .int (nI (V.ss)), .ref B.su, .ref B.wi, .ref B.tu]))) (hp_ne f_sz f_md (by simp)) f_sz
  have f_ky := hp_k (e := (.inr (6, [.ref B.ro, .int (nI 0), .ref B.te, .int (nI (V.ty)), .int (nI (V.ac)), .int (nI (V.al)), .int (nI (V.sd)), .ref B.he, .ref B.cn, .ref B.kd, .ref B.sz, .ref B.ky, .ref B.le, .ref B.dg, .ref B.nm, .ref B.ns, .ref B.sl, .ref B.sb, .int (nI (V.ss)), .ref B.su, .ref B.wi, .ref B.tu]))) (hp_ne f_ky f_md (by simp)) f_ky
  have f_le := hp_k (e := (.inr (6, [.ref B.ro, .int (nI 0), .ref B.te, .int (nI (V.ty)), .int (nI (V.ac)), .int (nI (V.al)), .int (nI (V.sd)), .ref B.he, .ref B.cn, .ref B.kd, .ref B.sz, .ref B.ky, .ref B.le, .ref B.dg, .ref B.nm, .ref B.ns, .ref B.sl, .ref B.sb, .int (nI (V.ss)), .ref B.su, .ref B.wi, .ref B.tu]))) (hp_ne f_le f_md (by simp)) f_le
  have f_dg := hp_k (e := (.inr (6, [.ref B.ro, .int (nI 0), .ref B.te, .int (nI (V.ty)), .int (nI (V.ac)), .int (nI (V.al)), .int (nI (V.sd)), .ref B.he, .ref B.cn, .ref B.kd, .ref B.sz, .ref B.ky, .ref B.le, .ref B.dg, .ref B.nm, .ref B.ns, .ref B.sl, .ref B.sb, .int (nI (V.ss)), .ref B.su, .ref B.wi, .ref B.tu]))) (hp_ne f_dg f_md (by simp)) f_dg
  have f_nm := hp_k (e := (.inr (6, [.ref B.ro, .int (nI 0), .ref B.te, .int (nI (V.ty)), .int (nI (V.ac)), .int (nI (V.al)), .int (nI (V.sd)), .ref B.he, .ref B.cn, .ref B.kd, .ref B.sz, .ref B.ky, .ref B.le, .ref B.dg, .ref B.nm, .ref B.ns, .ref B.sl, .ref B.sb, .int (nI (V.ss)), .ref B.su, .ref B.wi, .ref B.tu]))) (hp_ne f_nm f_md (by simp)) f_nm
  have f_ns := hp_k (e := (.inr (6, [.ref B.ro, .int (nI 0), .ref B.te, .int (nI (V.ty)), .int (nI (V.ac)), .int (nI (V.al)), .int (nI (V.sd)), .ref B.he, .ref B.cn, .ref B.kd, .ref B.sz, .ref B.ky, .ref B.le, .ref B.dg, .ref B.nm, .ref B.ns, .ref B.sl, .ref B.sb, .int (nI (V.ss)), .ref B.su, .ref B.wi, .ref B.tu]))) (hp_ne f_ns f_md (by simp)) f_ns
  have f_sl := hp_k (e := (.inr (6, [.ref B.ro, .int (nI 0), .ref B.te, .int (nI (V.ty)), .int (nI (V.ac)), .int (nI (V.al)), .int (nI (V.sd)), .ref B.he, .ref B.cn, .ref B.kd, .ref B.sz, .ref B.ky, .ref B.le, .ref B.dg, .ref B.nm, .ref B.ns, .ref B.sl, .ref B.sb, .int (nI (V.ss)), .ref B.su, .ref B.wi, .ref B.tu]))) (hp_ne f_sl f_md (by simp)) f_sl
  have f_sb := hp_k (e := (.inr (6, [.ref B.ro, .int (nI 0), .ref B.te, .int (nI (V.ty)), .int (nI (V.ac)), .int (nI (V.al)), .int (nI (V.sd)), .ref B.he, .ref B.cn, .ref B.kd, .ref B.sz, .ref B.ky, .ref B.le, .ref B.dg, .ref B.nm, .ref B.ns, .ref B.sl, .ref B.sb, .int (nI (V.ss)), .ref B.su, .ref B.wi, .ref B.tu]))) (hp_ne f_sb f_md (by simp)) f_sb
  have f_su := hp_k (e := (.inr (6, [.ref B.ro, .int (nI 0), .ref B.te, .int (nI (V.ty)), .int (nI (V.ac)), .int (nI (V.al)), .int (nI (V.sd)), .ref B.he, .ref B.cn, .ref B.kd, .ref B.sz, .ref B.ky, .ref B.le, .ref B.dg, .ref B.nm, .ref B.ns, .ref B.sl, .ref B.sb, .int (nI (V.ss)), .ref B.su, .ref B.wi, .ref B.tu]))) (hp_ne f_su f_md (by simp)) f_su
  have f_wi := hp_k (e := (.inr (6, [.ref B.ro, .int (nI 0), .ref B.te, .int (nI (V.ty)), .int (nI (V.ac)), .int (nI (V.al)), .int (nI (V.sd)), .ref B.he, .ref B.cn, .ref B.kd, .ref B.sz, .ref B.ky, .ref B.le, .ref B.dg, .ref B.nm, .ref B.ns, .ref B.sl, .ref B.sb, .int (nI (V.ss)), .ref B.su, .ref B.wi, .ref B.tu]))) (hp_ne f_wi f_md (by simp)) f_wi
  have f_tu := hp_k (e := (.inr (6, [.ref B.ro, .int (nI 0), .ref B.te, .int (nI (V.ty)), .int (nI (V.ac)), .int (nI (V.al)), .int (nI (V.sd)), .ref B.he, .ref B.cn, .ref B.kd, .ref B.sz, .ref B.ky, .ref B.le, .ref B.dg, .ref B.nm, .ref B.ns, .ref B.sl, .ref B.sb, .int (nI (V.ss)), .ref B.su, .ref B.wi, .ref B.tu]))) (hp_ne f_tu f_md (by simp)) f_tu
  have f_md : hp_up M md (.inr (6, [.ref B.ro, .int (nI 0), .ref B.te, .int (nI (V.ty)), .int (nI (V.ac)), .int (nI (V.al)), .int (nI (V.sd)), .ref B.he, .ref B.cn, .ref B.kd, .ref B.sz, .ref B.ky, .ref B.le, .ref B.dg, .ref B.nm, .ref B.ns, .ref B.sl, .ref B.sb, .int (nI (V.ss)), .ref B.su, .ref B.wi, .ref B.tu])) md = some (.inr (6, [.ref B.ro, .int (nI 0), .ref B.te, .int (nI (V.ty)), .int (nI (V.ac)), .int (nI (V.al)), .int (nI (V.sd)), .ref B.he, .ref B.cn, .ref B.kd, .ref B.sz, .ref B.ky, .ref B.le, .ref B.dg, .ref B.nm, .ref B.ns, .ref B.sl, .ref B.sb, .int (nI (V.ss)), .ref B.su, .ref B.wi, .ref B.tu])) := hp_us
  obtain ⟨M1, eM1⟩ : ∃ z, z = hp_up M md (.inr (6, [.ref B.ro, .int (nI 0), .ref B.te, .int (nI (V.ty)), .int (nI (V.ac)), .int (nI (V.al)), .int (nI (V.sd)), .ref B.he, .ref B.cn, .ref B.kd, .ref B.sz, .ref B.ky, .ref B.le, .ref B.dg, .ref B.nm, .ref B.ns, .ref B.sl, .ref B.sb, .int (nI (V.ss)), .ref B.su, .ref B.wi, .ref B.tu])) := ⟨_, rfl⟩
  rw [← eM1] at hM f_md f_ro f_te f_he f_cn f_kd f_sz f_ky f_le f_dg f_nm f_ns f_sl f_sb f_su f_wi f_tu
  have hw1 : mdS ct M1 md B (mkS (V.te) (V.cn) (V.kd) (V.sz) (V.ky) (V.le) (V.nm) (V.ns) (V.sl) (V.sb) (V.he) (V.dg) (V.su) (V.wi) (V.tu) 0 (V.ty) (V.ac) (V.al) (V.sd) (V.ss)) := ⟨f_md, f_ro, f_te, f_he, f_cn, f_kd, f_sz, f_ky, f_le, f_dg, f_nm, f_ns, f_sl, f_sb, f_su, f_wi, f_tu, hB, b_te, b_cn, b_kd, b_sz, b_ky, b_le, b_nm, b_ns, b_sl, b_sb, Nat.zero_le _, b_ty, b_ac, b_al, b_sd, b_ss⟩
  refine lv_aload_n hx hb d_MD_hold_5 rfl (lv_at hl 0 rfl) ?_
  refine hp_calli (go_V S hZ hK hM hS hA hz (c_MD_takes l D ct Z hZ _ _ md B (mkS (V.te) (V.cn) (V.kd) (V.sz) (V.ky) (V.le) (V.nm) (V.ns) (V.sl) (V.sb) (V.he) (V.dg) (V.su) (V.wi) (V.tu) 0 (V.ty) (V.ac) (V.al) (V.sd) (V.ss)) hw1) mc_MD_takes mz_MD ml_MD_164 mi_MD_takes mx_MD_takes hd_MD_takes rfl ⟨by decide, by decide⟩ f_md rfl rfl hl.1 rfl (Nat.le_of_ble_eq_true rfl) d_MD_hold_6 ⟨by decide, by decide⟩) hM hS hA (fun r9 M9 H locs h9 hM hS => ?_)
  obtain ⟨N2, eN2⟩ : ∃ z, z = M9 := ⟨_, rfl⟩
  rw [← eN2] at hM h9
  have hw2 : mdS ct N2 md B (mkS (V.te) (V.cn) (V.kd) (V.sz) (V.ky) (V.le) (V.nm) (V.ns) (V.sl) (V.sb) (V.he) (V.dg) (V.su) (V.wi) (V.tu) 0 0 (V.ac) (V.al) (V.sd) (V.ss)) := h9.2
  clear f_md f_ro f_te f_he f_cn f_kd f_sz f_ky f_le f_dg f_nm f_ns f_sl f_sb f_su f_wi f_tu
  obtain ⟨f_md, f_ro, f_te, f_he, f_cn, f_kd, f_sz, f_ky, f_le, f_dg, f_nm, f_ns, f_sl, f_sb, f_su, f_wi, f_tu, hB, hV⟩ := id hw2
  replace f_md : N2 md = some (.inr (6, [.ref B.ro, .int (nI 0), .ref B.te, .int (nI 0), .int (nI (V.ac)), .int (nI (V.al)), .int (nI (V.sd)), .ref B.he, .ref B.cn, .ref B.kd, .ref B.sz, .ref B.ky, .ref B.le, .ref B.dg, .ref B.nm, .ref B.ns, .ref B.sl, .ref B.sb, .int (nI (V.ss)), .ref B.su, .ref B.wi, .ref B.tu])) := f_md
  replace f_ro : N2 B.ro = some (.inl (ct 1, 72, .inl roF)) := f_ro
  replace f_te : N2 B.te = some (.inl (ct 1, 64, .inl (nf V.te))) := f_te
  replace f_he : N2 B.he = some (.inl (ct 1, 8, .inl (V.he))) := f_he
  replace f_cn : N2 B.cn = some (.inl (ct 1, 12, .inl (nf V.cn))) := f_cn
  replace f_kd : N2 B.kd = some (.inl (ct 1, 288, .inl (nf V.kd))) := f_kd
  replace f_sz : N2 B.sz = some (.inl (ct 1, 288, .inl (nf V.sz))) := f_sz
  replace f_ky : N2 B.ky = some (.inl (ct 1, 288, .inl (nf V.ky))) := f_ky
  replace f_le : N2 B.le = some (.inl (ct 1, 18432, .inl (nf V.le))) := f_le
  replace f_dg : N2 B.dg = some (.inl (ct 1, 2304, .inl (V.dg))) := f_dg
  replace f_nm : N2 B.nm = some (.inl (ct 1, 128, .inl (nf V.nm))) := f_nm
  replace f_ns : N2 B.ns = some (.inl (ct 1, 8, .inl (nf V.ns))) := f_ns
  replace f_sl : N2 B.sl = some (.inl (ct 1, 16, .inl (nf V.sl))) := f_sl
  replace f_sb : N2 B.sb = some (.inl (ct 1, 3000, .inl (nf V.sb))) := f_sb
  replace f_su : N2 B.su = some (.inl (ct 1, 8, .inl (V.su))) := f_su
  replace f_wi : N2 B.wi = some (.inl (ct 1, 64, .inl (V.wi))) := f_wi
  replace f_tu : N2 B.tu = some (.inl (ct 1, 8, .inl (V.tu))) := f_tu
  rw [h9.1, show ((mkS (V.te) (V.cn) (V.kd) (V.sz) (V.ky) (V.le) (V.nm) (V.ns) (V.sl) (V.sb) (V.he) (V.dg) (V.su) (V.wi) (V.tu) 0 (V.ty) (V.ac) (V.al) (V.sd) (V.ss))).ty = T.length from hty]
  refine lv_istore_n (lv' := [(1, .int (nI (T.length))), (0, .ref md)]) hx hb d_MD_hold_9 rfl hl (by decide) rfl (fun ls hl => ?_)
  refine lv_iconst (v := nI 0) hx hb d_MD_hold_10 rfl ?_
  refine lv_istore_n (lv' := [(2, .int (nI 0)), (1, .int (nI (T.length))), (0, .ref md)]) hx hb d_MD_hold_11 rfl hl (by decide) rfl (fun ls hl => ?_)
  replace hl : lv_has ls 3 [(0, .ref md), (1, .int (nI (T.length))), (2, .int (nI 0))] := lv_sub hl [2, 1, 0] rfl
  obtain ⟨k, e9k⟩ : ∃ z : Nat, z = 0 := ⟨_, rfl⟩
  obtain ⟨sb, e9sb⟩ : ∃ z : Nat → Nat, z = V.sb := ⟨_, rfl⟩
  replace hl : lv_has ls 3 [(0, .ref md), (1, .int (nI (T.length))), (2, .int (nI k))] := by subst e9k e9sb; exact hl
  obtain ⟨N3, e9N3⟩ : ∃ z : hp_M, z = N2 := ⟨_, rfl⟩
  replace hM : hp_H D ccl (hp_A M sz) N3 H := by rw [e9N3]; exact hM
  replace f_md : N3 md = some (.inr (6, [.ref B.ro, .int (nI 0), .ref B.te, .int (nI 0), .int (nI (V.ac)), .int (nI (V.al)), .int (nI (V.sd)), .ref B.he, .ref B.cn, .ref B.kd, .ref B.sz, .ref B.ky, .ref B.le, .ref B.dg, .ref B.nm, .ref B.ns, .ref B.sl, .ref B.sb, .int (nI (V.ss)), .ref B.su, .ref B.wi, .ref B.tu])) := by rw [e9N3]; exact f_md
  replace f_ro : N3 B.ro = some (.inl (ct 1, 72, .inl roF)) := by rw [e9N3]; exact f_ro
  replace f_te : N3 B.te = some (.inl (ct 1, 64, .inl (nf V.te))) := by rw [e9N3]; exact f_te
  replace f_he : N3 B.he = some (.inl (ct 1, 8, .inl (V.he))) := by rw [e9N3]; exact f_he
  replace f_cn : N3 B.cn = some (.inl (ct 1, 12, .inl (nf V.cn))) := by rw [e9N3]; exact f_cn
  replace f_kd : N3 B.kd = some (.inl (ct 1, 288, .inl (nf V.kd))) := by rw [e9N3]; exact f_kd
  replace f_sz : N3 B.sz = some (.inl (ct 1, 288, .inl (nf V.sz))) := by rw [e9N3]; exact f_sz
  replace f_ky : N3 B.ky = some (.inl (ct 1, 288, .inl (nf V.ky))) := by rw [e9N3]; exact f_ky
  replace f_le : N3 B.le = some (.inl (ct 1, 18432, .inl (nf V.le))) := by rw [e9N3]; exact f_le
  replace f_dg : N3 B.dg = some (.inl (ct 1, 2304, .inl (V.dg))) := by rw [e9N3]; exact f_dg
  replace f_nm : N3 B.nm = some (.inl (ct 1, 128, .inl (nf V.nm))) := by rw [e9N3]; exact f_nm
  replace f_ns : N3 B.ns = some (.inl (ct 1, 8, .inl (nf V.ns))) := by rw [e9N3]; exact f_ns
  replace f_sl : N3 B.sl = some (.inl (ct 1, 16, .inl (nf V.sl))) := by rw [e9N3]; exact f_sl
  replace f_sb : N3 B.sb = some (.inl (ct 1, 3000, .inl (nf V.sb))) := by rw [e9N3]; exact f_sb
  replace f_su : N3 B.su = some (.inl (ct 1, 8, .inl (V.su))) := by rw [e9N3]; exact f_su
  replace f_wi : N3 B.wi = some (.inl (ct 1, 64, .inl (V.wi))) := by rw [e9N3]; exact f_wi
  replace f_tu : N3 B.tu = some (.inl (ct 1, 8, .inl (V.tu))) := by rw [e9N3]; exact f_tu
  replace f_sb : N3 B.sb = some (.inl (ct 1, 3000, .inl (nf sb))) := by subst e9k e9sb; exact f_sb
  have hsb : ∀ i, i < k → sb i = T.getD i 0 := by subst e9k e9sb; intro i hi; omega
  have hsbb : ∀ i, sb i < 65536 := by subst e9k e9sb; exact b_sb
  obtain ⟨fu1, hn1⟩ : ∃ fu : Nat, k + fu = T.length := ⟨T.length - k, by omega⟩
  clear e9k e9sb e9N3
  induction fu1 generalizing k sb H locs N3 ls with
  | zero =>
    refine lv_iload_n hx hb d_MD_hold_12 rfl (lv_at hl 2 rfl) ?_
    refine lv_iload_n hx hb d_MD_hold_13 rfl (lv_at hl 1 rfl) ?_
    refine nb_ge (tgt := 35) hx hb d_MD_hold_14 (by decide) (by omega) (by omega) (fun hkn => ?_) (fun hkn => ?_)
    · refine lv_aload_n hx hb d_MD_hold_35 rfl (lv_at hl 0 rfl) ?_
      refine lv_iload_n hx hb d_MD_hold_36 rfl (lv_at hl 1 rfl) ?_
      have hw3 : mdS ct N3 md B (mkS (V.te) (V.cn) (V.kd) (V.sz) (V.ky) (V.le) (V.nm) (V.ns) (V.sl) sb (V.he) (V.dg) (V.su) (V.wi) (V.tu) 0 0 (V.ac) (V.al) (V.sd) (V.ss)) := ⟨f_md, f_ro, f_te, f_he, f_cn, f_kd, f_sz, f_ky, f_le, f_dg, f_nm, f_ns, f_sl, f_sb, f_su, f_wi, f_tu, hB, b_te, b_cn, b_kd, b_sz, b_ky, b_le, b_nm, b_ns, b_sl, hsbb, Nat.zero_le _, Nat.zero_le _, b_ac, b_al, b_sd, b_ss⟩
      refine hp_callv (go_V S hZ hK hM hS hA hz (c_MD_sumUp l D ct Z hZ _ _ md B (mkS (V.te) (V.cn) (V.kd) (V.sz) (V.ky) (V.le) (V.nm) (V.ns) (V.sl) sb (V.he) (V.dg) (V.su) (V.wi) (V.tu) 0 0 (V.ac) (V.al) (V.sd) (V.ss)) hw3 T (by omega) hcT (fun i hi => hsb i (by omega))) mc_MD_sumUp mz_MD ml_MD_130 mi_MD_sumUp mx_MD_sumUp hd_MD_sumUp rfl ⟨by decide, by decide⟩ f_md rfl rfl hl.1 rfl (Nat.le_of_ble_eq_true rfl) d_MD_hold_37 ⟨by decide, by decide⟩) hM hS hA (fun M9 H locs h9 hM hS => ?_)
      obtain ⟨N4, eN4⟩ : ∃ z, z = M9 := ⟨_, rfl⟩
      rw [← eN4] at hM h9
      obtain ⟨su, wi, tu, h9, hsu⟩ := h9
      have hw4 : mdS ct N4 md B (mkS (V.te) (V.cn) (V.kd) (V.sz) (V.ky) (V.le) (V.nm) (V.ns) (V.sl) sb (V.he) (V.dg) su wi tu 0 0 (V.ac) (V.al) (V.sd) (V.ss)) := h9
      clear f_md f_ro f_te f_he f_cn f_kd f_sz f_ky f_le f_dg f_nm f_ns f_sl f_sb f_su f_wi f_tu
      obtain ⟨f_md, f_ro, f_te, f_he, f_cn, f_kd, f_sz, f_ky, f_le, f_dg, f_nm, f_ns, f_sl, f_sb, f_su, f_wi, f_tu, hB, hV⟩ := id hw4
      replace f_md : N4 md = some (.inr (6, [.ref B.ro, .int (nI 0), .ref B.te, .int (nI 0), .int (nI (V.ac)), .int (nI (V.al)), .int (nI (V.sd)), .ref B.he, .ref B.cn, .ref B.kd, .ref B.sz, .ref B.ky, .ref B.le, .ref B.dg, .ref B.nm, .ref B.ns, .ref B.sl, .ref B.sb, .int (nI (V.ss)), .ref B.su, .ref B.wi, .ref B.tu])) := f_md
      replace f_ro : N4 B.ro = some (.inl (ct 1, 72, .inl roF)) := f_ro
      replace f_te : N4 B.te = some (.inl (ct 1, 64, .inl (nf V.te))) := f_te
      replace f_he : N4 B.he = some (.inl (ct 1, 8, .inl (V.he))) := f_he
      replace f_cn : N4 B.cn = some (.inl (ct 1, 12, .inl (nf V.cn))) := f_cn
      replace f_kd : N4 B.kd = some (.inl (ct 1, 288, .inl (nf V.kd))) := f_kd
      replace f_sz : N4 B.sz = some (.inl (ct 1, 288, .inl (nf V.sz))) := f_sz
      replace f_ky : N4 B.ky = some (.inl (ct 1, 288, .inl (nf V.ky))) := f_ky
      replace f_le : N4 B.le = some (.inl (ct 1, 18432, .inl (nf V.le))) := f_le
      replace f_dg : N4 B.dg = some (.inl (ct 1, 2304, .inl (V.dg))) := f_dg
      replace f_nm : N4 B.nm = some (.inl (ct 1, 128, .inl (nf V.nm))) := f_nm
      replace f_ns : N4 B.ns = some (.inl (ct 1, 8, .inl (nf V.ns))) := f_ns
      replace f_sl : N4 B.sl = some (.inl (ct 1, 16, .inl (nf V.sl))) := f_sl
      replace f_sb : N4 B.sb = some (.inl (ct 1, 3000, .inl (nf sb))) := f_sb
      replace f_su : N4 B.su = some (.inl (ct 1, 8, .inl su)) := f_su
      replace f_wi : N4 B.wi = some (.inl (ct 1, 64, .inl wi)) := f_wi
      replace f_tu : N4 B.tu = some (.inl (ct 1, 8, .inl tu)) := f_tu
      refine lv_aload_n hx hb d_MD_hold_40 rfl (lv_at hl 0 rfl) ?_
      refine hp_callv (go_V S hZ hK hM hS hA hz (c_MD_keepSum l D ct Z hZ _ _ md B (mkS (V.te) (V.cn) (V.kd) (V.sz) (V.ky) (V.le) (V.nm) (V.ns) (V.sl) sb (V.he) (V.dg) su wi tu 0 0 (V.ac) (V.al) (V.sd) (V.ss)) hw4) mc_MD_keepSum mz_MD ml_MD_134 mi_MD_keepSum mx_MD_keepSum hd_MD_keepSum rfl ⟨by decide, by decide⟩ f_md rfl rfl hl.1 rfl (Nat.le_of_ble_eq_true rfl) d_MD_hold_41 ⟨by decide, by decide⟩) hM hS hA (fun M9 H locs h9 hM hS => ?_)
      obtain ⟨N5, eN5⟩ : ∃ z, z = M9 := ⟨_, rfl⟩
      rw [← eN5] at hM h9
      obtain ⟨h8, hh8, h9⟩ := h9
      have hw5 : mdS ct N5 md B (mkS (V.te) (V.cn) (V.kd) (V.sz) (V.ky) (V.le) (V.nm) (V.ns) (V.sl) sb h8 (V.dg) su wi tu 0 0 (V.ac) (V.al) (V.sd) (V.ss)) := h9
      clear f_md f_ro f_te f_he f_cn f_kd f_sz f_ky f_le f_dg f_nm f_ns f_sl f_sb f_su f_wi f_tu
      obtain ⟨f_md, f_ro, f_te, f_he, f_cn, f_kd, f_sz, f_ky, f_le, f_dg, f_nm, f_ns, f_sl, f_sb, f_su, f_wi, f_tu, hB, hV⟩ := id hw5
      replace f_md : N5 md = some (.inr (6, [.ref B.ro, .int (nI 0), .ref B.te, .int (nI 0), .int (nI (V.ac)), .int (nI (V.al)), .int (nI (V.sd)), .ref B.he, .ref B.cn, .ref B.kd, .ref B.sz, .ref B.ky, .ref B.le, .ref B.dg, .ref B.nm, .ref B.ns, .ref B.sl, .ref B.sb, .int (nI (V.ss)), .ref B.su, .ref B.wi, .ref B.tu])) := f_md
      replace f_ro : N5 B.ro = some (.inl (ct 1, 72, .inl roF)) := f_ro
      replace f_te : N5 B.te = some (.inl (ct 1, 64, .inl (nf V.te))) := f_te
      replace f_he : N5 B.he = some (.inl (ct 1, 8, .inl h8)) := f_he
      replace f_cn : N5 B.cn = some (.inl (ct 1, 12, .inl (nf V.cn))) := f_cn
      replace f_kd : N5 B.kd = some (.inl (ct 1, 288, .inl (nf V.kd))) := f_kd
      replace f_sz : N5 B.sz = some (.inl (ct 1, 288, .inl (nf V.sz))) := f_sz
      replace f_ky : N5 B.ky = some (.inl (ct 1, 288, .inl (nf V.ky))) := f_ky
      replace f_le : N5 B.le = some (.inl (ct 1, 18432, .inl (nf V.le))) := f_le
      replace f_dg : N5 B.dg = some (.inl (ct 1, 2304, .inl (V.dg))) := f_dg
      replace f_nm : N5 B.nm = some (.inl (ct 1, 128, .inl (nf V.nm))) := f_nm
      replace f_ns : N5 B.ns = some (.inl (ct 1, 8, .inl (nf V.ns))) := f_ns
      replace f_sl : N5 B.sl = some (.inl (ct 1, 16, .inl (nf V.sl))) := f_sl
      replace f_sb : N5 B.sb = some (.inl (ct 1, 3000, .inl (nf sb))) := f_sb
      replace f_su : N5 B.su = some (.inl (ct 1, 8, .inl su)) := f_su
      replace f_wi : N5 B.wi = some (.inl (ct 1, 64, .inl wi)) := f_wi
      replace f_tu : N5 B.tu = some (.inl (ct 1, 8, .inl tu)) := f_tu
      exact hp_vret S hret hlk hM hS (⟨sb, su, wi, tu, h8, hw5, fun i hi => by rw [hh8 i hi]; exact hsu i hi⟩) d_MD_hold_44
    · exact absurd hn1 (by omega)
  | succ fu1 ih1 =>
    refine lv_iload_n hx hb d_MD_hold_12 rfl (lv_at hl 2 rfl) ?_
    refine lv_iload_n hx hb d_MD_hold_13 rfl (lv_at hl 1 rfl) ?_
    refine nb_ge (tgt := 35) hx hb d_MD_hold_14 (by decide) (by omega) (by omega) (fun hkn => ?_) (fun hkn => ?_)
    · exact absurd hn1 (by omega)
    · refine lv_aload_n hx hb d_MD_hold_17 rfl (lv_at hl 0 rfl) ?_
      refine hp_get S hK hM i_MD f_md rfl 17 (by decide) mf_MD_118 (fun _ h9 => h9) rfl d_MD_hold_18 ?_
      refine lv_iload_n hx hb d_MD_hold_21 rfl (lv_at hl 2 rfl) ?_
      refine lv_aload_n hx hb d_MD_hold_22 rfl (lv_at hl 0 rfl) ?_
      refine hp_get S hK hM i_MD f_md rfl 2 (by decide) mf_MD_85 (fun _ h9 => h9) rfl d_MD_hold_23 ?_
      refine lv_iload_n hx hb d_MD_hold_26 rfl (lv_at hl 2 rfl) ?_
      refine hp_iald S hK hM 1 f_te rfl k rfl (by omega) (by omega) d_MD_hold_27 ?_
      refine hp_iast S hK hM hS 1 f_sb rfl k rfl (by omega) (by omega) d_MD_hold_28 (fun H locs hM hS => ?_)
      first | rw [nf_up] at hM | rw [show upd (nf sb) k (nf V.te k) = nf (va_up sb k (V.te k)) from nf_up] at hM
      have f_md := hp_k (e := (.inl (ct 1, 3000, .inl (nf (va_up sb k (V.te k)))))) (hp_ne f_md f_sb (by simp)) f_md
      have f_ro := hp_k (e := (.inl (ct 1, 3000, .inl (nf (va_up sb k (V.te k)))))) (hp_ne f_ro f_sb (by simp)) f_ro
      have f_te := hp_k (e := (.inl (ct 1, 3000, .inl (nf (va_up sb k (V.te k)))))) (hp_ne f_te f_sb (by simp)) f_te
      have f_he := hp_k (e := (.inl (ct 1, 3000, .inl (nf (va_up sb k (V.te k)))))) (hp_ne f_he f_sb (by simp)) f_he
      have f_cn := hp_k (e := (.inl (ct 1, 3000, .inl (nf (va_up sb k (V.te k)))))) (hp_ne f_cn f_sb (by simp)) f_cn
      have f_kd := hp_k (e := (.inl (ct 1, 3000, .inl (nf (va_up sb k (V.te k)))))) (hp_ne f_kd f_sb (by simp)) f_kd
      have f_sz := hp_k (e := (.inl (ct 1, 3000, .inl (nf (va_up sb k (V.te k)))))) (hp_ne f_sz f_sb (by simp)) f_sz
      have f_ky := hp_k (e := (.inl (ct 1, 3000, .inl (nf (va_up sb k (V.te k)))))) (hp_ne f_ky f_sb (by simp)) f_ky
      have f_le := hp_k (e := (.inl (ct 1, 3000, .inl (nf (va_up sb k (V.te k)))))) (hp_ne f_le f_sb (by simp)) f_le
      have f_dg := hp_k (e := (.inl (ct 1, 3000, .inl (nf (va_up sb k (V.te k)))))) (hp_ne f_dg f_sb (by simp)) f_dg
      have f_nm := hp_k (e := (.inl (ct 1, 3000, .inl (nf (va_up sb k (V.te k)))))) (hp_ne f_nm f_sb (by simp)) f_nm
      have f_ns := hp_k (e := (.inl (ct 1, 3000, .inl (nf (va_up sb k (V.te k)))))) (hp_ne f_ns f_sb (by simp)) f_ns
      have f_sl := hp_k (e := (.inl (ct 1, 3000, .inl (nf (va_up sb k (V.te k)))))) (hp_ne f_sl f_sb (by simp)) f_sl
      have f_su := hp_k (e := (.inl (ct 1, 3000, .inl (nf (va_up sb k (V.te k)))))) (hp_ne f_su f_sb (by simp)) f_su
      have f_wi := hp_k (e := (.inl (ct 1, 3000, .inl (nf (va_up sb k (V.te k)))))) (hp_ne f_wi f_sb (by simp)) f_wi
      have f_tu := hp_k (e := (.inl (ct 1, 3000, .inl (nf (va_up sb k (V.te k)))))) (hp_ne f_tu f_sb (by simp)) f_tu
      have f_sb : hp_up N3 B.sb (.inl (ct 1, 3000, .inl (nf (va_up sb k (V.te k))))) B.sb = some (.inl (ct 1, 3000, .inl (nf (va_up sb k (V.te k))))) := hp_us
      obtain ⟨M6, eM6⟩ : ∃ z, z = hp_up N3 B.sb (.inl (ct 1, 3000, .inl (nf (va_up sb k (V.te k))))) := ⟨_, rfl⟩
      rw [← eM6] at hM f_md f_ro f_te f_he f_cn f_kd f_sz f_ky f_le f_dg f_nm f_ns f_sl f_sb f_su f_wi f_tu
      refine lv_iinc (v := nI (k + 1)) (lv' := [(2, .int (nI (k + 1))), (0, .ref md), (1, .int (nI (T.length)))]) hx hb d_MD_hold_29 hl (k := 2) rfl (nI_add k 1) (by decide) rfl (fun ls hl => ?_)
      refine lv_goto (tgt := 12) hx hb d_MD_hold_32 (by decide) ?_
      exact ih1 (ls := ls) (hl := lv_sub hl [1, 2, 0] rfl) (hn1 := by omega) (k := k + 1) (sb := va_up sb k (V.te k)) (hsb := lt_s (fun i hi => by rw [up_n (Nat.ne_of_lt hi)]; exact hsb i hi) (by rw [up_s]; exact hte k (by omega))) (hsbb := up_lt hsbb (b_te k)) (H := H) (locs := locs) (hM := hM) (hS := hS) (N3 := M6) (f_md := f_md) (f_ro := f_ro) (f_te := f_te) (f_he := f_he) (f_cn := f_cn) (f_kd := f_kd) (f_sz := f_sz) (f_ky := f_ky) (f_le := f_le) (f_dg := f_dg) (f_nm := f_nm) (f_ns := f_ns) (f_sl := f_sl) (f_sb := f_sb) (f_su := f_su) (f_wi := f_wi) (f_tu := f_tu)
theorem app_at {x y : List Nat} {i : Nat} : (x ++ y).getD i 0 = if i < x.length then x.getD i 0 else y.getD (i - x.length) 0 := by
  rw [List.getD_eq_getElem?_getD, List.getD_eq_getElem?_getD, List.getD_eq_getElem?_getD]
  by_cases h : i < x.length
  · rw [if_pos h, List.getElem?_append_left h]
  · rw [if_neg h, List.getElem?_append_right (by omega)]
theorem getD_ge {x : List Nat} {i : Nat} (h : x.length ≤ i) : x.getD i 0 = 0 := by rw [List.getD_eq_getElem?_getD, List.getElem?_eq_none h]; rfl
set_option maxHeartbeats 4000000 in
set_option maxRecDepth 100000 in
/-- digest(a, p) -/
theorem c_MD_digest (l : Launch) (D : va_G) (ct : Nat → ClassId) (Z : hp_Z) (hZ : hp_Zok Z) (M : hp_M) (sz : Nat) (md : Nat) (B : MA) (V : MS) (hw : mdS ct M md B V) (LL : List (List MR)) (hLL : mdL V LL) (Al : List (List Nat)) (hnA : nmA V Al) (OO : Nat → List MR) (hOO : ∀ j, j < LL.length → ordL Al (LL.getD j []) (OO j)) (sa : List Nat) (hsd : V.sd = sa.length) (hsa16 : sa.length ≤ 16) (hsl : ∀ i, i < sa.length → V.sl i = sa.getD i 0) (x k : Int32) : Mi l y_MD_digest b_MD_digest 4 (some .int) 3 77 0 0 [.ref md, .int x, .int k] D ct Z M sz (fun r M1 => onM LL x r (fun j r => onK 8 k r (fun q r => r = shaM (sa ++ stA ((OO j).map clR)) q) 0) 0 ∧ ∃ sb ss su wi tu, mdS ct M1 md B (mkS (V.te) (V.cn) (V.kd) (V.sz) (V.ky) (V.le) (V.nm) (V.ns) (V.sl) sb (V.he) (V.dg) su wi tu 0 (V.ty) (V.ac) (V.al) (V.sd) ss)) := by
  refine hp_start (by decide) (Nat.le_of_ble_eq_true rfl) (fun p e s m below meth c ls S hret hlk hnm hsz hK hM hS hA hz hl => ?_)
  have hx := S.1
  have hb := S.2.1
  have hl : lv_has ls 4 [(0, .ref md), (1, .int x), (2, .int k)] := hl
  obtain ⟨f_md, f_ro, f_te, f_he, f_cn, f_kd, f_sz, f_ky, f_le, f_dg, f_nm, f_ns, f_sl, f_sb, f_su, f_wi, f_tu, hB, hV⟩ := id hw
  obtain ⟨n_kdsz, n_kdky, n_szky, n_hens, n_hesu, n_hetu, n_nssu, n_nstu, n_sutu, n_tewi⟩ := id hB
  obtain ⟨b_te, b_cn, b_kd, b_sz, b_ky, b_le, b_nm, b_ns, b_sl, b_sb, b_co, b_ty, b_ac, b_al, b_sd, b_ss⟩ := id hV
  refine lv_aload_n hx hb d_MD_digest_0 rfl (lv_at hl 0 rfl) ?_
  refine lv_iconst (v := nI 0) hx hb d_MD_digest_1 rfl ?_
  refine hp_put (ty := .int) (fs' := [.ref B.ro, .int (nI 0), .ref B.te, .int (nI (V.ty)), .int (nI (V.ac)), .int (nI (V.al)), .int (nI (V.sd)), .ref B.he, .ref B.cn, .ref B.kd, .ref B.sz, .ref B.ky, .ref B.le, .ref B.dg, .ref B.nm, .ref B.ns, .ref B.sl, .ref B.sb, .int (nI (V.ss)), .ref B.su, .ref B.wi, .ref B.tu]) S hK hM hS i_MD t_MD to_MD n_MD f_md rfl 1 (by decide) mf_MD_137 (fun _ h9 => h9) rfl (by decide +kernel) rfl rfl (by simp) rfl d_MD_digest_2 (fun H locs hM hS => ?_)
  have f_ro := hp_k (e := (.inr (6, [.ref B.ro, .int (nI 0), .ref B.te, .int (nI (V.ty)), .int (nI (V.ac)), .int (nI (V.al)), .int (nI (V.sd)), .ref B.he, .ref B.cn, .ref B.kd, .ref B.sz, .ref B.ky, .ref B.le, .ref B.dg, .ref B.nm, .ref B.ns, .ref B.sl, .ref B.sb, .int (nI (V.ss)), .ref B.su, .ref B.wi, .ref B.tu]))) (hp_ne f_ro f_md (by simp)) f_ro
  have f_te := hp_k (e := (.inr (6, [.ref B.ro, .int (nI 0), .ref B.te, .int (nI (V.ty)), .int (nI (V.ac)), .int (nI (V.al)), .int (nI (V.sd)), .ref B.he, .ref B.cn, .ref B.kd, .ref B.sz, .ref B.ky, .ref B.le, .ref B.dg, .ref B.nm, .ref B.ns, .ref B.sl, .ref B.sb, .int (nI (V.ss)), .ref B.su, .ref B.wi, .ref B.tu]))) (hp_ne f_te f_md (by simp)) f_te
  have f_he := hp_k (e := (.inr (6, [.ref B.ro, .int (nI 0), .ref B.te, .int (nI (V.ty)), .int (nI (V.ac)), .int (nI (V.al)), .int (nI (V.sd)), .ref B.he, .ref B.cn, .ref B.kd, .ref B.sz, .ref B.ky, .ref B.le, .ref B.dg, .ref B.nm, .ref B.ns, .ref B.sl, .ref B.sb, .int (nI (V.ss)), .ref B.su, .ref B.wi, .ref B.tu]))) (hp_ne f_he f_md (by simp)) f_he
  have f_cn := hp_k (e := (.inr (6, [.ref B.ro, .int (nI 0), .ref B.te, .int (nI (V.ty)), .int (nI (V.ac)), .int (nI (V.al)), .int (nI (V.sd)), .ref B.he, .ref B.cn, .ref B.kd, .ref B.sz, .ref B.ky, .ref B.le, .ref B.dg, .ref B.nm, .ref B.ns, .ref B.sl, .ref B.sb, .int (nI (V.ss)), .ref B.su, .ref B.wi, .ref B.tu]))) (hp_ne f_cn f_md (by simp)) f_cn
  have f_kd := hp_k (e := (.inr (6, [.ref B.ro, .int (nI 0), .ref B.te, .int (nI (V.ty)), .int (nI (V.ac)), .int (nI (V.al)), .int (nI (V.sd)), .ref B.he, .ref B.cn, .ref B.kd, .ref B.sz, .ref B.ky, .ref B.le, .ref B.dg, .ref B.nm, .ref B.ns, .ref B.sl, .ref B.sb, .int (nI (V.ss)), .ref B.su, .ref B.wi, .ref B.tu]))) (hp_ne f_kd f_md (by simp)) f_kd
  have f_sz := hp_k (e := (.inr (6, [.ref B.ro, .int (nI 0), .ref B.te, .int (nI (V.ty)), .int (nI (V.ac)), .int (nI (V.al)), .int (nI (V.sd)), .ref B.he, .ref B.cn, .ref B.kd, .ref B.sz, .ref B.ky, .ref B.le, .ref B.dg, .ref B.nm, .ref B.ns, .ref B.sl, .ref B.sb, .int (nI (V.ss)), .ref B.su, .ref B.wi, .ref B.tu]))) (hp_ne f_sz f_md (by simp)) f_sz
  have f_ky := hp_k (e := (.inr (6, [.ref B.ro, .int (nI 0), .ref B.te, .int (nI (V.ty)), .int (nI (V.ac)), .int (nI (V.al)), .int (nI (V.sd)), .ref B.he, .ref B.cn, .ref B.kd, .ref B.sz, .ref B.ky, .ref B.le, .ref B.dg, .ref B.nm, .ref B.ns, .ref B.sl, .ref B.sb, .int (nI (V.ss)), .ref B.su, .ref B.wi, .ref B.tu]))) (hp_ne f_ky f_md (by simp)) f_ky
  have f_le := hp_k (e := (.inr (6, [.ref B.ro, .int (nI 0), .ref B.te, .int (nI (V.ty)), .int (nI (V.ac)), .int (nI (V.al)), .int (nI (V.sd)), .ref B.he, .ref B.cn, .ref B.kd, .ref B.sz, .ref B.ky, .ref B.le, .ref B.dg, .ref B.nm, .ref B.ns, .ref B.sl, .ref B.sb, .int (nI (V.ss)), .ref B.su, .ref B.wi, .ref B.tu]))) (hp_ne f_le f_md (by simp)) f_le
  have f_dg := hp_k (e := (.inr (6, [.ref B.ro, .int (nI 0), .ref B.te, .int (nI (V.ty)), .int (nI (V.ac)), .int (nI (V.al)), .int (nI (V.sd)), .ref B.he, .ref B.cn, .ref B.kd, .ref B.sz, .ref B.ky, .ref B.le, .ref B.dg, .ref B.nm, .ref B.ns, .ref B.sl, .ref B.sb, .int (nI (V.ss)), .ref B.su, .ref B.wi, .ref B.tu]))) (hp_ne f_dg f_md (by simp)) f_dg
  have f_nm := hp_k (e := (.inr (6, [.ref B.ro, .int (nI 0), .ref B.te, .int (nI (V.ty)), .int (nI (V.ac)), .int (nI (V.al)), .int (nI (V.sd)), .ref B.he, .ref B.cn, .ref B.kd, .ref B.sz, .ref B.ky, .ref B.le, .ref B.dg, .ref B.nm, .ref B.ns, .ref B.sl, .ref B.sb, .int (nI (V.ss)), .ref B.su, .ref B.wi, .ref B.tu]))) (hp_ne f_nm f_md (by simp)) f_nm
  have f_ns := hp_k (e := (.inr (6, [.ref B.ro, .int (nI 0), .ref B.te, .int (nI (V.ty)), .int (nI (V.ac)), .int (nI (V.al)), .int (nI (V.sd)), .ref B.he, .ref B.cn, .ref B.kd, .ref B.sz, .ref B.ky, .ref B.le, .ref B.dg, .ref B.nm, .ref B.ns, .ref B.sl, .ref B.sb, .int (nI (V.ss)), .ref B.su, .ref B.wi, .ref B.tu]))) (hp_ne f_ns f_md (by simp)) f_ns
  have f_sl := hp_k (e := (.inr (6, [.ref B.ro, .int (nI 0), .ref B.te, .int (nI (V.ty)), .int (nI (V.ac)), .int (nI (V.al)), .int (nI (V.sd)), .ref B.he, .ref B.cn, .ref B.kd, .ref B.sz, .ref B.ky, .ref B.le, .ref B.dg, .ref B.nm, .ref B.ns, .ref B.sl, .ref B.sb, .int (nI (V.ss)), .ref B.su, .ref B.wi, .ref B.tu]))) (hp_ne f_sl f_md (by simp)) f_sl
  have f_sb := hp_k (e := (.inr (6, [.ref B.ro, .int (nI 0), .ref B.te, .int (nI (V.ty)), .int (nI (V.ac)), .int (nI (V.al)), .int (nI (V.sd)), .ref B.he, .ref B.cn, .ref B.kd, .ref B.sz, .ref B.ky, .ref B.le, .ref B.dg, .ref B.nm, .ref B.ns, .ref B.sl, .ref B.sb, .int (nI (V.ss)), .ref B.su, .ref B.wi, .ref B.tu]))) (hp_ne f_sb f_md (by simp)) f_sb
  have f_su := hp_k (e := (.inr (6, [.ref B.ro, .int (nI 0), .ref B.te, .int (nI (V.ty)), .int (nI (V.ac)), .int (nI (V.al)), .int (nI (V.sd)), .ref B.he, .ref B.cn, .ref B.kd, .ref B.sz, .ref B.ky, .ref B.le, .ref B.dg, .ref B.nm, .ref B.ns, .ref B.sl, .ref B.sb, .int (nI (V.ss)), .ref B.su, .ref B.wi, .ref B.tu]))) (hp_ne f_su f_md (by simp)) f_su
  have f_wi := hp_k (e := (.inr (6, [.ref B.ro, .int (nI 0), .ref B.te, .int (nI (V.ty)), .int (nI (V.ac)), .int (nI (V.al)), .int (nI (V.sd)), .ref B.he, .ref B.cn, .ref B.kd, .ref B.sz, .ref B.ky, .ref B.le, .ref B.dg, .ref B.nm, .ref B.ns, .ref B.sl, .ref B.sb, .int (nI (V.ss)), .ref B.su, .ref B.wi, .ref B.tu]))) (hp_ne f_wi f_md (by simp)) f_wi
  have f_tu := hp_k (e := (.inr (6, [.ref B.ro, .int (nI 0), .ref B.te, .int (nI (V.ty)), .int (nI (V.ac)), .int (nI (V.al)), .int (nI (V.sd)), .ref B.he, .ref B.cn, .ref B.kd, .ref B.sz, .ref B.ky, .ref B.le, .ref B.dg, .ref B.nm, .ref B.ns, .ref B.sl, .ref B.sb, .int (nI (V.ss)), .ref B.su, .ref B.wi, .ref B.tu]))) (hp_ne f_tu f_md (by simp)) f_tu
  have f_md : hp_up M md (.inr (6, [.ref B.ro, .int (nI 0), .ref B.te, .int (nI (V.ty)), .int (nI (V.ac)), .int (nI (V.al)), .int (nI (V.sd)), .ref B.he, .ref B.cn, .ref B.kd, .ref B.sz, .ref B.ky, .ref B.le, .ref B.dg, .ref B.nm, .ref B.ns, .ref B.sl, .ref B.sb, .int (nI (V.ss)), .ref B.su, .ref B.wi, .ref B.tu])) md = some (.inr (6, [.ref B.ro, .int (nI 0), .ref B.te, .int (nI (V.ty)), .int (nI (V.ac)), .int (nI (V.al)), .int (nI (V.sd)), .ref B.he, .ref B.cn, .ref B.kd, .ref B.sz, .ref B.ky, .ref B.le, .ref B.dg, .ref B.nm, .ref B.ns, .ref B.sl, .ref B.sb, .int (nI (V.ss)), .ref B.su, .ref B.wi, .ref B.tu])) := hp_us
  obtain ⟨M1, eM1⟩ : ∃ z, z = hp_up M md (.inr (6, [.ref B.ro, .int (nI 0), .ref B.te, .int (nI (V.ty)), .int (nI (V.ac)), .int (nI (V.al)), .int (nI (V.sd)), .ref B.he, .ref B.cn, .ref B.kd, .ref B.sz, .ref B.ky, .ref B.le, .ref B.dg, .ref B.nm, .ref B.ns, .ref B.sl, .ref B.sb, .int (nI (V.ss)), .ref B.su, .ref B.wi, .ref B.tu])) := ⟨_, rfl⟩
  rw [← eM1] at hM f_md f_ro f_te f_he f_cn f_kd f_sz f_ky f_le f_dg f_nm f_ns f_sl f_sb f_su f_wi f_tu
  have hw1 : mdS ct M1 md B (mkS (V.te) (V.cn) (V.kd) (V.sz) (V.ky) (V.le) (V.nm) (V.ns) (V.sl) (V.sb) (V.he) (V.dg) (V.su) (V.wi) (V.tu) 0 (V.ty) (V.ac) (V.al) (V.sd) (V.ss)) := ⟨f_md, f_ro, f_te, f_he, f_cn, f_kd, f_sz, f_ky, f_le, f_dg, f_nm, f_ns, f_sl, f_sb, f_su, f_wi, f_tu, hB, b_te, b_cn, b_kd, b_sz, b_ky, b_le, b_nm, b_ns, b_sl, b_sb, Nat.zero_le _, b_ty, b_ac, b_al, b_sd, b_ss⟩
  refine lv_aload_n hx hb d_MD_digest_5 rfl (lv_at hl 0 rfl) ?_
  refine lv_iload_n hx hb d_MD_digest_6 rfl (lv_at hl 1 rfl) ?_
  refine hp_calli (go_V S hZ hK hM hS hA hz (c_MD_isAction l D ct Z hZ _ _ md B (mkS (V.te) (V.cn) (V.kd) (V.sz) (V.ky) (V.le) (V.nm) (V.ns) (V.sl) (V.sb) (V.he) (V.dg) (V.su) (V.wi) (V.tu) 0 (V.ty) (V.ac) (V.al) (V.sd) (V.ss)) hw1 x) mc_MD_isAction mz_MD ml_MD_168 mi_MD_isAction mx_MD_isAction hd_MD_isAction rfl ⟨by decide, by decide⟩ f_md rfl rfl hl.1 rfl (Nat.le_of_ble_eq_true rfl) d_MD_digest_7 ⟨by decide, by decide⟩) hM hS hA (fun r2 N3 H locs hr2 hM hS => ?_)
  rw [hr2.1] at hM
  replace hr2 := hr2.2
  refine nt_eq (tgt := 23) hx hb d_MD_digest_10 (by decide) hr2 (fun hia => ?_) (fun hia => ?_)
  · refine lv_iconst (v := nI 0) hx hb d_MD_digest_23 rfl ?_
    exact hp_iret S hret hlk (rfl) hM hS (⟨Or.inr ⟨fun j hj e => hia ⟨j, by first | (rw [hLL.1]; exact hj) | (show j < V.ac; rw [hLL.1]; exact hj), e⟩, rfl⟩, V.sb, V.ss, V.su, V.wi, V.tu, hw1⟩) d_MD_digest_24
  · obtain ⟨j, hj, ej⟩ := hia
    subst ej
    have hj : j < LL.length := by rw [← hLL.1]; exact hj
    obtain ⟨hcn, hL24, hLr⟩ := hLL.2.2.1 j hj
    have hj12 : j < 12 := Nat.lt_of_lt_of_le hj hLL.2.1
    refine lv_iload_n hx hb d_MD_digest_13 rfl (lv_at hl 2 rfl) ?_
    refine lv_if_lt (tgt := 23) hx hb d_MD_digest_14 (by decide) (fun hk0 => ?_) (fun hk0 => ?_)
    · refine lv_iconst (v := nI 0) hx hb d_MD_digest_23 rfl ?_
      exact hp_iret S hret hlk (rfl) hM hS (⟨Or.inl ⟨j, hj, rfl, Or.inr ⟨fun q hq e => by subst e; first | exact nI_pos (by omega) hk0 | exact hk7 ((nI_leI (by omega) (by decide)).mpr (by omega)), rfl⟩⟩, V.sb, V.ss, V.su, V.wi, V.tu, hw1⟩) d_MD_digest_24
    · refine lv_iload_n hx hb d_MD_digest_17 rfl (lv_at hl 2 rfl) ?_
      refine lv_bipush (v := nI 7) hx hb d_MD_digest_18 rfl ?_
      refine lv_icmp_le (tgt := 25) hx hb d_MD_digest_20 (by decide) (fun hk7 => ?_) (fun hk7 => ?_)
      · obtain ⟨k1, hk1, ek⟩ := nI_of hk0
        subst ek
        have hk2 : k1 ≤ 7 := (nI_leI hk1 (by decide)).mp hk7
        refine lv_aload_n hx hb d_MD_digest_25 rfl (lv_at hl 0 rfl) ?_
        refine lv_iload_n hx hb d_MD_digest_26 rfl (lv_at hl 1 rfl) ?_
        refine hp_callv (go_V S hZ hK hM hS hA hz (c_MD_write l D ct Z hZ _ _ md B (mkS (V.te) (V.cn) (V.kd) (V.sz) (V.ky) (V.le) (V.nm) (V.ns) (V.sl) (V.sb) (V.he) (V.dg) (V.su) (V.wi) (V.tu) 0 (V.ty) (V.ac) (V.al) (V.sd) (V.ss)) hw1 LL hLL Al hnA OO hOO j hj) mc_MD_write mz_MD ml_MD_212 mi_MD_write mx_MD_write hd_MD_write rfl ⟨by decide, by decide⟩ f_md rfl rfl hl.1 rfl (Nat.le_of_ble_eq_true rfl) d_MD_digest_27 ⟨by decide, by decide⟩) hM hS hA (fun M9 H locs h9 hM hS => ?_)
        obtain ⟨sb1, hw2, hsb1, hT25⟩ := h9
        obtain ⟨T1, eT1⟩ : ∃ z, z = stA ((OO j).map clR) := ⟨_, rfl⟩
        rw [← eT1] at hw2 hsb1 hT25
        clear f_md f_ro f_te f_he f_cn f_kd f_sz f_ky f_le f_dg f_nm f_ns f_sl f_sb f_su f_wi f_tu
        obtain ⟨f_md, f_ro, f_te, f_he, f_cn, f_kd, f_sz, f_ky, f_le, f_dg, f_nm, f_ns, f_sl, f_sb, f_su, f_wi, f_tu, hB, hV⟩ := id hw2
        replace f_md : M9 md = some (.inr (6, [.ref B.ro, .int (nI 0), .ref B.te, .int (nI (V.ty)), .int (nI (V.ac)), .int (nI (V.al)), .int (nI (V.sd)), .ref B.he, .ref B.cn, .ref B.kd, .ref B.sz, .ref B.ky, .ref B.le, .ref B.dg, .ref B.nm, .ref B.ns, .ref B.sl, .ref B.sb, .int (nI (T1.length)), .ref B.su, .ref B.wi, .ref B.tu])) := f_md
        replace f_ro : M9 B.ro = some (.inl (ct 1, 72, .inl roF)) := f_ro
        replace f_te : M9 B.te = some (.inl (ct 1, 64, .inl (nf V.te))) := f_te
        replace f_he : M9 B.he = some (.inl (ct 1, 8, .inl (V.he))) := f_he
        replace f_cn : M9 B.cn = some (.inl (ct 1, 12, .inl (nf V.cn))) := f_cn
        replace f_kd : M9 B.kd = some (.inl (ct 1, 288, .inl (nf V.kd))) := f_kd
        replace f_sz : M9 B.sz = some (.inl (ct 1, 288, .inl (nf V.sz))) := f_sz
        replace f_ky : M9 B.ky = some (.inl (ct 1, 288, .inl (nf V.ky))) := f_ky
        replace f_le : M9 B.le = some (.inl (ct 1, 18432, .inl (nf V.le))) := f_le
        replace f_dg : M9 B.dg = some (.inl (ct 1, 2304, .inl (V.dg))) := f_dg
        replace f_nm : M9 B.nm = some (.inl (ct 1, 128, .inl (nf V.nm))) := f_nm
        replace f_ns : M9 B.ns = some (.inl (ct 1, 8, .inl (nf V.ns))) := f_ns
        replace f_sl : M9 B.sl = some (.inl (ct 1, 16, .inl (nf V.sl))) := f_sl
        replace f_sb : M9 B.sb = some (.inl (ct 1, 3000, .inl (nf sb1))) := f_sb
        replace f_su : M9 B.su = some (.inl (ct 1, 8, .inl (V.su))) := f_su
        replace f_wi : M9 B.wi = some (.inl (ct 1, 64, .inl (V.wi))) := f_wi
        replace f_tu : M9 B.tu = some (.inl (ct 1, 8, .inl (V.tu))) := f_tu
        have hT13 : T1.length ≤ 3000 := hV.2.2.2.2.2.2.2.2.2.2.2.2.2.2.2
        have b_sb1 : ∀ i, sb1 i < 65536 := hV.2.2.2.2.2.2.2.2.2.1
        refine lv_aload_n hx hb d_MD_digest_30 rfl (lv_at hl 0 rfl) ?_
        refine hp_get S hK hM i_MD f_md rfl 18 (by decide) mf_MD_203 (fun _ h9 => h9) rfl d_MD_digest_31 ?_
        refine lv_iconst (v := nI 1) hx hb d_MD_digest_34 rfl ?_
        refine lv_isub hx hb d_MD_digest_35 ?_
        refine lv_istore_n (lv' := [(3, .int ((nI (T1.length)) - (nI 1))), (0, .ref md), (1, .int (nI j)), (2, .int (nI k1))]) hx hb d_MD_digest_36 rfl hl (by decide) rfl (fun ls hl => ?_)
        have hcS : ∀ i, T1.getD i 0 < 65536 := fun i => by rcases Nat.lt_or_ge i T1.length with z | z; (rw [← hsb1 i z]; exact b_sb1 i); (rw [getD_ge z]; decide)
        replace hl : lv_has ls 4 [(0, .ref md), (1, .int (nI j)), (2, .int (nI k1)), (3, .int ((nI (T1.length)) - (nI 1)))] := lv_sub hl [1, 2, 3, 0] rfl
        obtain ⟨u, e9u⟩ : ∃ z : Nat, z = T1.length := ⟨_, rfl⟩
        obtain ⟨sb, e9sb⟩ : ∃ z, z = sb1 := ⟨_, rfl⟩
        replace hl : lv_has ls 4 [(0, .ref md), (1, .int (nI j)), (2, .int (nI k1)), (3, .int (nI u - nI 1))] := by rw [e9u]; exact hl
        obtain ⟨N, e9N⟩ : ∃ z : hp_M, z = M9 := ⟨_, rfl⟩
        replace hM : hp_H D ccl (hp_A M sz) N H := by rw [e9N]; exact hM
        replace f_md : N md = some (.inr (6, [.ref B.ro, .int (nI 0), .ref B.te, .int (nI (V.ty)), .int (nI (V.ac)), .int (nI (V.al)), .int (nI (V.sd)), .ref B.he, .ref B.cn, .ref B.kd, .ref B.sz, .ref B.ky, .ref B.le, .ref B.dg, .ref B.nm, .ref B.ns, .ref B.sl, .ref B.sb, .int (nI (T1.length)), .ref B.su, .ref B.wi, .ref B.tu])) := by rw [e9N]; exact f_md
        replace f_ro : N B.ro = some (.inl (ct 1, 72, .inl roF)) := by rw [e9N]; exact f_ro
        replace f_te : N B.te = some (.inl (ct 1, 64, .inl (nf V.te))) := by rw [e9N]; exact f_te
        replace f_he : N B.he = some (.inl (ct 1, 8, .inl (V.he))) := by rw [e9N]; exact f_he
        replace f_cn : N B.cn = some (.inl (ct 1, 12, .inl (nf V.cn))) := by rw [e9N]; exact f_cn
        replace f_kd : N B.kd = some (.inl (ct 1, 288, .inl (nf V.kd))) := by rw [e9N]; exact f_kd
        replace f_sz : N B.sz = some (.inl (ct 1, 288, .inl (nf V.sz))) := by rw [e9N]; exact f_sz
        replace f_ky : N B.ky = some (.inl (ct 1, 288, .inl (nf V.ky))) := by rw [e9N]; exact f_ky
        replace f_le : N B.le = some (.inl (ct 1, 18432, .inl (nf V.le))) := by rw [e9N]; exact f_le
        replace f_dg : N B.dg = some (.inl (ct 1, 2304, .inl (V.dg))) := by rw [e9N]; exact f_dg
        replace f_nm : N B.nm = some (.inl (ct 1, 128, .inl (nf V.nm))) := by rw [e9N]; exact f_nm
        replace f_ns : N B.ns = some (.inl (ct 1, 8, .inl (nf V.ns))) := by rw [e9N]; exact f_ns
        replace f_sl : N B.sl = some (.inl (ct 1, 16, .inl (nf V.sl))) := by rw [e9N]; exact f_sl
        replace f_sb : N B.sb = some (.inl (ct 1, 3000, .inl (nf sb))) := by rw [e9N, e9sb]; exact f_sb
        replace f_su : N B.su = some (.inl (ct 1, 8, .inl (V.su))) := by rw [e9N]; exact f_su
        replace f_wi : N B.wi = some (.inl (ct 1, 64, .inl (V.wi))) := by rw [e9N]; exact f_wi
        replace f_tu : N B.tu = some (.inl (ct 1, 8, .inl (V.tu))) := by rw [e9N]; exact f_tu
        have hu : u ≤ T1.length := by omega
        have hlo : ∀ i, i < u → sb i = T1.getD i 0 := by rw [e9u, e9sb]; exact hsb1
        have hhi : ∀ i, u ≤ i → i < T1.length → sb (i + sa.length) = T1.getD i 0 := fun i h1 h2 => by omega
        have hsbb : ∀ i, sb i < 65536 := by rw [e9sb]; exact b_sb1
        clear e9u e9sb e9N
        induction u generalizing sb N H locs ls with
        | zero =>
          refine lv_iload_n hx hb d_MD_digest_37 rfl (lv_at hl 3 rfl) ?_
          refine lv_if_lt (tgt := 64) hx hb d_MD_digest_38 (by decide) (fun h4 => ?_) (fun h4 => ?_)
          · refine lv_iconst (v := nI 0) hx hb d_MD_digest_64 rfl ?_
            refine lv_istore_n (lv' := [(3, .int (nI 0)), (0, .ref md), (1, .int (nI j)), (2, .int (nI k1))]) hx hb d_MD_digest_65 rfl hl (by decide) rfl (fun ls hl => ?_)
            replace hl : lv_has ls 4 [(0, .ref md), (1, .int (nI j)), (2, .int (nI k1)), (3, .int (nI 0))] := lv_sub hl [1, 2, 3, 0] rfl
            obtain ⟨q, e9q⟩ : ∃ z : Nat, z = 0 := ⟨_, rfl⟩
            obtain ⟨sc, e9sc⟩ : ∃ z : Nat → Nat, z = sb := ⟨_, rfl⟩
            replace hl : lv_has ls 4 [(0, .ref md), (1, .int (nI j)), (2, .int (nI k1)), (3, .int (nI q))] := by subst e9q e9sc; exact hl
            obtain ⟨N5, e9N5⟩ : ∃ z : hp_M, z = N := ⟨_, rfl⟩
            replace hM : hp_H D ccl (hp_A M sz) N5 H := by rw [e9N5]; exact hM
            replace f_md : N5 md = some (.inr (6, [.ref B.ro, .int (nI 0), .ref B.te, .int (nI (V.ty)), .int (nI (V.ac)), .int (nI (V.al)), .int (nI (V.sd)), .ref B.he, .ref B.cn, .ref B.kd, .ref B.sz, .ref B.ky, .ref B.le, .ref B.dg, .ref B.nm, .ref B.ns, .ref B.sl, .ref B.sb, .int (nI (T1.length)), .ref B.su, .ref B.wi, .ref B.tu])) := by rw [e9N5]; exact f_md
            replace f_ro : N5 B.ro = some (.inl (ct 1, 72, .inl roF)) := by rw [e9N5]; exact f_ro
            replace f_te : N5 B.te = some (.inl (ct 1, 64, .inl (nf V.te))) := by rw [e9N5]; exact f_te
            replace f_he : N5 B.he = some (.inl (ct 1, 8, .inl (V.he))) := by rw [e9N5]; exact f_he
            replace f_cn : N5 B.cn = some (.inl (ct 1, 12, .inl (nf V.cn))) := by rw [e9N5]; exact f_cn
            replace f_kd : N5 B.kd = some (.inl (ct 1, 288, .inl (nf V.kd))) := by rw [e9N5]; exact f_kd
            replace f_sz : N5 B.sz = some (.inl (ct 1, 288, .inl (nf V.sz))) := by rw [e9N5]; exact f_sz
            replace f_ky : N5 B.ky = some (.inl (ct 1, 288, .inl (nf V.ky))) := by rw [e9N5]; exact f_ky
            replace f_le : N5 B.le = some (.inl (ct 1, 18432, .inl (nf V.le))) := by rw [e9N5]; exact f_le
            replace f_dg : N5 B.dg = some (.inl (ct 1, 2304, .inl (V.dg))) := by rw [e9N5]; exact f_dg
            replace f_nm : N5 B.nm = some (.inl (ct 1, 128, .inl (nf V.nm))) := by rw [e9N5]; exact f_nm
            replace f_ns : N5 B.ns = some (.inl (ct 1, 8, .inl (nf V.ns))) := by rw [e9N5]; exact f_ns
            replace f_sl : N5 B.sl = some (.inl (ct 1, 16, .inl (nf V.sl))) := by rw [e9N5]; exact f_sl
            replace f_sb : N5 B.sb = some (.inl (ct 1, 3000, .inl (nf sb))) := by rw [e9N5]; exact f_sb
            replace f_su : N5 B.su = some (.inl (ct 1, 8, .inl (V.su))) := by rw [e9N5]; exact f_su
            replace f_wi : N5 B.wi = some (.inl (ct 1, 64, .inl (V.wi))) := by rw [e9N5]; exact f_wi
            replace f_tu : N5 B.tu = some (.inl (ct 1, 8, .inl (V.tu))) := by rw [e9N5]; exact f_tu
            replace f_sb : N5 B.sb = some (.inl (ct 1, 3000, .inl (nf sc))) := by subst e9q e9sc; exact f_sb
            have hsc : ∀ i, i < q → sc i = sa.getD i 0 := by subst e9q e9sc; intro i hi; omega
            have hsc2 : ∀ i, i < T1.length → sc (i + sa.length) = T1.getD i 0 := by subst e9q e9sc; intro i hi; exact hhi i (Nat.zero_le _) hi
            have hscb : ∀ i, sc i < 65536 := by subst e9q e9sc; exact hsbb
            obtain ⟨fu2, hn2⟩ : ∃ fu : Nat, q + fu = sa.length := ⟨sa.length - q, by omega⟩
            clear e9q e9sc e9N5
            induction fu2 generalizing q sc H locs N5 ls with
            | zero =>
              refine lv_iload_n hx hb d_MD_digest_66 rfl (lv_at hl 3 rfl) ?_
              refine lv_aload_n hx hb d_MD_digest_67 rfl (lv_at hl 0 rfl) ?_
              refine hp_get S hK hM i_MD f_md rfl 6 (by decide) mf_MD_186 (fun _ h9 => h9) rfl d_MD_digest_68 ?_
              refine nb_ge (tgt := 92) hx hb d_MD_digest_71 (by decide) (by omega) (by omega) (fun h6 => ?_) (fun h6 => ?_)
              · refine lv_aload_n hx hb d_MD_digest_92 rfl (lv_at hl 0 rfl) ?_
                refine lv_aload_n hx hb d_MD_digest_93 rfl (lv_at hl 0 rfl) ?_
                refine hp_get S hK hM i_MD f_md rfl 18 (by decide) mf_MD_203 (fun _ h9 => h9) rfl d_MD_digest_94 ?_
                refine lv_aload_n hx hb d_MD_digest_97 rfl (lv_at hl 0 rfl) ?_
                refine hp_get S hK hM i_MD f_md rfl 6 (by decide) mf_MD_186 (fun _ h9 => h9) rfl d_MD_digest_98 ?_
                refine nb_iadd hx hb d_MD_digest_101 ?_
                have hw3 : mdS ct N5 md B (mkS (V.te) (V.cn) (V.kd) (V.sz) (V.ky) (V.le) (V.nm) (V.ns) (V.sl) sc (V.he) (V.dg) (V.su) (V.wi) (V.tu) 0 (V.ty) (V.ac) (V.al) (V.sd) (T1.length)) := ⟨f_md, f_ro, f_te, f_he, f_cn, f_kd, f_sz, f_ky, f_le, f_dg, f_nm, f_ns, f_sl, f_sb, f_su, f_wi, f_tu, hB, b_te, b_cn, b_kd, b_sz, b_ky, b_le, b_nm, b_ns, b_sl, hscb, Nat.zero_le _, b_ty, b_ac, b_al, b_sd, by show T1.length ≤ 3000; omega⟩
                have hlen : (sa ++ T1).length = sa.length + T1.length := List.length_append
                have hcat : ∀ i, i < (sa ++ T1).length → sc i = (sa ++ T1).getD i 0 := fun i hi => by rw [app_at]; by_cases z : i < sa.length; (rw [if_pos z]; exact hsc i (by omega)); (rw [if_neg z]; have h9 := hsc2 (i - sa.length) (by omega); rw [show i - sa.length + sa.length = i by omega] at h9; exact h9)
                have hcc : ∀ i, (sa ++ T1).getD i 0 < 65536 := fun i => by rw [app_at]; by_cases z : i < sa.length; (rw [if_pos z, ← hsl i z]; exact b_sl i); (rw [if_neg z]; exact hcS _)
                rw [show T1.length + V.sd = (sa ++ T1).length by rw [hlen, hsd, Nat.add_comm]]
                refine hp_callv (go_V S hZ hK hM hS hA hz (c_MD_sumUp l D ct Z hZ _ _ md B (mkS (V.te) (V.cn) (V.kd) (V.sz) (V.ky) (V.le) (V.nm) (V.ns) (V.sl) sc (V.he) (V.dg) (V.su) (V.wi) (V.tu) 0 (V.ty) (V.ac) (V.al) (V.sd) (T1.length)) hw3 (sa ++ T1) (by omega) hcc hcat) mc_MD_sumUp mz_MD ml_MD_130 mi_MD_sumUp mx_MD_sumUp hd_MD_sumUp rfl ⟨by decide, by decide⟩ f_md rfl rfl hl.1 rfl (Nat.le_of_ble_eq_true rfl) d_MD_digest_102 ⟨by decide, by decide⟩) hM hS hA (fun M9 H locs h9 hM hS => ?_)
                obtain ⟨N7, eN7⟩ : ∃ z, z = M9 := ⟨_, rfl⟩
                rw [← eN7] at hM h9
                obtain ⟨su, wi, tu, h9, hsu⟩ := h9
                have hw4 : mdS ct N7 md B (mkS (V.te) (V.cn) (V.kd) (V.sz) (V.ky) (V.le) (V.nm) (V.ns) (V.sl) sc (V.he) (V.dg) su wi tu 0 (V.ty) (V.ac) (V.al) (V.sd) (T1.length)) := h9
                clear f_md f_ro f_te f_he f_cn f_kd f_sz f_ky f_le f_dg f_nm f_ns f_sl f_sb f_su f_wi f_tu
                obtain ⟨f_md, f_ro, f_te, f_he, f_cn, f_kd, f_sz, f_ky, f_le, f_dg, f_nm, f_ns, f_sl, f_sb, f_su, f_wi, f_tu, hB, hV⟩ := id hw4
                replace f_md : N7 md = some (.inr (6, [.ref B.ro, .int (nI 0), .ref B.te, .int (nI (V.ty)), .int (nI (V.ac)), .int (nI (V.al)), .int (nI (V.sd)), .ref B.he, .ref B.cn, .ref B.kd, .ref B.sz, .ref B.ky, .ref B.le, .ref B.dg, .ref B.nm, .ref B.ns, .ref B.sl, .ref B.sb, .int (nI (T1.length)), .ref B.su, .ref B.wi, .ref B.tu])) := f_md
                replace f_ro : N7 B.ro = some (.inl (ct 1, 72, .inl roF)) := f_ro
                replace f_te : N7 B.te = some (.inl (ct 1, 64, .inl (nf V.te))) := f_te
                replace f_he : N7 B.he = some (.inl (ct 1, 8, .inl (V.he))) := f_he
                replace f_cn : N7 B.cn = some (.inl (ct 1, 12, .inl (nf V.cn))) := f_cn
                replace f_kd : N7 B.kd = some (.inl (ct 1, 288, .inl (nf V.kd))) := f_kd
                replace f_sz : N7 B.sz = some (.inl (ct 1, 288, .inl (nf V.sz))) := f_sz
                replace f_ky : N7 B.ky = some (.inl (ct 1, 288, .inl (nf V.ky))) := f_ky
                replace f_le : N7 B.le = some (.inl (ct 1, 18432, .inl (nf V.le))) := f_le
                replace f_dg : N7 B.dg = some (.inl (ct 1, 2304, .inl (V.dg))) := f_dg
                replace f_nm : N7 B.nm = some (.inl (ct 1, 128, .inl (nf V.nm))) := f_nm
                replace f_ns : N7 B.ns = some (.inl (ct 1, 8, .inl (nf V.ns))) := f_ns
                replace f_sl : N7 B.sl = some (.inl (ct 1, 16, .inl (nf V.sl))) := f_sl
                replace f_sb : N7 B.sb = some (.inl (ct 1, 3000, .inl (nf sc))) := f_sb
                replace f_su : N7 B.su = some (.inl (ct 1, 8, .inl su)) := f_su
                replace f_wi : N7 B.wi = some (.inl (ct 1, 64, .inl wi)) := f_wi
                replace f_tu : N7 B.tu = some (.inl (ct 1, 8, .inl tu)) := f_tu
                refine lv_aload_n hx hb d_MD_digest_105 rfl (lv_at hl 0 rfl) ?_
                refine hp_get S hK hM i_MD f_md rfl 19 (by decide) mf_MD_121 (fun _ h9 => h9) rfl d_MD_digest_106 ?_
                refine lv_iload_n hx hb d_MD_digest_109 rfl (lv_at hl 2 rfl) ?_
                refine hp_iald S hK hM 1 f_su rfl k1 rfl (by omega) (by omega) d_MD_digest_110 ?_
                exact hp_iret S hret hlk (rfl) hM hS (⟨Or.inl ⟨j, hj, rfl, Or.inl ⟨k1, by omega, rfl, by rw [← eT1]; exact hsu k1 (by omega)⟩⟩, sc, T1.length, su, wi, tu, hw4⟩) d_MD_digest_111
              · exact absurd hn2 (by omega)
            | succ fu2 ih2 =>
              refine lv_iload_n hx hb d_MD_digest_66 rfl (lv_at hl 3 rfl) ?_
              refine lv_aload_n hx hb d_MD_digest_67 rfl (lv_at hl 0 rfl) ?_
              refine hp_get S hK hM i_MD f_md rfl 6 (by decide) mf_MD_186 (fun _ h9 => h9) rfl d_MD_digest_68 ?_
              refine nb_ge (tgt := 92) hx hb d_MD_digest_71 (by decide) (by omega) (by omega) (fun h8 => ?_) (fun h8 => ?_)
              · exact absurd hn2 (by omega)
              · refine lv_aload_n hx hb d_MD_digest_74 rfl (lv_at hl 0 rfl) ?_
                refine hp_get S hK hM i_MD f_md rfl 17 (by decide) mf_MD_118 (fun _ h9 => h9) rfl d_MD_digest_75 ?_
                refine lv_iload_n hx hb d_MD_digest_78 rfl (lv_at hl 3 rfl) ?_
                refine lv_aload_n hx hb d_MD_digest_79 rfl (lv_at hl 0 rfl) ?_
                refine hp_get S hK hM i_MD f_md rfl 16 (by decide) mf_MD_115 (fun _ h9 => h9) rfl d_MD_digest_80 ?_
                refine lv_iload_n hx hb d_MD_digest_83 rfl (lv_at hl 3 rfl) ?_
                refine hp_iald S hK hM 1 f_sl rfl q rfl (by omega) (by omega) d_MD_digest_84 ?_
                refine hp_iast S hK hM hS 1 f_sb rfl q rfl (by omega) (by omega) d_MD_digest_85 (fun H locs hM hS => ?_)
                first | rw [nf_up] at hM | rw [show upd (nf sc) q (nf V.sl q) = nf (va_up sc q (V.sl q)) from nf_up] at hM
                have f_md := hp_k (e := (.inl (ct 1, 3000, .inl (nf (va_up sc q (V.sl q)))))) (hp_ne f_md f_sb (by simp)) f_md
                have f_ro := hp_k (e := (.inl (ct 1, 3000, .inl (nf (va_up sc q (V.sl q)))))) (hp_ne f_ro f_sb (by simp)) f_ro
                have f_te := hp_k (e := (.inl (ct 1, 3000, .inl (nf (va_up sc q (V.sl q)))))) (hp_ne f_te f_sb (by simp)) f_te
                have f_he := hp_k (e := (.inl (ct 1, 3000, .inl (nf (va_up sc q (V.sl q)))))) (hp_ne f_he f_sb (by simp)) f_he
                have f_cn := hp_k (e := (.inl (ct 1, 3000, .inl (nf (va_up sc q (V.sl q)))))) (hp_ne f_cn f_sb (by simp)) f_cn
                have f_kd := hp_k (e := (.inl (ct 1, 3000, .inl (nf (va_up sc q (V.sl q)))))) (hp_ne f_kd f_sb (by simp)) f_kd
                have f_sz := hp_k (e := (.inl (ct 1, 3000, .inl (nf (va_up sc q (V.sl q)))))) (hp_ne f_sz f_sb (by simp)) f_sz
                have f_ky := hp_k (e := (.inl (ct 1, 3000, .inl (nf (va_up sc q (V.sl q)))))) (hp_ne f_ky f_sb (by simp)) f_ky
                have f_le := hp_k (e := (.inl (ct 1, 3000, .inl (nf (va_up sc q (V.sl q)))))) (hp_ne f_le f_sb (by simp)) f_le
                have f_dg := hp_k (e := (.inl (ct 1, 3000, .inl (nf (va_up sc q (V.sl q)))))) (hp_ne f_dg f_sb (by simp)) f_dg
                have f_nm := hp_k (e := (.inl (ct 1, 3000, .inl (nf (va_up sc q (V.sl q)))))) (hp_ne f_nm f_sb (by simp)) f_nm
                have f_ns := hp_k (e := (.inl (ct 1, 3000, .inl (nf (va_up sc q (V.sl q)))))) (hp_ne f_ns f_sb (by simp)) f_ns
                have f_sl := hp_k (e := (.inl (ct 1, 3000, .inl (nf (va_up sc q (V.sl q)))))) (hp_ne f_sl f_sb (by simp)) f_sl
                have f_su := hp_k (e := (.inl (ct 1, 3000, .inl (nf (va_up sc q (V.sl q)))))) (hp_ne f_su f_sb (by simp)) f_su
                have f_wi := hp_k (e := (.inl (ct 1, 3000, .inl (nf (va_up sc q (V.sl q)))))) (hp_ne f_wi f_sb (by simp)) f_wi
                have f_tu := hp_k (e := (.inl (ct 1, 3000, .inl (nf (va_up sc q (V.sl q)))))) (hp_ne f_tu f_sb (by simp)) f_tu
                have f_sb : hp_up N5 B.sb (.inl (ct 1, 3000, .inl (nf (va_up sc q (V.sl q))))) B.sb = some (.inl (ct 1, 3000, .inl (nf (va_up sc q (V.sl q))))) := hp_us
                obtain ⟨M9, eM9⟩ : ∃ z, z = hp_up N5 B.sb (.inl (ct 1, 3000, .inl (nf (va_up sc q (V.sl q))))) := ⟨_, rfl⟩
                rw [← eM9] at hM f_md f_ro f_te f_he f_cn f_kd f_sz f_ky f_le f_dg f_nm f_ns f_sl f_sb f_su f_wi f_tu
                refine lv_iinc (v := nI (q + 1)) (lv' := [(3, .int (nI (q + 1))), (0, .ref md), (1, .int (nI j)), (2, .int (nI k1))]) hx hb d_MD_digest_86 hl (k := 3) rfl (nI_add q 1) (by decide) rfl (fun ls hl => ?_)
                refine lv_goto (tgt := 66) hx hb d_MD_digest_89 (by decide) ?_
                exact ih2 (ls := ls) (hl := lv_sub hl [1, 2, 3, 0] rfl) (hn2 := by omega) (q := q + 1) (sc := va_up sc q (V.sl q)) (hsc := lt_s (fun i hi => by rw [up_n (Nat.ne_of_lt hi)]; exact hsc i hi) (by rw [up_s]; exact hsl q (by omega))) (hsc2 := fun i hi => by rw [up_n (by omega)]; exact hsc2 i hi) (hscb := up_lt hscb (b_sl q)) (H := H) (locs := locs) (hM := hM) (hS := hS) (N5 := M9) (f_md := f_md) (f_ro := f_ro) (f_te := f_te) (f_he := f_he) (f_cn := f_cn) (f_kd := f_kd) (f_sz := f_sz) (f_ky := f_ky) (f_le := f_le) (f_dg := f_dg) (f_nm := f_nm) (f_ns := f_ns) (f_sl := f_sl) (f_sb := f_sb) (f_su := f_su) (f_wi := f_wi) (f_tu := f_tu)
          · exact absurd (by decide) h4
        | succ u ih =>
          replace hl : lv_has ls 4 [(0, .ref md), (1, .int (nI j)), (2, .int (nI k1)), (3, .int (nI u))] := by rw [show nI u = nI (u + 1) - nI 1 by rw [pk_sub (by omega)]; rfl]; exact hl
          rw [show V.sd = sa.length from hsd] at f_md
          refine lv_iload_n hx hb d_MD_digest_37 rfl (lv_at hl 3 rfl) ?_
          refine nz_lt (tgt := 64) hx hb d_MD_digest_38 (by decide) (by omega) (fun h10 => ?_) (fun h10 => ?_)
          · exact absurd h10 (fun q => q)
          · refine lv_aload_n hx hb d_MD_digest_41 rfl (lv_at hl 0 rfl) ?_
            refine hp_get S hK hM i_MD f_md rfl 17 (by decide) mf_MD_118 (fun _ h9 => h9) rfl d_MD_digest_42 ?_
            refine lv_iload_n hx hb d_MD_digest_45 rfl (lv_at hl 3 rfl) ?_
            refine lv_aload_n hx hb d_MD_digest_46 rfl (lv_at hl 0 rfl) ?_
            refine hp_get S hK hM i_MD f_md rfl 6 (by decide) mf_MD_186 (fun _ h9 => h9) rfl d_MD_digest_47 ?_
            refine nb_iadd hx hb d_MD_digest_50 ?_
            refine lv_aload_n hx hb d_MD_digest_51 rfl (lv_at hl 0 rfl) ?_
            refine hp_get S hK hM i_MD f_md rfl 17 (by decide) mf_MD_118 (fun _ h9 => h9) rfl d_MD_digest_52 ?_
            refine lv_iload_n hx hb d_MD_digest_55 rfl (lv_at hl 3 rfl) ?_
            refine hp_iald S hK hM 1 f_sb rfl u rfl (by omega) (by omega) d_MD_digest_56 ?_
            refine hp_iast S hK hM hS 1 f_sb rfl (u + (sa.length)) rfl (by omega) (by omega) d_MD_digest_57 (fun H locs hM hS => ?_)
            first | rw [nf_up] at hM | rw [show upd (nf sb) (u + (sa.length)) (nf sb u) = nf (va_up sb (u + (sa.length)) (sb u)) from nf_up] at hM
            have f_md := hp_k (e := (.inl (ct 1, 3000, .inl (nf (va_up sb (u + (sa.length)) (sb u)))))) (hp_ne f_md f_sb (by simp)) f_md
            have f_ro := hp_k (e := (.inl (ct 1, 3000, .inl (nf (va_up sb (u + (sa.length)) (sb u)))))) (hp_ne f_ro f_sb (by simp)) f_ro
            have f_te := hp_k (e := (.inl (ct 1, 3000, .inl (nf (va_up sb (u + (sa.length)) (sb u)))))) (hp_ne f_te f_sb (by simp)) f_te
            have f_he := hp_k (e := (.inl (ct 1, 3000, .inl (nf (va_up sb (u + (sa.length)) (sb u)))))) (hp_ne f_he f_sb (by simp)) f_he
            have f_cn := hp_k (e := (.inl (ct 1, 3000, .inl (nf (va_up sb (u + (sa.length)) (sb u)))))) (hp_ne f_cn f_sb (by simp)) f_cn
            have f_kd := hp_k (e := (.inl (ct 1, 3000, .inl (nf (va_up sb (u + (sa.length)) (sb u)))))) (hp_ne f_kd f_sb (by simp)) f_kd
            have f_sz := hp_k (e := (.inl (ct 1, 3000, .inl (nf (va_up sb (u + (sa.length)) (sb u)))))) (hp_ne f_sz f_sb (by simp)) f_sz
            have f_ky := hp_k (e := (.inl (ct 1, 3000, .inl (nf (va_up sb (u + (sa.length)) (sb u)))))) (hp_ne f_ky f_sb (by simp)) f_ky
            have f_le := hp_k (e := (.inl (ct 1, 3000, .inl (nf (va_up sb (u + (sa.length)) (sb u)))))) (hp_ne f_le f_sb (by simp)) f_le
            have f_dg := hp_k (e := (.inl (ct 1, 3000, .inl (nf (va_up sb (u + (sa.length)) (sb u)))))) (hp_ne f_dg f_sb (by simp)) f_dg
            have f_nm := hp_k (e := (.inl (ct 1, 3000, .inl (nf (va_up sb (u + (sa.length)) (sb u)))))) (hp_ne f_nm f_sb (by simp)) f_nm
            have f_ns := hp_k (e := (.inl (ct 1, 3000, .inl (nf (va_up sb (u + (sa.length)) (sb u)))))) (hp_ne f_ns f_sb (by simp)) f_ns
            have f_sl := hp_k (e := (.inl (ct 1, 3000, .inl (nf (va_up sb (u + (sa.length)) (sb u)))))) (hp_ne f_sl f_sb (by simp)) f_sl
            have f_su := hp_k (e := (.inl (ct 1, 3000, .inl (nf (va_up sb (u + (sa.length)) (sb u)))))) (hp_ne f_su f_sb (by simp)) f_su
            have f_wi := hp_k (e := (.inl (ct 1, 3000, .inl (nf (va_up sb (u + (sa.length)) (sb u)))))) (hp_ne f_wi f_sb (by simp)) f_wi
            have f_tu := hp_k (e := (.inl (ct 1, 3000, .inl (nf (va_up sb (u + (sa.length)) (sb u)))))) (hp_ne f_tu f_sb (by simp)) f_tu
            have f_sb : hp_up N B.sb (.inl (ct 1, 3000, .inl (nf (va_up sb (u + (sa.length)) (sb u))))) B.sb = some (.inl (ct 1, 3000, .inl (nf (va_up sb (u + (sa.length)) (sb u))))) := hp_us
            obtain ⟨M11, eM11⟩ : ∃ z, z = hp_up N B.sb (.inl (ct 1, 3000, .inl (nf (va_up sb (u + (sa.length)) (sb u))))) := ⟨_, rfl⟩
            rw [← eM11] at hM f_md f_ro f_te f_he f_cn f_kd f_sz f_ky f_le f_dg f_nm f_ns f_sl f_sb f_su f_wi f_tu
            refine lv_iinc (v := nI u - nI 1) (lv' := [(3, .int (nI u - nI 1)), (0, .ref md), (1, .int (nI j)), (2, .int (nI k1))]) hx hb d_MD_digest_58 hl (k := 3) rfl (iinc_m1 _) (by decide) rfl (fun ls hl => ?_)
            refine lv_goto (tgt := 37) hx hb d_MD_digest_61 (by decide) ?_
            rw [← show V.sd = sa.length from hsd] at f_md
            exact ih (sb := va_up sb (u + sa.length) (sb u)) (N := M11) (H := H) (locs := locs) (ls := ls) (hl := lv_sub hl [1, 2, 3, 0] rfl) (hM := hM) (hS := hS) (hu := by omega) (hlo := fun i hi => by rw [up_n (by omega)]; exact hlo i (by omega)) (hhi := fun i h1 h2 => by by_cases z : i = u; (rw [z, up_s]; exact hlo u (by omega)); (rw [up_n (by omega)]; exact hhi i (by omega) h2)) (hsbb := up_lt hsbb (hsbb u)) (f_md := f_md) (f_ro := f_ro) (f_te := f_te) (f_he := f_he) (f_cn := f_cn) (f_kd := f_kd) (f_sz := f_sz) (f_ky := f_ky) (f_le := f_le) (f_dg := f_dg) (f_nm := f_nm) (f_ns := f_ns) (f_sl := f_sl) (f_sb := f_sb) (f_su := f_su) (f_wi := f_wi) (f_tu := f_tu)
      · refine lv_iconst (v := nI 0) hx hb d_MD_digest_23 rfl ?_
        exact hp_iret S hret hlk (rfl) hM hS (⟨Or.inl ⟨j, hj, rfl, Or.inr ⟨fun q hq e => by subst e; first | exact nI_pos (by omega) hk0 | exact hk7 ((nI_leI (by omega) (by decide)).mpr (by omega)), rfl⟩⟩, V.sb, V.ss, V.su, V.wi, V.tu, hw1⟩) d_MD_digest_24
def difM (O P : List MR) (r : Int32) : Prop := (∃ p, (∀ i, i < p → i < O.length ∧ i < P.length ∧ sameR (O.getD i mr0) (P.getD i mr0)) ∧ (p < O.length ∨ p < P.length) ∧ ¬ (p < O.length ∧ p < P.length ∧ sameR (O.getD p mr0) (P.getD p mr0)) ∧ r = nI p) ∨ (O.length = P.length ∧ (∀ i, i < O.length → sameR (O.getD i mr0) (P.getD i mr0)) ∧ r = -1)
set_option maxHeartbeats 4000000 in
set_option maxRecDepth 100000 in
/-- differ(a, b) -/
theorem c_MD_differ (l : Launch) (D : va_G) (ct : Nat → ClassId) (Z : hp_Z) (hZ : hp_Zok Z) (M : hp_M) (sz : Nat) (md : Nat) (B : MA) (V : MS) (hw : mdS ct M md B V) (LL : List (List MR)) (hLL : mdL V LL) (Al : List (List Nat)) (hnA : nmA V Al) (OO : Nat → List MR) (hOO : ∀ j, j < LL.length → ordL Al (LL.getD j []) (OO j)) (x x2 : Int32) : Mi l y_MD_differ b_MD_differ 6 (some .int) 2 50 0 0 [.ref md, .int x, .int x2] D ct Z M sz (fun r M1 => onM LL x r (fun j r => onM LL x2 r (fun j2 r => difM (OO j) (OO j2) r) (-1)) (-1) ∧ mdS ct M1 md B (mkS (V.te) (V.cn) (V.kd) (V.sz) (V.ky) (V.le) (V.nm) (V.ns) (V.sl) (V.sb) (V.he) (V.dg) (V.su) (V.wi) (V.tu) 0 (V.ty) (V.ac) (V.al) (V.sd) (V.ss))) := by
  refine hp_start (by decide) (Nat.le_of_ble_eq_true rfl) (fun p e s m below meth c ls S hret hlk hnm hsz hK hM hS hA hz hl => ?_)
  have hx := S.1
  have hb := S.2.1
  have hl : lv_has ls 6 [(0, .ref md), (1, .int x), (2, .int x2)] := hl
  obtain ⟨f_md, f_ro, f_te, f_he, f_cn, f_kd, f_sz, f_ky, f_le, f_dg, f_nm, f_ns, f_sl, f_sb, f_su, f_wi, f_tu, hB, hV⟩ := id hw
  obtain ⟨n_kdsz, n_kdky, n_szky, n_hens, n_hesu, n_hetu, n_nssu, n_nstu, n_sutu, n_tewi⟩ := id hB
  obtain ⟨b_te, b_cn, b_kd, b_sz, b_ky, b_le, b_nm, b_ns, b_sl, b_sb, b_co, b_ty, b_ac, b_al, b_sd, b_ss⟩ := id hV
  refine lv_aload_n hx hb d_MD_differ_0 rfl (lv_at hl 0 rfl) ?_
  refine lv_iconst (v := nI 0) hx hb d_MD_differ_1 rfl ?_
  refine hp_put (ty := .int) (fs' := [.ref B.ro, .int (nI 0), .ref B.te, .int (nI (V.ty)), .int (nI (V.ac)), .int (nI (V.al)), .int (nI (V.sd)), .ref B.he, .ref B.cn, .ref B.kd, .ref B.sz, .ref B.ky, .ref B.le, .ref B.dg, .ref B.nm, .ref B.ns, .ref B.sl, .ref B.sb, .int (nI (V.ss)), .ref B.su, .ref B.wi, .ref B.tu]) S hK hM hS i_MD t_MD to_MD n_MD f_md rfl 1 (by decide) mf_MD_137 (fun _ h9 => h9) rfl (by decide +kernel) rfl rfl (by simp) rfl d_MD_differ_2 (fun H locs hM hS => ?_)
  have f_ro := hp_k (e := (.inr (6, [.ref B.ro, .int (nI 0), .ref B.te, .int (nI (V.ty)), .int (nI (V.ac)), .int (nI (V.al)), .int (nI (V.sd)), .ref B.he, .ref B.cn, .ref B.kd, .ref B.sz, .ref B.ky, .ref B.le, .ref B.dg, .ref B.nm, .ref B.ns, .ref B.sl, .ref B.sb, .int (nI (V.ss)), .ref B.su, .ref B.wi, .ref B.tu]))) (hp_ne f_ro f_md (by simp)) f_ro
  have f_te := hp_k (e := (.inr (6, [.ref B.ro, .int (nI 0), .ref B.te, .int (nI (V.ty)), .int (nI (V.ac)), .int (nI (V.al)), .int (nI (V.sd)), .ref B.he, .ref B.cn, .ref B.kd, .ref B.sz, .ref B.ky, .ref B.le, .ref B.dg, .ref B.nm, .ref B.ns, .ref B.sl, .ref B.sb, .int (nI (V.ss)), .ref B.su, .ref B.wi, .ref B.tu]))) (hp_ne f_te f_md (by simp)) f_te
  have f_he := hp_k (e := (.inr (6, [.ref B.ro, .int (nI 0), .ref B.te, .int (nI (V.ty)), .int (nI (V.ac)), .int (nI (V.al)), .int (nI (V.sd)), .ref B.he, .ref B.cn, .ref B.kd, .ref B.sz, .ref B.ky, .ref B.le, .ref B.dg, .ref B.nm, .ref B.ns, .ref B.sl, .ref B.sb, .int (nI (V.ss)), .ref B.su, .ref B.wi, .ref B.tu]))) (hp_ne f_he f_md (by simp)) f_he
  have f_cn := hp_k (e := (.inr (6, [.ref B.ro, .int (nI 0), .ref B.te, .int (nI (V.ty)), .int (nI (V.ac)), .int (nI (V.al)), .int (nI (V.sd)), .ref B.he, .ref B.cn, .ref B.kd, .ref B.sz, .ref B.ky, .ref B.le, .ref B.dg, .ref B.nm, .ref B.ns, .ref B.sl, .ref B.sb, .int (nI (V.ss)), .ref B.su, .ref B.wi, .ref B.tu]))) (hp_ne f_cn f_md (by simp)) f_cn
  have f_kd := hp_k (e := (.inr (6, [.ref B.ro, .int (nI 0), .ref B.te, .int (nI (V.ty)), .int (nI (V.ac)), .int (nI (V.al)), .int (nI (V.sd)), .ref B.he, .ref B.cn, .ref B.kd, .ref B.sz, .ref B.ky, .ref B.le, .ref B.dg, .ref B.nm, .ref B.ns, .ref B.sl, .ref B.sb, .int (nI (V.ss)), .ref B.su, .ref B.wi, .ref B.tu]))) (hp_ne f_kd f_md (by simp)) f_kd
  have f_sz := hp_k (e := (.inr (6, [.ref B.ro, .int (nI 0), .ref B.te, .int (nI (V.ty)), .int (nI (V.ac)), .int (nI (V.al)), .int (nI (V.sd)), .ref B.he, .ref B.cn, .ref B.kd, .ref B.sz, .ref B.ky, .ref B.le, .ref B.dg, .ref B.nm, .ref B.ns, .ref B.sl, .ref B.sb, .int (nI (V.ss)), .ref B.su, .ref B.wi, .ref B.tu]))) (hp_ne f_sz f_md (by simp)) f_sz
  have f_ky := hp_k (e := (.inr (6, [.ref B.ro, .int (nI 0), .ref B.te, .int (nI (V.ty)), .int (nI (V.ac)), .int (nI (V.al)), .int (nI (V.sd)), .ref B.he, .ref B.cn, .ref B.kd, .ref B.sz, .ref B.ky, .ref B.le, .ref B.dg, .ref B.nm, .ref B.ns, .ref B.sl, .ref B.sb, .int (nI (V.ss)), .ref B.su, .ref B.wi, .ref B.tu]))) (hp_ne f_ky f_md (by simp)) f_ky
  have f_le := hp_k (e := (.inr (6, [.ref B.ro, .int (nI 0), .ref B.te, .int (nI (V.ty)), .int (nI (V.ac)), .int (nI (V.al)), .int (nI (V.sd)), .ref B.he, .ref B.cn, .ref B.kd, .ref B.sz, .ref B.ky, .ref B.le, .ref B.dg, .ref B.nm, .ref B.ns, .ref B.sl, .ref B.sb, .int (nI (V.ss)), .ref B.su, .ref B.wi, .ref B.tu]))) (hp_ne f_le f_md (by simp)) f_le
  have f_dg := hp_k (e := (.inr (6, [.ref B.ro, .int (nI 0), .ref B.te, .int (nI (V.ty)), .int (nI (V.ac)), .int (nI (V.al)), .int (nI (V.sd)), .ref B.he, .ref B.cn, .ref B.kd, .ref B.sz, .ref B.ky, .ref B.le, .ref B.dg, .ref B.nm, .ref B.ns, .ref B.sl, .ref B.sb, .int (nI (V.ss)), .ref B.su, .ref B.wi, .ref B.tu]))) (hp_ne f_dg f_md (by simp)) f_dg
  have f_nm := hp_k (e := (.inr (6, [.ref B.ro, .int (nI 0), .ref B.te, .int (nI (V.ty)), .int (nI (V.ac)), .int (nI (V.al)), .int (nI (V.sd)), .ref B.he, .ref B.cn, .ref B.kd, .ref B.sz, .ref B.ky, .ref B.le, .ref B.dg, .ref B.nm, .ref B.ns, .ref B.sl, .ref B.sb, .int (nI (V.ss)), .ref B.su, .ref B.wi, .ref B.tu]))) (hp_ne f_nm f_md (by simp)) f_nm
  have f_ns := hp_k (e := (.inr (6, [.ref B.ro, .int (nI 0), .ref B.te, .int (nI (V.ty)), .int (nI (V.ac)), .int (nI (V.al)), .int (nI (V.sd)), .ref B.he, .ref B.cn, .ref B.kd, .ref B.sz, .ref B.ky, .ref B.le, .ref B.dg, .ref B.nm, .ref B.ns, .ref B.sl, .ref B.sb, .int (nI (V.ss)), .ref B.su, .ref B.wi, .ref B.tu]))) (hp_ne f_ns f_md (by simp)) f_ns
  have f_sl := hp_k (e := (.inr (6, [.ref B.ro, .int (nI 0), .ref B.te, .int (nI (V.ty)), .int (nI (V.ac)), .int (nI (V.al)), .int (nI (V.sd)), .ref B.he, .ref B.cn, .ref B.kd, .ref B.sz, .ref B.ky, .ref B.le, .ref B.dg, .ref B.nm, .ref B.ns, .ref B.sl, .ref B.sb, .int (nI (V.ss)), .ref B.su, .ref B.wi, .ref B.tu]))) (hp_ne f_sl f_md (by simp)) f_sl
  have f_sb := hp_k (e := (.inr (6, [.ref B.ro, .int (nI 0), .ref B.te, .int (nI (V.ty)), .int (nI (V.ac)), .int (nI (V.al)), .int (nI (V.sd)), .ref B.he, .ref B.cn, .ref B.kd, .ref B.sz, .ref B.ky, .ref B.le, .ref B.dg, .ref B.nm, .ref B.ns, .ref B.sl, .ref B.sb, .int (nI (V.ss)), .ref B.su, .ref B.wi, .ref B.tu]))) (hp_ne f_sb f_md (by simp)) f_sb
  have f_su := hp_k (e := (.inr (6, [.ref B.ro, .int (nI 0), .ref B.te, .int (nI (V.ty)), .int (nI (V.ac)), .int (nI (V.al)), .int (nI (V.sd)), .ref B.he, .ref B.cn, .ref B.kd, .ref B.sz, .ref B.ky, .ref B.le, .ref B.dg, .ref B.nm, .ref B.ns, .ref B.sl, .ref B.sb, .int (nI (V.ss)), .ref B.su, .ref B.wi, .ref B.tu]))) (hp_ne f_su f_md (by simp)) f_su
  have f_wi := hp_k (e := (.inr (6, [.ref B.ro, .int (nI 0), .ref B.te, .int (nI (V.ty)), .int (nI (V.ac)), .int (nI (V.al)), .int (nI (V.sd)), .ref B.he, .ref B.cn, .ref B.kd, .ref B.sz, .ref B.ky, .ref B.le, .ref B.dg, .ref B.nm, .ref B.ns, .ref B.sl, .ref B.sb, .int (nI (V.ss)), .ref B.su, .ref B.wi, .ref B.tu]))) (hp_ne f_wi f_md (by simp)) f_wi
  have f_tu := hp_k (e := (.inr (6, [.ref B.ro, .int (nI 0), .ref B.te, .int (nI (V.ty)), .int (nI (V.ac)), .int (nI (V.al)), .int (nI (V.sd)), .ref B.he, .ref B.cn, .ref B.kd, .ref B.sz, .ref B.ky, .ref B.le, .ref B.dg, .ref B.nm, .ref B.ns, .ref B.sl, .ref B.sb, .int (nI (V.ss)), .ref B.su, .ref B.wi, .ref B.tu]))) (hp_ne f_tu f_md (by simp)) f_tu
  have f_md : hp_up M md (.inr (6, [.ref B.ro, .int (nI 0), .ref B.te, .int (nI (V.ty)), .int (nI (V.ac)), .int (nI (V.al)), .int (nI (V.sd)), .ref B.he, .ref B.cn, .ref B.kd, .ref B.sz, .ref B.ky, .ref B.le, .ref B.dg, .ref B.nm, .ref B.ns, .ref B.sl, .ref B.sb, .int (nI (V.ss)), .ref B.su, .ref B.wi, .ref B.tu])) md = some (.inr (6, [.ref B.ro, .int (nI 0), .ref B.te, .int (nI (V.ty)), .int (nI (V.ac)), .int (nI (V.al)), .int (nI (V.sd)), .ref B.he, .ref B.cn, .ref B.kd, .ref B.sz, .ref B.ky, .ref B.le, .ref B.dg, .ref B.nm, .ref B.ns, .ref B.sl, .ref B.sb, .int (nI (V.ss)), .ref B.su, .ref B.wi, .ref B.tu])) := hp_us
  obtain ⟨M1, eM1⟩ : ∃ z, z = hp_up M md (.inr (6, [.ref B.ro, .int (nI 0), .ref B.te, .int (nI (V.ty)), .int (nI (V.ac)), .int (nI (V.al)), .int (nI (V.sd)), .ref B.he, .ref B.cn, .ref B.kd, .ref B.sz, .ref B.ky, .ref B.le, .ref B.dg, .ref B.nm, .ref B.ns, .ref B.sl, .ref B.sb, .int (nI (V.ss)), .ref B.su, .ref B.wi, .ref B.tu])) := ⟨_, rfl⟩
  rw [← eM1] at hM f_md f_ro f_te f_he f_cn f_kd f_sz f_ky f_le f_dg f_nm f_ns f_sl f_sb f_su f_wi f_tu
  have hw1 : mdS ct M1 md B (mkS (V.te) (V.cn) (V.kd) (V.sz) (V.ky) (V.le) (V.nm) (V.ns) (V.sl) (V.sb) (V.he) (V.dg) (V.su) (V.wi) (V.tu) 0 (V.ty) (V.ac) (V.al) (V.sd) (V.ss)) := ⟨f_md, f_ro, f_te, f_he, f_cn, f_kd, f_sz, f_ky, f_le, f_dg, f_nm, f_ns, f_sl, f_sb, f_su, f_wi, f_tu, hB, b_te, b_cn, b_kd, b_sz, b_ky, b_le, b_nm, b_ns, b_sl, b_sb, Nat.zero_le _, b_ty, b_ac, b_al, b_sd, b_ss⟩
  refine lv_aload_n hx hb d_MD_differ_5 rfl (lv_at hl 0 rfl) ?_
  refine lv_iload_n hx hb d_MD_differ_6 rfl (lv_at hl 1 rfl) ?_
  refine hp_calli (go_V S hZ hK hM hS hA hz (c_MD_isAction l D ct Z hZ _ _ md B (mkS (V.te) (V.cn) (V.kd) (V.sz) (V.ky) (V.le) (V.nm) (V.ns) (V.sl) (V.sb) (V.he) (V.dg) (V.su) (V.wi) (V.tu) 0 (V.ty) (V.ac) (V.al) (V.sd) (V.ss)) hw1 x) mc_MD_isAction mz_MD ml_MD_168 mi_MD_isAction mx_MD_isAction hd_MD_isAction rfl ⟨by decide, by decide⟩ f_md rfl rfl hl.1 rfl (Nat.le_of_ble_eq_true rfl) d_MD_differ_7 ⟨by decide, by decide⟩) hM hS hA (fun r2 N3 H locs hr2 hM hS => ?_)
  rw [hr2.1] at hM
  replace hr2 := hr2.2
  refine nt_eq (tgt := 21) hx hb d_MD_differ_10 (by decide) hr2 (fun hia => ?_) (fun hia => ?_)
  · refine lv_iconst (v := -1) hx hb d_MD_differ_21 (by decide) ?_
    exact hp_iret S hret hlk (rfl) hM hS (⟨Or.inr ⟨fun j hj e => hia ⟨j, by first | (rw [hLL.1]; exact hj) | (show j < V.ac; rw [hLL.1]; exact hj), e⟩, rfl⟩, hw1⟩) d_MD_differ_22
  · obtain ⟨j, hj, ej⟩ := hia
    subst ej
    have hj : j < LL.length := by rw [← hLL.1]; exact hj
    obtain ⟨hcn, hL24, hLr⟩ := hLL.2.2.1 j hj
    have hj12 : j < 12 := Nat.lt_of_lt_of_le hj hLL.2.1
    refine lv_aload_n hx hb d_MD_differ_13 rfl (lv_at hl 0 rfl) ?_
    refine lv_iload_n hx hb d_MD_differ_14 rfl (lv_at hl 2 rfl) ?_
    refine hp_calli (go_V S hZ hK hM hS hA hz (c_MD_isAction l D ct Z hZ _ _ md B (mkS (V.te) (V.cn) (V.kd) (V.sz) (V.ky) (V.le) (V.nm) (V.ns) (V.sl) (V.sb) (V.he) (V.dg) (V.su) (V.wi) (V.tu) 0 (V.ty) (V.ac) (V.al) (V.sd) (V.ss)) hw1 x2) mc_MD_isAction mz_MD ml_MD_168 mi_MD_isAction mx_MD_isAction hd_MD_isAction rfl ⟨by decide, by decide⟩ f_md rfl rfl hl.1 rfl (Nat.le_of_ble_eq_true rfl) d_MD_differ_15 ⟨by decide, by decide⟩) hM hS hA (fun r4 N5 H locs hr4 hM hS => ?_)
    rw [hr4.1] at hM
    replace hr4 := hr4.2
    refine nt_ne (tgt := 23) hx hb d_MD_differ_18 (by decide) hr4 (fun hib => ?_) (fun hib => ?_)
    · obtain ⟨j2, hj2, ej2⟩ := hib
      subst ej2
      have hj2 : j2 < LL.length := by rw [← hLL.1]; exact hj2
      obtain ⟨hcn2, hL242, hLr2⟩ := hLL.2.2.1 j2 hj2
      have hj122 : j2 < 12 := Nat.lt_of_lt_of_le hj2 hLL.2.1
      refine lv_aload_n hx hb d_MD_differ_23 rfl (lv_at hl 0 rfl) ?_
      refine lv_iload_n hx hb d_MD_differ_24 rfl (lv_at hl 1 rfl) ?_
      refine hp_calli (go_V S hZ hK hM hS hA hz (c_MD_counting l D ct Z hZ _ _ md B (mkS (V.te) (V.cn) (V.kd) (V.sz) (V.ky) (V.le) (V.nm) (V.ns) (V.sl) (V.sb) (V.he) (V.dg) (V.su) (V.wi) (V.tu) 0 (V.ty) (V.ac) (V.al) (V.sd) (V.ss)) hw1 Al hnA j hj12 (LL.getD j []) hcn hL24 hLr) mc_MD_counting mz_MD ml_MD_196 mi_MD_counting mx_MD_counting hd_MD_counting rfl ⟨by decide, by decide⟩ f_md rfl rfl hl.1 rfl (Nat.le_of_ble_eq_true rfl) d_MD_differ_25 ⟨by decide, by decide⟩) hM hS hA (fun r9 M9 H locs h9 hM hS => ?_)
      rw [h9.1] at hM
      rw [h9.2, ← (hOO j hj).1]
      have hO24 : (OO j).length ≤ 24 := by rw [(hOO j hj).1]; exact Nat.le_trans cntL_le hL24
      refine lv_istore_n (lv' := [(3, .int (nI ((OO j).length))), (0, .ref md), (1, .int (nI j)), (2, .int (nI j2))]) hx hb d_MD_differ_28 rfl hl (by decide) rfl (fun ls hl => ?_)
      refine lv_aload_n hx hb d_MD_differ_29 rfl (lv_at hl 1 rfl) ?_
      refine lv_iload_n hx hb d_MD_differ_30 rfl (lv_at hl 3 rfl) ?_
      refine hp_calli (go_V S hZ hK hM hS hA hz (c_MD_counting l D ct Z hZ _ _ md B (mkS (V.te) (V.cn) (V.kd) (V.sz) (V.ky) (V.le) (V.nm) (V.ns) (V.sl) (V.sb) (V.he) (V.dg) (V.su) (V.wi) (V.tu) 0 (V.ty) (V.ac) (V.al) (V.sd) (V.ss)) hw1 Al hnA j2 hj122 (LL.getD j2 []) hcn2 hL242 hLr2) mc_MD_counting mz_MD ml_MD_196 mi_MD_counting mx_MD_counting hd_MD_counting rfl ⟨by decide, by decide⟩ f_md rfl rfl hl.1 rfl (Nat.le_of_ble_eq_true rfl) d_MD_differ_31 ⟨by decide, by decide⟩) hM hS hA (fun r9 M9 H locs h9 hM hS => ?_)
      rw [h9.1] at hM
      rw [h9.2, ← (hOO j2 hj2).1]
      have hO242 : (OO j2).length ≤ 24 := by rw [(hOO j2 hj2).1]; exact Nat.le_trans cntL_le hL242
      refine lv_istore (lv' := [(4, .int (nI ((OO j2).length))), (3, .int (nI ((OO j).length))), (0, .ref md), (1, .int (nI j)), (2, .int (nI j2))]) hx hb d_MD_differ_34 hl (by decide) rfl (fun ls hl => ?_)
      refine lv_iconst (v := nI 0) hx hb d_MD_differ_36 rfl ?_
      refine lv_istore (lv' := [(5, .int (nI 0)), (4, .int (nI ((OO j2).length))), (3, .int (nI ((OO j).length))), (0, .ref md), (1, .int (nI j)), (2, .int (nI j2))]) hx hb d_MD_differ_37 hl (by decide) rfl (fun ls hl => ?_)
      replace hl : lv_has ls 6 [(0, .ref md), (1, .int (nI j)), (2, .int (nI j2)), (3, .int (nI ((OO j).length))), (4, .int (nI ((OO j2).length))), (5, .int (nI 0))] := lv_sub hl [3, 4, 5, 2, 1, 0] rfl
      obtain ⟨k, e9k⟩ : ∃ z : Nat, z = 0 := ⟨_, rfl⟩
      replace hl : lv_has ls 6 [(0, .ref md), (1, .int (nI j)), (2, .int (nI j2)), (3, .int (nI ((OO j).length))), (4, .int (nI ((OO j2).length))), (5, .int (nI k))] := by subst e9k; exact hl
      have hk1 : k ≤ (OO j).length := by subst e9k; exact Nat.zero_le _
      have hk2 : k ≤ (OO j2).length := by subst e9k; exact Nat.zero_le _
      have hinv : ∀ i, i < k → i < (OO j).length ∧ i < (OO j2).length ∧ sameR ((OO j).getD i mr0) ((OO j2).getD i mr0) := by subst e9k; intro i hi; omega
      obtain ⟨fu1, hn1⟩ : ∃ fu : Nat, (OO j).length ≤ k + fu := ⟨(OO j).length, by omega⟩
      clear e9k
      induction fu1 generalizing k H locs ls with
      | zero =>
        refine lv_iload hx hb d_MD_differ_39 (lv_at hl 5 rfl) ?_
        refine lv_iload_n hx hb d_MD_differ_41 rfl (lv_at hl 3 rfl) ?_
        refine nb_ge (tgt := 79) hx hb d_MD_differ_42 (by decide) (by omega) (by omega) (fun hkn => ?_) (fun hkn => ?_)
        · refine lv_iload hx hb d_MD_differ_79 (lv_at hl 5 rfl) ?_
          refine lv_iload_n hx hb d_MD_differ_81 rfl (lv_at hl 3 rfl) ?_
          refine nb_ne (tgt := 96) hx hb d_MD_differ_82 (by decide) (by omega) (by omega) (fun hen => ?_) (fun hen => ?_)
          · refine lv_iload hx hb d_MD_differ_96 (lv_at hl 5 rfl) ?_
            exact hp_iret S hret hlk (rfl) hM hS (⟨Or.inl ⟨j, hj, rfl, Or.inl ⟨j2, hj2, rfl, Or.inl ⟨k, hinv, by omega, fun q => by first | omega | exact hsm q.2.2, rfl⟩⟩⟩, hw1⟩) d_MD_differ_98
          · refine lv_iload hx hb d_MD_differ_85 (lv_at hl 5 rfl) ?_
            refine lv_iload hx hb d_MD_differ_87 (lv_at hl 4 rfl) ?_
            refine nb_ne (tgt := 96) hx hb d_MD_differ_89 (by decide) (by omega) (by omega) (fun hem => ?_) (fun hem => ?_)
            · refine lv_iload hx hb d_MD_differ_96 (lv_at hl 5 rfl) ?_
              exact hp_iret S hret hlk (rfl) hM hS (⟨Or.inl ⟨j, hj, rfl, Or.inl ⟨j2, hj2, rfl, Or.inl ⟨k, hinv, by omega, fun q => by first | omega | exact hsm q.2.2, rfl⟩⟩⟩, hw1⟩) d_MD_differ_98
            · refine lv_iconst (v := -1) hx hb d_MD_differ_92 (by decide) ?_
              refine lv_goto (tgt := 98) hx hb d_MD_differ_93 (by decide) ?_
              exact hp_iret S hret hlk (rfl) hM hS (⟨Or.inl ⟨j, hj, rfl, Or.inl ⟨j2, hj2, rfl, Or.inr ⟨by omega, fun i hi => (hinv i (by omega)).2.2, rfl⟩⟩⟩, hw1⟩) d_MD_differ_98
        · exact absurd hn1 (by omega)
      | succ fu1 ih1 =>
        refine lv_iload hx hb d_MD_differ_39 (lv_at hl 5 rfl) ?_
        refine lv_iload_n hx hb d_MD_differ_41 rfl (lv_at hl 3 rfl) ?_
        refine nb_ge (tgt := 79) hx hb d_MD_differ_42 (by decide) (by omega) (by omega) (fun hkn => ?_) (fun hkn => ?_)
        · refine lv_iload hx hb d_MD_differ_79 (lv_at hl 5 rfl) ?_
          refine lv_iload_n hx hb d_MD_differ_81 rfl (lv_at hl 3 rfl) ?_
          refine nb_ne (tgt := 96) hx hb d_MD_differ_82 (by decide) (by omega) (by omega) (fun hen => ?_) (fun hen => ?_)
          · refine lv_iload hx hb d_MD_differ_96 (lv_at hl 5 rfl) ?_
            exact hp_iret S hret hlk (rfl) hM hS (⟨Or.inl ⟨j, hj, rfl, Or.inl ⟨j2, hj2, rfl, Or.inl ⟨k, hinv, by omega, fun q => by first | omega | exact hsm q.2.2, rfl⟩⟩⟩, hw1⟩) d_MD_differ_98
          · refine lv_iload hx hb d_MD_differ_85 (lv_at hl 5 rfl) ?_
            refine lv_iload hx hb d_MD_differ_87 (lv_at hl 4 rfl) ?_
            refine nb_ne (tgt := 96) hx hb d_MD_differ_89 (by decide) (by omega) (by omega) (fun hem => ?_) (fun hem => ?_)
            · refine lv_iload hx hb d_MD_differ_96 (lv_at hl 5 rfl) ?_
              exact hp_iret S hret hlk (rfl) hM hS (⟨Or.inl ⟨j, hj, rfl, Or.inl ⟨j2, hj2, rfl, Or.inl ⟨k, hinv, by omega, fun q => by first | omega | exact hsm q.2.2, rfl⟩⟩⟩, hw1⟩) d_MD_differ_98
            · refine lv_iconst (v := -1) hx hb d_MD_differ_92 (by decide) ?_
              refine lv_goto (tgt := 98) hx hb d_MD_differ_93 (by decide) ?_
              exact hp_iret S hret hlk (rfl) hM hS (⟨Or.inl ⟨j, hj, rfl, Or.inl ⟨j2, hj2, rfl, Or.inr ⟨by omega, fun i hi => (hinv i (by omega)).2.2, rfl⟩⟩⟩, hw1⟩) d_MD_differ_98
        · refine lv_iload hx hb d_MD_differ_45 (lv_at hl 5 rfl) ?_
          refine lv_iload hx hb d_MD_differ_47 (lv_at hl 4 rfl) ?_
          refine nb_ge (tgt := 79) hx hb d_MD_differ_49 (by decide) (by omega) (by omega) (fun hkm => ?_) (fun hkm => ?_)
          · refine lv_iload hx hb d_MD_differ_79 (lv_at hl 5 rfl) ?_
            refine lv_iload_n hx hb d_MD_differ_81 rfl (lv_at hl 3 rfl) ?_
            refine nb_ne (tgt := 96) hx hb d_MD_differ_82 (by decide) (by omega) (by omega) (fun hen => ?_) (fun hen => ?_)
            · refine lv_iload hx hb d_MD_differ_96 (lv_at hl 5 rfl) ?_
              exact hp_iret S hret hlk (rfl) hM hS (⟨Or.inl ⟨j, hj, rfl, Or.inl ⟨j2, hj2, rfl, Or.inl ⟨k, hinv, by omega, fun q => by first | omega | exact hsm q.2.2, rfl⟩⟩⟩, hw1⟩) d_MD_differ_98
            · refine lv_iload hx hb d_MD_differ_85 (lv_at hl 5 rfl) ?_
              refine lv_iload hx hb d_MD_differ_87 (lv_at hl 4 rfl) ?_
              refine nb_ne (tgt := 96) hx hb d_MD_differ_89 (by decide) (by omega) (by omega) (fun hem => ?_) (fun hem => ?_)
              · refine lv_iload hx hb d_MD_differ_96 (lv_at hl 5 rfl) ?_
                exact hp_iret S hret hlk (rfl) hM hS (⟨Or.inl ⟨j, hj, rfl, Or.inl ⟨j2, hj2, rfl, Or.inl ⟨k, hinv, by omega, fun q => by first | omega | exact hsm q.2.2, rfl⟩⟩⟩, hw1⟩) d_MD_differ_98
              · refine lv_iconst (v := -1) hx hb d_MD_differ_92 (by decide) ?_
                refine lv_goto (tgt := 98) hx hb d_MD_differ_93 (by decide) ?_
                exact hp_iret S hret hlk (rfl) hM hS (⟨Or.inl ⟨j, hj, rfl, Or.inl ⟨j2, hj2, rfl, Or.inr ⟨by omega, fun i hi => (hinv i (by omega)).2.2, rfl⟩⟩⟩, hw1⟩) d_MD_differ_98
          · refine lv_aload_n hx hb d_MD_differ_52 rfl (lv_at hl 0 rfl) ?_
            refine lv_aload_n hx hb d_MD_differ_53 rfl (lv_at hl 0 rfl) ?_
            refine lv_iload_n hx hb d_MD_differ_54 rfl (lv_at hl 1 rfl) ?_
            refine lv_iload hx hb d_MD_differ_55 (lv_at hl 5 rfl) ?_
            refine hp_calli (go_V S hZ hK hM hS hA hz (c_MD_rowAt l D ct Z hZ _ _ md B (mkS (V.te) (V.cn) (V.kd) (V.sz) (V.ky) (V.le) (V.nm) (V.ns) (V.sl) (V.sb) (V.he) (V.dg) (V.su) (V.wi) (V.tu) 0 (V.ty) (V.ac) (V.al) (V.sd) (V.ss)) hw1 Al hnA j hj12 (LL.getD j []) hcn hL24 hLr k (by omega)) mc_MD_rowAt mz_MD ml_MD_200 mi_MD_rowAt mx_MD_rowAt hd_MD_rowAt rfl ⟨by decide, by decide⟩ f_md rfl rfl hl.1 rfl (Nat.le_of_ble_eq_true rfl) d_MD_differ_57 ⟨by decide, by decide⟩) hM hS hA (fun r9 M9 H locs h9 hM hS => ?_)
            rw [h9.1] at hM
            obtain ⟨qa, hatqa, e9⟩ : ∃ qa, isAt Al (LL.getD j []) qa k ∧ r9 = nI (24 * j + qa) := by
              rcases h9.2 with z | z
              · exact z
              · obtain ⟨q0, hq0⟩ := (hOO j hj).2.1 k (by omega); exact absurd hq0 (z.1 q0)
            rw [e9]
            have hqLqa := hatqa.1
            have hqRqa := hLr qa hqLqa
            rw [(hOO j hj).2.2 qa k hatqa] at hqRqa
            refine lv_aload_n hx hb d_MD_differ_60 rfl (lv_at hl 0 rfl) ?_
            refine lv_iload_n hx hb d_MD_differ_61 rfl (lv_at hl 2 rfl) ?_
            refine lv_iload hx hb d_MD_differ_62 (lv_at hl 5 rfl) ?_
            refine hp_calli (go_V S hZ hK hM hS hA hz (c_MD_rowAt l D ct Z hZ _ _ md B (mkS (V.te) (V.cn) (V.kd) (V.sz) (V.ky) (V.le) (V.nm) (V.ns) (V.sl) (V.sb) (V.he) (V.dg) (V.su) (V.wi) (V.tu) 0 (V.ty) (V.ac) (V.al) (V.sd) (V.ss)) hw1 Al hnA j2 hj122 (LL.getD j2 []) hcn2 hL242 hLr2 k (by omega)) mc_MD_rowAt mz_MD ml_MD_200 mi_MD_rowAt mx_MD_rowAt hd_MD_rowAt rfl ⟨by decide, by decide⟩ f_md rfl rfl hl.1 rfl (Nat.le_of_ble_eq_true rfl) d_MD_differ_64 ⟨by decide, by decide⟩) hM hS hA (fun r9 M9 H locs h9 hM hS => ?_)
            rw [h9.1] at hM
            obtain ⟨qb, hatqb, e9⟩ : ∃ qb, isAt Al (LL.getD j2 []) qb k ∧ r9 = nI (24 * j2 + qb) := by
              rcases h9.2 with z | z
              · exact z
              · obtain ⟨q0, hq0⟩ := (hOO j2 hj2).2.1 k (by omega); exact absurd hq0 (z.1 q0)
            rw [e9]
            have hqLqb := hatqb.1
            have hqRqb := hLr2 qb hqLqb
            rw [(hOO j2 hj2).2.2 qb k hatqb] at hqRqb
            refine hp_calli (go_V S hZ hK hM hS hA hz (c_MD_same l D ct Z hZ _ _ md B (mkS (V.te) (V.cn) (V.kd) (V.sz) (V.ky) (V.le) (V.nm) (V.ns) (V.sl) (V.sb) (V.he) (V.dg) (V.su) (V.wi) (V.tu) 0 (V.ty) (V.ac) (V.al) (V.sd) (V.ss)) hw1 (24 * j + qa) (24 * j2 + qb) (by omega) (by omega) ((OO j).getD k mr0) ((OO j2).getD k mr0) hqRqa hqRqb) mc_MD_same mz_MD ml_MD_227 mi_MD_same mx_MD_same hd_MD_same rfl ⟨by decide, by decide⟩ f_md rfl rfl hl.1 rfl (Nat.le_of_ble_eq_true rfl) d_MD_differ_67 ⟨by decide, by decide⟩) hM hS hA (fun r6 N7 H locs hr6 hM hS => ?_)
            rw [hr6.1] at hM
            replace hr6 := hr6.2
            refine nt_eq (tgt := 79) hx hb d_MD_differ_70 (by decide) hr6 (fun hsm => ?_) (fun hsm => ?_)
            · refine lv_iload hx hb d_MD_differ_79 (lv_at hl 5 rfl) ?_
              refine lv_iload_n hx hb d_MD_differ_81 rfl (lv_at hl 3 rfl) ?_
              refine nb_ne (tgt := 96) hx hb d_MD_differ_82 (by decide) (by omega) (by omega) (fun hen => ?_) (fun hen => ?_)
              · refine lv_iload hx hb d_MD_differ_96 (lv_at hl 5 rfl) ?_
                exact hp_iret S hret hlk (rfl) hM hS (⟨Or.inl ⟨j, hj, rfl, Or.inl ⟨j2, hj2, rfl, Or.inl ⟨k, hinv, by omega, fun q => by first | omega | exact hsm q.2.2, rfl⟩⟩⟩, hw1⟩) d_MD_differ_98
              · refine lv_iload hx hb d_MD_differ_85 (lv_at hl 5 rfl) ?_
                refine lv_iload hx hb d_MD_differ_87 (lv_at hl 4 rfl) ?_
                refine nb_ne (tgt := 96) hx hb d_MD_differ_89 (by decide) (by omega) (by omega) (fun hem => ?_) (fun hem => ?_)
                · refine lv_iload hx hb d_MD_differ_96 (lv_at hl 5 rfl) ?_
                  exact hp_iret S hret hlk (rfl) hM hS (⟨Or.inl ⟨j, hj, rfl, Or.inl ⟨j2, hj2, rfl, Or.inl ⟨k, hinv, by omega, fun q => by first | omega | exact hsm q.2.2, rfl⟩⟩⟩, hw1⟩) d_MD_differ_98
                · refine lv_iconst (v := -1) hx hb d_MD_differ_92 (by decide) ?_
                  refine lv_goto (tgt := 98) hx hb d_MD_differ_93 (by decide) ?_
                  exact hp_iret S hret hlk (rfl) hM hS (⟨Or.inl ⟨j, hj, rfl, Or.inl ⟨j2, hj2, rfl, Or.inr ⟨by omega, fun i hi => (hinv i (by omega)).2.2, rfl⟩⟩⟩, hw1⟩) d_MD_differ_98
            · refine lv_iinc (v := nI (k + 1)) (lv' := [(5, .int (nI (k + 1))), (0, .ref md), (1, .int (nI j)), (2, .int (nI j2)), (3, .int (nI ((OO j).length))), (4, .int (nI ((OO j2).length)))]) hx hb d_MD_differ_73 hl (k := 5) rfl (nI_add k 1) (by decide) rfl (fun ls hl => ?_)
              refine lv_goto (tgt := 39) hx hb d_MD_differ_76 (by decide) ?_
              exact ih1 (ls := ls) (hl := lv_sub hl [1, 2, 3, 4, 5, 0] rfl) (hn1 := by omega) (k := k + 1) (hk1 := by omega) (hk2 := by omega) (hinv := lt_s hinv ⟨by omega, by omega, hsm⟩) (H := H) (locs := locs) (hM := hM) (hS := hS)
    · refine lv_iconst (v := -1) hx hb d_MD_differ_21 (by decide) ?_
      exact hp_iret S hret hlk (rfl) hM hS (⟨Or.inl ⟨j, hj, rfl, Or.inr ⟨fun j hj e => hib ⟨j, by first | (rw [hLL.1]; exact hj) | (show j < V.ac; rw [hLL.1]; exact hj), e⟩, rfl⟩⟩, hw1⟩) d_MD_differ_22
