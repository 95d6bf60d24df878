theorem d_AD_feedRow_0 : decode b_AD_feedRow 0 = .ok (.aload_n 1, 1) := by decide +kernel
theorem d_AD_feedRow_1 : decode b_AD_feedRow 1 = .ok (.invokevirtual 154, 3) := by decide +kernel
theorem d_AD_feedRow_4 : decode b_AD_feedRow 4 = .ok (.istore_n 2, 1) := by decide +kernel
theorem d_AD_feedRow_5 : decode b_AD_feedRow 5 = .ok (.iconst 0, 1) := by decide +kernel
theorem d_AD_feedRow_6 : decode b_AD_feedRow 6 = .ok (.istore_n 3, 1) := by decide +kernel
theorem d_AD_feedRow_7 : decode b_AD_feedRow 7 = .ok (.iload_n 3, 1) := by decide +kernel
theorem d_AD_feedRow_8 : decode b_AD_feedRow 8 = .ok (.iload_n 2, 1) := by decide +kernel
theorem d_AD_feedRow_9 : decode b_AD_feedRow 9 = .ok (.if_icmp .ge 21, 3) := by decide +kernel
theorem d_AD_feedRow_12 : decode b_AD_feedRow 12 = .ok (.aload_n 0, 1) := by decide +kernel
theorem d_AD_feedRow_13 : decode b_AD_feedRow 13 = .ok (.getfield 19, 3) := by decide +kernel
theorem d_AD_feedRow_16 : decode b_AD_feedRow 16 = .ok (.aload_n 1, 1) := by decide +kernel
theorem d_AD_feedRow_17 : decode b_AD_feedRow 17 = .ok (.iload_n 3, 1) := by decide +kernel
theorem d_AD_feedRow_18 : decode b_AD_feedRow 18 = .ok (.invokevirtual 158, 3) := by decide +kernel
theorem d_AD_feedRow_21 : decode b_AD_feedRow 21 = .ok (.invokevirtual 205, 3) := by decide +kernel
theorem d_AD_feedRow_24 : decode b_AD_feedRow 24 = .ok (.iinc 3 1, 3) := by decide +kernel
theorem d_AD_feedRow_27 : decode b_AD_feedRow 27 = .ok (.goto (-20), 3) := by decide +kernel
theorem d_AD_feedRow_30 : decode b_AD_feedRow 30 = .ok (.return_, 1) := by decide +kernel
theorem d_AD_digest_0 : decode b_AD_digest 0 = .ok (.aload_n 0, 1) := by decide +kernel
theorem d_AD_digest_1 : decode b_AD_digest 1 = .ok (.iload_n 1, 1) := by decide +kernel
theorem d_AD_digest_2 : decode b_AD_digest 2 = .ok (.invokevirtual 69, 3) := by decide +kernel
theorem d_AD_digest_5 : decode b_AD_digest 5 = .ok (.astore_n 3, 1) := by decide +kernel
theorem d_AD_digest_6 : decode b_AD_digest 6 = .ok (.aload_n 3, 1) := by decide +kernel
theorem d_AD_digest_7 : decode b_AD_digest 7 = .ok (.ifnull 13, 3) := by decide +kernel
theorem d_AD_digest_10 : decode b_AD_digest 10 = .ok (.iload_n 2, 1) := by decide +kernel
theorem d_AD_digest_11 : decode b_AD_digest 11 = .ok (.ifCond .lt 9, 3) := by decide +kernel
theorem d_AD_digest_14 : decode b_AD_digest 14 = .ok (.iload_n 2, 1) := by decide +kernel
theorem d_AD_digest_15 : decode b_AD_digest 15 = .ok (.bipush 8, 2) := by decide +kernel
theorem d_AD_digest_17 : decode b_AD_digest 17 = .ok (.if_icmp .lt 5, 3) := by decide +kernel
theorem d_AD_digest_20 : decode b_AD_digest 20 = .ok (.iconst 0, 1) := by decide +kernel
theorem d_AD_digest_21 : decode b_AD_digest 21 = .ok (.ireturn, 1) := by decide +kernel
theorem d_AD_digest_22 : decode b_AD_digest 22 = .ok (.aload_n 0, 1) := by decide +kernel
theorem d_AD_digest_23 : decode b_AD_digest 23 = .ok (.getfield 19, 3) := by decide +kernel
theorem d_AD_digest_26 : decode b_AD_digest 26 = .ok (.invokevirtual 162, 3) := by decide +kernel
theorem d_AD_digest_29 : decode b_AD_digest 29 = .ok (.aload_n 0, 1) := by decide +kernel
theorem d_AD_digest_30 : decode b_AD_digest 30 = .ok (.getfield 19, 3) := by decide +kernel
theorem d_AD_digest_33 : decode b_AD_digest 33 = .ok (.aload_n 0, 1) := by decide +kernel
theorem d_AD_digest_34 : decode b_AD_digest 34 = .ok (.getfield 42, 3) := by decide +kernel
theorem d_AD_digest_37 : decode b_AD_digest 37 = .ok (.invokevirtual 165, 3) := by decide +kernel
theorem d_AD_digest_40 : decode b_AD_digest 40 = .ok (.iconst 0, 1) := by decide +kernel
theorem d_AD_digest_41 : decode b_AD_digest 41 = .ok (.istore 4, 2) := by decide +kernel
theorem d_AD_digest_43 : decode b_AD_digest 43 = .ok (.iload 4, 2) := by decide +kernel
theorem d_AD_digest_45 : decode b_AD_digest 45 = .ok (.bipush 24, 2) := by decide +kernel
theorem d_AD_digest_47 : decode b_AD_digest 47 = .ok (.if_icmp .ge 29, 3) := by decide +kernel
theorem d_AD_digest_50 : decode b_AD_digest 50 = .ok (.aload_n 0, 1) := by decide +kernel
theorem d_AD_digest_51 : decode b_AD_digest 51 = .ok (.aload_n 3, 1) := by decide +kernel
theorem d_AD_digest_52 : decode b_AD_digest 52 = .ok (.iload 4, 2) := by decide +kernel
theorem d_AD_digest_54 : decode b_AD_digest 54 = .ok (.invokevirtual 144, 3) := by decide +kernel
theorem d_AD_digest_57 : decode b_AD_digest 57 = .ok (.astore 5, 2) := by decide +kernel
theorem d_AD_digest_59 : decode b_AD_digest 59 = .ok (.aload 5, 2) := by decide +kernel
theorem d_AD_digest_61 : decode b_AD_digest 61 = .ok (.ifnull 9, 3) := by decide +kernel
theorem d_AD_digest_64 : decode b_AD_digest 64 = .ok (.aload_n 0, 1) := by decide +kernel
theorem d_AD_digest_65 : decode b_AD_digest 65 = .ok (.aload 5, 2) := by decide +kernel
theorem d_AD_digest_67 : decode b_AD_digest 67 = .ok (.invokevirtual 168, 3) := by decide +kernel
theorem d_AD_digest_70 : decode b_AD_digest 70 = .ok (.iinc 4 1, 3) := by decide +kernel
theorem d_AD_digest_73 : decode b_AD_digest 73 = .ok (.goto (-30), 3) := by decide +kernel
theorem d_AD_digest_76 : decode b_AD_digest 76 = .ok (.aload_n 0, 1) := by decide +kernel
theorem d_AD_digest_77 : decode b_AD_digest 77 = .ok (.getfield 19, 3) := by decide +kernel
theorem d_AD_digest_80 : decode b_AD_digest 80 = .ok (.invokevirtual 171, 3) := by decide +kernel
theorem d_AD_digest_83 : decode b_AD_digest 83 = .ok (.aload_n 0, 1) := by decide +kernel
theorem d_AD_digest_84 : decode b_AD_digest 84 = .ok (.getfield 19, 3) := by decide +kernel
theorem d_AD_digest_87 : decode b_AD_digest 87 = .ok (.getfield 174, 3) := by decide +kernel
theorem d_AD_digest_90 : decode b_AD_digest 90 = .ok (.iload_n 2, 1) := by decide +kernel
theorem d_AD_digest_91 : decode b_AD_digest 91 = .ok (.iaload, 1) := by decide +kernel
theorem d_AD_digest_92 : decode b_AD_digest 92 = .ok (.ireturn, 1) := by decide +kernel
theorem d_AD_holdContent_0 : decode b_AD_holdContent 0 = .ok (.aload_n 0, 1) := by decide +kernel
theorem d_AD_holdContent_1 : decode b_AD_holdContent 1 = .ok (.getfield 19, 3) := by decide +kernel
theorem d_AD_holdContent_4 : decode b_AD_holdContent 4 = .ok (.invokevirtual 162, 3) := by decide +kernel
theorem d_AD_holdContent_7 : decode b_AD_holdContent 7 = .ok (.aload_n 0, 1) := by decide +kernel
theorem d_AD_holdContent_8 : decode b_AD_holdContent 8 = .ok (.getfield 19, 3) := by decide +kernel
theorem d_AD_holdContent_11 : decode b_AD_holdContent 11 = .ok (.aload_n 1, 1) := by decide +kernel
theorem d_AD_holdContent_12 : decode b_AD_holdContent 12 = .ok (.invokevirtual 165, 3) := by decide +kernel
theorem d_AD_holdContent_15 : decode b_AD_holdContent 15 = .ok (.aload_n 0, 1) := by decide +kernel
theorem d_AD_holdContent_16 : decode b_AD_holdContent 16 = .ok (.getfield 19, 3) := by decide +kernel
theorem d_AD_holdContent_19 : decode b_AD_holdContent 19 = .ok (.invokevirtual 171, 3) := by decide +kernel
theorem d_AD_holdContent_22 : decode b_AD_holdContent 22 = .ok (.aload_n 0, 1) := by decide +kernel
theorem d_AD_holdContent_23 : decode b_AD_holdContent 23 = .ok (.getfield 19, 3) := by decide +kernel
theorem d_AD_holdContent_26 : decode b_AD_holdContent 26 = .ok (.aload_n 0, 1) := by decide +kernel
theorem d_AD_holdContent_27 : decode b_AD_holdContent 27 = .ok (.getfield 46, 3) := by decide +kernel
theorem d_AD_holdContent_30 : decode b_AD_holdContent 30 = .ok (.invokevirtual 187, 3) := by decide +kernel
theorem d_AD_holdContent_33 : decode b_AD_holdContent 33 = .ok (.return_, 1) := by decide +kernel
theorem d_AD_bodyOf_0 : decode b_AD_bodyOf 0 = .ok (.iload_n 2, 1) := by decide +kernel
theorem d_AD_bodyOf_1 : decode b_AD_bodyOf 1 = .ok (.iconst 1, 1) := by decide +kernel
theorem d_AD_bodyOf_2 : decode b_AD_bodyOf 2 = .ok (.if_icmp .eq 10, 3) := by decide +kernel
theorem d_AD_bodyOf_5 : decode b_AD_bodyOf 5 = .ok (.iload_n 2, 1) := by decide +kernel
theorem d_AD_bodyOf_6 : decode b_AD_bodyOf 6 = .ok (.iconst 3, 1) := by decide +kernel
theorem d_AD_bodyOf_7 : decode b_AD_bodyOf 7 = .ok (.if_icmp .eq 5, 3) := by decide +kernel
theorem d_AD_bodyOf_10 : decode b_AD_bodyOf 10 = .ok (.aload_n 1, 1) := by decide +kernel
theorem d_AD_bodyOf_11 : decode b_AD_bodyOf 11 = .ok (.areturn, 1) := by decide +kernel
theorem d_AD_bodyOf_12 : decode b_AD_bodyOf 12 = .ok (.aload_n 1, 1) := by decide +kernel
theorem d_AD_bodyOf_13 : decode b_AD_bodyOf 13 = .ok (.arraylength, 1) := by decide +kernel
theorem d_AD_bodyOf_14 : decode b_AD_bodyOf 14 = .ok (.iconst 1, 1) := by decide +kernel
theorem d_AD_bodyOf_15 : decode b_AD_bodyOf 15 = .ok (.iadd, 1) := by decide +kernel
theorem d_AD_bodyOf_16 : decode b_AD_bodyOf 16 = .ok (.bipush 64, 2) := by decide +kernel
theorem d_AD_bodyOf_18 : decode b_AD_bodyOf 18 = .ok (.iadd, 1) := by decide +kernel
theorem d_AD_bodyOf_19 : decode b_AD_bodyOf 19 = .ok (.newarray .char, 2) := by decide +kernel
theorem d_AD_bodyOf_21 : decode b_AD_bodyOf 21 = .ok (.astore_n 3, 1) := by decide +kernel
theorem d_AD_bodyOf_22 : decode b_AD_bodyOf 22 = .ok (.iconst 0, 1) := by decide +kernel
theorem d_AD_bodyOf_23 : decode b_AD_bodyOf 23 = .ok (.istore 4, 2) := by decide +kernel
theorem d_AD_bodyOf_25 : decode b_AD_bodyOf 25 = .ok (.iload 4, 2) := by decide +kernel
theorem d_AD_bodyOf_27 : decode b_AD_bodyOf 27 = .ok (.aload_n 1, 1) := by decide +kernel
theorem d_AD_bodyOf_28 : decode b_AD_bodyOf 28 = .ok (.arraylength, 1) := by decide +kernel
theorem d_AD_bodyOf_29 : decode b_AD_bodyOf 29 = .ok (.if_icmp .ge 17, 3) := by decide +kernel
theorem d_AD_bodyOf_32 : decode b_AD_bodyOf 32 = .ok (.aload_n 3, 1) := by decide +kernel
theorem d_AD_bodyOf_33 : decode b_AD_bodyOf 33 = .ok (.iload 4, 2) := by decide +kernel
theorem d_AD_bodyOf_35 : decode b_AD_bodyOf 35 = .ok (.aload_n 1, 1) := by decide +kernel
theorem d_AD_bodyOf_36 : decode b_AD_bodyOf 36 = .ok (.iload 4, 2) := by decide +kernel
theorem d_AD_bodyOf_38 : decode b_AD_bodyOf 38 = .ok (.caload, 1) := by decide +kernel
theorem d_AD_bodyOf_39 : decode b_AD_bodyOf 39 = .ok (.castore, 1) := by decide +kernel
theorem d_AD_bodyOf_40 : decode b_AD_bodyOf 40 = .ok (.iinc 4 1, 3) := by decide +kernel
theorem d_AD_bodyOf_43 : decode b_AD_bodyOf 43 = .ok (.goto (-18), 3) := by decide +kernel
theorem d_AD_bodyOf_46 : decode b_AD_bodyOf 46 = .ok (.iconst 0, 1) := by decide +kernel
theorem d_AD_bodyOf_47 : decode b_AD_bodyOf 47 = .ok (.istore 4, 2) := by decide +kernel
theorem d_AD_bodyOf_49 : decode b_AD_bodyOf 49 = .ok (.iload 4, 2) := by decide +kernel
theorem d_AD_bodyOf_51 : decode b_AD_bodyOf 51 = .ok (.bipush 64, 2) := by decide +kernel
theorem d_AD_bodyOf_53 : decode b_AD_bodyOf 53 = .ok (.if_icmp .ge 25, 3) := by decide +kernel
theorem d_AD_bodyOf_56 : decode b_AD_bodyOf 56 = .ok (.aload_n 3, 1) := by decide +kernel
theorem d_AD_bodyOf_57 : decode b_AD_bodyOf 57 = .ok (.aload_n 1, 1) := by decide +kernel
theorem d_AD_bodyOf_58 : decode b_AD_bodyOf 58 = .ok (.arraylength, 1) := by decide +kernel
theorem d_AD_bodyOf_59 : decode b_AD_bodyOf 59 = .ok (.iconst 1, 1) := by decide +kernel
theorem d_AD_bodyOf_60 : decode b_AD_bodyOf 60 = .ok (.iadd, 1) := by decide +kernel
theorem d_AD_bodyOf_61 : decode b_AD_bodyOf 61 = .ok (.iload 4, 2) := by decide +kernel
theorem d_AD_bodyOf_63 : decode b_AD_bodyOf 63 = .ok (.iadd, 1) := by decide +kernel
theorem d_AD_bodyOf_64 : decode b_AD_bodyOf 64 = .ok (.aload_n 0, 1) := by decide +kernel
theorem d_AD_bodyOf_65 : decode b_AD_bodyOf 65 = .ok (.getfield 46, 3) := by decide +kernel
theorem d_AD_bodyOf_68 : decode b_AD_bodyOf 68 = .ok (.iload 4, 2) := by decide +kernel
theorem d_AD_bodyOf_70 : decode b_AD_bodyOf 70 = .ok (.caload, 1) := by decide +kernel
theorem d_AD_bodyOf_71 : decode b_AD_bodyOf 71 = .ok (.castore, 1) := by decide +kernel
theorem d_AD_bodyOf_72 : decode b_AD_bodyOf 72 = .ok (.iinc 4 1, 3) := by decide +kernel
theorem d_AD_bodyOf_75 : decode b_AD_bodyOf 75 = .ok (.goto (-26), 3) := by decide +kernel
theorem d_AD_bodyOf_78 : decode b_AD_bodyOf 78 = .ok (.aload_n 3, 1) := by decide +kernel
theorem d_AD_bodyOf_79 : decode b_AD_bodyOf 79 = .ok (.areturn, 1) := by decide +kernel
theorem d_AD_editionDigits_0 : decode b_AD_editionDigits 0 = .ok (.bipush 8, 2) := by decide +kernel
theorem d_AD_editionDigits_2 : decode b_AD_editionDigits 2 = .ok (.newarray .char, 2) := by decide +kernel
theorem d_AD_editionDigits_4 : decode b_AD_editionDigits 4 = .ok (.astore_n 1, 1) := by decide +kernel
theorem d_AD_editionDigits_5 : decode b_AD_editionDigits 5 = .ok (.iload_n 0, 1) := by decide +kernel
theorem d_AD_editionDigits_6 : decode b_AD_editionDigits 6 = .ok (.istore_n 2, 1) := by decide +kernel
theorem d_AD_editionDigits_7 : decode b_AD_editionDigits 7 = .ok (.bipush 7, 2) := by decide +kernel
theorem d_AD_editionDigits_9 : decode b_AD_editionDigits 9 = .ok (.istore_n 3, 1) := by decide +kernel
theorem d_AD_editionDigits_10 : decode b_AD_editionDigits 10 = .ok (.iload_n 3, 1) := by decide +kernel
theorem d_AD_editionDigits_11 : decode b_AD_editionDigits 11 = .ok (.ifCond .lt 25, 3) := by decide +kernel
theorem d_AD_editionDigits_14 : decode b_AD_editionDigits 14 = .ok (.aload_n 1, 1) := by decide +kernel
theorem d_AD_editionDigits_15 : decode b_AD_editionDigits 15 = .ok (.iload_n 3, 1) := by decide +kernel
theorem d_AD_editionDigits_16 : decode b_AD_editionDigits 16 = .ok (.bipush 48, 2) := by decide +kernel
theorem d_AD_editionDigits_18 : decode b_AD_editionDigits 18 = .ok (.iload_n 2, 1) := by decide +kernel
theorem d_AD_editionDigits_19 : decode b_AD_editionDigits 19 = .ok (.bipush 10, 2) := by decide +kernel
theorem d_AD_editionDigits_21 : decode b_AD_editionDigits 21 = .ok (.irem, 1) := by decide +kernel
theorem d_AD_editionDigits_22 : decode b_AD_editionDigits 22 = .ok (.iadd, 1) := by decide +kernel
theorem d_AD_editionDigits_23 : decode b_AD_editionDigits 23 = .ok (.i2c, 1) := by decide +kernel
theorem d_AD_editionDigits_24 : decode b_AD_editionDigits 24 = .ok (.castore, 1) := by decide +kernel
theorem d_AD_editionDigits_25 : decode b_AD_editionDigits 25 = .ok (.iload_n 2, 1) := by decide +kernel
theorem d_AD_editionDigits_26 : decode b_AD_editionDigits 26 = .ok (.bipush 10, 2) := by decide +kernel
theorem d_AD_editionDigits_28 : decode b_AD_editionDigits 28 = .ok (.idiv, 1) := by decide +kernel
theorem d_AD_editionDigits_29 : decode b_AD_editionDigits 29 = .ok (.istore_n 2, 1) := by decide +kernel
theorem d_AD_editionDigits_30 : decode b_AD_editionDigits 30 = .ok (.iinc 3 (-1), 3) := by decide +kernel
theorem d_AD_editionDigits_33 : decode b_AD_editionDigits 33 = .ok (.goto (-23), 3) := by decide +kernel
theorem d_AD_editionDigits_36 : decode b_AD_editionDigits 36 = .ok (.aload_n 1, 1) := by decide +kernel
theorem d_AD_editionDigits_37 : decode b_AD_editionDigits 37 = .ok (.areturn, 1) := by decide +kernel
set_option maxHeartbeats 4000000 in
set_option maxRecDepth 100000 in
/-- the first place in which two actions differ -/
theorem c_AD_differ (l : Launch) (D : va_G) (ct : Nat → ClassId) (Z : hp_Z) (hZ : hp_Zok Z) (M : hp_M) (sz : Nat) (fz : Nat → Prop) (x : Nat) (As : List (List RowT)) (Al : List (List Nat)) (hat : atP ct fz M x As) (hal : alP ct fz M x Al) (k k3 : Int32) : Mi l y_AD_differ b_AD_differ 8 (some .int) 6 128 0 0 [.ref x, .int k, .int k3] D ct Z M sz (fun r M1 => M1 = M ∧ ((∃ j j3, j < As.length ∧ j3 < As.length ∧ k = nI j ∧ k3 = nI j3 ∧ dif (cR Al (As.getD j [])) (cR Al (As.getD j3 [])) r) ∨ (((∀ j, j < As.length → k ≠ nI j) ∨ (∀ j, j < As.length → k3 ≠ nI j)) ∧ r = -1))) := by
  refine hp_start (by decide) (Nat.le_of_ble_eq_true rfl) (fun p e s m below meth c ls S hret hlk hnm hsz hK hM hS hA hz hl => ?_)
  have hx := S.1
  have hb := S.2.1
  have hl : lv_has ls 8 [(0, .ref x), (1, .int k), (2, .int k3)] := hl
  obtain ⟨xt, sh, ac, na, al, sc, hg, fl, f_x, f_al, ⟨hAl8, hAl0⟩, hAl⟩ := id hal
  refine lv_aload_n hx hb d_AD_differ_0 rfl (lv_at hl 0 rfl) ?_
  refine lv_iload_n hx hb d_AD_differ_1 rfl (lv_at hl 1 rfl) ?_
  refine hp_callq (go_V S hZ hK hM hS hA hz (c_AD_actionAt l D ct Z hZ _ _ fz x As hat k) mc_AD_actionAt mz_AD ml_AD_69 mi_AD_actionAt mx_AD_actionAt hd_AD_actionAt rfl ⟨by decide, by decide⟩ f_x rfl rfl hl.1 rfl (Nat.le_of_ble_eq_true rfl) d_AD_differ_2 ⟨by decide, by decide⟩) hM hS hA (fun r1 M9 H locs hr1 hM hS => ?_)
  rw [hr1.1] at hM
  replace hr1 := hr1.2
  rcases hr1 with ⟨j0, a, hj0, ek, e9r, hac0⟩ | ⟨hno0, e9r⟩
  · subst e9r
    subst ek
    have haca := hac0
    obtain ⟨oaa, foa, f_a, f_oaa, hn24a, hrsa⟩ := id haca
    refine lv_astore_n (lv' := [(3, .ref a), (0, .ref x), (1, .int (nI j0)), (2, .int k3)]) hx hb d_AD_differ_5 rfl hl (by decide) rfl (fun ls hl => ?_)
    refine lv_aload_n hx hb d_AD_differ_6 rfl (lv_at hl 1 rfl) ?_
    refine lv_iload_n hx hb d_AD_differ_7 rfl (lv_at hl 3 rfl) ?_
    refine hp_callq (go_V S hZ hK hM hS hA hz (c_AD_actionAt l D ct Z hZ _ _ fz x As hat k3) mc_AD_actionAt mz_AD ml_AD_69 mi_AD_actionAt mx_AD_actionAt hd_AD_actionAt rfl ⟨by decide, by decide⟩ f_x rfl rfl hl.1 rfl (Nat.le_of_ble_eq_true rfl) d_AD_differ_8 ⟨by decide, by decide⟩) hM hS hA (fun r2 M9 H locs hr2 hM hS => ?_)
    rw [hr2.1] at hM
    replace hr2 := hr2.2
    rcases hr2 with ⟨j3, a3, hj3, ek3, e9r, hac3⟩ | ⟨hno3, e9r⟩
    · subst e9r
      subst ek3
      have haca3 := hac3
      obtain ⟨oaa3, foa3, f_a3, f_oaa3, hn24a3, hrsa3⟩ := id haca3
      refine lv_astore (lv' := [(4, .ref a3), (3, .ref a), (0, .ref x), (1, .int (nI j0)), (2, .int (nI j3))]) hx hb d_AD_differ_11 hl (by decide) rfl (fun ls hl => ?_)
      refine lv_aload_n hx hb d_AD_differ_13 rfl (lv_at hl 1 rfl) ?_
      refine lv_ifnull hx hb d_AD_differ_14 ?_
      refine lv_aload hx hb d_AD_differ_17 (lv_at hl 0 rfl) ?_
      refine lv_ifnonnull (tgt := 24) hx hb d_AD_differ_19 (by decide) ?_
      refine lv_iconst (v := nI 0) hx hb d_AD_differ_24 rfl ?_
      refine lv_istore (lv' := [(5, .int (nI 0)), (4, .ref a3), (3, .ref a), (0, .ref x), (1, .int (nI j0)), (2, .int (nI j3))]) hx hb d_AD_differ_25 hl (by decide) rfl (fun ls hl => ?_)
      have hla := Nat.le_trans (cR_len (Al := Al)) hn24a
      have hla3 := Nat.le_trans (cR_len (Al := Al)) hn24a3
      replace hl : lv_has ls 8 [(0, .ref x), (3, .ref a), (4, .ref a3), (5, .int (nI 0))] := lv_sub hl [3, 2, 1, 0] rfl
      obtain ⟨j, e9j⟩ : ∃ z : Nat, z = 0 := ⟨_, rfl⟩
      replace hl : lv_has ls 8 [(0, .ref x), (3, .ref a), (4, .ref a3), (5, .int (nI j))] := by subst e9j; exact hl
      have hinv : ∀ i, i < j → i < (cR Al (As.getD j0 [])).length ∧ i < (cR Al (As.getD j3 [])).length ∧ like ((cR Al (As.getD j0 [])).getD i rw0) ((cR Al (As.getD j3 [])).getD i rw0) := by subst e9j; intro i hi; omega
      obtain ⟨fu, hn⟩ : ∃ fu : Nat, j + fu = 24 := ⟨24 - j, by omega⟩
      clear e9j
      induction fu generalizing j H locs ls with
      | zero =>
        have hn : j = 24 := by omega
        have z1 := hinv 23 (by omega)
        refine lv_iload hx hb d_AD_differ_27 (lv_at hl 3 rfl) ?_
        refine lv_bipush (v := nI 24) hx hb d_AD_differ_29 rfl ?_
        refine nb_ge (tgt := 94) hx hb d_AD_differ_31 (by decide) (by omega) (by omega) (fun h3 => ?_) (fun h3 => ?_)
        · refine lv_iconst (v := -1) hx hb d_AD_differ_94 (by decide) ?_
          exact hp_iret S hret hlk (rfl) hM hS (⟨rfl, Or.inl ⟨j0, j3, hj0, hj3, rfl, rfl, Or.inr ⟨by omega, fun i hi => (hinv i (by omega)).2.2, rfl⟩⟩⟩) d_AD_differ_95
        · exact absurd hn (by omega)
      | succ fu ih =>
        refine lv_iload hx hb d_AD_differ_27 (lv_at hl 3 rfl) ?_
        refine lv_bipush (v := nI 24) hx hb d_AD_differ_29 rfl ?_
        refine nb_ge (tgt := 94) hx hb d_AD_differ_31 (by decide) (by omega) (by omega) (fun h4 => ?_) (fun h4 => ?_)
        · exact absurd hn (by omega)
        · refine lv_aload_n hx hb d_AD_differ_34 rfl (lv_at hl 0 rfl) ?_
          refine lv_aload_n hx hb d_AD_differ_35 rfl (lv_at hl 1 rfl) ?_
          refine lv_iload hx hb d_AD_differ_36 (lv_at hl 3 rfl) ?_
          refine hp_callq (go_V S hZ hK hM hS hA hz (c_AD_rowInOrder l D ct Z hZ _ _ fz x Al hal a (As.getD j0 []) haca j (by omega)) mc_AD_rowInOrder mz_AD ml_AD_148 mi_AD_rowInOrder mx_AD_rowInOrder hd_AD_rowInOrder rfl ⟨by decide, by decide⟩ f_x rfl rfl hl.1 rfl (Nat.le_of_ble_eq_true rfl) d_AD_differ_38 ⟨by decide, by decide⟩) hM hS hA (fun r5 M9 H locs hr5 hM hS => ?_)
          rw [hr5.1] at hM
          replace hr5 := hr5.2
          rcases hr5 with ⟨hlt, q, e9r, hq⟩ | ⟨hnl, e9r⟩
          · subst e9r
            obtain ⟨kyq, baq, f_q, -⟩ := id hq
            refine lv_astore (lv' := [(6, .ref q), (0, .ref x), (3, .ref a), (4, .ref a3), (5, .int (nI j))]) hx hb d_AD_differ_41 hl (by decide) rfl (fun ls hl => ?_)
            refine lv_aload_n hx hb d_AD_differ_43 rfl (lv_at hl 1 rfl) ?_
            refine lv_aload hx hb d_AD_differ_44 (lv_at hl 3 rfl) ?_
            refine lv_iload hx hb d_AD_differ_46 (lv_at hl 4 rfl) ?_
            refine hp_callq (go_V S hZ hK hM hS hA hz (c_AD_rowInOrder l D ct Z hZ _ _ fz x Al hal a3 (As.getD j3 []) haca3 j (by omega)) mc_AD_rowInOrder mz_AD ml_AD_148 mi_AD_rowInOrder mx_AD_rowInOrder hd_AD_rowInOrder rfl ⟨by decide, by decide⟩ f_x rfl rfl hl.1 rfl (Nat.le_of_ble_eq_true rfl) d_AD_differ_48 ⟨by decide, by decide⟩) hM hS hA (fun r6 M9 H locs hr6 hM hS => ?_)
            rw [hr6.1] at hM
            replace hr6 := hr6.2
            rcases hr6 with ⟨hlt3, q3, e9r, hq3⟩ | ⟨hnl3, e9r⟩
            · subst e9r
              obtain ⟨kyq3, baq3, f_q3, -⟩ := id hq3
              refine lv_astore (lv' := [(7, .ref q3), (6, .ref q), (0, .ref x), (3, .ref a), (4, .ref a3), (5, .int (nI j))]) hx hb d_AD_differ_51 hl (by decide) rfl (fun ls hl => ?_)
              refine lv_aload hx hb d_AD_differ_53 (lv_at hl 1 rfl) ?_
              refine lv_ifnonnull (tgt := 65) hx hb d_AD_differ_55 (by decide) ?_
              refine lv_aload hx hb d_AD_differ_65 (lv_at hl 1 rfl) ?_
              refine lv_ifnull hx hb d_AD_differ_67 ?_
              refine lv_aload hx hb d_AD_differ_70 (lv_at hl 0 rfl) ?_
              refine lv_ifnull hx hb d_AD_differ_72 ?_
              refine lv_aload hx hb d_AD_differ_75 (lv_at hl 1 rfl) ?_
              refine lv_aload hx hb d_AD_differ_77 (lv_at hl 0 rfl) ?_
              refine hp_calli (go_V S hZ hK hM hS hA hz (c_RW_isLike l D ct Z hZ _ _ fz q q3 ((cR Al (As.getD j0 [])).getD j rw0) ((cR Al (As.getD j3 [])).getD j rw0) hq hq3) mc_RW_isLike mz_RW ml_AD_178 mi_RW_isLike mx_RW_isLike hd_RW_isLike rfl ⟨by decide, by decide⟩ f_q rfl rfl hl.1 rfl (Nat.le_of_ble_eq_true rfl) d_AD_differ_79 ⟨by decide, by decide⟩) hM hS hA (fun r7 N8 H locs hr7 hM hS => ?_)
              rw [hr7.1] at hM
              replace hr7 := hr7.2
              refine nt_ne (tgt := 88) hx hb d_AD_differ_82 (by decide) hr7 (fun hlk9 => ?_) (fun hlk9 => ?_)
              · refine lv_iinc (v := nI (j + 1)) (lv' := [(5, .int (nI (j + 1))), (7, .ref q3), (6, .ref q), (0, .ref x), (3, .ref a), (4, .ref a3)]) hx hb d_AD_differ_88 hl (k := 5) rfl (nI_add j 1) (by decide) rfl (fun ls hl => ?_)
                refine lv_goto (tgt := 27) hx hb d_AD_differ_91 (by decide) ?_
                exact ih (ls := ls) (hl := lv_sub hl [3, 4, 5, 0] rfl) (j := j + 1) (hn := by omega) (hinv := lt_s hinv ⟨hlt, hlt3, hlk9⟩) (H := H) (locs := locs) (hM := hM) (hS := hS)
              · refine lv_iload hx hb d_AD_differ_85 (lv_at hl 5 rfl) ?_
                exact hp_iret S hret hlk rfl hM hS ⟨rfl, Or.inl ⟨j0, j3, hj0, hj3, rfl, rfl, Or.inl ⟨j, hinv, by omega, fun z => by first | omega | exact hlk9 z.2.2, rfl⟩⟩⟩ d_AD_differ_87
            · subst e9r
              refine lv_astoreN (lv' := [(7, .null), (6, .ref q), (0, .ref x), (3, .ref a), (4, .ref a3), (5, .int (nI j))]) hx hb d_AD_differ_51 hl (by decide) rfl (fun ls hl => ?_)
              refine lv_aload hx hb d_AD_differ_53 (lv_at hl 1 rfl) ?_
              refine lv_ifnonnull (tgt := 65) hx hb d_AD_differ_55 (by decide) ?_
              refine lv_aload hx hb d_AD_differ_65 (lv_at hl 1 rfl) ?_
              refine lv_ifnull hx hb d_AD_differ_67 ?_
              refine lv_aloadN hx hb d_AD_differ_70 (lv_at hl 0 rfl) ?_
              refine lv_ifnullN (tgt := 85) hx hb d_AD_differ_72 (by decide) ?_
              refine lv_iload hx hb d_AD_differ_85 (lv_at hl 5 rfl) ?_
              exact hp_iret S hret hlk rfl hM hS ⟨rfl, Or.inl ⟨j0, j3, hj0, hj3, rfl, rfl, Or.inl ⟨j, hinv, by omega, fun z => by first | omega | exact hlk9 z.2.2, rfl⟩⟩⟩ d_AD_differ_87
          · subst e9r
            refine lv_astoreN (lv' := [(6, .null), (0, .ref x), (3, .ref a), (4, .ref a3), (5, .int (nI j))]) hx hb d_AD_differ_41 hl (by decide) rfl (fun ls hl => ?_)
            refine lv_aload_n hx hb d_AD_differ_43 rfl (lv_at hl 1 rfl) ?_
            refine lv_aload hx hb d_AD_differ_44 (lv_at hl 3 rfl) ?_
            refine lv_iload hx hb d_AD_differ_46 (lv_at hl 4 rfl) ?_
            refine hp_callq (go_V S hZ hK hM hS hA hz (c_AD_rowInOrder l D ct Z hZ _ _ fz x Al hal a3 (As.getD j3 []) haca3 j (by omega)) mc_AD_rowInOrder mz_AD ml_AD_148 mi_AD_rowInOrder mx_AD_rowInOrder hd_AD_rowInOrder rfl ⟨by decide, by decide⟩ f_x rfl rfl hl.1 rfl (Nat.le_of_ble_eq_true rfl) d_AD_differ_48 ⟨by decide, by decide⟩) hM hS hA (fun r9 M9 H locs hr9 hM hS => ?_)
            rw [hr9.1] at hM
            replace hr9 := hr9.2
            rcases hr9 with ⟨hlt3, q3, e9r, hq3⟩ | ⟨hnl3, e9r⟩
            · subst e9r
              obtain ⟨kyq3, baq3, f_q3, -⟩ := id hq3
              refine lv_astore (lv' := [(7, .ref q3), (6, .null), (0, .ref x), (3, .ref a), (4, .ref a3), (5, .int (nI j))]) hx hb d_AD_differ_51 hl (by decide) rfl (fun ls hl => ?_)
              refine lv_aloadN hx hb d_AD_differ_53 (lv_at hl 1 rfl) ?_
              refine lv_ifnonnullN hx hb d_AD_differ_55 ?_
              refine lv_aload hx hb d_AD_differ_58 (lv_at hl 0 rfl) ?_
              refine lv_ifnonnull (tgt := 65) hx hb d_AD_differ_60 (by decide) ?_
              refine lv_aloadN hx hb d_AD_differ_65 (lv_at hl 1 rfl) ?_
              refine lv_ifnullN (tgt := 85) hx hb d_AD_differ_67 (by decide) ?_
              refine lv_iload hx hb d_AD_differ_85 (lv_at hl 5 rfl) ?_
              exact hp_iret S hret hlk rfl hM hS ⟨rfl, Or.inl ⟨j0, j3, hj0, hj3, rfl, rfl, Or.inl ⟨j, hinv, by omega, fun z => by first | omega | exact hlk9 z.2.2, rfl⟩⟩⟩ d_AD_differ_87
            · subst e9r
              refine lv_astoreN (lv' := [(7, .null), (6, .null), (0, .ref x), (3, .ref a), (4, .ref a3), (5, .int (nI j))]) hx hb d_AD_differ_51 hl (by decide) rfl (fun ls hl => ?_)
              refine lv_aloadN hx hb d_AD_differ_53 (lv_at hl 1 rfl) ?_
              refine lv_ifnonnullN hx hb d_AD_differ_55 ?_
              refine lv_aloadN hx hb d_AD_differ_58 (lv_at hl 0 rfl) ?_
              refine lv_ifnonnullN hx hb d_AD_differ_60 ?_
              refine lv_iconst (v := -1) hx hb d_AD_differ_63 (by decide) ?_
              have z2 : (cR Al (As.getD j0 [])).length = j := by rcases Nat.eq_zero_or_pos j with z | z; omega; (have := hinv (j - 1) (by omega); omega)
              have z3 : (cR Al (As.getD j3 [])).length = j := by rcases Nat.eq_zero_or_pos j with z | z; omega; (have := hinv (j - 1) (by omega); omega)
              exact hp_iret S hret hlk rfl hM hS ⟨rfl, Or.inl ⟨j0, j3, hj0, hj3, rfl, rfl, Or.inr ⟨by omega, fun i hi => (hinv i (by omega)).2.2, rfl⟩⟩⟩ d_AD_differ_64
    · subst e9r
      refine lv_astoreN (lv' := [(4, .null), (3, .ref a), (0, .ref x), (1, .int (nI j0)), (2, .int k3)]) hx hb d_AD_differ_11 hl (by decide) rfl (fun ls hl => ?_)
      refine lv_aload_n hx hb d_AD_differ_13 rfl (lv_at hl 1 rfl) ?_
      refine lv_ifnull hx hb d_AD_differ_14 ?_
      refine lv_aloadN hx hb d_AD_differ_17 (lv_at hl 0 rfl) ?_
      refine lv_ifnonnullN hx hb d_AD_differ_19 ?_
      refine lv_iconst (v := -1) hx hb d_AD_differ_22 (by decide) ?_
      exact hp_iret S hret hlk (rfl) hM hS (⟨rfl, Or.inr ⟨by first | exact Or.inl hno0 | exact Or.inr hno3, rfl⟩⟩) d_AD_differ_23
  · subst e9r
    refine lv_astore_nN (lv' := [(3, .null), (0, .ref x), (1, .int k), (2, .int k3)]) hx hb d_AD_differ_5 rfl hl (by decide) rfl (fun ls hl => ?_)
    refine lv_aload_n hx hb d_AD_differ_6 rfl (lv_at hl 1 rfl) ?_
    refine lv_iload_n hx hb d_AD_differ_7 rfl (lv_at hl 3 rfl) ?_
    refine hp_callq (go_V S hZ hK hM hS hA hz (c_AD_actionAt l D ct Z hZ _ _ fz x As hat k3) mc_AD_actionAt mz_AD ml_AD_69 mi_AD_actionAt mx_AD_actionAt hd_AD_actionAt rfl ⟨by decide, by decide⟩ f_x rfl rfl hl.1 rfl (Nat.le_of_ble_eq_true rfl) d_AD_differ_8 ⟨by decide, by decide⟩) hM hS hA (fun r10 M9 H locs hr10 hM hS => ?_)
    rw [hr10.1] at hM
    replace hr10 := hr10.2
    rcases hr10 with ⟨j3, a3, hj3, ek3, e9r, hac3⟩ | ⟨hno3, e9r⟩
    · subst e9r
      subst ek3
      have haca3 := hac3
      obtain ⟨oaa3, foa3, f_a3, f_oaa3, hn24a3, hrsa3⟩ := id haca3
      refine lv_astore (lv' := [(4, .ref a3), (3, .null), (0, .ref x), (1, .int k), (2, .int (nI j3))]) hx hb d_AD_differ_11 hl (by decide) rfl (fun ls hl => ?_)
      refine lv_aload_nN hx hb d_AD_differ_13 rfl (lv_at hl 1 rfl) ?_
      refine lv_ifnullN (tgt := 22) hx hb d_AD_differ_14 (by decide) ?_
      refine lv_iconst (v := -1) hx hb d_AD_differ_22 (by decide) ?_
      exact hp_iret S hret hlk (rfl) hM hS (⟨rfl, Or.inr ⟨by first | exact Or.inl hno0 | exact Or.inr hno3, rfl⟩⟩) d_AD_differ_23
    · subst e9r
      refine lv_astoreN (lv' := [(4, .null), (3, .null), (0, .ref x), (1, .int k), (2, .int k3)]) hx hb d_AD_differ_11 hl (by decide) rfl (fun ls hl => ?_)
      refine lv_aload_nN hx hb d_AD_differ_13 rfl (lv_at hl 1 rfl) ?_
      refine lv_ifnullN (tgt := 22) hx hb d_AD_differ_14 (by decide) ?_
      refine lv_iconst (v := -1) hx hb d_AD_differ_22 (by decide) ?_
      exact hp_iret S hret hlk (rfl) hM hS (⟨rfl, Or.inr ⟨by first | exact Or.inl hno0 | exact Or.inr hno3, rfl⟩⟩) d_AD_differ_23
set_option maxHeartbeats 4000000 in
set_option maxRecDepth 100000 in
/-- K(t), H(t - 64) -/
theorem c_AD_constant (l : Launch) (D : va_G) (ct : Nat → ClassId) (Z : hp_Z) (hZ : hp_Zok Z) (M : hp_M) (sz : Nat) (tk th : Nat) (hzk : zK Z tk) (hzh : zH Z th) (x : Nat) (k : Int32) : Mi l y_AD_constant b_AD_constant 2 (some .int) 0 0 0 0 [.ref x, .int k] D ct Z M sz (fun r M1 => M1 = M ∧ ((∃ j, j < 64 ∧ k = nI j ∧ r = kF j) ∨ (∃ j, j < 8 ∧ k = nI (64 + j) ∧ r = hF j) ∨ ((∀ j, j < 72 → k ≠ nI j) ∧ r = nI 0))) := by
  refine hp_start (by decide) (Nat.le_of_ble_eq_true rfl) (fun p e s m below meth c ls S hret hlk hnm hsz hK hM hS hA hz hl => ?_)
  have hx := S.1
  have hb := S.2.1
  have hl : lv_has ls 2 [(0, .ref x), (1, .int k)] := hl
  rcases pk_ix k (n := 72) (by decide) with hlow | hhigh | ⟨j, hj, ej⟩
  · have hno : ∀ j, j < 72 → k ≠ nI j := fun j hj e => by rw [e] at hlow; exact nI_pos (by omega) hlow
    refine lv_iload_n hx hb d_AD_constant_0 rfl (lv_at hl 1 rfl) ?_
    refine lv_if_lt (tgt := 16) hx hb d_AD_constant_1 (by decide) (fun h1 => ?_) (fun h1 => ?_)
    · refine lv_iload_n hx hb d_AD_constant_16 rfl (lv_at hl 1 rfl) ?_
      refine lv_bipush (v := nI 64) hx hb d_AD_constant_17 rfl ?_
      refine lv_icmp_lt (tgt := 37) hx hb d_AD_constant_19 (by decide) (fun h2 => ?_) (fun h2 => ?_)
      · refine lv_iconst (v := nI 0) hx hb d_AD_constant_37 rfl ?_
        exact hp_iret S hret hlk (rfl) hM hS (⟨rfl, Or.inr (Or.inr ⟨hno, rfl⟩)⟩) d_AD_constant_38
      · exact absurd (Int32.lt_trans hlow (by decide)) h2
    · exact absurd hlow h1
  · have hno : ∀ j, j < 72 → k ≠ nI j := fun j hj e => by rw [e] at hhigh; exact absurd ((nI_leI (by decide) (by omega)).mp hhigh) (by omega)
    have hp : ¬ k < 0 := fun q => absurd (Int32.lt_of_le_of_lt hhigh q) (by decide)
    refine lv_iload_n hx hb d_AD_constant_0 rfl (lv_at hl 1 rfl) ?_
    refine lv_if_lt (tgt := 16) hx hb d_AD_constant_1 (by decide) (fun h3 => ?_) (fun h3 => ?_)
    · exact absurd h3 hp
    · refine lv_iload_n hx hb d_AD_constant_4 rfl (lv_at hl 1 rfl) ?_
      refine lv_bipush (v := nI 64) hx hb d_AD_constant_5 rfl ?_
      refine lv_icmp_ge (tgt := 16) hx hb d_AD_constant_7 (by decide) (fun h4 => ?_) (fun h4 => ?_)
      · refine lv_iload_n hx hb d_AD_constant_16 rfl (lv_at hl 1 rfl) ?_
        refine lv_bipush (v := nI 64) hx hb d_AD_constant_17 rfl ?_
        refine lv_icmp_lt (tgt := 37) hx hb d_AD_constant_19 (by decide) (fun h5 => ?_) (fun h5 => ?_)
        · exact absurd (Int32.le_trans (show nI 64 ≤ nI 72 by decide) hhigh) (Int32.not_le.mpr h5)
        · refine lv_iload_n hx hb d_AD_constant_22 rfl (lv_at hl 1 rfl) ?_
          refine lv_bipush (v := nI 72) hx hb d_AD_constant_23 rfl ?_
          refine lv_icmp_ge (tgt := 37) hx hb d_AD_constant_25 (by decide) (fun h6 => ?_) (fun h6 => ?_)
          · refine lv_iconst (v := nI 0) hx hb d_AD_constant_37 rfl ?_
            exact hp_iret S hret hlk (rfl) hM hS (⟨rfl, Or.inr (Or.inr ⟨hno, rfl⟩)⟩) d_AD_constant_38
          · exact absurd hhigh h6
      · exact absurd (Int32.le_trans (show nI 64 ≤ nI 72 by decide) hhigh) h4
  · subst ej
    refine lv_iload_n hx hb d_AD_constant_0 rfl (lv_at hl 1 rfl) ?_
    refine nz_lt (tgt := 16) hx hb d_AD_constant_1 (by decide) (by omega) (fun h7 => ?_) (fun h7 => ?_)
    · exact absurd h7 (fun q => q)
    · refine lv_iload_n hx hb d_AD_constant_4 rfl (lv_at hl 1 rfl) ?_
      refine lv_bipush (v := nI 64) hx hb d_AD_constant_5 rfl ?_
      refine nb_ge (tgt := 16) hx hb d_AD_constant_7 (by decide) (by omega) (by omega) (fun h8 => ?_) (fun h8 => ?_)
      · refine lv_iload_n hx hb d_AD_constant_16 rfl (lv_at hl 1 rfl) ?_
        refine lv_bipush (v := nI 64) hx hb d_AD_constant_17 rfl ?_
        refine nb_lt (tgt := 37) hx hb d_AD_constant_19 (by decide) (by omega) (by omega) (fun h9 => ?_) (fun h9 => ?_)
        · exact absurd h9 (by omega)
        · refine lv_iload_n hx hb d_AD_constant_22 rfl (lv_at hl 1 rfl) ?_
          refine lv_bipush (v := nI 72) hx hb d_AD_constant_23 rfl ?_
          refine nb_ge (tgt := 37) hx hb d_AD_constant_25 (by decide) (by omega) (by omega) (fun h10 => ?_) (fun h10 => ?_)
          · exact absurd h10 (by omega)
          · refine va_gets hx hb (hzh _ _ _ hz).1 hS S.2.2.2.1 (S.2.2.2.2 _ mf_AD_184) (fun _ h9 => h9) d_AD_constant_28 ?_
            refine lv_iload_n hx hb d_AD_constant_31 rfl (lv_at hl 1 rfl) ?_
            refine lv_bipush (v := nI 64) hx hb d_AD_constant_32 rfl ?_
            refine nb_isub hx hb d_AD_constant_34 (by omega) ?_
            refine va_ti hx hb (hzh _ _ _ hz).2.1 hS (vp_in_nI (show j - 64 < 8 by omega) (by decide)) (v := .int (hF (j - 64))) (by show Value.int (hF (nI (j - 64)).toNatClampNeg) = _; rw [nI_clamp (by omega)]) d_AD_constant_35 ?_
            exact hp_iret S hret hlk (rfl) hM hS (⟨rfl, Or.inr (Or.inl ⟨j - 64, by omega, congrArg nI (by omega), rfl⟩)⟩) d_AD_constant_36
      · refine va_gets hx hb (hzk _ _ _ hz).1 hS S.2.2.2.1 (S.2.2.2.2 _ mf_AD_181) (fun _ h9 => h9) d_AD_constant_10 ?_
        refine lv_iload_n hx hb d_AD_constant_13 rfl (lv_at hl 1 rfl) ?_
        refine va_ti hx hb (hzk _ _ _ hz).2.1 hS (vp_in_nI (show j < 64 by omega) (by decide)) (v := .int (kF j)) (by show Value.int (kF (nI j).toNatClampNeg) = _; rw [nI_clamp (by omega)]) d_AD_constant_14 ?_
        exact hp_iret S hret hlk (rfl) hM hS (⟨rfl, Or.inl ⟨j, by omega, rfl, rfl⟩⟩) d_AD_constant_15
theorem ct01 {D : va_G} {ct : Nat → ClassId} {s : State} (hK : va_K D ccl (tys ct) s) : ct 0 ≠ ct 1 := ct_ne hK (i := 0) (j := 1) rfl rfl (by decide)
theorem xO_sh {ct : Nat → ClassId} {M : hp_M} {x xt sh ac na al nl sc hg su wo : Nat} {Y X : ShT} (h : shOk ct M sh su wo Y) (f : M x = some (xO xt sh ac na al nl sc hg)) : shM ct M sh su wo X x = some (xO xt sh ac na al nl sc hg) := shM_k f (hp_ne f h.1 (by simp)) (hp_ne f h.2.1 (by simp)) (hp_ne f h.2.2.1 (by simp))
set_option maxHeartbeats 4000000 in
set_option maxRecDepth 100000 in
/-- a row is fed -/
theorem c_AD_feedRow (l : Launch) (D : va_G) (ct : Nat → ClassId) (Z : hp_Z) (hZ : hp_Zok Z) (M : hp_M) (sz : Nat) (tk : Nat) (hzk : zK Z tk) (fz : Nat → Prop) (x : Nat) (xt sh ac na al nl sc hg : Nat) (f_x : M x = some (xO xt sh ac na al nl sc hg)) (su wo : Nat) (Y : ShT) (hsh : shOk ct M sh su wo Y) (hlt : Y.2.2.1 < 64) (a : Nat) (R : RowT) (hra : rwOk ct fz M a R) : Mv l y_AD_feedRow b_AD_feedRow 4 none 3 76 0 0 [.ref x, .ref a] D ct Z M sz (fun M1 => M1 = shM ct M sh su wo (feedL Y (stT R))) := by
  refine hp_start (by decide) (Nat.le_of_ble_eq_true rfl) (fun p e s m below meth c ls S hret hlk hnm hsz hK hM hS hA hz hl => ?_)
  have hx := S.1
  have hb := S.2.1
  have hl : lv_has ls 4 [(0, .ref x), (1, .ref a)] := hl
  obtain ⟨kya, baa, f_a, -⟩ := id hra
  have hrl := hra.len
  have f0_x := f_x
  refine lv_aload_n hx hb d_AD_feedRow_0 rfl (lv_at hl 1 rfl) ?_
  refine hp_calli (go_V S hZ hK hM hS hA hz (c_RW_stableLength l D ct Z hZ _ _ fz a R hra) mc_RW_stableLength mz_RW ml_AD_154 mi_RW_stableLength mx_RW_stableLength hd_RW_stableLength rfl ⟨by decide, by decide⟩ f_a rfl rfl hl.1 rfl (Nat.le_of_ble_eq_true rfl) d_AD_feedRow_1 ⟨by decide, by decide⟩) hM hS hA (fun r1 N2 H locs hr1 hM hS => ?_)
  rw [hr1.1] at hM
  replace hr1 := hr1.2
  subst hr1
  refine lv_istore_n (lv' := [(2, .int (nI ((stT R).length))), (0, .ref x), (1, .ref a)]) hx hb d_AD_feedRow_4 rfl hl (by decide) rfl (fun ls hl => ?_)
  refine lv_iconst (v := nI 0) hx hb d_AD_feedRow_5 rfl ?_
  refine lv_istore_n (lv' := [(3, .int (nI 0)), (2, .int (nI ((stT R).length))), (0, .ref x), (1, .ref a)]) hx hb d_AD_feedRow_6 rfl hl (by decide) rfl (fun ls hl => ?_)
  replace hl : lv_has ls 4 [(0, .ref x), (1, .ref a), (2, .int (nI ((stT R).length))), (3, .int (nI 0))] := lv_sub hl [2, 3, 1, 0] rfl
  obtain ⟨j, e9j⟩ : ∃ z : Nat, z = 0 := ⟨_, rfl⟩
  obtain ⟨X, e9X⟩ : ∃ z : ShT, z = Y := ⟨_, rfl⟩
  replace hl : lv_has ls 4 [(0, .ref x), (1, .ref a), (2, .int (nI ((stT R).length))), (3, .int (nI j))] := by subst e9j e9X; exact hl
  replace hM : hp_H D ccl (hp_A M sz) (shM ct M sh su wo X) H := by rw [e9X, shM_self hsh]; exact hM
  have hX : X = feedL Y ((stT R).take j) := by subst e9j e9X; rfl
  have hXl : X.2.2.1 < 64 := by subst e9j e9X; exact hlt
  obtain ⟨fu, hn⟩ : ∃ fu : Nat, j + fu = (stT R).length := ⟨(stT R).length - j, by omega⟩
  clear e9j e9X
  induction fu generalizing j X H locs ls with
  | zero =>
    have hn : j = (stT R).length := by omega
    have hshX := shM_ok hsh (X := X) (Nat.le_of_lt hXl)
    obtain ⟨f_su, f_wo, f_sh, -⟩ := id hshX
    have f_x := xO_sh (X := X) hsh f0_x
    have hra1 := hra.st (kp_sh (fz := fz) (X := X) (ct01 hK) hsh).1
    obtain ⟨ky1, ba1, f_a, -⟩ := id hra1
    refine lv_iload_n hx hb d_AD_feedRow_7 rfl (lv_at hl 3 rfl) ?_
    refine lv_iload_n hx hb d_AD_feedRow_8 rfl (lv_at hl 2 rfl) ?_
    refine nb_ge (tgt := 30) hx hb d_AD_feedRow_9 (by decide) (by omega) (by omega) (fun h3 => ?_) (fun h3 => ?_)
    · exact hp_vret S hret hlk hM hS (by rw [hX, hn, List.take_length]) d_AD_feedRow_30
    · exact absurd hn (by omega)
  | succ fu ih =>
    have hshX := shM_ok hsh (X := X) (Nat.le_of_lt hXl)
    obtain ⟨f_su, f_wo, f_sh, -⟩ := id hshX
    have f_x := xO_sh (X := X) hsh f0_x
    have hra1 := hra.st (kp_sh (fz := fz) (X := X) (ct01 hK) hsh).1
    obtain ⟨ky1, ba1, f_a, -⟩ := id hra1
    refine lv_iload_n hx hb d_AD_feedRow_7 rfl (lv_at hl 3 rfl) ?_
    refine lv_iload_n hx hb d_AD_feedRow_8 rfl (lv_at hl 2 rfl) ?_
    refine nb_ge (tgt := 30) hx hb d_AD_feedRow_9 (by decide) (by omega) (by omega) (fun h4 => ?_) (fun h4 => ?_)
    · exact absurd hn (by omega)
    · refine lv_aload_n hx hb d_AD_feedRow_12 rfl (lv_at hl 0 rfl) ?_
      refine hp_get S hK hM i_AD f_x rfl 1 (by decide) mf_AD_19 (fun _ h9 => h9) rfl d_AD_feedRow_13 ?_
      refine lv_aload_n hx hb d_AD_feedRow_16 rfl (lv_at hl 1 rfl) ?_
      refine lv_iload_n hx hb d_AD_feedRow_17 rfl (lv_at hl 3 rfl) ?_
      refine hp_calli (go_V S hZ hK hM hS hA hz (c_RW_stableCharacter l D ct Z hZ _ _ fz a R hra1 j (by omega)) mc_RW_stableCharacter mz_RW ml_AD_158 mi_RW_stableCharacter mx_RW_stableCharacter hd_RW_stableCharacter rfl ⟨by decide, by decide⟩ f_a rfl rfl hl.1 rfl (Nat.le_of_ble_eq_true rfl) d_AD_feedRow_18 ⟨by decide, by decide⟩) hM hS hA (fun r5 N6 H locs hr5 hM hS => ?_)
      rw [hr5.1] at hM
      replace hr5 := hr5.2
      subst hr5
      refine hp_callv (go_V S hZ hK hM hS hA hz (c_SH_feed l D ct Z hZ _ _ tk hzk sh su wo X hshX hXl (nI ((stT R).getD j 0))) mc_SH_feed mz_SH ml_AD_205 mi_SH_feed mx_SH_feed hd_SH_feed rfl ⟨by decide, by decide⟩ f_sh rfl rfl hl.1 rfl (Nat.le_of_ble_eq_true rfl) d_AD_feedRow_21 ⟨by decide, by decide⟩) hM hS hA (fun M9 H locs h9 hM hS => ?_)
      rw [h9, shM_uu] at hM
      refine lv_iinc (v := nI (j + 1)) (lv' := [(3, .int (nI (j + 1))), (0, .ref x), (1, .ref a), (2, .int (nI ((stT R).length)))]) hx hb d_AD_feedRow_24 hl (k := 3) rfl (nI_add j 1) (by decide) rfl (fun ls hl => ?_)
      refine lv_goto (tgt := 7) hx hb d_AD_feedRow_27 (by decide) ?_
      exact ih (ls := ls) (hl := lv_sub hl [1, 2, 3, 0] rfl) (j := j + 1) (hn := by omega) (X := feedS (nI ((stT R).getD j 0)) X) (hX := by rw [hX, feedL_s (by omega)]) (hXl := feedS_lt) (H := H) (locs := locs) (hM := hM) (hS := hS)
