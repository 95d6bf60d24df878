/-- an answer that asks for an action -/
def onA (As : List (List RowT)) (k r : Int32) (P : List RowT → Int32 → Prop) (r0 : Int32) : Prop := (∃ j, j < As.length ∧ k = nI j ∧ P (As.getD j []) r) ∨ ((∀ j, j < As.length → k ≠ nI j) ∧ r = r0)
/-- .. and for a place in a list of n -/
def onK (n : Nat) (k r : Int32) (P : Nat → Int32 → Prop) (r0 : Int32) : Prop := (∃ j, j < n ∧ k = nI j ∧ P j r) ∨ ((∀ j, j < n → k ≠ nI j) ∧ r = r0)
theorem stA_len {rs : List RowT} : (stA (rs ++ [])).length = (stA rs).length := by rw [List.append_nil]
theorem stA_at {Al : List (List Nat)} {rs : List RowT} {i k lf : Nat} (h : i < rs.length) (hc : cnts Al (rs.getD i rw0)) (hk : k = lf + (stA (cR Al (rs.take i))).length) (hlf : lf < (stT (rs.getD i rw0)).length) : k < (stA (cR Al rs)).length ∧ (stA (cR Al rs)).getD k 0 = (stT (rs.getD i rw0)).getD lf 0 := by
  have e : stA (cR Al rs) = (stA (cR Al (rs.take i)) ++ stT (rs.getD i rw0)) ++ stA (cR Al (rs.drop (i + 1))) := by
    rw [← stA_1, ← cR_1 h hc]
    unfold stA cR
    rw [← List.flatten_append, ← List.map_append, ← List.filter_append, List.take_append_drop]
  rw [e]
  constructor
  · rw [List.length_append, List.length_append]
    omega
  · rw [List.getD_eq_getElem?_getD, List.getElem?_append_left (by rw [List.length_append]; omega), List.getElem?_append_right (by omega), List.getD_eq_getElem?_getD, show k - (stA (cR Al (rs.take i))).length = lf by omega]
    rfl
theorem stA_s {Al : List (List Nat)} {rs : List RowT} {i : Nat} (h : i < rs.length) (hc : cnts Al (rs.getD i rw0)) : (stA (cR Al (rs.take (i + 1)))).length = (stA (cR Al (rs.take i))).length + (stT (rs.getD i rw0)).length := by
  rw [cR_1 h hc, stA_1, List.length_append]
theorem rwOk.len {ct : Nat → ClassId} {fz : Nat → Prop} {M : hp_M} {a : Nat} {R : RowT} (h : rwOk ct fz M a R) : (stT R).length ≤ 108 := by
  obtain ⟨_, _, -, -, -, h, -⟩ := h
  show R.2.2.length + 1 + 1 + 1 ≤ 108
  omega
def like (R S : RowT) : Prop := R.1 = S.1 ∧ R.2.2 = S.2.2
/-- the first place in which two lists of rows differ -/
def dif (ra rb : List RowT) (r : Int32) : Prop := (∃ p, (∀ i, i < p → i < ra.length ∧ i < rb.length ∧ like (ra.getD i rw0) (rb.getD i rw0)) ∧ (p < ra.length ∨ p < rb.length) ∧ ¬ (p < ra.length ∧ p < rb.length ∧ like (ra.getD p rw0) (rb.getD p rw0)) ∧ r = nI p) ∨ (ra.length = rb.length ∧ (∀ i, i < ra.length → like (ra.getD i rw0) (rb.getD i rw0)) ∧ r = -1)
set_option maxHeartbeats 4000000 in
set_option maxRecDepth 100000 in
/-- how many rows count -/
theorem c_AD_rows (l : Launch) (D : va_G) (ct : Nat → ClassId) (Z : hp_Z) (hZ : hp_Zok Z) (M : hp_M) (sz : Nat) (fz : Nat → Prop) (x : Nat) (As : List (List RowT)) (Al : List (List Nat)) (hat : atP ct fz M x As) (hal : alP ct fz M x Al) (k : Int32) : Mi l y_AD_rows b_AD_rows 5 (some .int) 5 103 0 0 [.ref x, .int k] D ct Z M sz (fun r M1 => M1 = M ∧ onA As k r (fun rs r => r = nI (cR Al rs).length) (-1)) := by
  refine hp_start (by decide) (Nat.le_of_ble_eq_true rfl) (fun p e s m below meth c ls S hret hlk hnm hsz hK hM hS hA hz hl => ?_)
  have hx := S.1
  have hb := S.2.1
  have hl : lv_has ls 5 [(0, .ref x), (1, .int k)] := hl
  obtain ⟨xt, sh, ac, na, al, sc, hg, fl, f_x, f_al, ⟨hAl8, hAl0⟩, hAl⟩ := id hal
  refine lv_aload_n hx hb d_AD_rows_0 rfl (lv_at hl 0 rfl) ?_
  refine lv_iload_n hx hb d_AD_rows_1 rfl (lv_at hl 1 rfl) ?_
  refine hp_callq (go_V S hZ hK hM hS hA hz (c_AD_actionAt l D ct Z hZ _ _ fz x As hat k) mc_AD_actionAt mz_AD ml_AD_69 mi_AD_actionAt mx_AD_actionAt hd_AD_actionAt rfl ⟨by decide, by decide⟩ f_x rfl rfl hl.1 rfl (Nat.le_of_ble_eq_true rfl) d_AD_rows_2 ⟨by decide, by decide⟩) hM hS hA (fun r1 M9 H locs hr1 hM hS => ?_)
  rw [hr1.1] at hM
  replace hr1 := hr1.2
  rcases hr1 with ⟨j0, a, hj0, ek, e9r, hac0⟩ | ⟨hno0, e9r⟩
  · subst e9r
    subst ek
    have haca := hac0
    obtain ⟨oaa, foa, f_a, f_oaa, hn24a, hrsa⟩ := id haca
    refine lv_astore_n (lv' := [(2, .ref a), (0, .ref x), (1, .int (nI j0))]) hx hb d_AD_rows_5 rfl hl (by decide) rfl (fun ls hl => ?_)
    refine lv_aload_n hx hb d_AD_rows_6 rfl (lv_at hl 0 rfl) ?_
    refine lv_ifnonnull (tgt := 12) hx hb d_AD_rows_7 (by decide) ?_
    refine lv_iconst (v := nI 0) hx hb d_AD_rows_12 rfl ?_
    refine lv_istore_n (lv' := [(3, .int (nI 0)), (2, .ref a), (0, .ref x), (1, .int (nI j0))]) hx hb d_AD_rows_13 rfl hl (by decide) rfl (fun ls hl => ?_)
    refine lv_iconst (v := nI 0) hx hb d_AD_rows_14 rfl ?_
    refine lv_istore (lv' := [(4, .int (nI 0)), (3, .int (nI 0)), (2, .ref a), (0, .ref x), (1, .int (nI j0))]) hx hb d_AD_rows_15 hl (by decide) rfl (fun ls hl => ?_)
    replace hl : lv_has ls 5 [(0, .ref x), (2, .ref a), (3, .int (nI 0)), (4, .int (nI 0))] := lv_sub hl [3, 2, 1, 0] rfl
    obtain ⟨j, e9j⟩ : ∃ z : Nat, z = 0 := ⟨_, rfl⟩
    obtain ⟨c9, e9c9⟩ : ∃ z : Nat, z = 0 := ⟨_, rfl⟩
    replace hl : lv_has ls 5 [(0, .ref x), (2, .ref a), (3, .int (nI c9)), (4, .int (nI j))] := by subst e9j e9c9; exact hl
    have hc : c9 = (cR Al ((As.getD j0 []).take j)).length := by subst e9j e9c9; simp [cR]
    obtain ⟨fu, hn⟩ : ∃ fu : Nat, j + fu = 24 := ⟨24 - j, by omega⟩
    clear e9j e9c9
    induction fu generalizing j c9 H locs ls with
    | zero =>
      have hn : j = 24 := by omega
      rw [hn, List.take_of_length_le hn24a] at hc
      subst hc
      refine lv_iload hx hb d_AD_rows_17 (lv_at hl 3 rfl) ?_
      refine lv_bipush (v := nI 24) hx hb d_AD_rows_19 rfl ?_
      refine nb_ge (tgt := 43) hx hb d_AD_rows_21 (by decide) (by omega) (by omega) (fun h2 => ?_) (fun h2 => ?_)
      · refine lv_iload_n hx hb d_AD_rows_43 rfl (lv_at hl 2 rfl) ?_
        exact hp_iret S hret hlk (rfl) hM hS (⟨rfl, Or.inl ⟨j0, hj0, rfl, rfl⟩⟩) d_AD_rows_44
      · exact absurd hn (by omega)
    | succ fu ih =>
      refine lv_iload hx hb d_AD_rows_17 (lv_at hl 3 rfl) ?_
      refine lv_bipush (v := nI 24) hx hb d_AD_rows_19 rfl ?_
      refine nb_ge (tgt := 43) hx hb d_AD_rows_21 (by decide) (by omega) (by omega) (fun h3 => ?_) (fun h3 => ?_)
      · exact absurd hn (by omega)
      · refine lv_aload_n hx hb d_AD_rows_24 rfl (lv_at hl 0 rfl) ?_
        refine lv_aload_n hx hb d_AD_rows_25 rfl (lv_at hl 1 rfl) ?_
        refine lv_iload hx hb d_AD_rows_26 (lv_at hl 3 rfl) ?_
        refine hp_callq (go_V S hZ hK hM hS hA hz (c_AD_countingRowAt l D ct Z hZ _ _ fz x Al hal a (As.getD j0 []) haca j (by omega)) mc_AD_countingRowAt mz_AD ml_AD_144 mi_AD_countingRowAt mx_AD_countingRowAt hd_AD_countingRowAt rfl ⟨by decide, by decide⟩ f_x rfl rfl hl.1 rfl (Nat.le_of_ble_eq_true rfl) d_AD_rows_28 ⟨by decide, by decide⟩) hM hS hA (fun r4 M9 H locs hr4 hM hS => ?_)
        rw [hr4.1] at hM
        replace hr4 := hr4.2
        rcases hr4 with ⟨hlt, hcn, q, e9r, hq⟩ | ⟨hno, e9r⟩
        · subst e9r
          refine lv_ifnull hx hb d_AD_rows_31 ?_
          refine lv_iinc (v := nI (c9 + 1)) (lv' := [(3, .int (nI (c9 + 1))), (0, .ref x), (2, .ref a), (4, .int (nI j))]) hx hb d_AD_rows_34 hl (k := 2) rfl (nI_add c9 1) (by decide) rfl (fun ls hl => ?_)
          refine lv_iinc (v := nI (j + 1)) (lv' := [(4, .int (nI (j + 1))), (3, .int (nI (c9 + 1))), (0, .ref x), (2, .ref a)]) hx hb d_AD_rows_37 hl (k := 3) rfl (nI_add j 1) (by decide) rfl (fun ls hl => ?_)
          refine lv_goto (tgt := 17) hx hb d_AD_rows_40 (by decide) ?_
          exact ih (ls := ls) (hl := lv_sub hl [2, 3, 1, 0] rfl) (j := j + 1) (hn := by omega) (c9 := c9 + 1) (hc := by rw [cR_1 hlt hcn, List.length_append, hc]; rfl) (H := H) (locs := locs) (hM := hM) (hS := hS)
        · subst e9r
          refine lv_ifnullN (tgt := 37) hx hb d_AD_rows_31 (by decide) ?_
          refine lv_iinc (v := nI (j + 1)) (lv' := [(4, .int (nI (j + 1))), (0, .ref x), (2, .ref a), (3, .int (nI c9))]) hx hb d_AD_rows_37 hl (k := 3) rfl (nI_add j 1) (by decide) rfl (fun ls hl => ?_)
          refine lv_goto (tgt := 17) hx hb d_AD_rows_40 (by decide) ?_
          exact ih (ls := ls) (hl := lv_sub hl [1, 2, 3, 0] rfl) (j := j + 1) (hn := by omega) (c9 := c9) (hc := by rw [cR_0 hno]; exact hc) (H := H) (locs := locs) (hM := hM) (hS := hS)
  · subst e9r
    refine lv_astore_nN (lv' := [(2, .null), (0, .ref x), (1, .int k)]) hx hb d_AD_rows_5 rfl hl (by decide) rfl (fun ls hl => ?_)
    refine lv_aload_nN hx hb d_AD_rows_6 rfl (lv_at hl 0 rfl) ?_
    refine lv_ifnonnullN hx hb d_AD_rows_7 ?_
    refine lv_iconst (v := -1) hx hb d_AD_rows_10 (by decide) ?_
    exact hp_iret S hret hlk (rfl) hM hS (⟨rfl, Or.inr ⟨hno0, rfl⟩⟩) d_AD_rows_11
set_option maxHeartbeats 4000000 in
set_option maxRecDepth 100000 in
/-- how long the STABLE TEXT is -/
theorem c_AD_size (l : Launch) (D : va_G) (ct : Nat → ClassId) (Z : hp_Z) (hZ : hp_Zok Z) (M : hp_M) (sz : Nat) (fz : Nat → Prop) (x : Nat) (As : List (List RowT)) (Al : List (List Nat)) (hat : atP ct fz M x As) (hal : alP ct fz M x Al) (k : Int32) : Mi l y_AD_size b_AD_size 6 (some .int) 5 103 0 0 [.ref x, .int k] D ct Z M sz (fun r M1 => M1 = M ∧ onA As k r (fun rs r => r = nI (stA (cR Al rs)).length) (-1)) := by
  refine hp_start (by decide) (Nat.le_of_ble_eq_true rfl) (fun p e s m below meth c ls S hret hlk hnm hsz hK hM hS hA hz hl => ?_)
  have hx := S.1
  have hb := S.2.1
  have hl : lv_has ls 6 [(0, .ref x), (1, .int k)] := hl
  obtain ⟨xt, sh, ac, na, al, sc, hg, fl, f_x, f_al, ⟨hAl8, hAl0⟩, hAl⟩ := id hal
  refine lv_aload_n hx hb d_AD_size_0 rfl (lv_at hl 0 rfl) ?_
  refine lv_iload_n hx hb d_AD_size_1 rfl (lv_at hl 1 rfl) ?_
  refine hp_callq (go_V S hZ hK hM hS hA hz (c_AD_actionAt l D ct Z hZ _ _ fz x As hat k) mc_AD_actionAt mz_AD ml_AD_69 mi_AD_actionAt mx_AD_actionAt hd_AD_actionAt rfl ⟨by decide, by decide⟩ f_x rfl rfl hl.1 rfl (Nat.le_of_ble_eq_true rfl) d_AD_size_2 ⟨by decide, by decide⟩) hM hS hA (fun r1 M9 H locs hr1 hM hS => ?_)
  rw [hr1.1] at hM
  replace hr1 := hr1.2
  rcases hr1 with ⟨j0, a, hj0, ek, e9r, hac0⟩ | ⟨hno0, e9r⟩
  · subst e9r
    subst ek
    have haca := hac0
    obtain ⟨oaa, foa, f_a, f_oaa, hn24a, hrsa⟩ := id haca
    refine lv_astore_n (lv' := [(2, .ref a), (0, .ref x), (1, .int (nI j0))]) hx hb d_AD_size_5 rfl hl (by decide) rfl (fun ls hl => ?_)
    refine lv_aload_n hx hb d_AD_size_6 rfl (lv_at hl 0 rfl) ?_
    refine lv_ifnonnull (tgt := 12) hx hb d_AD_size_7 (by decide) ?_
    refine lv_iconst (v := nI 0) hx hb d_AD_size_12 rfl ?_
    refine lv_istore_n (lv' := [(3, .int (nI 0)), (2, .ref a), (0, .ref x), (1, .int (nI j0))]) hx hb d_AD_size_13 rfl hl (by decide) rfl (fun ls hl => ?_)
    refine lv_iconst (v := nI 0) hx hb d_AD_size_14 rfl ?_
    refine lv_istore (lv' := [(4, .int (nI 0)), (3, .int (nI 0)), (2, .ref a), (0, .ref x), (1, .int (nI j0))]) hx hb d_AD_size_15 hl (by decide) rfl (fun ls hl => ?_)
    replace hl : lv_has ls 6 [(0, .ref x), (2, .ref a), (3, .int (nI 0)), (4, .int (nI 0))] := lv_sub hl [3, 2, 1, 0] rfl
    obtain ⟨j, e9j⟩ : ∃ z : Nat, z = 0 := ⟨_, rfl⟩
    obtain ⟨c9, e9c9⟩ : ∃ z : Nat, z = 0 := ⟨_, rfl⟩
    replace hl : lv_has ls 6 [(0, .ref x), (2, .ref a), (3, .int (nI c9)), (4, .int (nI j))] := by subst e9j e9c9; exact hl
    have hc : c9 = (stA (cR Al ((As.getD j0 []).take j))).length := by subst e9j e9c9; simp [cR, stA]
    obtain ⟨fu, hn⟩ : ∃ fu : Nat, j + fu = 24 := ⟨24 - j, by omega⟩
    clear e9j e9c9
    induction fu generalizing j c9 H locs ls with
    | zero =>
      have hn : j = 24 := by omega
      rw [hn, List.take_of_length_le hn24a] at hc
      subst hc
      refine lv_iload hx hb d_AD_size_17 (lv_at hl 3 rfl) ?_
      refine lv_bipush (v := nI 24) hx hb d_AD_size_19 rfl ?_
      refine nb_ge (tgt := 52) hx hb d_AD_size_21 (by decide) (by omega) (by omega) (fun h2 => ?_) (fun h2 => ?_)
      · refine lv_iload_n hx hb d_AD_size_52 rfl (lv_at hl 2 rfl) ?_
        exact hp_iret S hret hlk (rfl) hM hS (⟨rfl, Or.inl ⟨j0, hj0, rfl, rfl⟩⟩) d_AD_size_53
      · exact absurd hn (by omega)
    | succ fu ih =>
      refine lv_iload hx hb d_AD_size_17 (lv_at hl 3 rfl) ?_
      refine lv_bipush (v := nI 24) hx hb d_AD_size_19 rfl ?_
      refine nb_ge (tgt := 52) hx hb d_AD_size_21 (by decide) (by omega) (by omega) (fun h3 => ?_) (fun h3 => ?_)
      · exact absurd hn (by omega)
      · refine lv_aload_n hx hb d_AD_size_24 rfl (lv_at hl 0 rfl) ?_
        refine lv_aload_n hx hb d_AD_size_25 rfl (lv_at hl 1 rfl) ?_
        refine lv_iload hx hb d_AD_size_26 (lv_at hl 3 rfl) ?_
        refine hp_callq (go_V S hZ hK hM hS hA hz (c_AD_countingRowAt l D ct Z hZ _ _ fz x Al hal a (As.getD j0 []) haca j (by omega)) mc_AD_countingRowAt mz_AD ml_AD_144 mi_AD_countingRowAt mx_AD_countingRowAt hd_AD_countingRowAt rfl ⟨by decide, by decide⟩ f_x rfl rfl hl.1 rfl (Nat.le_of_ble_eq_true rfl) d_AD_size_28 ⟨by decide, by decide⟩) hM hS hA (fun r4 M9 H locs hr4 hM hS => ?_)
        rw [hr4.1] at hM
        replace hr4 := hr4.2
        rcases hr4 with ⟨hlt, hcn, q, e9r, hq⟩ | ⟨hno, e9r⟩
        · subst e9r
          refine lv_astore (lv' := [(5, .ref q), (0, .ref x), (2, .ref a), (3, .int (nI c9)), (4, .int (nI j))]) hx hb d_AD_size_31 hl (by decide) rfl (fun ls hl => ?_)
          refine lv_aload hx hb d_AD_size_33 (lv_at hl 0 rfl) ?_
          refine lv_ifnull hx hb d_AD_size_35 ?_
          refine lv_iload_n hx hb d_AD_size_38 rfl (lv_at hl 3 rfl) ?_
          refine lv_aload hx hb d_AD_size_39 (lv_at hl 0 rfl) ?_
          obtain ⟨kyq, baq, f_q, -⟩ := id hq
          have hsl := hq.len
          refine hp_calli (go_V S hZ hK hM hS hA hz (c_RW_stableLength l D ct Z hZ _ _ fz q ((As.getD j0 []).getD j rw0) hq) mc_RW_stableLength mz_RW ml_AD_154 mi_RW_stableLength mx_RW_stableLength hd_RW_stableLength rfl ⟨by decide, by decide⟩ f_q rfl rfl hl.1 rfl (Nat.le_of_ble_eq_true rfl) d_AD_size_41 ⟨by decide, by decide⟩) hM hS hA (fun r5 N6 H locs hr5 hM hS => ?_)
          rw [hr5.1] at hM
          replace hr5 := hr5.2
          subst hr5
          refine nb_iadd hx hb d_AD_size_44 ?_
          refine lv_istore_n (lv' := [(3, .int (nI (c9 + ((stT ((As.getD j0 []).getD j rw0)).length)))), (5, .ref q), (0, .ref x), (2, .ref a), (4, .int (nI j))]) hx hb d_AD_size_45 rfl hl (by decide) rfl (fun ls hl => ?_)
          refine lv_iinc (v := nI (j + 1)) (lv' := [(4, .int (nI (j + 1))), (3, .int (nI (c9 + ((stT ((As.getD j0 []).getD j rw0)).length)))), (5, .ref q), (0, .ref x), (2, .ref a)]) hx hb d_AD_size_46 hl (k := 4) rfl (nI_add j 1) (by decide) rfl (fun ls hl => ?_)
          refine lv_goto (tgt := 17) hx hb d_AD_size_49 (by decide) ?_
          exact ih (ls := ls) (hl := lv_sub hl [3, 4, 1, 0] rfl) (j := j + 1) (hn := by omega) (c9 := c9 + ((stT ((As.getD j0 []).getD j rw0)).length)) (hc := by rw [stA_s hlt hcn, hc]) (H := H) (locs := locs) (hM := hM) (hS := hS)
        · subst e9r
          refine lv_astoreN (lv' := [(5, .null), (0, .ref x), (2, .ref a), (3, .int (nI c9)), (4, .int (nI j))]) hx hb d_AD_size_31 hl (by decide) rfl (fun ls hl => ?_)
          refine lv_aloadN hx hb d_AD_size_33 (lv_at hl 0 rfl) ?_
          refine lv_ifnullN (tgt := 46) hx hb d_AD_size_35 (by decide) ?_
          refine lv_iinc (v := nI (j + 1)) (lv' := [(4, .int (nI (j + 1))), (5, .null), (0, .ref x), (2, .ref a), (3, .int (nI c9))]) hx hb d_AD_size_46 hl (k := 4) rfl (nI_add j 1) (by decide) rfl (fun ls hl => ?_)
          refine lv_goto (tgt := 17) hx hb d_AD_size_49 (by decide) ?_
          exact ih (ls := ls) (hl := lv_sub hl [2, 3, 4, 0] rfl) (j := j + 1) (hn := by omega) (c9 := c9) (hc := by rw [cR_0 hno]; exact hc) (H := H) (locs := locs) (hM := hM) (hS := hS)
  · subst e9r
    refine lv_astore_nN (lv' := [(2, .null), (0, .ref x), (1, .int k)]) hx hb d_AD_size_5 rfl hl (by decide) rfl (fun ls hl => ?_)
    refine lv_aload_nN hx hb d_AD_size_6 rfl (lv_at hl 0 rfl) ?_
    refine lv_ifnonnullN hx hb d_AD_size_7 ?_
    refine lv_iconst (v := -1) hx hb d_AD_size_10 (by decide) ?_
    exact hp_iret S hret hlk (rfl) hM hS (⟨rfl, Or.inr ⟨hno0, rfl⟩⟩) d_AD_size_11
set_option maxHeartbeats 4000000 in
set_option maxRecDepth 100000 in
/-- the KIND of the k-th row -/
theorem c_AD_kind (l : Launch) (D : va_G) (ct : Nat → ClassId) (Z : hp_Z) (hZ : hp_Zok Z) (M : hp_M) (sz : Nat) (fz : Nat → Prop) (x : Nat) (As : List (List RowT)) (Al : List (List Nat)) (hat : atP ct fz M x As) (hal : alP ct fz M x Al) (k m9 : Int32) : Mi l y_AD_kind b_AD_kind 5 (some .int) 6 128 0 0 [.ref x, .int k, .int m9] D ct Z M sz (fun r M1 => M1 = M ∧ onA As k r (fun rs r => onK (cR Al rs).length m9 r (fun j r => r = nI ((cR Al rs).getD j rw0).1) (-1)) (-1)) := by
  refine hp_start (by decide) (Nat.le_of_ble_eq_true rfl) (fun p e s m below meth c ls S hret hlk hnm hsz hK hM hS hA hz hl => ?_)
  have hx := S.1
  have hb := S.2.1
  have hl : lv_has ls 5 [(0, .ref x), (1, .int k), (2, .int m9)] := hl
  obtain ⟨xt, sh, ac, na, al, sc, hg, fl, f_x, f_al, ⟨hAl8, hAl0⟩, hAl⟩ := id hal
  refine lv_aload_n hx hb d_AD_kind_0 rfl (lv_at hl 0 rfl) ?_
  refine lv_iload_n hx hb d_AD_kind_1 rfl (lv_at hl 1 rfl) ?_
  refine hp_callq (go_V S hZ hK hM hS hA hz (c_AD_actionAt l D ct Z hZ _ _ fz x As hat k) mc_AD_actionAt mz_AD ml_AD_69 mi_AD_actionAt mx_AD_actionAt hd_AD_actionAt rfl ⟨by decide, by decide⟩ f_x rfl rfl hl.1 rfl (Nat.le_of_ble_eq_true rfl) d_AD_kind_2 ⟨by decide, by decide⟩) hM hS hA (fun r1 M9 H locs hr1 hM hS => ?_)
  rw [hr1.1] at hM
  replace hr1 := hr1.2
  rcases hr1 with ⟨j0, a, hj0, ek, e9r, hac0⟩ | ⟨hno0, e9r⟩
  · subst e9r
    subst ek
    have haca := hac0
    obtain ⟨oaa, foa, f_a, f_oaa, hn24a, hrsa⟩ := id haca
    refine lv_astore_n (lv' := [(3, .ref a), (0, .ref x), (1, .int (nI j0)), (2, .int m9)]) hx hb d_AD_kind_5 rfl hl (by decide) rfl (fun ls hl => ?_)
    refine lv_aload_n hx hb d_AD_kind_6 rfl (lv_at hl 0 rfl) ?_
    refine lv_ifnull hx hb d_AD_kind_7 ?_
    refine lv_iload_n hx hb d_AD_kind_10 rfl (lv_at hl 3 rfl) ?_
    refine lv_if_ge (tgt := 16) hx hb d_AD_kind_11 (by decide) (fun hge => ?_) (fun hge => ?_)
    · obtain ⟨k2, hk2, ek2⟩ : ∃ j : Nat, j < 2 ^ 31 ∧ m9 = nI j := nI_of (Int32.not_lt.mpr hge)
      subst ek2
      refine lv_aload_n hx hb d_AD_kind_16 rfl (lv_at hl 1 rfl) ?_
      refine lv_aload_n hx hb d_AD_kind_17 rfl (lv_at hl 0 rfl) ?_
      refine lv_iload_n hx hb d_AD_kind_18 rfl (lv_at hl 3 rfl) ?_
      refine hp_callq (go_V S hZ hK hM hS hA hz (c_AD_rowInOrder l D ct Z hZ _ _ fz x Al hal a (As.getD j0 []) haca k2 (by omega)) mc_AD_rowInOrder mz_AD ml_AD_148 mi_AD_rowInOrder mx_AD_rowInOrder hd_AD_rowInOrder rfl ⟨by decide, by decide⟩ f_x rfl rfl hl.1 rfl (Nat.le_of_ble_eq_true rfl) d_AD_kind_19 ⟨by decide, by decide⟩) hM hS hA (fun r2 M9 H locs hr2 hM hS => ?_)
      rw [hr2.1] at hM
      replace hr2 := hr2.2
      rcases hr2 with ⟨hlt, q, e9r, hq⟩ | ⟨hno, e9r⟩
      · subst e9r
        obtain ⟨kyq, baq, f_q, -⟩ := id hq
        refine lv_astore (lv' := [(4, .ref q), (3, .ref a), (0, .ref x), (1, .int (nI j0)), (2, .int (nI k2))]) hx hb d_AD_kind_22 hl (by decide) rfl (fun ls hl => ?_)
        refine lv_aload hx hb d_AD_kind_24 (lv_at hl 0 rfl) ?_
        refine lv_ifnonnull (tgt := 33) hx hb d_AD_kind_26 (by decide) ?_
        refine lv_aload hx hb d_AD_kind_33 (lv_at hl 0 rfl) ?_
        refine hp_get S hK hM i_RW f_q rfl 0 (by decide) mf_AD_151 (fun _ h9 => h9) rfl d_AD_kind_35 ?_
        exact hp_iret S hret hlk rfl hM hS ⟨rfl, Or.inl ⟨j0, hj0, rfl, Or.inl ⟨k2, hlt, rfl, rfl⟩⟩⟩ d_AD_kind_38
      · subst e9r
        refine lv_astoreN (lv' := [(4, .null), (3, .ref a), (0, .ref x), (1, .int (nI j0)), (2, .int (nI k2))]) hx hb d_AD_kind_22 hl (by decide) rfl (fun ls hl => ?_)
        refine lv_aloadN hx hb d_AD_kind_24 (lv_at hl 0 rfl) ?_
        refine lv_ifnonnullN hx hb d_AD_kind_26 ?_
        refine lv_iconst (v := -1) hx hb d_AD_kind_29 (by decide) ?_
        refine lv_goto (tgt := 38) hx hb d_AD_kind_30 (by decide) ?_
        exact hp_iret S hret hlk rfl hM hS ⟨rfl, Or.inl ⟨j0, hj0, rfl, Or.inr ⟨fun j hj e => by have e2 := (nI_eq hk2 (Nat.lt_of_lt_of_le hj (Nat.le_trans cR_len (Nat.le_trans hn24a (by decide))))).mp e; omega, rfl⟩⟩⟩ d_AD_kind_38
    · refine lv_iconst (v := -1) hx hb d_AD_kind_14 (by decide) ?_
      exact hp_iret S hret hlk rfl hM hS ⟨rfl, Or.inl ⟨j0, hj0, rfl, Or.inr ⟨fun j hj e => hge (by rw [e]; exact nI_pos' (Nat.lt_of_lt_of_le hj (Nat.le_trans cR_len (Nat.le_trans hn24a (by decide))))), rfl⟩⟩⟩ d_AD_kind_15
  · subst e9r
    refine lv_astore_nN (lv' := [(3, .null), (0, .ref x), (1, .int k), (2, .int m9)]) hx hb d_AD_kind_5 rfl hl (by decide) rfl (fun ls hl => ?_)
    refine lv_aload_nN hx hb d_AD_kind_6 rfl (lv_at hl 0 rfl) ?_
    refine lv_ifnullN (tgt := 14) hx hb d_AD_kind_7 (by decide) ?_
    refine lv_iconst (v := -1) hx hb d_AD_kind_14 (by decide) ?_
    exact hp_iret S hret hlk rfl hM hS ⟨rfl, Or.inr ⟨hno0, rfl⟩⟩ d_AD_kind_15
theorem stA_small {ct : Nat → ClassId} {fz : Nat → Prop} {M : hp_M} {f : Nat → Option Nat} {Al : List (List Nat)} {rs : List RowT} (h : rsOk ct fz M f rs) : ∀ j, (stA (cR Al (rs.take j))).length ≤ 108 * j := by
  intro j
  induction j with
  | zero => simp [cR, stA]
  | succ j ih =>
    by_cases h1 : j < rs.length ∧ cnts Al (rs.getD j rw0)
    · obtain ⟨q, -, hq⟩ := h j h1.1
      have := hq.len
      rw [stA_s h1.1 h1.2]
      omega
    · rw [cR_0 (by rcases Nat.lt_or_ge j rs.length with z | z; exact Or.inr (fun y => h1 ⟨z, y⟩); exact Or.inl z)]
      omega
set_option maxHeartbeats 4000000 in
set_option maxRecDepth 100000 in
/-- a character of the STABLE TEXT -/
theorem c_AD_character (l : Launch) (D : va_G) (ct : Nat → ClassId) (Z : hp_Z) (hZ : hp_Zok Z) (M : hp_M) (sz : Nat) (fz : Nat → Prop) (x : Nat) (As : List (List RowT)) (Al : List (List Nat)) (hat : atP ct fz M x As) (hal : alP ct fz M x Al) (k m9 : Int32) : Mi l y_AD_character b_AD_character 7 (some .int) 5 103 0 0 [.ref x, .int k, .int m9] D ct Z M sz (fun r M1 => M1 = M ∧ onA As k r (fun rs r => onK (stA (cR Al rs)).length m9 r (fun j r => r = nI ((stA (cR Al rs)).getD j 0)) (-1)) (-1)) := by
  refine hp_start (by decide) (Nat.le_of_ble_eq_true rfl) (fun p e s m below meth c ls S hret hlk hnm hsz hK hM hS hA hz hl => ?_)
  have hx := S.1
  have hb := S.2.1
  have hl : lv_has ls 7 [(0, .ref x), (1, .int k), (2, .int m9)] := hl
  obtain ⟨xt, sh, ac, na, al, sc, hg, fl, f_x, f_al, ⟨hAl8, hAl0⟩, hAl⟩ := id hal
  refine lv_aload_n hx hb d_AD_character_0 rfl (lv_at hl 0 rfl) ?_
  refine lv_iload_n hx hb d_AD_character_1 rfl (lv_at hl 1 rfl) ?_
  refine hp_callq (go_V S hZ hK hM hS hA hz (c_AD_actionAt l D ct Z hZ _ _ fz x As hat k) mc_AD_actionAt mz_AD ml_AD_69 mi_AD_actionAt mx_AD_actionAt hd_AD_actionAt rfl ⟨by decide, by decide⟩ f_x rfl rfl hl.1 rfl (Nat.le_of_ble_eq_true rfl) d_AD_character_2 ⟨by decide, by decide⟩) hM hS hA (fun r1 M9 H locs hr1 hM hS => ?_)
  rw [hr1.1] at hM
  replace hr1 := hr1.2
  rcases hr1 with ⟨j0, a, hj0, ek, e9r, hac0⟩ | ⟨hno0, e9r⟩
  · subst e9r
    subst ek
    have haca := hac0
    obtain ⟨oaa, foa, f_a, f_oaa, hn24a, hrsa⟩ := id haca
    refine lv_astore_n (lv' := [(3, .ref a), (0, .ref x), (1, .int (nI j0)), (2, .int m9)]) hx hb d_AD_character_5 rfl hl (by decide) rfl (fun ls hl => ?_)
    refine lv_aload_n hx hb d_AD_character_6 rfl (lv_at hl 0 rfl) ?_
    refine lv_ifnull hx hb d_AD_character_7 ?_
    refine lv_iload_n hx hb d_AD_character_10 rfl (lv_at hl 3 rfl) ?_
    refine lv_if_ge (tgt := 16) hx hb d_AD_character_11 (by decide) (fun hge => ?_) (fun hge => ?_)
    · obtain ⟨k2, hk2, ek2⟩ : ∃ j : Nat, j < 2 ^ 31 ∧ m9 = nI j := nI_of (Int32.not_lt.mpr hge)
      subst ek2
      have hsm : (stA (cR Al (As.getD j0 []))).length ≤ 2592 := by have h := stA_small (Al := Al) hrsa 24; rw [List.take_of_length_le hn24a] at h; exact h
      refine lv_iload_n hx hb d_AD_character_16 rfl (lv_at hl 3 rfl) ?_
      refine lv_istore (lv' := [(4, .int (nI k2)), (3, .ref a), (0, .ref x), (1, .int (nI j0)), (2, .int (nI k2))]) hx hb d_AD_character_17 hl (by decide) rfl (fun ls hl => ?_)
      refine lv_iconst (v := nI 0) hx hb d_AD_character_19 rfl ?_
      refine lv_istore (lv' := [(5, .int (nI 0)), (4, .int (nI k2)), (3, .ref a), (0, .ref x), (1, .int (nI j0)), (2, .int (nI k2))]) hx hb d_AD_character_20 hl (by decide) rfl (fun ls hl => ?_)
      replace hl : lv_has ls 7 [(0, .ref x), (2, .int (nI k2)), (3, .ref a), (4, .int (nI k2)), (5, .int (nI 0))] := lv_sub hl [3, 5, 2, 1, 0] rfl
      obtain ⟨j, e9j⟩ : ∃ z : Nat, z = 0 := ⟨_, rfl⟩
      obtain ⟨lf, e9lf⟩ : ∃ z : Nat, z = k2 := ⟨_, rfl⟩
      replace hl : lv_has ls 7 [(0, .ref x), (2, .int (nI k2)), (3, .ref a), (4, .int (nI lf)), (5, .int (nI j))] := by subst e9j e9lf; exact hl
      have hc : k2 = lf + (stA (cR Al ((As.getD j0 []).take j))).length := by subst e9j e9lf; simp [cR, stA]
      have hlf : lf < 2 ^ 31 := by subst e9j e9lf; exact hk2
      obtain ⟨fu, hn⟩ : ∃ fu : Nat, j + fu = 24 := ⟨24 - j, by omega⟩
      clear e9j e9lf
      induction fu generalizing j lf H locs ls with
      | zero =>
        have hn : j = 24 := by omega
        rw [hn, List.take_of_length_le hn24a] at hc
        refine lv_iload hx hb d_AD_character_22 (lv_at hl 4 rfl) ?_
        refine lv_bipush (v := nI 24) hx hb d_AD_character_24 rfl ?_
        refine nb_ge (tgt := 77) hx hb d_AD_character_26 (by decide) (by omega) (by omega) (fun h2 => ?_) (fun h2 => ?_)
        · refine lv_iconst (v := -1) hx hb d_AD_character_77 (by decide) ?_
          exact hp_iret S hret hlk (rfl) hM hS (⟨rfl, Or.inl ⟨j0, hj0, rfl, Or.inr ⟨fun j hj e => by have e2 := (nI_eq hk2 (by omega)).mp e; omega, rfl⟩⟩⟩) d_AD_character_78
        · exact absurd hn (by omega)
      | succ fu ih =>
        refine lv_iload hx hb d_AD_character_22 (lv_at hl 4 rfl) ?_
        refine lv_bipush (v := nI 24) hx hb d_AD_character_24 rfl ?_
        refine nb_ge (tgt := 77) hx hb d_AD_character_26 (by decide) (by omega) (by omega) (fun h3 => ?_) (fun h3 => ?_)
        · exact absurd hn (by omega)
        · refine lv_aload_n hx hb d_AD_character_29 rfl (lv_at hl 0 rfl) ?_
          refine lv_aload_n hx hb d_AD_character_30 rfl (lv_at hl 2 rfl) ?_
          refine lv_iload hx hb d_AD_character_31 (lv_at hl 4 rfl) ?_
          refine hp_callq (go_V S hZ hK hM hS hA hz (c_AD_countingRowAt l D ct Z hZ _ _ fz x Al hal a (As.getD j0 []) haca j (by omega)) mc_AD_countingRowAt mz_AD ml_AD_144 mi_AD_countingRowAt mx_AD_countingRowAt hd_AD_countingRowAt rfl ⟨by decide, by decide⟩ f_x rfl rfl hl.1 rfl (Nat.le_of_ble_eq_true rfl) d_AD_character_33 ⟨by decide, by decide⟩) hM hS hA (fun r4 M9 H locs hr4 hM hS => ?_)
          rw [hr4.1] at hM
          replace hr4 := hr4.2
          rcases hr4 with ⟨hlt, hcn, q, e9r, hq⟩ | ⟨hno, e9r⟩
          · subst e9r
            refine lv_astore (lv' := [(6, .ref q), (0, .ref x), (2, .int (nI k2)), (3, .ref a), (4, .int (nI lf)), (5, .int (nI j))]) hx hb d_AD_character_36 hl (by decide) rfl (fun ls hl => ?_)
            refine lv_aload hx hb d_AD_character_38 (lv_at hl 0 rfl) ?_
            refine lv_ifnull hx hb d_AD_character_40 ?_
            refine lv_iload hx hb d_AD_character_43 (lv_at hl 4 rfl) ?_
            refine lv_aload hx hb d_AD_character_45 (lv_at hl 0 rfl) ?_
            obtain ⟨kyq, baq, f_q, -⟩ := id hq
            have hsl := hq.len
            refine hp_calli (go_V S hZ hK hM hS hA hz (c_RW_stableLength l D ct Z hZ _ _ fz q ((As.getD j0 []).getD j rw0) hq) mc_RW_stableLength mz_RW ml_AD_154 mi_RW_stableLength mx_RW_stableLength hd_RW_stableLength rfl ⟨by decide, by decide⟩ f_q rfl rfl hl.1 rfl (Nat.le_of_ble_eq_true rfl) d_AD_character_47 ⟨by decide, by decide⟩) hM hS hA (fun r5 N6 H locs hr5 hM hS => ?_)
            rw [hr5.1] at hM
            replace hr5 := hr5.2
            subst hr5
            refine nb_ge (tgt := 61) hx hb d_AD_character_50 (by decide) (by omega) (by omega) (fun hin => ?_) (fun hin => ?_)
            · refine lv_iload hx hb d_AD_character_61 (lv_at hl 4 rfl) ?_
              refine lv_aload hx hb d_AD_character_63 (lv_at hl 0 rfl) ?_
              refine hp_calli (go_V S hZ hK hM hS hA hz (c_RW_stableLength l D ct Z hZ _ _ fz q ((As.getD j0 []).getD j rw0) hq) mc_RW_stableLength mz_RW ml_AD_154 mi_RW_stableLength mx_RW_stableLength hd_RW_stableLength rfl ⟨by decide, by decide⟩ f_q rfl rfl hl.1 rfl (Nat.le_of_ble_eq_true rfl) d_AD_character_65 ⟨by decide, by decide⟩) hM hS hA (fun r7 N8 H locs hr7 hM hS => ?_)
              rw [hr7.1] at hM
              replace hr7 := hr7.2
              subst hr7
              refine nb_isub hx hb d_AD_character_68 (by omega) ?_
              refine lv_istore (lv' := [(4, .int (nI (lf - ((stT ((As.getD j0 []).getD j rw0)).length)))), (6, .ref q), (0, .ref x), (2, .int (nI k2)), (3, .ref a), (5, .int (nI j))]) hx hb d_AD_character_69 hl (by decide) rfl (fun ls hl => ?_)
              refine lv_iinc (v := nI (j + 1)) (lv' := [(5, .int (nI (j + 1))), (4, .int (nI (lf - ((stT ((As.getD j0 []).getD j rw0)).length)))), (6, .ref q), (0, .ref x), (2, .int (nI k2)), (3, .ref a)]) hx hb d_AD_character_71 hl (k := 5) rfl (nI_add j 1) (by decide) rfl (fun ls hl => ?_)
              refine lv_goto (tgt := 22) hx hb d_AD_character_74 (by decide) ?_
              exact ih (ls := ls) (hl := lv_sub hl [3, 4, 5, 1, 0] rfl) (j := j + 1) (hn := by omega) (lf := lf - ((stT ((As.getD j0 []).getD j rw0)).length)) (hc := by rw [stA_s hlt hcn]; omega) (hlf := by omega) (H := H) (locs := locs) (hM := hM) (hS := hS)
            · refine lv_aload hx hb d_AD_character_53 (lv_at hl 0 rfl) ?_
              refine lv_iload hx hb d_AD_character_55 (lv_at hl 4 rfl) ?_
              refine hp_calli (go_V S hZ hK hM hS hA hz (c_RW_stableCharacter l D ct Z hZ _ _ fz q ((As.getD j0 []).getD j rw0) hq lf hin) mc_RW_stableCharacter mz_RW ml_AD_158 mi_RW_stableCharacter mx_RW_stableCharacter hd_RW_stableCharacter rfl ⟨by decide, by decide⟩ f_q rfl rfl hl.1 rfl (Nat.le_of_ble_eq_true rfl) d_AD_character_57 ⟨by decide, by decide⟩) hM hS hA (fun r9 N10 H locs hr9 hM hS => ?_)
              rw [hr9.1] at hM
              replace hr9 := hr9.2
              subst hr9
              exact hp_iret S hret hlk (rfl) hM hS (⟨rfl, Or.inl ⟨j0, hj0, rfl, Or.inl ⟨k2, (stA_at hlt hcn hc hin).1, rfl, congrArg nI (stA_at hlt hcn hc hin).2.symm⟩⟩⟩) d_AD_character_60
          · subst e9r
            refine lv_astoreN (lv' := [(6, .null), (0, .ref x), (2, .int (nI k2)), (3, .ref a), (4, .int (nI lf)), (5, .int (nI j))]) hx hb d_AD_character_36 hl (by decide) rfl (fun ls hl => ?_)
            refine lv_aloadN hx hb d_AD_character_38 (lv_at hl 0 rfl) ?_
            refine lv_ifnullN (tgt := 71) hx hb d_AD_character_40 (by decide) ?_
            refine lv_iinc (v := nI (j + 1)) (lv' := [(5, .int (nI (j + 1))), (6, .null), (0, .ref x), (2, .int (nI k2)), (3, .ref a), (4, .int (nI lf))]) hx hb d_AD_character_71 hl (k := 5) rfl (nI_add j 1) (by decide) rfl (fun ls hl => ?_)
            refine lv_goto (tgt := 22) hx hb d_AD_character_74 (by decide) ?_
            exact ih (ls := ls) (hl := lv_sub hl [2, 3, 4, 5, 0] rfl) (j := j + 1) (hn := by omega) (lf := lf) (hc := by rw [cR_0 hno]; exact hc) (hlf := hlf) (H := H) (locs := locs) (hM := hM) (hS := hS)
    · refine lv_iconst (v := -1) hx hb d_AD_character_14 (by decide) ?_
      exact hp_iret S hret hlk rfl hM hS ⟨rfl, Or.inl ⟨j0, hj0, rfl, Or.inr ⟨fun j hj e => hge (by rw [e]; exact nI_pos' (by have h := stA_small (Al := Al) hrsa 24; rw [List.take_of_length_le hn24a] at h; omega)), rfl⟩⟩⟩ d_AD_character_15
  · subst e9r
    refine lv_astore_nN (lv' := [(3, .null), (0, .ref x), (1, .int k), (2, .int m9)]) hx hb d_AD_character_5 rfl hl (by decide) rfl (fun ls hl => ?_)
    refine lv_aload_nN hx hb d_AD_character_6 rfl (lv_at hl 0 rfl) ?_
    refine lv_ifnullN (tgt := 14) hx hb d_AD_character_7 (by decide) ?_
    refine lv_iconst (v := -1) hx hb d_AD_character_14 (by decide) ?_
    exact hp_iret S hret hlk rfl hM hS ⟨rfl, Or.inr ⟨hno0, rfl⟩⟩ d_AD_character_15
