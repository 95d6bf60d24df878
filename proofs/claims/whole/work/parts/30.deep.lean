/-- where a row goes, and the rows with it -/
def insAt (rs : List RowT) (u : Nat) (R : RowT) : Prop := u ≤ rs.length ∧ (∀ i, u ≤ i → i < rs.length → behind (rs.getD i rw0) R) ∧ (u = 0 ∨ ¬ behind (rs.getD (u - 1) rw0) R)
def insL (rs : List RowT) (u : Nat) (R : RowT) : List RowT := rs.take u ++ R :: rs.drop u
theorem insL_len {rs : List RowT} {u : Nat} {R : RowT} (h : u ≤ rs.length) : (insL rs u R).length = rs.length + 1 := by
  unfold insL
  rw [List.length_append, List.length_cons, List.length_take, List.length_drop]
  omega
theorem insL_at {rs : List RowT} {u : Nat} {R : RowT} (h : u ≤ rs.length) (i : Nat) : (insL rs u R).getD i rw0 = if i < u then rs.getD i rw0 else if i = u then R else rs.getD (i - 1) rw0 := by
  unfold insL
  have h1 : (rs.take u).length = u := by rw [List.length_take]; omega
  rw [List.getD_eq_getElem?_getD]
  by_cases c1 : i < u
  · rw [if_pos c1, List.getElem?_append_left (by omega), List.getElem?_take, if_pos c1, List.getD_eq_getElem?_getD]
  · rw [if_neg c1, List.getElem?_append_right (by omega), h1]
    by_cases c2 : i = u
    · rw [if_pos c2, c2, Nat.sub_self]; rfl
    · rw [if_neg c2, show i - u = (i - u - 1) + 1 by omega, List.getElem?_cons_succ, List.getElem?_drop, List.getD_eq_getElem?_getD, show u + (i - u - 1) = i - 1 by omega]
theorem rsOk.ins {ct : Nat → ClassId} {fz : Nat → Prop} {M : hp_M} {f f1 : Nat → Option Nat} {rs : List RowT} (h : rsOk ct fz M f rs) {u b : Nat} {R : RowT} (hu : u ≤ rs.length) (h1 : ∀ i, i < u → f1 i = f i) (h2 : f1 u = some b) (h3 : ∀ i, u < i → i ≤ rs.length → f1 i = f (i - 1)) (hb : rwOk ct fz M b R) : rsOk ct fz M f1 (insL rs u R) := fun i hi => by
  rw [insL_len hu] at hi
  rw [insL_at hu]
  by_cases c1 : i < u
  · rw [if_pos c1, h1 i c1]; exact h i (by omega)
  · rw [if_neg c1]
    by_cases c2 : i = u
    · rw [if_pos c2, c2, h2]; exact ⟨b, rfl, hb⟩
    · rw [if_neg c2, h3 i (by omega) (by omega)]; exact h (i - 1) (by omega)
theorem rsOk.set {ct : Nat → ClassId} {fz : Nat → Prop} {M : hp_M} {f : Nat → Option Nat} {rs : List RowT} (h : rsOk ct fz M f rs) {u b : Nat} {R : RowT} (hu : u < rs.length) (hb : rwOk ct fz M b R) : rsOk ct fz M (va_up f u (some b)) (rs.set u R) := fun i hi => by
  rw [List.length_set] at hi
  rw [getD_set hu]
  by_cases c : i = u
  · rw [if_pos c, c, up_s]; exact ⟨b, rfl, hb⟩
  · rw [if_neg c, up_n c]; exact h i hi
theorem kyOk.e {ct : Nat → ClassId} {fz : Nat → Prop} {M : hp_M} {a q n : Nat} {T : List Nat} (ha : M a = some (.inr (5, [.ref q, .int (nI n)]))) (hq : M q = some (.inl (ct 0, T.length, .inl (tx T)))) (hn : n ≤ T.length) (hT : T.length ≤ 64) (hc : ∀ i, T.getD i 0 < 65536) (hf : fz q) : kyOk ct fz M a (T.take n) := by
  have hl : (T.take n).length = n := by rw [List.length_take]; omega
  refine ⟨q, T, ?_, hq, ?_, ?_, hT, hc, hf⟩
  · rw [hl]; exact ha
  · rw [hl]
  · rw [hl]; exact hn
theorem acsW_kq {ct : Nat → ClassId} {fz : Nat → Prop} {M M1 : hp_M} {ac : Nat} {As : List (List RowT)} {fa : Nat → Option Nat} {ao oo : Nat → Nat} {rf : Nat → Nat → Option Nat} (h : acsW ct fz M ac As fa ao oo rf) (k : kq ct fz M M1) : acsW ct fz M1 ac As fa ao oo rf := by
  obtain ⟨h1, h2, h3, h4⟩ := h
  exact ⟨k.2.2 _ _ _ _ h1, h2, fun i hi => by obtain ⟨a1, a2, a3, a4, a5⟩ := h3 i hi; exact ⟨a1, k.2.1 _ _ a2, k.2.2 _ _ _ _ a3, a4, a5.st k.1⟩, h4⟩
theorem edL_len {n : Nat} : (edL n).length = 8 := by unfold edL; rw [List.length_map, List.length_range]
theorem edL_lt {n : Nat} (i : Nat) : (edL n).getD i 0 < 65536 := by
  rcases Nat.lt_or_ge i 8 with h | h
  · rw [edL_at h]; have := Nat.mod_lt (n / 10 ^ (7 - i)) (show 0 < 10 by decide); omega
  · rw [List.getD_eq_getElem?_getD, List.getElem?_eq_none (by rw [edL_len]; exact h)]; decide
set_option maxHeartbeats 4000000 in
set_option maxRecDepth 100000 in
/-- edition(a, n) -/
theorem c_AD_edition (l : Launch) (D : va_G) (ct : Nat → ClassId) (Z : hp_Z) (hZ : hp_Zok Z) (M : hp_M) (sz : Nat) (hlt : l.stackTraces = false) (hzx : zX Z) (x xt ch sh su wo ac al sc hg : Nat) (T : List Nat) (Y : ShT) (As : List (List RowT)) (Al : List (List Nat)) (sa hd : List Nat) (hw : adW ct M x xt ch sh su wo ac al sc hg T Y As Al sa hd) (k n : Int32) : Xv l y_AD_edition b_AD_edition 6 none 6 82 4 19 [.ref x, .int k, .int n] D ct Z M sz (fun M1 => ∃ j n1, j < As.length ∧ k = nI j ∧ n = nI n1 ∧ n1 ≤ 99999999 ∧ ((∃ i, i < (As.getD j []).length ∧ (∀ q, q < i → ((As.getD j []).getD q rw0).1 ≠ 7) ∧ ((As.getD j []).getD i rw0).1 = 7 ∧ adW ct M1 x xt ch sh su wo ac al sc hg T Y (As.set j ((As.getD j []).set i ((7, [], edL n1) : RowT))) Al sa hd) ∨ ((∀ i, i < (As.getD j []).length → ((As.getD j []).getD i rw0).1 ≠ 7) ∧ (As.getD j []).length < 24 ∧ ∃ u, insAt (As.getD j []) u ((7, [], edL n1) : RowT) ∧ adW ct M1 x xt ch sh su wo ac al sc hg T Y (As.set j (insL (As.getD j []) u ((7, [], edL n1) : RowT))) Al sa hd))) (fun E M1 => ((E = "java/lang/IllegalArgumentException" ∧ ((∀ j, j < As.length → k ≠ nI j) ∨ ((∃ j, j < As.length ∧ k = nI j) ∧ ∀ n1, n1 ≤ 99999999 → n ≠ nI n1))) ∨ (E = "java/lang/IllegalStateException" ∧ ∃ j n1, j < As.length ∧ k = nI j ∧ n = nI n1 ∧ n1 ≤ 99999999 ∧ (∀ i, i < (As.getD j []).length → ((As.getD j []).getD i rw0).1 ≠ 7) ∧ 24 ≤ (As.getD j []).length)) ∧ adW ct M1 x xt ch sh su wo ac al sc hg T Y As Al sa hd) := by
  refine hp_startX (by decide) (Nat.le_of_ble_eq_true rfl) (fun p e s m below meth c ls S hret hlk hnm hsz hK hM hS hA hz hl hnx => ?_)
  have hx := S.1
  have hb := S.2.1
  have hl : lv_has ls 6 [(0, .ref x), (1, .int k), (2, .int n)] := hl
  obtain ⟨f_x, ⟨g0, f_xt, f_ch, hg0, hgb, hT⟩, hsh, hacs, hals, ⟨f_sc, hsal, hc_sa, hfsc⟩, ⟨f_hg, hdl, hc_hd⟩, hchg⟩ := id hw
  obtain ⟨fa, ao, oo, rf, f_ac, hAs, hW3, hW4⟩ := id hacs
  have f_ac0 := f_ac
  refine lv_aload_n hx hb d_AD_edition_0 rfl (lv_at hl 0 rfl) ?_
  refine lv_iload_n hx hb d_AD_edition_1 rfl (lv_at hl 1 rfl) ?_
  refine hp_callq (go_V S hZ hK hM hS hA hz (c_AD_actionAt2 l D ct Z hZ _ _ x xt sh ac As.length al Al.length sc hg fa ao f_x f_ac hAs (fun i hi => (hW3 i hi).1) k) mc_AD_actionAt mz_AD ml_AD_69 mi_AD_actionAt mx_AD_actionAt hd_AD_actionAt rfl ⟨by decide, by decide⟩ f_x rfl rfl hl.1 rfl (Nat.le_of_ble_eq_true rfl) d_AD_edition_2 ⟨by decide, by decide⟩) hM hS hA (fun r9 M9 H locs h9 hM hS => ?_)
  rw [h9.1] at hM
  replace h9 := h9.2
  rcases h9 with ⟨j0, hj0, ek, e9r⟩ | ⟨hno, e9r⟩
  · subst ek
    obtain ⟨c1, f_a, f_oa, hn24, hrs⟩ := hW3 j0 hj0
    obtain ⟨a, e9a⟩ : ∃ z, z = ao j0 := ⟨_, rfl⟩
    obtain ⟨oa, e9oa⟩ : ∃ z, z = oo j0 := ⟨_, rfl⟩
    rw [← e9a, ← e9oa] at f_a
    rw [← e9oa] at f_oa
    rw [← e9a] at e9r
    subst e9r
    refine lv_astore_n (lv' := [(3, .ref a), (0, .ref x), (1, .int (nI j0)), (2, .int n)]) hx hb d_AD_edition_5 rfl hl (by decide) rfl (fun ls hl => ?_)
    refine lv_aload_n hx hb d_AD_edition_6 rfl (lv_at hl 0 rfl) ?_
    refine lv_ifnonnull (tgt := 20) hx hb d_AD_edition_7 (by decide) ?_
    refine lv_iload_n hx hb d_AD_edition_20 rfl (lv_at hl 3 rfl) ?_
    refine lv_if_lt (tgt := 30) hx hb d_AD_edition_21 (by decide) (fun hlo => ?_) (fun hlo => ?_)
    · exact hp_throwIA (is := 119) (text := "there is no such number") S hlt hzx hz hM hS hl.1 hlk hnx (by decide) d_AD_edition_30 d_AD_edition_33 d_AD_edition_34 d_AD_edition_36 d_AD_edition_39 ⟨by decide, by decide⟩ ⟨by decide, by decide⟩ (by decide) (by decide) (⟨Or.inl ⟨rfl, Or.inr ⟨⟨j0, hj0, rfl⟩, fun n1 hn1 e => by subst e; first | exact nI_pos (by omega) hlo | exact hhi (by rw [show (99999999 : Int32) = nI 99999999 from rfl]; exact (nI_leI (by omega) (by decide)).mpr hn1)⟩⟩, hw⟩)
    · refine lv_iload_n hx hb d_AD_edition_24 rfl (lv_at hl 3 rfl) ?_
      refine lv_ldc hx hb S.2.2.2.1 (S.2.2.2.2 _ mq_AD_118) d_AD_edition_25 ?_
      refine lv_icmp_le (tgt := 40) hx hb d_AD_edition_27 (by decide) (fun hhi => ?_) (fun hhi => ?_)
      · obtain ⟨n1, hn31, en⟩ := nI_of hlo
        subst en
        have hn8 : n1 ≤ 99999999 := by rw [show (99999999 : Int32) = nI 99999999 from rfl] at hhi; exact (nI_leI hn31 (by decide)).mp hhi
        refine lv_iload_n hx hb d_AD_edition_40 rfl (lv_at hl 3 rfl) ?_
        refine hp_callq (go_S S hZ hK hM hS hA hz (c_AD_editionDigits l D ct Z hZ _ _ n1 hn8) mc_AD_editionDigits mz_AD ml_AD_121 ms_AD_editionDigits hd_AD_editionDigits rfl ⟨by decide, by decide⟩ hl.1 rfl (Nat.le_of_ble_eq_true rfl) d_AD_edition_41 ⟨by decide, by decide⟩) hM hS hA (fun r9 M9 H locs h9 hM hS => ?_)
        obtain ⟨q, rfl, hq_q, e9⟩ := h9
        rw [e9] at hM
        have ne_x_q : x ≠ q := hp_nn f_x hq_q
        have f_x := hp_k (e := (.inl (ct 0, (edL n1).length, .inl (tx (edL n1))))) ne_x_q f_x
        have ne_xt_q : xt ≠ q := hp_nn f_xt hq_q
        have f_xt := hp_k (e := (.inl (ct 0, (edL n1).length, .inl (tx (edL n1))))) ne_xt_q f_xt
        have ne_ac_q : ac ≠ q := hp_nn f_ac hq_q
        have f_ac := hp_k (e := (.inl (ct 0, (edL n1).length, .inl (tx (edL n1))))) ne_ac_q f_ac
        have ne_a_q : a ≠ q := hp_nn f_a hq_q
        have f_a := hp_k (e := (.inl (ct 0, (edL n1).length, .inl (tx (edL n1))))) ne_a_q f_a
        have ne_oa_q : oa ≠ q := hp_nn f_oa hq_q
        have f_oa := hp_k (e := (.inl (ct 0, (edL n1).length, .inl (tx (edL n1))))) ne_oa_q f_oa
        have f_q : hp_up M q (.inl (ct 0, (edL n1).length, .inl (tx (edL n1)))) q = some (.inl (ct 0, (edL n1).length, .inl (tx (edL n1)))) := hp_us
        obtain ⟨M1, eM1⟩ : ∃ z, z = hp_up M q (.inl (ct 0, (edL n1).length, .inl (tx (edL n1)))) := ⟨_, rfl⟩
        rw [← eM1] at hM f_x f_xt f_ac f_a f_oa f_q
        refine lv_astore (lv' := [(4, .ref q), (3, .ref a), (0, .ref x), (1, .int (nI j0)), (2, .int (nI n1))]) hx hb d_AD_edition_44 hl (by decide) rfl (fun ls hl => ?_)
        refine hp_new (ci := 4) (fs := [.int (nI 0), .null, .null]) S hK hM hS hA i_RW t_RW to_RW mk_AD_105 mt_RW mz_RW rfl (fun j hj => by rcases (show j = 0 ∨ j = 1 ∨ j = 2 by omega) with rfl | rfl | rfl <;> rfl) (by decide) (by decide) d_AD_edition_46 (fun ro H hq_ro hM hS => ?_)
        refine W.widen (k := 2) (n := 11) (by omega) (by omega) ?_
        have ne_x_ro : x ≠ ro := hp_nn f_x hq_ro
        have f_x := hp_k (e := (.inr (4, [.int (nI 0), .null, .null]))) ne_x_ro f_x
        have ne_xt_ro : xt ≠ ro := hp_nn f_xt hq_ro
        have f_xt := hp_k (e := (.inr (4, [.int (nI 0), .null, .null]))) ne_xt_ro f_xt
        have ne_ac_ro : ac ≠ ro := hp_nn f_ac hq_ro
        have f_ac := hp_k (e := (.inr (4, [.int (nI 0), .null, .null]))) ne_ac_ro f_ac
        have ne_a_ro : a ≠ ro := hp_nn f_a hq_ro
        have f_a := hp_k (e := (.inr (4, [.int (nI 0), .null, .null]))) ne_a_ro f_a
        have ne_oa_ro : oa ≠ ro := hp_nn f_oa hq_ro
        have f_oa := hp_k (e := (.inr (4, [.int (nI 0), .null, .null]))) ne_oa_ro f_oa
        have ne_q_ro : q ≠ ro := hp_nn f_q hq_ro
        have f_q := hp_k (e := (.inr (4, [.int (nI 0), .null, .null]))) ne_q_ro f_q
        have f_ro : hp_up M1 ro (.inr (4, [.int (nI 0), .null, .null])) ro = some (.inr (4, [.int (nI 0), .null, .null])) := hp_us
        obtain ⟨M2, eM2⟩ : ∃ z, z = hp_up M1 ro (.inr (4, [.int (nI 0), .null, .null])) := ⟨_, rfl⟩
        rw [← eM2] at hM f_x f_xt f_ac f_a f_oa f_q f_ro
        refine lv_dup hx hb d_AD_edition_49 rfl ?_
        refine lv_bipush (v := nI 7) hx hb d_AD_edition_50 rfl ?_
        refine hp_new (ci := 5) (fs := [.null, .int (nI 0)]) S hK hM hS hA i_KY t_KY to_KY mk_AD_33 mt_KY mz_KY rfl (fun j hj => by rcases (show j = 0 ∨ j = 1 by omega) with rfl | rfl <;> rfl) (by decide) (by decide) d_AD_edition_52 (fun ky H hq_ky hM hS => ?_)
        refine W.widen (k := 3) (n := 13) (by omega) (by omega) ?_
        have ne_x_ky : x ≠ ky := hp_nn f_x hq_ky
        have f_x := hp_k (e := (.inr (5, [.null, .int (nI 0)]))) ne_x_ky f_x
        have ne_xt_ky : xt ≠ ky := hp_nn f_xt hq_ky
        have f_xt := hp_k (e := (.inr (5, [.null, .int (nI 0)]))) ne_xt_ky f_xt
        have ne_ac_ky : ac ≠ ky := hp_nn f_ac hq_ky
        have f_ac := hp_k (e := (.inr (5, [.null, .int (nI 0)]))) ne_ac_ky f_ac
        have ne_a_ky : a ≠ ky := hp_nn f_a hq_ky
        have f_a := hp_k (e := (.inr (5, [.null, .int (nI 0)]))) ne_a_ky f_a
        have ne_oa_ky : oa ≠ ky := hp_nn f_oa hq_ky
        have f_oa := hp_k (e := (.inr (5, [.null, .int (nI 0)]))) ne_oa_ky f_oa
        have ne_q_ky : q ≠ ky := hp_nn f_q hq_ky
        have f_q := hp_k (e := (.inr (5, [.null, .int (nI 0)]))) ne_q_ky f_q
        have ne_ro_ky : ro ≠ ky := hp_nn f_ro hq_ky
        have f_ro := hp_k (e := (.inr (5, [.null, .int (nI 0)]))) ne_ro_ky f_ro
        have f_ky : hp_up M2 ky (.inr (5, [.null, .int (nI 0)])) ky = some (.inr (5, [.null, .int (nI 0)])) := hp_us
        obtain ⟨M3, eM3⟩ : ∃ z, z = hp_up M2 ky (.inr (5, [.null, .int (nI 0)])) := ⟨_, rfl⟩
        rw [← eM3] at hM f_x f_xt f_ac f_a f_oa f_q f_ro f_ky
        refine lv_dup hx hb d_AD_edition_55 rfl ?_
        refine lv_aload hx hb d_AD_edition_56 (lv_at hl 0 rfl) ?_
        refine lv_iconst (v := nI 0) hx hb d_AD_edition_58 rfl ?_
        refine hp_callv (go_I S hZ hK hM hS hA hz (c_KY_init l D ct Z hZ _ _ ky q 0 (Nat.zero_le _) (by rw [edL_len]; decide) f_ky f_q) mc_KY_init mz_KY ml_AD_90 mi_KY_init rfl hd_KY_init rfl ⟨by decide, by decide⟩ hl.1 rfl (Nat.le_of_ble_eq_true rfl) d_AD_edition_59 ⟨by decide, by decide⟩) hM hS hA (fun M9 H locs h9 hM hS => ?_)
        rw [h9] at hM
        have f_x := hp_k (e := (.inr (5, [.ref q, .int (nI 0)]))) ne_x_ky f_x
        have f_xt := hp_k (e := (.inr (5, [.ref q, .int (nI 0)]))) ne_xt_ky f_xt
        have f_ac := hp_k (e := (.inr (5, [.ref q, .int (nI 0)]))) ne_ac_ky f_ac
        have f_a := hp_k (e := (.inr (5, [.ref q, .int (nI 0)]))) ne_a_ky f_a
        have f_oa := hp_k (e := (.inr (5, [.ref q, .int (nI 0)]))) ne_oa_ky f_oa
        have f_q := hp_k (e := (.inr (5, [.ref q, .int (nI 0)]))) ne_q_ky f_q
        have f_ro := hp_k (e := (.inr (5, [.ref q, .int (nI 0)]))) ne_ro_ky f_ro
        have f_ky : hp_up M3 ky (.inr (5, [.ref q, .int (nI 0)])) ky = some (.inr (5, [.ref q, .int (nI 0)])) := hp_us
        obtain ⟨M4, eM4⟩ : ∃ z, z = hp_up M3 ky (.inr (5, [.ref q, .int (nI 0)])) := ⟨_, rfl⟩
        rw [← eM4] at hM f_x f_xt f_ac f_a f_oa f_q f_ro f_ky
        refine lv_aload hx hb d_AD_edition_62 (lv_at hl 0 rfl) ?_
        refine hp_callv (go_I S hZ hK hM hS hA hz (c_RW_init l D ct Z hZ _ _ ro 7 ky q f_ro) mc_RW_init mz_RW ml_AD_111 mi_RW_init rfl hd_RW_init rfl ⟨by decide, by decide⟩ hl.1 rfl (Nat.le_of_ble_eq_true rfl) d_AD_edition_64 ⟨by decide, by decide⟩) hM hS hA (fun M9 H locs h9 hM hS => ?_)
        rw [h9] at hM
        have f_x := hp_k (e := (.inr (4, [.int (nI 7), .ref ky, .ref q]))) ne_x_ro f_x
        have f_xt := hp_k (e := (.inr (4, [.int (nI 7), .ref ky, .ref q]))) ne_xt_ro f_xt
        have f_ac := hp_k (e := (.inr (4, [.int (nI 7), .ref ky, .ref q]))) ne_ac_ro f_ac
        have f_a := hp_k (e := (.inr (4, [.int (nI 7), .ref ky, .ref q]))) ne_a_ro f_a
        have f_oa := hp_k (e := (.inr (4, [.int (nI 7), .ref ky, .ref q]))) ne_oa_ro f_oa
        have f_q := hp_k (e := (.inr (4, [.int (nI 7), .ref ky, .ref q]))) ne_q_ro f_q
        have f_ky := hp_k (e := (.inr (4, [.int (nI 7), .ref ky, .ref q]))) (Ne.symm ne_ro_ky) f_ky
        have f_ro : hp_up M4 ro (.inr (4, [.int (nI 7), .ref ky, .ref q])) ro = some (.inr (4, [.int (nI 7), .ref ky, .ref q])) := hp_us
        obtain ⟨M5, eM5⟩ : ∃ z, z = hp_up M4 ro (.inr (4, [.int (nI 7), .ref ky, .ref q])) := ⟨_, rfl⟩
        rw [← eM5] at hM f_x f_xt f_ac f_a f_oa f_q f_ro f_ky
        have eW : M5 = hp_up (hp_up (hp_up M q (.inl (ct 0, (edL n1).length, .inl (tx (edL n1))))) ro (.inr (4, [.int (nI 7), .ref ky, .ref q]))) ky (.inr (5, [.ref q, .int (nI 0)])) := by rw [eM5, eM4, eM3, hp_uu, hp_uc (Ne.symm ne_ro_ky), eM2, hp_uu, eM1]
        rw [eM1] at hq_ro
        have hk0 : hp_up M q (.inl (ct 0, (edL n1).length, .inl (tx (edL n1)))) ky = none := by rw [eM2, hp_un (Ne.symm ne_ro_ky), eM1] at hq_ky; exact hq_ky
        have hk1 : hp_up (hp_up M q (.inl (ct 0, (edL n1).length, .inl (tx (edL n1))))) ro (.inr (4, [.int (nI 7), .ref ky, .ref q])) ky = none := by rw [hp_un (Ne.symm ne_ro_ky)]; exact hk0
        have hw2 := hw.new (E := (.inl (ct 0, (edL n1).length, .inl (tx (edL n1))))) hq_q
        have hfq := hw2.2
        have hw4 := ((hw2.1.new (E := (.inr (4, [.int (nI 7), .ref ky, .ref q]))) hq_ro).1.new (E := (.inr (5, [.ref q, .int (nI 0)]))) hk1).1
        have kk : kq ct (fzc ch hg) M M5 := by rw [eW]; exact ((kq_n hq_q).tr (kq_n hq_ro)).tr (kq_n hk1)
        rw [← eW] at hw4
        have hWn := acsW_kq ⟨f_ac0, hAs, hW3, hW4⟩ kk
        have hrs4 := hrs.st kk.1
        have hro : rwOk ct (fzc ch hg) M5 ro (7, [], edL n1) := ⟨ky, q, f_ro, kyOk.e (n := 0) f_ky f_q (Nat.zero_le _) (by rw [edL_len]; decide) edL_lt hfq, f_q, by show (edL n1).length ≤ 105; rw [edL_len]; decide, edL_lt, hfq, Nat.le_refl 7⟩
        refine lv_astore (lv' := [(5, .ref ro), (4, .ref q), (3, .ref a), (0, .ref x), (1, .int (nI j0)), (2, .int (nI n1))]) hx hb d_AD_edition_67 hl (by decide) rfl (fun ls hl => ?_)
        refine lv_aload_n hx hb d_AD_edition_69 rfl (lv_at hl 2 rfl) ?_
        refine lv_aload hx hb d_AD_edition_70 (lv_at hl 0 rfl) ?_
        refine hp_calli (go_V S hZ hK hM hS hA hz (c_AC_replaceEdition l D ct Z hZ _ _ (fzc ch hg) a oa (rf j0) (As.getD j0 []) hn24 f_a f_oa hrs4 ro _ hro) mc_AC_replaceEdition mz_AC ml_AD_125 mi_AC_replaceEdition mx_AC_replaceEdition hd_AC_replaceEdition rfl ⟨by decide, by decide⟩ f_a rfl rfl hl.1 rfl (Nat.le_of_ble_eq_true rfl) d_AD_edition_72 ⟨by decide, by decide⟩) hM hS hA (fun r9 M9 H locs h9 hM hS => ?_)
        rcases h9 with ⟨i7, hi7, hb7, h7, rfl, e9⟩ | ⟨hno7, rfl, e9⟩
        · rw [e9] at hM
          refine nz_eq (tgt := 79) hx hb d_AD_edition_75 (by decide) (by omega) (fun h6 => ?_) (fun h6 => ?_)
          · exact absurd h6 (by decide)
          · have hw5 := hw4.rows hWn hj0 (hrs4.set hi7 hro) (by rw [List.length_set]; exact hn24)
            rw [← e9a, ← e9oa, List.length_set, hp_same (hp_k (hp_ne f_a f_oa (by simp)) f_a)] at hw5
            refine vx_ret ?_
            refine W.widen (k := 4) (n := 19) (by decide) (by decide) ?_
            exact hp_vret S hret hlk hM hS (⟨j0, n1, hj0, rfl, rfl, hn8, Or.inl ⟨i7, hi7, hb7, h7, hw5⟩⟩) d_AD_edition_78
        · rw [e9] at hM
          refine nz_eq (tgt := 79) hx hb d_AD_edition_75 (by decide) (by omega) (fun h7 => ?_) (fun h7 => ?_)
          · refine lv_aload_n hx hb d_AD_edition_79 rfl (lv_at hl 2 rfl) ?_
            refine hp_calli (go_V S hZ hK hM hS hA hz (c_AC_isFull l D ct Z hZ _ _ a oa _ hn24 f_a) mc_AC_isFull mz_AC ml_AD_99 mi_AC_isFull mx_AC_isFull hd_AC_isFull rfl ⟨by decide, by decide⟩ f_a rfl rfl hl.1 rfl (Nat.le_of_ble_eq_true rfl) d_AD_edition_80 ⟨by decide, by decide⟩) hM hS hA (fun r8 N9 H locs hr8 hM hS => ?_)
            rw [hr8.1] at hM
            replace hr8 := hr8.2
            refine nt_eq (tgt := 96) hx hb d_AD_edition_83 (by decide) hr8 (fun hfl => ?_) (fun hfl => ?_)
            · refine lv_aload_n hx hb d_AD_edition_96 rfl (lv_at hl 2 rfl) ?_
              refine lv_aload hx hb d_AD_edition_97 (lv_at hl 0 rfl) ?_
              refine hp_callv (go_V S hZ hK hM hS hA hz (c_AC_insert l D ct Z hZ _ _ (fzc ch hg) a oa (rf j0) (As.getD j0 []) (Nat.lt_of_not_le hfl) f_a f_oa hrs4 ro _ hro) mc_AC_insert mz_AC ml_AD_114 mi_AC_insert mx_AC_insert hd_AC_insert rfl ⟨by decide, by decide⟩ f_a rfl rfl hl.1 rfl (Nat.le_of_ble_eq_true rfl) d_AD_edition_99 ⟨by decide, by decide⟩) hM hS hA (fun M9 H locs h9 hM hS => ?_)
              obtain ⟨u, f1, hu, hu1, hu2, g1, g2, g3, e9⟩ := h9
              rw [e9] at hM
              have hw5 := hw4.rows hWn hj0 (hrs4.ins hu g1 g2 g3 hro) (by rw [insL_len hu]; omega)
              rw [← e9a, ← e9oa, insL_len hu] at hw5
              refine vx_ret ?_
              refine W.widen (k := 4) (n := 19) (by decide) (by decide) ?_
              exact hp_vret S hret hlk hM hS (⟨j0, n1, hj0, rfl, rfl, hn8, Or.inr ⟨hno7, Nat.lt_of_not_le hfl, u, ⟨hu, hu1, hu2⟩, hw5⟩⟩) d_AD_edition_102
            · exact hp_throwIS (is := 103) (text := "there are 24 rows") S hlt hzx hz hM hS hl.1 hlk hnx (by decide) d_AD_edition_86 d_AD_edition_89 d_AD_edition_90 d_AD_edition_92 d_AD_edition_95 ⟨by decide, by decide⟩ ⟨by decide, by decide⟩ (by decide) (by decide) (⟨Or.inr ⟨rfl, j0, n1, hj0, rfl, rfl, hn8, hno7, hfl⟩, hw4⟩)
          · exact absurd rfl h7
      · exact hp_throwIA (is := 119) (text := "there is no such number") S hlt hzx hz hM hS hl.1 hlk hnx (by decide) d_AD_edition_30 d_AD_edition_33 d_AD_edition_34 d_AD_edition_36 d_AD_edition_39 ⟨by decide, by decide⟩ ⟨by decide, by decide⟩ (by decide) (by decide) (⟨Or.inl ⟨rfl, Or.inr ⟨⟨j0, hj0, rfl⟩, fun n1 hn1 e => by subst e; first | exact nI_pos (by omega) hlo | exact hhi (by rw [show (99999999 : Int32) = nI 99999999 from rfl]; exact (nI_leI (by omega) (by decide)).mpr hn1)⟩⟩, hw⟩)
  · subst e9r
    refine lv_astore_nN (lv' := [(3, .null), (0, .ref x), (1, .int k), (2, .int n)]) hx hb d_AD_edition_5 rfl hl (by decide) rfl (fun ls hl => ?_)
    refine lv_aload_nN hx hb d_AD_edition_6 rfl (lv_at hl 0 rfl) ?_
    refine lv_ifnonnullN hx hb d_AD_edition_7 ?_
    exact hp_throwIA (is := 75) (text := "there is no such action") S hlt hzx hz hM hS hl.1 hlk hnx (by decide) d_AD_edition_10 d_AD_edition_13 d_AD_edition_14 d_AD_edition_16 d_AD_edition_19 ⟨by decide, by decide⟩ ⟨by decide, by decide⟩ (by decide) (by decide) (⟨Or.inl ⟨rfl, Or.inl hno⟩, hw⟩)
theorem fitK.nat {T : List Nat} {k : Int32} (h : fitK T k) : ∃ k1 : Nat, k1 ≤ 6 ∧ k = nI k1 ∧ ((k1 = 1 ∨ k1 = 3) → T.length ≤ 40) := by
  rcases h with h | ⟨h, g⟩ | ⟨h, g⟩
  · exact ⟨0, by decide, h, fun z => by omega⟩
  · rcases h with h | h | h
    · exact ⟨1, by decide, h, fun _ => g.1⟩
    · exact ⟨3, by decide, h, fun _ => g.1⟩
    · exact ⟨5, by decide, h, fun z => by omega⟩
  · rcases h with h | h | h
    · exact ⟨2, by decide, h, fun z => by omega⟩
    · exact ⟨4, by decide, h, fun z => by omega⟩
    · exact ⟨6, by decide, h, fun z => by omega⟩
theorem isKl.le {T : List Nat} {k : Int32} {n : Nat} (h : isKl T k n) : n ≤ T.length := by
  rcases h with h | h | h
  · omega
  · exact h.2.1
  · omega
/-- the body of a row of kind k1 -/
def bdL (k1 : Nat) (T hd : List Nat) : List Nat := if k1 = 1 ∨ k1 = 3 then T ++ 0 :: hd else T
set_option maxHeartbeats 4000000 in
set_option maxRecDepth 100000 in
/-- row(a, k) -/
theorem c_AD_row (l : Launch) (D : va_G) (ct : Nat → ClassId) (Z : hp_Z) (hZ : hp_Zok Z) (M : hp_M) (sz : Nat) (hlt : l.stackTraces = false) (hzx : zX Z) (x xt ch sh su wo ac al sc hg : Nat) (T : List Nat) (Y : ShT) (As : List (List RowT)) (Al : List (List Nat)) (sa hd : List Nat) (hw : adW ct M x xt ch sh su wo ac al sc hg T Y As Al sa hd) (hcT : ∀ i, T.getD i 0 < 65536) (k k2 : Int32) : Xv l y_AD_row b_AD_row 6 none 6 88 4 198 [.ref x, .int k, .int k2] D ct Z M sz (fun M1 => ∃ j k1 n, j < As.length ∧ k = nI j ∧ k2 = nI k1 ∧ k1 ≤ 6 ∧ fitK T (nI k1) ∧ isKl T (nI k1) n ∧ (k1 = 0 ∨ ¬ (∃ i, i < (As.getD j []).length ∧ ((As.getD j []).getD i rw0).1 = k1 ∧ ((As.getD j []).getD i rw0).2.1 = T.take n)) ∧ (As.getD j []).length < 24 ∧ ∃ u, insAt (As.getD j []) u ((k1, T.take n, bdL k1 T hd) : RowT) ∧ adW ct M1 x xt ch sh su wo ac al sc hg [] Y (As.set j (insL (As.getD j []) u ((k1, T.take n, bdL k1 T hd) : RowT))) Al sa hd) (fun E M1 => ((E = "java/lang/IllegalArgumentException" ∧ ((∀ j, j < As.length → k ≠ nI j) ∨ ((∃ j, j < As.length ∧ k = nI j) ∧ ¬ fitK T k2))) ∨ (E = "java/lang/IllegalStateException" ∧ ∃ j k1 n, j < As.length ∧ k = nI j ∧ k2 = nI k1 ∧ k1 ≤ 6 ∧ fitK T (nI k1) ∧ isKl T (nI k1) n ∧ ((k1 ≠ 0 ∧ (∃ i, i < (As.getD j []).length ∧ ((As.getD j []).getD i rw0).1 = k1 ∧ ((As.getD j []).getD i rw0).2.1 = T.take n)) ∨ 24 ≤ (As.getD j []).length))) ∧ adW ct M1 x xt ch sh su wo ac al sc hg [] Y As Al sa hd) := by
  refine hp_startX (by decide) (Nat.le_of_ble_eq_true rfl) (fun p e s m below meth c ls S hret hlk hnm hsz hK hM hS hA hz hl hnx => ?_)
  have hx := S.1
  have hb := S.2.1
  have hl : lv_has ls 6 [(0, .ref x), (1, .int k), (2, .int k2)] := hl
  obtain ⟨f_x, ⟨g0, f_xt, f_ch, hg0, hgb, hT⟩, hsh, hacs, hals, ⟨f_sc, hsal, hc_sa, hfsc⟩, ⟨f_hg, hdl, hc_hd⟩, hchg⟩ := id hw
  refine lv_aload_n hx hb d_AD_row_0 rfl (lv_at hl 0 rfl) ?_
  refine hp_get S hK hM i_AD f_x rfl 0 (by decide) mf_AD_10 (fun _ h9 => h9) rfl d_AD_row_1 ?_
  refine hp_callq (go_V S hZ hK hM hS hA hz (c_TX_take l D ct Z hZ _ _ xt ch T.length g0 hT f_xt f_ch hgb) mc_TX_take mz_TX ml_AD_65 mi_TX_take mx_TX_take hd_TX_take rfl ⟨by decide, by decide⟩ f_xt rfl rfl hl.1 rfl (Nat.le_of_ble_eq_true rfl) d_AD_row_4 ⟨by decide, by decide⟩) hM hS hA (fun r9 M9 H locs h9 hM hS => ?_)
  obtain ⟨q, rfl, hqn, rfl⟩ := h9
  replace hM := take_cong (Ne.symm (hp_nn f_xt hqn)) hM hg0
  obtain ⟨hw2, hfq, f_q⟩ := hw.take (ct01 hK) hqn
  obtain ⟨M2, eM2⟩ : ∃ z, z = hp_up (hp_up M q (.inl (ct 0, T.length, .inl (tx T)))) xt (.inr (1, [.ref ch, .int (nI 0)])) := ⟨_, rfl⟩
  rw [← eM2] at hM hw2 f_q
  obtain ⟨f_x, ⟨g2, f_xt, f_ch, -, hgb2, -⟩, hsh, hacs, hals, ⟨f_sc, hsal, hc_sa, hfsc⟩, ⟨f_hg, hdl, hc_hd⟩, hchg⟩ := id hw2
  obtain ⟨fa, ao, oo, rf, f_ac, hAs, hW3, hW4⟩ := id hacs
  have f_ac0 := f_ac
  refine lv_astore_n (lv' := [(3, .ref q), (0, .ref x), (1, .int k), (2, .int k2)]) hx hb d_AD_row_7 rfl hl (by decide) rfl (fun ls hl => ?_)
  refine lv_aload_n hx hb d_AD_row_8 rfl (lv_at hl 1 rfl) ?_
  refine lv_iload_n hx hb d_AD_row_9 rfl (lv_at hl 2 rfl) ?_
  refine hp_callq (go_V S hZ hK hM hS hA hz (c_AD_actionAt2 l D ct Z hZ _ _ x xt sh ac As.length al Al.length sc hg fa ao f_x f_ac hAs (fun i hi => (hW3 i hi).1) k) mc_AD_actionAt mz_AD ml_AD_69 mi_AD_actionAt mx_AD_actionAt hd_AD_actionAt rfl ⟨by decide, by decide⟩ f_x rfl rfl hl.1 rfl (Nat.le_of_ble_eq_true rfl) d_AD_row_10 ⟨by decide, by decide⟩) hM hS hA (fun r9 M9 H locs h9 hM hS => ?_)
  rw [h9.1] at hM
  replace h9 := h9.2
  rcases h9 with ⟨j0, hj0, ek, e9r⟩ | ⟨hno, e9r⟩
  · subst ek
    obtain ⟨c1, f_a, f_oa, hn24, hrs⟩ := hW3 j0 hj0
    obtain ⟨a, e9a⟩ : ∃ z, z = ao j0 := ⟨_, rfl⟩
    obtain ⟨oa, e9oa⟩ : ∃ z, z = oo j0 := ⟨_, rfl⟩
    rw [← e9a, ← e9oa] at f_a
    rw [← e9oa] at f_oa
    rw [← e9a] at e9r
    subst e9r
    refine lv_astore (lv' := [(4, .ref a), (3, .ref q), (0, .ref x), (1, .int (nI j0)), (2, .int k2)]) hx hb d_AD_row_13 hl (by decide) rfl (fun ls hl => ?_)
    refine lv_aload hx hb d_AD_row_15 (lv_at hl 0 rfl) ?_
    refine lv_ifnonnull (tgt := 30) hx hb d_AD_row_17 (by decide) ?_
    refine lv_aload_n hx hb d_AD_row_30 rfl (lv_at hl 1 rfl) ?_
    refine lv_iload_n hx hb d_AD_row_31 rfl (lv_at hl 4 rfl) ?_
    refine hp_calli (go_S S hZ hK hM hS hA hz (c_FM_fits l D ct Z hZ _ _ q T hT hcT f_q k2) mc_FM_fits mz_FM ml_AD_78 ms_FM_fits hd_FM_fits rfl ⟨by decide, by decide⟩ hl.1 rfl (Nat.le_of_ble_eq_true rfl) d_AD_row_32 ⟨by decide, by decide⟩) hM hS hA (fun r1 N2 H locs hr1 hM hS => ?_)
    rw [hr1.1] at hM
    replace hr1 := hr1.2
    refine nt_ne (tgt := 48) hx hb d_AD_row_35 (by decide) hr1 (fun hft => ?_) (fun hft => ?_)
    · obtain ⟨k1, hk6, ek2, hk13⟩ := hft.nat
      subst ek2
      refine hp_new (ci := 5) (fs := [.null, .int (nI 0)]) S hK hM hS hA i_KY t_KY to_KY mk_AD_33 mt_KY mz_KY rfl (fun j hj => by rcases (show j = 0 ∨ j = 1 by omega) with rfl | rfl <;> rfl) (by decide) (by decide) d_AD_row_48 (fun ky H hq_ky hM hS => ?_)
      refine W.widen (k := 2) (n := 66) (by omega) (by omega) ?_
      have ne_x_ky : x ≠ ky := hp_nn f_x hq_ky
      have f_x := hp_k (e := (.inr (5, [.null, .int (nI 0)]))) ne_x_ky f_x
      have ne_q_ky : q ≠ ky := hp_nn f_q hq_ky
      have f_q := hp_k (e := (.inr (5, [.null, .int (nI 0)]))) ne_q_ky f_q
      have ne_ac_ky : ac ≠ ky := hp_nn f_ac hq_ky
      have f_ac := hp_k (e := (.inr (5, [.null, .int (nI 0)]))) ne_ac_ky f_ac
      have ne_a_ky : a ≠ ky := hp_nn f_a hq_ky
      have f_a := hp_k (e := (.inr (5, [.null, .int (nI 0)]))) ne_a_ky f_a
      have ne_oa_ky : oa ≠ ky := hp_nn f_oa hq_ky
      have f_oa := hp_k (e := (.inr (5, [.null, .int (nI 0)]))) ne_oa_ky f_oa
      have f_ky : hp_up M2 ky (.inr (5, [.null, .int (nI 0)])) ky = some (.inr (5, [.null, .int (nI 0)])) := hp_us
      obtain ⟨M3, eM3⟩ : ∃ z, z = hp_up M2 ky (.inr (5, [.null, .int (nI 0)])) := ⟨_, rfl⟩
      rw [← eM3] at hM f_x f_q f_ac f_a f_oa f_ky
      refine lv_dup hx hb d_AD_row_51 rfl ?_
      refine lv_aload_n hx hb d_AD_row_52 rfl (lv_at hl 1 rfl) ?_
      refine lv_aload_n hx hb d_AD_row_53 rfl (lv_at hl 1 rfl) ?_
      refine lv_iload_n hx hb d_AD_row_54 rfl (lv_at hl 4 rfl) ?_
      refine hp_calli (go_S S hZ hK hM hS hA hz (c_FM_keyLength l D ct Z hZ _ _ q T hT hcT f_q (nI k1)) mc_FM_keyLength mz_FM ml_AD_86 ms_FM_keyLength hd_FM_keyLength rfl ⟨by decide, by decide⟩ hl.1 rfl (Nat.le_of_ble_eq_true rfl) d_AD_row_55 ⟨by decide, by decide⟩) hM hS hA (fun r9 M9 H locs h9 hM hS => ?_)
      rw [h9.1] at hM
      obtain ⟨n, rfl, hkl⟩ := h9.2
      refine hp_callv (go_I S hZ hK hM hS hA hz (c_KY_init l D ct Z hZ _ _ ky q n hkl.le (by omega) f_ky f_q) mc_KY_init mz_KY ml_AD_90 mi_KY_init rfl hd_KY_init rfl ⟨by decide, by decide⟩ hl.1 rfl (Nat.le_of_ble_eq_true rfl) d_AD_row_58 ⟨by decide, by decide⟩) hM hS hA (fun M9 H locs h9 hM hS => ?_)
      rw [h9] at hM
      have f_x := hp_k (e := (.inr (5, [.ref q, .int (nI n)]))) ne_x_ky f_x
      have f_q := hp_k (e := (.inr (5, [.ref q, .int (nI n)]))) ne_q_ky f_q
      have f_ac := hp_k (e := (.inr (5, [.ref q, .int (nI n)]))) ne_ac_ky f_ac
      have f_a := hp_k (e := (.inr (5, [.ref q, .int (nI n)]))) ne_a_ky f_a
      have f_oa := hp_k (e := (.inr (5, [.ref q, .int (nI n)]))) ne_oa_ky f_oa
      have f_ky : hp_up M3 ky (.inr (5, [.ref q, .int (nI n)])) ky = some (.inr (5, [.ref q, .int (nI n)])) := hp_us
      obtain ⟨M4, eM4⟩ : ∃ z, z = hp_up M3 ky (.inr (5, [.ref q, .int (nI n)])) := ⟨_, rfl⟩
      rw [← eM4] at hM f_x f_q f_ac f_a f_oa f_ky
      have eW3 : M4 = hp_up M2 ky (.inr (5, [.ref q, .int (nI n)])) := by rw [eM4, eM3, hp_uu]
      have hw3 := (hw2.new (E := (.inr (5, [.ref q, .int (nI n)]))) hq_ky).1
      have kk3 : kq ct (fzc ch hg) M2 M4 := by rw [eW3]; exact kq_n hq_ky
      rw [← eW3] at hw3
      have hWn3 := acsW_kq ⟨f_ac0, hAs, hW3, hW4⟩ kk3
      have hrs3 := hrs.st kk3.1
      have hky : kyOk ct (fzc ch hg) M4 ky (T.take n) := kyOk.e f_ky f_q hkl.le hT hcT hfq
      refine lv_astore (lv' := [(5, .ref ky), (4, .ref a), (3, .ref q), (0, .ref x), (1, .int (nI j0)), (2, .int (nI k1))]) hx hb d_AD_row_61 hl (by decide) rfl (fun ls hl => ?_)
      refine lv_iload_n hx hb d_AD_row_63 rfl (lv_at hl 5 rfl) ?_
      refine nz_eq (tgt := 88) hx hb d_AD_row_64 (by decide) (by omega) (fun hk0 => ?_) (fun hk0 => ?_)
      · have hnh : k1 = 0 ∨ ¬ (∃ i, i < (As.getD j0 []).length ∧ ((As.getD j0 []).getD i rw0).1 = k1 ∧ ((As.getD j0 []).getD i rw0).2.1 = T.take n) := by first | exact Or.inl hk0 | exact Or.inr hhas
        refine lv_aload hx hb d_AD_row_88 (lv_at hl 1 rfl) ?_
        refine hp_calli (go_V S hZ hK hM hS hA hz (c_AC_isFull l D ct Z hZ _ _ a oa _ hn24 f_a) mc_AC_isFull mz_AC ml_AD_99 mi_AC_isFull mx_AC_isFull hd_AC_isFull rfl ⟨by decide, by decide⟩ f_a rfl rfl hl.1 rfl (Nat.le_of_ble_eq_true rfl) d_AD_row_90 ⟨by decide, by decide⟩) hM hS hA (fun r5 N6 H locs hr5 hM hS => ?_)
        rw [hr5.1] at hM
        replace hr5 := hr5.2
        refine nt_eq (tgt := 106) hx hb d_AD_row_93 (by decide) hr5 (fun hfl => ?_) (fun hfl => ?_)
        · refine lv_aload hx hb d_AD_row_106 (lv_at hl 1 rfl) ?_
          refine hp_new (ci := 4) (fs := [.int (nI 0), .null, .null]) S hK hM hS hA i_RW t_RW to_RW mk_AD_105 mt_RW mz_RW rfl (fun j hj => by rcases (show j = 0 ∨ j = 1 ∨ j = 2 by omega) with rfl | rfl | rfl <;> rfl) (by decide) (by decide) d_AD_row_108 (fun ro H hq_ro hM hS => ?_)
          refine W.widen (k := 3) (n := 69) (by omega) (by omega) ?_
          have ne_x_ro : x ≠ ro := hp_nn f_x hq_ro
          have f_x := hp_k (e := (.inr (4, [.int (nI 0), .null, .null]))) ne_x_ro f_x
          have ne_q_ro : q ≠ ro := hp_nn f_q hq_ro
          have f_q := hp_k (e := (.inr (4, [.int (nI 0), .null, .null]))) ne_q_ro f_q
          have ne_ac_ro : ac ≠ ro := hp_nn f_ac hq_ro
          have f_ac := hp_k (e := (.inr (4, [.int (nI 0), .null, .null]))) ne_ac_ro f_ac
          have ne_a_ro : a ≠ ro := hp_nn f_a hq_ro
          have f_a := hp_k (e := (.inr (4, [.int (nI 0), .null, .null]))) ne_a_ro f_a
          have ne_oa_ro : oa ≠ ro := hp_nn f_oa hq_ro
          have f_oa := hp_k (e := (.inr (4, [.int (nI 0), .null, .null]))) ne_oa_ro f_oa
          have ne_ky_ro : ky ≠ ro := hp_nn f_ky hq_ro
          have f_ky := hp_k (e := (.inr (4, [.int (nI 0), .null, .null]))) ne_ky_ro f_ky
          have f_ro : hp_up M4 ro (.inr (4, [.int (nI 0), .null, .null])) ro = some (.inr (4, [.int (nI 0), .null, .null])) := hp_us
          obtain ⟨M7, eM7⟩ : ∃ z, z = hp_up M4 ro (.inr (4, [.int (nI 0), .null, .null])) := ⟨_, rfl⟩
          rw [← eM7] at hM f_x f_q f_ac f_a f_oa f_ky f_ro
          refine lv_dup hx hb d_AD_row_111 rfl ?_
          refine lv_iload_n hx hb d_AD_row_112 rfl (lv_at hl 5 rfl) ?_
          refine lv_aload hx hb d_AD_row_113 (lv_at hl 0 rfl) ?_
          refine lv_aload_n hx hb d_AD_row_115 rfl (lv_at hl 3 rfl) ?_
          refine lv_aload_n hx hb d_AD_row_116 rfl (lv_at hl 2 rfl) ?_
          refine lv_iload_n hx hb d_AD_row_117 rfl (lv_at hl 5 rfl) ?_
          obtain ⟨-, -, -, -, -, -, ⟨f_hg3, hdl3, hc_hd3⟩, -⟩ := id hw3
          have f_hg4 := hp_k (e := .inr (4, [.int (nI 0), .null, .null])) (hp_nn f_hg3 hq_ro) f_hg3
          rw [← eM7] at f_hg4
          refine hp_callq (go_V S hZ hK hM hS hA hz (c_AD_bodyOf l D ct Z hZ _ _ x xt sh ac As.length al Al.length sc hg f_x hd hdl3 hc_hd3 f_hg4 q T hT hcT f_q k1 (by omega)) mc_AD_bodyOf mz_AD ml_AD_107 mi_AD_bodyOf mx_AD_bodyOf hd_AD_bodyOf rfl ⟨by decide, by decide⟩ f_x rfl rfl hl.1 rfl (Nat.le_of_ble_eq_true rfl) d_AD_row_118 ⟨by decide, by decide⟩) hM hS hA (fun r9 M9 H locs h9 hM hS => ?_)
          rcases h9 with ⟨h13, bd, rfl, hq_bd, e9⟩ | ⟨h13, rfl, e9⟩
          · rw [e9] at hM
            have ne_x_bd : x ≠ bd := hp_nn f_x hq_bd
            have f_x := hp_k (e := (.inl (ct 0, (T ++ 0 :: hd).length, .inl (tx (T ++ 0 :: hd))))) ne_x_bd f_x
            have ne_q_bd : q ≠ bd := hp_nn f_q hq_bd
            have f_q := hp_k (e := (.inl (ct 0, (T ++ 0 :: hd).length, .inl (tx (T ++ 0 :: hd))))) ne_q_bd f_q
            have ne_ac_bd : ac ≠ bd := hp_nn f_ac hq_bd
            have f_ac := hp_k (e := (.inl (ct 0, (T ++ 0 :: hd).length, .inl (tx (T ++ 0 :: hd))))) ne_ac_bd f_ac
            have ne_a_bd : a ≠ bd := hp_nn f_a hq_bd
            have f_a := hp_k (e := (.inl (ct 0, (T ++ 0 :: hd).length, .inl (tx (T ++ 0 :: hd))))) ne_a_bd f_a
            have ne_oa_bd : oa ≠ bd := hp_nn f_oa hq_bd
            have f_oa := hp_k (e := (.inl (ct 0, (T ++ 0 :: hd).length, .inl (tx (T ++ 0 :: hd))))) ne_oa_bd f_oa
            have ne_ky_bd : ky ≠ bd := hp_nn f_ky hq_bd
            have f_ky := hp_k (e := (.inl (ct 0, (T ++ 0 :: hd).length, .inl (tx (T ++ 0 :: hd))))) ne_ky_bd f_ky
            have ne_ro_bd : ro ≠ bd := hp_nn f_ro hq_bd
            have f_ro := hp_k (e := (.inl (ct 0, (T ++ 0 :: hd).length, .inl (tx (T ++ 0 :: hd))))) ne_ro_bd f_ro
            have f_bd : hp_up M7 bd (.inl (ct 0, (T ++ 0 :: hd).length, .inl (tx (T ++ 0 :: hd)))) bd = some (.inl (ct 0, (T ++ 0 :: hd).length, .inl (tx (T ++ 0 :: hd)))) := hp_us
            obtain ⟨M8, eM8⟩ : ∃ z, z = hp_up M7 bd (.inl (ct 0, (T ++ 0 :: hd).length, .inl (tx (T ++ 0 :: hd)))) := ⟨_, rfl⟩
            rw [← eM8] at hM f_x f_q f_ac f_a f_oa f_ky f_ro f_bd
            refine hp_callv (go_I S hZ hK hM hS hA hz (c_RW_init l D ct Z hZ _ _ ro k1 ky bd f_ro) mc_RW_init mz_RW ml_AD_111 mi_RW_init rfl hd_RW_init rfl ⟨by decide, by decide⟩ hl.1 rfl (Nat.le_of_ble_eq_true rfl) d_AD_row_121 ⟨by decide, by decide⟩) hM hS hA (fun M9 H locs h9 hM hS => ?_)
            rw [h9] at hM
            have f_x := hp_k (e := (.inr (4, [.int (nI k1), .ref ky, .ref bd]))) ne_x_ro f_x
            have f_q := hp_k (e := (.inr (4, [.int (nI k1), .ref ky, .ref bd]))) ne_q_ro f_q
            have f_ac := hp_k (e := (.inr (4, [.int (nI k1), .ref ky, .ref bd]))) ne_ac_ro f_ac
            have f_a := hp_k (e := (.inr (4, [.int (nI k1), .ref ky, .ref bd]))) ne_a_ro f_a
            have f_oa := hp_k (e := (.inr (4, [.int (nI k1), .ref ky, .ref bd]))) ne_oa_ro f_oa
            have f_ky := hp_k (e := (.inr (4, [.int (nI k1), .ref ky, .ref bd]))) ne_ky_ro f_ky
            have f_bd := hp_k (e := (.inr (4, [.int (nI k1), .ref ky, .ref bd]))) (Ne.symm ne_ro_bd) f_bd
            have f_ro : hp_up M8 ro (.inr (4, [.int (nI k1), .ref ky, .ref bd])) ro = some (.inr (4, [.int (nI k1), .ref ky, .ref bd])) := hp_us
            obtain ⟨M9, eM9⟩ : ∃ z, z = hp_up M8 ro (.inr (4, [.int (nI k1), .ref ky, .ref bd])) := ⟨_, rfl⟩
            rw [← eM9] at hM f_x f_q f_ac f_a f_oa f_ky f_ro f_bd
            have eW : M9 = hp_up (hp_up M4 ro (.inr (4, [.int (nI k1), .ref ky, .ref bd]))) bd (.inl (ct 0, (T ++ 0 :: hd).length, .inl (tx (T ++ 0 :: hd)))) := by rw [eM9, eM8, hp_uc (Ne.symm ne_ro_bd), eM7, hp_uu]
            have hb0 : hp_up M4 ro (.inr (4, [.int (nI k1), .ref ky, .ref bd])) bd = none := by rw [eM7, hp_un (Ne.symm ne_ro_bd)] at hq_bd; rw [hp_un (Ne.symm ne_ro_bd)]; exact hq_bd
            have hw40 := (hw3.new (E := (.inr (4, [.int (nI k1), .ref ky, .ref bd]))) hq_ro).1.new (E := (.inl (ct 0, (T ++ 0 :: hd).length, .inl (tx (T ++ 0 :: hd))))) hb0
            have hw4 := hw40.1
            have hfb := hw40.2
            have kk : kq ct (fzc ch hg) M4 M9 := by rw [eW]; exact (kq_n hq_ro).tr (kq_n hb0)
            rw [← eW] at hw4
            have hWn := acsW_kq hWn3 kk
            have hrs4 := hrs3.st kk.1
            have ebd : bdL k1 T hd = T ++ 0 :: hd := if_pos h13
            have hro : rwOk ct (fzc ch hg) M9 ro (k1, T.take n, bdL k1 T hd) := by
              rw [ebd]
              exact ⟨ky, bd, f_ro, hky.st kk.1, f_bd, by show (T ++ 0 :: hd).length ≤ 105; rw [List.length_append, List.length_cons, hdl3]; have := hk13 h13; omega, fun i => by rcases Nat.lt_or_ge i (T.length + 1 + 64) with z | z; (rw [← body_at hdl3 z]; by_cases y : i < T.length; (rw [if_pos y]; exact hcT i); (rw [if_neg y]; by_cases v : T.length < i ∧ i < T.length + 1 + 64; (rw [if_pos v]; exact hc_hd3 _); (rw [if_neg v]; decide))); (rw [List.getD_eq_getElem?_getD, List.getElem?_eq_none (by rw [List.length_append, List.length_cons, hdl3]; omega)]; decide), hfb, by show k1 ≤ 7; omega⟩
            refine hp_callv (go_V S hZ hK hM hS hA hz (c_AC_insert l D ct Z hZ _ _ (fzc ch hg) a oa (rf j0) (As.getD j0 []) (Nat.lt_of_not_le hfl) f_a f_oa hrs4 ro _ hro) mc_AC_insert mz_AC ml_AD_114 mi_AC_insert mx_AC_insert hd_AC_insert rfl ⟨by decide, by decide⟩ f_a rfl rfl hl.1 rfl (Nat.le_of_ble_eq_true rfl) d_AD_row_124 ⟨by decide, by decide⟩) hM hS hA (fun M9 H locs h9 hM hS => ?_)
            obtain ⟨u, f1, hu, hu1, hu2, g1, g2, g3, e9⟩ := h9
            rw [e9] at hM
            have hw5 := hw4.rows hWn hj0 (hrs4.ins hu g1 g2 g3 hro) (by rw [insL_len hu]; omega)
            rw [← e9a, ← e9oa, insL_len hu] at hw5
            refine vx_ret ?_
            exact hp_vret S hret hlk hM hS (⟨j0, k1, n, hj0, rfl, rfl, hk6, hft, hkl, hnh, Nat.lt_of_not_le hfl, u, ⟨hu, hu1, hu2⟩, hw5⟩) d_AD_row_127
          · rw [e9] at hM
            refine hp_callv (go_I S hZ hK hM hS hA hz (c_RW_init l D ct Z hZ _ _ ro k1 ky q f_ro) mc_RW_init mz_RW ml_AD_111 mi_RW_init rfl hd_RW_init rfl ⟨by decide, by decide⟩ hl.1 rfl (Nat.le_of_ble_eq_true rfl) d_AD_row_121 ⟨by decide, by decide⟩) hM hS hA (fun M9 H locs h9 hM hS => ?_)
            rw [h9] at hM
            have f_x := hp_k (e := (.inr (4, [.int (nI k1), .ref ky, .ref q]))) ne_x_ro f_x
            have f_q := hp_k (e := (.inr (4, [.int (nI k1), .ref ky, .ref q]))) ne_q_ro f_q
            have f_ac := hp_k (e := (.inr (4, [.int (nI k1), .ref ky, .ref q]))) ne_ac_ro f_ac
            have f_a := hp_k (e := (.inr (4, [.int (nI k1), .ref ky, .ref q]))) ne_a_ro f_a
            have f_oa := hp_k (e := (.inr (4, [.int (nI k1), .ref ky, .ref q]))) ne_oa_ro f_oa
            have f_ky := hp_k (e := (.inr (4, [.int (nI k1), .ref ky, .ref q]))) ne_ky_ro f_ky
            have f_ro : hp_up M7 ro (.inr (4, [.int (nI k1), .ref ky, .ref q])) ro = some (.inr (4, [.int (nI k1), .ref ky, .ref q])) := hp_us
            obtain ⟨M10, eM10⟩ : ∃ z, z = hp_up M7 ro (.inr (4, [.int (nI k1), .ref ky, .ref q])) := ⟨_, rfl⟩
            rw [← eM10] at hM f_x f_q f_ac f_a f_oa f_ky f_ro
            have eW : M10 = hp_up M4 ro (.inr (4, [.int (nI k1), .ref ky, .ref q])) := by rw [eM10, eM7, hp_uu]
            have hw4 := (hw3.new (E := (.inr (4, [.int (nI k1), .ref ky, .ref q]))) hq_ro).1
            have kk : kq ct (fzc ch hg) M4 M10 := by rw [eW]; exact kq_n hq_ro
            rw [← eW] at hw4
            have hWn := acsW_kq hWn3 kk
            have hrs4 := hrs3.st kk.1
            have ebd : bdL k1 T hd = T := if_neg h13
            have hro : rwOk ct (fzc ch hg) M10 ro (k1, T.take n, bdL k1 T hd) := by
              rw [ebd]
              exact ⟨ky, q, f_ro, hky.st kk.1, f_q, by show T.length ≤ 105; omega, hcT, hfq, by show k1 ≤ 7; omega⟩
            refine hp_callv (go_V S hZ hK hM hS hA hz (c_AC_insert l D ct Z hZ _ _ (fzc ch hg) a oa (rf j0) (As.getD j0 []) (Nat.lt_of_not_le hfl) f_a f_oa hrs4 ro _ hro) mc_AC_insert mz_AC ml_AD_114 mi_AC_insert mx_AC_insert hd_AC_insert rfl ⟨by decide, by decide⟩ f_a rfl rfl hl.1 rfl (Nat.le_of_ble_eq_true rfl) d_AD_row_124 ⟨by decide, by decide⟩) hM hS hA (fun M9 H locs h9 hM hS => ?_)
            obtain ⟨u, f1, hu, hu1, hu2, g1, g2, g3, e9⟩ := h9
            rw [e9] at hM
            have hw5 := hw4.rows hWn hj0 (hrs4.ins hu g1 g2 g3 hro) (by rw [insL_len hu]; omega)
            rw [← e9a, ← e9oa, insL_len hu] at hw5
            refine vx_ret ?_
            exact hp_vret S hret hlk hM hS (⟨j0, k1, n, hj0, rfl, rfl, hk6, hft, hkl, hnh, Nat.lt_of_not_le hfl, u, ⟨hu, hu1, hu2⟩, hw5⟩) d_AD_row_127
        · exact hp_throwIS (is := 103) (text := "there are 24 rows") S hlt hzx hz hM hS hl.1 hlk hnx (by decide) d_AD_row_96 d_AD_row_99 d_AD_row_100 d_AD_row_102 d_AD_row_105 ⟨by decide, by decide⟩ ⟨by decide, by decide⟩ (by decide) (by decide) (⟨Or.inr ⟨rfl, j0, k1, n, hj0, rfl, rfl, hk6, hft, hkl, Or.inr hfl⟩, hw3⟩)
      · refine lv_aload hx hb d_AD_row_67 (lv_at hl 1 rfl) ?_
        refine lv_iload_n hx hb d_AD_row_69 rfl (lv_at hl 5 rfl) ?_
        refine lv_aload hx hb d_AD_row_70 (lv_at hl 0 rfl) ?_
        refine hp_calli (go_V S hZ hK hM hS hA hz (c_AC_has l D ct Z hZ _ _ (fzc ch hg) a oa (rf j0) (As.getD j0 []) hn24 f_a f_oa hrs3 k1 ky (by omega) _ hky) mc_AC_has mz_AC ml_AD_93 mi_AC_has mx_AC_has hd_AC_has rfl ⟨by decide, by decide⟩ f_a rfl rfl hl.1 rfl (Nat.le_of_ble_eq_true rfl) d_AD_row_72 ⟨by decide, by decide⟩) hM hS hA (fun r11 N12 H locs hr11 hM hS => ?_)
        rw [hr11.1] at hM
        replace hr11 := hr11.2
        refine nt_eq (tgt := 88) hx hb d_AD_row_75 (by decide) hr11 (fun hhas => ?_) (fun hhas => ?_)
        · have hnh : k1 = 0 ∨ ¬ (∃ i, i < (As.getD j0 []).length ∧ ((As.getD j0 []).getD i rw0).1 = k1 ∧ ((As.getD j0 []).getD i rw0).2.1 = T.take n) := by first | exact Or.inl hk0 | exact Or.inr hhas
          refine lv_aload hx hb d_AD_row_88 (lv_at hl 1 rfl) ?_
          refine hp_calli (go_V S hZ hK hM hS hA hz (c_AC_isFull l D ct Z hZ _ _ a oa _ hn24 f_a) mc_AC_isFull mz_AC ml_AD_99 mi_AC_isFull mx_AC_isFull hd_AC_isFull rfl ⟨by decide, by decide⟩ f_a rfl rfl hl.1 rfl (Nat.le_of_ble_eq_true rfl) d_AD_row_90 ⟨by decide, by decide⟩) hM hS hA (fun r13 N14 H locs hr13 hM hS => ?_)
          rw [hr13.1] at hM
          replace hr13 := hr13.2
          refine nt_eq (tgt := 106) hx hb d_AD_row_93 (by decide) hr13 (fun hfl => ?_) (fun hfl => ?_)
          · refine lv_aload hx hb d_AD_row_106 (lv_at hl 1 rfl) ?_
            refine hp_new (ci := 4) (fs := [.int (nI 0), .null, .null]) S hK hM hS hA i_RW t_RW to_RW mk_AD_105 mt_RW mz_RW rfl (fun j hj => by rcases (show j = 0 ∨ j = 1 ∨ j = 2 by omega) with rfl | rfl | rfl <;> rfl) (by decide) (by decide) d_AD_row_108 (fun ro H hq_ro hM hS => ?_)
            refine W.widen (k := 3) (n := 69) (by omega) (by omega) ?_
            have ne_x_ro : x ≠ ro := hp_nn f_x hq_ro
            have f_x := hp_k (e := (.inr (4, [.int (nI 0), .null, .null]))) ne_x_ro f_x
            have ne_q_ro : q ≠ ro := hp_nn f_q hq_ro
            have f_q := hp_k (e := (.inr (4, [.int (nI 0), .null, .null]))) ne_q_ro f_q
            have ne_ac_ro : ac ≠ ro := hp_nn f_ac hq_ro
            have f_ac := hp_k (e := (.inr (4, [.int (nI 0), .null, .null]))) ne_ac_ro f_ac
            have ne_a_ro : a ≠ ro := hp_nn f_a hq_ro
            have f_a := hp_k (e := (.inr (4, [.int (nI 0), .null, .null]))) ne_a_ro f_a
            have ne_oa_ro : oa ≠ ro := hp_nn f_oa hq_ro
            have f_oa := hp_k (e := (.inr (4, [.int (nI 0), .null, .null]))) ne_oa_ro f_oa
            have ne_ky_ro : ky ≠ ro := hp_nn f_ky hq_ro
            have f_ky := hp_k (e := (.inr (4, [.int (nI 0), .null, .null]))) ne_ky_ro f_ky
            have f_ro : hp_up M4 ro (.inr (4, [.int (nI 0), .null, .null])) ro = some (.inr (4, [.int (nI 0), .null, .null])) := hp_us
            obtain ⟨M15, eM15⟩ : ∃ z, z = hp_up M4 ro (.inr (4, [.int (nI 0), .null, .null])) := ⟨_, rfl⟩
            rw [← eM15] at hM f_x f_q f_ac f_a f_oa f_ky f_ro
            refine lv_dup hx hb d_AD_row_111 rfl ?_
            refine lv_iload_n hx hb d_AD_row_112 rfl (lv_at hl 5 rfl) ?_
            refine lv_aload hx hb d_AD_row_113 (lv_at hl 0 rfl) ?_
            refine lv_aload_n hx hb d_AD_row_115 rfl (lv_at hl 3 rfl) ?_
            refine lv_aload_n hx hb d_AD_row_116 rfl (lv_at hl 2 rfl) ?_
            refine lv_iload_n hx hb d_AD_row_117 rfl (lv_at hl 5 rfl) ?_
            obtain ⟨-, -, -, -, -, -, ⟨f_hg3, hdl3, hc_hd3⟩, -⟩ := id hw3
            have f_hg4 := hp_k (e := .inr (4, [.int (nI 0), .null, .null])) (hp_nn f_hg3 hq_ro) f_hg3
            rw [← eM15] at f_hg4
            refine hp_callq (go_V S hZ hK hM hS hA hz (c_AD_bodyOf l D ct Z hZ _ _ x xt sh ac As.length al Al.length sc hg f_x hd hdl3 hc_hd3 f_hg4 q T hT hcT f_q k1 (by omega)) mc_AD_bodyOf mz_AD ml_AD_107 mi_AD_bodyOf mx_AD_bodyOf hd_AD_bodyOf rfl ⟨by decide, by decide⟩ f_x rfl rfl hl.1 rfl (Nat.le_of_ble_eq_true rfl) d_AD_row_118 ⟨by decide, by decide⟩) hM hS hA (fun r9 M9 H locs h9 hM hS => ?_)
            rcases h9 with ⟨h13, bd, rfl, hq_bd, e9⟩ | ⟨h13, rfl, e9⟩
            · rw [e9] at hM
              have ne_x_bd : x ≠ bd := hp_nn f_x hq_bd
              have f_x := hp_k (e := (.inl (ct 0, (T ++ 0 :: hd).length, .inl (tx (T ++ 0 :: hd))))) ne_x_bd f_x
              have ne_q_bd : q ≠ bd := hp_nn f_q hq_bd
              have f_q := hp_k (e := (.inl (ct 0, (T ++ 0 :: hd).length, .inl (tx (T ++ 0 :: hd))))) ne_q_bd f_q
              have ne_ac_bd : ac ≠ bd := hp_nn f_ac hq_bd
              have f_ac := hp_k (e := (.inl (ct 0, (T ++ 0 :: hd).length, .inl (tx (T ++ 0 :: hd))))) ne_ac_bd f_ac
              have ne_a_bd : a ≠ bd := hp_nn f_a hq_bd
              have f_a := hp_k (e := (.inl (ct 0, (T ++ 0 :: hd).length, .inl (tx (T ++ 0 :: hd))))) ne_a_bd f_a
              have ne_oa_bd : oa ≠ bd := hp_nn f_oa hq_bd
              have f_oa := hp_k (e := (.inl (ct 0, (T ++ 0 :: hd).length, .inl (tx (T ++ 0 :: hd))))) ne_oa_bd f_oa
              have ne_ky_bd : ky ≠ bd := hp_nn f_ky hq_bd
              have f_ky := hp_k (e := (.inl (ct 0, (T ++ 0 :: hd).length, .inl (tx (T ++ 0 :: hd))))) ne_ky_bd f_ky
              have ne_ro_bd : ro ≠ bd := hp_nn f_ro hq_bd
              have f_ro := hp_k (e := (.inl (ct 0, (T ++ 0 :: hd).length, .inl (tx (T ++ 0 :: hd))))) ne_ro_bd f_ro
              have f_bd : hp_up M15 bd (.inl (ct 0, (T ++ 0 :: hd).length, .inl (tx (T ++ 0 :: hd)))) bd = some (.inl (ct 0, (T ++ 0 :: hd).length, .inl (tx (T ++ 0 :: hd)))) := hp_us
              obtain ⟨M16, eM16⟩ : ∃ z, z = hp_up M15 bd (.inl (ct 0, (T ++ 0 :: hd).length, .inl (tx (T ++ 0 :: hd)))) := ⟨_, rfl⟩
              rw [← eM16] at hM f_x f_q f_ac f_a f_oa f_ky f_ro f_bd
              refine hp_callv (go_I S hZ hK hM hS hA hz (c_RW_init l D ct Z hZ _ _ ro k1 ky bd f_ro) mc_RW_init mz_RW ml_AD_111 mi_RW_init rfl hd_RW_init rfl ⟨by decide, by decide⟩ hl.1 rfl (Nat.le_of_ble_eq_true rfl) d_AD_row_121 ⟨by decide, by decide⟩) hM hS hA (fun M9 H locs h9 hM hS => ?_)
              rw [h9] at hM
              have f_x := hp_k (e := (.inr (4, [.int (nI k1), .ref ky, .ref bd]))) ne_x_ro f_x
              have f_q := hp_k (e := (.inr (4, [.int (nI k1), .ref ky, .ref bd]))) ne_q_ro f_q
              have f_ac := hp_k (e := (.inr (4, [.int (nI k1), .ref ky, .ref bd]))) ne_ac_ro f_ac
              have f_a := hp_k (e := (.inr (4, [.int (nI k1), .ref ky, .ref bd]))) ne_a_ro f_a
              have f_oa := hp_k (e := (.inr (4, [.int (nI k1), .ref ky, .ref bd]))) ne_oa_ro f_oa
              have f_ky := hp_k (e := (.inr (4, [.int (nI k1), .ref ky, .ref bd]))) ne_ky_ro f_ky
              have f_bd := hp_k (e := (.inr (4, [.int (nI k1), .ref ky, .ref bd]))) (Ne.symm ne_ro_bd) f_bd
              have f_ro : hp_up M16 ro (.inr (4, [.int (nI k1), .ref ky, .ref bd])) ro = some (.inr (4, [.int (nI k1), .ref ky, .ref bd])) := hp_us
              obtain ⟨M17, eM17⟩ : ∃ z, z = hp_up M16 ro (.inr (4, [.int (nI k1), .ref ky, .ref bd])) := ⟨_, rfl⟩
              rw [← eM17] at hM f_x f_q f_ac f_a f_oa f_ky f_ro f_bd
              have eW : M17 = hp_up (hp_up M4 ro (.inr (4, [.int (nI k1), .ref ky, .ref bd]))) bd (.inl (ct 0, (T ++ 0 :: hd).length, .inl (tx (T ++ 0 :: hd)))) := by rw [eM17, eM16, hp_uc (Ne.symm ne_ro_bd), eM15, hp_uu]
              have hb0 : hp_up M4 ro (.inr (4, [.int (nI k1), .ref ky, .ref bd])) bd = none := by rw [eM15, hp_un (Ne.symm ne_ro_bd)] at hq_bd; rw [hp_un (Ne.symm ne_ro_bd)]; exact hq_bd
              have hw40 := (hw3.new (E := (.inr (4, [.int (nI k1), .ref ky, .ref bd]))) hq_ro).1.new (E := (.inl (ct 0, (T ++ 0 :: hd).length, .inl (tx (T ++ 0 :: hd))))) hb0
              have hw4 := hw40.1
              have hfb := hw40.2
              have kk : kq ct (fzc ch hg) M4 M17 := by rw [eW]; exact (kq_n hq_ro).tr (kq_n hb0)
              rw [← eW] at hw4
              have hWn := acsW_kq hWn3 kk
              have hrs4 := hrs3.st kk.1
              have ebd : bdL k1 T hd = T ++ 0 :: hd := if_pos h13
              have hro : rwOk ct (fzc ch hg) M17 ro (k1, T.take n, bdL k1 T hd) := by
                rw [ebd]
                exact ⟨ky, bd, f_ro, hky.st kk.1, f_bd, by show (T ++ 0 :: hd).length ≤ 105; rw [List.length_append, List.length_cons, hdl3]; have := hk13 h13; omega, fun i => by rcases Nat.lt_or_ge i (T.length + 1 + 64) with z | z; (rw [← body_at hdl3 z]; by_cases y : i < T.length; (rw [if_pos y]; exact hcT i); (rw [if_neg y]; by_cases v : T.length < i ∧ i < T.length + 1 + 64; (rw [if_pos v]; exact hc_hd3 _); (rw [if_neg v]; decide))); (rw [List.getD_eq_getElem?_getD, List.getElem?_eq_none (by rw [List.length_append, List.length_cons, hdl3]; omega)]; decide), hfb, by show k1 ≤ 7; omega⟩
              refine hp_callv (go_V S hZ hK hM hS hA hz (c_AC_insert l D ct Z hZ _ _ (fzc ch hg) a oa (rf j0) (As.getD j0 []) (Nat.lt_of_not_le hfl) f_a f_oa hrs4 ro _ hro) mc_AC_insert mz_AC ml_AD_114 mi_AC_insert mx_AC_insert hd_AC_insert rfl ⟨by decide, by decide⟩ f_a rfl rfl hl.1 rfl (Nat.le_of_ble_eq_true rfl) d_AD_row_124 ⟨by decide, by decide⟩) hM hS hA (fun M9 H locs h9 hM hS => ?_)
              obtain ⟨u, f1, hu, hu1, hu2, g1, g2, g3, e9⟩ := h9
              rw [e9] at hM
              have hw5 := hw4.rows hWn hj0 (hrs4.ins hu g1 g2 g3 hro) (by rw [insL_len hu]; omega)
              rw [← e9a, ← e9oa, insL_len hu] at hw5
              refine vx_ret ?_
              exact hp_vret S hret hlk hM hS (⟨j0, k1, n, hj0, rfl, rfl, hk6, hft, hkl, hnh, Nat.lt_of_not_le hfl, u, ⟨hu, hu1, hu2⟩, hw5⟩) d_AD_row_127
            · rw [e9] at hM
              refine hp_callv (go_I S hZ hK hM hS hA hz (c_RW_init l D ct Z hZ _ _ ro k1 ky q f_ro) mc_RW_init mz_RW ml_AD_111 mi_RW_init rfl hd_RW_init rfl ⟨by decide, by decide⟩ hl.1 rfl (Nat.le_of_ble_eq_true rfl) d_AD_row_121 ⟨by decide, by decide⟩) hM hS hA (fun M9 H locs h9 hM hS => ?_)
              rw [h9] at hM
              have f_x := hp_k (e := (.inr (4, [.int (nI k1), .ref ky, .ref q]))) ne_x_ro f_x
              have f_q := hp_k (e := (.inr (4, [.int (nI k1), .ref ky, .ref q]))) ne_q_ro f_q
              have f_ac := hp_k (e := (.inr (4, [.int (nI k1), .ref ky, .ref q]))) ne_ac_ro f_ac
              have f_a := hp_k (e := (.inr (4, [.int (nI k1), .ref ky, .ref q]))) ne_a_ro f_a
              have f_oa := hp_k (e := (.inr (4, [.int (nI k1), .ref ky, .ref q]))) ne_oa_ro f_oa
              have f_ky := hp_k (e := (.inr (4, [.int (nI k1), .ref ky, .ref q]))) ne_ky_ro f_ky
              have f_ro : hp_up M15 ro (.inr (4, [.int (nI k1), .ref ky, .ref q])) ro = some (.inr (4, [.int (nI k1), .ref ky, .ref q])) := hp_us
              obtain ⟨M18, eM18⟩ : ∃ z, z = hp_up M15 ro (.inr (4, [.int (nI k1), .ref ky, .ref q])) := ⟨_, rfl⟩
              rw [← eM18] at hM f_x f_q f_ac f_a f_oa f_ky f_ro
              have eW : M18 = hp_up M4 ro (.inr (4, [.int (nI k1), .ref ky, .ref q])) := by rw [eM18, eM15, hp_uu]
              have hw4 := (hw3.new (E := (.inr (4, [.int (nI k1), .ref ky, .ref q]))) hq_ro).1
              have kk : kq ct (fzc ch hg) M4 M18 := by rw [eW]; exact kq_n hq_ro
              rw [← eW] at hw4
              have hWn := acsW_kq hWn3 kk
              have hrs4 := hrs3.st kk.1
              have ebd : bdL k1 T hd = T := if_neg h13
              have hro : rwOk ct (fzc ch hg) M18 ro (k1, T.take n, bdL k1 T hd) := by
                rw [ebd]
                exact ⟨ky, q, f_ro, hky.st kk.1, f_q, by show T.length ≤ 105; omega, hcT, hfq, by show k1 ≤ 7; omega⟩
              refine hp_callv (go_V S hZ hK hM hS hA hz (c_AC_insert l D ct Z hZ _ _ (fzc ch hg) a oa (rf j0) (As.getD j0 []) (Nat.lt_of_not_le hfl) f_a f_oa hrs4 ro _ hro) mc_AC_insert mz_AC ml_AD_114 mi_AC_insert mx_AC_insert hd_AC_insert rfl ⟨by decide, by decide⟩ f_a rfl rfl hl.1 rfl (Nat.le_of_ble_eq_true rfl) d_AD_row_124 ⟨by decide, by decide⟩) hM hS hA (fun M9 H locs h9 hM hS => ?_)
              obtain ⟨u, f1, hu, hu1, hu2, g1, g2, g3, e9⟩ := h9
              rw [e9] at hM
              have hw5 := hw4.rows hWn hj0 (hrs4.ins hu g1 g2 g3 hro) (by rw [insL_len hu]; omega)
              rw [← e9a, ← e9oa, insL_len hu] at hw5
              refine vx_ret ?_
              exact hp_vret S hret hlk hM hS (⟨j0, k1, n, hj0, rfl, rfl, hk6, hft, hkl, hnh, Nat.lt_of_not_le hfl, u, ⟨hu, hu1, hu2⟩, hw5⟩) d_AD_row_127
          · exact hp_throwIS (is := 103) (text := "there are 24 rows") S hlt hzx hz hM hS hl.1 hlk hnx (by decide) d_AD_row_96 d_AD_row_99 d_AD_row_100 d_AD_row_102 d_AD_row_105 ⟨by decide, by decide⟩ ⟨by decide, by decide⟩ (by decide) (by decide) (⟨Or.inr ⟨rfl, j0, k1, n, hj0, rfl, rfl, hk6, hft, hkl, Or.inr hfl⟩, hw3⟩)
        · exact hp_throwIS (is := 97) (text := "the path or name is there for this kind") S hlt hzx hz hM hS hl.1 hlk hnx (by decide) d_AD_row_78 d_AD_row_81 d_AD_row_82 d_AD_row_84 d_AD_row_87 ⟨by decide, by decide⟩ ⟨by decide, by decide⟩ (by decide) (by decide) (⟨Or.inr ⟨rfl, j0, k1, n, hj0, rfl, rfl, hk6, hft, hkl, Or.inl ⟨hk0, hhas⟩⟩, hw3⟩)
    · exact hp_throwIA (is := 84) (text := "there is no such kind, or the text is none of it") S hlt hzx hz hM hS hl.1 hlk hnx (by decide) d_AD_row_38 d_AD_row_41 d_AD_row_42 d_AD_row_44 d_AD_row_47 ⟨by decide, by decide⟩ ⟨by decide, by decide⟩ (by decide) (by decide) (⟨Or.inl ⟨rfl, Or.inr ⟨⟨j0, hj0, rfl⟩, hft⟩⟩, hw2⟩)
  · subst e9r
    refine lv_astoreN (lv' := [(4, .null), (3, .ref q), (0, .ref x), (1, .int k), (2, .int k2)]) hx hb d_AD_row_13 hl (by decide) rfl (fun ls hl => ?_)
    refine lv_aloadN hx hb d_AD_row_15 (lv_at hl 0 rfl) ?_
    refine lv_ifnonnullN hx hb d_AD_row_17 ?_
    exact hp_throwIA (is := 75) (text := "there is no such action") S hlt hzx hz hM hS hl.1 hlk hnx (by decide) d_AD_row_20 d_AD_row_23 d_AD_row_24 d_AD_row_26 d_AD_row_29 ⟨by decide, by decide⟩ ⟨by decide, by decide⟩ (by decide) (by decide) (⟨Or.inl ⟨rfl, Or.inl hno⟩, hw2⟩)
