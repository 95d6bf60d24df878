theorem body_at {a b : List Nat} {i : Nat} (hb : b.length = 64) (hi : i < a.length + 1 + 64) : (if i < a.length then a.getD i 0 else if a.length < i ∧ i < a.length + 1 + 64 then b.getD (i - a.length - 1) 0 else 0) = (a ++ 0 :: b).getD i 0 := by
  rw [List.getD_eq_getElem?_getD (l := a ++ 0 :: b)]
  by_cases h1 : i < a.length
  · rw [if_pos h1, List.getElem?_append_left h1, List.getD_eq_getElem?_getD]
  · rw [if_neg h1, List.getElem?_append_right (by omega)]
    by_cases h2 : a.length < i
    · rw [if_pos ⟨h2, hi⟩, show i - a.length = (i - a.length - 1) + 1 by omega, List.getElem?_cons_succ, List.getD_eq_getElem?_getD]
      congr 2
    · rw [if_neg (by omega), show i - a.length = 0 by omega]
      rfl
def edL (n : Nat) : List Nat := (List.range 8).map (fun i => 48 + n / 10 ^ (7 - i) % 10)
theorem edL_at {n i : Nat} (h : i < 8) : (edL n).getD i 0 = 48 + n / 10 ^ (7 - i) % 10 := by
  unfold edL
  rw [List.getD_eq_getElem?_getD, List.getElem?_map, List.getElem?_range h]
  rfl
theorem iinc_m1 (x : Int32) : x + Int32.ofInt (-1) = x - nI 1 := by
  rw [Int32.sub_eq_add_neg]
  rfl
set_option maxHeartbeats 4000000 in
set_option maxRecDepth 100000 in
/-- what follows the length in the STABLE TEXT -/
theorem c_AD_bodyOf (l : Launch) (D : va_G) (ct : Nat → ClassId) (Z : hp_Z) (hZ : hp_Zok Z) (M : hp_M) (sz : Nat) (x : Nat) (xt sh ac na al nl sc hg : Nat) (f_x : M x = some (xO xt sh ac na al nl sc hg)) (hd : List Nat) (hdl : hd.length = 64) (hc_hd : ∀ i, hd.getD i 0 < 65536) (f_hg : M hg = some (.inl (ct 0, 64, .inl (tx hd)))) (t : Nat) (tn : List Nat) (hL : tn.length ≤ 64) (hc_tn : ∀ i, tn.getD i 0 < 65536) (f_t : M t = some (.inl (ct 0, tn.length, .inl (tx tn)))) (k : Nat) (hk : k < 2 ^ 31) : Mq l y_AD_bodyOf b_AD_bodyOf 5 (some (.array .char)) 0 0 1 129 [.ref x, .ref t, .int (nI k)] D ct Z M sz (fun r M1 => ((k = 1 ∨ k = 3) ∧ ∃ q, r = some q ∧ M q = none ∧ M1 = hp_up M q (.inl (ct 0, (tn ++ 0 :: hd).length, .inl (tx (tn ++ 0 :: hd))))) ∨ (¬ (k = 1 ∨ k = 3) ∧ r = some t ∧ M1 = M)) := by
  refine hp_start (by decide) (Nat.le_of_ble_eq_true rfl) (fun p e s m below meth c ls S hret hlk hnm hsz hK hM hS hA hz hl => ?_)
  have hx := S.1
  have hb := S.2.1
  have hl : lv_has ls 5 [(0, .ref x), (1, .ref t), (2, .int (nI k))] := hl
  have f0_x := f_x
  have f0_hg := f_hg
  have f0_t := f_t
  refine lv_iload_n hx hb d_AD_bodyOf_0 rfl (lv_at hl 2 rfl) ?_
  refine lv_iconst (v := nI 1) hx hb d_AD_bodyOf_1 rfl ?_
  refine nb_eq (tgt := 12) hx hb d_AD_bodyOf_2 (by decide) (by omega) (by omega) (fun h1 => ?_) (fun h1 => ?_)
  · refine lv_aload_n hx hb d_AD_bodyOf_12 rfl (lv_at hl 1 rfl) ?_
    refine hp_alen S hK hM 0 f_t rfl d_AD_bodyOf_13 ?_
    refine lv_iconst (v := nI 1) hx hb d_AD_bodyOf_14 rfl ?_
    refine nb_iadd hx hb d_AD_bodyOf_15 ?_
    refine lv_bipush (v := nI 64) hx hb d_AD_bodyOf_16 rfl ?_
    refine nb_iadd hx hb d_AD_bodyOf_18 ?_
    refine hp_newi S hK hM hS hA (atype := .char) rfl ma_char 0 rfl rfl (by decide) (((tn.length) + 1) + 64) rfl (by omega) (by decide) (by show 0 + ((tn.length) + 1) + 64 ≤ 129; omega) d_AD_bodyOf_19 (fun q H hq_q hM hS => ?_)
    refine W.widen (k := 1) (n := 129) (by omega) (by omega) ?_
    rw [nf_0] at hM
    have ne_x_q : x ≠ q := hp_nn f_x hq_q
    have f_x := hp_k (e := (.inl (ct 0, ((tn.length) + 1) + 64, .inl (nf (fun _ => 0))))) ne_x_q f_x
    have ne_hg_q : hg ≠ q := hp_nn f_hg hq_q
    have f_hg := hp_k (e := (.inl (ct 0, ((tn.length) + 1) + 64, .inl (nf (fun _ => 0))))) ne_hg_q f_hg
    have ne_t_q : t ≠ q := hp_nn f_t hq_q
    have f_t := hp_k (e := (.inl (ct 0, ((tn.length) + 1) + 64, .inl (nf (fun _ => 0))))) ne_t_q f_t
    have f_q : hp_up M q (.inl (ct 0, ((tn.length) + 1) + 64, .inl (nf (fun _ => 0)))) q = some (.inl (ct 0, ((tn.length) + 1) + 64, .inl (nf (fun _ => 0)))) := hp_us
    obtain ⟨M2, eM2⟩ : ∃ z, z = hp_up M q (.inl (ct 0, ((tn.length) + 1) + 64, .inl (nf (fun _ => 0)))) := ⟨_, rfl⟩
    rw [← eM2] at hM f_x f_hg f_t f_q
    refine lv_astore_n (lv' := [(3, .ref q), (0, .ref x), (1, .ref t), (2, .int (nI k))]) hx hb d_AD_bodyOf_21 rfl hl (by decide) rfl (fun ls hl => ?_)
    refine lv_iconst (v := nI 0) hx hb d_AD_bodyOf_22 rfl ?_
    refine lv_istore (lv' := [(4, .int (nI 0)), (3, .ref q), (0, .ref x), (1, .ref t), (2, .int (nI k))]) hx hb d_AD_bodyOf_23 hl (by decide) rfl (fun ls hl => ?_)
    have h13 : k = 1 ∨ k = 3 := by omega
    replace hl : lv_has ls 5 [(0, .ref x), (1, .ref t), (3, .ref q), (4, .int (nI 0))] := lv_sub hl [2, 3, 1, 0] rfl
    obtain ⟨j, e9j⟩ : ∃ z : Nat, z = 0 := ⟨_, rfl⟩
    obtain ⟨gq, e9gq⟩ : ∃ z : Nat → Nat, z = fun _ => 0 := ⟨_, rfl⟩
    replace hl : lv_has ls 5 [(0, .ref x), (1, .ref t), (3, .ref q), (4, .int (nI j))] := by subst e9j e9gq; exact hl
    obtain ⟨locs, e9L⟩ : ∃ z : List Loc, z = [] := ⟨_, rfl⟩
    replace hS : va_S (hp_A M sz) s.heap H locs := by rw [e9L]; exact hS
    rw [← e9L]
    clear e9L
    obtain ⟨N3, e9N3⟩ : ∃ z : hp_M, z = M2 := ⟨_, rfl⟩
    replace hM : hp_H D ccl (hp_A M sz) N3 H := by rw [e9N3]; exact hM
    replace f_x : N3 x = some (.inr (0, [.ref xt, .ref sh, .ref ac, .int (nI na), .ref al, .int (nI nl), .ref sc, .ref hg])) := by rw [e9N3]; exact f_x
    replace f_hg : N3 hg = some (.inl (ct 0, 64, .inl (tx hd))) := by rw [e9N3]; exact f_hg
    replace f_t : N3 t = some (.inl (ct 0, tn.length, .inl (tx tn))) := by rw [e9N3]; exact f_t
    replace f_q : N3 q = some (.inl (ct 0, ((tn.length) + 1) + 64, .inl (nf (fun _ => 0)))) := by rw [e9N3]; exact f_q
    replace f_q : N3 q = some (.inl (ct 0, (tn.length + 1) + 64, .inl (nf gq))) := by subst e9j e9gq; exact f_q
    have hN : N3 = hp_up M q (.inl (ct 0, (tn.length + 1) + 64, .inl (nf gq))) := by subst e9j e9gq; exact e9N3.trans eM2
    have hgq : ∀ i, gq i = if i < j then tn.getD i 0 else 0 := by subst e9j e9gq; intro i; rw [if_neg (Nat.not_lt_zero i)]
    obtain ⟨fu, hn⟩ : ∃ fu : Nat, j + fu = tn.length := ⟨tn.length - j, by omega⟩
    clear e9j e9gq e9N3
    induction fu generalizing j gq H locs N3 ls with
    | zero =>
      have hn : j = tn.length := by omega
      subst hn
      refine lv_iload hx hb d_AD_bodyOf_25 (lv_at hl 3 rfl) ?_
      refine lv_aload_n hx hb d_AD_bodyOf_27 rfl (lv_at hl 1 rfl) ?_
      refine hp_alen S hK hM 0 f_t rfl d_AD_bodyOf_28 ?_
      refine nb_ge (tgt := 46) hx hb d_AD_bodyOf_29 (by decide) (by omega) (by omega) (fun h4 => ?_) (fun h4 => ?_)
      · refine lv_iconst (v := nI 0) hx hb d_AD_bodyOf_46 rfl ?_
        refine lv_istore (lv' := [(4, .int (nI 0)), (0, .ref x), (1, .ref t), (3, .ref q)]) hx hb d_AD_bodyOf_47 hl (by decide) rfl (fun ls hl => ?_)
        replace hl : lv_has ls 5 [(0, .ref x), (1, .ref t), (3, .ref q), (4, .int (nI 0))] := lv_sub hl [1, 2, 3, 0] rfl
        obtain ⟨i2, e9i2⟩ : ∃ z : Nat, z = 0 := ⟨_, rfl⟩
        obtain ⟨g2, e9g2⟩ : ∃ z : Nat → Nat, z = gq := ⟨_, rfl⟩
        replace hl : lv_has ls 5 [(0, .ref x), (1, .ref t), (3, .ref q), (4, .int (nI i2))] := by subst e9i2 e9g2; exact hl
        obtain ⟨N5, e9N5⟩ : ∃ z : hp_M, z = N3 := ⟨_, rfl⟩
        replace hM : hp_H D ccl (hp_A M sz) N5 H := by rw [e9N5]; exact hM
        replace f_x : N5 x = some (.inr (0, [.ref xt, .ref sh, .ref ac, .int (nI na), .ref al, .int (nI nl), .ref sc, .ref hg])) := by rw [e9N5]; exact f_x
        replace f_hg : N5 hg = some (.inl (ct 0, 64, .inl (tx hd))) := by rw [e9N5]; exact f_hg
        replace f_t : N5 t = some (.inl (ct 0, tn.length, .inl (tx tn))) := by rw [e9N5]; exact f_t
        replace f_q : N5 q = some (.inl (ct 0, (tn.length + 1) + 64, .inl (nf gq))) := by rw [e9N5]; exact f_q
        replace f_q : N5 q = some (.inl (ct 0, (tn.length + 1) + 64, .inl (nf g2))) := by subst e9i2 e9g2; exact f_q
        have hN2 : N5 = hp_up M q (.inl (ct 0, (tn.length + 1) + 64, .inl (nf g2))) := by subst e9i2 e9g2; exact e9N5.trans hN
        have hg2 : ∀ i, g2 i = if i < tn.length then tn.getD i 0 else if tn.length < i ∧ i < tn.length + 1 + i2 then hd.getD (i - tn.length - 1) 0 else 0 := by subst e9i2 e9g2; intro i; rw [hgq i]; by_cases z : i < tn.length; (rw [if_pos z, if_pos z]); (rw [if_neg z, if_neg z, if_neg (by omega)])
        obtain ⟨fu, hn⟩ : ∃ fu : Nat, i2 + fu = 64 := ⟨64 - i2, by omega⟩
        clear e9i2 e9g2 e9N5
        induction fu generalizing i2 g2 H locs N5 ls with
        | zero =>
          have hn : i2 = 64 := by omega
          subst hn
          have hlen : (tn ++ 0 :: hd).length = tn.length + 1 + 64 := by rw [List.length_append, List.length_cons, hdl]
          replace hM := hM.cong f_q (g := tx (tn ++ 0 :: hd)) (fun i hi => congrArg nI ((hg2 i).trans (body_at hdl hi)))
          rw [hN2, hp_uu] at hM
          refine lv_iload hx hb d_AD_bodyOf_49 (lv_at hl 3 rfl) ?_
          refine lv_bipush (v := nI 64) hx hb d_AD_bodyOf_51 rfl ?_
          refine nb_ge (tgt := 78) hx hb d_AD_bodyOf_53 (by decide) (by omega) (by omega) (fun h6 => ?_) (fun h6 => ?_)
          · refine lv_aload_n hx hb d_AD_bodyOf_78 rfl (lv_at hl 2 rfl) ?_
            exact hp_aret (some q) rfl S hret (Or.inr ⟨_, rfl⟩) hlk hM hS (Or.inl ⟨h13, q, rfl, hq_q, by rw [hlen]⟩) d_AD_bodyOf_79
          · exact absurd hn (by omega)
        | succ fu ih =>
          refine lv_iload hx hb d_AD_bodyOf_49 (lv_at hl 3 rfl) ?_
          refine lv_bipush (v := nI 64) hx hb d_AD_bodyOf_51 rfl ?_
          refine nb_ge (tgt := 78) hx hb d_AD_bodyOf_53 (by decide) (by omega) (by omega) (fun h7 => ?_) (fun h7 => ?_)
          · exact absurd hn (by omega)
          · refine lv_aload_n hx hb d_AD_bodyOf_56 rfl (lv_at hl 2 rfl) ?_
            refine lv_aload_n hx hb d_AD_bodyOf_57 rfl (lv_at hl 1 rfl) ?_
            refine hp_alen S hK hM 0 f_t rfl d_AD_bodyOf_58 ?_
            refine lv_iconst (v := nI 1) hx hb d_AD_bodyOf_59 rfl ?_
            refine nb_iadd hx hb d_AD_bodyOf_60 ?_
            refine lv_iload hx hb d_AD_bodyOf_61 (lv_at hl 3 rfl) ?_
            refine nb_iadd hx hb d_AD_bodyOf_63 ?_
            refine lv_aload_n hx hb d_AD_bodyOf_64 rfl (lv_at hl 0 rfl) ?_
            refine hp_get S hK hM i_AD f_x rfl 7 (by decide) mf_AD_46 (fun _ h9 => h9) rfl d_AD_bodyOf_65 ?_
            refine lv_iload hx hb d_AD_bodyOf_68 (lv_at hl 3 rfl) ?_
            refine hp_cald S hK hM 0 f_hg rfl i2 rfl (by omega) (by omega) d_AD_bodyOf_70 ?_
            refine hp_cast S hK hM hS 0 f_q rfl (((tn.length) + 1) + i2) rfl (by omega) (by omega) (nar_nI (hc_hd _)) d_AD_bodyOf_71 (fun H locs hM hS => ?_)
            rw [nf_up] at hM
            have f_x := hp_k (e := (.inl (ct 0, (tn.length + 1) + 64, .inl (nf (va_up g2 (((tn.length) + 1) + i2) (hd.getD i2 0)))))) ne_x_q f_x
            have f_hg := hp_k (e := (.inl (ct 0, (tn.length + 1) + 64, .inl (nf (va_up g2 (((tn.length) + 1) + i2) (hd.getD i2 0)))))) ne_hg_q f_hg
            have f_t := hp_k (e := (.inl (ct 0, (tn.length + 1) + 64, .inl (nf (va_up g2 (((tn.length) + 1) + i2) (hd.getD i2 0)))))) ne_t_q f_t
            have f_q : hp_up N5 q (.inl (ct 0, (tn.length + 1) + 64, .inl (nf (va_up g2 (((tn.length) + 1) + i2) (hd.getD i2 0))))) q = some (.inl (ct 0, (tn.length + 1) + 64, .inl (nf (va_up g2 (((tn.length) + 1) + i2) (hd.getD i2 0))))) := hp_us
            obtain ⟨M8, eM8⟩ : ∃ z, z = hp_up N5 q (.inl (ct 0, (tn.length + 1) + 64, .inl (nf (va_up g2 (((tn.length) + 1) + i2) (hd.getD i2 0))))) := ⟨_, rfl⟩
            rw [← eM8] at hM f_x f_hg f_t f_q
            refine lv_iinc (v := nI (i2 + 1)) (lv' := [(4, .int (nI (i2 + 1))), (0, .ref x), (1, .ref t), (3, .ref q)]) hx hb d_AD_bodyOf_72 hl (k := 3) rfl (nI_add i2 1) (by decide) rfl (fun ls hl => ?_)
            refine lv_goto (tgt := 49) hx hb d_AD_bodyOf_75 (by decide) ?_
            exact ih (ls := ls) (hl := lv_sub hl [1, 2, 3, 0] rfl) (i2 := i2 + 1) (hn := by omega) (g2 := va_up g2 ((tn.length + 1) + i2) (hd.getD i2 0)) (hN2 := by rw [eM8, hN2, hp_uu]) (hg2 := fun i => by by_cases z : i = tn.length + 1 + i2; (rw [z, up_s, if_neg (by omega), if_pos (by omega)]; congr 1; omega); (rw [up_n z, hg2 i]; by_cases y : i < tn.length; (rw [if_pos y, if_pos y]); (rw [if_neg y, if_neg y]; by_cases u : tn.length < i ∧ i < tn.length + 1 + i2; (rw [if_pos u, if_pos (by omega)]); (rw [if_neg u, if_neg (by omega)])))) (H := H) (locs := locs) (hM := hM) (hS := hS) (N5 := M8) (f_x := f_x) (f_hg := f_hg) (f_t := f_t) (f_q := f_q)
      · exact absurd hn (by omega)
    | succ fu ih =>
      refine lv_iload hx hb d_AD_bodyOf_25 (lv_at hl 3 rfl) ?_
      refine lv_aload_n hx hb d_AD_bodyOf_27 rfl (lv_at hl 1 rfl) ?_
      refine hp_alen S hK hM 0 f_t rfl d_AD_bodyOf_28 ?_
      refine nb_ge (tgt := 46) hx hb d_AD_bodyOf_29 (by decide) (by omega) (by omega) (fun h9 => ?_) (fun h9 => ?_)
      · exact absurd hn (by omega)
      · refine lv_aload_n hx hb d_AD_bodyOf_32 rfl (lv_at hl 2 rfl) ?_
        refine lv_iload hx hb d_AD_bodyOf_33 (lv_at hl 3 rfl) ?_
        refine lv_aload_n hx hb d_AD_bodyOf_35 rfl (lv_at hl 1 rfl) ?_
        refine lv_iload hx hb d_AD_bodyOf_36 (lv_at hl 3 rfl) ?_
        refine hp_cald S hK hM 0 f_t rfl j rfl (by omega) (by omega) d_AD_bodyOf_38 ?_
        refine hp_cast S hK hM hS 0 f_q rfl j rfl (by omega) (by omega) (nar_nI (hc_tn _)) d_AD_bodyOf_39 (fun H locs hM hS => ?_)
        rw [nf_up] at hM
        have f_x := hp_k (e := (.inl (ct 0, (tn.length + 1) + 64, .inl (nf (va_up gq j (tn.getD j 0)))))) ne_x_q f_x
        have f_hg := hp_k (e := (.inl (ct 0, (tn.length + 1) + 64, .inl (nf (va_up gq j (tn.getD j 0)))))) ne_hg_q f_hg
        have f_t := hp_k (e := (.inl (ct 0, (tn.length + 1) + 64, .inl (nf (va_up gq j (tn.getD j 0)))))) ne_t_q f_t
        have f_q : hp_up N3 q (.inl (ct 0, (tn.length + 1) + 64, .inl (nf (va_up gq j (tn.getD j 0))))) q = some (.inl (ct 0, (tn.length + 1) + 64, .inl (nf (va_up gq j (tn.getD j 0))))) := hp_us
        obtain ⟨M10, eM10⟩ : ∃ z, z = hp_up N3 q (.inl (ct 0, (tn.length + 1) + 64, .inl (nf (va_up gq j (tn.getD j 0))))) := ⟨_, rfl⟩
        rw [← eM10] at hM f_x f_hg f_t f_q
        refine lv_iinc (v := nI (j + 1)) (lv' := [(4, .int (nI (j + 1))), (0, .ref x), (1, .ref t), (3, .ref q)]) hx hb d_AD_bodyOf_40 hl (k := 3) rfl (nI_add j 1) (by decide) rfl (fun ls hl => ?_)
        refine lv_goto (tgt := 25) hx hb d_AD_bodyOf_43 (by decide) ?_
        exact ih (ls := ls) (hl := lv_sub hl [1, 2, 3, 0] rfl) (j := j + 1) (hn := by omega) (gq := va_up gq j (tn.getD j 0)) (hN := by rw [eM10, hN, hp_uu]) (hgq := fun i => by by_cases z : i = j; (rw [z, up_s, if_pos (Nat.lt_succ_self j)]); (rw [up_n z, hgq i]; by_cases y : i < j; (rw [if_pos y, if_pos (by omega)]); (rw [if_neg y, if_neg (by omega)]))) (H := H) (locs := locs) (hM := hM) (hS := hS) (N3 := M10) (f_x := f_x) (f_hg := f_hg) (f_t := f_t) (f_q := f_q)
  · refine lv_iload_n hx hb d_AD_bodyOf_5 rfl (lv_at hl 2 rfl) ?_
    refine lv_iconst (v := nI 3) hx hb d_AD_bodyOf_6 rfl ?_
    refine nb_eq (tgt := 12) hx hb d_AD_bodyOf_7 (by decide) (by omega) (by omega) (fun h11 => ?_) (fun h11 => ?_)
    · refine lv_aload_n hx hb d_AD_bodyOf_12 rfl (lv_at hl 1 rfl) ?_
      refine hp_alen S hK hM 0 f_t rfl d_AD_bodyOf_13 ?_
      refine lv_iconst (v := nI 1) hx hb d_AD_bodyOf_14 rfl ?_
      refine nb_iadd hx hb d_AD_bodyOf_15 ?_
      refine lv_bipush (v := nI 64) hx hb d_AD_bodyOf_16 rfl ?_
      refine nb_iadd hx hb d_AD_bodyOf_18 ?_
      refine hp_newi S hK hM hS hA (atype := .char) rfl ma_char 0 rfl rfl (by decide) (((tn.length) + 1) + 64) rfl (by omega) (by decide) (by show 0 + ((tn.length) + 1) + 64 ≤ 129; omega) d_AD_bodyOf_19 (fun q H hq_q hM hS => ?_)
      refine W.widen (k := 1) (n := 129) (by omega) (by omega) ?_
      rw [nf_0] at hM
      have ne_x_q : x ≠ q := hp_nn f_x hq_q
      have f_x := hp_k (e := (.inl (ct 0, ((tn.length) + 1) + 64, .inl (nf (fun _ => 0))))) ne_x_q f_x
      have ne_hg_q : hg ≠ q := hp_nn f_hg hq_q
      have f_hg := hp_k (e := (.inl (ct 0, ((tn.length) + 1) + 64, .inl (nf (fun _ => 0))))) ne_hg_q f_hg
      have ne_t_q : t ≠ q := hp_nn f_t hq_q
      have f_t := hp_k (e := (.inl (ct 0, ((tn.length) + 1) + 64, .inl (nf (fun _ => 0))))) ne_t_q f_t
      have f_q : hp_up M q (.inl (ct 0, ((tn.length) + 1) + 64, .inl (nf (fun _ => 0)))) q = some (.inl (ct 0, ((tn.length) + 1) + 64, .inl (nf (fun _ => 0)))) := hp_us
      obtain ⟨M12, eM12⟩ : ∃ z, z = hp_up M q (.inl (ct 0, ((tn.length) + 1) + 64, .inl (nf (fun _ => 0)))) := ⟨_, rfl⟩
      rw [← eM12] at hM f_x f_hg f_t f_q
      refine lv_astore_n (lv' := [(3, .ref q), (0, .ref x), (1, .ref t), (2, .int (nI k))]) hx hb d_AD_bodyOf_21 rfl hl (by decide) rfl (fun ls hl => ?_)
      refine lv_iconst (v := nI 0) hx hb d_AD_bodyOf_22 rfl ?_
      refine lv_istore (lv' := [(4, .int (nI 0)), (3, .ref q), (0, .ref x), (1, .ref t), (2, .int (nI k))]) hx hb d_AD_bodyOf_23 hl (by decide) rfl (fun ls hl => ?_)
      have h13 : k = 1 ∨ k = 3 := by omega
      replace hl : lv_has ls 5 [(0, .ref x), (1, .ref t), (3, .ref q), (4, .int (nI 0))] := lv_sub hl [2, 3, 1, 0] rfl
      obtain ⟨j, e9j⟩ : ∃ z : Nat, z = 0 := ⟨_, rfl⟩
      obtain ⟨gq, e9gq⟩ : ∃ z : Nat → Nat, z = fun _ => 0 := ⟨_, rfl⟩
      replace hl : lv_has ls 5 [(0, .ref x), (1, .ref t), (3, .ref q), (4, .int (nI j))] := by subst e9j e9gq; exact hl
      obtain ⟨locs, e9L⟩ : ∃ z : List Loc, z = [] := ⟨_, rfl⟩
      replace hS : va_S (hp_A M sz) s.heap H locs := by rw [e9L]; exact hS
      rw [← e9L]
      clear e9L
      obtain ⟨N13, e9N13⟩ : ∃ z : hp_M, z = M12 := ⟨_, rfl⟩
      replace hM : hp_H D ccl (hp_A M sz) N13 H := by rw [e9N13]; exact hM
      replace f_x : N13 x = some (.inr (0, [.ref xt, .ref sh, .ref ac, .int (nI na), .ref al, .int (nI nl), .ref sc, .ref hg])) := by rw [e9N13]; exact f_x
      replace f_hg : N13 hg = some (.inl (ct 0, 64, .inl (tx hd))) := by rw [e9N13]; exact f_hg
      replace f_t : N13 t = some (.inl (ct 0, tn.length, .inl (tx tn))) := by rw [e9N13]; exact f_t
      replace f_q : N13 q = some (.inl (ct 0, ((tn.length) + 1) + 64, .inl (nf (fun _ => 0)))) := by rw [e9N13]; exact f_q
      replace f_q : N13 q = some (.inl (ct 0, (tn.length + 1) + 64, .inl (nf gq))) := by subst e9j e9gq; exact f_q
      have hN : N13 = hp_up M q (.inl (ct 0, (tn.length + 1) + 64, .inl (nf gq))) := by subst e9j e9gq; exact e9N13.trans eM12
      have hgq : ∀ i, gq i = if i < j then tn.getD i 0 else 0 := by subst e9j e9gq; intro i; rw [if_neg (Nat.not_lt_zero i)]
      obtain ⟨fu, hn⟩ : ∃ fu : Nat, j + fu = tn.length := ⟨tn.length - j, by omega⟩
      clear e9j e9gq e9N13
      induction fu generalizing j gq H locs N13 ls with
      | zero =>
        have hn : j = tn.length := by omega
        subst hn
        refine lv_iload hx hb d_AD_bodyOf_25 (lv_at hl 3 rfl) ?_
        refine lv_aload_n hx hb d_AD_bodyOf_27 rfl (lv_at hl 1 rfl) ?_
        refine hp_alen S hK hM 0 f_t rfl d_AD_bodyOf_28 ?_
        refine nb_ge (tgt := 46) hx hb d_AD_bodyOf_29 (by decide) (by omega) (by omega) (fun h14 => ?_) (fun h14 => ?_)
        · refine lv_iconst (v := nI 0) hx hb d_AD_bodyOf_46 rfl ?_
          refine lv_istore (lv' := [(4, .int (nI 0)), (0, .ref x), (1, .ref t), (3, .ref q)]) hx hb d_AD_bodyOf_47 hl (by decide) rfl (fun ls hl => ?_)
          replace hl : lv_has ls 5 [(0, .ref x), (1, .ref t), (3, .ref q), (4, .int (nI 0))] := lv_sub hl [1, 2, 3, 0] rfl
          obtain ⟨i2, e9i2⟩ : ∃ z : Nat, z = 0 := ⟨_, rfl⟩
          obtain ⟨g2, e9g2⟩ : ∃ z : Nat → Nat, z = gq := ⟨_, rfl⟩
          replace hl : lv_has ls 5 [(0, .ref x), (1, .ref t), (3, .ref q), (4, .int (nI i2))] := by subst e9i2 e9g2; exact hl
          obtain ⟨N15, e9N15⟩ : ∃ z : hp_M, z = N13 := ⟨_, rfl⟩
          replace hM : hp_H D ccl (hp_A M sz) N15 H := by rw [e9N15]; exact hM
          replace f_x : N15 x = some (.inr (0, [.ref xt, .ref sh, .ref ac, .int (nI na), .ref al, .int (nI nl), .ref sc, .ref hg])) := by rw [e9N15]; exact f_x
          replace f_hg : N15 hg = some (.inl (ct 0, 64, .inl (tx hd))) := by rw [e9N15]; exact f_hg
          replace f_t : N15 t = some (.inl (ct 0, tn.length, .inl (tx tn))) := by rw [e9N15]; exact f_t
          replace f_q : N15 q = some (.inl (ct 0, (tn.length + 1) + 64, .inl (nf gq))) := by rw [e9N15]; exact f_q
          replace f_q : N15 q = some (.inl (ct 0, (tn.length + 1) + 64, .inl (nf g2))) := by subst e9i2 e9g2; exact f_q
          have hN2 : N15 = hp_up M q (.inl (ct 0, (tn.length + 1) + 64, .inl (nf g2))) := by subst e9i2 e9g2; exact e9N15.trans hN
          have hg2 : ∀ i, g2 i = if i < tn.length then tn.getD i 0 else if tn.length < i ∧ i < tn.length + 1 + i2 then hd.getD (i - tn.length - 1) 0 else 0 := by subst e9i2 e9g2; intro i; rw [hgq i]; by_cases z : i < tn.length; (rw [if_pos z, if_pos z]); (rw [if_neg z, if_neg z, if_neg (by omega)])
          obtain ⟨fu, hn⟩ : ∃ fu : Nat, i2 + fu = 64 := ⟨64 - i2, by omega⟩
          clear e9i2 e9g2 e9N15
          induction fu generalizing i2 g2 H locs N15 ls with
          | zero =>
            have hn : i2 = 64 := by omega
            subst hn
            have hlen : (tn ++ 0 :: hd).length = tn.length + 1 + 64 := by rw [List.length_append, List.length_cons, hdl]
            replace hM := hM.cong f_q (g := tx (tn ++ 0 :: hd)) (fun i hi => congrArg nI ((hg2 i).trans (body_at hdl hi)))
            rw [hN2, hp_uu] at hM
            refine lv_iload hx hb d_AD_bodyOf_49 (lv_at hl 3 rfl) ?_
            refine lv_bipush (v := nI 64) hx hb d_AD_bodyOf_51 rfl ?_
            refine nb_ge (tgt := 78) hx hb d_AD_bodyOf_53 (by decide) (by omega) (by omega) (fun h16 => ?_) (fun h16 => ?_)
            · refine lv_aload_n hx hb d_AD_bodyOf_78 rfl (lv_at hl 2 rfl) ?_
              exact hp_aret (some q) rfl S hret (Or.inr ⟨_, rfl⟩) hlk hM hS (Or.inl ⟨h13, q, rfl, hq_q, by rw [hlen]⟩) d_AD_bodyOf_79
            · exact absurd hn (by omega)
          | succ fu ih =>
            refine lv_iload hx hb d_AD_bodyOf_49 (lv_at hl 3 rfl) ?_
            refine lv_bipush (v := nI 64) hx hb d_AD_bodyOf_51 rfl ?_
            refine nb_ge (tgt := 78) hx hb d_AD_bodyOf_53 (by decide) (by omega) (by omega) (fun h17 => ?_) (fun h17 => ?_)
            · exact absurd hn (by omega)
            · refine lv_aload_n hx hb d_AD_bodyOf_56 rfl (lv_at hl 2 rfl) ?_
              refine lv_aload_n hx hb d_AD_bodyOf_57 rfl (lv_at hl 1 rfl) ?_
              refine hp_alen S hK hM 0 f_t rfl d_AD_bodyOf_58 ?_
              refine lv_iconst (v := nI 1) hx hb d_AD_bodyOf_59 rfl ?_
              refine nb_iadd hx hb d_AD_bodyOf_60 ?_
              refine lv_iload hx hb d_AD_bodyOf_61 (lv_at hl 3 rfl) ?_
              refine nb_iadd hx hb d_AD_bodyOf_63 ?_
              refine lv_aload_n hx hb d_AD_bodyOf_64 rfl (lv_at hl 0 rfl) ?_
              refine hp_get S hK hM i_AD f_x rfl 7 (by decide) mf_AD_46 (fun _ h9 => h9) rfl d_AD_bodyOf_65 ?_
              refine lv_iload hx hb d_AD_bodyOf_68 (lv_at hl 3 rfl) ?_
              refine hp_cald S hK hM 0 f_hg rfl i2 rfl (by omega) (by omega) d_AD_bodyOf_70 ?_
              refine hp_cast S hK hM hS 0 f_q rfl (((tn.length) + 1) + i2) rfl (by omega) (by omega) (nar_nI (hc_hd _)) d_AD_bodyOf_71 (fun H locs hM hS => ?_)
              rw [nf_up] at hM
              have f_x := hp_k (e := (.inl (ct 0, (tn.length + 1) + 64, .inl (nf (va_up g2 (((tn.length) + 1) + i2) (hd.getD i2 0)))))) ne_x_q f_x
              have f_hg := hp_k (e := (.inl (ct 0, (tn.length + 1) + 64, .inl (nf (va_up g2 (((tn.length) + 1) + i2) (hd.getD i2 0)))))) ne_hg_q f_hg
              have f_t := hp_k (e := (.inl (ct 0, (tn.length + 1) + 64, .inl (nf (va_up g2 (((tn.length) + 1) + i2) (hd.getD i2 0)))))) ne_t_q f_t
              have f_q : hp_up N15 q (.inl (ct 0, (tn.length + 1) + 64, .inl (nf (va_up g2 (((tn.length) + 1) + i2) (hd.getD i2 0))))) q = some (.inl (ct 0, (tn.length + 1) + 64, .inl (nf (va_up g2 (((tn.length) + 1) + i2) (hd.getD i2 0))))) := hp_us
              obtain ⟨M18, eM18⟩ : ∃ z, z = hp_up N15 q (.inl (ct 0, (tn.length + 1) + 64, .inl (nf (va_up g2 (((tn.length) + 1) + i2) (hd.getD i2 0))))) := ⟨_, rfl⟩
              rw [← eM18] at hM f_x f_hg f_t f_q
              refine lv_iinc (v := nI (i2 + 1)) (lv' := [(4, .int (nI (i2 + 1))), (0, .ref x), (1, .ref t), (3, .ref q)]) hx hb d_AD_bodyOf_72 hl (k := 3) rfl (nI_add i2 1) (by decide) rfl (fun ls hl => ?_)
              refine lv_goto (tgt := 49) hx hb d_AD_bodyOf_75 (by decide) ?_
              exact ih (ls := ls) (hl := lv_sub hl [1, 2, 3, 0] rfl) (i2 := i2 + 1) (hn := by omega) (g2 := va_up g2 ((tn.length + 1) + i2) (hd.getD i2 0)) (hN2 := by rw [eM18, hN2, hp_uu]) (hg2 := fun i => by by_cases z : i = tn.length + 1 + i2; (rw [z, up_s, if_neg (by omega), if_pos (by omega)]; congr 1; omega); (rw [up_n z, hg2 i]; by_cases y : i < tn.length; (rw [if_pos y, if_pos y]); (rw [if_neg y, if_neg y]; by_cases u : tn.length < i ∧ i < tn.length + 1 + i2; (rw [if_pos u, if_pos (by omega)]); (rw [if_neg u, if_neg (by omega)])))) (H := H) (locs := locs) (hM := hM) (hS := hS) (N15 := M18) (f_x := f_x) (f_hg := f_hg) (f_t := f_t) (f_q := f_q)
        · exact absurd hn (by omega)
      | succ fu ih =>
        refine lv_iload hx hb d_AD_bodyOf_25 (lv_at hl 3 rfl) ?_
        refine lv_aload_n hx hb d_AD_bodyOf_27 rfl (lv_at hl 1 rfl) ?_
        refine hp_alen S hK hM 0 f_t rfl d_AD_bodyOf_28 ?_
        refine nb_ge (tgt := 46) hx hb d_AD_bodyOf_29 (by decide) (by omega) (by omega) (fun h19 => ?_) (fun h19 => ?_)
        · exact absurd hn (by omega)
        · refine lv_aload_n hx hb d_AD_bodyOf_32 rfl (lv_at hl 2 rfl) ?_
          refine lv_iload hx hb d_AD_bodyOf_33 (lv_at hl 3 rfl) ?_
          refine lv_aload_n hx hb d_AD_bodyOf_35 rfl (lv_at hl 1 rfl) ?_
          refine lv_iload hx hb d_AD_bodyOf_36 (lv_at hl 3 rfl) ?_
          refine hp_cald S hK hM 0 f_t rfl j rfl (by omega) (by omega) d_AD_bodyOf_38 ?_
          refine hp_cast S hK hM hS 0 f_q rfl j rfl (by omega) (by omega) (nar_nI (hc_tn _)) d_AD_bodyOf_39 (fun H locs hM hS => ?_)
          rw [nf_up] at hM
          have f_x := hp_k (e := (.inl (ct 0, (tn.length + 1) + 64, .inl (nf (va_up gq j (tn.getD j 0)))))) ne_x_q f_x
          have f_hg := hp_k (e := (.inl (ct 0, (tn.length + 1) + 64, .inl (nf (va_up gq j (tn.getD j 0)))))) ne_hg_q f_hg
          have f_t := hp_k (e := (.inl (ct 0, (tn.length + 1) + 64, .inl (nf (va_up gq j (tn.getD j 0)))))) ne_t_q f_t
          have f_q : hp_up N13 q (.inl (ct 0, (tn.length + 1) + 64, .inl (nf (va_up gq j (tn.getD j 0))))) q = some (.inl (ct 0, (tn.length + 1) + 64, .inl (nf (va_up gq j (tn.getD j 0))))) := hp_us
          obtain ⟨M20, eM20⟩ : ∃ z, z = hp_up N13 q (.inl (ct 0, (tn.length + 1) + 64, .inl (nf (va_up gq j (tn.getD j 0))))) := ⟨_, rfl⟩
          rw [← eM20] at hM f_x f_hg f_t f_q
          refine lv_iinc (v := nI (j + 1)) (lv' := [(4, .int (nI (j + 1))), (0, .ref x), (1, .ref t), (3, .ref q)]) hx hb d_AD_bodyOf_40 hl (k := 3) rfl (nI_add j 1) (by decide) rfl (fun ls hl => ?_)
          refine lv_goto (tgt := 25) hx hb d_AD_bodyOf_43 (by decide) ?_
          exact ih (ls := ls) (hl := lv_sub hl [1, 2, 3, 0] rfl) (j := j + 1) (hn := by omega) (gq := va_up gq j (tn.getD j 0)) (hN := by rw [eM20, hN, hp_uu]) (hgq := fun i => by by_cases z : i = j; (rw [z, up_s, if_pos (Nat.lt_succ_self j)]); (rw [up_n z, hgq i]; by_cases y : i < j; (rw [if_pos y, if_pos (by omega)]); (rw [if_neg y, if_neg (by omega)]))) (H := H) (locs := locs) (hM := hM) (hS := hS) (N13 := M20) (f_x := f_x) (f_hg := f_hg) (f_t := f_t) (f_q := f_q)
    · refine lv_aload_n hx hb d_AD_bodyOf_10 rfl (lv_at hl 1 rfl) ?_
      refine W.widen (k := 1) (n := 129) (by decide) (by decide) ?_
      exact hp_aret (some t) rfl S hret (Or.inr ⟨_, rfl⟩) hlk hM hS (Or.inr ⟨by omega, rfl, rfl⟩) d_AD_bodyOf_11
set_option maxHeartbeats 4000000 in
set_option maxRecDepth 100000 in
/-- eight digits -/
theorem c_AD_editionDigits (l : Launch) (D : va_G) (ct : Nat → ClassId) (Z : hp_Z) (hZ : hp_Zok Z) (M : hp_M) (sz : Nat) (n : Nat) (hn8 : n ≤ 99999999) : Mq l y_AD_editionDigits b_AD_editionDigits 4 (some (.array .char)) 0 0 1 8 [.int (nI n)] D ct Z M sz (fun r M1 => ∃ q, r = some q ∧ M q = none ∧ M1 = hp_up M q (.inl (ct 0, (edL n).length, .inl (tx (edL n))))) := by
  refine hp_start (by decide) (Nat.le_of_ble_eq_true rfl) (fun p e s m below meth c ls S hret hlk hnm hsz hK hM hS hA hz hl => ?_)
  have hx := S.1
  have hb := S.2.1
  have hl : lv_has ls 4 [(0, .int (nI n))] := hl
  refine lv_bipush (v := nI 8) hx hb d_AD_editionDigits_0 rfl ?_
  refine hp_newi S hK hM hS hA (atype := .char) rfl ma_char 0 rfl rfl (by decide) 8 rfl (by omega) (by decide) (by decide) d_AD_editionDigits_2 (fun q H hq_q hM hS => ?_)
  refine W.widen (k := 1) (n := 8) (by omega) (by omega) ?_
  rw [nf_0] at hM
  have f_q : hp_up M q (.inl (ct 0, 8, .inl (nf (fun _ => 0)))) q = some (.inl (ct 0, 8, .inl (nf (fun _ => 0)))) := hp_us
  obtain ⟨M1, eM1⟩ : ∃ z, z = hp_up M q (.inl (ct 0, 8, .inl (nf (fun _ => 0)))) := ⟨_, rfl⟩
  rw [← eM1] at hM f_q
  refine lv_astore_n (lv' := [(1, .ref q), (0, .int (nI n))]) hx hb d_AD_editionDigits_4 rfl hl (by decide) rfl (fun ls hl => ?_)
  refine lv_iload_n hx hb d_AD_editionDigits_5 rfl (lv_at hl 1 rfl) ?_
  refine lv_istore_n (lv' := [(2, .int (nI n)), (1, .ref q), (0, .int (nI n))]) hx hb d_AD_editionDigits_6 rfl hl (by decide) rfl (fun ls hl => ?_)
  refine lv_bipush (v := nI 7) hx hb d_AD_editionDigits_7 rfl ?_
  refine lv_istore_n (lv' := [(3, .int (nI 7)), (2, .int (nI n)), (1, .ref q), (0, .int (nI n))]) hx hb d_AD_editionDigits_9 rfl hl (by decide) rfl (fun ls hl => ?_)
  replace hl : lv_has ls 4 [(1, .ref q), (2, .int (nI n)), (3, .int (nI 7))] := lv_sub hl [2, 1, 0] rfl
  obtain ⟨locs, e9L⟩ : ∃ z : List Loc, z = [] := ⟨_, rfl⟩
  replace hS : va_S (hp_A M sz) s.heap H locs := by rw [e9L]; exact hS
  rw [← e9L]
  clear e9L
  obtain ⟨u, e9u⟩ : ∃ z : Nat, z = 8 := ⟨_, rfl⟩
  obtain ⟨lf, e9f⟩ : ∃ z : Nat, z = n := ⟨_, rfl⟩
  obtain ⟨gq, e9g⟩ : ∃ z : Nat → Nat, z = fun _ => 0 := ⟨_, rfl⟩
  replace hl : lv_has ls 4 [(1, .ref q), (2, .int (nI lf)), (3, .int (nI u - nI 1))] := by subst e9u e9f; exact hl
  obtain ⟨N, e9N⟩ : ∃ z : hp_M, z = M1 := ⟨_, rfl⟩
  replace hM : hp_H D ccl (hp_A M sz) N H := by rw [e9N]; exact hM
  replace f_q : N q = some (.inl (ct 0, 8, .inl (nf gq))) := by rw [e9N, e9g]; exact f_q
  have hN : N = hp_up M q (.inl (ct 0, 8, .inl (nf gq))) := by rw [e9N, e9g]; exact eM1
  have hu : u ≤ 8 := by omega
  have hlf : lf = n / 10 ^ (8 - u) := by rw [e9u, e9f]; simp
  have hgq : ∀ k, u ≤ k → k < 8 → gq k = 48 + n / 10 ^ (7 - k) % 10 := fun k h1 h2 => by omega
  have hlb : lf ≤ 99999999 := by omega
  clear e9u e9f e9g e9N
  induction u generalizing lf gq N H locs ls with
  | zero =>
    replace hM := hM.cong f_q (g := tx (edL n)) (fun i hi => congrArg nI ((hgq i (Nat.zero_le i) hi).trans (edL_at hi).symm))
    rw [hN, hp_uu] at hM
    refine lv_iload_n hx hb d_AD_editionDigits_10 rfl (lv_at hl 2 rfl) ?_
    refine lv_if_lt (tgt := 36) hx hb d_AD_editionDigits_11 (by decide) (fun h2 => ?_) (fun h2 => ?_)
    · refine lv_aload_n hx hb d_AD_editionDigits_36 rfl (lv_at hl 0 rfl) ?_
      exact hp_aret (some q) rfl S hret (Or.inr ⟨_, rfl⟩) hlk hM hS (⟨q, rfl, hq_q, rfl⟩) d_AD_editionDigits_37
    · exact absurd (by decide) h2
  | succ u ih =>
    replace hl : lv_has ls 4 [(1, .ref q), (2, .int (nI lf)), (3, .int (nI u))] := by rw [show nI u = nI (u + 1) - nI 1 by rw [pk_sub (by omega)]; rfl]; exact hl
    refine lv_iload_n hx hb d_AD_editionDigits_10 rfl (lv_at hl 2 rfl) ?_
    refine nz_lt (tgt := 36) hx hb d_AD_editionDigits_11 (by decide) (by omega) (fun h3 => ?_) (fun h3 => ?_)
    · exact absurd h3 (fun q => q)
    · refine lv_aload_n hx hb d_AD_editionDigits_14 rfl (lv_at hl 0 rfl) ?_
      refine lv_iload_n hx hb d_AD_editionDigits_15 rfl (lv_at hl 2 rfl) ?_
      refine lv_bipush (v := nI 48) hx hb d_AD_editionDigits_16 rfl ?_
      refine lv_iload_n hx hb d_AD_editionDigits_18 rfl (lv_at hl 1 rfl) ?_
      refine lv_bipush (v := nI 10) hx hb d_AD_editionDigits_19 rfl ?_
      refine nb_irem hx hb d_AD_editionDigits_21 (by omega) (by omega) (by omega) ?_
      refine nb_iadd hx hb d_AD_editionDigits_22 ?_
      refine lv_i2c hx hb d_AD_editionDigits_23 (i2c_nI (by omega)) ?_
      refine hp_cast S hK hM hS 0 f_q rfl u rfl (by omega) (by omega) (nar_nI (by omega)) d_AD_editionDigits_24 (fun H locs hM hS => ?_)
      rw [nf_up] at hM
      have f_q : hp_up N q (.inl (ct 0, 8, .inl (nf (va_up gq u (48 + (lf % 10)))))) q = some (.inl (ct 0, 8, .inl (nf (va_up gq u (48 + (lf % 10)))))) := hp_us
      obtain ⟨M4, eM4⟩ : ∃ z, z = hp_up N q (.inl (ct 0, 8, .inl (nf (va_up gq u (48 + (lf % 10)))))) := ⟨_, rfl⟩
      rw [← eM4] at hM f_q
      refine lv_iload_n hx hb d_AD_editionDigits_25 rfl (lv_at hl 1 rfl) ?_
      refine lv_bipush (v := nI 10) hx hb d_AD_editionDigits_26 rfl ?_
      refine nb_idiv hx hb d_AD_editionDigits_28 (by omega) (by omega) (by omega) ?_
      refine lv_istore_n (lv' := [(2, .int (nI (lf / 10))), (1, .ref q), (3, .int (nI u))]) hx hb d_AD_editionDigits_29 rfl hl (by decide) rfl (fun ls hl => ?_)
      refine lv_iinc (v := nI u - nI 1) (lv' := [(3, .int (nI u - nI 1)), (2, .int (nI (lf / 10))), (1, .ref q)]) hx hb d_AD_editionDigits_30 hl (k := 2) rfl (iinc_m1 _) (by decide) rfl (fun ls hl => ?_)
      refine lv_goto (tgt := 10) hx hb d_AD_editionDigits_33 (by decide) ?_
      exact ih (lf := lf / 10) (gq := va_up gq u (48 + lf % 10)) (N := M4) (H := H) (locs := locs) (ls := ls) (hl := lv_sub hl [2, 1, 0] rfl) (hM := hM) (hS := hS) (f_q := f_q) (hN := by rw [eM4, hN, hp_uu]) (hu := by omega) (hlf := by rw [hlf, Nat.div_div_eq_div_mul, ← Nat.pow_succ]; congr 2; omega) (hgq := fun k h1 h2 => by by_cases z : k = u; (rw [z, up_s, hlf]; congr 3; congr 1; omega); (rw [up_n z]; exact hgq k (by omega) h2)) (hlb := by omega)
