/-- digits of sixteen -/
def hexC (d : Nat) : Nat := if d < 10 then 48 + d else 97 + d - 10
def hexF (s : Nat → Int32) (i : Nat) : Nat := hexC (nibN (s (i / 8)) (28 - 4 * (i % 8)))
set_option maxHeartbeats 4000000 in
set_option maxRecDepth 100000 in
/-- the sums as digits -/
theorem c_SH_writeDigits (l : Launch) (D : va_G) (ct : Nat → ClassId) (Z : hp_Z) (hZ : hp_Zok Z) (M : hp_M) (sz : Nat) (sh su wo : Nat) (Y : ShT) (hsh : shOk ct M sh su wo Y) (hg : Nat) (g0 : Nat → Nat) (f_hg : M hg = some (.inl (ct 0, 64, .inl (nf g0)))) : Mv l y_SH_writeDigits b_SH_writeDigits 4 none 0 0 0 0 [.ref sh, .ref hg] D ct Z M sz (fun M1 => M1 = hp_up M hg (.inl (ct 0, 64, .inl (nf (hexF Y.1))))) := by
  refine hp_start (by decide) (Nat.le_of_ble_eq_true rfl) (fun p e s m below meth c ls S hret hlk hnm hsz hK hM hS hA hz hl => ?_)
  have hx := S.1
  have hb := S.2.1
  have hl : lv_has ls 4 [(0, .ref sh), (1, .ref hg)] := hl
  obtain ⟨f_su, f_wo, f_sh, hfl⟩ := id hsh
  have f0_hg := f_hg
  refine lv_iconst (v := nI 0) hx hb d_SH_writeDigits_0 rfl ?_
  refine lv_istore_n (lv' := [(2, .int (nI 0)), (0, .ref sh), (1, .ref hg)]) hx hb d_SH_writeDigits_1 rfl hl (by decide) rfl (fun ls hl => ?_)
  replace hl : lv_has ls 4 [(0, .ref sh), (1, .ref hg), (2, .int (nI 0))] := lv_sub hl [1, 2, 0] rfl
  obtain ⟨j, e9j⟩ : ∃ z : Nat, z = 0 := ⟨_, rfl⟩
  obtain ⟨gq, e9gq⟩ : ∃ z : Nat → Nat, z = g0 := ⟨_, rfl⟩
  replace hl : lv_has ls 4 [(0, .ref sh), (1, .ref hg), (2, .int (nI j))] := by subst e9j e9gq; exact hl
  obtain ⟨H, e9H⟩ : ∃ z : Heap, z = s.heap := ⟨_, rfl⟩
  replace hM : hp_H D ccl (hp_A M sz) M H := by rw [e9H]; exact hM
  replace hS : va_S (hp_A M sz) s.heap H [] := by rw [e9H]; exact hS
  rw [← e9H]
  clear e9H
  obtain ⟨locs, e9L⟩ : ∃ z : List Loc, z = [] := ⟨_, rfl⟩
  replace hS : va_S (hp_A M sz) s.heap H locs := by rw [e9L]; exact hS
  rw [← e9L]
  clear e9L
  obtain ⟨N1, e9N1⟩ : ∃ z : hp_M, z = M := ⟨_, rfl⟩
  replace hM : hp_H D ccl (hp_A M sz) N1 H := by rw [e9N1]; exact hM
  replace f_su : N1 su = some (.inl (ct 1, 8, .inl (Y.1))) := by rw [e9N1]; exact f_su
  replace f_wo : N1 wo = some (.inl (ct 1, 64, .inl (Y.2.1))) := by rw [e9N1]; exact f_wo
  replace f_sh : N1 sh = some (.inr (2, [.ref su, .ref wo, .int (nI Y.2.2.1), .long Y.2.2.2])) := by rw [e9N1]; exact f_sh
  replace f_hg : N1 hg = some (.inl (ct 0, 64, .inl (nf g0))) := by rw [e9N1]; exact f_hg
  replace f_hg : N1 hg = some (.inl (ct 0, 64, .inl (nf gq))) := by subst e9j e9gq; exact f_hg
  have hN : N1 = hp_up M hg (.inl (ct 0, 64, .inl (nf gq))) := by subst e9j e9gq; rw [hp_same f0_hg]; exact e9N1
  have hgq : ∀ i, i < j → gq i = hexF Y.1 i := by subst e9j e9gq; intro i hi; omega
  obtain ⟨fu, hn⟩ : ∃ fu : Nat, j + fu = 64 := ⟨64 - j, by omega⟩
  clear e9j e9gq e9N1
  induction fu generalizing j gq H locs N1 ls with
  | zero =>
    have hn : j = 64 := by omega
    replace hM := hM.cong f_hg (g := nf (hexF Y.1)) (fun i hi => congrArg nI (hgq i (by omega)))
    rw [hN, hp_uu] at hM
    refine lv_iload_n hx hb d_SH_writeDigits_2 rfl (lv_at hl 2 rfl) ?_
    refine lv_bipush (v := nI 64) hx hb d_SH_writeDigits_3 rfl ?_
    refine nb_ge (tgt := 66) hx hb d_SH_writeDigits_5 (by decide) (by omega) (by omega) (fun h2 => ?_) (fun h2 => ?_)
    · exact hp_vret S hret hlk hM hS (rfl) d_SH_writeDigits_66
    · exact absurd hn (by omega)
  | succ fu ih =>
    refine lv_iload_n hx hb d_SH_writeDigits_2 rfl (lv_at hl 2 rfl) ?_
    refine lv_bipush (v := nI 64) hx hb d_SH_writeDigits_3 rfl ?_
    refine nb_ge (tgt := 66) hx hb d_SH_writeDigits_5 (by decide) (by omega) (by omega) (fun h3 => ?_) (fun h3 => ?_)
    · exact absurd hn (by omega)
    · refine lv_iload_n hx hb d_SH_writeDigits_8 rfl (lv_at hl 2 rfl) ?_
      refine lv_aload_n hx hb d_SH_writeDigits_9 rfl (lv_at hl 1 rfl) ?_
      refine hp_alen S hK hM 0 f_hg rfl d_SH_writeDigits_10 ?_
      refine nb_ge (tgt := 66) hx hb d_SH_writeDigits_11 (by decide) (by omega) (by omega) (fun h4 => ?_) (fun h4 => ?_)
      · exact absurd h4 (by omega)
      · refine lv_aload_n hx hb d_SH_writeDigits_14 rfl (lv_at hl 0 rfl) ?_
        refine hp_get S hK hM i_SH f_sh rfl 0 (by decide) mf_SH_9 (fun _ h9 => h9) rfl d_SH_writeDigits_15 ?_
        refine lv_iload_n hx hb d_SH_writeDigits_18 rfl (lv_at hl 2 rfl) ?_
        refine lv_iconst (v := nI 3) hx hb d_SH_writeDigits_19 rfl ?_
        refine lv_ishr hx hb d_SH_writeDigits_20 ?_
        rw [shr3 (by omega)]
        refine hp_iald S hK hM 1 f_su rfl (j / 8) rfl (by omega) (by omega) d_SH_writeDigits_21 ?_
        refine lv_bipush (v := nI 28) hx hb d_SH_writeDigits_22 rfl ?_
        refine lv_iconst (v := nI 4) hx hb d_SH_writeDigits_24 rfl ?_
        refine lv_iload_n hx hb d_SH_writeDigits_25 rfl (lv_at hl 2 rfl) ?_
        refine lv_bipush (v := nI 7) hx hb d_SH_writeDigits_26 rfl ?_
        refine lv_iand hx hb d_SH_writeDigits_28 ?_
        rw [and7 (by omega)]
        refine nb_imul hx hb d_SH_writeDigits_29 ?_
        refine nb_isub hx hb d_SH_writeDigits_30 (by omega) ?_
        refine lv_iushr hx hb d_SH_writeDigits_31 rfl ?_
        refine lv_bipush (v := nI 15) hx hb d_SH_writeDigits_32 rfl ?_
        refine lv_iand hx hb d_SH_writeDigits_34 ?_
        rw [nib_eq _ (by omega)]
        have hnb : nibN (Y.1 (j / 8)) (28 - 4 * (j % 8)) < 16 := Nat.mod_lt _ (by decide)
        obtain ⟨d, ed⟩ : ∃ z : Nat, z = nibN (Y.1 (j / 8)) (28 - 4 * (j % 8)) := ⟨_, rfl⟩
        rw [← ed] at hnb ⊢
        refine lv_istore_n (lv' := [(3, .int (nI d)), (0, .ref sh), (1, .ref hg), (2, .int (nI j))]) hx hb d_SH_writeDigits_35 rfl hl (by decide) rfl (fun ls hl => ?_)
        refine lv_aload_n hx hb d_SH_writeDigits_36 rfl (lv_at hl 2 rfl) ?_
        refine lv_iload_n hx hb d_SH_writeDigits_37 rfl (lv_at hl 3 rfl) ?_
        refine lv_iload_n hx hb d_SH_writeDigits_38 rfl (lv_at hl 0 rfl) ?_
        refine lv_bipush (v := nI 10) hx hb d_SH_writeDigits_39 rfl ?_
        refine nb_ge (tgt := 51) hx hb d_SH_writeDigits_41 (by decide) (by omega) (by omega) (fun h10 => ?_) (fun h10 => ?_)
        · refine lv_bipush (v := nI 97) hx hb d_SH_writeDigits_51 rfl ?_
          refine lv_iload_n hx hb d_SH_writeDigits_53 rfl (lv_at hl 0 rfl) ?_
          refine nb_iadd hx hb d_SH_writeDigits_54 ?_
          refine lv_bipush (v := nI 10) hx hb d_SH_writeDigits_55 rfl ?_
          refine nb_isub hx hb d_SH_writeDigits_57 (by omega) ?_
          refine lv_i2c hx hb d_SH_writeDigits_58 (i2c_nI (by omega)) ?_
          refine hp_cast S hK hM hS 0 f_hg rfl j rfl (by omega) (by omega) (nar_nI (by omega)) d_SH_writeDigits_59 (fun H locs hM hS => ?_)
          rw [nf_up] at hM
          have f_su := hp_k (e := (.inl (ct 0, 64, .inl (nf (va_up gq j ((97 + d) - 10)))))) (hp_ne f_su f_hg (fun q9 => ct_ne hK (i := 1) (j := 0) rfl rfl (by decide) (congrArg Prod.fst (Sum.inl.inj q9)))) f_su
          have f_wo := hp_k (e := (.inl (ct 0, 64, .inl (nf (va_up gq j ((97 + d) - 10)))))) (hp_ne f_wo f_hg (fun q9 => ct_ne hK (i := 1) (j := 0) rfl rfl (by decide) (congrArg Prod.fst (Sum.inl.inj q9)))) f_wo
          have f_sh := hp_k (e := (.inl (ct 0, 64, .inl (nf (va_up gq j ((97 + d) - 10)))))) (hp_ne f_sh f_hg (by simp)) f_sh
          have f_hg : hp_up N1 hg (.inl (ct 0, 64, .inl (nf (va_up gq j ((97 + d) - 10))))) hg = some (.inl (ct 0, 64, .inl (nf (va_up gq j ((97 + d) - 10))))) := hp_us
          obtain ⟨M5, eM5⟩ : ∃ z, z = hp_up N1 hg (.inl (ct 0, 64, .inl (nf (va_up gq j ((97 + d) - 10))))) := ⟨_, rfl⟩
          rw [← eM5] at hM f_su f_wo f_sh f_hg
          refine lv_iinc (v := nI (j + 1)) (lv' := [(2, .int (nI (j + 1))), (3, .int (nI d)), (0, .ref sh), (1, .ref hg)]) hx hb d_SH_writeDigits_60 hl (k := 3) rfl (nI_add j 1) (by decide) rfl (fun ls hl => ?_)
          refine lv_goto (tgt := 2) hx hb d_SH_writeDigits_63 (by decide) ?_
          exact ih (ls := ls) (hl := lv_sub hl [2, 3, 0] rfl) (j := j + 1) (hn := by omega) (gq := va_up gq j ((97 + d) - 10)) (hN := by rw [eM5, hN, hp_uu]) (hgq := lt_s (fun i hi => by rw [up_n (Nat.ne_of_lt hi)]; exact hgq i hi) (by rw [up_s]; unfold hexF hexC; rw [← ed]; first | rw [if_pos h10] | rw [if_neg (by omega)])) (H := H) (locs := locs) (hM := hM) (hS := hS) (N1 := M5) (f_su := f_su) (f_wo := f_wo) (f_sh := f_sh) (f_hg := f_hg)
        · refine lv_bipush (v := nI 48) hx hb d_SH_writeDigits_44 rfl ?_
          refine lv_iload_n hx hb d_SH_writeDigits_46 rfl (lv_at hl 0 rfl) ?_
          refine nb_iadd hx hb d_SH_writeDigits_47 ?_
          refine lv_goto (tgt := 58) hx hb d_SH_writeDigits_48 (by decide) ?_
          refine lv_i2c hx hb d_SH_writeDigits_58 (i2c_nI (by omega)) ?_
          refine hp_cast S hK hM hS 0 f_hg rfl j rfl (by omega) (by omega) (nar_nI (by omega)) d_SH_writeDigits_59 (fun H locs hM hS => ?_)
          rw [nf_up] at hM
          have f_su := hp_k (e := (.inl (ct 0, 64, .inl (nf (va_up gq j (48 + d)))))) (hp_ne f_su f_hg (fun q9 => ct_ne hK (i := 1) (j := 0) rfl rfl (by decide) (congrArg Prod.fst (Sum.inl.inj q9)))) f_su
          have f_wo := hp_k (e := (.inl (ct 0, 64, .inl (nf (va_up gq j (48 + d)))))) (hp_ne f_wo f_hg (fun q9 => ct_ne hK (i := 1) (j := 0) rfl rfl (by decide) (congrArg Prod.fst (Sum.inl.inj q9)))) f_wo
          have f_sh := hp_k (e := (.inl (ct 0, 64, .inl (nf (va_up gq j (48 + d)))))) (hp_ne f_sh f_hg (by simp)) f_sh
          have f_hg : hp_up N1 hg (.inl (ct 0, 64, .inl (nf (va_up gq j (48 + d))))) hg = some (.inl (ct 0, 64, .inl (nf (va_up gq j (48 + d))))) := hp_us
          obtain ⟨M6, eM6⟩ : ∃ z, z = hp_up N1 hg (.inl (ct 0, 64, .inl (nf (va_up gq j (48 + d))))) := ⟨_, rfl⟩
          rw [← eM6] at hM f_su f_wo f_sh f_hg
          refine lv_iinc (v := nI (j + 1)) (lv' := [(2, .int (nI (j + 1))), (3, .int (nI d)), (0, .ref sh), (1, .ref hg)]) hx hb d_SH_writeDigits_60 hl (k := 3) rfl (nI_add j 1) (by decide) rfl (fun ls hl => ?_)
          refine lv_goto (tgt := 2) hx hb d_SH_writeDigits_63 (by decide) ?_
          exact ih (ls := ls) (hl := lv_sub hl [2, 3, 0] rfl) (j := j + 1) (hn := by omega) (gq := va_up gq j (48 + d)) (hN := by rw [eM6, hN, hp_uu]) (hgq := lt_s (fun i hi => by rw [up_n (Nat.ne_of_lt hi)]; exact hgq i hi) (by rw [up_s]; unfold hexF hexC; rw [← ed]; first | rw [if_pos h10] | rw [if_neg (by omega)])) (H := H) (locs := locs) (hM := hM) (hS := hS) (N1 := M6) (f_su := f_su) (f_wo := f_wo) (f_sh := f_sh) (f_hg := f_hg)
