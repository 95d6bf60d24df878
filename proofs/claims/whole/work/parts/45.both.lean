/-! CLASS AND MODEL SIDE BY SIDE -/
def bothC (ct : Nat → ClassId) (Mc Mm : hp_M) (x md c : Nat) : Prop := ∃ (xt ch sh su wo ac al sc hg : Nat) (T : List Nat) (Y : ShT) (As : List (List RowT)) (Al : List (List Nat)) (sa hd : List Nat) (B : MA) (V : MS) (LL : List (List MR)), adW ct Mc x xt ch sh su wo ac al sc hg T Y As Al sa hd ∧ mdS ct Mm md B V ∧ one V T LL As Al sa hd ∧ V.co = c
def both (ct : Nat → ClassId) (Mc Mm : hp_M) (x md : Nat) : Prop := ∃ c, bothC ct Mc Mm x md c
theorem bothC.b {ct : Nat → ClassId} {Mc Mm : hp_M} {x md c : Nat} (h : bothC ct Mc Mm x md c) : both ct Mc Mm x md := ⟨c, h⟩
theorem b_rows (l : Launch) (D : va_G) (ct : Nat → ClassId) (Z : hp_Z) (hZ : hp_Zok Z) {Mc Mm : hp_M} {x md : Nat} (h : both ct Mc Mm x md) (k : Int32) : ∃ Pc Pm : Int32 → hp_M → Prop, (∀ sz, Mi l y_AD_rows b_AD_rows 5 (some .int) 5 103 0 0 [.ref x, .int k] D ct Z Mc sz Pc) ∧ (∀ sz, Mi l y_MD_rows b_MD_rows 2 (some .int) 2 47 0 0 [.ref md, .int k] D ct Z Mm sz Pm) ∧ ∀ r r1 M1 M2, Pc r M1 → Pm r1 M2 → r = r1 ∧ both ct M1 M2 x md := by
  obtain ⟨c, xt, ch, sh, su, wo, ac, al, sc, hg, T, Y, As, Al, sa, hd, B, V, LL, hc, hm, h1, ec⟩ := h
  have h1s := h1
  obtain ⟨t1, t2, t3, t4, t5, t6, t7, t8, t9, t10, t11, t12, t13⟩ := h1
  obtain ⟨OO, hO⟩ := one_OO h1s
  refine ⟨_, _, fun sz => c_AD_rows l D ct Z hZ Mc sz (fzc ch hg) x As Al hc.atP.1 hc.atP.2 k, fun sz => c_MD_rows l D ct Z hZ Mm sz md B V hm LL t5 Al t6 OO (fun j hj => (hO j hj).1) k, fun r r1 M1 M2 e1 e2 => ?_⟩
  obtain ⟨rfl, e1⟩ := e1
  obtain ⟨e2, hw⟩ := e2
  refine ⟨?_, ⟨_, xt, ch, sh, su, wo, ac, al, sc, hg, T, Y, As, Al, sa, hd, B, _, LL, hc, hw, h1s, rfl⟩⟩
  exact on_same t12 t5.2.1 e1 e2 (fun j hj a b => by rw [a, b, ← (hO j hj).2.1, List.length_map])
theorem b_size (l : Launch) (D : va_G) (ct : Nat → ClassId) (Z : hp_Z) (hZ : hp_Zok Z) {Mc Mm : hp_M} {x md : Nat} (h : both ct Mc Mm x md) (k : Int32) : ∃ Pc Pm : Int32 → hp_M → Prop, (∀ sz, Mi l y_AD_size b_AD_size 6 (some .int) 5 103 0 0 [.ref x, .int k] D ct Z Mc sz Pc) ∧ (∀ sz, Mi l y_MD_size b_MD_size 2 (some .int) 3 77 0 0 [.ref md, .int k] D ct Z Mm sz Pm) ∧ ∀ r r1 M1 M2, Pc r M1 → Pm r1 M2 → r = r1 ∧ both ct M1 M2 x md := by
  obtain ⟨c, xt, ch, sh, su, wo, ac, al, sc, hg, T, Y, As, Al, sa, hd, B, V, LL, hc, hm, h1, ec⟩ := h
  have h1s := h1
  obtain ⟨t1, t2, t3, t4, t5, t6, t7, t8, t9, t10, t11, t12, t13⟩ := h1
  obtain ⟨OO, hO⟩ := one_OO h1s
  refine ⟨_, _, fun sz => c_AD_size l D ct Z hZ Mc sz (fzc ch hg) x As Al hc.atP.1 hc.atP.2 k, fun sz => c_MD_size l D ct Z hZ Mm sz md B V hm LL t5 Al t6 OO (fun j hj => (hO j hj).1) k, fun r r1 M1 M2 e1 e2 => ?_⟩
  obtain ⟨rfl, e1⟩ := e1
  obtain ⟨e2, sb, ss, hw⟩ := e2
  refine ⟨?_, ⟨_, xt, ch, sh, su, wo, ac, al, sc, hg, T, Y, As, Al, sa, hd, B, _, LL, hc, hw, h1s, rfl⟩⟩
  exact on_same t12 t5.2.1 e1 e2 (fun j hj a b => by rw [a, b, (hO j hj).2.1])
theorem b_kind (l : Launch) (D : va_G) (ct : Nat → ClassId) (Z : hp_Z) (hZ : hp_Zok Z) {Mc Mm : hp_M} {x md : Nat} (h : both ct Mc Mm x md) (k : Int32) (k2 : Int32) : ∃ Pc Pm : Int32 → hp_M → Prop, (∀ sz, Mi l y_AD_kind b_AD_kind 5 (some .int) 6 128 0 0 [.ref x, .int k, .int k2] D ct Z Mc sz Pc) ∧ (∀ sz, Mi l y_MD_kind b_MD_kind 3 (some .int) 2 50 0 0 [.ref md, .int k, .int k2] D ct Z Mm sz Pm) ∧ ∀ r r1 M1 M2, Pc r M1 → Pm r1 M2 → r = r1 ∧ both ct M1 M2 x md := by
  obtain ⟨c, xt, ch, sh, su, wo, ac, al, sc, hg, T, Y, As, Al, sa, hd, B, V, LL, hc, hm, h1, ec⟩ := h
  have h1s := h1
  obtain ⟨t1, t2, t3, t4, t5, t6, t7, t8, t9, t10, t11, t12, t13⟩ := h1
  obtain ⟨OO, hO⟩ := one_OO h1s
  refine ⟨_, _, fun sz => c_AD_kind l D ct Z hZ Mc sz (fzc ch hg) x As Al hc.atP.1 hc.atP.2 k k2, fun sz => c_MD_kind l D ct Z hZ Mm sz md B V hm LL t5 Al t6 OO (fun j hj => (hO j hj).1) k k2, fun r r1 M1 M2 e1 e2 => ?_⟩
  obtain ⟨rfl, e1⟩ := e1
  obtain ⟨e2, hw⟩ := e2
  refine ⟨?_, ⟨_, xt, ch, sh, su, wo, ac, al, sc, hg, T, Y, As, Al, sa, hd, B, _, LL, hc, hw, h1s, rfl⟩⟩
  refine on_same t12 t5.2.1 e1 e2 (fun j hj a b => ?_)
  rw [← (hO j hj).2.1, List.length_map] at a
  have h48 := (hO j hj).2.2.1
  exact onK_same (by omega) a b (fun q hq e f => by rw [e, f, map_clR]; rfl)
theorem b_character (l : Launch) (D : va_G) (ct : Nat → ClassId) (Z : hp_Z) (hZ : hp_Zok Z) {Mc Mm : hp_M} {x md : Nat} (h : both ct Mc Mm x md) (k : Int32) (k2 : Int32) : ∃ Pc Pm : Int32 → hp_M → Prop, (∀ sz, Mi l y_AD_character b_AD_character 7 (some .int) 5 103 0 0 [.ref x, .int k, .int k2] D ct Z Mc sz Pc) ∧ (∀ sz, Mi l y_MD_character b_MD_character 3 (some .int) 3 77 0 0 [.ref md, .int k, .int k2] D ct Z Mm sz Pm) ∧ ∀ r r1 M1 M2, Pc r M1 → Pm r1 M2 → r = r1 ∧ both ct M1 M2 x md := by
  obtain ⟨c, xt, ch, sh, su, wo, ac, al, sc, hg, T, Y, As, Al, sa, hd, B, V, LL, hc, hm, h1, ec⟩ := h
  have h1s := h1
  obtain ⟨t1, t2, t3, t4, t5, t6, t7, t8, t9, t10, t11, t12, t13⟩ := h1
  obtain ⟨OO, hO⟩ := one_OO h1s
  refine ⟨_, _, fun sz => c_AD_character l D ct Z hZ Mc sz (fzc ch hg) x As Al hc.atP.1 hc.atP.2 k k2, fun sz => c_MD_character l D ct Z hZ Mm sz md B V hm LL t5 Al t6 OO (fun j hj => (hO j hj).1) k k2, fun r r1 M1 M2 e1 e2 => ?_⟩
  obtain ⟨rfl, e1⟩ := e1
  obtain ⟨e2, sb, ss, hw⟩ := e2
  refine ⟨?_, ⟨_, xt, ch, sh, su, wo, ac, al, sc, hg, T, Y, As, Al, sa, hd, B, _, LL, hc, hw, h1s, rfl⟩⟩
  refine on_same t12 t5.2.1 e1 e2 (fun j hj a b => ?_)
  rw [← (hO j hj).2.1] at a
  have h48 := (hO j hj).2.2.1
  have hst := (stA_ok (OO j) (hO j hj).2.2.2).1
  exact onK_same (by omega) a b (fun q hq e f => by rw [e, f])
theorem b_differ (l : Launch) (D : va_G) (ct : Nat → ClassId) (Z : hp_Z) (hZ : hp_Zok Z) {Mc Mm : hp_M} {x md : Nat} (h : both ct Mc Mm x md) (k : Int32) (k2 : Int32) : ∃ Pc Pm : Int32 → hp_M → Prop, (∀ sz, Mi l y_AD_differ b_AD_differ 8 (some .int) 6 128 0 0 [.ref x, .int k, .int k2] D ct Z Mc sz Pc) ∧ (∀ sz, Mi l y_MD_differ b_MD_differ 6 (some .int) 2 50 0 0 [.ref md, .int k, .int k2] D ct Z Mm sz Pm) ∧ ∀ r r1 M1 M2, Pc r M1 → Pm r1 M2 → r = r1 ∧ both ct M1 M2 x md := by
  obtain ⟨c, xt, ch, sh, su, wo, ac, al, sc, hg, T, Y, As, Al, sa, hd, B, V, LL, hc, hm, h1, ec⟩ := h
  have h1s := h1
  obtain ⟨t1, t2, t3, t4, t5, t6, t7, t8, t9, t10, t11, t12, t13⟩ := h1
  obtain ⟨OO, hO⟩ := one_OO h1s
  refine ⟨_, _, fun sz => c_AD_differ l D ct Z hZ Mc sz (fzc ch hg) x As Al hc.atP.1 hc.atP.2 k k2, fun sz => c_MD_differ l D ct Z hZ Mm sz md B V hm LL t5 Al t6 OO (fun j hj => (hO j hj).1) k k2, fun r r1 M1 M2 e1 e2 => ?_⟩
  obtain ⟨rfl, e1⟩ := e1
  obtain ⟨e2, hw⟩ := e2
  refine ⟨?_, ⟨_, xt, ch, sh, su, wo, ac, al, sc, hg, T, Y, As, Al, sa, hd, B, _, LL, hc, hw, h1s, rfl⟩⟩
  rcases e1 with ⟨j, j3, hj, hj3, ek, ek3, hd9⟩ | ⟨hno, er⟩
  · have hj' : j < LL.length := by omega
    have hj3' : j3 < LL.length := by omega
    have hl12 := t5.2.1
    rcases e2 with ⟨i, hi, ei, e2⟩ | ⟨hn, -⟩
    · have ij : j = i := (nI_eq (by omega) (by omega)).mp (ek.symm.trans ei)
      subst ij
      rcases e2 with ⟨i3, hi3, ei3, e2⟩ | ⟨hn, -⟩
      · have ij : j3 = i3 := (nI_eq (by omega) (by omega)).mp (ek3.symm.trans ei3)
        subst ij
        rw [← (hO j hj').2.1, ← (hO j3 hj3').2.1] at hd9
        have a := (hO j hj').2.2.1
        have b := (hO j3 hj3').2.2.1
        exact dif_same (by omega) (by omega) hd9 e2
      · exact absurd ek3 (hn j3 hj3')
    · exact absurd ek (hn j hj')
  · rw [er]
    rcases e2 with ⟨i, hi, ei, e2⟩ | ⟨-, e2⟩
    · rcases e2 with ⟨i3, hi3, ei3, e2⟩ | ⟨-, e2⟩
      · rcases hno with hno | hno
        · exact absurd ei (hno i (by omega))
        · exact absurd ei3 (hno i3 (by omega))
      · exact e2.symm
    · exact e2.symm
theorem b_digest (l : Launch) (D : va_G) (ct : Nat → ClassId) (Z : hp_Z) (hZ : hp_Zok Z) (tk th : Nat) (hzk : zK Z tk) (hzh : zH Z th) (hne : ct 0 ≠ ct 1) {Mc Mm : hp_M} {x md : Nat} (h : both ct Mc Mm x md) (k : Int32) (k2 : Int32) : ∃ Pc Pm : Int32 → hp_M → Prop, (∀ sz, Mi l y_AD_digest b_AD_digest 6 (some .int) 5 103 0 0 [.ref x, .int k, .int k2] D ct Z Mc sz Pc) ∧ (∀ sz, Mi l y_MD_digest b_MD_digest 4 (some .int) 3 77 0 0 [.ref md, .int k, .int k2] D ct Z Mm sz Pm) ∧ ∀ r r1 M1 M2, Pc r M1 → Pm r1 M2 → r = r1 ∧ both ct M1 M2 x md := by
  obtain ⟨c, xt, ch, sh, su, wo, ac, al, sc, hg, T, Y, As, Al, sa, hd, B, V, LL, hc, hm, h1, ec⟩ := h
  have h1s := h1
  obtain ⟨t1, t2, t3, t4, t5, t6, t7, t8, t9, t10, t11, t12, t13⟩ := h1
  obtain ⟨OO, hO⟩ := one_OO h1s
  obtain ⟨a1, a2, a3, a4, a5, ⟨s1, s2, s3, s4⟩, ⟨g1, g2, g3⟩, nch⟩ := id hc
  refine ⟨_, _, fun sz => c_AD_digest l D ct Z hZ Mc sz tk th hzk hzh As Al (fzc ch hg) x xt sh ac As.length al Al.length sc hg a1 su wo Y a3 hc.atP.1 hc.atP.2 sa (by omega) s3 s1 s4 k k2, fun sz => c_MD_digest l D ct Z hZ Mm sz md B V hm LL t5 Al t6 OO (fun j hj => (hO j hj).1) sa t7 t8 t9 k k2, fun r r1 M1 M2 e1 e2 => ?_⟩
  obtain ⟨⟨X, rfl, hX⟩, e1⟩ := e1
  obtain ⟨e2, sb, ss, su9, wi9, tu9, hw⟩ := e2
  refine ⟨?_, _, xt, ch, sh, su, wo, ac, al, sc, hg, T, X, As, Al, sa, hd, B, _, LL, hc.sha hne hX, hw, h1s, rfl⟩
  refine on_same t12 t5.2.1 e1 e2 (fun j hj a b => ?_)
  rw [← (hO j hj).2.1] at a
  exact onK_same (by decide) a b (fun q hq e f => by rw [e, f]; exact dg_same t8 t10 (hO j hj).2.2.1 (hO j hj).2.2.2 hq)
theorem b_constant (l : Launch) (D : va_G) (ct : Nat → ClassId) (Z : hp_Z) (hZ : hp_Zok Z) (tk th : Nat) (hzk : zK Z tk) (hzh : zH Z th) {Mc Mm : hp_M} {x md : Nat} (h : both ct Mc Mm x md) (k : Int32) : ∃ Pc Pm : Int32 → hp_M → Prop, (∀ sz, Mi l y_AD_constant b_AD_constant 2 (some .int) 0 0 0 0 [.ref x, .int k] D ct Z Mc sz Pc) ∧ (∀ sz, Mi l y_MD_constant b_MD_constant 2 (some .int) 0 0 0 0 [.ref md, .int k] D ct Z Mm sz Pm) ∧ ∀ r r1 M1 M2, Pc r M1 → Pm r1 M2 → r = r1 ∧ both ct M1 M2 x md := by
  obtain ⟨c, xt, ch, sh, su, wo, ac, al, sc, hg, T, Y, As, Al, sa, hd, B, V, LL, hc, hm, h1, ec⟩ := h
  have h1s := h1
  obtain ⟨t1, t2, t3, t4, t5, t6, t7, t8, t9, t10, t11, t12, t13⟩ := h1
  refine ⟨_, _, fun sz => c_AD_constant l D ct Z hZ Mc sz tk th hzk hzh x k, fun sz => c_MD_constant l D ct Z hZ Mm sz md B V hm k, fun r r1 M1 M2 e1 e2 => ?_⟩
  obtain ⟨rfl, e1⟩ := e1
  obtain ⟨e2, hw⟩ := e2
  refine ⟨?_, ⟨_, xt, ch, sh, su, wo, ac, al, sc, hg, T, Y, As, Al, sa, hd, B, _, LL, hc, hw, h1s, rfl⟩⟩
  rcases e1 with ⟨j, hj, ek, e1⟩ | ⟨j, hj, ek, e1⟩ | ⟨hn, e1⟩
  · rcases e2 with ⟨i, hi, ei, e2⟩ | ⟨hn, -⟩
    · have ij : j = i := (nI_eq (by omega) (by omega)).mp (ek.symm.trans ei)
      subst ij
      rw [e1, e2]; exact (if_pos hj).symm
    · exact absurd ek (hn j (by omega))
  · rcases e2 with ⟨i, hi, ei, e2⟩ | ⟨hn, -⟩
    · have ij : 64 + j = i := (nI_eq (by omega) (by omega)).mp (ek.symm.trans ei)
      subst ij
      rw [e1, e2]
      show hF j = if 64 + j < 64 then kF (64 + j) else hF (64 + j - 64)
      rw [if_neg (by omega), show 64 + j - 64 = j by omega]
    · exact absurd ek (hn (64 + j) (by omega))
  · rcases e2 with ⟨i, hi, ei, e2⟩ | ⟨-, e2⟩
    · exact absurd ei (hn i hi)
    · rw [e1, e2]; rfl
theorem b_thrown (l : Launch) (D : va_G) (ct : Nat → ClassId) (Z : hp_Z) (hZ : hp_Zok Z) {Mc Mm : hp_M} {x md c : Nat} (h : bothC ct Mc Mm x md c) : ∃ Pm : Int32 → hp_M → Prop, (∀ sz, Mi l y_MD_thrown b_MD_thrown 1 (some .int) 0 0 0 0 [.ref md] D ct Z Mm sz Pm) ∧ ∀ r M2, Pm r M2 → r = nI c ∧ bothC ct Mc M2 x md c := by
  have hs := h
  obtain ⟨xt, ch, sh, su, wo, ac, al, sc, hg, T, Y, As, Al, sa, hd, B, V, LL, hc, hm, h1, rfl⟩ := h
  refine ⟨_, fun sz => c_MD_thrown l D ct Z hZ Mm sz md B V hm, fun r M2 e => ?_⟩
  obtain ⟨rfl, e⟩ := e
  exact ⟨e, hs⟩
theorem b_type (l : Launch) (D : va_G) (ct : Nat → ClassId) (Z : hp_Z) (hZ : hp_Zok Z) {Mc Mm : hp_M} {x md : Nat} (h : both ct Mc Mm x md) (k : Nat) (hk : k < 65536) : ∃ Pc Pm : Int32 → hp_M → Prop, (∀ sz, Mi l y_AD_type b_AD_type 2 (some .boolean) 1 21 0 0 [.ref x, .int (nI k)] D ct Z Mc sz Pc) ∧ (∀ sz, Mi l y_MD_type b_MD_type 2 (some .boolean) 0 0 0 0 [.ref md, .int (nI k)] D ct Z Mm sz Pm) ∧ ∀ r r1 M1 M2, Pc r M1 → Pm r1 M2 → r = r1 ∧ both ct M1 M2 x md := by
  obtain ⟨c, xt, ch, sh, su, wo, ac, al, sc, hg, T, Y, As, Al, sa, hd, B, V, LL, hc, hm, h1, ec⟩ := h
  have h1s := h1
  obtain ⟨t1, t2, t3, t4, t5, t6, t7, t8, t9, t10, t11, t12, t13⟩ := h1
  refine ⟨_, _, fun sz => c_AD_type l D ct Z hZ Mc sz x xt ch sh su wo ac al sc hg T Y As Al sa hd hc k hk, fun sz => c_MD_type l D ct Z hZ Mm sz md B V hm k hk, fun r r1 M1 M2 e1 e2 => ?_⟩
  rcases e1 with ⟨hy, e1, hc⟩ | ⟨hy, e1, rfl⟩
  · rcases e2 with ⟨hy2, e2, hw⟩ | ⟨hy2, e2, hw⟩
    · refine ⟨by rw [e1, e2], _, xt, ch, sh, su, wo, ac, al, sc, hg, T ++ [k], Y, As, Al, sa, hd, B, _, LL, hc, hw, ⟨?_, ?_, ?_, ?_, t5, t6, t7, t8, t9, t10, t11, t12, t13⟩, rfl⟩
      · show V.ty + 1 = _
        rw [List.length_append, t1]; rfl
      · intro i hi
        rw [List.length_append, List.length_singleton] at hi
        show (if i = V.ty then k else V.te i) = _
        by_cases z : i = T.length
        · rw [if_pos (by omega), z, gd_new]
        · rw [if_neg (by omega), gd_app (by omega)]; exact t2 i (by omega)
      · rw [List.length_append, List.length_singleton]; omega
      · refine gd_mem (by decide) (fun c hc => ?_)
        rw [List.mem_append, List.mem_singleton] at hc
        rcases hc with hc | rfl
        · exact gd_in t4 hc
        · omega
    · exact absurd ⟨hy.1, hy.2.1, by omega⟩ hy2
  · rcases e2 with ⟨hy2, e2, hw⟩ | ⟨hy2, e2, hw⟩
    · exact absurd ⟨hy2.1, hy2.2.1, by omega⟩ hy
    · exact ⟨by rw [e1, e2], ⟨_, xt, ch, sh, su, wo, ac, al, sc, hg, T, Y, As, Al, sa, hd, B, _, LL, hc, hw, h1s, rfl⟩⟩
theorem b_hold (l : Launch) (D : va_G) (ct : Nat → ClassId) (Z : hp_Z) (hZ : hp_Zok Z) (tk th : Nat) (hzk : zK Z tk) (hzh : zH Z th) {Mc Mm : hp_M} {x md : Nat} (h : both ct Mc Mm x md) : ∃ Pc Pm : hp_M → Prop, (∀ sz, Mv l y_AD_hold b_AD_hold 1 none 5 120 1 64 [.ref x] D ct Z Mc sz Pc) ∧ (∀ sz, Mv l y_MD_hold b_MD_hold 3 none 3 76 0 0 [.ref md] D ct Z Mm sz Pm) ∧ ∀ M1 M2, Pc M1 → Pm M2 → both ct M1 M2 x md := by
  obtain ⟨c, xt, ch, sh, su, wo, ac, al, sc, hg, T, Y, As, Al, sa, hd, B, V, LL, hc, hm, h1, ec⟩ := h
  have h1s := h1
  obtain ⟨t1, t2, t3, t4, t5, t6, t7, t8, t9, t10, t11, t12, t13⟩ := h1
  have hcT : ∀ i, T.getD i 0 < 65536 := fun i => Nat.lt_trans (t4 i) (by decide)
  refine ⟨_, _, fun sz => c_AD_hold l D ct Z hZ Mc sz tk th hzk hzh x xt ch sh su wo ac al sc hg T Y As Al sa hd hc hcT, fun sz => c_MD_hold l D ct Z hZ Mm sz md B V hm T t1 t2 t3 hcT, fun M1 M2 e1 e2 => ?_⟩
  obtain ⟨X, hc⟩ := e1
  obtain ⟨sb, su9, wi9, tu9, he, hw, hhe⟩ := e2
  refine ⟨_, xt, ch, sh, su, wo, ac, al, sc, hg, [], X, As, Al, sa, _, B, _, LL, hc, hw, ⟨rfl, fun i hi => absurd hi (Nat.not_lt_zero i), by decide, fun i => by simp, t5, t6, t7, t8, t9, t10, ?_, t12, t13⟩, rfl⟩
  exact hexL_c (fun i hi => (dgW_shaM Y.2.1 (fun i => Nat.lt_trans (t4 i) (by decide)) (by omega) hi).trans (hhe i hi).symm)
theorem one_nil' {V V' : MS} {T : List Nat} {LL : List (List MR)} {As : List (List RowT)} {Al Al' : List (List Nat)} {sa hd : List Nat} (h : one V T LL As Al sa hd) (hty : V'.ty = 0) (hL : mdL V' LL) (hA : nmA V' Al') (hsd : V'.sd = V.sd) (hsl : V'.sl = V.sl) (hhe : V'.he = V.he) : one V' [] LL As Al' sa hd := by
  obtain ⟨-, -, -, -, -, -, h7, h8, h9, h10, h11, h12, h13⟩ := h
  exact ⟨hty, fun i hi => absurd hi (Nat.not_lt_zero i), by decide, fun i => by simp, hL, hA, hsd.trans h7, h8, fun i hi => by rw [hsl]; exact h9 i hi, h10, by rw [hhe]; exact h11, h12, h13⟩
theorem b_action (l : Launch) (D : va_G) (ct : Nat → ClassId) (Z : hp_Z) (hZ : hp_Zok Z) (hlt : l.stackTraces = false) (hzx : zX Z) (hzn : zN Z) (hza : zA Z) {Mc Mm : hp_M} {x md : Nat} (h : both ct Mc Mm x md) : ∃ (Pc : Int32 → hp_M → Prop) (Px : String → hp_M → Prop) (Pm : Int32 → hp_M → Prop), (∀ sz, Xi l y_AD_action b_AD_action 2 (some .int) 6 82 2 26 [.ref x] D ct Z Mc sz Pc Px) ∧ (∀ sz, Mi l y_MD_action b_MD_action 1 (some .int) 0 0 0 0 [.ref md] D ct Z Mm sz Pm) ∧ (∀ E M1, Px E M1 → E = "java/lang/IllegalStateException") ∧ (∀ r r1 M1 M2, Pc r M1 → Pm r1 M2 → r = r1 ∧ bothC ct M1 M2 x md 0) ∧ ∀ E r1 M1 M2, Px E M1 → Pm r1 M2 → (E = "java/lang/IllegalStateException" ∧ bothC ct M1 M2 x md 1) ∨ (E = "java/lang/IllegalArgumentException" ∧ bothC ct M1 M2 x md 2) := by
  obtain ⟨c, xt, ch, sh, su, wo, ac, al, sc, hg, T, Y, As, Al, sa, hd, B, V, LL, hc, hm, h1, ec⟩ := h
  have h1s := h1
  obtain ⟨t1, t2, t3, t4, t5, t6, t7, t8, t9, t10, t11, t12, t13⟩ := h1
  refine ⟨_, _, _, fun sz => c_AD_action l D ct Z hZ Mc sz hlt hzx hzn hza x xt ch sh su wo ac al sc hg T Y As Al sa hd hc, fun sz => c_MD_action l D ct Z hZ Mm sz md B V hm, fun E M1 e1 => e1.1, fun r r1 M1 M2 e1 e2 => ?_, fun E r1 M1 M2 e1 e2 => Or.inl ?_⟩
  · obtain ⟨hl, er, hc⟩ := e1
    have hac := t5.1
    rcases e2 with ⟨h12, -⟩ | ⟨h12, e2, hw⟩
    · omega
    · obtain ⟨g1, g2⟩ := rel_new t12 t13
      refine ⟨by rw [er, e2, hac, t12], xt, ch, sh, su, wo, ac, al, sc, hg, T, Y, As ++ [[]], Al, sa, hd, B, _, LL ++ [[]], hc, hw, ⟨t1, t2, t3, t4, mdL_new t5 (by omega) rfl rfl rfl rfl rfl rfl rfl, t6, t7, t8, t9, t10, t11, g1, g2⟩, rfl⟩
  · obtain ⟨rfl, hl, hc⟩ := e1
    have hac := t5.1
    rcases e2 with ⟨h12, hw⟩ | ⟨h12, e2, hw⟩
    · exact ⟨rfl, xt, ch, sh, su, wo, ac, al, sc, hg, T, Y, As, Al, sa, hd, B, _, LL, hc, hw, h1s, rfl⟩
    · omega
theorem b_salt (l : Launch) (D : va_G) (ct : Nat → ClassId) (Z : hp_Z) (hZ : hp_Zok Z) (hlt : l.stackTraces = false) (hzx : zX Z) {Mc Mm : hp_M} {x md : Nat} (h : both ct Mc Mm x md) : ∃ (Pc : hp_M → Prop) (Px : String → hp_M → Prop) (Pm : hp_M → Prop), (∀ sz, Xv l y_AD_salt b_AD_salt 2 none 6 82 2 70 [.ref x] D ct Z Mc sz Pc Px) ∧ (∀ sz, Mv l y_MD_salt b_MD_salt 3 none 1 22 0 0 [.ref md] D ct Z Mm sz Pm) ∧ (∀ E M1, Px E M1 → E = "java/lang/IllegalArgumentException") ∧ (∀ M1 M2, Pc M1 → Pm M2 → bothC ct M1 M2 x md 0) ∧ ∀ E M1 M2, Px E M1 → Pm M2 → (E = "java/lang/IllegalArgumentException" ∧ bothC ct M1 M2 x md 1) ∨ (E = "java/lang/IllegalStateException" ∧ bothC ct M1 M2 x md 2) := by
  obtain ⟨c, xt, ch, sh, su, wo, ac, al, sc, hg, T, Y, As, Al, sa, hd, B, V, LL, hc, hm, h1, ec⟩ := h
  have h1s := h1
  obtain ⟨t1, t2, t3, t4, t5, t6, t7, t8, t9, t10, t11, t12, t13⟩ := h1
  have hcT : ∀ i, T.getD i 0 < 65536 := fun i => Nat.lt_trans (t4 i) (by decide)
  refine ⟨_, _, _, fun sz => c_AD_salt l D ct Z hZ Mc sz hlt hzx x xt ch sh su wo ac al sc hg T Y As Al sa hd hc hcT, fun sz => c_MD_salt l D ct Z hZ Mm sz md B V hm T t1 t2 t3 hcT, fun E M1 e1 => e1.1, fun M1 M2 e1 e2 => ?_, fun E M1 M2 e1 e2 => Or.inl ?_⟩
  · obtain ⟨hl, sc9, hc⟩ := e1
    rcases e2 with ⟨hl2, -⟩ | ⟨hl2, sl9, hsl, hw⟩
    · omega
    · exact ⟨xt, ch, sh, su, wo, ac, al, sc9, hg, [], Y, As, Al, T, hd, B, _, LL, hc, hw, ⟨rfl, fun i hi => absurd hi (Nat.not_lt_zero i), by decide, fun i => by simp, t5, t6, rfl, hl2, hsl, t4, t11, t12, t13⟩, rfl⟩
  · obtain ⟨rfl, hl, hc⟩ := e1
    rcases e2 with ⟨hl2, hw⟩ | ⟨hl2, -⟩
    · exact ⟨rfl, xt, ch, sh, su, wo, ac, al, sc, hg, [], Y, As, Al, sa, hd, B, _, LL, hc, hw, one_nil h1s rfl t5 t6 rfl rfl rfl, rfl⟩
    · omega
theorem b_allow (l : Launch) (D : va_G) (ct : Nat → ClassId) (Z : hp_Z) (hZ : hp_Zok Z) (hlt : l.stackTraces = false) (hzx : zX Z) {Mc Mm : hp_M} {x md : Nat} (h : both ct Mc Mm x md) : ∃ (Pc : hp_M → Prop) (Px : String → hp_M → Prop) (Pm : hp_M → Prop), (∀ sz, Xv l y_AD_allow b_AD_allow 3 none 6 82 3 72 [.ref x] D ct Z Mc sz Pc Px) ∧ (∀ sz, Mv l y_MD_allow b_MD_allow 7 none 2 43 0 0 [.ref md] D ct Z Mm sz Pm) ∧ (∀ E M1, Px E M1 → E = "java/lang/IllegalArgumentException" ∨ E = "java/lang/IllegalStateException") ∧ (∀ M1 M2, Pc M1 → Pm M2 → bothC ct M1 M2 x md 0) ∧ ∀ E M1 M2, Px E M1 → Pm M2 → (E = "java/lang/IllegalArgumentException" ∧ bothC ct M1 M2 x md 1) ∨ (E = "java/lang/IllegalStateException" ∧ bothC ct M1 M2 x md 2) := by
  obtain ⟨c, xt, ch, sh, su, wo, ac, al, sc, hg, T, Y, As, Al, sa, hd, B, V, LL, hc, hm, h1, ec⟩ := h
  have h1s := h1
  obtain ⟨t1, t2, t3, t4, t5, t6, t7, t8, t9, t10, t11, t12, t13⟩ := h1
  have hcT : ∀ i, T.getD i 0 < 65536 := fun i => Nat.lt_trans (t4 i) (by decide)
  refine ⟨_, _, _, fun sz => c_AD_allow l D ct Z hZ Mc sz hlt hzx x xt ch sh su wo ac al sc hg T Y As Al sa hd hc hcT, fun sz => c_MD_allow l D ct Z hZ Mm sz md B V hm T t1 t2 t3 hcT Al t6, fun E M1 e1 => e1.1.imp And.left And.left, fun M1 M2 e1 e2 => ?_, fun E M1 M2 e1 e2 => ?_⟩
  · obtain ⟨hn, hno, h8, hc⟩ := e1
    rcases e2 with ⟨hl2, -⟩ | ⟨-, hl2, -⟩ | ⟨-, -, -, ns, nm, hw, hA⟩
    · exact absurd hn hl2
    · rcases hl2 with hl2 | hl2
      · exact absurd hl2 hno
      · omega
    · exact ⟨xt, ch, sh, su, wo, ac, al, sc, hg, [], Y, As, Al ++ [T], sa, hd, B, _, LL, hc, hw, one_nil' h1s rfl t5 hA rfl rfl rfl, rfl⟩
  · obtain ⟨he, hc⟩ := e1
    rcases he with ⟨rfl, hn⟩ | ⟨rfl, hn, hb⟩
    · rcases e2 with ⟨-, hw⟩ | ⟨hl2, -⟩ | ⟨hl2, -⟩
      · exact Or.inl ⟨rfl, xt, ch, sh, su, wo, ac, al, sc, hg, [], Y, As, Al, sa, hd, B, _, LL, hc, hw, one_nil h1s rfl t5 t6 rfl rfl rfl, rfl⟩
      · exact absurd hl2 hn
      · exact absurd hl2 hn
    · rcases e2 with ⟨hl2, -⟩ | ⟨-, -, hw⟩ | ⟨-, h1, h2, -⟩
      · exact absurd hn hl2
      · exact Or.inr ⟨rfl, xt, ch, sh, su, wo, ac, al, sc, hg, [], Y, As, Al, sa, hd, B, _, LL, hc, hw, one_nil h1s rfl t5 t6 rfl rfl rfl, rfl⟩
      · rcases hb with hb | hb
        · exact absurd hb h1
        · omega
theorem b_row (l : Launch) (D : va_G) (ct : Nat → ClassId) (Z : hp_Z) (hZ : hp_Zok Z) (hlt : l.stackTraces = false) (hzx : zX Z) {Mc Mm : hp_M} {x md : Nat} (h : both ct Mc Mm x md) (k k2 : Int32) : ∃ (Pc : hp_M → Prop) (Px : String → hp_M → Prop) (Pm : hp_M → Prop), (∀ sz, Xv l y_AD_row b_AD_row 6 none 6 88 4 198 [.ref x, .int k, .int k2] D ct Z Mc sz Pc Px) ∧ (∀ sz, Mv l y_MD_row b_MD_row 9 none 3 67 0 0 [.ref md, .int k, .int k2] D ct Z Mm sz Pm) ∧ (∀ E M1, Px E M1 → E = "java/lang/IllegalArgumentException" ∨ E = "java/lang/IllegalStateException") ∧ (∀ M1 M2, Pc M1 → Pm M2 → bothC ct M1 M2 x md 0) ∧ ∀ E M1 M2, Px E M1 → Pm M2 → (E = "java/lang/IllegalArgumentException" ∧ bothC ct M1 M2 x md 1) ∨ (E = "java/lang/IllegalStateException" ∧ bothC ct M1 M2 x md 2) := by
  obtain ⟨c, xt, ch, sh, su, wo, ac, al, sc, hg, T, Y, As, Al, sa, hd, B, V, LL, hc, hm, h1, ec⟩ := h
  have h1s := h1
  obtain ⟨t1, t2, t3, t4, t5, t6, t7, t8, t9, t10, t11, t12, t13⟩ := h1
  have hcT : ∀ i, T.getD i 0 < 65536 := fun i => Nat.lt_trans (t4 i) (by decide)
  refine ⟨_, _, _, fun sz => c_AD_row l D ct Z hZ Mc sz hlt hzx x xt ch sh su wo ac al sc hg T Y As Al sa hd hc hcT k k2, fun sz => c_MD_row l D ct Z hZ Mm sz md B V hm T t1 t2 t3 t4 LL t5 k k2, fun E M1 e1 => e1.1.imp And.left And.left, fun M1 M2 e1 e2 => ?_, fun E M1 M2 e1 e2 => ?_⟩
  · obtain ⟨j, k1, n, hj, ex, ek, h6, hf, hkl, hn, h24, u, hu, hc⟩ := e1
    obtain ⟨V9, LL9, hw, hco, h9⟩ := row_n h1s e2 hj ex ek h6 hf hkl hn h24 hu
    exact ⟨xt, ch, sh, su, wo, ac, al, sc, hg, [], Y, _, Al, sa, hd, B, V9, LL9, hc, hw, h9, hco⟩
  · obtain ⟨he, hc⟩ := e1
    rcases he with ⟨rfl, hcn⟩ | ⟨rfl, j, k1, n, hj, ex, ek, h6, hf, hkl, hcn⟩
    · obtain ⟨V9, hw, hco, h9⟩ := row_a h1s e2 hcn
      exact Or.inl ⟨rfl, xt, ch, sh, su, wo, ac, al, sc, hg, [], Y, As, Al, sa, hd, B, V9, LL, hc, hw, h9, hco⟩
    · obtain ⟨V9, hw, hco, h9⟩ := row_s h1s e2 hj ex ek h6 hf hkl hcn
      exact Or.inr ⟨rfl, xt, ch, sh, su, wo, ac, al, sc, hg, [], Y, As, Al, sa, hd, B, V9, LL, hc, hw, h9, hco⟩
theorem b_edition (l : Launch) (D : va_G) (ct : Nat → ClassId) (Z : hp_Z) (hZ : hp_Zok Z) (hlt : l.stackTraces = false) (hzx : zX Z) {Mc Mm : hp_M} {x md : Nat} (h : both ct Mc Mm x md) (k k2 : Int32) : ∃ (Pc : hp_M → Prop) (Px : String → hp_M → Prop) (Pm : hp_M → Prop), (∀ sz, Xv l y_AD_edition b_AD_edition 6 none 6 82 4 19 [.ref x, .int k, .int k2] D ct Z Mc sz Pc Px) ∧ (∀ sz, Mv l y_MD_edition b_MD_edition 8 none 1 22 0 0 [.ref md, .int k, .int k2] D ct Z Mm sz Pm) ∧ (∀ E M1, Px E M1 → E = "java/lang/IllegalArgumentException" ∨ E = "java/lang/IllegalStateException") ∧ (∀ M1 M2, Pc M1 → Pm M2 → bothC ct M1 M2 x md 0) ∧ ∀ E M1 M2, Px E M1 → Pm M2 → (E = "java/lang/IllegalArgumentException" ∧ bothC ct M1 M2 x md 1) ∨ (E = "java/lang/IllegalStateException" ∧ bothC ct M1 M2 x md 2) := by
  obtain ⟨c, xt, ch, sh, su, wo, ac, al, sc, hg, T, Y, As, Al, sa, hd, B, V, LL, hc, hm, h1, ec⟩ := h
  have h1s := h1
  obtain ⟨t1, t2, t3, t4, t5, t6, t7, t8, t9, t10, t11, t12, t13⟩ := h1
  refine ⟨_, _, _, fun sz => c_AD_edition l D ct Z hZ Mc sz hlt hzx x xt ch sh su wo ac al sc hg T Y As Al sa hd hc k k2, fun sz => c_MD_edition l D ct Z hZ Mm sz md B V hm LL t5 k k2, fun E M1 e1 => e1.1.imp And.left And.left, fun M1 M2 e1 e2 => ?_, fun E M1 M2 e1 e2 => ?_⟩
  · obtain ⟨j, n1, hj, ex, ek, h9, hcs⟩ := e1
    rcases hcs with ⟨i, hi, -, h7, hc⟩ | ⟨h7, h24, u, hu, hc⟩
    · obtain ⟨V9, LL9, hw, hco, h9⟩ := ed_n h1s e2 hj ex ek h9 (Or.inl ⟨i, hi, h7, rfl⟩)
      exact ⟨xt, ch, sh, su, wo, ac, al, sc, hg, T, Y, _, Al, sa, hd, B, V9, LL9, hc, hw, h9, hco⟩
    · obtain ⟨V9, LL9, hw, hco, h9⟩ := ed_n h1s e2 hj ex ek h9 (Or.inr ⟨h7, h24, u, hu, rfl⟩)
      exact ⟨xt, ch, sh, su, wo, ac, al, sc, hg, T, Y, _, Al, sa, hd, B, V9, LL9, hc, hw, h9, hco⟩
  · obtain ⟨he, hc⟩ := e1
    rcases he with ⟨rfl, hcn⟩ | ⟨rfl, j, n1, hj, ex, ek, h9, h7, h24⟩
    · obtain ⟨V9, hw, hco, h9⟩ := ed_a h1s e2 hcn
      exact Or.inl ⟨rfl, xt, ch, sh, su, wo, ac, al, sc, hg, T, Y, As, Al, sa, hd, B, V9, LL, hc, hw, h9, hco⟩
    · obtain ⟨V9, hw, hco, h9⟩ := ed_s h1s e2 hj ex ek h9 h7 h24
      exact Or.inr ⟨rfl, xt, ch, sh, su, wo, ac, al, sc, hg, T, Y, As, Al, sa, hd, B, V9, LL, hc, hw, h9, hco⟩
theorem born {ct : Nat → ClassId} {M1 M2 : hp_M} {x md : Nat} (e1 : ∃ (xt ch sh su wo ac al sc hg : Nat) (X : ShT), adW ct M1 x xt ch sh su wo ac al sc hg [] X [] [] [] (hexL (dgW (nf (fun _ => 0)) []))) (e2 : ∃ B V, mdS ct M2 md B V ∧ (∀ i, i < 8 → V.he i = shaM [] i) ∧ V.co = 0 ∧ V.ty = 0 ∧ V.ac = 0 ∧ V.al = 0 ∧ V.sd = 0 ∧ ∀ a, V.cn a = 0) : both ct M1 M2 x md := by
  obtain ⟨xt, ch, sh, su, wo, ac, al, sc, hg, X, hc⟩ := e1
  obtain ⟨B, V, hw, hhe, h1, h2, h3, h4, h5, h6⟩ := e2
  refine ⟨_, xt, ch, sh, su, wo, ac, al, sc, hg, [], X, [], [], [], _, B, V, [], hc, hw, ⟨h2, fun i hi => absurd hi (Nat.not_lt_zero i), by decide, fun i => by simp, ⟨h3, by decide, fun a ha => absurd ha (Nat.not_lt_zero a), fun a _ _ => h6 a⟩, ⟨h4, by decide, fun k hk => absurd hk (Nat.not_lt_zero k)⟩, h5, by decide, fun i hi => absurd hi (Nat.not_lt_zero i), fun i => by simp, ?_, rfl, fun j hj => absurd hj (Nat.not_lt_zero j)⟩, rfl⟩
  exact hexL_c (fun i hi => (dgW_shaM _ (fun i => by simp) (by decide) hi).trans (hhe i hi).symm)
