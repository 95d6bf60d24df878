/-! WRITES TO THE WORLD -/
/-- the world without its head and the actions -/
def adQ (ct : Nat → ClassId) (M : hp_M) (xt ch sh su wo al sc hg : Nat) (T : List Nat) (Y : ShT) (Al : List (List Nat)) (sa hd : List Nat) : Prop :=
  txP ct M xt ch T ∧ shOk ct M sh su wo Y ∧ alsP ct (fzc ch hg) M al Al ∧ (M sc = some (.inl (ct 0, sa.length, .inl (tx sa))) ∧ sa.length ≤ 16 ∧ (∀ i, sa.getD i 0 < 65536) ∧ fzc ch hg sc) ∧ (M hg = some (.inl (ct 0, 64, .inl (tx hd))) ∧ hd.length = 64 ∧ ∀ i, hd.getD i 0 < 65536) ∧ ch ≠ hg
theorem adW_iff {ct : Nat → ClassId} {M : hp_M} {x xt ch sh su wo ac al sc hg : Nat} {T : List Nat} {Y : ShT} {As : List (List RowT)} {Al : List (List Nat)} {sa hd : List Nat} : adW ct M x xt ch sh su wo ac al sc hg T Y As Al sa hd ↔ M x = some (xO xt sh ac As.length al Al.length sc hg) ∧ acsP ct (fzc ch hg) M ac As ∧ adQ ct M xt ch sh su wo al sc hg T Y Al sa hd :=
  ⟨fun ⟨a, b, c, d, e⟩ => ⟨a, d, b, c, e⟩, fun ⟨a, d, b, c, e⟩ => ⟨a, b, c, d, e⟩⟩
theorem adQ.ne_q {ct : Nat → ClassId} {M : hp_M} {xt ch sh su wo al sc hg : Nat} {T : List Nat} {Y : ShT} {Al : List (List Nat)} {sa hd : List Nat} (h : adQ ct M xt ch sh su wo al sc hg T Y Al sa hd) {a n : Nat} {cA : ClassId} {f : (Nat → Int64) ⊕ (Nat → UInt32) ⊕ (Nat → UInt64) ⊕ (Nat → Option Nat)} {E : va_E} (ha : M a = some (.inl (cA, n, .inr f))) (hn : n ≠ 8) : adQ ct (hp_up M a E) xt ch sh su wo al sc hg T Y Al sa hd := by
  obtain ⟨⟨g0, b1, b2, b3, b4, b5⟩, c, ⟨fl, e1, e2, e3⟩, ⟨f1, f2, f3, f4⟩, ⟨k1, k2, k3⟩, n0⟩ := h
  have st : stab ct (fzc ch hg) M (hp_up M a E) := stab_q ha
  refine ⟨⟨g0, hp_k (hp_ne b1 ha (by simp)) b1, hp_k (hp_ne b2 ha (by simp)) b2, b3, b4, b5⟩, c.k (hp_ne c.1 ha (by simp)) (hp_ne c.2.1 ha (by simp)) (hp_ne c.2.2.1 ha (by simp)), ⟨fl, hp_k (hp_ne e1 ha ?_) e1, e2, fun i hi => ?_⟩, ⟨hp_k (hp_ne f1 ha (by simp)) f1, f2, f3, f4⟩, ⟨hp_k (hp_ne k1 ha (by simp)) k1, k2, k3⟩, n0⟩
  · intro q
    exact hn (congrArg (fun z : ClassId × Nat × _ => z.2.1) (Sum.inl.inj q)).symm
  · obtain ⟨k, u1, u2⟩ := e3 i hi
    exact ⟨k, u1, u2.st st⟩
theorem adQ.ne_o {ct : Nat → ClassId} {M : hp_M} {xt ch sh su wo al sc hg : Nat} {T : List Nat} {Y : ShT} {Al : List (List Nat)} {sa hd : List Nat} (h : adQ ct M xt ch sh su wo al sc hg T Y Al sa hd) {a k : Nat} {fs : List Value} {E : va_E} (ha : M a = some (.inr (k, fs))) (hk : k = 0 ∨ k = 3) : adQ ct (hp_up M a E) xt ch sh su wo al sc hg T Y Al sa hd := by
  obtain ⟨⟨g0, b1, b2, b3, b4, b5⟩, c, ⟨fl, e1, e2, e3⟩, ⟨f1, f2, f3, f4⟩, ⟨k1, k2, k3⟩, n0⟩ := h
  have st : stab ct (fzc ch hg) M (hp_up M a E) := stab_o ha (by omega)
  have ko : ∀ (q j : Nat) (gs : List Value), M q = some (.inr (j, gs)) → j ≠ 0 → j ≠ 3 → q ≠ a := fun q j gs hq h0 h3 => hp_ne hq ha (fun z => by
    have h9 := congrArg Prod.fst (Sum.inr.inj z)
    have h9 : j = k := h9
    omega)
  refine ⟨⟨g0, hp_k (ko _ _ _ b1 (by decide) (by decide)) b1, hp_k (hp_ne b2 ha (by simp)) b2, b3, b4, b5⟩, c.k (hp_ne c.1 ha (by simp)) (hp_ne c.2.1 ha (by simp)) (ko _ _ _ c.2.2.1 (by decide) (by decide)), ⟨fl, hp_k (hp_ne e1 ha (by simp)) e1, e2, fun i hi => ?_⟩, ⟨hp_k (hp_ne f1 ha (by simp)) f1, f2, f3, f4⟩, ⟨hp_k (hp_ne k1 ha (by simp)) k1, k2, k3⟩, n0⟩
  obtain ⟨k9, u1, u2⟩ := e3 i hi
  exact ⟨k9, u1, u2.st st⟩
abbrev acsW (ct : Nat → ClassId) (fz : Nat → Prop) (M : hp_M) (ac : Nat) (As : List (List RowT)) (fa : Nat → Option Nat) (ao oo : Nat → Nat) (rf : Nat → Nat → Option Nat) : Prop := M ac = some (.inl (ct 4, 12, .inr (.inr (.inr (.inr fa))))) ∧ As.length ≤ 12 ∧ (∀ i, i < As.length → fa i = some (ao i) ∧ M (ao i) = some (.inr (3, [.ref (oo i), .int (nI (As.getD i []).length)])) ∧ M (oo i) = some (.inl (ct 2, 24, .inr (.inr (.inr (.inr (rf i)))))) ∧ (As.getD i []).length ≤ 24 ∧ rsOk ct fz M (rf i) (As.getD i [])) ∧ ∀ i j, i < As.length → j < As.length → (ao i = ao j ∨ oo i = oo j) → i = j
theorem getD_set {α : Type} {l : List α} {i j : Nat} {a d : α} (hj : j < l.length) : (l.set j a).getD i d = if i = j then a else l.getD i d := by
  rw [List.getD_eq_getElem?_getD, List.getD_eq_getElem?_getD]
  by_cases h : i = j
  · rw [h, if_pos rfl, List.getElem?_set_self hj]; rfl
  · rw [if_neg h, List.getElem?_set_ne (Ne.symm h)]
theorem getD_app {α : Type} {l : List α} {i : Nat} {a d : α} (hi : i ≤ l.length) : (l ++ [a]).getD i d = if i = l.length then a else l.getD i d := by
  rw [List.getD_eq_getElem?_getD, List.getD_eq_getElem?_getD]
  by_cases h : i = l.length
  · rw [h, if_pos rfl, List.getElem?_append_right (Nat.le_refl _), Nat.sub_self]; rfl
  · rw [if_neg h, List.getElem?_append_left (by omega)]
/-- another row array of one action -/
theorem adW.rows {ct : Nat → ClassId} {M : hp_M} {x xt ch sh su wo ac al sc hg : Nat} {T : List Nat} {Y : ShT} {As : List (List RowT)} {Al : List (List Nat)} {sa hd : List Nat} (h : adW ct M x xt ch sh su wo ac al sc hg T Y As Al sa hd) {fa : Nat → Option Nat} {ao oo : Nat → Nat} {rf : Nat → Nat → Option Nat} (hW : acsW ct (fzc ch hg) M ac As fa ao oo rf) {j : Nat} (hj : j < As.length) {f1 : Nat → Option Nat} {rs : List RowT} (hrs : rsOk ct (fzc ch hg) M f1 rs) (hl : rs.length ≤ 24) :
    adW ct (hp_up (hp_up M (oo j) (.inl (ct 2, 24, .inr (.inr (.inr (.inr f1)))))) (ao j) (.inr (3, [.ref (oo j), .int (nI rs.length)]))) x xt ch sh su wo ac al sc hg T Y (As.set j rs) Al sa hd := by
  obtain ⟨hx, -, hQ⟩ := adW_iff.mp h
  obtain ⟨w1, w2, w3, w4⟩ := hW
  obtain ⟨a1, a2, a3, a4, a5⟩ := w3 j hj
  have hne : ao j ≠ oo j := hp_ne a2 a3 (by simp)
  have a2' := hp_k (e := .inl (ct 2, 24, .inr (.inr (.inr (.inr f1))))) hne a2
  have st : stab ct (fzc ch hg) M (hp_up (hp_up M (oo j) (.inl (ct 2, 24, .inr (.inr (.inr (.inr f1)))))) (ao j) (.inr (3, [.ref (oo j), .int (nI rs.length)]))) := (stab_q a3).tr (stab_o a2' (by decide))
  refine adW_iff.mpr ⟨?_, ⟨fa, ao, oo, va_up rf j f1, ?_, ?_, fun i hi => ?_, ?_⟩, (hQ.ne_q a3 (by decide)).ne_o a2' (Or.inr rfl)⟩
  · rw [List.length_set]; exact hp_k (hp_ne hx a2 (by simp)) (hp_k (hp_ne hx a3 (by simp)) hx)
  · exact hp_k (hp_ne w1 a2 (by simp)) (hp_k (hp_ne w1 a3 (by simp)) w1)
  · rw [List.length_set]; exact w2
  · rw [List.length_set] at hi
    rw [getD_set hj]
    obtain ⟨c1, c2, c3, c4, c5⟩ := w3 i hi
    by_cases e : i = j
    · subst e
      rw [if_pos rfl, up_s]
      exact ⟨a1, hp_us, hp_k (Ne.symm hne) hp_us, hl, hrs.st st⟩
    · rw [if_neg e, up_n e]
      exact ⟨c1, hp_k (fun z => e (w4 i j hi hj (Or.inl z))) (hp_k (hp_ne c2 a3 (by simp)) c2), hp_k (hp_ne c3 a2 (by simp)) (hp_k (fun z => e (w4 i j hi hj (Or.inr z))) c3), c4, c5.st st⟩
  · intro i i' hi hi'
    rw [List.length_set] at hi hi'
    exact w4 i i' hi hi'
/-- a new action -/
theorem adW.act {ct : Nat → ClassId} {M : hp_M} {x xt ch sh su wo ac al sc hg : Nat} {T : List Nat} {Y : ShT} {As : List (List RowT)} {Al : List (List Nat)} {sa hd : List Nat} (h : adW ct M x xt ch sh su wo ac al sc hg T Y As Al sa hd) (hl : As.length < 12) {fa : Nat → Option Nat} (hfa : M ac = some (.inl (ct 4, 12, .inr (.inr (.inr (.inr fa)))))) {q oa : Nat} (hq : M q = none) (hoa : M oa = none) (hqo : q ≠ oa) :
    adW ct (hp_up (hp_up (hp_up (hp_up M q (.inr (3, [.ref oa, .int (nI 0)]))) oa (.inl (ct 2, 24, .inr (.inr (.inr (.inr (fun _ => none))))))) ac (.inl (ct 4, 12, .inr (.inr (.inr (.inr (va_up fa As.length (some q)))))))) x (xO xt sh ac (As.length + 1) al Al.length sc hg)) x xt ch sh su wo ac al sc hg T Y (As ++ [[]]) Al sa hd := by
  have h2 := ((h.new (E := .inr (3, [.ref oa, .int (nI 0)])) hq).1.new (q := oa) (E := .inl (ct 2, 24, .inr (.inr (.inr (.inr (fun _ => none)))))) (by rw [hp_un (Ne.symm hqo)]; exact hoa)).1
  obtain ⟨-, ⟨fa0, ao, oo, rf, v1, w2, w3, w4⟩, -⟩ := adW_iff.mp h
  have e0 : fa0 = fa := by
    rw [hfa] at v1
    have h9 := congrArg (fun z : ClassId × Nat × _ => z.2.2) (Sum.inl.inj (Option.some.inj v1))
    exact (Sum.inr.inj (Sum.inr.inj (Sum.inr.inj (Sum.inr.inj h9)))).symm
  subst e0
  have kk : kq ct (fzc ch hg) M (hp_up (hp_up M q (.inr (3, [.ref oa, .int (nI 0)]))) oa (.inl (ct 2, 24, .inr (.inr (.inr (.inr (fun _ => none))))))) := (kq_n hq).tr (kq_n (by rw [hp_un (Ne.symm hqo)]; exact hoa))
  obtain ⟨M2, eM2⟩ : ∃ z, z = hp_up (hp_up M q (.inr (3, [.ref oa, .int (nI 0)]))) oa (.inl (ct 2, 24, .inr (.inr (.inr (.inr (fun _ => none)))))) := ⟨_, rfl⟩
  have f_q : M2 q = some (.inr (3, [.ref oa, .int (nI 0)])) := by rw [eM2]; exact hp_k hqo hp_us
  have f_oa : M2 oa = some (.inl (ct 2, 24, .inr (.inr (.inr (.inr (fun _ => none)))))) := by rw [eM2]; exact hp_us
  rw [← eM2] at h2 kk ⊢
  obtain ⟨f_x, -, hQ⟩ := adW_iff.mp h2
  have f_ac : M2 ac = _ := kk.2.2 _ _ _ _ v1
  have f_x' := hp_k (e := .inl (ct 4, 12, .inr (.inr (.inr (.inr (va_up fa0 As.length (some q))))))) (hp_ne f_x f_ac (by simp)) f_x
  have st : stab ct (fzc ch hg) M2 (hp_up (hp_up M2 ac (.inl (ct 4, 12, .inr (.inr (.inr (.inr (va_up fa0 As.length (some q)))))))) x (xO xt sh ac (As.length + 1) al Al.length sc hg)) := (stab_q f_ac).tr (stab_o f_x' (by decide))
  have kO : ∀ (z : Nat) (fs : List Value), M2 z = some (.inr (3, fs)) → hp_up (hp_up M2 ac (.inl (ct 4, 12, .inr (.inr (.inr (.inr (va_up fa0 As.length (some q)))))))) x (xO xt sh ac (As.length + 1) al Al.length sc hg) z = some (.inr (3, fs)) := fun z fs hz => hp_k (hp_ne hz f_x (by simp)) (hp_k (hp_ne hz f_ac (by simp)) hz)
  have kA : ∀ (z : Nat) (f : Nat → Option Nat), M2 z = some (.inl (ct 2, 24, .inr (.inr (.inr (.inr f))))) → hp_up (hp_up M2 ac (.inl (ct 4, 12, .inr (.inr (.inr (.inr (va_up fa0 As.length (some q)))))))) x (xO xt sh ac (As.length + 1) al Al.length sc hg) z = some (.inl (ct 2, 24, .inr (.inr (.inr (.inr f))))) := fun z f hz => hp_k (hp_ne hz f_x (by simp)) (hp_k (hp_ne hz f_ac (by simp)) hz)
  refine adW_iff.mpr ⟨?_, ⟨va_up fa0 As.length (some q), va_up ao As.length q, va_up oo As.length oa, va_up rf As.length (fun _ => none), hp_k (Ne.symm (hp_ne f_x f_ac (by simp))) hp_us, ?_, fun i hi => ?_, ?_⟩, (hQ.ne_q f_ac (by decide)).ne_o f_x' (Or.inl rfl)⟩
  · rw [List.length_append]; exact hp_us
  · rw [List.length_append]; exact hl
  · have hi : i < As.length + 1 := by rw [List.length_append] at hi; exact hi
    rw [getD_app (Nat.le_of_lt_succ hi)]
    by_cases e : i = As.length
    · rw [if_pos e, e, up_s, up_s, up_s, up_s]
      exact ⟨rfl, kO _ _ f_q, kA _ _ f_oa, Nat.zero_le _, fun i hi => absurd hi (Nat.not_lt_zero i)⟩
    · rw [if_neg e, up_n e, up_n e, up_n e, up_n e]
      obtain ⟨c1, c2, c3, c4, c5⟩ := w3 i (by omega)
      exact ⟨c1, kO _ _ (kk.2.1 _ _ c2), kA _ _ (kk.2.2 _ _ _ _ c3), c4, (c5.st kk.1).st st⟩
  · intro i j hi hj
    have hi : i < As.length + 1 := by rw [List.length_append] at hi; exact hi
    have hj : j < As.length + 1 := by rw [List.length_append] at hj; exact hj
    have apart : ∀ i, i < As.length → ¬ (ao i = q ∨ oo i = oa) := fun i hi z => by
      obtain ⟨c1, c2, c3, -⟩ := w3 i hi
      rcases z with z | z
      · rw [z, hq] at c2; cases c2
      · rw [z, hoa] at c3; cases c3
    by_cases e : i = As.length
    · by_cases e2 : j = As.length
      · intro _; omega
      · rw [e, up_s, up_s, up_n e2, up_n e2]
        intro z
        exact absurd (z.imp Eq.symm Eq.symm) (apart j (by omega))
    · by_cases e2 : j = As.length
      · rw [e2, up_s, up_s, up_n e, up_n e]
        intro z
        exact absurd z (apart i (by omega))
      · rw [up_n e, up_n e, up_n e2, up_n e2]
        exact w4 i j (by omega) (by omega)
/-- another name is allowed -/
theorem adW.allow {ct : Nat → ClassId} {M : hp_M} {x xt ch sh su wo ac al sc hg : Nat} {T : List Nat} {Y : ShT} {As : List (List RowT)} {Al : List (List Nat)} {sa hd : List Nat} (h : adW ct M x xt ch sh su wo ac al sc hg T Y As Al sa hd) (hl : Al.length < 8) {fl : Nat → Option Nat} (hfl : M al = some (.inl (ct 3, 8, .inr (.inr (.inr (.inr fl)))))) {ky : Nat} {K : List Nat} (hky : kyOk ct (fzc ch hg) M ky K) :
    adW ct (hp_up (hp_up M al (.inl (ct 3, 8, .inr (.inr (.inr (.inr (va_up fl Al.length (some ky)))))))) x (xO xt sh ac As.length al (Al.length + 1) sc hg)) x xt ch sh su wo ac al sc hg T Y As (Al ++ [K]) sa hd := by
  obtain ⟨a1, ⟨g0, b1, b2, b3, b4, b5⟩, c, ⟨fa, ao, oo, rf, d1, d2, d3, d4⟩, ⟨fl0, e1, e2, e3⟩, ⟨f1, f2, f3, f4⟩, ⟨k1, k2, k3⟩, n⟩ := h
  have e0 : fl0 = fl := by
    rw [hfl] at e1
    have h9 := congrArg (fun z : ClassId × Nat × _ => z.2.2) (Sum.inl.inj (Option.some.inj e1))
    exact (Sum.inr.inj (Sum.inr.inj (Sum.inr.inj (Sum.inr.inj h9)))).symm
  subst e0
  have a1' := hp_k (e := .inl (ct 3, 8, .inr (.inr (.inr (.inr (va_up fl0 Al.length (some ky))))))) (hp_ne a1 e1 (by simp)) a1
  have st : stab ct (fzc ch hg) M (hp_up (hp_up M al (.inl (ct 3, 8, .inr (.inr (.inr (.inr (va_up fl0 Al.length (some ky)))))))) x (xO xt sh ac As.length al (Al.length + 1) sc hg)) := (stab_q e1).tr (stab_o a1' (by decide))
  have hK : ∀ (q : Nat) (E : va_E), M q = some E → q ≠ al → q ≠ x → hp_up (hp_up M al (.inl (ct 3, 8, .inr (.inr (.inr (.inr (va_up fl0 Al.length (some ky)))))))) x (xO xt sh ac As.length al (Al.length + 1) sc hg) q = some E := fun q E hq h1 h2 => hp_k h2 (hp_k h1 hq)
  refine ⟨?_, ⟨g0, hK _ _ b1 (hp_ne b1 e1 (by simp)) (hp_ne b1 a1 (by simp)), hK _ _ b2 (hp_ne b2 e1 (by simp)) (hp_ne b2 a1 (by simp)), b3, b4, b5⟩, (c.k (hp_ne c.1 e1 (by simp)) (hp_ne c.2.1 e1 (by simp)) (hp_ne c.2.2.1 e1 (by simp))).k (hp_ne c.1 a1 (by simp)) (hp_ne c.2.1 a1 (by simp)) (hp_ne c.2.2.1 a1 (by simp)), ⟨fa, ao, oo, rf, hK _ _ d1 (hp_ne d1 e1 (by simp)) (hp_ne d1 a1 (by simp)), d2, fun i hi => ?_, d4⟩, ⟨va_up fl0 Al.length (some ky), hp_k (Ne.symm (hp_ne a1 e1 (by simp))) hp_us, ?_, fun i hi => ?_⟩, ⟨hK _ _ f1 (hp_ne f1 e1 (by simp)) (hp_ne f1 a1 (by simp)), f2, f3, f4⟩, ⟨hK _ _ k1 (hp_ne k1 e1 (by simp)) (hp_ne k1 a1 (by simp)), k2, k3⟩, n⟩
  · rw [List.length_append]; exact hp_us
  · obtain ⟨c1, c2, c3, c4, c5⟩ := d3 i hi
    exact ⟨c1, hK _ _ c2 (hp_ne c2 e1 (by simp)) (hp_ne c2 a1 (by simp)), hK _ _ c3 (hp_ne c3 e1 (by simp)) (hp_ne c3 a1 (by simp)), c4, c5.st st⟩
  · refine ⟨by rw [List.length_append]; exact hl, fun i hi => ?_⟩
    have hi : Al.length + 1 ≤ i := by rw [List.length_append] at hi; exact hi
    rw [up_n (by omega)]
    exact e2.2 i (by omega)
  · have hi : i < Al.length + 1 := by rw [List.length_append] at hi; exact hi
    rw [getD_app (Nat.le_of_lt_succ hi)]
    by_cases e : i = Al.length
    · rw [if_pos e, e, up_s]
      exact ⟨ky, rfl, hky.st st⟩
    · rw [if_neg e, up_n e]
      obtain ⟨k9, u1, u2⟩ := e3 i (by omega)
      exact ⟨k9, u1, u2.st st⟩
/-- another salt -/
theorem adW.salt {ct : Nat → ClassId} {M : hp_M} {x xt ch sh su wo ac al sc hg : Nat} {T : List Nat} {Y : ShT} {As : List (List RowT)} {Al : List (List Nat)} {sa hd : List Nat} (h : adW ct M x xt ch sh su wo ac al sc hg T Y As Al sa hd) {q : Nat} {K : List Nat} (hq : M q = some (.inl (ct 0, K.length, .inl (tx K)))) (hl : K.length ≤ 16) (hc : ∀ i, K.getD i 0 < 65536) (hf : fzc ch hg q) :
    adW ct (hp_up M x (xO xt sh ac As.length al Al.length q hg)) x xt ch sh su wo ac al q hg T Y As Al K hd := by
  obtain ⟨a1, ⟨g0, b1, b2, b3, b4, b5⟩, c, d, e, -, ⟨k1, k2, k3⟩, n⟩ := h
  have kk : kq ct (fzc ch hg) M (hp_up M x (xO xt sh ac As.length al Al.length q hg)) := kq_o a1 (by decide)
  exact ⟨hp_us, ⟨g0, hp_k (hp_ne b1 a1 (by simp)) b1, hp_k (hp_ne b2 a1 (by simp)) b2, b3, b4, b5⟩, c.k (hp_ne c.1 a1 (by simp)) (hp_ne c.2.1 a1 (by simp)) (hp_ne c.2.2.1 a1 (by simp)), d.kq kk, e.kq kk, ⟨hp_k (hp_ne hq a1 (by simp)) hq, hl, hc, hf⟩, ⟨hp_k (hp_ne k1 a1 (by simp)) k1, k2, k3⟩, n⟩
