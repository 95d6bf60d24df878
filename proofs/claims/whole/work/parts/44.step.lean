/-! ONE STEP, ONE STATE -/
theorem one_nil {V V' : MS} {T : List Nat} {LL : List (List MR)} {As : List (List RowT)} {Al : List (List Nat)} {sa hd : List Nat} (h : one V T LL As Al sa hd) (hty : V'.ty = 0) (hL : mdL V' LL) (hA : nmA V' Al) (hsd : V'.sd = V.sd) (hsl : V'.sl = V.sl) (hhe : V'.he = V.he) : one V' [] LL As Al sa hd := by
  obtain ⟨-, -, -, -, -, -, h7, h8, h9, h10, h11, h12, h13⟩ := h
  exact ⟨hty, fun i hi => absurd hi (Nat.not_lt_zero i), by decide, fun i => by simp, hL, hA, hsd.trans h7, h8, fun i hi => by rw [hsl]; exact h9 i hi, h10, by rw [hhe]; exact h11, h12, h13⟩
theorem rel_set {LL : List (List MR)} {As : List (List RowT)} (hl : LL.length = As.length) (hr : ∀ j, j < LL.length → relA (LL.getD j []) (As.getD j [])) {i : Nat} (hi : i < LL.length) {L : List MR} {rs : List RowT} (h : relA L rs) : (LL.set i L).length = (As.set i rs).length ∧ ∀ j, j < (LL.set i L).length → relA ((LL.set i L).getD j []) ((As.set i rs).getD j []) := by
  refine ⟨by rw [List.length_set, List.length_set]; exact hl, fun j hj => ?_⟩
  rw [List.length_set] at hj
  rw [gd_set hi, gd_set (by omega)]
  by_cases z : j = i
  · rw [if_pos z, if_pos z]; exact h
  · rw [if_neg z, if_neg z]; exact hr j hj
theorem rel_new {LL : List (List MR)} {As : List (List RowT)} (hl : LL.length = As.length) (hr : ∀ j, j < LL.length → relA (LL.getD j []) (As.getD j [])) : (LL ++ [[]]).length = (As ++ [[]]).length ∧ ∀ j, j < (LL ++ [[]]).length → relA ((LL ++ [[]]).getD j []) ((As ++ [[]]).getD j []) := by
  refine ⟨by rw [List.length_append, List.length_append, hl]; rfl, fun j hj => ?_⟩
  rw [List.length_append, List.length_singleton] at hj
  by_cases z : j < LL.length
  · rw [gd_app z, gd_app (by omega)]; exact hr j z
  · rw [show j = LL.length by omega, gd_new, hl, gd_new]; exact relA_nil
theorem mdL_new {V V' : MS} {LL : List (List MR)} (h : mdL V LL) (h12 : LL.length < 12) (e1 : V'.ac = V.ac + 1) (e2 : V'.cn = V.cn) (e3 : V'.kd = V.kd) (e4 : V'.ky = V.ky) (e5 : V'.sz = V.sz) (e6 : V'.le = V.le) (e7 : V'.dg = V.dg) : mdL V' (LL ++ [[]]) := by
  obtain ⟨h1, h2, h3, h4⟩ := h
  refine ⟨by rw [List.length_append, e1, h1]; rfl, by rw [List.length_append, List.length_singleton]; omega, fun a ha => ?_, fun a ha h => ?_⟩
  · rw [List.length_append, List.length_singleton] at ha
    by_cases z : a < LL.length
    · rw [gd_app z]
      obtain ⟨g1, g2, g3⟩ := h3 a z
      refine ⟨by rw [e2]; exact g1, g2, fun k hk => ?_⟩
      have g := g3 k hk
      unfold mrA at g ⊢
      rw [e3, e4, e5, e6, e7]
      exact g
    · rw [show a = LL.length by omega, gd_new]
      exact ⟨by rw [e2]; exact h4 _ (Nat.le_refl _) h12, by decide, fun k hk => absurd hk (Nat.not_lt_zero k)⟩
  · rw [List.length_append, List.length_singleton] at ha
    rw [e2]
    exact h4 a (by omega) h
theorem kl_0 {T : List Nat} {n : Nat} (h : isKl T (nI 0) n) : n = 0 := by
  rcases h with ⟨p, -⟩ | ⟨p, -⟩ | ⟨-, -, e⟩
  · rcases p with e | e | e <;> exact absurd e (by decide)
  · rcases p with e | e | e <;> exact absurd e (by decide)
  · exact e
theorem wf_row {T : List Nat} {w n : Nat} {he : Nat → Int32} (hT : T.length ≤ 64) (hc : ∀ i, T.getD i 0 < 128) (hw : w ≤ 6) (hk : isKl T (nI w) n) : wfR (w, n, T, he) := by
  refine ⟨fun z => ?_, hc, hT, by show w ≤ 7; omega⟩
  have z : w = 0 ∨ w = 7 := z
  have e : w = 0 := by omega
  subst e
  show T.take n = []
  rw [kl_0 hk, List.take_zero]
theorem wf_ed {n : Nat} {d : Nat → Int32} : wfR (7, 0, edL n, d) := by
  refine ⟨fun _ => rfl, gd_mem (by decide) (fun x hx => ?_), by show (edL n).length ≤ 64; simp [edL], Nat.le_refl 7⟩
  have hx : x ∈ (List.range 8).map (fun i => 48 + n / 10 ^ (7 - i) % 10) := hx
  rw [List.mem_map] at hx
  obtain ⟨i, -, rfl⟩ := hx
  have := Nat.mod_lt (n / 10 ^ (7 - i)) (show 10 > 0 by decide)
  omega
theorem has_row {L : List MR} {rs : List RowT} (h : relA L rs) {w : Nat} {K : List Nat} : (∃ i, i < rs.length ∧ (rs.getD i rw0).1 = w ∧ (rs.getD i rw0).2.1 = K) ↔ ∃ i, i < L.length ∧ (L.getD i mr0).1 = w ∧ kyR (L.getD i mr0) = K := relA_ex h (fun R => R.1 = w ∧ R.2.1 = K)
theorem has_7 {L : List MR} {rs : List RowT} (h : relA L rs) : (∃ i, i < rs.length ∧ (rs.getD i rw0).1 = 7) ↔ ∃ i, i < L.length ∧ (L.getD i mr0).1 = 7 := relA_ex h (fun R => R.1 = 7)
def mdRow (ct : Nat → ClassId) (M1 : hp_M) (md : Nat) (B : MA) (V : MS) (T : List Nat) (LL : List (List MR)) (x k : Int32) : Prop := ((¬ ∃ j w, j < LL.length ∧ x = nI j ∧ w ≤ 6 ∧ k = nI w ∧ fitK T (nI w)) ∧ mdS ct M1 md B (mkS (V.te) (V.cn) (V.kd) (V.sz) (V.ky) (V.le) (V.nm) (V.ns) (V.sl) (V.sb) (V.he) (V.dg) (V.su) (V.wi) (V.tu) 1 0 (V.ac) (V.al) (V.sd) (V.ss))) ∨ ((∃ j w n, j < LL.length ∧ x = nI j ∧ k = nI w ∧ w ≤ 6 ∧ fitK T (nI w) ∧ isKl T (nI w) n ∧ ((w ≠ 0 ∧ (∃ i, i < (LL.getD j []).length ∧ ((LL.getD j []).getD i mr0).1 = w ∧ kyR ((LL.getD j []).getD i mr0) = T.take n)) ∨ 24 ≤ (LL.getD j []).length)) ∧ mdS ct M1 md B (mkS (V.te) (V.cn) (V.kd) (V.sz) (V.ky) (V.le) (V.nm) (V.ns) (V.sl) (V.sb) (V.he) (V.dg) (V.su) (V.wi) (V.tu) 2 0 (V.ac) (V.al) (V.sd) (V.ss))) ∨ ∃ j w n, j < LL.length ∧ x = nI j ∧ k = nI w ∧ w ≤ 6 ∧ fitK T (nI w) ∧ isKl T (nI w) n ∧ (w = 0 ∨ ¬ (∃ i, i < (LL.getD j []).length ∧ ((LL.getD j []).getD i mr0).1 = w ∧ kyR ((LL.getD j []).getD i mr0) = T.take n)) ∧ (LL.getD j []).length < 24 ∧ ∃ cn kd sz9 ky le dg, mdS ct M1 md B (mkS (V.te) cn kd sz9 ky le (V.nm) (V.ns) (V.sl) (V.sb) (V.he) dg (V.su) (V.wi) (V.tu) 0 0 (V.ac) (V.al) (V.sd) (V.ss)) ∧ mdL (mkS (V.te) cn kd sz9 ky le (V.nm) (V.ns) (V.sl) (V.sb) (V.he) dg (V.su) (V.wi) (V.tu) 0 0 (V.ac) (V.al) (V.sd) (V.ss)) (LL.set j ((LL.getD j []) ++ [(w, n, T, V.he)]))
def mdEd (ct : Nat → ClassId) (M1 : hp_M) (md : Nat) (B : MA) (V : MS) (LL : List (List MR)) (x k : Int32) : Prop := ((¬ ∃ j n, j < LL.length ∧ x = nI j ∧ k = nI n ∧ n ≤ 99999999) ∧ mdS ct M1 md B (mkS (V.te) (V.cn) (V.kd) (V.sz) (V.ky) (V.le) (V.nm) (V.ns) (V.sl) (V.sb) (V.he) (V.dg) (V.su) (V.wi) (V.tu) 1 (V.ty) (V.ac) (V.al) (V.sd) (V.ss))) ∨ ((∃ j n, j < LL.length ∧ x = nI j ∧ k = nI n ∧ n ≤ 99999999 ∧ (∀ i, i < (LL.getD j []).length → ((LL.getD j []).getD i mr0).1 ≠ 7) ∧ 24 ≤ (LL.getD j []).length) ∧ mdS ct M1 md B (mkS (V.te) (V.cn) (V.kd) (V.sz) (V.ky) (V.le) (V.nm) (V.ns) (V.sl) (V.sb) (V.he) (V.dg) (V.su) (V.wi) (V.tu) 2 (V.ty) (V.ac) (V.al) (V.sd) (V.ss))) ∨ ∃ j n d, j < LL.length ∧ x = nI j ∧ k = nI n ∧ n ≤ 99999999 ∧ ∃ cn kd sz9 ky le, mdS ct M1 md B (mkS (V.te) cn kd sz9 ky le (V.nm) (V.ns) (V.sl) (V.sb) (V.he) (V.dg) (V.su) (V.wi) (V.tu) 0 (V.ty) (V.ac) (V.al) (V.sd) (V.ss)) ∧ (((∀ i, i < (LL.getD j []).length → ((LL.getD j []).getD i mr0).1 ≠ 7) ∧ (LL.getD j []).length < 24 ∧ mdL (mkS (V.te) cn kd sz9 ky le (V.nm) (V.ns) (V.sl) (V.sb) (V.he) (V.dg) (V.su) (V.wi) (V.tu) 0 (V.ty) (V.ac) (V.al) (V.sd) (V.ss)) (LL.set j ((LL.getD j []) ++ [(7, 0, edL n, d)]))) ∨ ∃ i, i < (LL.getD j []).length ∧ ((LL.getD j []).getD i mr0).1 = 7 ∧ mdL (mkS (V.te) cn kd sz9 ky le (V.nm) (V.ns) (V.sl) (V.sb) (V.he) (V.dg) (V.su) (V.wi) (V.tu) 0 (V.ty) (V.ac) (V.al) (V.sd) (V.ss)) (LL.set j ((LL.getD j []).set i (7, 0, edL n, d))))
theorem row_n {ct : Nat → ClassId} {M1 : hp_M} {md : Nat} {B : MA} {V : MS} {T : List Nat} {LL : List (List MR)} {As : List (List RowT)} {Al : List (List Nat)} {sa hd : List Nat} {x k : Int32} (h : one V T LL As Al sa hd) (hm : mdRow ct M1 md B V T LL x k) {j k1 n u : Nat} (hj : j < As.length) (ex : x = nI j) (ek : k = nI k1) (h6 : k1 ≤ 6) (hf : fitK T (nI k1)) (hkl : isKl T (nI k1) n) (hn : k1 = 0 ∨ ¬ (∃ i, i < (As.getD j []).length ∧ ((As.getD j []).getD i rw0).1 = k1 ∧ ((As.getD j []).getD i rw0).2.1 = T.take n)) (h24 : (As.getD j []).length < 24) (hu : insAt (As.getD j []) u ((k1, T.take n, bdL k1 T hd) : RowT)) : ∃ V' LL', mdS ct M1 md B V' ∧ V'.co = 0 ∧ one V' [] LL' (As.set j (insL (As.getD j []) u ((k1, T.take n, bdL k1 T hd) : RowT))) Al sa hd := by
  have hs := h
  obtain ⟨t1, t2, t3, t4, t5, t6, t7, t8, t9, t10, t11, t12, t13⟩ := h
  have hl := t5.2.1
  have hR := t13 j (by omega)
  rcases hm with ⟨hm, -⟩ | ⟨⟨j', w, n', hj', ex', ek', h6', hf', hkl', hb⟩, -⟩ | ⟨j', w, n', hj', ex', ek', h6', hf', hkl', hb, h24', cn, kd, sz9, ky, le, dg, hw, hL⟩
  · exact absurd ⟨j, k1, by omega, ex, h6, ek, hf⟩ hm
  · exfalso
    have ej : j = j' := (nI_eq (by omega) (by omega)).mp (ex.symm.trans ex')
    have ew : k1 = w := (nI_eq (by omega) (by omega)).mp (ek.symm.trans ek')
    subst ej ew
    have en : n = n' := isKl_one hkl hkl'
    subst en
    rcases hb with ⟨h0, hb⟩ | hb
    · exact (hn.resolve_left h0) ((has_row hR).mpr hb)
    · have := relA_len hR; omega
  · have ej : j = j' := (nI_eq (by omega) (by omega)).mp (ex.symm.trans ex')
    have ew : k1 = w := (nI_eq (by omega) (by omega)).mp (ek.symm.trans ek')
    subst ej ew
    have en : n = n' := isKl_one hkl hkl'
    subst en
    subst t11
    have hp := relA_put (R := (k1, n, T, V.he)) hR (wf_row t3 t4 h6 hkl) hb hu
    obtain ⟨g1, g2⟩ := rel_set t12 t13 hj' hp
    exact ⟨_, _, hw, rfl, rfl, fun i hi => absurd hi (Nat.not_lt_zero i), by decide, fun i => by simp, hL, t6, t7, t8, t9, t10, rfl, g1, g2⟩
theorem row_a {ct : Nat → ClassId} {M1 : hp_M} {md : Nat} {B : MA} {V : MS} {T : List Nat} {LL : List (List MR)} {As : List (List RowT)} {Al : List (List Nat)} {sa hd : List Nat} {x k : Int32} (h : one V T LL As Al sa hd) (hm : mdRow ct M1 md B V T LL x k) (hc : (∀ j, j < As.length → x ≠ nI j) ∨ ((∃ j, j < As.length ∧ x = nI j) ∧ ¬ fitK T k)) : ∃ V', mdS ct M1 md B V' ∧ V'.co = 1 ∧ one V' [] LL As Al sa hd := by
  have t12 := h.2.2.2.2.2.2.2.2.2.2.2.1
  rcases hm with ⟨hm, hw⟩ | ⟨⟨j', w, n', hj', ex', ek', h6', hf', hkl', hb⟩, -⟩ | ⟨j', w, n', hj', ex', ek', h6', hf', hkl', -⟩
  · exact ⟨_, hw, rfl, one_nil h rfl h.2.2.2.2.1 h.2.2.2.2.2.1 rfl rfl rfl⟩
  · rcases hc with hc | ⟨-, hc⟩
    · exact absurd ex' (hc j' (by omega))
    · exact absurd (ek' ▸ hf') hc
  · rcases hc with hc | ⟨-, hc⟩
    · exact absurd ex' (hc j' (by omega))
    · exact absurd (ek' ▸ hf') hc
theorem row_s {ct : Nat → ClassId} {M1 : hp_M} {md : Nat} {B : MA} {V : MS} {T : List Nat} {LL : List (List MR)} {As : List (List RowT)} {Al : List (List Nat)} {sa hd : List Nat} {x k : Int32} (h : one V T LL As Al sa hd) (hm : mdRow ct M1 md B V T LL x k) {j k1 n : Nat} (hj : j < As.length) (ex : x = nI j) (ek : k = nI k1) (h6 : k1 ≤ 6) (hf : fitK T (nI k1)) (hkl : isKl T (nI k1) n) (hc : (k1 ≠ 0 ∧ (∃ i, i < (As.getD j []).length ∧ ((As.getD j []).getD i rw0).1 = k1 ∧ ((As.getD j []).getD i rw0).2.1 = T.take n)) ∨ 24 ≤ (As.getD j []).length) : ∃ V', mdS ct M1 md B V' ∧ V'.co = 2 ∧ one V' [] LL As Al sa hd := by
  have t12 := h.2.2.2.2.2.2.2.2.2.2.2.1
  have hl := h.2.2.2.2.1.2.1
  have hR := h.2.2.2.2.2.2.2.2.2.2.2.2 j (by omega)
  rcases hm with ⟨hm, -⟩ | ⟨-, hw⟩ | ⟨j', w, n', hj', ex', ek', h6', hf', hkl', hb, h24, -⟩
  · exact absurd ⟨j, k1, by omega, ex, h6, ek, hf⟩ hm
  · exact ⟨_, hw, rfl, one_nil h rfl h.2.2.2.2.1 h.2.2.2.2.2.1 rfl rfl rfl⟩
  · exfalso
    have ej : j = j' := (nI_eq (by omega) (by omega)).mp (ex.symm.trans ex')
    have ew : k1 = w := (nI_eq (by omega) (by omega)).mp (ek.symm.trans ek')
    subst ej ew
    have en : n = n' := isKl_one hkl hkl'
    subst en
    rcases hc with ⟨h0, hc⟩ | hc
    · exact (hb.resolve_left h0) ((has_row hR).mp hc)
    · have := relA_len hR; omega
theorem ed_n {ct : Nat → ClassId} {M1 : hp_M} {md : Nat} {B : MA} {V : MS} {T : List Nat} {LL : List (List MR)} {As : List (List RowT)} {Al : List (List Nat)} {sa hd : List Nat} {x k : Int32} (h : one V T LL As Al sa hd) (hm : mdEd ct M1 md B V LL x k) {j n1 : Nat} (hj : j < As.length) (ex : x = nI j) (ek : k = nI n1) (h9 : n1 ≤ 99999999) {As' : List (List RowT)} (hc : (∃ i, i < (As.getD j []).length ∧ ((As.getD j []).getD i rw0).1 = 7 ∧ As' = As.set j ((As.getD j []).set i ((7, [], edL n1) : RowT))) ∨ ((∀ i, i < (As.getD j []).length → ((As.getD j []).getD i rw0).1 ≠ 7) ∧ (As.getD j []).length < 24 ∧ ∃ u, insAt (As.getD j []) u ((7, [], edL n1) : RowT) ∧ As' = As.set j (insL (As.getD j []) u ((7, [], edL n1) : RowT)))) : ∃ V' LL', mdS ct M1 md B V' ∧ V'.co = 0 ∧ one V' T LL' As' Al sa hd := by
  obtain ⟨t1, t2, t3, t4, t5, t6, t7, t8, t9, t10, t11, t12, t13⟩ := h
  have hl := t5.2.1
  have hR := t13 j (by omega)
  rcases hm with ⟨hm, -⟩ | ⟨⟨j', n', hj', ex', ek', h9', h7, h24⟩, -⟩ | ⟨j', n', d, hj', ex', ek', h9', cn, kd, sz9, ky, le, hw, hL⟩
  · exact absurd ⟨j, n1, by omega, ex, ek, h9⟩ hm
  · exfalso
    have ej : j = j' := (nI_eq (by omega) (by omega)).mp (ex.symm.trans ex')
    subst ej
    rcases hc with ⟨i, hi, h, -⟩ | ⟨-, h, -⟩
    · obtain ⟨q, hq, e⟩ := (has_7 hR).mp ⟨i, hi, h⟩
      exact h7 q hq e
    · have := relA_len hR; omega
  · have ej : j = j' := (nI_eq (by omega) (by omega)).mp (ex.symm.trans ex')
    have en : n1 = n' := (nI_eq (by omega) (by omega)).mp (ek.symm.trans ek')
    subst ej en
    have ec : clR (7, 0, edL n1, d) = ((7, [], edL n1) : RowT) := rfl
    rcases hc with ⟨i, hi, h, rfl⟩ | ⟨h, h24, u, hu, rfl⟩
    · rcases hL with ⟨h7, -⟩ | ⟨q, hq, h7, hL⟩
      · obtain ⟨q, hq, e⟩ := (has_7 hR).mp ⟨i, hi, h⟩
        exact absurd e (h7 q hq)
      · have hp := relA_set (R := (7, 0, edL n1, d)) hR wf_ed rfl hi h hq h7
        obtain ⟨g1, g2⟩ := rel_set t12 t13 hj' hp
        exact ⟨_, _, hw, rfl, t1, t2, t3, t4, hL, t6, t7, t8, t9, t10, t11, g1, g2⟩
    · rcases hL with ⟨h7, -, hL⟩ | ⟨q, hq, h7, hL⟩
      · have hp := relA_put (R := (7, 0, edL n1, d)) (u := u) hR wf_ed (Or.inr (fun ⟨i, hi, e, _⟩ => h7 i hi e)) hu
        obtain ⟨g1, g2⟩ := rel_set t12 t13 hj' hp
        exact ⟨_, _, hw, rfl, t1, t2, t3, t4, hL, t6, t7, t8, t9, t10, t11, g1, g2⟩
      · obtain ⟨i, hi, e⟩ := (has_7 hR).mpr ⟨q, hq, h7⟩
        exact absurd e (h i hi)
theorem ed_a {ct : Nat → ClassId} {M1 : hp_M} {md : Nat} {B : MA} {V : MS} {T : List Nat} {LL : List (List MR)} {As : List (List RowT)} {Al : List (List Nat)} {sa hd : List Nat} {x k : Int32} (h : one V T LL As Al sa hd) (hm : mdEd ct M1 md B V LL x k) (hc : (∀ j, j < As.length → x ≠ nI j) ∨ ((∃ j, j < As.length ∧ x = nI j) ∧ ∀ n1, n1 ≤ 99999999 → k ≠ nI n1)) : ∃ V', mdS ct M1 md B V' ∧ V'.co = 1 ∧ one V' T LL As Al sa hd := by
  have t12 := h.2.2.2.2.2.2.2.2.2.2.2.1
  rcases hm with ⟨hm, hw⟩ | ⟨⟨j', n', hj', ex', ek', h9', -⟩, -⟩ | ⟨j', n', d, hj', ex', ek', h9', -⟩
  · exact ⟨_, hw, rfl, h⟩
  · rcases hc with hc | ⟨-, hc⟩
    · exact absurd ex' (hc j' (by omega))
    · exact absurd ek' (hc n' h9')
  · rcases hc with hc | ⟨-, hc⟩
    · exact absurd ex' (hc j' (by omega))
    · exact absurd ek' (hc n' h9')
theorem ed_s {ct : Nat → ClassId} {M1 : hp_M} {md : Nat} {B : MA} {V : MS} {T : List Nat} {LL : List (List MR)} {As : List (List RowT)} {Al : List (List Nat)} {sa hd : List Nat} {x k : Int32} (h : one V T LL As Al sa hd) (hm : mdEd ct M1 md B V LL x k) {j n1 : Nat} (hj : j < As.length) (ex : x = nI j) (ek : k = nI n1) (h9 : n1 ≤ 99999999) (h7 : ∀ i, i < (As.getD j []).length → ((As.getD j []).getD i rw0).1 ≠ 7) (h24 : 24 ≤ (As.getD j []).length) : ∃ V', mdS ct M1 md B V' ∧ V'.co = 2 ∧ one V' T LL As Al sa hd := by
  have t12 := h.2.2.2.2.2.2.2.2.2.2.2.1
  have hl := h.2.2.2.2.1.2.1
  have hR := h.2.2.2.2.2.2.2.2.2.2.2.2 j (by omega)
  rcases hm with ⟨hm, -⟩ | ⟨-, hw⟩ | ⟨j', n', d, hj', ex', ek', h9', cn, kd, sz9, ky, le, hw, hL⟩
  · exact absurd ⟨j, n1, by omega, ex, ek, h9⟩ hm
  · exact ⟨_, hw, rfl, h⟩
  · exfalso
    have ej : j = j' := (nI_eq (by omega) (by omega)).mp (ex.symm.trans ex')
    subst ej
    rcases hL with ⟨-, hL, -⟩ | ⟨q, hq, e, -⟩
    · have := relA_len hR; omega
    · obtain ⟨i, hi, e⟩ := (has_7 hR).mpr ⟨q, hq, e⟩
      exact h7 i hi e
