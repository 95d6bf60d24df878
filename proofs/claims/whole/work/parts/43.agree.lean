/-! ONE STATE, ONE ANSWER -/
theorem hexL_c {s t : Nat → Int32} (h : ∀ i, i < 8 → s i = t i) : hexL s = hexL t := by
  unfold hexL
  refine List.map_congr_left (fun i hi => ?_)
  rw [List.mem_range] at hi
  unfold hexF
  rw [h (i / 8) (by omega)]
theorem hexC_inj {a b : Nat} (ha : a < 16) (hb : b < 16) (h : hexC a = hexC b) : a = b := by
  unfold hexC at h
  by_cases h1 : a < 10
  · rw [if_pos h1] at h
    by_cases h2 : b < 10
    · rw [if_pos h2] at h; omega
    · rw [if_neg h2] at h; omega
  · rw [if_neg h1] at h
    by_cases h2 : b < 10
    · rw [if_pos h2] at h; omega
    · rw [if_neg h2] at h; omega
theorem nib_inj {x y : Int32} (h : ∀ r, r < 8 → nibN x (28 - 4 * r) = nibN y (28 - 4 * r)) : x = y := by
  apply Int32.toBitVec_inj.mp
  apply BitVec.eq_of_toNat_eq
  have h0 := h 0 (by decide)
  have h1 := h 1 (by decide)
  have h2 := h 2 (by decide)
  have h3 := h 3 (by decide)
  have h4 := h 4 (by decide)
  have h5 := h 5 (by decide)
  have h6 := h 6 (by decide)
  have h7 := h 7 (by decide)
  simp only [nibN, Nat.reduceMul, Nat.reduceSub, Nat.reducePow, Nat.div_one] at h0 h1 h2 h3 h4 h5 h6 h7
  have a := x.toBitVec.isLt
  have b := y.toBitVec.isLt
  generalize x.toBitVec.toNat = m at *
  generalize y.toBitVec.toNat = n at *
  omega
theorem hexL_inj {s t : Nat → Int32} (h : hexL s = hexL t) {i : Nat} (hi : i < 8) : s i = t i := by
  apply nib_inj
  intro r hr
  have e : hexF s (8 * i + r) = hexF t (8 * i + r) := by rw [← hexL_at (by omega), ← hexL_at (by omega), h]
  unfold hexF at e
  rw [show (8 * i + r) / 8 = i by omega, show (8 * i + r) % 8 = r by omega] at e
  exact hexC_inj (Nat.mod_lt _ (by decide)) (Nat.mod_lt _ (by decide)) e
theorem sameR_like {R S : MR} : sameR R S ↔ like (clR R) (clR S) := by
  unfold sameR like clR bdL
  constructor
  · rintro ⟨h1, h2, h3⟩
    refine ⟨h1, ?_⟩
    show (if R.1 = 1 ∨ R.1 = 3 then R.2.2.1 ++ 0 :: hexL R.2.2.2 else R.2.2.1) = (if S.1 = 1 ∨ S.1 = 3 then S.2.2.1 ++ 0 :: hexL S.2.2.2 else S.2.2.1)
    by_cases z : R.1 = 1 ∨ R.1 = 3
    · rw [if_pos z, if_pos (by omega), h2, hexL_c (h3 z)]
    · rw [if_neg z, if_neg (by omega), h2]
  · rintro ⟨h1, h2⟩
    replace h1 : R.1 = S.1 := h1
    replace h2 : (if R.1 = 1 ∨ R.1 = 3 then R.2.2.1 ++ 0 :: hexL R.2.2.2 else R.2.2.1) = (if S.1 = 1 ∨ S.1 = 3 then S.2.2.1 ++ 0 :: hexL S.2.2.2 else S.2.2.1) := h2
    by_cases z : R.1 = 1 ∨ R.1 = 3
    · rw [if_pos z, if_pos (by omega)] at h2
      have h3 := List.append_inj' h2 (by simp [hexL_len])
      refine ⟨h1, h3.1, fun _ i hi => hexL_inj (List.cons.inj h3.2).2 hi⟩
    · rw [if_neg z, if_neg (by omega)] at h2
      exact ⟨h1, h2, fun y => absurd y z⟩
theorem clR_0 : clR mr0 = rw0 := rfl
theorem map_clR {O : List MR} {i : Nat} : (O.map clR).getD i rw0 = clR (O.getD i mr0) := by
  rw [List.getD_eq_getElem?_getD, List.getD_eq_getElem?_getD, List.getElem?_map]
  cases O[i]? with
  | none => rfl
  | some R => rfl
theorem dif_same {O P : List MR} {r r' : Int32} (hO : O.length < 2 ^ 31) (hP : P.length < 2 ^ 31) (h : dif (O.map clR) (P.map clR) r) (h' : difM O P r') : r = r' := by
  have key : ∀ i, like ((O.map clR).getD i rw0) ((P.map clR).getD i rw0) ↔ sameR (O.getD i mr0) (P.getD i mr0) := fun i => by rw [map_clR, map_clR]; exact sameR_like.symm
  unfold dif at h
  simp only [List.length_map, key] at h
  rcases h with ⟨p, h1, h2, h3, rfl⟩ | ⟨h1, h2, rfl⟩
  · rcases h' with ⟨q, g1, g2, g3, rfl⟩ | ⟨g1, g2, rfl⟩
    · rcases Nat.lt_trichotomy p q with z | z | z
      · exact absurd (g1 p z) h3
      · rw [z]
      · exact absurd (h1 q z) g3
    · exfalso
      have hp : p < O.length := by omega
      exact h3 ⟨hp, by omega, g2 p hp⟩
  · rcases h' with ⟨q, g1, g2, g3, rfl⟩ | ⟨g1, g2, rfl⟩
    · exfalso
      have hp : q < O.length := by omega
      exact g3 ⟨hp, by omega, h2 q hp⟩
    · rfl
theorem on_same {LL : List (List MR)} {As : List (List RowT)} {k r r' r0 : Int32} {P : List RowT → Int32 → Prop} {P' : Nat → Int32 → Prop} (hl : LL.length = As.length) (h12 : LL.length ≤ 12) (h1 : onA As k r P r0) (h2 : onM LL k r' P' r0) (hP : ∀ j, j < LL.length → P (As.getD j []) r → P' j r' → r = r') : r = r' := by
  rcases h1 with ⟨j, hj, e, hp⟩ | ⟨hn, e⟩
  · rcases h2 with ⟨i, hi, e', hp'⟩ | ⟨hn', e'⟩
    · have ij : j = i := (nI_eq (by omega) (by omega)).mp (e.symm.trans e')
      subst ij
      exact hP j hi hp hp'
    · exact absurd e (hn' j (by omega))
  · rcases h2 with ⟨i, hi, e', hp'⟩ | ⟨hn', e'⟩
    · exact absurd e' (hn i (by omega))
    · rw [e, e']
theorem onK_same {n : Nat} {k r r' r0 : Int32} {P P' : Nat → Int32 → Prop} (hn : n < 2 ^ 31) (h1 : onK n k r P r0) (h2 : onK n k r' P' r0) (hP : ∀ j, j < n → P j r → P' j r' → r = r') : r = r' := by
  rcases h1 with ⟨j, hj, e, hp⟩ | ⟨hn1, e⟩
  · rcases h2 with ⟨i, hi, e', hp'⟩ | ⟨hn', e'⟩
    · have ij : j = i := (nI_eq (by omega) (by omega)).mp (e.symm.trans e')
      subst ij
      exact hP j hi hp hp'
    · exact absurd e (hn' j hj)
  · rcases h2 with ⟨i, hi, e', hp'⟩ | ⟨hn', e'⟩
    · exact absurd e' (hn1 i hi)
    · rw [e, e']
theorem gd_mem {l : List Nat} {b : Nat} (h0 : 0 < b) (h : ∀ x ∈ l, x < b) (i : Nat) : l.getD i 0 < b := by
  by_cases z : i < l.length
  · rw [gd_lt z]; exact h _ (List.getElem_mem z)
  · rw [List.getD_eq_getElem?_getD, List.getElem?_eq_none (by omega)]; exact h0
theorem gd_in {l : List Nat} {b : Nat} (h : ∀ i, l.getD i 0 < b) {x : Nat} (hx : x ∈ l) : x < b := by
  obtain ⟨i, hi, e⟩ := List.mem_iff_getElem.mp hx
  have := h i
  rw [gd_lt hi, e] at this
  exact this
theorem stT_ok {R : MR} (h : wfR R) : (stT (clR R)).length ≤ 132 ∧ ∀ x ∈ stT (clR R), x < 256 := by
  obtain ⟨-, h2, h3, h4⟩ := h
  have hb : (clR R).2.2.length ≤ 129 ∧ ∀ x ∈ (clR R).2.2, x < 256 := by
    show (bdL R.1 R.2.2.1 (hexL R.2.2.2)).length ≤ 129 ∧ ∀ x ∈ bdL R.1 R.2.2.1 (hexL R.2.2.2), x < 256
    unfold bdL
    by_cases z : R.1 = 1 ∨ R.1 = 3
    · rw [if_pos z]
      refine ⟨by rw [List.length_append, List.length_cons, hexL_len]; omega, fun x hx => ?_⟩
      rw [List.mem_append, List.mem_cons] at hx
      rcases hx with hx | hx | hx
      · have := gd_in h2 hx; omega
      · omega
      · have := gd_in (fun i => hexL_lt (s := R.2.2.2) i) hx; omega
    · rw [if_neg z]
      exact ⟨by omega, fun x hx => by have := gd_in h2 hx; omega⟩
  have e1 : (clR R).1 = R.1 := rfl
  unfold stT
  refine ⟨by simp only [List.length_cons]; omega, fun x hx => ?_⟩
  rw [List.mem_cons, List.mem_cons, List.mem_cons] at hx
  rcases hx with hx | hx | hx | hx
  · omega
  · omega
  · omega
  · exact hb.2 x hx
theorem stA_ok : ∀ (O : List MR), (∀ k, k < O.length → wfR (O.getD k mr0)) → (stA (O.map clR)).length ≤ 132 * O.length ∧ ∀ x ∈ stA (O.map clR), x < 256
  | [], _ => ⟨Nat.le_refl _, fun x hx => by cases hx⟩
  | R :: O, h => by
    have h0 := stT_ok (h 0 (Nat.succ_pos _))
    have ih := stA_ok O (fun k hk => h (k + 1) (Nat.succ_lt_succ hk))
    have e : stA ((R :: O).map clR) = stT (clR R) ++ stA (O.map clR) := rfl
    rw [e, List.length_append, List.length_cons]
    refine ⟨?_, fun x hx => ?_⟩
    · have : (stT (clR ((R :: O).getD 0 mr0))).length = (stT (clR R)).length := rfl
      omega
    · rw [List.mem_append] at hx
      rcases hx with hx | hx
      · exact h0.2 x hx
      · exact ih.2 x hx
theorem isKl_one {l : List Nat} {k : Int32} {a b : Nat} (ha : isKl l k a) (hb : isKl l k b) : a = b := by
  have hd : ¬ (kP k ∧ kN k) := fun z => by
    rcases z.1 with e | e | e <;> rcases z.2 with e' | e' | e' <;> rw [e] at e' <;> exact absurd e' (by decide)
  rcases ha with ⟨p, e⟩ | ⟨p, e⟩ | ⟨p, p', e⟩
  · rcases hb with ⟨q, f⟩ | ⟨q, f⟩ | ⟨q, q', f⟩
    · rw [e, f]
    · exact absurd ⟨p, q⟩ hd
    · exact absurd p q
  · rcases hb with ⟨q, f⟩ | ⟨q, f⟩ | ⟨q, q', f⟩
    · exact absurd ⟨q, p⟩ hd
    · exact isEqs_one e f
    · exact absurd p q'
  · rcases hb with ⟨q, f⟩ | ⟨q, f⟩ | ⟨q, q', f⟩
    · exact absurd q p
    · exact absurd q p'
    · rw [e, f]
/-- the class's state and the model's are one -/
def one (V : MS) (T : List Nat) (LL : List (List MR)) (As : List (List RowT)) (Al : List (List Nat)) (sa hd : List Nat) : Prop := V.ty = T.length ∧ (∀ i, i < T.length → V.te i = T.getD i 0) ∧ T.length ≤ 64 ∧ (∀ i, T.getD i 0 < 128) ∧ mdL V LL ∧ nmA V Al ∧ V.sd = sa.length ∧ sa.length ≤ 16 ∧ (∀ i, i < sa.length → V.sl i = sa.getD i 0) ∧ (∀ i, sa.getD i 0 < 128) ∧ hd = hexL V.he ∧ LL.length = As.length ∧ ∀ j, j < LL.length → relA (LL.getD j []) (As.getD j [])
theorem one_OO {V : MS} {T : List Nat} {LL : List (List MR)} {As : List (List RowT)} {Al : List (List Nat)} {sa hd : List Nat} (h : one V T LL As Al sa hd) : ∃ OO : Nat → List MR, ∀ j, j < LL.length → ordL Al (LL.getD j []) (OO j) ∧ (OO j).map clR = cR Al (As.getD j []) ∧ (OO j).length ≤ 48 ∧ ∀ k, k < (OO j).length → wfR ((OO j).getD k mr0) := by
  have hj : ∀ j, ∃ O : List MR, j < LL.length → ordL Al (LL.getD j []) O ∧ O.map clR = cR Al (As.getD j []) ∧ O.length ≤ 48 ∧ ∀ k, k < O.length → wfR (O.getD k mr0) := fun j => by
    by_cases z : j < LL.length
    · obtain ⟨O, h1, h2, h3, h4⟩ := relA_ord (h.2.2.2.2.2.2.2.2.2.2.2.2 j z) Al
      have := (h.2.2.2.2.1.2.2.1 j z).2.1
      exact ⟨O, fun _ => ⟨h1, h2, by omega, h4⟩⟩
    · exact ⟨[], fun y => absurd y z⟩
  exact ⟨fun j => Classical.choose (hj j), fun j => Classical.choose_spec (hj j)⟩
theorem dg_same {w : Nat → Int32} {sa : List Nat} {O : List MR} {q : Nat} (hs : sa.length ≤ 16) (hc : ∀ i, sa.getD i 0 < 128) (hO : O.length ≤ 48) (hw : ∀ k, k < O.length → wfR (O.getD k mr0)) (hq : q < 8) : dgW w (sa ++ stA (O.map clR)) q = shaM (sa ++ stA (O.map clR)) q := by
  obtain ⟨h1, h2⟩ := stA_ok O hw
  refine dgW_shaM w (gd_mem (by decide) (fun x hx => ?_)) (by rw [List.length_append]; omega) hq
  rw [List.mem_append] at hx
  rcases hx with hx | hx
  · have := gd_in hc hx; omega
  · exact h2 x hx
