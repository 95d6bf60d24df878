/-! ONE STATE: the class's rows lie in their order, the model's as they were told -/
theorem cmpK_a : ∀ xs ys : List Nat, cmpK xs ys = - cmpK ys xs
  | [], [] => rfl
  | [], _ :: _ => rfl
  | _ :: _, [] => rfl
  | x :: xs, y :: ys => by
    show (if x < y then (-1 : Int) else if y < x then 1 else cmpK xs ys) = - (if y < x then (-1 : Int) else if x < y then 1 else cmpK ys xs)
    by_cases h1 : x < y
    · rw [if_pos h1, if_neg (by omega), if_pos h1]
    · rw [if_neg h1]
      by_cases h2 : y < x
      · rw [if_pos h2, if_pos h2]; rfl
      · rw [if_neg h2, if_neg h2, if_neg h1]; exact cmpK_a xs ys
theorem cmpK_t : ∀ xs ys zs : List Nat, cmpK xs ys < 0 → cmpK ys zs < 0 → cmpK xs zs < 0
  | [], [], _, h, _ => absurd h (by decide)
  | x :: xs, [], _, h, _ => absurd (show (1 : Int) < 0 from h) (by decide)
  | _, y :: ys, [], _, h => absurd (show (1 : Int) < 0 from h) (by decide)
  | [], _ :: _, _ :: _, _, _ => by show (-1 : Int) < 0; decide
  | x :: xs, y :: ys, z :: zs, h, h2 => by
    replace h : (if x < y then (-1 : Int) else if y < x then 1 else cmpK xs ys) < 0 := h
    replace h2 : (if y < z then (-1 : Int) else if z < y then 1 else cmpK ys zs) < 0 := h2
    show (if x < z then (-1 : Int) else if z < x then 1 else cmpK xs zs) < 0
    by_cases a1 : x < y
    · rw [if_pos a1] at h
      by_cases a2 : y < z
      · rw [if_pos (by omega)]; decide
      · rw [if_neg a2] at h2
        by_cases a3 : z < y
        · rw [if_pos a3] at h2; exact absurd h2 (by decide)
        · rw [if_pos (by omega)]; decide
    · rw [if_neg a1] at h
      by_cases b1 : y < x
      · rw [if_pos b1] at h; exact absurd h (by decide)
      · rw [if_neg b1] at h
        have e : x = y := by omega
        subst e
        clear a1 b1
        by_cases a2 : x < z
        · rw [if_pos a2]; decide
        · rw [if_neg a2] at h2 ⊢
          by_cases a3 : z < x
          · rw [if_pos a3] at h2; exact absurd h2 (by decide)
          · rw [if_neg a3] at h2 ⊢
            exact cmpK_t xs ys zs h h2
theorem cmpK_s (xs : List Nat) : cmpK xs xs = 0 := (cmpK_0 xs xs).mpr rfl
theorem befR_irr {i : Nat} {R : MR} : ¬ befR i R i R := by
  unfold befR
  rw [cmpK_s]
  omega
theorem befR_tr {i j k : Nat} {R S T : MR} (h : befR i R j S) (h2 : befR j S k T) : befR i R k T := by
  unfold befR at h h2 ⊢
  rcases h with h | ⟨h, ⟨ha, hb⟩ | ⟨ha, hb⟩⟩
  · rcases h2 with h2 | ⟨h2, _⟩ <;> exact Or.inl (by omega)
  · rcases h2 with h2 | ⟨h2, ⟨hc, hd⟩ | ⟨hc, hd⟩⟩
    · exact Or.inl (by omega)
    · exact Or.inr ⟨by omega, Or.inl ⟨ha, by omega⟩⟩
    · exact absurd ha (by omega)
  · rcases h2 with h2 | ⟨h2, ⟨hc, hd⟩ | ⟨hc, hd⟩⟩
    · exact Or.inl (by omega)
    · exact absurd hc (by omega)
    · exact Or.inr ⟨by omega, Or.inr ⟨ha, cmpK_t _ _ _ hb hd⟩⟩
/-- row i of those told stands before row j -/
def bf (L : List MR) (i j : Nat) : Prop := befR i (L.getD i mr0) j (L.getD j mr0)
def wfR (R : MR) : Prop := ((R.1 = 0 ∨ R.1 = 7) → kyR R = []) ∧ (∀ i, R.2.2.1.getD i 0 < 128) ∧ R.2.2.1.length ≤ 64 ∧ R.1 ≤ 7
/-- L as told, rs in order -/
def relA (L : List MR) (rs : List RowT) : Prop := (∀ i, i < L.length → wfR (L.getD i mr0)) ∧ (∀ i j, i < L.length → j < L.length → (L.getD i mr0).1 = (L.getD j mr0).1 → (L.getD i mr0).1 ≠ 0 → kyR (L.getD i mr0) = kyR (L.getD j mr0) → i = j) ∧ ∃ π : List Nat, π.Perm (List.range L.length) ∧ π.Pairwise (bf L) ∧ rs = π.map (fun i => clR (L.getD i mr0))
theorem relA_nil : relA [] [] := ⟨fun i h => absurd h (Nat.not_lt_zero i), fun i j h => absurd h (Nat.not_lt_zero i), [], List.Perm.refl _, List.Pairwise.nil, rfl⟩
theorem relA_len {L : List MR} {rs : List RowT} (h : relA L rs) : rs.length = L.length := by
  obtain ⟨-, -, π, h1, -, rfl⟩ := h
  rw [List.length_map, h1.length_eq, List.length_range]
theorem gd_lt {α : Type} {l : List α} {d : α} {i : Nat} (h : i < l.length) : l.getD i d = l[i] := by
  rw [List.getD_eq_getElem?_getD, List.getElem?_eq_getElem h]; rfl
theorem relA_ex {L : List MR} {rs : List RowT} (h : relA L rs) (P : RowT → Prop) : (∃ i, i < rs.length ∧ P (rs.getD i rw0)) ↔ ∃ i, i < L.length ∧ P (clR (L.getD i mr0)) := by
  obtain ⟨-, -, π, h1, -, rfl⟩ := h
  constructor
  · rintro ⟨i, hi, hP⟩
    rw [gd_lt hi, List.getElem_map] at hP
    rw [List.length_map] at hi
    exact ⟨π[i], List.mem_range.mp (h1.mem_iff.mp (List.getElem_mem hi)), hP⟩
  · rintro ⟨q, hq, hP⟩
    obtain ⟨i, hi, e⟩ := List.mem_iff_getElem.mp (h1.mem_iff.mpr (List.mem_range.mpr hq))
    refine ⟨i, by rw [List.length_map]; exact hi, ?_⟩
    rw [gd_lt (by rw [List.length_map]; exact hi), List.getElem_map, e]
    exact hP
theorem srt_rank {α : Type} (p : α → α → Bool) (irr : ∀ a, p a a = false) (asy : ∀ a b, p a b = true → p b a = false) : ∀ (s : List α), s.Pairwise (fun a b => p a b = true) → ∀ (k : Nat) (hk : k < s.length), (s.filter (fun a => p a s[k])).length = k
  | [], _, k, hk => absurd hk (Nat.not_lt_zero k)
  | a :: s, hs, 0, hk => by
    rw [List.pairwise_cons] at hs
    show (List.filter (fun b => p b a) (a :: s)).length = 0
    rw [List.filter_cons_of_neg (by rw [irr]; decide)]
    rw [List.filter_eq_nil_iff.mpr (fun b hb => by rw [asy _ _ (hs.1 b hb)]; decide)]
    rfl
  | a :: s, hs, k + 1, hk => by
    rw [List.pairwise_cons] at hs
    have hk' : k < s.length := by simpa using hk
    show (List.filter (fun b => p b s[k]) (a :: s)).length = k + 1
    rw [List.filter_cons_of_pos (p := fun b => p b s[k]) (hs.1 _ (List.getElem_mem hk')), List.length_cons, srt_rank p irr asy s hs.2 k hk']
theorem bfB_asy (L : List MR) (i j : Nat) (h : befB i (L.getD i mr0) j (L.getD j mr0) = true) : befB j (L.getD j mr0) i (L.getD i mr0) = false := by
  cases e : befB j (L.getD j mr0) i (L.getD i mr0) with
  | false => rfl
  | true => exact absurd (befR_tr (befB_iff.mp h) (befB_iff.mp e)) befR_irr
theorem bfB_irr (L : List MR) (i : Nat) : befB i (L.getD i mr0) i (L.getD i mr0) = false := by
  cases e : befB i (L.getD i mr0) i (L.getD i mr0) with
  | false => rfl
  | true => exact absurd (befB_iff.mp e) befR_irr
theorem range_getD (L : List MR) : (List.range L.length).map (fun i => L.getD i mr0) = L := by
  apply List.ext_getElem (by rw [List.length_map, List.length_range])
  intro i h1 h2
  rw [List.getElem_map, List.getElem_range, gd_lt h2]
/-- the rows that count, in order -/
theorem relA_ord {L : List MR} {rs : List RowT} (h : relA L rs) (Al : List (List Nat)) : ∃ O, ordL Al L O ∧ O.map clR = cR Al rs ∧ O.length ≤ 24 + L.length ∧ ∀ k, k < O.length → wfR (O.getD k mr0) := by
  obtain ⟨hwf, -, π, hp, hs, rfl⟩ := h
  obtain ⟨f, ef⟩ : ∃ f : Nat → Bool, f = fun i => cB Al (clR (L.getD i mr0)) := ⟨_, rfl⟩
  have hf : ∀ x, f x = cB Al (clR (L.getD x mr0)) := fun x => by rw [ef]
  have hfp : (π.filter f).Perm ((List.range L.length).filter f) := hp.filter f
  have hsf : (π.filter f).Pairwise (fun a b => befB a (L.getD a mr0) b (L.getD b mr0) = true) := (hs.filter f).imp (fun {a b} hab => befB_iff.mpr hab)
  have hrk : ∀ (k : Nat) (hk : k < (π.filter f).length), rkU Al L (π.filter f)[k] L.length = k := by
    intro k hk
    have e := srt_rank (fun a b => befB a (L.getD a mr0) b (L.getD b mr0)) (bfB_irr L) (bfB_asy L) _ hsf k hk
    rw [(hfp.filter _).length_eq, List.filter_filter] at e
    unfold rkU
    refine Eq.trans (congrArg List.length (List.filter_congr (fun x _ => ?_))) e
    rw [Bool.and_comm, ← hf]
  have hin : ∀ (k : Nat) (hk : k < (π.filter f).length), isAt Al L (π.filter f)[k] k := fun k hk => by
    have hm := List.getElem_mem hk
    rw [List.mem_filter] at hm
    refine ⟨List.mem_range.mp (hp.mem_iff.mp hm.1), (cnts_dec _ _).mpr ?_, hrk k hk⟩
    rw [← hf]
    exact hm.2
  refine ⟨(π.filter f).map (fun i => L.getD i mr0), ⟨?_, ?_, ?_⟩, ?_, ?_, ?_⟩
  · rw [List.length_map, hfp.length_eq]
    unfold cntL
    have e : L.filter (fun R => cB Al (clR R)) = ((List.range L.length).map (fun i => L.getD i mr0)).filter (fun R => cB Al (clR R)) := by rw [range_getD]
    rw [e, List.filter_map, List.length_map, ef]
    rfl
  · intro k hk
    rw [List.length_map] at hk
    exact ⟨_, hin k hk⟩
  · intro q k hq
    have hm : q ∈ π.filter f := by
      rw [List.mem_filter]
      refine ⟨hp.mem_iff.mpr (List.mem_range.mpr hq.1), ?_⟩
      rw [hf]
      exact (cnts_dec _ _).mp hq.2.1
    obtain ⟨k', hk', e⟩ := List.mem_iff_getElem.mp hm
    have h1 := hrk k' hk'
    rw [e, hq.2.2] at h1
    subst h1
    rw [gd_lt (l := (π.filter f).map (fun i => L.getD i mr0)) (by rw [List.length_map]; exact hk'), List.getElem_map, e]
  · unfold cR
    rw [List.filter_map, List.map_map, ef]
    rfl
  · rw [List.length_map, hfp.length_eq]
    exact Nat.le_trans (List.length_filter_le _ _) (by rw [List.length_range]; omega)
  · intro k hk
    rw [List.length_map] at hk
    rw [gd_lt (by rw [List.length_map]; exact hk), List.getElem_map]
    exact hwf _ (hin k hk).1
theorem gd_app {α : Type} {l : List α} {a d : α} {i : Nat} (h : i < l.length) : (l ++ [a]).getD i d = l.getD i d := by
  rw [gd_lt (by rw [List.length_append]; exact Nat.lt_of_lt_of_le h (Nat.le_add_right _ _)), List.getElem_append_left h, gd_lt h]
theorem gd_new {α : Type} {l : List α} {a d : α} : (l ++ [a]).getD l.length d = a := by
  rw [gd_lt (by rw [List.length_append]; exact Nat.lt_succ_self _), List.getElem_append_right (Nat.le_refl _)]
  simp
/-- a row is told: at the end of what was told, and at its place -/
theorem relA_put {L : List MR} {rs : List RowT} {R : MR} {u : Nat} (h : relA L rs) (hR : wfR R) (hu : R.1 = 0 ∨ ¬ ∃ i, i < L.length ∧ (L.getD i mr0).1 = R.1 ∧ kyR (L.getD i mr0) = kyR R) (hi : insAt rs u (clR R)) : relA (L ++ [R]) (insL rs u (clR R)) := by
  obtain ⟨hwf, hun, π, hp, hs, rfl⟩ := h
  obtain ⟨hul, hge, hlt⟩ := hi
  rw [List.length_map] at hul hge
  have hπ : ∀ i ∈ π, i < L.length := fun i hi => List.mem_range.mp (hp.mem_iff.mp hi)
  have hrs : ∀ (i : Nat) (h : i < π.length), (π.map (fun i => clR (L.getD i mr0))).getD i rw0 = clR (L.getD π[i] mr0) := fun i h => by
    rw [gd_lt (by rw [List.length_map]; exact h), List.getElem_map]
  have bfo : ∀ i j, i < L.length → j < L.length → bf L i j → bf (L ++ [R]) i j := fun i j hi hj hb => by
    unfold bf at hb ⊢
    rw [gd_app hi, gd_app hj]
    exact hb
  have hdrop : ∀ i ∈ π.drop u, bf (L ++ [R]) L.length i := by
    intro i hm
    obtain ⟨q, hq, e⟩ := List.mem_iff_getElem.mp hm
    rw [List.getElem_drop] at e
    rw [List.length_drop] at hq
    have hb := hge (u + q) (by omega) (by omega)
    rw [hrs (u + q) (by omega), e] at hb
    have hiL : i < L.length := hπ i (List.mem_of_mem_drop hm)
    unfold bf
    rw [gd_new, gd_app hiL]
    unfold befR
    rcases hb with hb | ⟨hb, hc⟩
    · exact Or.inl hb
    · have hb : (L.getD i mr0).1 = R.1 := hb
      have hc : 0 < cmpK (kyR (L.getD i mr0)) (kyR R) := hc
      refine Or.inr ⟨hb.symm, Or.inr ⟨fun z => ?_, ?_⟩⟩
      · rw [hR.1 (Or.inl z), (hwf i hiL).1 (Or.inl (by omega))] at hc
        exact absurd hc (by decide)
      · rw [cmpK_a] at hc; omega
  have hlast : u ≠ 0 → ∀ (h : u - 1 < π.length), bf (L ++ [R]) π[u - 1] L.length := by
    intro hu0 h
    have hb := hlt.resolve_left hu0
    rw [hrs (u - 1) h] at hb
    have hiL : π[u - 1] < L.length := hπ _ (List.getElem_mem h)
    unfold bf
    rw [gd_new, gd_app hiL]
    unfold befR
    have hb : ¬ (R.1 < (L.getD π[u - 1] mr0).1 ∨ ((L.getD π[u - 1] mr0).1 = R.1 ∧ 0 < cmpK (kyR (L.getD π[u - 1] mr0)) (kyR R))) := hb
    by_cases h1 : (L.getD π[u - 1] mr0).1 < R.1
    · exact Or.inl h1
    · have e : (L.getD π[u - 1] mr0).1 = R.1 := Nat.le_antisymm (Nat.le_of_not_lt (fun z => hb (Or.inl z))) (Nat.le_of_not_lt h1)
      refine Or.inr ⟨e, ?_⟩
      by_cases z : R.1 = 0
      · exact Or.inl ⟨by omega, hiL⟩
      · refine Or.inr ⟨by omega, ?_⟩
        have h2 : ¬ 0 < cmpK (kyR (L.getD π[u - 1] mr0)) (kyR R) := fun q => hb (Or.inr ⟨e, q⟩)
        have h3 : cmpK (kyR (L.getD π[u - 1] mr0)) (kyR R) ≠ 0 := fun q => (hu.resolve_left z) ⟨_, hiL, e, (cmpK_0 _ _).mp q⟩
        omega
  have htake : ∀ i ∈ π.take u, bf (L ++ [R]) i L.length := by
    intro i hm
    obtain ⟨q, hq, e⟩ := List.mem_iff_getElem.mp hm
    rw [List.getElem_take] at e
    rw [List.length_take] at hq
    have hu1 : u - 1 < π.length := by omega
    have hl := hlast (by omega) hu1
    by_cases z : q = u - 1
    · subst z; rw [e] at hl; exact hl
    · have hb := List.pairwise_iff_getElem.mp hs q (u - 1) (by omega) hu1 (by omega)
      rw [e] at hb
      have hb := bfo _ _ (hπ i (List.mem_of_mem_take hm)) (hπ _ (List.getElem_mem hu1)) hb
      exact befR_tr hb hl
  refine ⟨?_, ?_, π.take u ++ L.length :: π.drop u, ?_, ?_, ?_⟩
  · intro i hi
    rw [List.length_append, List.length_singleton] at hi
    by_cases z : i < L.length
    · rw [gd_app z]; exact hwf i z
    · rw [show i = L.length by omega, gd_new]; exact hR
  · intro i j hi hj
    rw [List.length_append, List.length_singleton] at hi hj
    by_cases z : i < L.length
    · rw [gd_app z]
      by_cases y : j < L.length
      · rw [gd_app y]; exact hun i j z y
      · rw [show j = L.length by omega, gd_new]
        intro e e0 ek
        exact absurd ⟨i, z, e, ek⟩ (hu.resolve_left (by omega))
    · rw [show i = L.length by omega, gd_new]
      by_cases y : j < L.length
      · rw [gd_app y]
        intro e e0 ek
        exact absurd ⟨j, y, e.symm, ek.symm⟩ (hu.resolve_left e0)
      · intro _ _ _; omega
  · rw [List.length_append, List.length_singleton, List.range_succ]
    have h1 : (π.take u ++ L.length :: π.drop u).Perm (L.length :: (π.take u ++ π.drop u)) := List.perm_middle
    rw [List.take_append_drop] at h1
    exact h1.trans ((List.Perm.cons _ hp).trans (List.perm_append_singleton _ _).symm)
  · have hs2 : (π.take u ++ π.drop u).Pairwise (bf L) := by rw [List.take_append_drop]; exact hs
    rw [List.pairwise_append] at hs2
    rw [List.pairwise_append, List.pairwise_cons]
    have m1 : ∀ i ∈ π.take u, i < L.length := fun i hi => hπ i (List.mem_of_mem_take hi)
    have m2 : ∀ i ∈ π.drop u, i < L.length := fun i hi => hπ i (List.mem_of_mem_drop hi)
    refine ⟨hs2.1.imp_of_mem (fun {a b} ha hb hab => bfo a b (m1 a ha) (m1 b hb) hab), ⟨hdrop, hs2.2.1.imp_of_mem (fun {a b} ha hb hab => bfo a b (m2 a ha) (m2 b hb) hab)⟩, ?_⟩
    intro a ha b hb
    rw [List.mem_cons] at hb
    rcases hb with rfl | hb
    · exact htake a ha
    · exact bfo a b (m1 a ha) (m2 b hb) (hs2.2.2 a ha b hb)
  · unfold insL
    have m1 : ∀ i ∈ π.take u, i < L.length := fun i hi => hπ i (List.mem_of_mem_take hi)
    have m2 : ∀ i ∈ π.drop u, i < L.length := fun i hi => hπ i (List.mem_of_mem_drop hi)
    rw [List.map_append, List.map_cons, gd_new, List.map_take, List.map_drop]
    congr 1
    · rw [← List.map_take, ← List.map_take]
      exact List.map_congr_left (fun i hi => by rw [gd_app (m1 i hi)])
    · congr 1
      rw [← List.map_drop, ← List.map_drop]
      exact List.map_congr_left (fun i hi => by rw [gd_app (m2 i hi)])
theorem gd_set {α : Type} {l : List α} {a d : α} {i j : Nat} (h : i < l.length) : (l.set i a).getD j d = if j = i then a else l.getD j d := by
  by_cases z : j = i
  · rw [if_pos z, z, gd_lt (by rw [List.length_set]; exact h), List.getElem_set_self]
  · rw [if_neg z, List.getD_eq_getElem?_getD, List.getD_eq_getElem?_getD, List.getElem?_set_ne (Ne.symm z)]
/-- the edition is told anew -/
theorem relA_set {L : List MR} {rs : List RowT} {R : MR} {i q : Nat} (h : relA L rs) (hR : wfR R) (h7 : R.1 = 7) (hi : i < rs.length) (hi7 : (rs.getD i rw0).1 = 7) (hq : q < L.length) (hq7 : (L.getD q mr0).1 = 7) : relA (L.set q R) (rs.set i (clR R)) := by
  obtain ⟨hwf, hun, π, hp, hs, rfl⟩ := h
  rw [List.length_map] at hi
  rw [gd_lt (by rw [List.length_map]; exact hi), List.getElem_map] at hi7
  have hi7 : (L.getD π[i] mr0).1 = 7 := hi7
  have hπ : ∀ i ∈ π, i < L.length := fun i hi => List.mem_range.mp (hp.mem_iff.mp hi)
  have hiL := hπ _ (List.getElem_mem hi)
  have e : π[i] = q := hun _ _ hiL hq (by omega) (by omega) (by rw [(hwf _ hiL).1 (Or.inr hi7), (hwf _ hq).1 (Or.inr hq7)])
  have hnd : π.Nodup := hp.nodup_iff.mpr List.nodup_range
  have hk : ∀ j, ((L.set q R).getD j mr0).1 = (L.getD j mr0).1 ∧ (j < L.length → kyR ((L.set q R).getD j mr0) = kyR (L.getD j mr0)) := fun j => by
    rw [gd_set hq]
    by_cases z : j = q
    · rw [if_pos z, z]
      exact ⟨by omega, fun _ => by rw [hR.1 (Or.inr h7), (hwf _ hq).1 (Or.inr hq7)]⟩
    · rw [if_neg z]; exact ⟨rfl, fun _ => rfl⟩
  refine ⟨?_, ?_, π, ?_, ?_, ?_⟩
  · intro j hj
    rw [List.length_set] at hj
    rw [gd_set hq]
    by_cases z : j = q
    · rw [if_pos z]; exact hR
    · rw [if_neg z]; exact hwf j hj
  · intro a b ha hb
    rw [List.length_set] at ha hb
    rw [(hk a).1, (hk b).1, (hk a).2 ha, (hk b).2 hb]
    exact hun a b ha hb
  · rw [List.length_set]; exact hp
  · refine hs.imp_of_mem (fun {a b} ha hb hab => ?_)
    unfold bf befR at hab ⊢
    rw [(hk a).1, (hk b).1, (hk a).2 (hπ a ha), (hk b).2 (hπ b hb)]
    exact hab
  · apply List.ext_getElem (by rw [List.length_set, List.length_map, List.length_map])
    intro j h1 h2
    rw [List.length_map] at h2
    rw [List.getElem_map, gd_set hq, List.getElem_set]
    by_cases z : i = j
    · subst z
      rw [if_pos rfl, if_pos e]
    · rw [if_neg z, if_neg (fun y => z ?_), List.getElem_map]
      exact (List.getElem_inj (h₀ := hi) (h₁ := h2) hnd).mp (e.trans y.symm)
