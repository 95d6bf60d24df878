/-! THE CLASS: its parts in a heaplet; questions that change nothing -/
abbrev xO (xt sh ac na al nl sc hg : Nat) : va_E := .inr (0, [.ref xt, .ref sh, .ref ac, .int (nI na), .ref al, .int (nI nl), .ref sc, .ref hg])
/-- the allowed names -/
def alP (ct : Nat → ClassId) (fz : Nat → Prop) (M : hp_M) (x : Nat) (Al : List (List Nat)) : Prop := ∃ (xt sh ac na al sc hg : Nat) (fl : Nat → Option Nat), M x = some (xO xt sh ac na al Al.length sc hg) ∧ M al = some (.inl (ct 3, 8, .inr (.inr (.inr (.inr fl))))) ∧ (Al.length ≤ 8 ∧ ∀ i, Al.length ≤ i → fl i = none) ∧ ∀ i, i < Al.length → ∃ k, fl i = some k ∧ kyOk ct fz M k (Al.getD i [])
/-- an action's rows -/
def acP (ct : Nat → ClassId) (fz : Nat → Prop) (M : hp_M) (a : Nat) (rs : List RowT) : Prop := ∃ (oa : Nat) (f : Nat → Option Nat), M a = some (.inr (3, [.ref oa, .int (nI rs.length)])) ∧ M oa = some (.inl (ct 2, 24, .inr (.inr (.inr (.inr f))))) ∧ rs.length ≤ 24 ∧ rsOk ct fz M f rs
/-- the actions -/
def atP (ct : Nat → ClassId) (fz : Nat → Prop) (M : hp_M) (x : Nat) (As : List (List RowT)) : Prop := ∃ (xt sh ac al nl sc hg : Nat) (fa : Nat → Option Nat), M x = some (xO xt sh ac As.length al nl sc hg) ∧ M ac = some (.inl (ct 4, 12, .inr (.inr (.inr (.inr fa))))) ∧ As.length ≤ 12 ∧ ∀ i, i < As.length → ∃ a, fa i = some a ∧ acP ct fz M a (As.getD i [])
/-- objects of the class, actions and arrays of references stay too -/
def kp (ct : Nat → ClassId) (fz : Nat → Prop) (M M1 : hp_M) : Prop := stab ct fz M M1 ∧ (∀ (q k : Nat) (fs : List Value), k = 0 ∨ k = 3 → M q = some (.inr (k, fs)) → M1 q = some (.inr (k, fs))) ∧ ∀ (q : Nat) (c : ClassId) (n : Nat) (f : Nat → Option Nat), M q = some (.inl (c, n, .inr (.inr (.inr (.inr f))))) → M1 q = some (.inl (c, n, .inr (.inr (.inr (.inr f)))))
theorem alP.kp {ct : Nat → ClassId} {fz : Nat → Prop} {M M1 : hp_M} {x : Nat} {Al : List (List Nat)} (h : alP ct fz M x Al) (k : kp ct fz M M1) : alP ct fz M1 x Al := by
  obtain ⟨xt, sh, ac, na, al, sc, hg, fl, h1, h2, h3, h4⟩ := h
  exact ⟨xt, sh, ac, na, al, sc, hg, fl, k.2.1 _ _ _ (Or.inl rfl) h1, k.2.2 _ _ _ _ h2, h3, fun i hi => by obtain ⟨q, a1, a2⟩ := h4 i hi; exact ⟨q, a1, a2.st k.1⟩⟩
theorem acP.kp {ct : Nat → ClassId} {fz : Nat → Prop} {M M1 : hp_M} {a : Nat} {rs : List RowT} (h : acP ct fz M a rs) (k : kp ct fz M M1) : acP ct fz M1 a rs := by
  obtain ⟨oa, f, h1, h2, h3, h4⟩ := h
  exact ⟨oa, f, k.2.1 _ _ _ (Or.inr rfl) h1, k.2.2 _ _ _ _ h2, h3, h4.st k.1⟩
theorem atP.kp {ct : Nat → ClassId} {fz : Nat → Prop} {M M1 : hp_M} {x : Nat} {As : List (List RowT)} (h : atP ct fz M x As) (k : kp ct fz M M1) : atP ct fz M1 x As := by
  obtain ⟨xt, sh, ac, al, nl, sc, hg, fa, h1, h2, h3, h4⟩ := h
  exact ⟨xt, sh, ac, al, nl, sc, hg, fa, k.2.1 _ _ _ (Or.inl rfl) h1, k.2.2 _ _ _ _ h2, h3, fun i hi => by obtain ⟨q, a1, a2⟩ := h4 i hi; exact ⟨q, a1, a2.kp k⟩⟩
theorem kp_sh {ct : Nat → ClassId} {fz : Nat → Prop} {M : hp_M} {sh su wo : Nat} {Y X : ShT} (hne : ct 0 ≠ ct 1) (h : shOk ct M sh su wo Y) : kp ct fz M (shM ct M sh su wo X) := by
  obtain ⟨f1, f2, f3, -⟩ := h
  refine ⟨⟨fun q k fs hk h1 => ?_, fun q n f _ h1 => ?_⟩, fun q k fs hk h1 => ?_, fun q c n f h1 => ?_⟩
  · exact shM_k h1 (hp_ne h1 f1 (by simp)) (hp_ne h1 f2 (by simp)) (hp_ne h1 f3 (fun e => by have e8 := congrArg Prod.fst (Sum.inr.inj e); simp only at e8; omega))
  · exact shM_k h1 (hp_ne h1 f1 (fun e => hne (congrArg Prod.fst (Sum.inl.inj e)))) (hp_ne h1 f2 (fun e => hne (congrArg Prod.fst (Sum.inl.inj e)))) (hp_ne h1 f3 (by simp))
  · exact shM_k h1 (hp_ne h1 f1 (by simp)) (hp_ne h1 f2 (by simp)) (hp_ne h1 f3 (fun e => by have e8 := congrArg Prod.fst (Sum.inr.inj e); simp only at e8; omega))
  · exact shM_k h1 (hp_ne h1 f1 (by simp)) (hp_ne h1 f2 (by simp)) (hp_ne h1 f3 (by simp))
/-- a row counts -/
def cnts (Al : List (List Nat)) (R : RowT) : Prop := R.1 ≠ 2 ∨ ∃ i, i < Al.length ∧ Al.getD i [] = R.2.1
def cB (Al : List (List Nat)) (R : RowT) : Bool := decide (R.1 ≠ 2) || Al.contains R.2.1
theorem cnts_dec (Al : List (List Nat)) (R : RowT) : cnts Al R ↔ cB Al R = true := by
  unfold cnts cB
  rw [Bool.or_eq_true, decide_eq_true_iff, List.contains_iff_mem]
  constructor
  · intro h
    rcases h with h | ⟨i, h1, h2⟩
    · exact Or.inl h
    · right
      rw [← h2, List.getD_eq_getElem?_getD, List.getElem?_eq_getElem h1]
      exact List.getElem_mem h1
  · intro h
    rcases h with h | h
    · exact Or.inl h
    · right
      obtain ⟨i, h1, h2⟩ := List.mem_iff_getElem.mp h
      exact ⟨i, h1, by rw [List.getD_eq_getElem?_getD, List.getElem?_eq_getElem h1]; exact h2⟩
/-- the rows that count, in order -/
def cR (Al : List (List Nat)) (rs : List RowT) : List RowT := rs.filter (cB Al)
theorem getD_lt {α : Type} {x : List α} {i : Nat} {d : α} (h : i < x.length) : x.getD i d = x[i] := by
  rw [List.getD_eq_getElem?_getD, List.getElem?_eq_getElem h]
  rfl
theorem take_s {α : Type} {x : List α} {i : Nat} (d : α) (h : i < x.length) : x.take (i + 1) = x.take i ++ [x.getD i d] := by
  rw [List.take_succ, List.getElem?_eq_getElem h, getD_lt h]
  rfl
theorem cR_1 {Al : List (List Nat)} {rs : List RowT} {i : Nat} (h : i < rs.length) (hc : cnts Al (rs.getD i rw0)) : cR Al (rs.take (i + 1)) = cR Al (rs.take i) ++ [rs.getD i rw0] := by
  unfold cR
  rw [take_s rw0 h, List.filter_append, List.filter_cons_of_pos (p := cB Al) ((cnts_dec _ _).mp hc)]
  rfl
theorem cR_0 {Al : List (List Nat)} {rs : List RowT} {i : Nat} (h : rs.length ≤ i ∨ ¬ cnts Al (rs.getD i rw0)) : cR Al (rs.take (i + 1)) = cR Al (rs.take i) := by
  rcases Nat.lt_or_ge i rs.length with q | q
  · rcases h with h | h
    · omega
    · unfold cR
      rw [take_s rw0 q, List.filter_append, List.filter_cons_of_neg (p := cB Al) (fun z => h ((cnts_dec _ _).mpr z))]
      simp
  · rw [List.take_of_length_le (by omega), List.take_of_length_le q]
theorem cR_len {Al : List (List Nat)} {rs : List RowT} : (cR Al rs).length ≤ rs.length := List.length_filter_le _ _
/-- the STABLE TEXT of rows -/
def stA (rs : List RowT) : List Nat := (rs.map stT).flatten
theorem stA_1 (rs : List RowT) (R : RowT) : stA (rs ++ [R]) = stA rs ++ stT R := by
  unfold stA
  rw [List.map_append, List.flatten_append]
  simp
theorem d_AD_actionAt_0 : decode b_AD_actionAt 0 = .ok (.iload_n 1, 1) := by decide +kernel
theorem d_AD_actionAt_1 : decode b_AD_actionAt 1 = .ok (.ifCond .lt 11, 3) := by decide +kernel
theorem d_AD_actionAt_4 : decode b_AD_actionAt 4 = .ok (.iload_n 1, 1) := by decide +kernel
theorem d_AD_actionAt_5 : decode b_AD_actionAt 5 = .ok (.aload_n 0, 1) := by decide +kernel
theorem d_AD_actionAt_6 : decode b_AD_actionAt 6 = .ok (.getfield 29, 3) := by decide +kernel
theorem d_AD_actionAt_9 : decode b_AD_actionAt 9 = .ok (.if_icmp .lt 7, 3) := by decide +kernel
theorem d_AD_actionAt_12 : decode b_AD_actionAt 12 = .ok (.aconst_null, 1) := by decide +kernel
theorem d_AD_actionAt_13 : decode b_AD_actionAt 13 = .ok (.goto 9, 3) := by decide +kernel
theorem d_AD_actionAt_16 : decode b_AD_actionAt 16 = .ok (.aload_n 0, 1) := by decide +kernel
theorem d_AD_actionAt_17 : decode b_AD_actionAt 17 = .ok (.getfield 25, 3) := by decide +kernel
theorem d_AD_actionAt_20 : decode b_AD_actionAt 20 = .ok (.iload_n 1, 1) := by decide +kernel
theorem d_AD_actionAt_21 : decode b_AD_actionAt 21 = .ok (.aaload, 1) := by decide +kernel
theorem d_AD_actionAt_22 : decode b_AD_actionAt 22 = .ok (.areturn, 1) := by decide +kernel
theorem d_AD_isAllowed_0 : decode b_AD_isAllowed 0 = .ok (.iconst 0, 1) := by decide +kernel
theorem d_AD_isAllowed_1 : decode b_AD_isAllowed 1 = .ok (.istore_n 2, 1) := by decide +kernel
theorem d_AD_isAllowed_2 : decode b_AD_isAllowed 2 = .ok (.iload_n 2, 1) := by decide +kernel
theorem d_AD_isAllowed_3 : decode b_AD_isAllowed 3 = .ok (.bipush 8, 2) := by decide +kernel
theorem d_AD_isAllowed_5 : decode b_AD_isAllowed 5 = .ok (.if_icmp .ge 30, 3) := by decide +kernel
theorem d_AD_isAllowed_8 : decode b_AD_isAllowed 8 = .ok (.aload_n 0, 1) := by decide +kernel
theorem d_AD_isAllowed_9 : decode b_AD_isAllowed 9 = .ok (.getfield 35, 3) := by decide +kernel
theorem d_AD_isAllowed_12 : decode b_AD_isAllowed 12 = .ok (.iload_n 2, 1) := by decide +kernel
theorem d_AD_isAllowed_13 : decode b_AD_isAllowed 13 = .ok (.aaload, 1) := by decide +kernel
theorem d_AD_isAllowed_14 : decode b_AD_isAllowed 14 = .ok (.astore_n 3, 1) := by decide +kernel
theorem d_AD_isAllowed_15 : decode b_AD_isAllowed 15 = .ok (.aload_n 3, 1) := by decide +kernel
theorem d_AD_isAllowed_16 : decode b_AD_isAllowed 16 = .ok (.ifnull 13, 3) := by decide +kernel
theorem d_AD_isAllowed_19 : decode b_AD_isAllowed 19 = .ok (.aload_n 3, 1) := by decide +kernel
theorem d_AD_isAllowed_20 : decode b_AD_isAllowed 20 = .ok (.aload_n 1, 1) := by decide +kernel
theorem d_AD_isAllowed_21 : decode b_AD_isAllowed 21 = .ok (.invokevirtual 190, 3) := by decide +kernel
theorem d_AD_isAllowed_24 : decode b_AD_isAllowed 24 = .ok (.ifCond .ne 5, 3) := by decide +kernel
theorem d_AD_isAllowed_27 : decode b_AD_isAllowed 27 = .ok (.iconst 1, 1) := by decide +kernel
theorem d_AD_isAllowed_28 : decode b_AD_isAllowed 28 = .ok (.ireturn, 1) := by decide +kernel
theorem d_AD_isAllowed_29 : decode b_AD_isAllowed 29 = .ok (.iinc 2 1, 3) := by decide +kernel
theorem d_AD_isAllowed_32 : decode b_AD_isAllowed 32 = .ok (.goto (-30), 3) := by decide +kernel
theorem d_AD_isAllowed_35 : decode b_AD_isAllowed 35 = .ok (.iconst 0, 1) := by decide +kernel
theorem d_AD_isAllowed_36 : decode b_AD_isAllowed 36 = .ok (.ireturn, 1) := by decide +kernel
theorem d_AD_counts_0 : decode b_AD_counts 0 = .ok (.aload_n 1, 1) := by decide +kernel
theorem d_AD_counts_1 : decode b_AD_counts 1 = .ok (.getfield 151, 3) := by decide +kernel
theorem d_AD_counts_4 : decode b_AD_counts 4 = .ok (.iconst 2, 1) := by decide +kernel
theorem d_AD_counts_5 : decode b_AD_counts 5 = .ok (.if_icmp .ne 14, 3) := by decide +kernel
theorem d_AD_counts_8 : decode b_AD_counts 8 = .ok (.aload_n 0, 1) := by decide +kernel
theorem d_AD_counts_9 : decode b_AD_counts 9 = .ok (.aload_n 1, 1) := by decide +kernel
theorem d_AD_counts_10 : decode b_AD_counts 10 = .ok (.getfield 194, 3) := by decide +kernel
theorem d_AD_counts_13 : decode b_AD_counts 13 = .ok (.invokevirtual 134, 3) := by decide +kernel
theorem d_AD_counts_16 : decode b_AD_counts 16 = .ok (.ifCond .eq 7, 3) := by decide +kernel
theorem d_AD_counts_19 : decode b_AD_counts 19 = .ok (.iconst 1, 1) := by decide +kernel
theorem d_AD_counts_20 : decode b_AD_counts 20 = .ok (.goto 4, 3) := by decide +kernel
theorem d_AD_counts_23 : decode b_AD_counts 23 = .ok (.iconst 0, 1) := by decide +kernel
theorem d_AD_counts_24 : decode b_AD_counts 24 = .ok (.ireturn, 1) := by decide +kernel
theorem d_AD_countingRowAt_0 : decode b_AD_countingRowAt 0 = .ok (.aload_n 1, 1) := by decide +kernel
theorem d_AD_countingRowAt_1 : decode b_AD_countingRowAt 1 = .ok (.iload_n 2, 1) := by decide +kernel
theorem d_AD_countingRowAt_2 : decode b_AD_countingRowAt 2 = .ok (.invokevirtual 198, 3) := by decide +kernel
theorem d_AD_countingRowAt_5 : decode b_AD_countingRowAt 5 = .ok (.astore_n 3, 1) := by decide +kernel
theorem d_AD_countingRowAt_6 : decode b_AD_countingRowAt 6 = .ok (.aload_n 3, 1) := by decide +kernel
theorem d_AD_countingRowAt_7 : decode b_AD_countingRowAt 7 = .ok (.ifnull 15, 3) := by decide +kernel
theorem d_AD_countingRowAt_10 : decode b_AD_countingRowAt 10 = .ok (.aload_n 0, 1) := by decide +kernel
theorem d_AD_countingRowAt_11 : decode b_AD_countingRowAt 11 = .ok (.aload_n 3, 1) := by decide +kernel
theorem d_AD_countingRowAt_12 : decode b_AD_countingRowAt 12 = .ok (.invokevirtual 202, 3) := by decide +kernel
theorem d_AD_countingRowAt_15 : decode b_AD_countingRowAt 15 = .ok (.ifCond .eq 7, 3) := by decide +kernel
theorem d_AD_countingRowAt_18 : decode b_AD_countingRowAt 18 = .ok (.aload_n 3, 1) := by decide +kernel
theorem d_AD_countingRowAt_19 : decode b_AD_countingRowAt 19 = .ok (.goto 4, 3) := by decide +kernel
theorem d_AD_countingRowAt_22 : decode b_AD_countingRowAt 22 = .ok (.aconst_null, 1) := by decide +kernel
theorem d_AD_countingRowAt_23 : decode b_AD_countingRowAt 23 = .ok (.areturn, 1) := by decide +kernel
theorem d_AD_rowInOrder_0 : decode b_AD_rowInOrder 0 = .ok (.iload_n 2, 1) := by decide +kernel
theorem d_AD_rowInOrder_1 : decode b_AD_rowInOrder 1 = .ok (.istore_n 3, 1) := by decide +kernel
theorem d_AD_rowInOrder_2 : decode b_AD_rowInOrder 2 = .ok (.iconst 0, 1) := by decide +kernel
theorem d_AD_rowInOrder_3 : decode b_AD_rowInOrder 3 = .ok (.istore 4, 2) := by decide +kernel
theorem d_AD_rowInOrder_5 : decode b_AD_rowInOrder 5 = .ok (.iload 4, 2) := by decide +kernel
theorem d_AD_rowInOrder_7 : decode b_AD_rowInOrder 7 = .ok (.bipush 24, 2) := by decide +kernel
theorem d_AD_rowInOrder_9 : decode b_AD_rowInOrder 9 = .ok (.if_icmp .ge 33, 3) := by decide +kernel
theorem d_AD_rowInOrder_12 : decode b_AD_rowInOrder 12 = .ok (.aload_n 0, 1) := by decide +kernel
theorem d_AD_rowInOrder_13 : decode b_AD_rowInOrder 13 = .ok (.aload_n 1, 1) := by decide +kernel
theorem d_AD_rowInOrder_14 : decode b_AD_rowInOrder 14 = .ok (.iload 4, 2) := by decide +kernel
theorem d_AD_rowInOrder_16 : decode b_AD_rowInOrder 16 = .ok (.invokevirtual 144, 3) := by decide +kernel
theorem d_AD_rowInOrder_19 : decode b_AD_rowInOrder 19 = .ok (.astore 5, 2) := by decide +kernel
theorem d_AD_rowInOrder_21 : decode b_AD_rowInOrder 21 = .ok (.aload 5, 2) := by decide +kernel
theorem d_AD_rowInOrder_23 : decode b_AD_rowInOrder 23 = .ok (.ifnull 13, 3) := by decide +kernel
theorem d_AD_rowInOrder_26 : decode b_AD_rowInOrder 26 = .ok (.iload_n 3, 1) := by decide +kernel
theorem d_AD_rowInOrder_27 : decode b_AD_rowInOrder 27 = .ok (.ifCond .ne 6, 3) := by decide +kernel
theorem d_AD_rowInOrder_30 : decode b_AD_rowInOrder 30 = .ok (.aload 5, 2) := by decide +kernel
theorem d_AD_rowInOrder_32 : decode b_AD_rowInOrder 32 = .ok (.areturn, 1) := by decide +kernel
theorem d_AD_rowInOrder_33 : decode b_AD_rowInOrder 33 = .ok (.iinc 3 (-1), 3) := by decide +kernel
theorem d_AD_rowInOrder_36 : decode b_AD_rowInOrder 36 = .ok (.iinc 4 1, 3) := by decide +kernel
theorem d_AD_rowInOrder_39 : decode b_AD_rowInOrder 39 = .ok (.goto (-34), 3) := by decide +kernel
theorem d_AD_rowInOrder_42 : decode b_AD_rowInOrder 42 = .ok (.aconst_null, 1) := by decide +kernel
theorem d_AD_rowInOrder_43 : decode b_AD_rowInOrder 43 = .ok (.areturn, 1) := by decide +kernel
theorem d_AD_rows_0 : decode b_AD_rows 0 = .ok (.aload_n 0, 1) := by decide +kernel
theorem d_AD_rows_1 : decode b_AD_rows 1 = .ok (.iload_n 1, 1) := by decide +kernel
theorem d_AD_rows_2 : decode b_AD_rows 2 = .ok (.invokevirtual 69, 3) := by decide +kernel
theorem d_AD_rows_5 : decode b_AD_rows 5 = .ok (.astore_n 2, 1) := by decide +kernel
theorem d_AD_rows_6 : decode b_AD_rows 6 = .ok (.aload_n 2, 1) := by decide +kernel
theorem d_AD_rows_7 : decode b_AD_rows 7 = .ok (.ifnonnull 5, 3) := by decide +kernel
theorem d_AD_rows_10 : decode b_AD_rows 10 = .ok (.iconst (-1), 1) := by decide +kernel
theorem d_AD_rows_11 : decode b_AD_rows 11 = .ok (.ireturn, 1) := by decide +kernel
theorem d_AD_rows_12 : decode b_AD_rows 12 = .ok (.iconst 0, 1) := by decide +kernel
theorem d_AD_rows_13 : decode b_AD_rows 13 = .ok (.istore_n 3, 1) := by decide +kernel
theorem d_AD_rows_14 : decode b_AD_rows 14 = .ok (.iconst 0, 1) := by decide +kernel
theorem d_AD_rows_15 : decode b_AD_rows 15 = .ok (.istore 4, 2) := by decide +kernel
theorem d_AD_rows_17 : decode b_AD_rows 17 = .ok (.iload 4, 2) := by decide +kernel
theorem d_AD_rows_19 : decode b_AD_rows 19 = .ok (.bipush 24, 2) := by decide +kernel
theorem d_AD_rows_21 : decode b_AD_rows 21 = .ok (.if_icmp .ge 22, 3) := by decide +kernel
theorem d_AD_rows_24 : decode b_AD_rows 24 = .ok (.aload_n 0, 1) := by decide +kernel
theorem d_AD_rows_25 : decode b_AD_rows 25 = .ok (.aload_n 2, 1) := by decide +kernel
theorem d_AD_rows_26 : decode b_AD_rows 26 = .ok (.iload 4, 2) := by decide +kernel
theorem d_AD_rows_28 : decode b_AD_rows 28 = .ok (.invokevirtual 144, 3) := by decide +kernel
theorem d_AD_rows_31 : decode b_AD_rows 31 = .ok (.ifnull 6, 3) := by decide +kernel
theorem d_AD_rows_34 : decode b_AD_rows 34 = .ok (.iinc 3 1, 3) := by decide +kernel
theorem d_AD_rows_37 : decode b_AD_rows 37 = .ok (.iinc 4 1, 3) := by decide +kernel
theorem d_AD_rows_40 : decode b_AD_rows 40 = .ok (.goto (-23), 3) := by decide +kernel
theorem d_AD_rows_43 : decode b_AD_rows 43 = .ok (.iload_n 3, 1) := by decide +kernel
theorem d_AD_rows_44 : decode b_AD_rows 44 = .ok (.ireturn, 1) := by decide +kernel
theorem d_AD_kind_0 : decode b_AD_kind 0 = .ok (.aload_n 0, 1) := by decide +kernel
theorem d_AD_kind_1 : decode b_AD_kind 1 = .ok (.iload_n 1, 1) := by decide +kernel
theorem d_AD_kind_2 : decode b_AD_kind 2 = .ok (.invokevirtual 69, 3) := by decide +kernel
theorem d_AD_kind_5 : decode b_AD_kind 5 = .ok (.astore_n 3, 1) := by decide +kernel
theorem d_AD_kind_6 : decode b_AD_kind 6 = .ok (.aload_n 3, 1) := by decide +kernel
theorem d_AD_kind_7 : decode b_AD_kind 7 = .ok (.ifnull 7, 3) := by decide +kernel
theorem d_AD_kind_10 : decode b_AD_kind 10 = .ok (.iload_n 2, 1) := by decide +kernel
theorem d_AD_kind_11 : decode b_AD_kind 11 = .ok (.ifCond .ge 5, 3) := by decide +kernel
theorem d_AD_kind_14 : decode b_AD_kind 14 = .ok (.iconst (-1), 1) := by decide +kernel
theorem d_AD_kind_15 : decode b_AD_kind 15 = .ok (.ireturn, 1) := by decide +kernel
theorem d_AD_kind_16 : decode b_AD_kind 16 = .ok (.aload_n 0, 1) := by decide +kernel
theorem d_AD_kind_17 : decode b_AD_kind 17 = .ok (.aload_n 3, 1) := by decide +kernel
theorem d_AD_kind_18 : decode b_AD_kind 18 = .ok (.iload_n 2, 1) := by decide +kernel
theorem d_AD_kind_19 : decode b_AD_kind 19 = .ok (.invokevirtual 148, 3) := by decide +kernel
theorem d_AD_kind_22 : decode b_AD_kind 22 = .ok (.astore 4, 2) := by decide +kernel
theorem d_AD_kind_24 : decode b_AD_kind 24 = .ok (.aload 4, 2) := by decide +kernel
theorem d_AD_kind_26 : decode b_AD_kind 26 = .ok (.ifnonnull 7, 3) := by decide +kernel
theorem d_AD_kind_29 : decode b_AD_kind 29 = .ok (.iconst (-1), 1) := by decide +kernel
theorem d_AD_kind_30 : decode b_AD_kind 30 = .ok (.goto 8, 3) := by decide +kernel
theorem d_AD_kind_33 : decode b_AD_kind 33 = .ok (.aload 4, 2) := by decide +kernel
theorem d_AD_kind_35 : decode b_AD_kind 35 = .ok (.getfield 151, 3) := by decide +kernel
theorem d_AD_kind_38 : decode b_AD_kind 38 = .ok (.ireturn, 1) := by decide +kernel
theorem d_AD_size_0 : decode b_AD_size 0 = .ok (.aload_n 0, 1) := by decide +kernel
theorem d_AD_size_1 : decode b_AD_size 1 = .ok (.iload_n 1, 1) := by decide +kernel
theorem d_AD_size_2 : decode b_AD_size 2 = .ok (.invokevirtual 69, 3) := by decide +kernel
theorem d_AD_size_5 : decode b_AD_size 5 = .ok (.astore_n 2, 1) := by decide +kernel
theorem d_AD_size_6 : decode b_AD_size 6 = .ok (.aload_n 2, 1) := by decide +kernel
theorem d_AD_size_7 : decode b_AD_size 7 = .ok (.ifnonnull 5, 3) := by decide +kernel
theorem d_AD_size_10 : decode b_AD_size 10 = .ok (.iconst (-1), 1) := by decide +kernel
theorem d_AD_size_11 : decode b_AD_size 11 = .ok (.ireturn, 1) := by decide +kernel
theorem d_AD_size_12 : decode b_AD_size 12 = .ok (.iconst 0, 1) := by decide +kernel
theorem d_AD_size_13 : decode b_AD_size 13 = .ok (.istore_n 3, 1) := by decide +kernel
theorem d_AD_size_14 : decode b_AD_size 14 = .ok (.iconst 0, 1) := by decide +kernel
theorem d_AD_size_15 : decode b_AD_size 15 = .ok (.istore 4, 2) := by decide +kernel
theorem d_AD_size_17 : decode b_AD_size 17 = .ok (.iload 4, 2) := by decide +kernel
theorem d_AD_size_19 : decode b_AD_size 19 = .ok (.bipush 24, 2) := by decide +kernel
theorem d_AD_size_21 : decode b_AD_size 21 = .ok (.if_icmp .ge 31, 3) := by decide +kernel
theorem d_AD_size_24 : decode b_AD_size 24 = .ok (.aload_n 0, 1) := by decide +kernel
theorem d_AD_size_25 : decode b_AD_size 25 = .ok (.aload_n 2, 1) := by decide +kernel
theorem d_AD_size_26 : decode b_AD_size 26 = .ok (.iload 4, 2) := by decide +kernel
theorem d_AD_size_28 : decode b_AD_size 28 = .ok (.invokevirtual 144, 3) := by decide +kernel
theorem d_AD_size_31 : decode b_AD_size 31 = .ok (.astore 5, 2) := by decide +kernel
theorem d_AD_size_33 : decode b_AD_size 33 = .ok (.aload 5, 2) := by decide +kernel
theorem d_AD_size_35 : decode b_AD_size 35 = .ok (.ifnull 11, 3) := by decide +kernel
theorem d_AD_size_38 : decode b_AD_size 38 = .ok (.iload_n 3, 1) := by decide +kernel
theorem d_AD_size_39 : decode b_AD_size 39 = .ok (.aload 5, 2) := by decide +kernel
theorem d_AD_size_41 : decode b_AD_size 41 = .ok (.invokevirtual 154, 3) := by decide +kernel
theorem d_AD_size_44 : decode b_AD_size 44 = .ok (.iadd, 1) := by decide +kernel
theorem d_AD_size_45 : decode b_AD_size 45 = .ok (.istore_n 3, 1) := by decide +kernel
theorem d_AD_size_46 : decode b_AD_size 46 = .ok (.iinc 4 1, 3) := by decide +kernel
theorem d_AD_size_49 : decode b_AD_size 49 = .ok (.goto (-32), 3) := by decide +kernel
theorem d_AD_size_52 : decode b_AD_size 52 = .ok (.iload_n 3, 1) := by decide +kernel
theorem d_AD_size_53 : decode b_AD_size 53 = .ok (.ireturn, 1) := by decide +kernel
theorem d_AD_character_0 : decode b_AD_character 0 = .ok (.aload_n 0, 1) := by decide +kernel
theorem d_AD_character_1 : decode b_AD_character 1 = .ok (.iload_n 1, 1) := by decide +kernel
theorem d_AD_character_2 : decode b_AD_character 2 = .ok (.invokevirtual 69, 3) := by decide +kernel
theorem d_AD_character_5 : decode b_AD_character 5 = .ok (.astore_n 3, 1) := by decide +kernel
theorem d_AD_character_6 : decode b_AD_character 6 = .ok (.aload_n 3, 1) := by decide +kernel
theorem d_AD_character_7 : decode b_AD_character 7 = .ok (.ifnull 7, 3) := by decide +kernel
theorem d_AD_character_10 : decode b_AD_character 10 = .ok (.iload_n 2, 1) := by decide +kernel
theorem d_AD_character_11 : decode b_AD_character 11 = .ok (.ifCond .ge 5, 3) := by decide +kernel
theorem d_AD_character_14 : decode b_AD_character 14 = .ok (.iconst (-1), 1) := by decide +kernel
theorem d_AD_character_15 : decode b_AD_character 15 = .ok (.ireturn, 1) := by decide +kernel
theorem d_AD_character_16 : decode b_AD_character 16 = .ok (.iload_n 2, 1) := by decide +kernel
theorem d_AD_character_17 : decode b_AD_character 17 = .ok (.istore 4, 2) := by decide +kernel
theorem d_AD_character_19 : decode b_AD_character 19 = .ok (.iconst 0, 1) := by decide +kernel
theorem d_AD_character_20 : decode b_AD_character 20 = .ok (.istore 5, 2) := by decide +kernel
theorem d_AD_character_22 : decode b_AD_character 22 = .ok (.iload 5, 2) := by decide +kernel
theorem d_AD_character_24 : decode b_AD_character 24 = .ok (.bipush 24, 2) := by decide +kernel
theorem d_AD_character_26 : decode b_AD_character 26 = .ok (.if_icmp .ge 51, 3) := by decide +kernel
theorem d_AD_character_29 : decode b_AD_character 29 = .ok (.aload_n 0, 1) := by decide +kernel
theorem d_AD_character_30 : decode b_AD_character 30 = .ok (.aload_n 3, 1) := by decide +kernel
theorem d_AD_character_31 : decode b_AD_character 31 = .ok (.iload 5, 2) := by decide +kernel
theorem d_AD_character_33 : decode b_AD_character 33 = .ok (.invokevirtual 144, 3) := by decide +kernel
theorem d_AD_character_36 : decode b_AD_character 36 = .ok (.astore 6, 2) := by decide +kernel
theorem d_AD_character_38 : decode b_AD_character 38 = .ok (.aload 6, 2) := by decide +kernel
theorem d_AD_character_40 : decode b_AD_character 40 = .ok (.ifnull 31, 3) := by decide +kernel
theorem d_AD_character_43 : decode b_AD_character 43 = .ok (.iload 4, 2) := by decide +kernel
theorem d_AD_character_45 : decode b_AD_character 45 = .ok (.aload 6, 2) := by decide +kernel
theorem d_AD_character_47 : decode b_AD_character 47 = .ok (.invokevirtual 154, 3) := by decide +kernel
theorem d_AD_character_50 : decode b_AD_character 50 = .ok (.if_icmp .ge 11, 3) := by decide +kernel
theorem d_AD_character_53 : decode b_AD_character 53 = .ok (.aload 6, 2) := by decide +kernel
theorem d_AD_character_55 : decode b_AD_character 55 = .ok (.iload 4, 2) := by decide +kernel
theorem d_AD_character_57 : decode b_AD_character 57 = .ok (.invokevirtual 158, 3) := by decide +kernel
theorem d_AD_character_60 : decode b_AD_character 60 = .ok (.ireturn, 1) := by decide +kernel
theorem d_AD_character_61 : decode b_AD_character 61 = .ok (.iload 4, 2) := by decide +kernel
theorem d_AD_character_63 : decode b_AD_character 63 = .ok (.aload 6, 2) := by decide +kernel
theorem d_AD_character_65 : decode b_AD_character 65 = .ok (.invokevirtual 154, 3) := by decide +kernel
theorem d_AD_character_68 : decode b_AD_character 68 = .ok (.isub, 1) := by decide +kernel
theorem d_AD_character_69 : decode b_AD_character 69 = .ok (.istore 4, 2) := by decide +kernel
theorem d_AD_character_71 : decode b_AD_character 71 = .ok (.iinc 5 1, 3) := by decide +kernel
theorem d_AD_character_74 : decode b_AD_character 74 = .ok (.goto (-52), 3) := by decide +kernel
theorem d_AD_character_77 : decode b_AD_character 77 = .ok (.iconst (-1), 1) := by decide +kernel
theorem d_AD_character_78 : decode b_AD_character 78 = .ok (.ireturn, 1) := by decide +kernel
theorem d_AD_differ_0 : decode b_AD_differ 0 = .ok (.aload_n 0, 1) := by decide +kernel
theorem d_AD_differ_1 : decode b_AD_differ 1 = .ok (.iload_n 1, 1) := by decide +kernel
theorem d_AD_differ_2 : decode b_AD_differ 2 = .ok (.invokevirtual 69, 3) := by decide +kernel
theorem d_AD_differ_5 : decode b_AD_differ 5 = .ok (.astore_n 3, 1) := by decide +kernel
theorem d_AD_differ_6 : decode b_AD_differ 6 = .ok (.aload_n 0, 1) := by decide +kernel
theorem d_AD_differ_7 : decode b_AD_differ 7 = .ok (.iload_n 2, 1) := by decide +kernel
theorem d_AD_differ_8 : decode b_AD_differ 8 = .ok (.invokevirtual 69, 3) := by decide +kernel
theorem d_AD_differ_11 : decode b_AD_differ 11 = .ok (.astore 4, 2) := by decide +kernel
theorem d_AD_differ_13 : decode b_AD_differ 13 = .ok (.aload_n 3, 1) := by decide +kernel
theorem d_AD_differ_14 : decode b_AD_differ 14 = .ok (.ifnull 8, 3) := by decide +kernel
theorem d_AD_differ_17 : decode b_AD_differ 17 = .ok (.aload 4, 2) := by decide +kernel
theorem d_AD_differ_19 : decode b_AD_differ 19 = .ok (.ifnonnull 5, 3) := by decide +kernel
theorem d_AD_differ_22 : decode b_AD_differ 22 = .ok (.iconst (-1), 1) := by decide +kernel
theorem d_AD_differ_23 : decode b_AD_differ 23 = .ok (.ireturn, 1) := by decide +kernel
theorem d_AD_differ_24 : decode b_AD_differ 24 = .ok (.iconst 0, 1) := by decide +kernel
theorem d_AD_differ_25 : decode b_AD_differ 25 = .ok (.istore 5, 2) := by decide +kernel
theorem d_AD_differ_27 : decode b_AD_differ 27 = .ok (.iload 5, 2) := by decide +kernel
theorem d_AD_differ_29 : decode b_AD_differ 29 = .ok (.bipush 24, 2) := by decide +kernel
theorem d_AD_differ_31 : decode b_AD_differ 31 = .ok (.if_icmp .ge 63, 3) := by decide +kernel
theorem d_AD_differ_34 : decode b_AD_differ 34 = .ok (.aload_n 0, 1) := by decide +kernel
theorem d_AD_differ_35 : decode b_AD_differ 35 = .ok (.aload_n 3, 1) := by decide +kernel
theorem d_AD_differ_36 : decode b_AD_differ 36 = .ok (.iload 5, 2) := by decide +kernel
theorem d_AD_differ_38 : decode b_AD_differ 38 = .ok (.invokevirtual 148, 3) := by decide +kernel
theorem d_AD_differ_41 : decode b_AD_differ 41 = .ok (.astore 6, 2) := by decide +kernel
theorem d_AD_differ_43 : decode b_AD_differ 43 = .ok (.aload_n 0, 1) := by decide +kernel
theorem d_AD_differ_44 : decode b_AD_differ 44 = .ok (.aload 4, 2) := by decide +kernel
theorem d_AD_differ_46 : decode b_AD_differ 46 = .ok (.iload 5, 2) := by decide +kernel
theorem d_AD_differ_48 : decode b_AD_differ 48 = .ok (.invokevirtual 148, 3) := by decide +kernel
theorem d_AD_differ_51 : decode b_AD_differ 51 = .ok (.astore 7, 2) := by decide +kernel
theorem d_AD_differ_53 : decode b_AD_differ 53 = .ok (.aload 6, 2) := by decide +kernel
theorem d_AD_differ_55 : decode b_AD_differ 55 = .ok (.ifnonnull 10, 3) := by decide +kernel
theorem d_AD_differ_58 : decode b_AD_differ 58 = .ok (.aload 7, 2) := by decide +kernel
theorem d_AD_differ_60 : decode b_AD_differ 60 = .ok (.ifnonnull 5, 3) := by decide +kernel
theorem d_AD_differ_63 : decode b_AD_differ 63 = .ok (.iconst (-1), 1) := by decide +kernel
theorem d_AD_differ_64 : decode b_AD_differ 64 = .ok (.ireturn, 1) := by decide +kernel
theorem d_AD_differ_65 : decode b_AD_differ 65 = .ok (.aload 6, 2) := by decide +kernel
theorem d_AD_differ_67 : decode b_AD_differ 67 = .ok (.ifnull 18, 3) := by decide +kernel
theorem d_AD_differ_70 : decode b_AD_differ 70 = .ok (.aload 7, 2) := by decide +kernel
theorem d_AD_differ_72 : decode b_AD_differ 72 = .ok (.ifnull 13, 3) := by decide +kernel
theorem d_AD_differ_75 : decode b_AD_differ 75 = .ok (.aload 6, 2) := by decide +kernel
theorem d_AD_differ_77 : decode b_AD_differ 77 = .ok (.aload 7, 2) := by decide +kernel
theorem d_AD_differ_79 : decode b_AD_differ 79 = .ok (.invokevirtual 178, 3) := by decide +kernel
theorem d_AD_differ_82 : decode b_AD_differ 82 = .ok (.ifCond .ne 6, 3) := by decide +kernel
theorem d_AD_differ_85 : decode b_AD_differ 85 = .ok (.iload 5, 2) := by decide +kernel
theorem d_AD_differ_87 : decode b_AD_differ 87 = .ok (.ireturn, 1) := by decide +kernel
theorem d_AD_differ_88 : decode b_AD_differ 88 = .ok (.iinc 5 1, 3) := by decide +kernel
theorem d_AD_differ_91 : decode b_AD_differ 91 = .ok (.goto (-64), 3) := by decide +kernel
theorem d_AD_differ_94 : decode b_AD_differ 94 = .ok (.iconst (-1), 1) := by decide +kernel
theorem d_AD_differ_95 : decode b_AD_differ 95 = .ok (.ireturn, 1) := by decide +kernel
theorem d_AD_constant_0 : decode b_AD_constant 0 = .ok (.iload_n 1, 1) := by decide +kernel
theorem d_AD_constant_1 : decode b_AD_constant 1 = .ok (.ifCond .lt 15, 3) := by decide +kernel
theorem d_AD_constant_4 : decode b_AD_constant 4 = .ok (.iload_n 1, 1) := by decide +kernel
theorem d_AD_constant_5 : decode b_AD_constant 5 = .ok (.bipush 64, 2) := by decide +kernel
theorem d_AD_constant_7 : decode b_AD_constant 7 = .ok (.if_icmp .ge 9, 3) := by decide +kernel
theorem d_AD_constant_10 : decode b_AD_constant 10 = .ok (.getstatic 181, 3) := by decide +kernel
theorem d_AD_constant_13 : decode b_AD_constant 13 = .ok (.iload_n 1, 1) := by decide +kernel
theorem d_AD_constant_14 : decode b_AD_constant 14 = .ok (.iaload, 1) := by decide +kernel
theorem d_AD_constant_15 : decode b_AD_constant 15 = .ok (.ireturn, 1) := by decide +kernel
theorem d_AD_constant_16 : decode b_AD_constant 16 = .ok (.iload_n 1, 1) := by decide +kernel
theorem d_AD_constant_17 : decode b_AD_constant 17 = .ok (.bipush 64, 2) := by decide +kernel
theorem d_AD_constant_19 : decode b_AD_constant 19 = .ok (.if_icmp .lt 18, 3) := by decide +kernel
theorem d_AD_constant_22 : decode b_AD_constant 22 = .ok (.iload_n 1, 1) := by decide +kernel
theorem d_AD_constant_23 : decode b_AD_constant 23 = .ok (.bipush 72, 2) := by decide +kernel
theorem d_AD_constant_25 : decode b_AD_constant 25 = .ok (.if_icmp .ge 12, 3) := by decide +kernel
theorem d_AD_constant_28 : decode b_AD_constant 28 = .ok (.getstatic 184, 3) := by decide +kernel
theorem d_AD_constant_31 : decode b_AD_constant 31 = .ok (.iload_n 1, 1) := by decide +kernel
theorem d_AD_constant_32 : decode b_AD_constant 32 = .ok (.bipush 64, 2) := by decide +kernel
theorem d_AD_constant_34 : decode b_AD_constant 34 = .ok (.isub, 1) := by decide +kernel
theorem d_AD_constant_35 : decode b_AD_constant 35 = .ok (.iaload, 1) := by decide +kernel
theorem d_AD_constant_36 : decode b_AD_constant 36 = .ok (.ireturn, 1) := by decide +kernel
theorem d_AD_constant_37 : decode b_AD_constant 37 = .ok (.iconst 0, 1) := by decide +kernel
theorem d_AD_constant_38 : decode b_AD_constant 38 = .ok (.ireturn, 1) := by decide +kernel
set_option maxHeartbeats 4000000 in
set_option maxRecDepth 100000 in
/-- an action by its number -/
theorem c_AD_actionAt (l : Launch) (D : va_G) (ct : Nat → ClassId) (Z : hp_Z) (hZ : hp_Zok Z) (M : hp_M) (sz : Nat) (fz : Nat → Prop) (x : Nat) (As : List (List RowT)) (hat : atP ct fz M x As) (k : Int32) : Mq l y_AD_actionAt b_AD_actionAt 2 (some (.object "ActionDigests$Action")) 0 0 0 0 [.ref x, .int k] D ct Z M sz (fun r M1 => M1 = M ∧ ((∃ j a, j < As.length ∧ k = nI j ∧ r = some a ∧ acP ct fz M a (As.getD j [])) ∨ ((∀ j, j < As.length → k ≠ nI j) ∧ r = none))) := by
  refine hp_start (by decide) (Nat.le_of_ble_eq_true rfl) (fun p e s m below meth c ls S hret hlk hnm hsz hK hM hS hA hz hl => ?_)
  have hx := S.1
  have hb := S.2.1
  have hl : lv_has ls 2 [(0, .ref x), (1, .int k)] := hl
  obtain ⟨xt, sh, ac, al, nl, sc, hg, fa, f_x, f_ac, hAs, hAc⟩ := id hat
  refine lv_iload_n hx hb d_AD_actionAt_0 rfl (lv_at hl 1 rfl) ?_
  refine lv_if_lt (tgt := 12) hx hb d_AD_actionAt_1 (by decide) (fun h0 => ?_) (fun h0 => ?_)
  · refine lv_null hx hb d_AD_actionAt_12 ?_
    refine lv_goto (tgt := 22) hx hb d_AD_actionAt_13 (by decide) ?_
    exact hp_aret (none) rfl S hret (Or.inl ⟨_, rfl⟩) hlk hM hS (⟨rfl, Or.inr ⟨fun j hj e => by subst e; first | exact nI_pos (by omega) h0 | exact h1 ((nI_ltI (by omega) (by omega)).mpr hj), rfl⟩⟩) d_AD_actionAt_22
  · refine lv_iload_n hx hb d_AD_actionAt_4 rfl (lv_at hl 1 rfl) ?_
    refine lv_aload_n hx hb d_AD_actionAt_5 rfl (lv_at hl 0 rfl) ?_
    refine hp_get S hK hM i_AD f_x rfl 3 (by decide) mf_AD_29 (fun _ h9 => h9) rfl d_AD_actionAt_6 ?_
    refine lv_icmp_lt (tgt := 16) hx hb d_AD_actionAt_9 (by decide) (fun h1 => ?_) (fun h1 => ?_)
    · refine lv_aload_n hx hb d_AD_actionAt_16 rfl (lv_at hl 0 rfl) ?_
      refine hp_get S hK hM i_AD f_x rfl 2 (by decide) mf_AD_25 (fun _ h9 => h9) rfl d_AD_actionAt_17 ?_
      refine lv_iload_n hx hb d_AD_actionAt_20 rfl (lv_at hl 1 rfl) ?_
      obtain ⟨j, hj, ej⟩ : ∃ j, j < As.length ∧ k = nI j := by
        obtain ⟨j, hj, ej⟩ := nI_of h0
        rw [ej] at h1
        exact ⟨j, (nI_ltI hj (by omega)).mp h1, ej⟩
      obtain ⟨a, hfa, ha⟩ := hAc j hj
      subst ej
      refine hp_aald S hK hM 4 f_ac rfl j rfl (by omega) (by decide) (congrArg va_rf hfa) d_AD_actionAt_21 ?_
      exact hp_aret (some a) rfl S hret (Or.inl ⟨_, rfl⟩) hlk hM hS (⟨rfl, Or.inl ⟨j, a, hj, rfl, rfl, ha⟩⟩) d_AD_actionAt_22
    · refine lv_null hx hb d_AD_actionAt_12 ?_
      refine lv_goto (tgt := 22) hx hb d_AD_actionAt_13 (by decide) ?_
      exact hp_aret (none) rfl S hret (Or.inl ⟨_, rfl⟩) hlk hM hS (⟨rfl, Or.inr ⟨fun j hj e => by subst e; first | exact nI_pos (by omega) h0 | exact h1 ((nI_ltI (by omega) (by omega)).mpr hj), rfl⟩⟩) d_AD_actionAt_22
set_option maxHeartbeats 4000000 in
set_option maxRecDepth 100000 in
/-- a name is allowed -/
theorem c_AD_isAllowed (l : Launch) (D : va_G) (ct : Nat → ClassId) (Z : hp_Z) (hZ : hp_Zok Z) (M : hp_M) (sz : Nat) (fz : Nat → Prop) (x : Nat) (Al : List (List Nat)) (hal : alP ct fz M x Al) (ky : Nat) (K : List Nat) (hky : kyOk ct fz M ky K) : Mi l y_AD_isAllowed b_AD_isAllowed 4 (some .boolean) 2 36 0 0 [.ref x, .ref ky] D ct Z M sz (fun r M1 => M1 = M ∧ bo r (∃ i, i < Al.length ∧ Al.getD i [] = K)) := by
  refine hp_start (by decide) (Nat.le_of_ble_eq_true rfl) (fun p e s m below meth c ls S hret hlk hnm hsz hK hM hS hA hz hl => ?_)
  have hx := S.1
  have hb := S.2.1
  have hl : lv_has ls 4 [(0, .ref x), (1, .ref ky)] := hl
  obtain ⟨xt, sh, ac, na, al, sc, hg, fl, f_x, f_al, ⟨hAl8, hAl0⟩, hAl⟩ := id hal
  refine lv_iconst (v := nI 0) hx hb d_AD_isAllowed_0 rfl ?_
  refine lv_istore_n (lv' := [(2, .int (nI 0)), (0, .ref x), (1, .ref ky)]) hx hb d_AD_isAllowed_1 rfl hl (by decide) rfl (fun ls hl => ?_)
  replace hl : lv_has ls 4 [(0, .ref x), (1, .ref ky), (2, .int (nI 0))] := lv_sub hl [1, 2, 0] rfl
  obtain ⟨j, e9j⟩ : ∃ z : Nat, z = 0 := ⟨_, rfl⟩
  replace hl : lv_has ls 4 [(0, .ref x), (1, .ref ky), (2, .int (nI j))] := by subst e9j; exact hl
  obtain ⟨H, e9H⟩ : ∃ z : Heap, z = s.heap := ⟨_, rfl⟩
  replace hM : hp_H D ccl (hp_A M sz) M H := by rw [e9H]; exact hM
  replace hS : va_S (hp_A M sz) s.heap H [] := by rw [e9H]; exact hS
  rw [← e9H]
  clear e9H
  obtain ⟨locs, e9L⟩ : ∃ z : List Loc, z = [] := ⟨_, rfl⟩
  replace hS : va_S (hp_A M sz) s.heap H locs := by rw [e9L]; exact hS
  rw [← e9L]
  clear e9L
  have hinv : ∀ i, i < j → i < Al.length → Al.getD i [] ≠ K := by subst e9j; intro i hi; omega
  obtain ⟨fu, hn⟩ : ∃ fu : Nat, j + fu = 8 := ⟨8 - j, by omega⟩
  clear e9j
  induction fu generalizing j H locs ls with
  | zero =>
    have hn : j = 8 := by omega
    refine lv_iload_n hx hb d_AD_isAllowed_2 rfl (lv_at hl 2 rfl) ?_
    refine lv_bipush (v := nI 8) hx hb d_AD_isAllowed_3 rfl ?_
    refine nb_ge (tgt := 35) hx hb d_AD_isAllowed_5 (by decide) (by omega) (by omega) (fun h1 => ?_) (fun h1 => ?_)
    · refine lv_iconst (v := nI 0) hx hb d_AD_isAllowed_35 rfl ?_
      exact hp_iret S hret hlk (rfl) hM hS (⟨rfl, bo_f (fun q => by obtain ⟨i, q1, q2⟩ := q; exact hinv i (by omega) q1 q2)⟩) d_AD_isAllowed_36
    · exact absurd hn (by omega)
  | succ fu ih =>
    refine lv_iload_n hx hb d_AD_isAllowed_2 rfl (lv_at hl 2 rfl) ?_
    refine lv_bipush (v := nI 8) hx hb d_AD_isAllowed_3 rfl ?_
    refine nb_ge (tgt := 35) hx hb d_AD_isAllowed_5 (by decide) (by omega) (by omega) (fun h2 => ?_) (fun h2 => ?_)
    · exact absurd hn (by omega)
    · refine lv_aload_n hx hb d_AD_isAllowed_8 rfl (lv_at hl 0 rfl) ?_
      refine hp_get S hK hM i_AD f_x rfl 4 (by decide) mf_AD_35 (fun _ h9 => h9) rfl d_AD_isAllowed_9 ?_
      refine lv_iload_n hx hb d_AD_isAllowed_12 rfl (lv_at hl 2 rfl) ?_
      rcases Nat.lt_or_ge j Al.length with hlt | hge
      · obtain ⟨q, hfq, hq⟩ := hAl j hlt
        obtain ⟨ca2, xa2, f_q, -⟩ := id hq
        refine hp_aald S hK hM 3 f_al rfl j rfl (by omega) (by decide) (congrArg va_rf hfq) d_AD_isAllowed_13 ?_
        refine lv_astore_n (lv' := [(3, .ref q), (0, .ref x), (1, .ref ky), (2, .int (nI j))]) hx hb d_AD_isAllowed_14 rfl hl (by decide) rfl (fun ls hl => ?_)
        refine lv_aload_n hx hb d_AD_isAllowed_15 rfl (lv_at hl 0 rfl) ?_
        refine lv_ifnull hx hb d_AD_isAllowed_16 ?_
        refine lv_aload_n hx hb d_AD_isAllowed_19 rfl (lv_at hl 0 rfl) ?_
        refine lv_aload_n hx hb d_AD_isAllowed_20 rfl (lv_at hl 2 rfl) ?_
        refine hp_calli (go_V S hZ hK hM hS hA hz (c_KY_compareWith l D ct Z hZ _ _ fz q ky (Al.getD j []) K hq hky) mc_KY_compareWith mz_KY ml_AD_190 mi_KY_compareWith mx_KY_compareWith hd_KY_compareWith rfl ⟨by decide, by decide⟩ f_q rfl rfl hl.1 rfl (Nat.le_of_ble_eq_true rfl) d_AD_isAllowed_21 ⟨by decide, by decide⟩) hM hS hA (fun r3 N4 H locs hr3 hM hS => ?_)
        rw [hr3.1] at hM
        replace hr3 := hr3.2
        refine lv_if_ne (tgt := 29) hx hb d_AD_isAllowed_24 (by decide) (fun hk2 => ?_) (fun hk2 => ?_)
        · refine lv_iinc (v := nI (j + 1)) (lv' := [(2, .int (nI (j + 1))), (3, .ref q), (0, .ref x), (1, .ref ky)]) hx hb d_AD_isAllowed_29 hl (k := 3) rfl (nI_add j 1) (by decide) rfl (fun ls hl => ?_)
          refine lv_goto (tgt := 2) hx hb d_AD_isAllowed_32 (by decide) ?_
          exact ih (ls := ls) (hl := lv_sub hl [2, 3, 0] rfl) (j := j + 1) (hn := by omega) (hinv := lt_s hinv (fun _ z => hk2 (hr3.1.mpr ((cmpK_0 _ _).mpr z)))) (H := H) (locs := locs) (hM := hM) (hS := hS)
        · refine lv_iconst (v := nI 1) hx hb d_AD_isAllowed_27 rfl ?_
          exact hp_iret S hret hlk (rfl) hM hS (⟨rfl, bo_t ⟨j, hlt, (cmpK_0 _ _).mp (hr3.1.mp hk2)⟩⟩) d_AD_isAllowed_28
      · have hfn := hAl0 j hge
        refine hp_aald S hK hM 3 f_al rfl j rfl (by omega) (by decide) (congrArg va_rf hfn) d_AD_isAllowed_13 ?_
        refine lv_astore_nN (lv' := [(3, .null), (0, .ref x), (1, .ref ky), (2, .int (nI j))]) hx hb d_AD_isAllowed_14 rfl hl (by decide) rfl (fun ls hl => ?_)
        refine lv_aload_nN hx hb d_AD_isAllowed_15 rfl (lv_at hl 0 rfl) ?_
        refine lv_ifnullN (tgt := 29) hx hb d_AD_isAllowed_16 (by decide) ?_
        refine lv_iinc (v := nI (j + 1)) (lv' := [(2, .int (nI (j + 1))), (3, .null), (0, .ref x), (1, .ref ky)]) hx hb d_AD_isAllowed_29 hl (k := 3) rfl (nI_add j 1) (by decide) rfl (fun ls hl => ?_)
        refine lv_goto (tgt := 2) hx hb d_AD_isAllowed_32 (by decide) ?_
        exact ih (ls := ls) (hl := lv_sub hl [2, 3, 0] rfl) (j := j + 1) (hn := by omega) (hinv := lt_s hinv (fun z => absurd z (by omega))) (H := H) (locs := locs) (hM := hM) (hS := hS)
set_option maxHeartbeats 4000000 in
set_option maxRecDepth 100000 in
/-- a row counts -/
theorem c_AD_counts (l : Launch) (D : va_G) (ct : Nat → ClassId) (Z : hp_Z) (hZ : hp_Zok Z) (M : hp_M) (sz : Nat) (fz : Nat → Prop) (x : Nat) (Al : List (List Nat)) (hal : alP ct fz M x Al) (a : Nat) (R : RowT) (hra : rwOk ct fz M a R) : Mi l y_AD_counts b_AD_counts 2 (some .boolean) 3 59 0 0 [.ref x, .ref a] D ct Z M sz (fun r M1 => M1 = M ∧ bo r (cnts Al R)) := by
  refine hp_start (by decide) (Nat.le_of_ble_eq_true rfl) (fun p e s m below meth c ls S hret hlk hnm hsz hK hM hS hA hz hl => ?_)
  have hx := S.1
  have hb := S.2.1
  have hl : lv_has ls 2 [(0, .ref x), (1, .ref a)] := hl
  obtain ⟨xt, sh, ac, na, al, sc, hg, fl, f_x, f_al, ⟨hAl8, hAl0⟩, hAl⟩ := id hal
  obtain ⟨ky, ba, f_a, hky, f_ba, hbl, hc_bd, hfb, hk7⟩ := hra
  refine lv_aload_n hx hb d_AD_counts_0 rfl (lv_at hl 1 rfl) ?_
  refine hp_get S hK hM i_RW f_a rfl 0 (by decide) mf_AD_151 (fun _ h9 => h9) rfl d_AD_counts_1 ?_
  refine lv_iconst (v := nI 2) hx hb d_AD_counts_4 rfl ?_
  refine nb_ne (tgt := 19) hx hb d_AD_counts_5 (by decide) (by omega) (by omega) (fun h2 => ?_) (fun h2 => ?_)
  · refine lv_iconst (v := nI 1) hx hb d_AD_counts_19 rfl ?_
    refine lv_goto (tgt := 24) hx hb d_AD_counts_20 (by decide) ?_
    exact hp_iret S hret hlk (rfl) hM hS (⟨rfl, by first | exact bo_t (Or.inl h2) | exact bo_t (Or.inr ha)⟩) d_AD_counts_24
  · refine lv_aload_n hx hb d_AD_counts_8 rfl (lv_at hl 0 rfl) ?_
    refine lv_aload_n hx hb d_AD_counts_9 rfl (lv_at hl 1 rfl) ?_
    refine hp_get S hK hM i_RW f_a rfl 1 (by decide) mf_AD_194 (fun _ h9 => h9) rfl d_AD_counts_10 ?_
    refine hp_calli (go_V S hZ hK hM hS hA hz (c_AD_isAllowed l D ct Z hZ _ _ fz x Al hal ky R.2.1 hky) mc_AD_isAllowed mz_AD ml_AD_134 mi_AD_isAllowed mx_AD_isAllowed hd_AD_isAllowed rfl ⟨by decide, by decide⟩ f_x rfl rfl hl.1 rfl (Nat.le_of_ble_eq_true rfl) d_AD_counts_13 ⟨by decide, by decide⟩) hM hS hA (fun r1 N2 H locs hr1 hM hS => ?_)
    rw [hr1.1] at hM
    replace hr1 := hr1.2
    refine nt_eq (tgt := 23) hx hb d_AD_counts_16 (by decide) hr1 (fun ha => ?_) (fun ha => ?_)
    · refine lv_iconst (v := nI 0) hx hb d_AD_counts_23 rfl ?_
      exact hp_iret S hret hlk (rfl) hM hS (⟨rfl, bo_f (fun q => q.elim (fun q => q h2) ha)⟩) d_AD_counts_24
    · refine lv_iconst (v := nI 1) hx hb d_AD_counts_19 rfl ?_
      refine lv_goto (tgt := 24) hx hb d_AD_counts_20 (by decide) ?_
      exact hp_iret S hret hlk (rfl) hM hS (⟨rfl, by first | exact bo_t (Or.inl h2) | exact bo_t (Or.inr ha)⟩) d_AD_counts_24
set_option maxHeartbeats 4000000 in
set_option maxRecDepth 100000 in
/-- a row at a place, if it counts -/
theorem c_AD_countingRowAt (l : Launch) (D : va_G) (ct : Nat → ClassId) (Z : hp_Z) (hZ : hp_Zok Z) (M : hp_M) (sz : Nat) (fz : Nat → Prop) (x : Nat) (Al : List (List Nat)) (hal : alP ct fz M x Al) (a : Nat) (rs : List RowT) (hac : acP ct fz M a rs) (i : Nat) (hi : i < 2 ^ 31) : Mq l y_AD_countingRowAt b_AD_countingRowAt 4 (some (.object "ActionDigests$Row")) 4 80 0 0 [.ref x, .ref a, .int (nI i)] D ct Z M sz (fun r M1 => M1 = M ∧ ((i < rs.length ∧ cnts Al (rs.getD i rw0) ∧ ∃ q, r = some q ∧ rwOk ct fz M q (rs.getD i rw0)) ∨ ((rs.length ≤ i ∨ ¬ cnts Al (rs.getD i rw0)) ∧ r = none))) := by
  refine hp_start (by decide) (Nat.le_of_ble_eq_true rfl) (fun p e s m below meth c ls S hret hlk hnm hsz hK hM hS hA hz hl => ?_)
  have hx := S.1
  have hb := S.2.1
  have hl : lv_has ls 4 [(0, .ref x), (1, .ref a), (2, .int (nI i))] := hl
  obtain ⟨xt, sh, ac, na, al, sc, hg, fl, f_x, f_al, ⟨hAl8, hAl0⟩, hAl⟩ := id hal
  obtain ⟨oa, f, f_a, f_oa, hn24, hrs⟩ := id hac
  refine lv_aload_n hx hb d_AD_countingRowAt_0 rfl (lv_at hl 1 rfl) ?_
  refine lv_iload_n hx hb d_AD_countingRowAt_1 rfl (lv_at hl 2 rfl) ?_
  refine hp_callq (go_V S hZ hK hM hS hA hz (c_AC_rowAt l D ct Z hZ _ _ fz a oa f rs hn24 f_a f_oa hrs i hi) mc_AC_rowAt mz_AC ml_AD_198 mi_AC_rowAt mx_AC_rowAt hd_AC_rowAt rfl ⟨by decide, by decide⟩ f_a rfl rfl hl.1 rfl (Nat.le_of_ble_eq_true rfl) d_AD_countingRowAt_2 ⟨by decide, by decide⟩) hM hS hA (fun r1 M9 H locs hr1 hM hS => ?_)
  rw [hr1.1] at hM
  replace hr1 := hr1.2
  rcases hr1 with ⟨hlt, q, e9r, hq⟩ | ⟨hge, e9r⟩
  · subst e9r
    refine lv_astore_n (lv' := [(3, .ref q), (0, .ref x), (1, .ref a), (2, .int (nI i))]) hx hb d_AD_countingRowAt_5 rfl hl (by decide) rfl (fun ls hl => ?_)
    refine lv_aload_n hx hb d_AD_countingRowAt_6 rfl (lv_at hl 0 rfl) ?_
    refine lv_ifnull hx hb d_AD_countingRowAt_7 ?_
    refine lv_aload_n hx hb d_AD_countingRowAt_10 rfl (lv_at hl 1 rfl) ?_
    refine lv_aload_n hx hb d_AD_countingRowAt_11 rfl (lv_at hl 0 rfl) ?_
    refine hp_calli (go_V S hZ hK hM hS hA hz (c_AD_counts l D ct Z hZ _ _ fz x Al hal q (rs.getD i rw0) hq) mc_AD_counts mz_AD ml_AD_202 mi_AD_counts mx_AD_counts hd_AD_counts rfl ⟨by decide, by decide⟩ f_x rfl rfl hl.1 rfl (Nat.le_of_ble_eq_true rfl) d_AD_countingRowAt_12 ⟨by decide, by decide⟩) hM hS hA (fun r2 N3 H locs hr2 hM hS => ?_)
    rw [hr2.1] at hM
    replace hr2 := hr2.2
    refine nt_eq (tgt := 22) hx hb d_AD_countingRowAt_15 (by decide) hr2 (fun hcn => ?_) (fun hcn => ?_)
    · refine lv_null hx hb d_AD_countingRowAt_22 ?_
      exact hp_aret (none) rfl S hret (Or.inl ⟨_, rfl⟩) hlk hM hS (⟨rfl, Or.inr ⟨by first | exact Or.inl hge | exact Or.inr hcn, rfl⟩⟩) d_AD_countingRowAt_23
    · refine lv_aload_n hx hb d_AD_countingRowAt_18 rfl (lv_at hl 0 rfl) ?_
      refine lv_goto (tgt := 23) hx hb d_AD_countingRowAt_19 (by decide) ?_
      exact hp_aret (some q) rfl S hret (Or.inl ⟨_, rfl⟩) hlk hM hS (⟨rfl, Or.inl ⟨hlt, hcn, q, rfl, hq⟩⟩) d_AD_countingRowAt_23
  · subst e9r
    refine lv_astore_nN (lv' := [(3, .null), (0, .ref x), (1, .ref a), (2, .int (nI i))]) hx hb d_AD_countingRowAt_5 rfl hl (by decide) rfl (fun ls hl => ?_)
    refine lv_aload_nN hx hb d_AD_countingRowAt_6 rfl (lv_at hl 0 rfl) ?_
    refine lv_ifnullN (tgt := 22) hx hb d_AD_countingRowAt_7 (by decide) ?_
    refine lv_null hx hb d_AD_countingRowAt_22 ?_
    exact hp_aret (none) rfl S hret (Or.inl ⟨_, rfl⟩) hlk hM hS (⟨rfl, Or.inr ⟨by first | exact Or.inl hge | exact Or.inr hcn, rfl⟩⟩) d_AD_countingRowAt_23
theorem cR_at {ct : Nat → ClassId} {fz : Nat → Prop} {M : hp_M} {Al : List (List Nat)} {rs : List RowT} {i k q : Nat} (h : i < rs.length) (hc : cnts Al (rs.getD i rw0)) (hk : k = (cR Al (rs.take i)).length) (hq : rwOk ct fz M q (rs.getD i rw0)) : k < (cR Al rs).length ∧ ∃ p, some q = some p ∧ rwOk ct fz M p ((cR Al rs).getD k rw0) := by
  have e : cR Al rs = cR Al (rs.take (i + 1)) ++ cR Al (rs.drop (i + 1)) := by
    unfold cR
    rw [← List.filter_append, List.take_append_drop]
  have hl : k < (cR Al (rs.take (i + 1))).length := by
    rw [cR_1 h hc, List.length_append, hk]
    exact Nat.lt_succ_self _
  constructor
  · rw [e, List.length_append]
    omega
  · refine ⟨q, rfl, ?_⟩
    rw [e, List.getD_eq_getElem?_getD, List.getElem?_append_left hl, cR_1 h hc, hk, List.getElem?_append_right (Nat.le_refl _), Nat.sub_self]
    exact hq
set_option maxHeartbeats 4000000 in
set_option maxRecDepth 100000 in
/-- the k-th row of those that count -/
theorem c_AD_rowInOrder (l : Launch) (D : va_G) (ct : Nat → ClassId) (Z : hp_Z) (hZ : hp_Zok Z) (M : hp_M) (sz : Nat) (fz : Nat → Prop) (x : Nat) (Al : List (List Nat)) (hal : alP ct fz M x Al) (a : Nat) (rs : List RowT) (hac : acP ct fz M a rs) (k : Nat) (hk : k < 2 ^ 31) : Mq l y_AD_rowInOrder b_AD_rowInOrder 6 (some (.object "ActionDigests$Row")) 5 103 0 0 [.ref x, .ref a, .int (nI k)] D ct Z M sz (fun r M1 => M1 = M ∧ ((k < (cR Al rs).length ∧ ∃ q, r = some q ∧ rwOk ct fz M q ((cR Al rs).getD k rw0)) ∨ ((cR Al rs).length ≤ k ∧ r = none))) := by
  refine hp_start (by decide) (Nat.le_of_ble_eq_true rfl) (fun p e s m below meth c ls S hret hlk hnm hsz hK hM hS hA hz hl => ?_)
  have hx := S.1
  have hb := S.2.1
  have hl : lv_has ls 6 [(0, .ref x), (1, .ref a), (2, .int (nI k))] := hl
  obtain ⟨xt, sh, ac, na, al, sc, hg, fl, f_x, f_al, ⟨hAl8, hAl0⟩, hAl⟩ := id hal
  have hn24 : rs.length ≤ 24 := by obtain ⟨_, _, -, -, h, -⟩ := id hac; exact h
  refine lv_iload_n hx hb d_AD_rowInOrder_0 rfl (lv_at hl 2 rfl) ?_
  refine lv_istore_n (lv' := [(3, .int (nI k)), (0, .ref x), (1, .ref a), (2, .int (nI k))]) hx hb d_AD_rowInOrder_1 rfl hl (by decide) rfl (fun ls hl => ?_)
  refine lv_iconst (v := nI 0) hx hb d_AD_rowInOrder_2 rfl ?_
  refine lv_istore (lv' := [(4, .int (nI 0)), (3, .int (nI k)), (0, .ref x), (1, .ref a), (2, .int (nI k))]) hx hb d_AD_rowInOrder_3 hl (by decide) rfl (fun ls hl => ?_)
  replace hl : lv_has ls 6 [(0, .ref x), (1, .ref a), (2, .int (nI k)), (3, .int (nI k)), (4, .int (nI 0))] := lv_sub hl [2, 3, 4, 1, 0] rfl
  obtain ⟨j, e9j⟩ : ∃ z : Nat, z = 0 := ⟨_, rfl⟩
  obtain ⟨lf, e9lf⟩ : ∃ z : Nat, z = k := ⟨_, rfl⟩
  replace hl : lv_has ls 6 [(0, .ref x), (1, .ref a), (2, .int (nI k)), (3, .int (nI lf)), (4, .int (nI j))] := by subst e9j e9lf; exact hl
  obtain ⟨H, e9H⟩ : ∃ z : Heap, z = s.heap := ⟨_, rfl⟩
  replace hM : hp_H D ccl (hp_A M sz) M H := by rw [e9H]; exact hM
  replace hS : va_S (hp_A M sz) s.heap H [] := by rw [e9H]; exact hS
  rw [← e9H]
  clear e9H
  obtain ⟨locs, e9L⟩ : ∃ z : List Loc, z = [] := ⟨_, rfl⟩
  replace hS : va_S (hp_A M sz) s.heap H locs := by rw [e9L]; exact hS
  rw [← e9L]
  clear e9L
  have hlf : k = lf + (cR Al (rs.take j)).length := by subst e9j e9lf; simp [cR]
  obtain ⟨fu, hn⟩ : ∃ fu : Nat, j + fu = 24 := ⟨24 - j, by omega⟩
  clear e9j e9lf
  induction fu generalizing j lf H locs ls with
  | zero =>
    have hn : j = 24 := by omega
    have htk : rs.take 24 = rs := List.take_of_length_le (by omega)
    rw [hn, htk] at hlf
    refine lv_iload hx hb d_AD_rowInOrder_5 (lv_at hl 4 rfl) ?_
    refine lv_bipush (v := nI 24) hx hb d_AD_rowInOrder_7 rfl ?_
    refine nb_ge (tgt := 42) hx hb d_AD_rowInOrder_9 (by decide) (by omega) (by omega) (fun h1 => ?_) (fun h1 => ?_)
    · refine lv_null hx hb d_AD_rowInOrder_42 ?_
      exact hp_aret (none) rfl S hret (Or.inl ⟨_, rfl⟩) hlk hM hS (⟨rfl, Or.inr ⟨by omega, rfl⟩⟩) d_AD_rowInOrder_43
    · exact absurd hn (by omega)
  | succ fu ih =>
    refine lv_iload hx hb d_AD_rowInOrder_5 (lv_at hl 4 rfl) ?_
    refine lv_bipush (v := nI 24) hx hb d_AD_rowInOrder_7 rfl ?_
    refine nb_ge (tgt := 42) hx hb d_AD_rowInOrder_9 (by decide) (by omega) (by omega) (fun h2 => ?_) (fun h2 => ?_)
    · exact absurd hn (by omega)
    · refine lv_aload_n hx hb d_AD_rowInOrder_12 rfl (lv_at hl 0 rfl) ?_
      refine lv_aload_n hx hb d_AD_rowInOrder_13 rfl (lv_at hl 1 rfl) ?_
      refine lv_iload hx hb d_AD_rowInOrder_14 (lv_at hl 4 rfl) ?_
      refine hp_callq (go_V S hZ hK hM hS hA hz (c_AD_countingRowAt l D ct Z hZ _ _ fz x Al hal a rs hac j (by omega)) mc_AD_countingRowAt mz_AD ml_AD_144 mi_AD_countingRowAt mx_AD_countingRowAt hd_AD_countingRowAt rfl ⟨by decide, by decide⟩ f_x rfl rfl hl.1 rfl (Nat.le_of_ble_eq_true rfl) d_AD_rowInOrder_16 ⟨by decide, by decide⟩) hM hS hA (fun r3 M9 H locs hr3 hM hS => ?_)
      rw [hr3.1] at hM
      replace hr3 := hr3.2
      rcases hr3 with ⟨hlt, hcn, q, e9r, hq⟩ | ⟨hno, e9r⟩
      · subst e9r
        refine lv_astore (lv' := [(5, .ref q), (0, .ref x), (1, .ref a), (2, .int (nI k)), (3, .int (nI lf)), (4, .int (nI j))]) hx hb d_AD_rowInOrder_19 hl (by decide) rfl (fun ls hl => ?_)
        refine lv_aload hx hb d_AD_rowInOrder_21 (lv_at hl 0 rfl) ?_
        refine lv_ifnull hx hb d_AD_rowInOrder_23 ?_
        refine lv_iload_n hx hb d_AD_rowInOrder_26 rfl (lv_at hl 4 rfl) ?_
        refine nz_ne (tgt := 33) hx hb d_AD_rowInOrder_27 (by decide) (by omega) (fun h0 => ?_) (fun h0 => ?_)
        · refine lv_iinc (v := nI (lf - 1)) (lv' := [(3, .int (nI (lf - 1))), (5, .ref q), (0, .ref x), (1, .ref a), (2, .int (nI k)), (4, .int (nI j))]) hx hb d_AD_rowInOrder_33 hl (k := 4) rfl (by rw [show lf = (lf - 1) + 1 by omega]; exact pk_m1 _) (by decide) rfl (fun ls hl => ?_)
          refine lv_iinc (v := nI (j + 1)) (lv' := [(4, .int (nI (j + 1))), (3, .int (nI (lf - 1))), (5, .ref q), (0, .ref x), (1, .ref a), (2, .int (nI k))]) hx hb d_AD_rowInOrder_36 hl (k := 5) rfl (nI_add j 1) (by decide) rfl (fun ls hl => ?_)
          refine lv_goto (tgt := 5) hx hb d_AD_rowInOrder_39 (by decide) ?_
          exact ih (ls := ls) (hl := lv_sub hl [3, 4, 5, 1, 0] rfl) (j := j + 1) (hn := by omega) (lf := lf - 1) (hlf := by rw [cR_1 hlt hcn, List.length_append]; show k = lf - 1 + (_ + 1); omega) (H := H) (locs := locs) (hM := hM) (hS := hS)
        · refine lv_aload hx hb d_AD_rowInOrder_30 (lv_at hl 0 rfl) ?_
          exact hp_aret (some q) rfl S hret (Or.inl ⟨_, rfl⟩) hlk hM hS (⟨rfl, Or.inl (cR_at hlt hcn (by omega) hq)⟩) d_AD_rowInOrder_32
      · subst e9r
        refine lv_astoreN (lv' := [(5, .null), (0, .ref x), (1, .ref a), (2, .int (nI k)), (3, .int (nI lf)), (4, .int (nI j))]) hx hb d_AD_rowInOrder_19 hl (by decide) rfl (fun ls hl => ?_)
        refine lv_aloadN hx hb d_AD_rowInOrder_21 (lv_at hl 0 rfl) ?_
        refine lv_ifnullN (tgt := 36) hx hb d_AD_rowInOrder_23 (by decide) ?_
        refine lv_iinc (v := nI (j + 1)) (lv' := [(4, .int (nI (j + 1))), (5, .null), (0, .ref x), (1, .ref a), (2, .int (nI k)), (3, .int (nI lf))]) hx hb d_AD_rowInOrder_36 hl (k := 5) rfl (nI_add j 1) (by decide) rfl (fun ls hl => ?_)
        refine lv_goto (tgt := 5) hx hb d_AD_rowInOrder_39 (by decide) ?_
        exact ih (ls := ls) (hl := lv_sub hl [2, 3, 4, 5, 0] rfl) (j := j + 1) (hn := by omega) (lf := lf) (hlf := by rw [cR_0 hno]; exact hlf) (H := H) (locs := locs) (hM := hM) (hS := hS)
