/-! ROWS AS THE MODEL KEEPS THEM: kind, length of the key, text, the held digest's words -/
abbrev MR : Type := Nat × Nat × List Nat × (Nat → Int32)
abbrev mr0 : MR := (0, 0, [], fun _ => 0)
def kyR (R : MR) : List Nat := R.2.2.1.take R.2.1
/-- the same row as the other side keeps it -/
def clR (R : MR) : RowT := (R.1, kyR R, bdL R.1 R.2.2.1 (hexL R.2.2.2))
def mrA (V : MS) (r : Nat) (R : MR) : Prop := V.kd r = R.1 ∧ V.ky r = R.2.1 ∧ V.sz r = R.2.2.1.length ∧ (∀ i, i < R.2.2.1.length → V.le (64 * r + i) = R.2.2.1.getD i 0) ∧ (∀ i, i < 8 → V.dg (8 * r + i) = R.2.2.2 i) ∧ R.2.1 ≤ R.2.2.1.length ∧ R.2.2.1.length ≤ 64 ∧ (∀ i, R.2.2.1.getD i 0 < 128) ∧ R.1 ≤ 7 ∧ ((R.1 = 1 ∨ R.1 = 3) → R.2.2.1.length ≤ 40)
def nmA (V : MS) (Al : List (List Nat)) : Prop := V.al = Al.length ∧ Al.length ≤ 8 ∧ ∀ k, k < Al.length → V.ns k = (Al.getD k []).length ∧ (Al.getD k []).length ≤ 16 ∧ ∀ i, i < (Al.getD k []).length → V.nm (16 * k + i) = (Al.getD k []).getD i 0
theorem leq {x y : List Nat} (hl : x.length = y.length) (h : ∀ i, i < x.length → x.getD i 0 = y.getD i 0) : x = y := by
  apply List.ext_getElem? (fun i => ?_)
  rcases Nat.lt_or_ge i x.length with z | z
  · have h9 := h i z
    rw [List.getD_eq_getElem?_getD, List.getD_eq_getElem?_getD, List.getElem?_eq_getElem z, List.getElem?_eq_getElem (by omega)] at h9
    rw [List.getElem?_eq_getElem z, List.getElem?_eq_getElem (by omega)]
    exact congrArg some h9
  · rw [List.getElem?_eq_none z, List.getElem?_eq_none (by omega)]
theorem getD_take {x : List Nat} {n i : Nat} (h : i < n) : (x.take n).getD i 0 = x.getD i 0 := by
  rw [List.getD_eq_getElem?_getD, List.getElem?_take, if_pos h, List.getD_eq_getElem?_getD]
theorem mrA.klen {V : MS} {r : Nat} {R : MR} (h : mrA V r R) : (kyR R).length = R.2.1 := by unfold kyR; rw [List.length_take]; have := h.2.2.2.2.2.1; omega
theorem mrA.kat {V : MS} {r : Nat} {R : MR} (h : mrA V r R) {i : Nat} (hi : i < R.2.1) : (kyR R).getD i 0 = V.le (64 * r + i) := by
  unfold kyR
  rw [getD_take hi]
  exact (h.2.2.2.1 i (Nat.lt_of_lt_of_le hi h.2.2.2.2.2.1)).symm
/-- one row stands before another -/
def befR (i : Nat) (R : MR) (j : Nat) (R2 : MR) : Prop := R.1 < R2.1 ∨ (R.1 = R2.1 ∧ ((R.1 = 0 ∧ i < j) ∨ (R.1 ≠ 0 ∧ cmpK (kyR R) (kyR R2) < 0)))
def sameR (R R2 : MR) : Prop := R.1 = R2.1 ∧ R.2.2.1 = R2.2.2.1 ∧ ((R.1 = 1 ∨ R.1 = 3) → ∀ i, i < 8 → R.2.2.2 i = R2.2.2.2 i)
theorem befR_s {a : Nat} {R R2 : MR} {i j : Nat} : befR (24 * a + i) R (24 * a + j) R2 ↔ befR i R j R2 := by
  unfold befR
  constructor
  · rintro (h | ⟨h, h2 | h2⟩)
    · exact Or.inl h
    · exact Or.inr ⟨h, Or.inl ⟨h2.1, by omega⟩⟩
    · exact Or.inr ⟨h, Or.inr h2⟩
  · rintro (h | ⟨h, h2 | h2⟩)
    · exact Or.inl h
    · exact Or.inr ⟨h, Or.inl ⟨h2.1, by omega⟩⟩
    · exact Or.inr ⟨h, Or.inr h2⟩
theorem d_MD_isAllowed_0 : decode b_MD_isAllowed 0 = .ok (.aload_n 0, 1) := by decide +kernel
theorem d_MD_isAllowed_1 : decode b_MD_isAllowed 1 = .ok (.getfield 94, 3) := by decide +kernel
theorem d_MD_isAllowed_4 : decode b_MD_isAllowed 4 = .ok (.iload_n 1, 1) := by decide +kernel
theorem d_MD_isAllowed_5 : decode b_MD_isAllowed 5 = .ok (.iaload, 1) := by decide +kernel
theorem d_MD_isAllowed_6 : decode b_MD_isAllowed 6 = .ok (.iconst 2, 1) := by decide +kernel
theorem d_MD_isAllowed_7 : decode b_MD_isAllowed 7 = .ok (.if_icmp .eq 7, 3) := by decide +kernel
theorem d_MD_isAllowed_10 : decode b_MD_isAllowed 10 = .ok (.iconst 1, 1) := by decide +kernel
theorem d_MD_isAllowed_11 : decode b_MD_isAllowed 11 = .ok (.goto 4, 3) := by decide +kernel
theorem d_MD_isAllowed_14 : decode b_MD_isAllowed 14 = .ok (.iconst 0, 1) := by decide +kernel
theorem d_MD_isAllowed_15 : decode b_MD_isAllowed 15 = .ok (.istore_n 2, 1) := by decide +kernel
theorem d_MD_isAllowed_16 : decode b_MD_isAllowed 16 = .ok (.iconst 0, 1) := by decide +kernel
theorem d_MD_isAllowed_17 : decode b_MD_isAllowed 17 = .ok (.istore_n 3, 1) := by decide +kernel
theorem d_MD_isAllowed_18 : decode b_MD_isAllowed 18 = .ok (.iload_n 3, 1) := by decide +kernel
theorem d_MD_isAllowed_19 : decode b_MD_isAllowed 19 = .ok (.aload_n 0, 1) := by decide +kernel
theorem d_MD_isAllowed_20 : decode b_MD_isAllowed 20 = .ok (.getfield 183, 3) := by decide +kernel
theorem d_MD_isAllowed_23 : decode b_MD_isAllowed 23 = .ok (.if_icmp .ge 91, 3) := by decide +kernel
theorem d_MD_isAllowed_26 : decode b_MD_isAllowed 26 = .ok (.iload_n 2, 1) := by decide +kernel
theorem d_MD_isAllowed_27 : decode b_MD_isAllowed 27 = .ok (.ifCond .ne 87, 3) := by decide +kernel
theorem d_MD_isAllowed_30 : decode b_MD_isAllowed 30 = .ok (.aload_n 0, 1) := by decide +kernel
theorem d_MD_isAllowed_31 : decode b_MD_isAllowed 31 = .ok (.getfield 112, 3) := by decide +kernel
theorem d_MD_isAllowed_34 : decode b_MD_isAllowed 34 = .ok (.iload_n 3, 1) := by decide +kernel
theorem d_MD_isAllowed_35 : decode b_MD_isAllowed 35 = .ok (.iaload, 1) := by decide +kernel
theorem d_MD_isAllowed_36 : decode b_MD_isAllowed 36 = .ok (.aload_n 0, 1) := by decide +kernel
theorem d_MD_isAllowed_37 : decode b_MD_isAllowed 37 = .ok (.getfield 100, 3) := by decide +kernel
theorem d_MD_isAllowed_40 : decode b_MD_isAllowed 40 = .ok (.iload_n 1, 1) := by decide +kernel
theorem d_MD_isAllowed_41 : decode b_MD_isAllowed 41 = .ok (.iaload, 1) := by decide +kernel
theorem d_MD_isAllowed_42 : decode b_MD_isAllowed 42 = .ok (.if_icmp .ne 7, 3) := by decide +kernel
theorem d_MD_isAllowed_45 : decode b_MD_isAllowed 45 = .ok (.iconst 1, 1) := by decide +kernel
theorem d_MD_isAllowed_46 : decode b_MD_isAllowed 46 = .ok (.goto 4, 3) := by decide +kernel
theorem d_MD_isAllowed_49 : decode b_MD_isAllowed 49 = .ok (.iconst 0, 1) := by decide +kernel
theorem d_MD_isAllowed_50 : decode b_MD_isAllowed 50 = .ok (.istore_n 2, 1) := by decide +kernel
theorem d_MD_isAllowed_51 : decode b_MD_isAllowed 51 = .ok (.iconst 0, 1) := by decide +kernel
theorem d_MD_isAllowed_52 : decode b_MD_isAllowed 52 = .ok (.istore 4, 2) := by decide +kernel
theorem d_MD_isAllowed_54 : decode b_MD_isAllowed 54 = .ok (.iload 4, 2) := by decide +kernel
theorem d_MD_isAllowed_56 : decode b_MD_isAllowed 56 = .ok (.aload_n 0, 1) := by decide +kernel
theorem d_MD_isAllowed_57 : decode b_MD_isAllowed 57 = .ok (.getfield 100, 3) := by decide +kernel
theorem d_MD_isAllowed_60 : decode b_MD_isAllowed 60 = .ok (.iload_n 1, 1) := by decide +kernel
theorem d_MD_isAllowed_61 : decode b_MD_isAllowed 61 = .ok (.iaload, 1) := by decide +kernel
theorem d_MD_isAllowed_62 : decode b_MD_isAllowed 62 = .ok (.if_icmp .ge 46, 3) := by decide +kernel
theorem d_MD_isAllowed_65 : decode b_MD_isAllowed 65 = .ok (.iload_n 2, 1) := by decide +kernel
theorem d_MD_isAllowed_66 : decode b_MD_isAllowed 66 = .ok (.ifCond .eq 42, 3) := by decide +kernel
theorem d_MD_isAllowed_69 : decode b_MD_isAllowed 69 = .ok (.aload_n 0, 1) := by decide +kernel
theorem d_MD_isAllowed_70 : decode b_MD_isAllowed 70 = .ok (.getfield 109, 3) := by decide +kernel
theorem d_MD_isAllowed_73 : decode b_MD_isAllowed 73 = .ok (.bipush 16, 2) := by decide +kernel
theorem d_MD_isAllowed_75 : decode b_MD_isAllowed 75 = .ok (.iload_n 3, 1) := by decide +kernel
theorem d_MD_isAllowed_76 : decode b_MD_isAllowed 76 = .ok (.imul, 1) := by decide +kernel
theorem d_MD_isAllowed_77 : decode b_MD_isAllowed 77 = .ok (.iload 4, 2) := by decide +kernel
theorem d_MD_isAllowed_79 : decode b_MD_isAllowed 79 = .ok (.iadd, 1) := by decide +kernel
theorem d_MD_isAllowed_80 : decode b_MD_isAllowed 80 = .ok (.iaload, 1) := by decide +kernel
theorem d_MD_isAllowed_81 : decode b_MD_isAllowed 81 = .ok (.aload_n 0, 1) := by decide +kernel
theorem d_MD_isAllowed_82 : decode b_MD_isAllowed 82 = .ok (.getfield 103, 3) := by decide +kernel
theorem d_MD_isAllowed_85 : decode b_MD_isAllowed 85 = .ok (.bipush 64, 2) := by decide +kernel
theorem d_MD_isAllowed_87 : decode b_MD_isAllowed 87 = .ok (.iload_n 1, 1) := by decide +kernel
theorem d_MD_isAllowed_88 : decode b_MD_isAllowed 88 = .ok (.imul, 1) := by decide +kernel
theorem d_MD_isAllowed_89 : decode b_MD_isAllowed 89 = .ok (.iload 4, 2) := by decide +kernel
theorem d_MD_isAllowed_91 : decode b_MD_isAllowed 91 = .ok (.iadd, 1) := by decide +kernel
theorem d_MD_isAllowed_92 : decode b_MD_isAllowed 92 = .ok (.iaload, 1) := by decide +kernel
theorem d_MD_isAllowed_93 : decode b_MD_isAllowed 93 = .ok (.if_icmp .ne 7, 3) := by decide +kernel
theorem d_MD_isAllowed_96 : decode b_MD_isAllowed 96 = .ok (.iconst 1, 1) := by decide +kernel
theorem d_MD_isAllowed_97 : decode b_MD_isAllowed 97 = .ok (.goto 4, 3) := by decide +kernel
theorem d_MD_isAllowed_100 : decode b_MD_isAllowed 100 = .ok (.iconst 0, 1) := by decide +kernel
theorem d_MD_isAllowed_101 : decode b_MD_isAllowed 101 = .ok (.istore_n 2, 1) := by decide +kernel
theorem d_MD_isAllowed_102 : decode b_MD_isAllowed 102 = .ok (.iinc 4 1, 3) := by decide +kernel
theorem d_MD_isAllowed_105 : decode b_MD_isAllowed 105 = .ok (.goto (-51), 3) := by decide +kernel
theorem d_MD_isAllowed_108 : decode b_MD_isAllowed 108 = .ok (.iinc 3 1, 3) := by decide +kernel
theorem d_MD_isAllowed_111 : decode b_MD_isAllowed 111 = .ok (.goto (-93), 3) := by decide +kernel
theorem d_MD_isAllowed_114 : decode b_MD_isAllowed 114 = .ok (.iload_n 2, 1) := by decide +kernel
theorem d_MD_isAllowed_115 : decode b_MD_isAllowed 115 = .ok (.ireturn, 1) := by decide +kernel
theorem d_MD_isBefore_0 : decode b_MD_isBefore 0 = .ok (.aload_n 0, 1) := by decide +kernel
theorem d_MD_isBefore_1 : decode b_MD_isBefore 1 = .ok (.getfield 94, 3) := by decide +kernel
theorem d_MD_isBefore_4 : decode b_MD_isBefore 4 = .ok (.iload_n 1, 1) := by decide +kernel
theorem d_MD_isBefore_5 : decode b_MD_isBefore 5 = .ok (.iaload, 1) := by decide +kernel
theorem d_MD_isBefore_6 : decode b_MD_isBefore 6 = .ok (.aload_n 0, 1) := by decide +kernel
theorem d_MD_isBefore_7 : decode b_MD_isBefore 7 = .ok (.getfield 94, 3) := by decide +kernel
theorem d_MD_isBefore_10 : decode b_MD_isBefore 10 = .ok (.iload_n 2, 1) := by decide +kernel
theorem d_MD_isBefore_11 : decode b_MD_isBefore 11 = .ok (.iaload, 1) := by decide +kernel
theorem d_MD_isBefore_12 : decode b_MD_isBefore 12 = .ok (.if_icmp .eq 24, 3) := by decide +kernel
theorem d_MD_isBefore_15 : decode b_MD_isBefore 15 = .ok (.aload_n 0, 1) := by decide +kernel
theorem d_MD_isBefore_16 : decode b_MD_isBefore 16 = .ok (.getfield 94, 3) := by decide +kernel
theorem d_MD_isBefore_19 : decode b_MD_isBefore 19 = .ok (.iload_n 1, 1) := by decide +kernel
theorem d_MD_isBefore_20 : decode b_MD_isBefore 20 = .ok (.iaload, 1) := by decide +kernel
theorem d_MD_isBefore_21 : decode b_MD_isBefore 21 = .ok (.aload_n 0, 1) := by decide +kernel
theorem d_MD_isBefore_22 : decode b_MD_isBefore 22 = .ok (.getfield 94, 3) := by decide +kernel
theorem d_MD_isBefore_25 : decode b_MD_isBefore 25 = .ok (.iload_n 2, 1) := by decide +kernel
theorem d_MD_isBefore_26 : decode b_MD_isBefore 26 = .ok (.iaload, 1) := by decide +kernel
theorem d_MD_isBefore_27 : decode b_MD_isBefore 27 = .ok (.if_icmp .ge 7, 3) := by decide +kernel
theorem d_MD_isBefore_30 : decode b_MD_isBefore 30 = .ok (.iconst 1, 1) := by decide +kernel
theorem d_MD_isBefore_31 : decode b_MD_isBefore 31 = .ok (.goto 4, 3) := by decide +kernel
theorem d_MD_isBefore_34 : decode b_MD_isBefore 34 = .ok (.iconst 0, 1) := by decide +kernel
theorem d_MD_isBefore_35 : decode b_MD_isBefore 35 = .ok (.ireturn, 1) := by decide +kernel
theorem d_MD_isBefore_36 : decode b_MD_isBefore 36 = .ok (.aload_n 0, 1) := by decide +kernel
theorem d_MD_isBefore_37 : decode b_MD_isBefore 37 = .ok (.getfield 94, 3) := by decide +kernel
theorem d_MD_isBefore_40 : decode b_MD_isBefore 40 = .ok (.iload_n 1, 1) := by decide +kernel
theorem d_MD_isBefore_41 : decode b_MD_isBefore 41 = .ok (.iaload, 1) := by decide +kernel
theorem d_MD_isBefore_42 : decode b_MD_isBefore 42 = .ok (.ifCond .ne 14, 3) := by decide +kernel
theorem d_MD_isBefore_45 : decode b_MD_isBefore 45 = .ok (.iload_n 1, 1) := by decide +kernel
theorem d_MD_isBefore_46 : decode b_MD_isBefore 46 = .ok (.iload_n 2, 1) := by decide +kernel
theorem d_MD_isBefore_47 : decode b_MD_isBefore 47 = .ok (.if_icmp .ge 7, 3) := by decide +kernel
theorem d_MD_isBefore_50 : decode b_MD_isBefore 50 = .ok (.iconst 1, 1) := by decide +kernel
theorem d_MD_isBefore_51 : decode b_MD_isBefore 51 = .ok (.goto 4, 3) := by decide +kernel
theorem d_MD_isBefore_54 : decode b_MD_isBefore 54 = .ok (.iconst 0, 1) := by decide +kernel
theorem d_MD_isBefore_55 : decode b_MD_isBefore 55 = .ok (.ireturn, 1) := by decide +kernel
theorem d_MD_isBefore_56 : decode b_MD_isBefore 56 = .ok (.iconst 0, 1) := by decide +kernel
theorem d_MD_isBefore_57 : decode b_MD_isBefore 57 = .ok (.istore_n 3, 1) := by decide +kernel
theorem d_MD_isBefore_58 : decode b_MD_isBefore 58 = .ok (.iload_n 3, 1) := by decide +kernel
theorem d_MD_isBefore_59 : decode b_MD_isBefore 59 = .ok (.aload_n 0, 1) := by decide +kernel
theorem d_MD_isBefore_60 : decode b_MD_isBefore 60 = .ok (.getfield 100, 3) := by decide +kernel
theorem d_MD_isBefore_63 : decode b_MD_isBefore 63 = .ok (.iload_n 1, 1) := by decide +kernel
theorem d_MD_isBefore_64 : decode b_MD_isBefore 64 = .ok (.iaload, 1) := by decide +kernel
theorem d_MD_isBefore_65 : decode b_MD_isBefore 65 = .ok (.if_icmp .ge 75, 3) := by decide +kernel
theorem d_MD_isBefore_68 : decode b_MD_isBefore 68 = .ok (.iload_n 3, 1) := by decide +kernel
theorem d_MD_isBefore_69 : decode b_MD_isBefore 69 = .ok (.aload_n 0, 1) := by decide +kernel
theorem d_MD_isBefore_70 : decode b_MD_isBefore 70 = .ok (.getfield 100, 3) := by decide +kernel
theorem d_MD_isBefore_73 : decode b_MD_isBefore 73 = .ok (.iload_n 2, 1) := by decide +kernel
theorem d_MD_isBefore_74 : decode b_MD_isBefore 74 = .ok (.iaload, 1) := by decide +kernel
theorem d_MD_isBefore_75 : decode b_MD_isBefore 75 = .ok (.if_icmp .ge 65, 3) := by decide +kernel
theorem d_MD_isBefore_78 : decode b_MD_isBefore 78 = .ok (.aload_n 0, 1) := by decide +kernel
theorem d_MD_isBefore_79 : decode b_MD_isBefore 79 = .ok (.getfield 103, 3) := by decide +kernel
theorem d_MD_isBefore_82 : decode b_MD_isBefore 82 = .ok (.bipush 64, 2) := by decide +kernel
theorem d_MD_isBefore_84 : decode b_MD_isBefore 84 = .ok (.iload_n 1, 1) := by decide +kernel
theorem d_MD_isBefore_85 : decode b_MD_isBefore 85 = .ok (.imul, 1) := by decide +kernel
theorem d_MD_isBefore_86 : decode b_MD_isBefore 86 = .ok (.iload_n 3, 1) := by decide +kernel
theorem d_MD_isBefore_87 : decode b_MD_isBefore 87 = .ok (.iadd, 1) := by decide +kernel
theorem d_MD_isBefore_88 : decode b_MD_isBefore 88 = .ok (.iaload, 1) := by decide +kernel
theorem d_MD_isBefore_89 : decode b_MD_isBefore 89 = .ok (.aload_n 0, 1) := by decide +kernel
theorem d_MD_isBefore_90 : decode b_MD_isBefore 90 = .ok (.getfield 103, 3) := by decide +kernel
theorem d_MD_isBefore_93 : decode b_MD_isBefore 93 = .ok (.bipush 64, 2) := by decide +kernel
theorem d_MD_isBefore_95 : decode b_MD_isBefore 95 = .ok (.iload_n 2, 1) := by decide +kernel
theorem d_MD_isBefore_96 : decode b_MD_isBefore 96 = .ok (.imul, 1) := by decide +kernel
theorem d_MD_isBefore_97 : decode b_MD_isBefore 97 = .ok (.iload_n 3, 1) := by decide +kernel
theorem d_MD_isBefore_98 : decode b_MD_isBefore 98 = .ok (.iadd, 1) := by decide +kernel
theorem d_MD_isBefore_99 : decode b_MD_isBefore 99 = .ok (.iaload, 1) := by decide +kernel
theorem d_MD_isBefore_100 : decode b_MD_isBefore 100 = .ok (.if_icmp .eq 34, 3) := by decide +kernel
theorem d_MD_isBefore_103 : decode b_MD_isBefore 103 = .ok (.aload_n 0, 1) := by decide +kernel
theorem d_MD_isBefore_104 : decode b_MD_isBefore 104 = .ok (.getfield 103, 3) := by decide +kernel
theorem d_MD_isBefore_107 : decode b_MD_isBefore 107 = .ok (.bipush 64, 2) := by decide +kernel
theorem d_MD_isBefore_109 : decode b_MD_isBefore 109 = .ok (.iload_n 1, 1) := by decide +kernel
theorem d_MD_isBefore_110 : decode b_MD_isBefore 110 = .ok (.imul, 1) := by decide +kernel
theorem d_MD_isBefore_111 : decode b_MD_isBefore 111 = .ok (.iload_n 3, 1) := by decide +kernel
theorem d_MD_isBefore_112 : decode b_MD_isBefore 112 = .ok (.iadd, 1) := by decide +kernel
theorem d_MD_isBefore_113 : decode b_MD_isBefore 113 = .ok (.iaload, 1) := by decide +kernel
theorem d_MD_isBefore_114 : decode b_MD_isBefore 114 = .ok (.aload_n 0, 1) := by decide +kernel
theorem d_MD_isBefore_115 : decode b_MD_isBefore 115 = .ok (.getfield 103, 3) := by decide +kernel
theorem d_MD_isBefore_118 : decode b_MD_isBefore 118 = .ok (.bipush 64, 2) := by decide +kernel
theorem d_MD_isBefore_120 : decode b_MD_isBefore 120 = .ok (.iload_n 2, 1) := by decide +kernel
theorem d_MD_isBefore_121 : decode b_MD_isBefore 121 = .ok (.imul, 1) := by decide +kernel
theorem d_MD_isBefore_122 : decode b_MD_isBefore 122 = .ok (.iload_n 3, 1) := by decide +kernel
theorem d_MD_isBefore_123 : decode b_MD_isBefore 123 = .ok (.iadd, 1) := by decide +kernel
theorem d_MD_isBefore_124 : decode b_MD_isBefore 124 = .ok (.iaload, 1) := by decide +kernel
theorem d_MD_isBefore_125 : decode b_MD_isBefore 125 = .ok (.if_icmp .ge 7, 3) := by decide +kernel
theorem d_MD_isBefore_128 : decode b_MD_isBefore 128 = .ok (.iconst 1, 1) := by decide +kernel
theorem d_MD_isBefore_129 : decode b_MD_isBefore 129 = .ok (.goto 4, 3) := by decide +kernel
theorem d_MD_isBefore_132 : decode b_MD_isBefore 132 = .ok (.iconst 0, 1) := by decide +kernel
theorem d_MD_isBefore_133 : decode b_MD_isBefore 133 = .ok (.ireturn, 1) := by decide +kernel
theorem d_MD_isBefore_134 : decode b_MD_isBefore 134 = .ok (.iinc 3 1, 3) := by decide +kernel
theorem d_MD_isBefore_137 : decode b_MD_isBefore 137 = .ok (.goto (-79), 3) := by decide +kernel
theorem d_MD_isBefore_140 : decode b_MD_isBefore 140 = .ok (.aload_n 0, 1) := by decide +kernel
theorem d_MD_isBefore_141 : decode b_MD_isBefore 141 = .ok (.getfield 100, 3) := by decide +kernel
theorem d_MD_isBefore_144 : decode b_MD_isBefore 144 = .ok (.iload_n 1, 1) := by decide +kernel
theorem d_MD_isBefore_145 : decode b_MD_isBefore 145 = .ok (.iaload, 1) := by decide +kernel
theorem d_MD_isBefore_146 : decode b_MD_isBefore 146 = .ok (.aload_n 0, 1) := by decide +kernel
theorem d_MD_isBefore_147 : decode b_MD_isBefore 147 = .ok (.getfield 100, 3) := by decide +kernel
theorem d_MD_isBefore_150 : decode b_MD_isBefore 150 = .ok (.iload_n 2, 1) := by decide +kernel
theorem d_MD_isBefore_151 : decode b_MD_isBefore 151 = .ok (.iaload, 1) := by decide +kernel
theorem d_MD_isBefore_152 : decode b_MD_isBefore 152 = .ok (.if_icmp .ge 7, 3) := by decide +kernel
theorem d_MD_isBefore_155 : decode b_MD_isBefore 155 = .ok (.iconst 1, 1) := by decide +kernel
theorem d_MD_isBefore_156 : decode b_MD_isBefore 156 = .ok (.goto 4, 3) := by decide +kernel
theorem d_MD_isBefore_159 : decode b_MD_isBefore 159 = .ok (.iconst 0, 1) := by decide +kernel
theorem d_MD_isBefore_160 : decode b_MD_isBefore 160 = .ok (.ireturn, 1) := by decide +kernel
theorem d_MD_same_0 : decode b_MD_same 0 = .ok (.aload_n 0, 1) := by decide +kernel
theorem d_MD_same_1 : decode b_MD_same 1 = .ok (.getfield 94, 3) := by decide +kernel
theorem d_MD_same_4 : decode b_MD_same 4 = .ok (.iload_n 1, 1) := by decide +kernel
theorem d_MD_same_5 : decode b_MD_same 5 = .ok (.iaload, 1) := by decide +kernel
theorem d_MD_same_6 : decode b_MD_same 6 = .ok (.aload_n 0, 1) := by decide +kernel
theorem d_MD_same_7 : decode b_MD_same 7 = .ok (.getfield 94, 3) := by decide +kernel
theorem d_MD_same_10 : decode b_MD_same 10 = .ok (.iload_n 2, 1) := by decide +kernel
theorem d_MD_same_11 : decode b_MD_same 11 = .ok (.iaload, 1) := by decide +kernel
theorem d_MD_same_12 : decode b_MD_same 12 = .ok (.if_icmp .ne 22, 3) := by decide +kernel
theorem d_MD_same_15 : decode b_MD_same 15 = .ok (.aload_n 0, 1) := by decide +kernel
theorem d_MD_same_16 : decode b_MD_same 16 = .ok (.getfield 97, 3) := by decide +kernel
theorem d_MD_same_19 : decode b_MD_same 19 = .ok (.iload_n 1, 1) := by decide +kernel
theorem d_MD_same_20 : decode b_MD_same 20 = .ok (.iaload, 1) := by decide +kernel
theorem d_MD_same_21 : decode b_MD_same 21 = .ok (.aload_n 0, 1) := by decide +kernel
theorem d_MD_same_22 : decode b_MD_same 22 = .ok (.getfield 97, 3) := by decide +kernel
theorem d_MD_same_25 : decode b_MD_same 25 = .ok (.iload_n 2, 1) := by decide +kernel
theorem d_MD_same_26 : decode b_MD_same 26 = .ok (.iaload, 1) := by decide +kernel
theorem d_MD_same_27 : decode b_MD_same 27 = .ok (.if_icmp .ne 7, 3) := by decide +kernel
theorem d_MD_same_30 : decode b_MD_same 30 = .ok (.iconst 1, 1) := by decide +kernel
theorem d_MD_same_31 : decode b_MD_same 31 = .ok (.goto 4, 3) := by decide +kernel
theorem d_MD_same_34 : decode b_MD_same 34 = .ok (.iconst 0, 1) := by decide +kernel
theorem d_MD_same_35 : decode b_MD_same 35 = .ok (.istore_n 3, 1) := by decide +kernel
theorem d_MD_same_36 : decode b_MD_same 36 = .ok (.iconst 0, 1) := by decide +kernel
theorem d_MD_same_37 : decode b_MD_same 37 = .ok (.istore 4, 2) := by decide +kernel
theorem d_MD_same_39 : decode b_MD_same 39 = .ok (.iload 4, 2) := by decide +kernel
theorem d_MD_same_41 : decode b_MD_same 41 = .ok (.aload_n 0, 1) := by decide +kernel
theorem d_MD_same_42 : decode b_MD_same 42 = .ok (.getfield 97, 3) := by decide +kernel
theorem d_MD_same_45 : decode b_MD_same 45 = .ok (.iload_n 1, 1) := by decide +kernel
theorem d_MD_same_46 : decode b_MD_same 46 = .ok (.iaload, 1) := by decide +kernel
theorem d_MD_same_47 : decode b_MD_same 47 = .ok (.if_icmp .ge 46, 3) := by decide +kernel
theorem d_MD_same_50 : decode b_MD_same 50 = .ok (.iload_n 3, 1) := by decide +kernel
theorem d_MD_same_51 : decode b_MD_same 51 = .ok (.ifCond .eq 42, 3) := by decide +kernel
theorem d_MD_same_54 : decode b_MD_same 54 = .ok (.aload_n 0, 1) := by decide +kernel
theorem d_MD_same_55 : decode b_MD_same 55 = .ok (.getfield 103, 3) := by decide +kernel
theorem d_MD_same_58 : decode b_MD_same 58 = .ok (.bipush 64, 2) := by decide +kernel
theorem d_MD_same_60 : decode b_MD_same 60 = .ok (.iload_n 1, 1) := by decide +kernel
theorem d_MD_same_61 : decode b_MD_same 61 = .ok (.imul, 1) := by decide +kernel
theorem d_MD_same_62 : decode b_MD_same 62 = .ok (.iload 4, 2) := by decide +kernel
theorem d_MD_same_64 : decode b_MD_same 64 = .ok (.iadd, 1) := by decide +kernel
theorem d_MD_same_65 : decode b_MD_same 65 = .ok (.iaload, 1) := by decide +kernel
theorem d_MD_same_66 : decode b_MD_same 66 = .ok (.aload_n 0, 1) := by decide +kernel
theorem d_MD_same_67 : decode b_MD_same 67 = .ok (.getfield 103, 3) := by decide +kernel
theorem d_MD_same_70 : decode b_MD_same 70 = .ok (.bipush 64, 2) := by decide +kernel
theorem d_MD_same_72 : decode b_MD_same 72 = .ok (.iload_n 2, 1) := by decide +kernel
theorem d_MD_same_73 : decode b_MD_same 73 = .ok (.imul, 1) := by decide +kernel
theorem d_MD_same_74 : decode b_MD_same 74 = .ok (.iload 4, 2) := by decide +kernel
theorem d_MD_same_76 : decode b_MD_same 76 = .ok (.iadd, 1) := by decide +kernel
theorem d_MD_same_77 : decode b_MD_same 77 = .ok (.iaload, 1) := by decide +kernel
theorem d_MD_same_78 : decode b_MD_same 78 = .ok (.if_icmp .ne 7, 3) := by decide +kernel
theorem d_MD_same_81 : decode b_MD_same 81 = .ok (.iconst 1, 1) := by decide +kernel
theorem d_MD_same_82 : decode b_MD_same 82 = .ok (.goto 4, 3) := by decide +kernel
theorem d_MD_same_85 : decode b_MD_same 85 = .ok (.iconst 0, 1) := by decide +kernel
theorem d_MD_same_86 : decode b_MD_same 86 = .ok (.istore_n 3, 1) := by decide +kernel
theorem d_MD_same_87 : decode b_MD_same 87 = .ok (.iinc 4 1, 3) := by decide +kernel
theorem d_MD_same_90 : decode b_MD_same 90 = .ok (.goto (-51), 3) := by decide +kernel
theorem d_MD_same_93 : decode b_MD_same 93 = .ok (.iconst 0, 1) := by decide +kernel
theorem d_MD_same_94 : decode b_MD_same 94 = .ok (.istore 4, 2) := by decide +kernel
theorem d_MD_same_96 : decode b_MD_same 96 = .ok (.iload 4, 2) := by decide +kernel
theorem d_MD_same_98 : decode b_MD_same 98 = .ok (.bipush 8, 2) := by decide +kernel
theorem d_MD_same_100 : decode b_MD_same 100 = .ok (.if_icmp .ge 66, 3) := by decide +kernel
theorem d_MD_same_103 : decode b_MD_same 103 = .ok (.iload_n 3, 1) := by decide +kernel
theorem d_MD_same_104 : decode b_MD_same 104 = .ok (.ifCond .eq 62, 3) := by decide +kernel
theorem d_MD_same_107 : decode b_MD_same 107 = .ok (.aload_n 0, 1) := by decide +kernel
theorem d_MD_same_108 : decode b_MD_same 108 = .ok (.getfield 94, 3) := by decide +kernel
theorem d_MD_same_111 : decode b_MD_same 111 = .ok (.iload_n 1, 1) := by decide +kernel
theorem d_MD_same_112 : decode b_MD_same 112 = .ok (.iaload, 1) := by decide +kernel
theorem d_MD_same_113 : decode b_MD_same 113 = .ok (.iconst 1, 1) := by decide +kernel
theorem d_MD_same_114 : decode b_MD_same 114 = .ok (.if_icmp .eq 13, 3) := by decide +kernel
theorem d_MD_same_117 : decode b_MD_same 117 = .ok (.aload_n 0, 1) := by decide +kernel
theorem d_MD_same_118 : decode b_MD_same 118 = .ok (.getfield 94, 3) := by decide +kernel
theorem d_MD_same_121 : decode b_MD_same 121 = .ok (.iload_n 1, 1) := by decide +kernel
theorem d_MD_same_122 : decode b_MD_same 122 = .ok (.iaload, 1) := by decide +kernel
theorem d_MD_same_123 : decode b_MD_same 123 = .ok (.iconst 3, 1) := by decide +kernel
theorem d_MD_same_124 : decode b_MD_same 124 = .ok (.if_icmp .ne 42, 3) := by decide +kernel
theorem d_MD_same_127 : decode b_MD_same 127 = .ok (.aload_n 0, 1) := by decide +kernel
theorem d_MD_same_128 : decode b_MD_same 128 = .ok (.getfield 106, 3) := by decide +kernel
theorem d_MD_same_131 : decode b_MD_same 131 = .ok (.bipush 8, 2) := by decide +kernel
theorem d_MD_same_133 : decode b_MD_same 133 = .ok (.iload_n 1, 1) := by decide +kernel
theorem d_MD_same_134 : decode b_MD_same 134 = .ok (.imul, 1) := by decide +kernel
theorem d_MD_same_135 : decode b_MD_same 135 = .ok (.iload 4, 2) := by decide +kernel
theorem d_MD_same_137 : decode b_MD_same 137 = .ok (.iadd, 1) := by decide +kernel
theorem d_MD_same_138 : decode b_MD_same 138 = .ok (.iaload, 1) := by decide +kernel
theorem d_MD_same_139 : decode b_MD_same 139 = .ok (.aload_n 0, 1) := by decide +kernel
theorem d_MD_same_140 : decode b_MD_same 140 = .ok (.getfield 106, 3) := by decide +kernel
theorem d_MD_same_143 : decode b_MD_same 143 = .ok (.bipush 8, 2) := by decide +kernel
theorem d_MD_same_145 : decode b_MD_same 145 = .ok (.iload_n 2, 1) := by decide +kernel
theorem d_MD_same_146 : decode b_MD_same 146 = .ok (.imul, 1) := by decide +kernel
theorem d_MD_same_147 : decode b_MD_same 147 = .ok (.iload 4, 2) := by decide +kernel
theorem d_MD_same_149 : decode b_MD_same 149 = .ok (.iadd, 1) := by decide +kernel
theorem d_MD_same_150 : decode b_MD_same 150 = .ok (.iaload, 1) := by decide +kernel
theorem d_MD_same_151 : decode b_MD_same 151 = .ok (.if_icmp .ne 7, 3) := by decide +kernel
theorem d_MD_same_154 : decode b_MD_same 154 = .ok (.iconst 1, 1) := by decide +kernel
theorem d_MD_same_155 : decode b_MD_same 155 = .ok (.goto 4, 3) := by decide +kernel
theorem d_MD_same_158 : decode b_MD_same 158 = .ok (.iconst 0, 1) := by decide +kernel
theorem d_MD_same_159 : decode b_MD_same 159 = .ok (.istore_n 3, 1) := by decide +kernel
theorem d_MD_same_160 : decode b_MD_same 160 = .ok (.iinc 4 1, 3) := by decide +kernel
theorem d_MD_same_163 : decode b_MD_same 163 = .ok (.goto (-67), 3) := by decide +kernel
theorem d_MD_same_166 : decode b_MD_same 166 = .ok (.iload_n 3, 1) := by decide +kernel
theorem d_MD_same_167 : decode b_MD_same 167 = .ok (.ireturn, 1) := by decide +kernel
theorem d_MD_hasKey_0 : decode b_MD_hasKey 0 = .ok (.iconst 0, 1) := by decide +kernel
theorem d_MD_hasKey_1 : decode b_MD_hasKey 1 = .ok (.istore 4, 2) := by decide +kernel
theorem d_MD_hasKey_3 : decode b_MD_hasKey 3 = .ok (.iconst 0, 1) := by decide +kernel
theorem d_MD_hasKey_4 : decode b_MD_hasKey 4 = .ok (.istore 5, 2) := by decide +kernel
theorem d_MD_hasKey_6 : decode b_MD_hasKey 6 = .ok (.iload 5, 2) := by decide +kernel
theorem d_MD_hasKey_8 : decode b_MD_hasKey 8 = .ok (.aload_n 0, 1) := by decide +kernel
theorem d_MD_hasKey_9 : decode b_MD_hasKey 9 = .ok (.getfield 91, 3) := by decide +kernel
theorem d_MD_hasKey_12 : decode b_MD_hasKey 12 = .ok (.iload_n 1, 1) := by decide +kernel
theorem d_MD_hasKey_13 : decode b_MD_hasKey 13 = .ok (.iaload, 1) := by decide +kernel
theorem d_MD_hasKey_14 : decode b_MD_hasKey 14 = .ok (.if_icmp .ge 114, 3) := by decide +kernel
theorem d_MD_hasKey_17 : decode b_MD_hasKey 17 = .ok (.aload_n 0, 1) := by decide +kernel
theorem d_MD_hasKey_18 : decode b_MD_hasKey 18 = .ok (.iload_n 1, 1) := by decide +kernel
theorem d_MD_hasKey_19 : decode b_MD_hasKey 19 = .ok (.iload 5, 2) := by decide +kernel
theorem d_MD_hasKey_21 : decode b_MD_hasKey 21 = .ok (.invokevirtual 160, 3) := by decide +kernel
theorem d_MD_hasKey_24 : decode b_MD_hasKey 24 = .ok (.istore 6, 2) := by decide +kernel
theorem d_MD_hasKey_26 : decode b_MD_hasKey 26 = .ok (.aload_n 0, 1) := by decide +kernel
theorem d_MD_hasKey_27 : decode b_MD_hasKey 27 = .ok (.getfield 94, 3) := by decide +kernel
theorem d_MD_hasKey_30 : decode b_MD_hasKey 30 = .ok (.iload 6, 2) := by decide +kernel
theorem d_MD_hasKey_32 : decode b_MD_hasKey 32 = .ok (.iaload, 1) := by decide +kernel
theorem d_MD_hasKey_33 : decode b_MD_hasKey 33 = .ok (.iload_n 2, 1) := by decide +kernel
theorem d_MD_hasKey_34 : decode b_MD_hasKey 34 = .ok (.if_icmp .ne 18, 3) := by decide +kernel
theorem d_MD_hasKey_37 : decode b_MD_hasKey 37 = .ok (.aload_n 0, 1) := by decide +kernel
theorem d_MD_hasKey_38 : decode b_MD_hasKey 38 = .ok (.getfield 100, 3) := by decide +kernel
theorem d_MD_hasKey_41 : decode b_MD_hasKey 41 = .ok (.iload 6, 2) := by decide +kernel
theorem d_MD_hasKey_43 : decode b_MD_hasKey 43 = .ok (.iaload, 1) := by decide +kernel
theorem d_MD_hasKey_44 : decode b_MD_hasKey 44 = .ok (.iload_n 3, 1) := by decide +kernel
theorem d_MD_hasKey_45 : decode b_MD_hasKey 45 = .ok (.if_icmp .ne 7, 3) := by decide +kernel
theorem d_MD_hasKey_48 : decode b_MD_hasKey 48 = .ok (.iconst 1, 1) := by decide +kernel
theorem d_MD_hasKey_49 : decode b_MD_hasKey 49 = .ok (.goto 4, 3) := by decide +kernel
theorem d_MD_hasKey_52 : decode b_MD_hasKey 52 = .ok (.iconst 0, 1) := by decide +kernel
theorem d_MD_hasKey_53 : decode b_MD_hasKey 53 = .ok (.istore 7, 2) := by decide +kernel
theorem d_MD_hasKey_55 : decode b_MD_hasKey 55 = .ok (.iconst 0, 1) := by decide +kernel
theorem d_MD_hasKey_56 : decode b_MD_hasKey 56 = .ok (.istore 8, 2) := by decide +kernel
theorem d_MD_hasKey_58 : decode b_MD_hasKey 58 = .ok (.iload 8, 2) := by decide +kernel
theorem d_MD_hasKey_60 : decode b_MD_hasKey 60 = .ok (.iload_n 3, 1) := by decide +kernel
theorem d_MD_hasKey_61 : decode b_MD_hasKey 61 = .ok (.if_icmp .ge 44, 3) := by decide +kernel
theorem d_MD_hasKey_64 : decode b_MD_hasKey 64 = .ok (.iload 7, 2) := by decide +kernel
theorem d_MD_hasKey_66 : decode b_MD_hasKey 66 = .ok (.ifCond .eq 39, 3) := by decide +kernel
theorem d_MD_hasKey_69 : decode b_MD_hasKey 69 = .ok (.aload_n 0, 1) := by decide +kernel
theorem d_MD_hasKey_70 : decode b_MD_hasKey 70 = .ok (.getfield 103, 3) := by decide +kernel
theorem d_MD_hasKey_73 : decode b_MD_hasKey 73 = .ok (.bipush 64, 2) := by decide +kernel
theorem d_MD_hasKey_75 : decode b_MD_hasKey 75 = .ok (.iload 6, 2) := by decide +kernel
theorem d_MD_hasKey_77 : decode b_MD_hasKey 77 = .ok (.imul, 1) := by decide +kernel
theorem d_MD_hasKey_78 : decode b_MD_hasKey 78 = .ok (.iload 8, 2) := by decide +kernel
theorem d_MD_hasKey_80 : decode b_MD_hasKey 80 = .ok (.iadd, 1) := by decide +kernel
theorem d_MD_hasKey_81 : decode b_MD_hasKey 81 = .ok (.iaload, 1) := by decide +kernel
theorem d_MD_hasKey_82 : decode b_MD_hasKey 82 = .ok (.aload_n 0, 1) := by decide +kernel
theorem d_MD_hasKey_83 : decode b_MD_hasKey 83 = .ok (.getfield 85, 3) := by decide +kernel
theorem d_MD_hasKey_86 : decode b_MD_hasKey 86 = .ok (.iload 8, 2) := by decide +kernel
theorem d_MD_hasKey_88 : decode b_MD_hasKey 88 = .ok (.iaload, 1) := by decide +kernel
theorem d_MD_hasKey_89 : decode b_MD_hasKey 89 = .ok (.if_icmp .ne 7, 3) := by decide +kernel
theorem d_MD_hasKey_92 : decode b_MD_hasKey 92 = .ok (.iconst 1, 1) := by decide +kernel
theorem d_MD_hasKey_93 : decode b_MD_hasKey 93 = .ok (.goto 4, 3) := by decide +kernel
theorem d_MD_hasKey_96 : decode b_MD_hasKey 96 = .ok (.iconst 0, 1) := by decide +kernel
theorem d_MD_hasKey_97 : decode b_MD_hasKey 97 = .ok (.istore 7, 2) := by decide +kernel
theorem d_MD_hasKey_99 : decode b_MD_hasKey 99 = .ok (.iinc 8 1, 3) := by decide +kernel
theorem d_MD_hasKey_102 : decode b_MD_hasKey 102 = .ok (.goto (-44), 3) := by decide +kernel
theorem d_MD_hasKey_105 : decode b_MD_hasKey 105 = .ok (.iload 4, 2) := by decide +kernel
theorem d_MD_hasKey_107 : decode b_MD_hasKey 107 = .ok (.ifCond .ne 8, 3) := by decide +kernel
theorem d_MD_hasKey_110 : decode b_MD_hasKey 110 = .ok (.iload 7, 2) := by decide +kernel
theorem d_MD_hasKey_112 : decode b_MD_hasKey 112 = .ok (.ifCond .eq 7, 3) := by decide +kernel
theorem d_MD_hasKey_115 : decode b_MD_hasKey 115 = .ok (.iconst 1, 1) := by decide +kernel
theorem d_MD_hasKey_116 : decode b_MD_hasKey 116 = .ok (.goto 4, 3) := by decide +kernel
theorem d_MD_hasKey_119 : decode b_MD_hasKey 119 = .ok (.iconst 0, 1) := by decide +kernel
theorem d_MD_hasKey_120 : decode b_MD_hasKey 120 = .ok (.istore 4, 2) := by decide +kernel
theorem d_MD_hasKey_122 : decode b_MD_hasKey 122 = .ok (.iinc 5 1, 3) := by decide +kernel
theorem d_MD_hasKey_125 : decode b_MD_hasKey 125 = .ok (.goto (-119), 3) := by decide +kernel
theorem d_MD_hasKey_128 : decode b_MD_hasKey 128 = .ok (.iload 4, 2) := by decide +kernel
theorem d_MD_hasKey_130 : decode b_MD_hasKey 130 = .ok (.ireturn, 1) := by decide +kernel
theorem d_MD_counting_0 : decode b_MD_counting 0 = .ok (.iconst 0, 1) := by decide +kernel
theorem d_MD_counting_1 : decode b_MD_counting 1 = .ok (.istore_n 2, 1) := by decide +kernel
theorem d_MD_counting_2 : decode b_MD_counting 2 = .ok (.iconst 0, 1) := by decide +kernel
theorem d_MD_counting_3 : decode b_MD_counting 3 = .ok (.istore_n 3, 1) := by decide +kernel
theorem d_MD_counting_4 : decode b_MD_counting 4 = .ok (.iload_n 3, 1) := by decide +kernel
theorem d_MD_counting_5 : decode b_MD_counting 5 = .ok (.aload_n 0, 1) := by decide +kernel
theorem d_MD_counting_6 : decode b_MD_counting 6 = .ok (.getfield 91, 3) := by decide +kernel
theorem d_MD_counting_9 : decode b_MD_counting 9 = .ok (.iload_n 1, 1) := by decide +kernel
theorem d_MD_counting_10 : decode b_MD_counting 10 = .ok (.iaload, 1) := by decide +kernel
theorem d_MD_counting_11 : decode b_MD_counting 11 = .ok (.if_icmp .ge 30, 3) := by decide +kernel
theorem d_MD_counting_14 : decode b_MD_counting 14 = .ok (.iload_n 2, 1) := by decide +kernel
theorem d_MD_counting_15 : decode b_MD_counting 15 = .ok (.aload_n 0, 1) := by decide +kernel
theorem d_MD_counting_16 : decode b_MD_counting 16 = .ok (.aload_n 0, 1) := by decide +kernel
theorem d_MD_counting_17 : decode b_MD_counting 17 = .ok (.iload_n 1, 1) := by decide +kernel
theorem d_MD_counting_18 : decode b_MD_counting 18 = .ok (.iload_n 3, 1) := by decide +kernel
theorem d_MD_counting_19 : decode b_MD_counting 19 = .ok (.invokevirtual 160, 3) := by decide +kernel
theorem d_MD_counting_22 : decode b_MD_counting 22 = .ok (.invokevirtual 189, 3) := by decide +kernel
theorem d_MD_counting_25 : decode b_MD_counting 25 = .ok (.ifCond .eq 7, 3) := by decide +kernel
theorem d_MD_counting_28 : decode b_MD_counting 28 = .ok (.iconst 1, 1) := by decide +kernel
theorem d_MD_counting_29 : decode b_MD_counting 29 = .ok (.goto 4, 3) := by decide +kernel
theorem d_MD_counting_32 : decode b_MD_counting 32 = .ok (.iconst 0, 1) := by decide +kernel
theorem d_MD_counting_33 : decode b_MD_counting 33 = .ok (.iadd, 1) := by decide +kernel
theorem d_MD_counting_34 : decode b_MD_counting 34 = .ok (.istore_n 2, 1) := by decide +kernel
theorem d_MD_counting_35 : decode b_MD_counting 35 = .ok (.iinc 3 1, 3) := by decide +kernel
theorem d_MD_counting_38 : decode b_MD_counting 38 = .ok (.goto (-34), 3) := by decide +kernel
theorem d_MD_counting_41 : decode b_MD_counting 41 = .ok (.iload_n 2, 1) := by decide +kernel
theorem d_MD_counting_42 : decode b_MD_counting 42 = .ok (.ireturn, 1) := by decide +kernel
theorem d_MD_rowAt_0 : decode b_MD_rowAt 0 = .ok (.iconst 0, 1) := by decide +kernel
theorem d_MD_rowAt_1 : decode b_MD_rowAt 1 = .ok (.istore_n 3, 1) := by decide +kernel
theorem d_MD_rowAt_2 : decode b_MD_rowAt 2 = .ok (.iload_n 3, 1) := by decide +kernel
theorem d_MD_rowAt_3 : decode b_MD_rowAt 3 = .ok (.aload_n 0, 1) := by decide +kernel
theorem d_MD_rowAt_4 : decode b_MD_rowAt 4 = .ok (.getfield 91, 3) := by decide +kernel
theorem d_MD_rowAt_7 : decode b_MD_rowAt 7 = .ok (.iload_n 1, 1) := by decide +kernel
theorem d_MD_rowAt_8 : decode b_MD_rowAt 8 = .ok (.iaload, 1) := by decide +kernel
theorem d_MD_rowAt_9 : decode b_MD_rowAt 9 = .ok (.if_icmp .ge 98, 3) := by decide +kernel
theorem d_MD_rowAt_12 : decode b_MD_rowAt 12 = .ok (.aload_n 0, 1) := by decide +kernel
theorem d_MD_rowAt_13 : decode b_MD_rowAt 13 = .ok (.iload_n 1, 1) := by decide +kernel
theorem d_MD_rowAt_14 : decode b_MD_rowAt 14 = .ok (.iload_n 3, 1) := by decide +kernel
theorem d_MD_rowAt_15 : decode b_MD_rowAt 15 = .ok (.invokevirtual 160, 3) := by decide +kernel
theorem d_MD_rowAt_18 : decode b_MD_rowAt 18 = .ok (.istore 4, 2) := by decide +kernel
theorem d_MD_rowAt_20 : decode b_MD_rowAt 20 = .ok (.iconst 0, 1) := by decide +kernel
theorem d_MD_rowAt_21 : decode b_MD_rowAt 21 = .ok (.istore 5, 2) := by decide +kernel
theorem d_MD_rowAt_23 : decode b_MD_rowAt 23 = .ok (.iconst 0, 1) := by decide +kernel
theorem d_MD_rowAt_24 : decode b_MD_rowAt 24 = .ok (.istore 6, 2) := by decide +kernel
theorem d_MD_rowAt_26 : decode b_MD_rowAt 26 = .ok (.iload 6, 2) := by decide +kernel
theorem d_MD_rowAt_28 : decode b_MD_rowAt 28 = .ok (.aload_n 0, 1) := by decide +kernel
theorem d_MD_rowAt_29 : decode b_MD_rowAt 29 = .ok (.getfield 91, 3) := by decide +kernel
theorem d_MD_rowAt_32 : decode b_MD_rowAt 32 = .ok (.iload_n 1, 1) := by decide +kernel
theorem d_MD_rowAt_33 : decode b_MD_rowAt 33 = .ok (.iaload, 1) := by decide +kernel
theorem d_MD_rowAt_34 : decode b_MD_rowAt 34 = .ok (.if_icmp .ge 49, 3) := by decide +kernel
theorem d_MD_rowAt_37 : decode b_MD_rowAt 37 = .ok (.iload 5, 2) := by decide +kernel
theorem d_MD_rowAt_39 : decode b_MD_rowAt 39 = .ok (.aload_n 0, 1) := by decide +kernel
theorem d_MD_rowAt_40 : decode b_MD_rowAt 40 = .ok (.aload_n 0, 1) := by decide +kernel
theorem d_MD_rowAt_41 : decode b_MD_rowAt 41 = .ok (.iload_n 1, 1) := by decide +kernel
theorem d_MD_rowAt_42 : decode b_MD_rowAt 42 = .ok (.iload 6, 2) := by decide +kernel
theorem d_MD_rowAt_44 : decode b_MD_rowAt 44 = .ok (.invokevirtual 160, 3) := by decide +kernel
theorem d_MD_rowAt_47 : decode b_MD_rowAt 47 = .ok (.invokevirtual 189, 3) := by decide +kernel
theorem d_MD_rowAt_50 : decode b_MD_rowAt 50 = .ok (.ifCond .eq 23, 3) := by decide +kernel
theorem d_MD_rowAt_53 : decode b_MD_rowAt 53 = .ok (.aload_n 0, 1) := by decide +kernel
theorem d_MD_rowAt_54 : decode b_MD_rowAt 54 = .ok (.aload_n 0, 1) := by decide +kernel
theorem d_MD_rowAt_55 : decode b_MD_rowAt 55 = .ok (.iload_n 1, 1) := by decide +kernel
theorem d_MD_rowAt_56 : decode b_MD_rowAt 56 = .ok (.iload 6, 2) := by decide +kernel
theorem d_MD_rowAt_58 : decode b_MD_rowAt 58 = .ok (.invokevirtual 160, 3) := by decide +kernel
theorem d_MD_rowAt_61 : decode b_MD_rowAt 61 = .ok (.iload 4, 2) := by decide +kernel
theorem d_MD_rowAt_63 : decode b_MD_rowAt 63 = .ok (.invokevirtual 192, 3) := by decide +kernel
theorem d_MD_rowAt_66 : decode b_MD_rowAt 66 = .ok (.ifCond .eq 7, 3) := by decide +kernel
theorem d_MD_rowAt_69 : decode b_MD_rowAt 69 = .ok (.iconst 1, 1) := by decide +kernel
theorem d_MD_rowAt_70 : decode b_MD_rowAt 70 = .ok (.goto 4, 3) := by decide +kernel
theorem d_MD_rowAt_73 : decode b_MD_rowAt 73 = .ok (.iconst 0, 1) := by decide +kernel
theorem d_MD_rowAt_74 : decode b_MD_rowAt 74 = .ok (.iadd, 1) := by decide +kernel
theorem d_MD_rowAt_75 : decode b_MD_rowAt 75 = .ok (.istore 5, 2) := by decide +kernel
theorem d_MD_rowAt_77 : decode b_MD_rowAt 77 = .ok (.iinc 6 1, 3) := by decide +kernel
theorem d_MD_rowAt_80 : decode b_MD_rowAt 80 = .ok (.goto (-54), 3) := by decide +kernel
theorem d_MD_rowAt_83 : decode b_MD_rowAt 83 = .ok (.aload_n 0, 1) := by decide +kernel
theorem d_MD_rowAt_84 : decode b_MD_rowAt 84 = .ok (.iload 4, 2) := by decide +kernel
theorem d_MD_rowAt_86 : decode b_MD_rowAt 86 = .ok (.invokevirtual 189, 3) := by decide +kernel
theorem d_MD_rowAt_89 : decode b_MD_rowAt 89 = .ok (.ifCond .eq 12, 3) := by decide +kernel
theorem d_MD_rowAt_92 : decode b_MD_rowAt 92 = .ok (.iload 5, 2) := by decide +kernel
theorem d_MD_rowAt_94 : decode b_MD_rowAt 94 = .ok (.iload_n 2, 1) := by decide +kernel
theorem d_MD_rowAt_95 : decode b_MD_rowAt 95 = .ok (.if_icmp .ne 6, 3) := by decide +kernel
theorem d_MD_rowAt_98 : decode b_MD_rowAt 98 = .ok (.iload 4, 2) := by decide +kernel
theorem d_MD_rowAt_100 : decode b_MD_rowAt 100 = .ok (.ireturn, 1) := by decide +kernel
theorem d_MD_rowAt_101 : decode b_MD_rowAt 101 = .ok (.iinc 3 1, 3) := by decide +kernel
theorem d_MD_rowAt_104 : decode b_MD_rowAt 104 = .ok (.goto (-102), 3) := by decide +kernel
theorem d_MD_rowAt_107 : decode b_MD_rowAt 107 = .ok (.iconst (-1), 1) := by decide +kernel
theorem d_MD_rowAt_108 : decode b_MD_rowAt 108 = .ok (.ireturn, 1) := by decide +kernel
theorem alEq {V : MS} {K : List Nat} {k r j : Nat} {R : MR} (h : V.ns k = K.length ∧ K.length ≤ 16 ∧ ∀ i, i < K.length → V.nm (16 * k + i) = K.getD i 0) (hR : mrA V r R) (q : V.ns k = R.2.1 ∧ ∀ i, i < j → V.nm (16 * k + i) = V.le (64 * r + i)) (hj : R.2.1 ≤ j) : K = kyR R := by
  have hl : K.length = R.2.1 := by rw [← h.1]; exact q.1
  exact leq (hl.trans hR.klen.symm) (fun i hi => by rw [hR.kat (by omega), ← h.2.2 i hi]; exact q.2 i (by omega))
theorem alEq2 {V : MS} {K : List Nat} {k r j : Nat} {R : MR} (h : V.ns k = K.length ∧ K.length ≤ 16 ∧ ∀ i, i < K.length → V.nm (16 * k + i) = K.getD i 0) (hR : mrA V r R) (q : K = kyR R) (hj : j ≤ R.2.1) : V.ns k = R.2.1 ∧ ∀ i, i < j → V.nm (16 * k + i) = V.le (64 * r + i) := by
  have hl : K.length = R.2.1 := by rw [q]; exact hR.klen
  exact ⟨h.1.trans hl, fun i hi => by rw [h.2.2 i (by omega), q]; exact hR.kat (by omega)⟩
set_option maxHeartbeats 4000000 in
set_option maxRecDepth 100000 in
/-- a row counts -/
theorem c_MD_isAllowed (l : Launch) (D : va_G) (ct : Nat → ClassId) (Z : hp_Z) (hZ : hp_Zok Z) (M : hp_M) (sz : Nat) (md : Nat) (B : MA) (V : MS) (hw : mdS ct M md B V) (Al : List (List Nat)) (hnA : nmA V Al) (ra : Nat) (hra : ra < 288) (R : MR) (hR : mrA V ra R) : Mi l y_MD_isAllowed b_MD_isAllowed 5 (some .boolean) 0 0 0 0 [.ref md, .int (nI ra)] D ct Z M sz (fun r M1 => M1 = M ∧ bo r (cnts Al (clR R))) := by
  refine hp_start (by decide) (Nat.le_of_ble_eq_true rfl) (fun p e s m below meth c ls S hret hlk hnm hsz hK hM hS hA hz hl => ?_)
  have hx := S.1
  have hb := S.2.1
  have hl : lv_has ls 5 [(0, .ref md), (1, .int (nI ra))] := hl
  obtain ⟨f_md, f_ro, f_te, f_he, f_cn, f_kd, f_sz, f_ky, f_le, f_dg, f_nm, f_ns, f_sl, f_sb, f_su, f_wi, f_tu, hB, hV⟩ := id hw
  obtain ⟨n_kdsz, n_kdky, n_szky, n_hens, n_hesu, n_hetu, n_nssu, n_nstu, n_sutu, n_tewi⟩ := id hB
  obtain ⟨b_te, b_cn, b_kd, b_sz, b_ky, b_le, b_nm, b_ns, b_sl, b_sb, b_co, b_ty, b_ac, b_al, b_sd, b_ss⟩ := id hV
  obtain ⟨hkd, hky, hsz2, hle, hdg2, hkl, hl64, -, -⟩ := id hR
  obtain ⟨hal, hal8, hnk⟩ := id hnA
  refine w_join hM hS (P := fun z => bo z (R.1 ≠ 2)) (pc2 := 15) (rest := []) (fun v1 H locs hM hS hv1 => ?_) (fun hjv1 => ?_)
  · refine lv_istore_n (lv' := [(2, .int v1), (0, .ref md), (1, .int (nI ra))]) hx hb d_MD_isAllowed_15 rfl hl (by decide) rfl (fun ls hl => ?_)
    refine lv_iconst (v := nI 0) hx hb d_MD_isAllowed_16 rfl ?_
    refine lv_istore_n (lv' := [(3, .int (nI 0)), (2, .int v1), (0, .ref md), (1, .int (nI ra))]) hx hb d_MD_isAllowed_17 rfl hl (by decide) rfl (fun ls hl => ?_)
    replace hl : lv_has ls 5 [(0, .ref md), (1, .int (nI ra)), (2, .int v1), (3, .int (nI 0))] := lv_sub hl [2, 3, 1, 0] rfl
    obtain ⟨k, e9k⟩ : ∃ z : Nat, z = 0 := ⟨_, rfl⟩
    obtain ⟨v, e9v⟩ : ∃ z : Int32, z = v1 := ⟨_, rfl⟩
    replace hl : lv_has ls 5 [(0, .ref md), (1, .int (nI ra)), (2, .int v), (3, .int (nI k))] := by subst e9k e9v; exact hl
    have hkA : k ≤ Al.length := by subst e9k e9v; exact Nat.zero_le _
    have hv : bo v (R.1 ≠ 2 ∨ ∃ i, i < k ∧ Al.getD i [] = kyR R) := by subst e9k e9v; exact bo_iff hv1 ⟨fun q => Or.inl (by omega), fun q => by rcases q with q | ⟨i, a, b⟩ <;> omega⟩
    obtain ⟨fu1, hn1⟩ : ∃ fu : Nat, Al.length ≤ k + fu := ⟨Al.length, by omega⟩
    clear e9k e9v
    induction fu1 generalizing k v H locs ls with
    | zero =>
      refine lv_iload_n hx hb d_MD_isAllowed_18 rfl (lv_at hl 3 rfl) ?_
      refine lv_aload_n hx hb d_MD_isAllowed_19 rfl (lv_at hl 0 rfl) ?_
      refine hp_get S hK hM i_MD f_md rfl 5 (by decide) mf_MD_183 (fun _ h9 => h9) rfl d_MD_isAllowed_20 ?_
      refine nb_ge (tgt := 114) hx hb d_MD_isAllowed_23 (by decide) (by omega) (by omega) (fun hkn => ?_) (fun hkn => ?_)
      · refine lv_iload_n hx hb d_MD_isAllowed_114 rfl (lv_at hl 2 rfl) ?_
        exact hp_iret S hret hlk (bo_nar hv) hM hS (⟨rfl, bo_iff hv ⟨fun q => q.elim Or.inl (fun ⟨i, a, b⟩ => Or.inr ⟨i, by omega, b⟩), fun q => by first | exact hP | exact q.elim Or.inl (fun ⟨i, a, b⟩ => Or.inr ⟨i, by omega, b⟩)⟩⟩) d_MD_isAllowed_115
      · exact absurd hn1 (by omega)
    | succ fu1 ih1 =>
      have hk9 : k < Al.length → V.ns k = (Al.getD k []).length ∧ (Al.getD k []).length ≤ 16 ∧ ∀ i, i < (Al.getD k []).length → V.nm (16 * k + i) = (Al.getD k []).getD i 0 := hnk k
      refine lv_iload_n hx hb d_MD_isAllowed_18 rfl (lv_at hl 3 rfl) ?_
      refine lv_aload_n hx hb d_MD_isAllowed_19 rfl (lv_at hl 0 rfl) ?_
      refine hp_get S hK hM i_MD f_md rfl 5 (by decide) mf_MD_183 (fun _ h9 => h9) rfl d_MD_isAllowed_20 ?_
      refine nb_ge (tgt := 114) hx hb d_MD_isAllowed_23 (by decide) (by omega) (by omega) (fun hkn => ?_) (fun hkn => ?_)
      · refine lv_iload_n hx hb d_MD_isAllowed_114 rfl (lv_at hl 2 rfl) ?_
        exact hp_iret S hret hlk (bo_nar hv) hM hS (⟨rfl, bo_iff hv ⟨fun q => q.elim Or.inl (fun ⟨i, a, b⟩ => Or.inr ⟨i, by omega, b⟩), fun q => by first | exact hP | exact q.elim Or.inl (fun ⟨i, a, b⟩ => Or.inr ⟨i, by omega, b⟩)⟩⟩) d_MD_isAllowed_115
      · refine lv_iload_n hx hb d_MD_isAllowed_26 rfl (lv_at hl 2 rfl) ?_
        refine nt_ne (tgt := 114) hx hb d_MD_isAllowed_27 (by decide) hv (fun hP => ?_) (fun hP => ?_)
        · refine lv_iload_n hx hb d_MD_isAllowed_114 rfl (lv_at hl 2 rfl) ?_
          exact hp_iret S hret hlk (bo_nar hv) hM hS (⟨rfl, bo_iff hv ⟨fun q => q.elim Or.inl (fun ⟨i, a, b⟩ => Or.inr ⟨i, by omega, b⟩), fun q => by first | exact hP | exact q.elim Or.inl (fun ⟨i, a, b⟩ => Or.inr ⟨i, by omega, b⟩)⟩⟩) d_MD_isAllowed_115
        · refine w_join hM hS (P := fun z => bo z (V.ns k = V.ky ra)) (pc2 := 50) (rest := []) (fun v2 H locs hM hS hv2 => ?_) (fun hjv2 => ?_)
          · refine lv_istore_n (lv' := [(2, .int v2), (0, .ref md), (1, .int (nI ra)), (3, .int (nI k))]) hx hb d_MD_isAllowed_50 rfl hl (by decide) rfl (fun ls hl => ?_)
            refine lv_iconst (v := nI 0) hx hb d_MD_isAllowed_51 rfl ?_
            refine lv_istore (lv' := [(4, .int (nI 0)), (2, .int v2), (0, .ref md), (1, .int (nI ra)), (3, .int (nI k))]) hx hb d_MD_isAllowed_52 hl (by decide) rfl (fun ls hl => ?_)
            replace hl : lv_has ls 5 [(0, .ref md), (1, .int (nI ra)), (2, .int v2), (3, .int (nI k)), (4, .int (nI 0))] := lv_sub hl [2, 3, 1, 4, 0] rfl
            obtain ⟨j, e9j⟩ : ∃ z : Nat, z = 0 := ⟨_, rfl⟩
            obtain ⟨u, e9u⟩ : ∃ z : Int32, z = v2 := ⟨_, rfl⟩
            replace hl : lv_has ls 5 [(0, .ref md), (1, .int (nI ra)), (2, .int u), (3, .int (nI k)), (4, .int (nI j))] := by subst e9j e9u; exact hl
            have hj : j ≤ R.2.1 := by subst e9j e9u; exact Nat.zero_le _
            have hu : bo u (V.ns k = R.2.1 ∧ ∀ i, i < j → V.nm (16 * k + i) = V.le (64 * ra + i)) := by subst e9j e9u; exact bo_iff hv2 ⟨fun q => ⟨by omega, fun i z => absurd z (Nat.not_lt_zero i)⟩, fun q => by have := q.1; omega⟩
            obtain ⟨fu2, hn2⟩ : ∃ fu : Nat, R.2.1 ≤ j + fu := ⟨R.2.1, by omega⟩
            clear e9j e9u
            induction fu2 generalizing j u H locs ls with
            | zero =>
              refine lv_iload hx hb d_MD_isAllowed_54 (lv_at hl 4 rfl) ?_
              refine lv_aload_n hx hb d_MD_isAllowed_56 rfl (lv_at hl 0 rfl) ?_
              refine hp_get S hK hM i_MD f_md rfl 11 (by decide) mf_MD_100 (fun _ h9 => h9) rfl d_MD_isAllowed_57 ?_
              refine lv_iload_n hx hb d_MD_isAllowed_60 rfl (lv_at hl 1 rfl) ?_
              refine hp_iald S hK hM 1 f_ky rfl ra rfl (by omega) (by omega) d_MD_isAllowed_61 ?_
              refine nb_ge (tgt := 108) hx hb d_MD_isAllowed_62 (by decide) (by omega) (by have := b_ky (ra); omega) (fun hjn => ?_) (fun hjn => ?_)
              · refine lv_iinc (v := nI (k + 1)) (lv' := [(3, .int (nI (k + 1))), (0, .ref md), (1, .int (nI ra)), (2, .int u), (4, .int (nI j))]) hx hb d_MD_isAllowed_108 hl (k := 3) rfl (nI_add k 1) (by decide) rfl (fun ls hl => ?_)
                refine lv_goto (tgt := 18) hx hb d_MD_isAllowed_111 (by decide) ?_
                exact ih1 (ls := ls) (hl := lv_sub hl [1, 2, 3, 0] rfl) (hn1 := by omega) (k := k + 1) (v := u) (hkA := by omega) (hv := bo_iff hu ⟨fun q => Or.inr ⟨k, Nat.lt_succ_self k, by first | exact absurd q hQ | exact alEq (hk9 (by omega)) hR q (by omega)⟩, fun q => by rcases q with q | ⟨i, a, b⟩; (exact absurd (Or.inl q) hP); (rcases Nat.lt_or_eq_of_le (Nat.le_of_lt_succ a) with z | z; (exact absurd (Or.inr ⟨i, z, b⟩) hP); (rw [z] at b; exact alEq2 (hk9 (by omega)) hR b (by omega)))⟩) (H := H) (locs := locs) (hM := hM) (hS := hS)
              · exact absurd hn2 (by omega)
            | succ fu2 ih2 =>
              refine lv_iload hx hb d_MD_isAllowed_54 (lv_at hl 4 rfl) ?_
              refine lv_aload_n hx hb d_MD_isAllowed_56 rfl (lv_at hl 0 rfl) ?_
              refine hp_get S hK hM i_MD f_md rfl 11 (by decide) mf_MD_100 (fun _ h9 => h9) rfl d_MD_isAllowed_57 ?_
              refine lv_iload_n hx hb d_MD_isAllowed_60 rfl (lv_at hl 1 rfl) ?_
              refine hp_iald S hK hM 1 f_ky rfl ra rfl (by omega) (by omega) d_MD_isAllowed_61 ?_
              refine nb_ge (tgt := 108) hx hb d_MD_isAllowed_62 (by decide) (by omega) (by have := b_ky (ra); omega) (fun hjn => ?_) (fun hjn => ?_)
              · refine lv_iinc (v := nI (k + 1)) (lv' := [(3, .int (nI (k + 1))), (0, .ref md), (1, .int (nI ra)), (2, .int u), (4, .int (nI j))]) hx hb d_MD_isAllowed_108 hl (k := 3) rfl (nI_add k 1) (by decide) rfl (fun ls hl => ?_)
                refine lv_goto (tgt := 18) hx hb d_MD_isAllowed_111 (by decide) ?_
                exact ih1 (ls := ls) (hl := lv_sub hl [1, 2, 3, 0] rfl) (hn1 := by omega) (k := k + 1) (v := u) (hkA := by omega) (hv := bo_iff hu ⟨fun q => Or.inr ⟨k, Nat.lt_succ_self k, by first | exact absurd q hQ | exact alEq (hk9 (by omega)) hR q (by omega)⟩, fun q => by rcases q with q | ⟨i, a, b⟩; (exact absurd (Or.inl q) hP); (rcases Nat.lt_or_eq_of_le (Nat.le_of_lt_succ a) with z | z; (exact absurd (Or.inr ⟨i, z, b⟩) hP); (rw [z] at b; exact alEq2 (hk9 (by omega)) hR b (by omega)))⟩) (H := H) (locs := locs) (hM := hM) (hS := hS)
              · refine lv_iload_n hx hb d_MD_isAllowed_65 rfl (lv_at hl 2 rfl) ?_
                refine nt_eq (tgt := 108) hx hb d_MD_isAllowed_66 (by decide) hu (fun hQ => ?_) (fun hQ => ?_)
                · refine lv_iinc (v := nI (k + 1)) (lv' := [(3, .int (nI (k + 1))), (0, .ref md), (1, .int (nI ra)), (2, .int u), (4, .int (nI j))]) hx hb d_MD_isAllowed_108 hl (k := 3) rfl (nI_add k 1) (by decide) rfl (fun ls hl => ?_)
                  refine lv_goto (tgt := 18) hx hb d_MD_isAllowed_111 (by decide) ?_
                  exact ih1 (ls := ls) (hl := lv_sub hl [1, 2, 3, 0] rfl) (hn1 := by omega) (k := k + 1) (v := u) (hkA := by omega) (hv := bo_iff hu ⟨fun q => Or.inr ⟨k, Nat.lt_succ_self k, by first | exact absurd q hQ | exact alEq (hk9 (by omega)) hR q (by omega)⟩, fun q => by rcases q with q | ⟨i, a, b⟩; (exact absurd (Or.inl q) hP); (rcases Nat.lt_or_eq_of_le (Nat.le_of_lt_succ a) with z | z; (exact absurd (Or.inr ⟨i, z, b⟩) hP); (rw [z] at b; exact alEq2 (hk9 (by omega)) hR b (by omega)))⟩) (H := H) (locs := locs) (hM := hM) (hS := hS)
                · refine w_join hM hS (P := fun z => bo z (V.nm (16 * k + j) = V.le (64 * ra + j))) (pc2 := 101) (rest := []) (fun v3 H locs hM hS hv3 => ?_) (fun hjv3 => ?_)
                  · refine lv_istore_n (lv' := [(2, .int v3), (0, .ref md), (1, .int (nI ra)), (3, .int (nI k)), (4, .int (nI j))]) hx hb d_MD_isAllowed_101 rfl hl (by decide) rfl (fun ls hl => ?_)
                    refine lv_iinc (v := nI (j + 1)) (lv' := [(4, .int (nI (j + 1))), (2, .int v3), (0, .ref md), (1, .int (nI ra)), (3, .int (nI k))]) hx hb d_MD_isAllowed_102 hl (k := 4) rfl (nI_add j 1) (by decide) rfl (fun ls hl => ?_)
                    refine lv_goto (tgt := 54) hx hb d_MD_isAllowed_105 (by decide) ?_
                    exact ih2 (ls := ls) (hl := lv_sub hl [2, 3, 1, 4, 0] rfl) (hn2 := by omega) (j := j + 1) (u := v3) (hj := by omega) (hu := bo_iff hv3 ⟨fun q => ⟨hQ.1, lt_s hQ.2 q⟩, fun q => q.2 j (Nat.lt_succ_self j)⟩) (H := H) (locs := locs) (hM := hM) (hS := hS)
                  · refine lv_aload_n hx hb d_MD_isAllowed_69 rfl (lv_at hl 0 rfl) ?_
                    refine hp_get S hK hM i_MD f_md rfl 14 (by decide) mf_MD_109 (fun _ h9 => h9) rfl d_MD_isAllowed_70 ?_
                    refine lv_bipush (v := nI 16) hx hb d_MD_isAllowed_73 rfl ?_
                    refine lv_iload_n hx hb d_MD_isAllowed_75 rfl (lv_at hl 3 rfl) ?_
                    refine nb_imul hx hb d_MD_isAllowed_76 ?_
                    refine lv_iload hx hb d_MD_isAllowed_77 (lv_at hl 4 rfl) ?_
                    refine nb_iadd hx hb d_MD_isAllowed_79 ?_
                    refine hp_iald S hK hM 1 f_nm rfl ((16 * k) + j) rfl (by omega) (by omega) d_MD_isAllowed_80 ?_
                    refine lv_aload_n hx hb d_MD_isAllowed_81 rfl (lv_at hl 0 rfl) ?_
                    refine hp_get S hK hM i_MD f_md rfl 12 (by decide) mf_MD_103 (fun _ h9 => h9) rfl d_MD_isAllowed_82 ?_
                    refine lv_bipush (v := nI 64) hx hb d_MD_isAllowed_85 rfl ?_
                    refine lv_iload_n hx hb d_MD_isAllowed_87 rfl (lv_at hl 1 rfl) ?_
                    refine nb_imul hx hb d_MD_isAllowed_88 ?_
                    refine lv_iload hx hb d_MD_isAllowed_89 (lv_at hl 4 rfl) ?_
                    refine nb_iadd hx hb d_MD_isAllowed_91 ?_
                    refine hp_iald S hK hM 1 f_le rfl ((64 * ra) + j) rfl (by omega) (by omega) d_MD_isAllowed_92 ?_
                    refine nb_ne (tgt := 100) hx hb d_MD_isAllowed_93 (by decide) (by have := b_nm (((16 * k) + j)); omega) (by have := b_le (((64 * ra) + j)); omega) (fun heq => ?_) (fun heq => ?_)
                    · refine lv_iconst (v := nI 0) hx hb d_MD_isAllowed_100 rfl ?_
                      exact hjv3 _ H _ hM hS (bo_f (heq))
                    · refine lv_iconst (v := nI 1) hx hb d_MD_isAllowed_96 rfl ?_
                      refine lv_goto (tgt := 101) hx hb d_MD_isAllowed_97 (by decide) ?_
                      exact hjv3 _ H _ hM hS (bo_t (heq))
          · refine lv_aload_n hx hb d_MD_isAllowed_30 rfl (lv_at hl 0 rfl) ?_
            refine hp_get S hK hM i_MD f_md rfl 15 (by decide) mf_MD_112 (fun _ h9 => h9) rfl d_MD_isAllowed_31 ?_
            refine lv_iload_n hx hb d_MD_isAllowed_34 rfl (lv_at hl 3 rfl) ?_
            refine hp_iald S hK hM 1 f_ns rfl k rfl (by omega) (by omega) d_MD_isAllowed_35 ?_
            refine lv_aload_n hx hb d_MD_isAllowed_36 rfl (lv_at hl 0 rfl) ?_
            refine hp_get S hK hM i_MD f_md rfl 11 (by decide) mf_MD_100 (fun _ h9 => h9) rfl d_MD_isAllowed_37 ?_
            refine lv_iload_n hx hb d_MD_isAllowed_40 rfl (lv_at hl 1 rfl) ?_
            refine hp_iald S hK hM 1 f_ky rfl ra rfl (by omega) (by omega) d_MD_isAllowed_41 ?_
            refine nb_ne (tgt := 49) hx hb d_MD_isAllowed_42 (by decide) (by have := b_ns (k); omega) (by have := b_ky (ra); omega) (fun hns => ?_) (fun hns => ?_)
            · refine lv_iconst (v := nI 0) hx hb d_MD_isAllowed_49 rfl ?_
              exact hjv2 _ H _ hM hS (bo_f (hns))
            · refine lv_iconst (v := nI 1) hx hb d_MD_isAllowed_45 rfl ?_
              refine lv_goto (tgt := 50) hx hb d_MD_isAllowed_46 (by decide) ?_
              exact hjv2 _ H _ hM hS (bo_t (hns))
  · refine lv_aload_n hx hb d_MD_isAllowed_0 rfl (lv_at hl 0 rfl) ?_
    refine hp_get S hK hM i_MD f_md rfl 9 (by decide) mf_MD_94 (fun _ h9 => h9) rfl d_MD_isAllowed_1 ?_
    refine lv_iload_n hx hb d_MD_isAllowed_4 rfl (lv_at hl 1 rfl) ?_
    refine hp_iald S hK hM 1 f_kd rfl ra rfl (by omega) (by omega) d_MD_isAllowed_5 ?_
    refine lv_iconst (v := nI 2) hx hb d_MD_isAllowed_6 rfl ?_
    refine nb_eq (tgt := 14) hx hb d_MD_isAllowed_7 (by decide) (by have := b_kd (ra); omega) (by omega) (fun h2 => ?_) (fun h2 => ?_)
    · refine lv_iconst (v := nI 0) hx hb d_MD_isAllowed_14 rfl ?_
      exact hjv1 _ _ _ hM hS (bo_f (by omega))
    · refine lv_iconst (v := nI 1) hx hb d_MD_isAllowed_10 rfl ?_
      refine lv_goto (tgt := 15) hx hb d_MD_isAllowed_11 (by decide) ?_
      exact hjv1 _ _ _ hM hS (bo_t (by omega))
set_option maxHeartbeats 4000000 in
set_option maxRecDepth 100000 in
/-- the order of rows -/
theorem c_MD_isBefore (l : Launch) (D : va_G) (ct : Nat → ClassId) (Z : hp_Z) (hZ : hp_Zok Z) (M : hp_M) (sz : Nat) (md : Nat) (B : MA) (V : MS) (hw : mdS ct M md B V) (ra rb : Nat) (hra : ra < 288) (hrb : rb < 288) (R R2 : MR) (hR : mrA V ra R) (hR2 : mrA V rb R2) : Mi l y_MD_isBefore b_MD_isBefore 4 (some .boolean) 0 0 0 0 [.ref md, .int (nI ra), .int (nI rb)] D ct Z M sz (fun r M1 => M1 = M ∧ bo r (befR ra R rb R2)) := by
  refine hp_start (by decide) (Nat.le_of_ble_eq_true rfl) (fun p e s m below meth c ls S hret hlk hnm hsz hK hM hS hA hz hl => ?_)
  have hx := S.1
  have hb := S.2.1
  have hl : lv_has ls 4 [(0, .ref md), (1, .int (nI ra)), (2, .int (nI rb))] := hl
  obtain ⟨f_md, f_ro, f_te, f_he, f_cn, f_kd, f_sz, f_ky, f_le, f_dg, f_nm, f_ns, f_sl, f_sb, f_su, f_wi, f_tu, hB, hV⟩ := id hw
  obtain ⟨n_kdsz, n_kdky, n_szky, n_hens, n_hesu, n_hetu, n_nssu, n_nstu, n_sutu, n_tewi⟩ := id hB
  obtain ⟨b_te, b_cn, b_kd, b_sz, b_ky, b_le, b_nm, b_ns, b_sl, b_sb, b_co, b_ty, b_ac, b_al, b_sd, b_ss⟩ := id hV
  obtain ⟨hkd, hky, -, hle, -, hkl, hl64, -, -⟩ := id hR
  obtain ⟨hkd2, hky2, -, hle2, -, hkl2, hl642, -, -⟩ := id hR2
  refine lv_aload_n hx hb d_MD_isBefore_0 rfl (lv_at hl 0 rfl) ?_
  refine hp_get S hK hM i_MD f_md rfl 9 (by decide) mf_MD_94 (fun _ h9 => h9) rfl d_MD_isBefore_1 ?_
  refine lv_iload_n hx hb d_MD_isBefore_4 rfl (lv_at hl 1 rfl) ?_
  refine hp_iald S hK hM 1 f_kd rfl ra rfl (by omega) (by omega) d_MD_isBefore_5 ?_
  refine lv_aload_n hx hb d_MD_isBefore_6 rfl (lv_at hl 0 rfl) ?_
  refine hp_get S hK hM i_MD f_md rfl 9 (by decide) mf_MD_94 (fun _ h9 => h9) rfl d_MD_isBefore_7 ?_
  refine lv_iload_n hx hb d_MD_isBefore_10 rfl (lv_at hl 2 rfl) ?_
  refine hp_iald S hK hM 1 f_kd rfl rb rfl (by omega) (by omega) d_MD_isBefore_11 ?_
  refine nb_eq (tgt := 36) hx hb d_MD_isBefore_12 (by decide) (by have := b_kd (ra); omega) (by have := b_kd (rb); omega) (fun hke => ?_) (fun hke => ?_)
  · refine lv_aload_n hx hb d_MD_isBefore_36 rfl (lv_at hl 0 rfl) ?_
    refine hp_get S hK hM i_MD f_md rfl 9 (by decide) mf_MD_94 (fun _ h9 => h9) rfl d_MD_isBefore_37 ?_
    refine lv_iload_n hx hb d_MD_isBefore_40 rfl (lv_at hl 1 rfl) ?_
    refine hp_iald S hK hM 1 f_kd rfl ra rfl (by omega) (by omega) d_MD_isBefore_41 ?_
    refine nz_ne (tgt := 56) hx hb d_MD_isBefore_42 (by decide) (by have := b_kd (ra); omega) (fun hk0 => ?_) (fun hk0 => ?_)
    · refine lv_iconst (v := nI 0) hx hb d_MD_isBefore_56 rfl ?_
      refine lv_istore_n (lv' := [(3, .int (nI 0)), (0, .ref md), (1, .int (nI ra)), (2, .int (nI rb))]) hx hb d_MD_isBefore_57 rfl hl (by decide) rfl (fun ls hl => ?_)
      replace hl : lv_has ls 4 [(0, .ref md), (1, .int (nI ra)), (2, .int (nI rb)), (3, .int (nI 0))] := lv_sub hl [1, 2, 3, 0] rfl
      obtain ⟨j, e9j⟩ : ∃ z : Nat, z = 0 := ⟨_, rfl⟩
      replace hl : lv_has ls 4 [(0, .ref md), (1, .int (nI ra)), (2, .int (nI rb)), (3, .int (nI j))] := by subst e9j; exact hl
      obtain ⟨H, e9H⟩ : ∃ z : Heap, z = s.heap := ⟨_, rfl⟩
      replace hM : hp_H D ccl (hp_A M sz) M H := by rw [e9H]; exact hM
      replace hS : va_S (hp_A M sz) s.heap H [] := by rw [e9H]; exact hS
      rw [← e9H]
      clear e9H
      obtain ⟨locs, e9L⟩ : ∃ z : List Loc, z = [] := ⟨_, rfl⟩
      replace hS : va_S (hp_A M sz) s.heap H locs := by rw [e9L]; exact hS
      rw [← e9L]
      clear e9L
      have hj1 : j ≤ R.2.1 := by subst e9j; exact Nat.zero_le _
      have hj2 : j ≤ R2.2.1 := by subst e9j; exact Nat.zero_le _
      have hinv : ∀ i, i < j → V.le (64 * ra + i) = V.le (64 * rb + i) := by subst e9j; intro i hi; omega
      obtain ⟨fu1, hn1⟩ : ∃ fu : Nat, R.2.1 ≤ j + fu := ⟨R.2.1, by omega⟩
      clear e9j
      induction fu1 generalizing j H locs ls with
      | zero =>
        refine lv_iload_n hx hb d_MD_isBefore_58 rfl (lv_at hl 3 rfl) ?_
        refine lv_aload_n hx hb d_MD_isBefore_59 rfl (lv_at hl 0 rfl) ?_
        refine hp_get S hK hM i_MD f_md rfl 11 (by decide) mf_MD_100 (fun _ h9 => h9) rfl d_MD_isBefore_60 ?_
        refine lv_iload_n hx hb d_MD_isBefore_63 rfl (lv_at hl 1 rfl) ?_
        refine hp_iald S hK hM 1 f_ky rfl ra rfl (by omega) (by omega) d_MD_isBefore_64 ?_
        refine nb_ge (tgt := 140) hx hb d_MD_isBefore_65 (by decide) (by omega) (by have := b_ky (ra); omega) (fun hja => ?_) (fun hja => ?_)
        · refine lv_aload_n hx hb d_MD_isBefore_140 rfl (lv_at hl 0 rfl) ?_
          refine hp_get S hK hM i_MD f_md rfl 11 (by decide) mf_MD_100 (fun _ h9 => h9) rfl d_MD_isBefore_141 ?_
          refine lv_iload_n hx hb d_MD_isBefore_144 rfl (lv_at hl 1 rfl) ?_
          refine hp_iald S hK hM 1 f_ky rfl ra rfl (by omega) (by omega) d_MD_isBefore_145 ?_
          refine lv_aload_n hx hb d_MD_isBefore_146 rfl (lv_at hl 0 rfl) ?_
          refine hp_get S hK hM i_MD f_md rfl 11 (by decide) mf_MD_100 (fun _ h9 => h9) rfl d_MD_isBefore_147 ?_
          refine lv_iload_n hx hb d_MD_isBefore_150 rfl (lv_at hl 2 rfl) ?_
          refine hp_iald S hK hM 1 f_ky rfl rb rfl (by omega) (by omega) d_MD_isBefore_151 ?_
          refine nb_ge (tgt := 159) hx hb d_MD_isBefore_152 (by decide) (by have := b_ky (ra); omega) (by have := b_ky (rb); omega) (fun hll => ?_) (fun hll => ?_)
          · refine lv_iconst (v := nI 0) hx hb d_MD_isBefore_159 rfl ?_
            have hc := cmpK_pre (kyR R) (kyR R2) (fun i h1 h2 => by rw [hR.klen] at h1; rw [hR2.klen] at h2; rw [hR.kat (by omega), hR2.kat (by omega)]; exact hinv i (by omega))
            rw [hR.klen, hR2.klen] at hc
            have hc2 : 0 ≤ cmpK (kyR R) (kyR R2) := by rw [hc]; by_cases z : R.2.1 = R2.2.1; (rw [if_pos z]; decide); (rw [if_neg z, if_neg (by omega)]; decide)
            exact hp_iret S hret hlk (rfl) hM hS (⟨rfl, bo_f (fun q => by unfold befR at q; rcases q with q | ⟨q, q2 | q2⟩ <;> omega)⟩) d_MD_isBefore_160
          · refine lv_iconst (v := nI 1) hx hb d_MD_isBefore_155 rfl ?_
            refine lv_goto (tgt := 160) hx hb d_MD_isBefore_156 (by decide) ?_
            have hc := cmpK_pre (kyR R) (kyR R2) (fun i h1 h2 => by rw [hR.klen] at h1; rw [hR2.klen] at h2; rw [hR.kat (by omega), hR2.kat (by omega)]; exact hinv i (by omega))
            rw [hR.klen, hR2.klen] at hc
            rw [if_neg (by omega), if_pos (by omega)] at hc
            exact hp_iret S hret hlk (rfl) hM hS (⟨rfl, bo_t (Or.inr ⟨by omega, Or.inr ⟨by omega, by omega⟩⟩)⟩) d_MD_isBefore_160
        · exact absurd hn1 (by omega)
      | succ fu1 ih1 =>
        refine lv_iload_n hx hb d_MD_isBefore_58 rfl (lv_at hl 3 rfl) ?_
        refine lv_aload_n hx hb d_MD_isBefore_59 rfl (lv_at hl 0 rfl) ?_
        refine hp_get S hK hM i_MD f_md rfl 11 (by decide) mf_MD_100 (fun _ h9 => h9) rfl d_MD_isBefore_60 ?_
        refine lv_iload_n hx hb d_MD_isBefore_63 rfl (lv_at hl 1 rfl) ?_
        refine hp_iald S hK hM 1 f_ky rfl ra rfl (by omega) (by omega) d_MD_isBefore_64 ?_
        refine nb_ge (tgt := 140) hx hb d_MD_isBefore_65 (by decide) (by omega) (by have := b_ky (ra); omega) (fun hja => ?_) (fun hja => ?_)
        · refine lv_aload_n hx hb d_MD_isBefore_140 rfl (lv_at hl 0 rfl) ?_
          refine hp_get S hK hM i_MD f_md rfl 11 (by decide) mf_MD_100 (fun _ h9 => h9) rfl d_MD_isBefore_141 ?_
          refine lv_iload_n hx hb d_MD_isBefore_144 rfl (lv_at hl 1 rfl) ?_
          refine hp_iald S hK hM 1 f_ky rfl ra rfl (by omega) (by omega) d_MD_isBefore_145 ?_
          refine lv_aload_n hx hb d_MD_isBefore_146 rfl (lv_at hl 0 rfl) ?_
          refine hp_get S hK hM i_MD f_md rfl 11 (by decide) mf_MD_100 (fun _ h9 => h9) rfl d_MD_isBefore_147 ?_
          refine lv_iload_n hx hb d_MD_isBefore_150 rfl (lv_at hl 2 rfl) ?_
          refine hp_iald S hK hM 1 f_ky rfl rb rfl (by omega) (by omega) d_MD_isBefore_151 ?_
          refine nb_ge (tgt := 159) hx hb d_MD_isBefore_152 (by decide) (by have := b_ky (ra); omega) (by have := b_ky (rb); omega) (fun hll => ?_) (fun hll => ?_)
          · refine lv_iconst (v := nI 0) hx hb d_MD_isBefore_159 rfl ?_
            have hc := cmpK_pre (kyR R) (kyR R2) (fun i h1 h2 => by rw [hR.klen] at h1; rw [hR2.klen] at h2; rw [hR.kat (by omega), hR2.kat (by omega)]; exact hinv i (by omega))
            rw [hR.klen, hR2.klen] at hc
            have hc2 : 0 ≤ cmpK (kyR R) (kyR R2) := by rw [hc]; by_cases z : R.2.1 = R2.2.1; (rw [if_pos z]; decide); (rw [if_neg z, if_neg (by omega)]; decide)
            exact hp_iret S hret hlk (rfl) hM hS (⟨rfl, bo_f (fun q => by unfold befR at q; rcases q with q | ⟨q, q2 | q2⟩ <;> omega)⟩) d_MD_isBefore_160
          · refine lv_iconst (v := nI 1) hx hb d_MD_isBefore_155 rfl ?_
            refine lv_goto (tgt := 160) hx hb d_MD_isBefore_156 (by decide) ?_
            have hc := cmpK_pre (kyR R) (kyR R2) (fun i h1 h2 => by rw [hR.klen] at h1; rw [hR2.klen] at h2; rw [hR.kat (by omega), hR2.kat (by omega)]; exact hinv i (by omega))
            rw [hR.klen, hR2.klen] at hc
            rw [if_neg (by omega), if_pos (by omega)] at hc
            exact hp_iret S hret hlk (rfl) hM hS (⟨rfl, bo_t (Or.inr ⟨by omega, Or.inr ⟨by omega, by omega⟩⟩)⟩) d_MD_isBefore_160
        · refine lv_iload_n hx hb d_MD_isBefore_68 rfl (lv_at hl 3 rfl) ?_
          refine lv_aload_n hx hb d_MD_isBefore_69 rfl (lv_at hl 0 rfl) ?_
          refine hp_get S hK hM i_MD f_md rfl 11 (by decide) mf_MD_100 (fun _ h9 => h9) rfl d_MD_isBefore_70 ?_
          refine lv_iload_n hx hb d_MD_isBefore_73 rfl (lv_at hl 2 rfl) ?_
          refine hp_iald S hK hM 1 f_ky rfl rb rfl (by omega) (by omega) d_MD_isBefore_74 ?_
          refine nb_ge (tgt := 140) hx hb d_MD_isBefore_75 (by decide) (by omega) (by have := b_ky (rb); omega) (fun hjb => ?_) (fun hjb => ?_)
          · refine lv_aload_n hx hb d_MD_isBefore_140 rfl (lv_at hl 0 rfl) ?_
            refine hp_get S hK hM i_MD f_md rfl 11 (by decide) mf_MD_100 (fun _ h9 => h9) rfl d_MD_isBefore_141 ?_
            refine lv_iload_n hx hb d_MD_isBefore_144 rfl (lv_at hl 1 rfl) ?_
            refine hp_iald S hK hM 1 f_ky rfl ra rfl (by omega) (by omega) d_MD_isBefore_145 ?_
            refine lv_aload_n hx hb d_MD_isBefore_146 rfl (lv_at hl 0 rfl) ?_
            refine hp_get S hK hM i_MD f_md rfl 11 (by decide) mf_MD_100 (fun _ h9 => h9) rfl d_MD_isBefore_147 ?_
            refine lv_iload_n hx hb d_MD_isBefore_150 rfl (lv_at hl 2 rfl) ?_
            refine hp_iald S hK hM 1 f_ky rfl rb rfl (by omega) (by omega) d_MD_isBefore_151 ?_
            refine nb_ge (tgt := 159) hx hb d_MD_isBefore_152 (by decide) (by have := b_ky (ra); omega) (by have := b_ky (rb); omega) (fun hll => ?_) (fun hll => ?_)
            · refine lv_iconst (v := nI 0) hx hb d_MD_isBefore_159 rfl ?_
              have hc := cmpK_pre (kyR R) (kyR R2) (fun i h1 h2 => by rw [hR.klen] at h1; rw [hR2.klen] at h2; rw [hR.kat (by omega), hR2.kat (by omega)]; exact hinv i (by omega))
              rw [hR.klen, hR2.klen] at hc
              have hc2 : 0 ≤ cmpK (kyR R) (kyR R2) := by rw [hc]; by_cases z : R.2.1 = R2.2.1; (rw [if_pos z]; decide); (rw [if_neg z, if_neg (by omega)]; decide)
              exact hp_iret S hret hlk (rfl) hM hS (⟨rfl, bo_f (fun q => by unfold befR at q; rcases q with q | ⟨q, q2 | q2⟩ <;> omega)⟩) d_MD_isBefore_160
            · refine lv_iconst (v := nI 1) hx hb d_MD_isBefore_155 rfl ?_
              refine lv_goto (tgt := 160) hx hb d_MD_isBefore_156 (by decide) ?_
              have hc := cmpK_pre (kyR R) (kyR R2) (fun i h1 h2 => by rw [hR.klen] at h1; rw [hR2.klen] at h2; rw [hR.kat (by omega), hR2.kat (by omega)]; exact hinv i (by omega))
              rw [hR.klen, hR2.klen] at hc
              rw [if_neg (by omega), if_pos (by omega)] at hc
              exact hp_iret S hret hlk (rfl) hM hS (⟨rfl, bo_t (Or.inr ⟨by omega, Or.inr ⟨by omega, by omega⟩⟩)⟩) d_MD_isBefore_160
          · refine lv_aload_n hx hb d_MD_isBefore_78 rfl (lv_at hl 0 rfl) ?_
            refine hp_get S hK hM i_MD f_md rfl 12 (by decide) mf_MD_103 (fun _ h9 => h9) rfl d_MD_isBefore_79 ?_
            refine lv_bipush (v := nI 64) hx hb d_MD_isBefore_82 rfl ?_
            refine lv_iload_n hx hb d_MD_isBefore_84 rfl (lv_at hl 1 rfl) ?_
            refine nb_imul hx hb d_MD_isBefore_85 ?_
            refine lv_iload_n hx hb d_MD_isBefore_86 rfl (lv_at hl 3 rfl) ?_
            refine nb_iadd hx hb d_MD_isBefore_87 ?_
            refine hp_iald S hK hM 1 f_le rfl ((64 * ra) + j) rfl (by omega) (by omega) d_MD_isBefore_88 ?_
            refine lv_aload_n hx hb d_MD_isBefore_89 rfl (lv_at hl 0 rfl) ?_
            refine hp_get S hK hM i_MD f_md rfl 12 (by decide) mf_MD_103 (fun _ h9 => h9) rfl d_MD_isBefore_90 ?_
            refine lv_bipush (v := nI 64) hx hb d_MD_isBefore_93 rfl ?_
            refine lv_iload_n hx hb d_MD_isBefore_95 rfl (lv_at hl 2 rfl) ?_
            refine nb_imul hx hb d_MD_isBefore_96 ?_
            refine lv_iload_n hx hb d_MD_isBefore_97 rfl (lv_at hl 3 rfl) ?_
            refine nb_iadd hx hb d_MD_isBefore_98 ?_
            refine hp_iald S hK hM 1 f_le rfl ((64 * rb) + j) rfl (by omega) (by omega) d_MD_isBefore_99 ?_
            refine nb_eq (tgt := 134) hx hb d_MD_isBefore_100 (by decide) (by have := b_le (((64 * ra) + j)); omega) (by have := b_le (((64 * rb) + j)); omega) (fun hne => ?_) (fun hne => ?_)
            · refine lv_iinc (v := nI (j + 1)) (lv' := [(3, .int (nI (j + 1))), (0, .ref md), (1, .int (nI ra)), (2, .int (nI rb))]) hx hb d_MD_isBefore_134 hl (k := 3) rfl (nI_add j 1) (by decide) rfl (fun ls hl => ?_)
              refine lv_goto (tgt := 58) hx hb d_MD_isBefore_137 (by decide) ?_
              exact ih1 (ls := ls) (hl := lv_sub hl [1, 2, 3, 0] rfl) (hn1 := by omega) (j := j + 1) (hj1 := by omega) (hj2 := by omega) (hinv := lt_s hinv hne) (H := H) (locs := locs) (hM := hM) (hS := hS)
            · refine lv_aload_n hx hb d_MD_isBefore_103 rfl (lv_at hl 0 rfl) ?_
              refine hp_get S hK hM i_MD f_md rfl 12 (by decide) mf_MD_103 (fun _ h9 => h9) rfl d_MD_isBefore_104 ?_
              refine lv_bipush (v := nI 64) hx hb d_MD_isBefore_107 rfl ?_
              refine lv_iload_n hx hb d_MD_isBefore_109 rfl (lv_at hl 1 rfl) ?_
              refine nb_imul hx hb d_MD_isBefore_110 ?_
              refine lv_iload_n hx hb d_MD_isBefore_111 rfl (lv_at hl 3 rfl) ?_
              refine nb_iadd hx hb d_MD_isBefore_112 ?_
              refine hp_iald S hK hM 1 f_le rfl ((64 * ra) + j) rfl (by omega) (by omega) d_MD_isBefore_113 ?_
              refine lv_aload_n hx hb d_MD_isBefore_114 rfl (lv_at hl 0 rfl) ?_
              refine hp_get S hK hM i_MD f_md rfl 12 (by decide) mf_MD_103 (fun _ h9 => h9) rfl d_MD_isBefore_115 ?_
              refine lv_bipush (v := nI 64) hx hb d_MD_isBefore_118 rfl ?_
              refine lv_iload_n hx hb d_MD_isBefore_120 rfl (lv_at hl 2 rfl) ?_
              refine nb_imul hx hb d_MD_isBefore_121 ?_
              refine lv_iload_n hx hb d_MD_isBefore_122 rfl (lv_at hl 3 rfl) ?_
              refine nb_iadd hx hb d_MD_isBefore_123 ?_
              refine hp_iald S hK hM 1 f_le rfl ((64 * rb) + j) rfl (by omega) (by omega) d_MD_isBefore_124 ?_
              refine nb_ge (tgt := 132) hx hb d_MD_isBefore_125 (by decide) (by have := b_le (((64 * ra) + j)); omega) (by have := b_le (((64 * rb) + j)); omega) (fun hlt => ?_) (fun hlt => ?_)
              · refine lv_iconst (v := nI 0) hx hb d_MD_isBefore_132 rfl ?_
                have hc := cmpK_diff (kyR R) (kyR R2) j (by rw [hR.klen]; omega) (by rw [hR2.klen]; omega) (fun i hi => by rw [hR.kat (by omega), hR2.kat (by omega)]; exact hinv i hi) (by rw [hR.kat (by omega), hR2.kat (by omega)]; exact hne)
                rw [hR.kat (by omega), hR2.kat (by omega), if_neg (by omega)] at hc
                exact hp_iret S hret hlk (rfl) hM hS (⟨rfl, bo_f (fun q => by unfold befR at q; rcases q with q | ⟨q, q2 | q2⟩ <;> omega)⟩) d_MD_isBefore_133
              · refine lv_iconst (v := nI 1) hx hb d_MD_isBefore_128 rfl ?_
                refine lv_goto (tgt := 133) hx hb d_MD_isBefore_129 (by decide) ?_
                have hc := cmpK_diff (kyR R) (kyR R2) j (by rw [hR.klen]; omega) (by rw [hR2.klen]; omega) (fun i hi => by rw [hR.kat (by omega), hR2.kat (by omega)]; exact hinv i hi) (by rw [hR.kat (by omega), hR2.kat (by omega)]; exact hne)
                rw [hR.kat (by omega), hR2.kat (by omega), if_pos (by omega)] at hc
                exact hp_iret S hret hlk (rfl) hM hS (⟨rfl, bo_t (Or.inr ⟨by omega, Or.inr ⟨by omega, by omega⟩⟩)⟩) d_MD_isBefore_133
    · refine lv_iload_n hx hb d_MD_isBefore_45 rfl (lv_at hl 1 rfl) ?_
      refine lv_iload_n hx hb d_MD_isBefore_46 rfl (lv_at hl 2 rfl) ?_
      refine nb_ge (tgt := 54) hx hb d_MD_isBefore_47 (by decide) (by omega) (by omega) (fun hrr => ?_) (fun hrr => ?_)
      · refine lv_iconst (v := nI 0) hx hb d_MD_isBefore_54 rfl ?_
        exact hp_iret S hret hlk (rfl) hM hS (⟨rfl, bo_f (fun q => by unfold befR at q; rcases q with q | ⟨q, q2 | q2⟩ <;> omega)⟩) d_MD_isBefore_55
      · refine lv_iconst (v := nI 1) hx hb d_MD_isBefore_50 rfl ?_
        refine lv_goto (tgt := 55) hx hb d_MD_isBefore_51 (by decide) ?_
        exact hp_iret S hret hlk (rfl) hM hS (⟨rfl, bo_t (Or.inr ⟨by omega, Or.inl ⟨by omega, by omega⟩⟩)⟩) d_MD_isBefore_55
  · refine lv_aload_n hx hb d_MD_isBefore_15 rfl (lv_at hl 0 rfl) ?_
    refine hp_get S hK hM i_MD f_md rfl 9 (by decide) mf_MD_94 (fun _ h9 => h9) rfl d_MD_isBefore_16 ?_
    refine lv_iload_n hx hb d_MD_isBefore_19 rfl (lv_at hl 1 rfl) ?_
    refine hp_iald S hK hM 1 f_kd rfl ra rfl (by omega) (by omega) d_MD_isBefore_20 ?_
    refine lv_aload_n hx hb d_MD_isBefore_21 rfl (lv_at hl 0 rfl) ?_
    refine hp_get S hK hM i_MD f_md rfl 9 (by decide) mf_MD_94 (fun _ h9 => h9) rfl d_MD_isBefore_22 ?_
    refine lv_iload_n hx hb d_MD_isBefore_25 rfl (lv_at hl 2 rfl) ?_
    refine hp_iald S hK hM 1 f_kd rfl rb rfl (by omega) (by omega) d_MD_isBefore_26 ?_
    refine nb_ge (tgt := 34) hx hb d_MD_isBefore_27 (by decide) (by have := b_kd (ra); omega) (by have := b_kd (rb); omega) (fun hkl1 => ?_) (fun hkl1 => ?_)
    · refine lv_iconst (v := nI 0) hx hb d_MD_isBefore_34 rfl ?_
      exact hp_iret S hret hlk (rfl) hM hS (⟨rfl, bo_f (fun q => by unfold befR at q; rcases q with q | q <;> omega)⟩) d_MD_isBefore_35
    · refine lv_iconst (v := nI 1) hx hb d_MD_isBefore_30 rfl ?_
      refine lv_goto (tgt := 35) hx hb d_MD_isBefore_31 (by decide) ?_
      exact hp_iret S hret hlk (rfl) hM hS (⟨rfl, bo_t (Or.inl (by omega))⟩) d_MD_isBefore_35
set_option maxHeartbeats 4000000 in
set_option maxRecDepth 100000 in
/-- two rows are the same -/
theorem c_MD_same (l : Launch) (D : va_G) (ct : Nat → ClassId) (Z : hp_Z) (hZ : hp_Zok Z) (M : hp_M) (sz : Nat) (md : Nat) (B : MA) (V : MS) (hw : mdS ct M md B V) (ra rb : Nat) (hra : ra < 288) (hrb : rb < 288) (R R2 : MR) (hR : mrA V ra R) (hR2 : mrA V rb R2) : Mi l y_MD_same b_MD_same 5 (some .boolean) 0 0 0 0 [.ref md, .int (nI ra), .int (nI rb)] D ct Z M sz (fun r M1 => M1 = M ∧ bo r (sameR R R2)) := by
  refine hp_start (by decide) (Nat.le_of_ble_eq_true rfl) (fun p e s m below meth c ls S hret hlk hnm hsz hK hM hS hA hz hl => ?_)
  have hx := S.1
  have hb := S.2.1
  have hl : lv_has ls 5 [(0, .ref md), (1, .int (nI ra)), (2, .int (nI rb))] := hl
  obtain ⟨f_md, f_ro, f_te, f_he, f_cn, f_kd, f_sz, f_ky, f_le, f_dg, f_nm, f_ns, f_sl, f_sb, f_su, f_wi, f_tu, hB, hV⟩ := id hw
  obtain ⟨n_kdsz, n_kdky, n_szky, n_hens, n_hesu, n_hetu, n_nssu, n_nstu, n_sutu, n_tewi⟩ := id hB
  obtain ⟨b_te, b_cn, b_kd, b_sz, b_ky, b_le, b_nm, b_ns, b_sl, b_sb, b_co, b_ty, b_ac, b_al, b_sd, b_ss⟩ := id hV
  obtain ⟨hkd, hky, hsz2, hle, hdg2, hkl, hl64, -, -⟩ := id hR
  obtain ⟨hkd2, hky2, hsz22, hle2, hdg22, hkl2, hl642, -, -⟩ := id hR2
  refine w_join hM hS (P := fun z => bo z (R.1 = R2.1 ∧ R.2.2.1.length = R2.2.2.1.length)) (pc2 := 35) (rest := []) (fun v1 H locs hM hS hv1 => ?_) (fun hjv1 => ?_)
  · refine lv_istore_n (lv' := [(3, .int v1), (0, .ref md), (1, .int (nI ra)), (2, .int (nI rb))]) hx hb d_MD_same_35 rfl hl (by decide) rfl (fun ls hl => ?_)
    refine lv_iconst (v := nI 0) hx hb d_MD_same_36 rfl ?_
    refine lv_istore (lv' := [(4, .int (nI 0)), (3, .int v1), (0, .ref md), (1, .int (nI ra)), (2, .int (nI rb))]) hx hb d_MD_same_37 hl (by decide) rfl (fun ls hl => ?_)
    replace hl : lv_has ls 5 [(0, .ref md), (1, .int (nI ra)), (2, .int (nI rb)), (3, .int v1), (4, .int (nI 0))] := lv_sub hl [2, 3, 4, 1, 0] rfl
    obtain ⟨j, e9j⟩ : ∃ z : Nat, z = 0 := ⟨_, rfl⟩
    obtain ⟨u, e9u⟩ : ∃ z : Int32, z = v1 := ⟨_, rfl⟩
    replace hl : lv_has ls 5 [(0, .ref md), (1, .int (nI ra)), (2, .int (nI rb)), (3, .int u), (4, .int (nI j))] := by subst e9j e9u; exact hl
    have hj : j ≤ R.2.2.1.length := by subst e9j e9u; exact Nat.zero_le _
    have hu : bo u (R.1 = R2.1 ∧ R.2.2.1.length = R2.2.2.1.length ∧ ∀ i, i < j → V.le (64 * ra + i) = V.le (64 * rb + i)) := by subst e9j e9u; exact bo_iff hv1 ⟨fun q => ⟨q.1, q.2, fun i z => absurd z (Nat.not_lt_zero i)⟩, fun q => ⟨q.1, q.2.1⟩⟩
    obtain ⟨fu1, hn1⟩ : ∃ fu : Nat, R.2.2.1.length ≤ j + fu := ⟨R.2.2.1.length, by omega⟩
    clear e9j e9u
    induction fu1 generalizing j u H locs ls with
    | zero =>
      refine lv_iload hx hb d_MD_same_39 (lv_at hl 4 rfl) ?_
      refine lv_aload_n hx hb d_MD_same_41 rfl (lv_at hl 0 rfl) ?_
      refine hp_get S hK hM i_MD f_md rfl 10 (by decide) mf_MD_97 (fun _ h9 => h9) rfl d_MD_same_42 ?_
      refine lv_iload_n hx hb d_MD_same_45 rfl (lv_at hl 1 rfl) ?_
      refine hp_iald S hK hM 1 f_sz rfl ra rfl (by omega) (by omega) d_MD_same_46 ?_
      refine nb_ge (tgt := 93) hx hb d_MD_same_47 (by decide) (by omega) (by have := b_sz (ra); omega) (fun hjn => ?_) (fun hjn => ?_)
      · refine lv_iconst (v := nI 0) hx hb d_MD_same_93 rfl ?_
        refine lv_istore (lv' := [(4, .int (nI 0)), (0, .ref md), (1, .int (nI ra)), (2, .int (nI rb)), (3, .int u)]) hx hb d_MD_same_94 hl (by decide) rfl (fun ls hl => ?_)
        have hu9 : bo u (R.1 = R2.1 ∧ R.2.2.1 = R2.2.2.1) := bo_iff hu ⟨fun q => by first | exact absurd q hQ | exact ⟨q.1, leq q.2.1 (fun i hi => by rw [← hle i hi, ← hle2 i (by have := q.2.1; omega)]; exact q.2.2 i (by omega))⟩, fun q => ⟨q.1, by rw [q.2], fun i hi => by rw [hle i (by omega), hle2 i (by rw [← q.2]; omega), q.2]⟩⟩
        replace hl : lv_has ls 5 [(0, .ref md), (1, .int (nI ra)), (2, .int (nI rb)), (3, .int u), (4, .int (nI 0))] := lv_sub hl [1, 2, 3, 4, 0] rfl
        obtain ⟨j8, e9j8⟩ : ∃ z : Nat, z = 0 := ⟨_, rfl⟩
        obtain ⟨x8, e9x8⟩ : ∃ z : Int32, z = u := ⟨_, rfl⟩
        replace hl : lv_has ls 5 [(0, .ref md), (1, .int (nI ra)), (2, .int (nI rb)), (3, .int x8), (4, .int (nI j8))] := by subst e9j8 e9x8; exact hl
        have hj8 : j8 ≤ 8 := by subst e9j8 e9x8; exact Nat.zero_le _
        have hx8 : bo x8 (R.1 = R2.1 ∧ R.2.2.1 = R2.2.2.1 ∧ ((R.1 = 1 ∨ R.1 = 3) → ∀ i, i < j8 → R.2.2.2 i = R2.2.2.2 i)) := by subst e9j8 e9x8; exact bo_iff hu9 ⟨fun q => ⟨q.1, q.2, fun _ i z => absurd z (Nat.not_lt_zero i)⟩, fun q => ⟨q.1, q.2.1⟩⟩
        obtain ⟨fu2, hn2⟩ : ∃ fu : Nat, 8 ≤ j8 + fu := ⟨8, by omega⟩
        clear e9j8 e9x8
        induction fu2 generalizing j8 x8 H locs ls with
        | zero =>
          refine lv_iload hx hb d_MD_same_96 (lv_at hl 4 rfl) ?_
          refine lv_bipush (v := nI 8) hx hb d_MD_same_98 rfl ?_
          refine nb_ge (tgt := 166) hx hb d_MD_same_100 (by decide) (by omega) (by omega) (fun h8 => ?_) (fun h8 => ?_)
          · refine lv_iload_n hx hb d_MD_same_166 rfl (lv_at hl 3 rfl) ?_
            exact hp_iret S hret hlk (bo_nar hx8) hM hS (⟨rfl, bo_iff hx8 ⟨fun q => ⟨q.1, q.2.1, fun z i hi => by first | exact absurd q hQ2 | omega | exact q.2.2 z i (by omega)⟩, fun q => ⟨q.1, q.2.1, fun z i hi => q.2.2 z i (by omega)⟩⟩⟩) d_MD_same_167
          · exact absurd hn2 (by omega)
        | succ fu2 ih2 =>
          refine lv_iload hx hb d_MD_same_96 (lv_at hl 4 rfl) ?_
          refine lv_bipush (v := nI 8) hx hb d_MD_same_98 rfl ?_
          refine nb_ge (tgt := 166) hx hb d_MD_same_100 (by decide) (by omega) (by omega) (fun h8 => ?_) (fun h8 => ?_)
          · refine lv_iload_n hx hb d_MD_same_166 rfl (lv_at hl 3 rfl) ?_
            exact hp_iret S hret hlk (bo_nar hx8) hM hS (⟨rfl, bo_iff hx8 ⟨fun q => ⟨q.1, q.2.1, fun z i hi => by first | exact absurd q hQ2 | omega | exact q.2.2 z i (by omega)⟩, fun q => ⟨q.1, q.2.1, fun z i hi => q.2.2 z i (by omega)⟩⟩⟩) d_MD_same_167
          · refine lv_iload_n hx hb d_MD_same_103 rfl (lv_at hl 3 rfl) ?_
            refine nt_eq (tgt := 166) hx hb d_MD_same_104 (by decide) hx8 (fun hQ2 => ?_) (fun hQ2 => ?_)
            · refine lv_iload_n hx hb d_MD_same_166 rfl (lv_at hl 3 rfl) ?_
              exact hp_iret S hret hlk (bo_nar hx8) hM hS (⟨rfl, bo_iff hx8 ⟨fun q => ⟨q.1, q.2.1, fun z i hi => by first | exact absurd q hQ2 | omega | exact q.2.2 z i (by omega)⟩, fun q => ⟨q.1, q.2.1, fun z i hi => q.2.2 z i (by omega)⟩⟩⟩) d_MD_same_167
            · refine lv_aload_n hx hb d_MD_same_107 rfl (lv_at hl 0 rfl) ?_
              refine hp_get S hK hM i_MD f_md rfl 9 (by decide) mf_MD_94 (fun _ h9 => h9) rfl d_MD_same_108 ?_
              refine lv_iload_n hx hb d_MD_same_111 rfl (lv_at hl 1 rfl) ?_
              refine hp_iald S hK hM 1 f_kd rfl ra rfl (by omega) (by omega) d_MD_same_112 ?_
              refine lv_iconst (v := nI 1) hx hb d_MD_same_113 rfl ?_
              refine nb_eq (tgt := 127) hx hb d_MD_same_114 (by decide) (by have := b_kd (ra); omega) (by omega) (fun hk1 => ?_) (fun hk1 => ?_)
              · have h13 : R.1 = 1 ∨ R.1 = 3 := by omega
                refine w_join hM hS (P := fun z => bo z (V.dg (8 * ra + j8) = V.dg (8 * rb + j8))) (pc2 := 159) (rest := []) (fun v2 H locs hM hS hv2 => ?_) (fun hjv2 => ?_)
                · refine lv_istore_n (lv' := [(3, .int v2), (0, .ref md), (1, .int (nI ra)), (2, .int (nI rb)), (4, .int (nI j8))]) hx hb d_MD_same_159 rfl hl (by decide) rfl (fun ls hl => ?_)
                  refine lv_iinc (v := nI (j8 + 1)) (lv' := [(4, .int (nI (j8 + 1))), (3, .int v2), (0, .ref md), (1, .int (nI ra)), (2, .int (nI rb))]) hx hb d_MD_same_160 hl (k := 4) rfl (nI_add j8 1) (by decide) rfl (fun ls hl => ?_)
                  refine lv_goto (tgt := 96) hx hb d_MD_same_163 (by decide) ?_
                  exact ih2 (ls := ls) (hl := lv_sub hl [2, 3, 4, 1, 0] rfl) (hn2 := by omega) (j8 := j8 + 1) (x8 := v2) (hj8 := by omega) (hx8 := bo_iff hv2 ⟨fun q => ⟨hQ2.1, hQ2.2.1, fun z => lt_s (hQ2.2.2 z) (by rw [← hdg2 j8 (by omega), ← hdg22 j8 (by omega)]; exact q)⟩, fun q => by rw [hdg2 j8 (by omega), hdg22 j8 (by omega)]; exact q.2.2 h13 j8 (Nat.lt_succ_self j8)⟩) (H := H) (locs := locs) (hM := hM) (hS := hS)
                · refine lv_aload_n hx hb d_MD_same_127 rfl (lv_at hl 0 rfl) ?_
                  refine hp_get S hK hM i_MD f_md rfl 13 (by decide) mf_MD_106 (fun _ h9 => h9) rfl d_MD_same_128 ?_
                  refine lv_bipush (v := nI 8) hx hb d_MD_same_131 rfl ?_
                  refine lv_iload_n hx hb d_MD_same_133 rfl (lv_at hl 1 rfl) ?_
                  refine nb_imul hx hb d_MD_same_134 ?_
                  refine lv_iload hx hb d_MD_same_135 (lv_at hl 4 rfl) ?_
                  refine nb_iadd hx hb d_MD_same_137 ?_
                  refine hp_iald S hK hM 1 f_dg rfl ((8 * ra) + j8) rfl (by omega) (by omega) d_MD_same_138 ?_
                  refine lv_aload_n hx hb d_MD_same_139 rfl (lv_at hl 0 rfl) ?_
                  refine hp_get S hK hM i_MD f_md rfl 13 (by decide) mf_MD_106 (fun _ h9 => h9) rfl d_MD_same_140 ?_
                  refine lv_bipush (v := nI 8) hx hb d_MD_same_143 rfl ?_
                  refine lv_iload_n hx hb d_MD_same_145 rfl (lv_at hl 2 rfl) ?_
                  refine nb_imul hx hb d_MD_same_146 ?_
                  refine lv_iload hx hb d_MD_same_147 (lv_at hl 4 rfl) ?_
                  refine nb_iadd hx hb d_MD_same_149 ?_
                  refine hp_iald S hK hM 1 f_dg rfl ((8 * rb) + j8) rfl (by omega) (by omega) d_MD_same_150 ?_
                  refine lv_icmp_ne (tgt := 158) hx hb d_MD_same_151 (by decide) (fun hdq => ?_) (fun hdq => ?_)
                  · refine lv_iconst (v := nI 0) hx hb d_MD_same_158 rfl ?_
                    exact hjv2 _ H _ hM hS (bo_f (hdq))
                  · refine lv_iconst (v := nI 1) hx hb d_MD_same_154 rfl ?_
                    refine lv_goto (tgt := 159) hx hb d_MD_same_155 (by decide) ?_
                    exact hjv2 _ H _ hM hS (bo_t (hdq))
              · refine lv_aload_n hx hb d_MD_same_117 rfl (lv_at hl 0 rfl) ?_
                refine hp_get S hK hM i_MD f_md rfl 9 (by decide) mf_MD_94 (fun _ h9 => h9) rfl d_MD_same_118 ?_
                refine lv_iload_n hx hb d_MD_same_121 rfl (lv_at hl 1 rfl) ?_
                refine hp_iald S hK hM 1 f_kd rfl ra rfl (by omega) (by omega) d_MD_same_122 ?_
                refine lv_iconst (v := nI 3) hx hb d_MD_same_123 rfl ?_
                refine nb_ne (tgt := 166) hx hb d_MD_same_124 (by decide) (by have := b_kd (ra); omega) (by omega) (fun hk3 => ?_) (fun hk3 => ?_)
                · refine lv_iload_n hx hb d_MD_same_166 rfl (lv_at hl 3 rfl) ?_
                  exact hp_iret S hret hlk (bo_nar hx8) hM hS (⟨rfl, bo_iff hx8 ⟨fun q => ⟨q.1, q.2.1, fun z i hi => by first | exact absurd q hQ2 | omega | exact q.2.2 z i (by omega)⟩, fun q => ⟨q.1, q.2.1, fun z i hi => q.2.2 z i (by omega)⟩⟩⟩) d_MD_same_167
                · have h13 : R.1 = 1 ∨ R.1 = 3 := by omega
                  refine w_join hM hS (P := fun z => bo z (V.dg (8 * ra + j8) = V.dg (8 * rb + j8))) (pc2 := 159) (rest := []) (fun v3 H locs hM hS hv3 => ?_) (fun hjv3 => ?_)
                  · refine lv_istore_n (lv' := [(3, .int v3), (0, .ref md), (1, .int (nI ra)), (2, .int (nI rb)), (4, .int (nI j8))]) hx hb d_MD_same_159 rfl hl (by decide) rfl (fun ls hl => ?_)
                    refine lv_iinc (v := nI (j8 + 1)) (lv' := [(4, .int (nI (j8 + 1))), (3, .int v3), (0, .ref md), (1, .int (nI ra)), (2, .int (nI rb))]) hx hb d_MD_same_160 hl (k := 4) rfl (nI_add j8 1) (by decide) rfl (fun ls hl => ?_)
                    refine lv_goto (tgt := 96) hx hb d_MD_same_163 (by decide) ?_
                    exact ih2 (ls := ls) (hl := lv_sub hl [2, 3, 4, 1, 0] rfl) (hn2 := by omega) (j8 := j8 + 1) (x8 := v3) (hj8 := by omega) (hx8 := bo_iff hv3 ⟨fun q => ⟨hQ2.1, hQ2.2.1, fun z => lt_s (hQ2.2.2 z) (by rw [← hdg2 j8 (by omega), ← hdg22 j8 (by omega)]; exact q)⟩, fun q => by rw [hdg2 j8 (by omega), hdg22 j8 (by omega)]; exact q.2.2 h13 j8 (Nat.lt_succ_self j8)⟩) (H := H) (locs := locs) (hM := hM) (hS := hS)
                  · refine lv_aload_n hx hb d_MD_same_127 rfl (lv_at hl 0 rfl) ?_
                    refine hp_get S hK hM i_MD f_md rfl 13 (by decide) mf_MD_106 (fun _ h9 => h9) rfl d_MD_same_128 ?_
                    refine lv_bipush (v := nI 8) hx hb d_MD_same_131 rfl ?_
                    refine lv_iload_n hx hb d_MD_same_133 rfl (lv_at hl 1 rfl) ?_
                    refine nb_imul hx hb d_MD_same_134 ?_
                    refine lv_iload hx hb d_MD_same_135 (lv_at hl 4 rfl) ?_
                    refine nb_iadd hx hb d_MD_same_137 ?_
                    refine hp_iald S hK hM 1 f_dg rfl ((8 * ra) + j8) rfl (by omega) (by omega) d_MD_same_138 ?_
                    refine lv_aload_n hx hb d_MD_same_139 rfl (lv_at hl 0 rfl) ?_
                    refine hp_get S hK hM i_MD f_md rfl 13 (by decide) mf_MD_106 (fun _ h9 => h9) rfl d_MD_same_140 ?_
                    refine lv_bipush (v := nI 8) hx hb d_MD_same_143 rfl ?_
                    refine lv_iload_n hx hb d_MD_same_145 rfl (lv_at hl 2 rfl) ?_
                    refine nb_imul hx hb d_MD_same_146 ?_
                    refine lv_iload hx hb d_MD_same_147 (lv_at hl 4 rfl) ?_
                    refine nb_iadd hx hb d_MD_same_149 ?_
                    refine hp_iald S hK hM 1 f_dg rfl ((8 * rb) + j8) rfl (by omega) (by omega) d_MD_same_150 ?_
                    refine lv_icmp_ne (tgt := 158) hx hb d_MD_same_151 (by decide) (fun hdq => ?_) (fun hdq => ?_)
                    · refine lv_iconst (v := nI 0) hx hb d_MD_same_158 rfl ?_
                      exact hjv3 _ H _ hM hS (bo_f (hdq))
                    · refine lv_iconst (v := nI 1) hx hb d_MD_same_154 rfl ?_
                      refine lv_goto (tgt := 159) hx hb d_MD_same_155 (by decide) ?_
                      exact hjv3 _ H _ hM hS (bo_t (hdq))
      · exact absurd hn1 (by omega)
    | succ fu1 ih1 =>
      refine lv_iload hx hb d_MD_same_39 (lv_at hl 4 rfl) ?_
      refine lv_aload_n hx hb d_MD_same_41 rfl (lv_at hl 0 rfl) ?_
      refine hp_get S hK hM i_MD f_md rfl 10 (by decide) mf_MD_97 (fun _ h9 => h9) rfl d_MD_same_42 ?_
      refine lv_iload_n hx hb d_MD_same_45 rfl (lv_at hl 1 rfl) ?_
      refine hp_iald S hK hM 1 f_sz rfl ra rfl (by omega) (by omega) d_MD_same_46 ?_
      refine nb_ge (tgt := 93) hx hb d_MD_same_47 (by decide) (by omega) (by have := b_sz (ra); omega) (fun hjn => ?_) (fun hjn => ?_)
      · refine lv_iconst (v := nI 0) hx hb d_MD_same_93 rfl ?_
        refine lv_istore (lv' := [(4, .int (nI 0)), (0, .ref md), (1, .int (nI ra)), (2, .int (nI rb)), (3, .int u)]) hx hb d_MD_same_94 hl (by decide) rfl (fun ls hl => ?_)
        have hu9 : bo u (R.1 = R2.1 ∧ R.2.2.1 = R2.2.2.1) := bo_iff hu ⟨fun q => by first | exact absurd q hQ | exact ⟨q.1, leq q.2.1 (fun i hi => by rw [← hle i hi, ← hle2 i (by have := q.2.1; omega)]; exact q.2.2 i (by omega))⟩, fun q => ⟨q.1, by rw [q.2], fun i hi => by rw [hle i (by omega), hle2 i (by rw [← q.2]; omega), q.2]⟩⟩
        replace hl : lv_has ls 5 [(0, .ref md), (1, .int (nI ra)), (2, .int (nI rb)), (3, .int u), (4, .int (nI 0))] := lv_sub hl [1, 2, 3, 4, 0] rfl
        obtain ⟨j8, e9j8⟩ : ∃ z : Nat, z = 0 := ⟨_, rfl⟩
        obtain ⟨x8, e9x8⟩ : ∃ z : Int32, z = u := ⟨_, rfl⟩
        replace hl : lv_has ls 5 [(0, .ref md), (1, .int (nI ra)), (2, .int (nI rb)), (3, .int x8), (4, .int (nI j8))] := by subst e9j8 e9x8; exact hl
        have hj8 : j8 ≤ 8 := by subst e9j8 e9x8; exact Nat.zero_le _
        have hx8 : bo x8 (R.1 = R2.1 ∧ R.2.2.1 = R2.2.2.1 ∧ ((R.1 = 1 ∨ R.1 = 3) → ∀ i, i < j8 → R.2.2.2 i = R2.2.2.2 i)) := by subst e9j8 e9x8; exact bo_iff hu9 ⟨fun q => ⟨q.1, q.2, fun _ i z => absurd z (Nat.not_lt_zero i)⟩, fun q => ⟨q.1, q.2.1⟩⟩
        obtain ⟨fu2, hn2⟩ : ∃ fu : Nat, 8 ≤ j8 + fu := ⟨8, by omega⟩
        clear e9j8 e9x8
        induction fu2 generalizing j8 x8 H locs ls with
        | zero =>
          refine lv_iload hx hb d_MD_same_96 (lv_at hl 4 rfl) ?_
          refine lv_bipush (v := nI 8) hx hb d_MD_same_98 rfl ?_
          refine nb_ge (tgt := 166) hx hb d_MD_same_100 (by decide) (by omega) (by omega) (fun h8 => ?_) (fun h8 => ?_)
          · refine lv_iload_n hx hb d_MD_same_166 rfl (lv_at hl 3 rfl) ?_
            exact hp_iret S hret hlk (bo_nar hx8) hM hS (⟨rfl, bo_iff hx8 ⟨fun q => ⟨q.1, q.2.1, fun z i hi => by first | exact absurd q hQ2 | omega | exact q.2.2 z i (by omega)⟩, fun q => ⟨q.1, q.2.1, fun z i hi => q.2.2 z i (by omega)⟩⟩⟩) d_MD_same_167
          · exact absurd hn2 (by omega)
        | succ fu2 ih2 =>
          refine lv_iload hx hb d_MD_same_96 (lv_at hl 4 rfl) ?_
          refine lv_bipush (v := nI 8) hx hb d_MD_same_98 rfl ?_
          refine nb_ge (tgt := 166) hx hb d_MD_same_100 (by decide) (by omega) (by omega) (fun h8 => ?_) (fun h8 => ?_)
          · refine lv_iload_n hx hb d_MD_same_166 rfl (lv_at hl 3 rfl) ?_
            exact hp_iret S hret hlk (bo_nar hx8) hM hS (⟨rfl, bo_iff hx8 ⟨fun q => ⟨q.1, q.2.1, fun z i hi => by first | exact absurd q hQ2 | omega | exact q.2.2 z i (by omega)⟩, fun q => ⟨q.1, q.2.1, fun z i hi => q.2.2 z i (by omega)⟩⟩⟩) d_MD_same_167
          · refine lv_iload_n hx hb d_MD_same_103 rfl (lv_at hl 3 rfl) ?_
            refine nt_eq (tgt := 166) hx hb d_MD_same_104 (by decide) hx8 (fun hQ2 => ?_) (fun hQ2 => ?_)
            · refine lv_iload_n hx hb d_MD_same_166 rfl (lv_at hl 3 rfl) ?_
              exact hp_iret S hret hlk (bo_nar hx8) hM hS (⟨rfl, bo_iff hx8 ⟨fun q => ⟨q.1, q.2.1, fun z i hi => by first | exact absurd q hQ2 | omega | exact q.2.2 z i (by omega)⟩, fun q => ⟨q.1, q.2.1, fun z i hi => q.2.2 z i (by omega)⟩⟩⟩) d_MD_same_167
            · refine lv_aload_n hx hb d_MD_same_107 rfl (lv_at hl 0 rfl) ?_
              refine hp_get S hK hM i_MD f_md rfl 9 (by decide) mf_MD_94 (fun _ h9 => h9) rfl d_MD_same_108 ?_
              refine lv_iload_n hx hb d_MD_same_111 rfl (lv_at hl 1 rfl) ?_
              refine hp_iald S hK hM 1 f_kd rfl ra rfl (by omega) (by omega) d_MD_same_112 ?_
              refine lv_iconst (v := nI 1) hx hb d_MD_same_113 rfl ?_
              refine nb_eq (tgt := 127) hx hb d_MD_same_114 (by decide) (by have := b_kd (ra); omega) (by omega) (fun hk1 => ?_) (fun hk1 => ?_)
              · have h13 : R.1 = 1 ∨ R.1 = 3 := by omega
                refine w_join hM hS (P := fun z => bo z (V.dg (8 * ra + j8) = V.dg (8 * rb + j8))) (pc2 := 159) (rest := []) (fun v4 H locs hM hS hv4 => ?_) (fun hjv4 => ?_)
                · refine lv_istore_n (lv' := [(3, .int v4), (0, .ref md), (1, .int (nI ra)), (2, .int (nI rb)), (4, .int (nI j8))]) hx hb d_MD_same_159 rfl hl (by decide) rfl (fun ls hl => ?_)
                  refine lv_iinc (v := nI (j8 + 1)) (lv' := [(4, .int (nI (j8 + 1))), (3, .int v4), (0, .ref md), (1, .int (nI ra)), (2, .int (nI rb))]) hx hb d_MD_same_160 hl (k := 4) rfl (nI_add j8 1) (by decide) rfl (fun ls hl => ?_)
                  refine lv_goto (tgt := 96) hx hb d_MD_same_163 (by decide) ?_
                  exact ih2 (ls := ls) (hl := lv_sub hl [2, 3, 4, 1, 0] rfl) (hn2 := by omega) (j8 := j8 + 1) (x8 := v4) (hj8 := by omega) (hx8 := bo_iff hv4 ⟨fun q => ⟨hQ2.1, hQ2.2.1, fun z => lt_s (hQ2.2.2 z) (by rw [← hdg2 j8 (by omega), ← hdg22 j8 (by omega)]; exact q)⟩, fun q => by rw [hdg2 j8 (by omega), hdg22 j8 (by omega)]; exact q.2.2 h13 j8 (Nat.lt_succ_self j8)⟩) (H := H) (locs := locs) (hM := hM) (hS := hS)
                · refine lv_aload_n hx hb d_MD_same_127 rfl (lv_at hl 0 rfl) ?_
                  refine hp_get S hK hM i_MD f_md rfl 13 (by decide) mf_MD_106 (fun _ h9 => h9) rfl d_MD_same_128 ?_
                  refine lv_bipush (v := nI 8) hx hb d_MD_same_131 rfl ?_
                  refine lv_iload_n hx hb d_MD_same_133 rfl (lv_at hl 1 rfl) ?_
                  refine nb_imul hx hb d_MD_same_134 ?_
                  refine lv_iload hx hb d_MD_same_135 (lv_at hl 4 rfl) ?_
                  refine nb_iadd hx hb d_MD_same_137 ?_
                  refine hp_iald S hK hM 1 f_dg rfl ((8 * ra) + j8) rfl (by omega) (by omega) d_MD_same_138 ?_
                  refine lv_aload_n hx hb d_MD_same_139 rfl (lv_at hl 0 rfl) ?_
                  refine hp_get S hK hM i_MD f_md rfl 13 (by decide) mf_MD_106 (fun _ h9 => h9) rfl d_MD_same_140 ?_
                  refine lv_bipush (v := nI 8) hx hb d_MD_same_143 rfl ?_
                  refine lv_iload_n hx hb d_MD_same_145 rfl (lv_at hl 2 rfl) ?_
                  refine nb_imul hx hb d_MD_same_146 ?_
                  refine lv_iload hx hb d_MD_same_147 (lv_at hl 4 rfl) ?_
                  refine nb_iadd hx hb d_MD_same_149 ?_
                  refine hp_iald S hK hM 1 f_dg rfl ((8 * rb) + j8) rfl (by omega) (by omega) d_MD_same_150 ?_
                  refine lv_icmp_ne (tgt := 158) hx hb d_MD_same_151 (by decide) (fun hdq => ?_) (fun hdq => ?_)
                  · refine lv_iconst (v := nI 0) hx hb d_MD_same_158 rfl ?_
                    exact hjv4 _ H _ hM hS (bo_f (hdq))
                  · refine lv_iconst (v := nI 1) hx hb d_MD_same_154 rfl ?_
                    refine lv_goto (tgt := 159) hx hb d_MD_same_155 (by decide) ?_
                    exact hjv4 _ H _ hM hS (bo_t (hdq))
              · refine lv_aload_n hx hb d_MD_same_117 rfl (lv_at hl 0 rfl) ?_
                refine hp_get S hK hM i_MD f_md rfl 9 (by decide) mf_MD_94 (fun _ h9 => h9) rfl d_MD_same_118 ?_
                refine lv_iload_n hx hb d_MD_same_121 rfl (lv_at hl 1 rfl) ?_
                refine hp_iald S hK hM 1 f_kd rfl ra rfl (by omega) (by omega) d_MD_same_122 ?_
                refine lv_iconst (v := nI 3) hx hb d_MD_same_123 rfl ?_
                refine nb_ne (tgt := 166) hx hb d_MD_same_124 (by decide) (by have := b_kd (ra); omega) (by omega) (fun hk3 => ?_) (fun hk3 => ?_)
                · refine lv_iload_n hx hb d_MD_same_166 rfl (lv_at hl 3 rfl) ?_
                  exact hp_iret S hret hlk (bo_nar hx8) hM hS (⟨rfl, bo_iff hx8 ⟨fun q => ⟨q.1, q.2.1, fun z i hi => by first | exact absurd q hQ2 | omega | exact q.2.2 z i (by omega)⟩, fun q => ⟨q.1, q.2.1, fun z i hi => q.2.2 z i (by omega)⟩⟩⟩) d_MD_same_167
                · have h13 : R.1 = 1 ∨ R.1 = 3 := by omega
                  refine w_join hM hS (P := fun z => bo z (V.dg (8 * ra + j8) = V.dg (8 * rb + j8))) (pc2 := 159) (rest := []) (fun v5 H locs hM hS hv5 => ?_) (fun hjv5 => ?_)
                  · refine lv_istore_n (lv' := [(3, .int v5), (0, .ref md), (1, .int (nI ra)), (2, .int (nI rb)), (4, .int (nI j8))]) hx hb d_MD_same_159 rfl hl (by decide) rfl (fun ls hl => ?_)
                    refine lv_iinc (v := nI (j8 + 1)) (lv' := [(4, .int (nI (j8 + 1))), (3, .int v5), (0, .ref md), (1, .int (nI ra)), (2, .int (nI rb))]) hx hb d_MD_same_160 hl (k := 4) rfl (nI_add j8 1) (by decide) rfl (fun ls hl => ?_)
                    refine lv_goto (tgt := 96) hx hb d_MD_same_163 (by decide) ?_
                    exact ih2 (ls := ls) (hl := lv_sub hl [2, 3, 4, 1, 0] rfl) (hn2 := by omega) (j8 := j8 + 1) (x8 := v5) (hj8 := by omega) (hx8 := bo_iff hv5 ⟨fun q => ⟨hQ2.1, hQ2.2.1, fun z => lt_s (hQ2.2.2 z) (by rw [← hdg2 j8 (by omega), ← hdg22 j8 (by omega)]; exact q)⟩, fun q => by rw [hdg2 j8 (by omega), hdg22 j8 (by omega)]; exact q.2.2 h13 j8 (Nat.lt_succ_self j8)⟩) (H := H) (locs := locs) (hM := hM) (hS := hS)
                  · refine lv_aload_n hx hb d_MD_same_127 rfl (lv_at hl 0 rfl) ?_
                    refine hp_get S hK hM i_MD f_md rfl 13 (by decide) mf_MD_106 (fun _ h9 => h9) rfl d_MD_same_128 ?_
                    refine lv_bipush (v := nI 8) hx hb d_MD_same_131 rfl ?_
                    refine lv_iload_n hx hb d_MD_same_133 rfl (lv_at hl 1 rfl) ?_
                    refine nb_imul hx hb d_MD_same_134 ?_
                    refine lv_iload hx hb d_MD_same_135 (lv_at hl 4 rfl) ?_
                    refine nb_iadd hx hb d_MD_same_137 ?_
                    refine hp_iald S hK hM 1 f_dg rfl ((8 * ra) + j8) rfl (by omega) (by omega) d_MD_same_138 ?_
                    refine lv_aload_n hx hb d_MD_same_139 rfl (lv_at hl 0 rfl) ?_
                    refine hp_get S hK hM i_MD f_md rfl 13 (by decide) mf_MD_106 (fun _ h9 => h9) rfl d_MD_same_140 ?_
                    refine lv_bipush (v := nI 8) hx hb d_MD_same_143 rfl ?_
                    refine lv_iload_n hx hb d_MD_same_145 rfl (lv_at hl 2 rfl) ?_
                    refine nb_imul hx hb d_MD_same_146 ?_
                    refine lv_iload hx hb d_MD_same_147 (lv_at hl 4 rfl) ?_
                    refine nb_iadd hx hb d_MD_same_149 ?_
                    refine hp_iald S hK hM 1 f_dg rfl ((8 * rb) + j8) rfl (by omega) (by omega) d_MD_same_150 ?_
                    refine lv_icmp_ne (tgt := 158) hx hb d_MD_same_151 (by decide) (fun hdq => ?_) (fun hdq => ?_)
                    · refine lv_iconst (v := nI 0) hx hb d_MD_same_158 rfl ?_
                      exact hjv5 _ H _ hM hS (bo_f (hdq))
                    · refine lv_iconst (v := nI 1) hx hb d_MD_same_154 rfl ?_
                      refine lv_goto (tgt := 159) hx hb d_MD_same_155 (by decide) ?_
                      exact hjv5 _ H _ hM hS (bo_t (hdq))
      · refine lv_iload_n hx hb d_MD_same_50 rfl (lv_at hl 3 rfl) ?_
        refine nt_eq (tgt := 93) hx hb d_MD_same_51 (by decide) hu (fun hQ => ?_) (fun hQ => ?_)
        · refine lv_iconst (v := nI 0) hx hb d_MD_same_93 rfl ?_
          refine lv_istore (lv' := [(4, .int (nI 0)), (0, .ref md), (1, .int (nI ra)), (2, .int (nI rb)), (3, .int u)]) hx hb d_MD_same_94 hl (by decide) rfl (fun ls hl => ?_)
          have hu9 : bo u (R.1 = R2.1 ∧ R.2.2.1 = R2.2.2.1) := bo_iff hu ⟨fun q => by first | exact absurd q hQ | exact ⟨q.1, leq q.2.1 (fun i hi => by rw [← hle i hi, ← hle2 i (by have := q.2.1; omega)]; exact q.2.2 i (by omega))⟩, fun q => ⟨q.1, by rw [q.2], fun i hi => by rw [hle i (by omega), hle2 i (by rw [← q.2]; omega), q.2]⟩⟩
          replace hl : lv_has ls 5 [(0, .ref md), (1, .int (nI ra)), (2, .int (nI rb)), (3, .int u), (4, .int (nI 0))] := lv_sub hl [1, 2, 3, 4, 0] rfl
          obtain ⟨j8, e9j8⟩ : ∃ z : Nat, z = 0 := ⟨_, rfl⟩
          obtain ⟨x8, e9x8⟩ : ∃ z : Int32, z = u := ⟨_, rfl⟩
          replace hl : lv_has ls 5 [(0, .ref md), (1, .int (nI ra)), (2, .int (nI rb)), (3, .int x8), (4, .int (nI j8))] := by subst e9j8 e9x8; exact hl
          have hj8 : j8 ≤ 8 := by subst e9j8 e9x8; exact Nat.zero_le _
          have hx8 : bo x8 (R.1 = R2.1 ∧ R.2.2.1 = R2.2.2.1 ∧ ((R.1 = 1 ∨ R.1 = 3) → ∀ i, i < j8 → R.2.2.2 i = R2.2.2.2 i)) := by subst e9j8 e9x8; exact bo_iff hu9 ⟨fun q => ⟨q.1, q.2, fun _ i z => absurd z (Nat.not_lt_zero i)⟩, fun q => ⟨q.1, q.2.1⟩⟩
          obtain ⟨fu2, hn2⟩ : ∃ fu : Nat, 8 ≤ j8 + fu := ⟨8, by omega⟩
          clear e9j8 e9x8
          induction fu2 generalizing j8 x8 H locs ls with
          | zero =>
            refine lv_iload hx hb d_MD_same_96 (lv_at hl 4 rfl) ?_
            refine lv_bipush (v := nI 8) hx hb d_MD_same_98 rfl ?_
            refine nb_ge (tgt := 166) hx hb d_MD_same_100 (by decide) (by omega) (by omega) (fun h8 => ?_) (fun h8 => ?_)
            · refine lv_iload_n hx hb d_MD_same_166 rfl (lv_at hl 3 rfl) ?_
              exact hp_iret S hret hlk (bo_nar hx8) hM hS (⟨rfl, bo_iff hx8 ⟨fun q => ⟨q.1, q.2.1, fun z i hi => by first | exact absurd q hQ2 | omega | exact q.2.2 z i (by omega)⟩, fun q => ⟨q.1, q.2.1, fun z i hi => q.2.2 z i (by omega)⟩⟩⟩) d_MD_same_167
            · exact absurd hn2 (by omega)
          | succ fu2 ih2 =>
            refine lv_iload hx hb d_MD_same_96 (lv_at hl 4 rfl) ?_
            refine lv_bipush (v := nI 8) hx hb d_MD_same_98 rfl ?_
            refine nb_ge (tgt := 166) hx hb d_MD_same_100 (by decide) (by omega) (by omega) (fun h8 => ?_) (fun h8 => ?_)
            · refine lv_iload_n hx hb d_MD_same_166 rfl (lv_at hl 3 rfl) ?_
              exact hp_iret S hret hlk (bo_nar hx8) hM hS (⟨rfl, bo_iff hx8 ⟨fun q => ⟨q.1, q.2.1, fun z i hi => by first | exact absurd q hQ2 | omega | exact q.2.2 z i (by omega)⟩, fun q => ⟨q.1, q.2.1, fun z i hi => q.2.2 z i (by omega)⟩⟩⟩) d_MD_same_167
            · refine lv_iload_n hx hb d_MD_same_103 rfl (lv_at hl 3 rfl) ?_
              refine nt_eq (tgt := 166) hx hb d_MD_same_104 (by decide) hx8 (fun hQ2 => ?_) (fun hQ2 => ?_)
              · refine lv_iload_n hx hb d_MD_same_166 rfl (lv_at hl 3 rfl) ?_
                exact hp_iret S hret hlk (bo_nar hx8) hM hS (⟨rfl, bo_iff hx8 ⟨fun q => ⟨q.1, q.2.1, fun z i hi => by first | exact absurd q hQ2 | omega | exact q.2.2 z i (by omega)⟩, fun q => ⟨q.1, q.2.1, fun z i hi => q.2.2 z i (by omega)⟩⟩⟩) d_MD_same_167
              · refine lv_aload_n hx hb d_MD_same_107 rfl (lv_at hl 0 rfl) ?_
                refine hp_get S hK hM i_MD f_md rfl 9 (by decide) mf_MD_94 (fun _ h9 => h9) rfl d_MD_same_108 ?_
                refine lv_iload_n hx hb d_MD_same_111 rfl (lv_at hl 1 rfl) ?_
                refine hp_iald S hK hM 1 f_kd rfl ra rfl (by omega) (by omega) d_MD_same_112 ?_
                refine lv_iconst (v := nI 1) hx hb d_MD_same_113 rfl ?_
                refine nb_eq (tgt := 127) hx hb d_MD_same_114 (by decide) (by have := b_kd (ra); omega) (by omega) (fun hk1 => ?_) (fun hk1 => ?_)
                · have h13 : R.1 = 1 ∨ R.1 = 3 := by omega
                  refine w_join hM hS (P := fun z => bo z (V.dg (8 * ra + j8) = V.dg (8 * rb + j8))) (pc2 := 159) (rest := []) (fun v6 H locs hM hS hv6 => ?_) (fun hjv6 => ?_)
                  · refine lv_istore_n (lv' := [(3, .int v6), (0, .ref md), (1, .int (nI ra)), (2, .int (nI rb)), (4, .int (nI j8))]) hx hb d_MD_same_159 rfl hl (by decide) rfl (fun ls hl => ?_)
                    refine lv_iinc (v := nI (j8 + 1)) (lv' := [(4, .int (nI (j8 + 1))), (3, .int v6), (0, .ref md), (1, .int (nI ra)), (2, .int (nI rb))]) hx hb d_MD_same_160 hl (k := 4) rfl (nI_add j8 1) (by decide) rfl (fun ls hl => ?_)
                    refine lv_goto (tgt := 96) hx hb d_MD_same_163 (by decide) ?_
                    exact ih2 (ls := ls) (hl := lv_sub hl [2, 3, 4, 1, 0] rfl) (hn2 := by omega) (j8 := j8 + 1) (x8 := v6) (hj8 := by omega) (hx8 := bo_iff hv6 ⟨fun q => ⟨hQ2.1, hQ2.2.1, fun z => lt_s (hQ2.2.2 z) (by rw [← hdg2 j8 (by omega), ← hdg22 j8 (by omega)]; exact q)⟩, fun q => by rw [hdg2 j8 (by omega), hdg22 j8 (by omega)]; exact q.2.2 h13 j8 (Nat.lt_succ_self j8)⟩) (H := H) (locs := locs) (hM := hM) (hS := hS)
                  · refine lv_aload_n hx hb d_MD_same_127 rfl (lv_at hl 0 rfl) ?_
                    refine hp_get S hK hM i_MD f_md rfl 13 (by decide) mf_MD_106 (fun _ h9 => h9) rfl d_MD_same_128 ?_
                    refine lv_bipush (v := nI 8) hx hb d_MD_same_131 rfl ?_
                    refine lv_iload_n hx hb d_MD_same_133 rfl (lv_at hl 1 rfl) ?_
                    refine nb_imul hx hb d_MD_same_134 ?_
                    refine lv_iload hx hb d_MD_same_135 (lv_at hl 4 rfl) ?_
                    refine nb_iadd hx hb d_MD_same_137 ?_
                    refine hp_iald S hK hM 1 f_dg rfl ((8 * ra) + j8) rfl (by omega) (by omega) d_MD_same_138 ?_
                    refine lv_aload_n hx hb d_MD_same_139 rfl (lv_at hl 0 rfl) ?_
                    refine hp_get S hK hM i_MD f_md rfl 13 (by decide) mf_MD_106 (fun _ h9 => h9) rfl d_MD_same_140 ?_
                    refine lv_bipush (v := nI 8) hx hb d_MD_same_143 rfl ?_
                    refine lv_iload_n hx hb d_MD_same_145 rfl (lv_at hl 2 rfl) ?_
                    refine nb_imul hx hb d_MD_same_146 ?_
                    refine lv_iload hx hb d_MD_same_147 (lv_at hl 4 rfl) ?_
                    refine nb_iadd hx hb d_MD_same_149 ?_
                    refine hp_iald S hK hM 1 f_dg rfl ((8 * rb) + j8) rfl (by omega) (by omega) d_MD_same_150 ?_
                    refine lv_icmp_ne (tgt := 158) hx hb d_MD_same_151 (by decide) (fun hdq => ?_) (fun hdq => ?_)
                    · refine lv_iconst (v := nI 0) hx hb d_MD_same_158 rfl ?_
                      exact hjv6 _ H _ hM hS (bo_f (hdq))
                    · refine lv_iconst (v := nI 1) hx hb d_MD_same_154 rfl ?_
                      refine lv_goto (tgt := 159) hx hb d_MD_same_155 (by decide) ?_
                      exact hjv6 _ H _ hM hS (bo_t (hdq))
                · refine lv_aload_n hx hb d_MD_same_117 rfl (lv_at hl 0 rfl) ?_
                  refine hp_get S hK hM i_MD f_md rfl 9 (by decide) mf_MD_94 (fun _ h9 => h9) rfl d_MD_same_118 ?_
                  refine lv_iload_n hx hb d_MD_same_121 rfl (lv_at hl 1 rfl) ?_
                  refine hp_iald S hK hM 1 f_kd rfl ra rfl (by omega) (by omega) d_MD_same_122 ?_
                  refine lv_iconst (v := nI 3) hx hb d_MD_same_123 rfl ?_
                  refine nb_ne (tgt := 166) hx hb d_MD_same_124 (by decide) (by have := b_kd (ra); omega) (by omega) (fun hk3 => ?_) (fun hk3 => ?_)
                  · refine lv_iload_n hx hb d_MD_same_166 rfl (lv_at hl 3 rfl) ?_
                    exact hp_iret S hret hlk (bo_nar hx8) hM hS (⟨rfl, bo_iff hx8 ⟨fun q => ⟨q.1, q.2.1, fun z i hi => by first | exact absurd q hQ2 | omega | exact q.2.2 z i (by omega)⟩, fun q => ⟨q.1, q.2.1, fun z i hi => q.2.2 z i (by omega)⟩⟩⟩) d_MD_same_167
                  · have h13 : R.1 = 1 ∨ R.1 = 3 := by omega
                    refine w_join hM hS (P := fun z => bo z (V.dg (8 * ra + j8) = V.dg (8 * rb + j8))) (pc2 := 159) (rest := []) (fun v7 H locs hM hS hv7 => ?_) (fun hjv7 => ?_)
                    · refine lv_istore_n (lv' := [(3, .int v7), (0, .ref md), (1, .int (nI ra)), (2, .int (nI rb)), (4, .int (nI j8))]) hx hb d_MD_same_159 rfl hl (by decide) rfl (fun ls hl => ?_)
                      refine lv_iinc (v := nI (j8 + 1)) (lv' := [(4, .int (nI (j8 + 1))), (3, .int v7), (0, .ref md), (1, .int (nI ra)), (2, .int (nI rb))]) hx hb d_MD_same_160 hl (k := 4) rfl (nI_add j8 1) (by decide) rfl (fun ls hl => ?_)
                      refine lv_goto (tgt := 96) hx hb d_MD_same_163 (by decide) ?_
                      exact ih2 (ls := ls) (hl := lv_sub hl [2, 3, 4, 1, 0] rfl) (hn2 := by omega) (j8 := j8 + 1) (x8 := v7) (hj8 := by omega) (hx8 := bo_iff hv7 ⟨fun q => ⟨hQ2.1, hQ2.2.1, fun z => lt_s (hQ2.2.2 z) (by rw [← hdg2 j8 (by omega), ← hdg22 j8 (by omega)]; exact q)⟩, fun q => by rw [hdg2 j8 (by omega), hdg22 j8 (by omega)]; exact q.2.2 h13 j8 (Nat.lt_succ_self j8)⟩) (H := H) (locs := locs) (hM := hM) (hS := hS)
                    · refine lv_aload_n hx hb d_MD_same_127 rfl (lv_at hl 0 rfl) ?_
                      refine hp_get S hK hM i_MD f_md rfl 13 (by decide) mf_MD_106 (fun _ h9 => h9) rfl d_MD_same_128 ?_
                      refine lv_bipush (v := nI 8) hx hb d_MD_same_131 rfl ?_
                      refine lv_iload_n hx hb d_MD_same_133 rfl (lv_at hl 1 rfl) ?_
                      refine nb_imul hx hb d_MD_same_134 ?_
                      refine lv_iload hx hb d_MD_same_135 (lv_at hl 4 rfl) ?_
                      refine nb_iadd hx hb d_MD_same_137 ?_
                      refine hp_iald S hK hM 1 f_dg rfl ((8 * ra) + j8) rfl (by omega) (by omega) d_MD_same_138 ?_
                      refine lv_aload_n hx hb d_MD_same_139 rfl (lv_at hl 0 rfl) ?_
                      refine hp_get S hK hM i_MD f_md rfl 13 (by decide) mf_MD_106 (fun _ h9 => h9) rfl d_MD_same_140 ?_
                      refine lv_bipush (v := nI 8) hx hb d_MD_same_143 rfl ?_
                      refine lv_iload_n hx hb d_MD_same_145 rfl (lv_at hl 2 rfl) ?_
                      refine nb_imul hx hb d_MD_same_146 ?_
                      refine lv_iload hx hb d_MD_same_147 (lv_at hl 4 rfl) ?_
                      refine nb_iadd hx hb d_MD_same_149 ?_
                      refine hp_iald S hK hM 1 f_dg rfl ((8 * rb) + j8) rfl (by omega) (by omega) d_MD_same_150 ?_
                      refine lv_icmp_ne (tgt := 158) hx hb d_MD_same_151 (by decide) (fun hdq => ?_) (fun hdq => ?_)
                      · refine lv_iconst (v := nI 0) hx hb d_MD_same_158 rfl ?_
                        exact hjv7 _ H _ hM hS (bo_f (hdq))
                      · refine lv_iconst (v := nI 1) hx hb d_MD_same_154 rfl ?_
                        refine lv_goto (tgt := 159) hx hb d_MD_same_155 (by decide) ?_
                        exact hjv7 _ H _ hM hS (bo_t (hdq))
        · refine w_join hM hS (P := fun z => bo z (V.le (64 * ra + j) = V.le (64 * rb + j))) (pc2 := 86) (rest := []) (fun v8 H locs hM hS hv8 => ?_) (fun hjv8 => ?_)
          · refine lv_istore_n (lv' := [(3, .int v8), (0, .ref md), (1, .int (nI ra)), (2, .int (nI rb)), (4, .int (nI j))]) hx hb d_MD_same_86 rfl hl (by decide) rfl (fun ls hl => ?_)
            refine lv_iinc (v := nI (j + 1)) (lv' := [(4, .int (nI (j + 1))), (3, .int v8), (0, .ref md), (1, .int (nI ra)), (2, .int (nI rb))]) hx hb d_MD_same_87 hl (k := 4) rfl (nI_add j 1) (by decide) rfl (fun ls hl => ?_)
            refine lv_goto (tgt := 39) hx hb d_MD_same_90 (by decide) ?_
            exact ih1 (ls := ls) (hl := lv_sub hl [2, 3, 4, 1, 0] rfl) (hn1 := by omega) (j := j + 1) (u := v8) (hj := by omega) (hu := bo_iff hv8 ⟨fun q => ⟨hQ.1, hQ.2.1, lt_s hQ.2.2 q⟩, fun q => q.2.2 j (Nat.lt_succ_self j)⟩) (H := H) (locs := locs) (hM := hM) (hS := hS)
          · refine lv_aload_n hx hb d_MD_same_54 rfl (lv_at hl 0 rfl) ?_
            refine hp_get S hK hM i_MD f_md rfl 12 (by decide) mf_MD_103 (fun _ h9 => h9) rfl d_MD_same_55 ?_
            refine lv_bipush (v := nI 64) hx hb d_MD_same_58 rfl ?_
            refine lv_iload_n hx hb d_MD_same_60 rfl (lv_at hl 1 rfl) ?_
            refine nb_imul hx hb d_MD_same_61 ?_
            refine lv_iload hx hb d_MD_same_62 (lv_at hl 4 rfl) ?_
            refine nb_iadd hx hb d_MD_same_64 ?_
            refine hp_iald S hK hM 1 f_le rfl ((64 * ra) + j) rfl (by omega) (by omega) d_MD_same_65 ?_
            refine lv_aload_n hx hb d_MD_same_66 rfl (lv_at hl 0 rfl) ?_
            refine hp_get S hK hM i_MD f_md rfl 12 (by decide) mf_MD_103 (fun _ h9 => h9) rfl d_MD_same_67 ?_
            refine lv_bipush (v := nI 64) hx hb d_MD_same_70 rfl ?_
            refine lv_iload_n hx hb d_MD_same_72 rfl (lv_at hl 2 rfl) ?_
            refine nb_imul hx hb d_MD_same_73 ?_
            refine lv_iload hx hb d_MD_same_74 (lv_at hl 4 rfl) ?_
            refine nb_iadd hx hb d_MD_same_76 ?_
            refine hp_iald S hK hM 1 f_le rfl ((64 * rb) + j) rfl (by omega) (by omega) d_MD_same_77 ?_
            refine nb_ne (tgt := 85) hx hb d_MD_same_78 (by decide) (by have := b_le (((64 * ra) + j)); omega) (by have := b_le (((64 * rb) + j)); omega) (fun heq => ?_) (fun heq => ?_)
            · refine lv_iconst (v := nI 0) hx hb d_MD_same_85 rfl ?_
              exact hjv8 _ H _ hM hS (bo_f (heq))
            · refine lv_iconst (v := nI 1) hx hb d_MD_same_81 rfl ?_
              refine lv_goto (tgt := 86) hx hb d_MD_same_82 (by decide) ?_
              exact hjv8 _ H _ hM hS (bo_t (heq))
  · refine lv_aload_n hx hb d_MD_same_0 rfl (lv_at hl 0 rfl) ?_
    refine hp_get S hK hM i_MD f_md rfl 9 (by decide) mf_MD_94 (fun _ h9 => h9) rfl d_MD_same_1 ?_
    refine lv_iload_n hx hb d_MD_same_4 rfl (lv_at hl 1 rfl) ?_
    refine hp_iald S hK hM 1 f_kd rfl ra rfl (by omega) (by omega) d_MD_same_5 ?_
    refine lv_aload_n hx hb d_MD_same_6 rfl (lv_at hl 0 rfl) ?_
    refine hp_get S hK hM i_MD f_md rfl 9 (by decide) mf_MD_94 (fun _ h9 => h9) rfl d_MD_same_7 ?_
    refine lv_iload_n hx hb d_MD_same_10 rfl (lv_at hl 2 rfl) ?_
    refine hp_iald S hK hM 1 f_kd rfl rb rfl (by omega) (by omega) d_MD_same_11 ?_
    refine nb_ne (tgt := 34) hx hb d_MD_same_12 (by decide) (by have := b_kd (ra); omega) (by have := b_kd (rb); omega) (fun hke => ?_) (fun hke => ?_)
    · refine lv_iconst (v := nI 0) hx hb d_MD_same_34 rfl ?_
      exact hjv1 _ _ _ hM hS (bo_f (fun q => by omega))
    · refine lv_aload_n hx hb d_MD_same_15 rfl (lv_at hl 0 rfl) ?_
      refine hp_get S hK hM i_MD f_md rfl 10 (by decide) mf_MD_97 (fun _ h9 => h9) rfl d_MD_same_16 ?_
      refine lv_iload_n hx hb d_MD_same_19 rfl (lv_at hl 1 rfl) ?_
      refine hp_iald S hK hM 1 f_sz rfl ra rfl (by omega) (by omega) d_MD_same_20 ?_
      refine lv_aload_n hx hb d_MD_same_21 rfl (lv_at hl 0 rfl) ?_
      refine hp_get S hK hM i_MD f_md rfl 10 (by decide) mf_MD_97 (fun _ h9 => h9) rfl d_MD_same_22 ?_
      refine lv_iload_n hx hb d_MD_same_25 rfl (lv_at hl 2 rfl) ?_
      refine hp_iald S hK hM 1 f_sz rfl rb rfl (by omega) (by omega) d_MD_same_26 ?_
      refine nb_ne (tgt := 34) hx hb d_MD_same_27 (by decide) (by have := b_sz (ra); omega) (by have := b_sz (rb); omega) (fun hze => ?_) (fun hze => ?_)
      · refine lv_iconst (v := nI 0) hx hb d_MD_same_34 rfl ?_
        exact hjv1 _ _ _ hM hS (bo_f (fun q => by omega))
      · refine lv_iconst (v := nI 1) hx hb d_MD_same_30 rfl ?_
        refine lv_goto (tgt := 35) hx hb d_MD_same_31 (by decide) ?_
        exact hjv1 _ _ _ hM hS (bo_t (⟨by omega, by omega⟩))
theorem kyEq {V : MS} {r n j : Nat} {R : MR} {T : List Nat} (hR : mrA V r R) (hn : n ≤ T.length) (q : V.ky r = n ∧ ∀ i, i < j → V.le (64 * r + i) = T.getD i 0) (hj : n ≤ j) : kyR R = T.take n := by
  have h2 := hR.2.1
  have h3 := hR.klen
  have h4 : (T.take n).length = n := by rw [List.length_take]; omega
  exact leq (by rw [h4]; omega) (fun i hi => by rw [hR.kat (by omega), getD_take (by omega)]; exact q.2 i (by omega))
theorem kyEq2 {V : MS} {r n j : Nat} {R : MR} {T : List Nat} (hR : mrA V r R) (hn : n ≤ T.length) (q : kyR R = T.take n) (hj : j ≤ n) : V.ky r = n ∧ ∀ i, i < j → V.le (64 * r + i) = T.getD i 0 := by
  have h2 := hR.2.1
  have h3 := hR.klen
  have h4 : (T.take n).length = n := by rw [List.length_take]; omega
  rw [q, h4] at h3
  exact ⟨by omega, fun i hi => by rw [← hR.kat (by omega), q, getD_take (by omega)]⟩
set_option maxHeartbeats 4000000 in
set_option maxRecDepth 100000 in
/-- the key is there for the kind -/
theorem c_MD_hasKey (l : Launch) (D : va_G) (ct : Nat → ClassId) (Z : hp_Z) (hZ : hp_Zok Z) (M : hp_M) (sz : Nat) (md : Nat) (B : MA) (V : MS) (hw : mdS ct M md B V) (T : List Nat) (hT : T.length ≤ 64) (hte : ∀ i, i < T.length → V.te i = T.getD i 0) (a : Nat) (ha : a < 12) (L : List MR) (hcn : V.cn a = L.length) (hL24 : L.length ≤ 24) (hLr : ∀ k, k < L.length → mrA V (24 * a + k) (L.getD k mr0)) (w n : Nat) (hw6 : w ≤ 6) (hnT : n ≤ T.length) : Mi l y_MD_hasKey b_MD_hasKey 9 (some .boolean) 1 22 0 0 [.ref md, .int (nI a), .int (nI w), .int (nI n)] D ct Z M sz (fun r M1 => M1 = M ∧ bo r (∃ i, i < L.length ∧ (L.getD i mr0).1 = w ∧ kyR (L.getD i mr0) = T.take n)) := by
  refine hp_start (by decide) (Nat.le_of_ble_eq_true rfl) (fun p e s m below meth c ls S hret hlk hnm hsz hK hM hS hA hz hl => ?_)
  have hx := S.1
  have hb := S.2.1
  have hl : lv_has ls 9 [(0, .ref md), (1, .int (nI a)), (2, .int (nI w)), (3, .int (nI n))] := hl
  obtain ⟨f_md, f_ro, f_te, f_he, f_cn, f_kd, f_sz, f_ky, f_le, f_dg, f_nm, f_ns, f_sl, f_sb, f_su, f_wi, f_tu, hB, hV⟩ := id hw
  obtain ⟨n_kdsz, n_kdky, n_szky, n_hens, n_hesu, n_hetu, n_nssu, n_nstu, n_sutu, n_tewi⟩ := id hB
  obtain ⟨b_te, b_cn, b_kd, b_sz, b_ky, b_le, b_nm, b_ns, b_sl, b_sb, b_co, b_ty, b_ac, b_al, b_sd, b_ss⟩ := id hV
  refine lv_iconst (v := nI 0) hx hb d_MD_hasKey_0 rfl ?_
  refine lv_istore (lv' := [(4, .int (nI 0)), (0, .ref md), (1, .int (nI a)), (2, .int (nI w)), (3, .int (nI n))]) hx hb d_MD_hasKey_1 hl (by decide) rfl (fun ls hl => ?_)
  refine lv_iconst (v := nI 0) hx hb d_MD_hasKey_3 rfl ?_
  refine lv_istore (lv' := [(5, .int (nI 0)), (4, .int (nI 0)), (0, .ref md), (1, .int (nI a)), (2, .int (nI w)), (3, .int (nI n))]) hx hb d_MD_hasKey_4 hl (by decide) rfl (fun ls hl => ?_)
  replace hl : lv_has ls 9 [(0, .ref md), (1, .int (nI a)), (2, .int (nI w)), (3, .int (nI n)), (4, .int (nI 0)), (5, .int (nI 0))] := lv_sub hl [2, 3, 4, 5, 1, 0] rfl
  obtain ⟨k, e9k⟩ : ∃ z : Nat, z = 0 := ⟨_, rfl⟩
  obtain ⟨v, e9v⟩ : ∃ z : Int32, z = nI 0 := ⟨_, rfl⟩
  replace hl : lv_has ls 9 [(0, .ref md), (1, .int (nI a)), (2, .int (nI w)), (3, .int (nI n)), (4, .int v), (5, .int (nI k))] := by subst e9k e9v; exact hl
  obtain ⟨H, e9H⟩ : ∃ z : Heap, z = s.heap := ⟨_, rfl⟩
  replace hM : hp_H D ccl (hp_A M sz) M H := by rw [e9H]; exact hM
  replace hS : va_S (hp_A M sz) s.heap H [] := by rw [e9H]; exact hS
  rw [← e9H]
  clear e9H
  obtain ⟨locs, e9L⟩ : ∃ z : List Loc, z = [] := ⟨_, rfl⟩
  replace hS : va_S (hp_A M sz) s.heap H locs := by rw [e9L]; exact hS
  rw [← e9L]
  clear e9L
  have hkL : k ≤ L.length := by subst e9k e9v; exact Nat.zero_le _
  have hv : bo v (∃ i, i < k ∧ (L.getD i mr0).1 = w ∧ kyR (L.getD i mr0) = T.take n) := by subst e9k e9v; exact bo_f (fun ⟨i, q1, q2⟩ => absurd q1 (Nat.not_lt_zero i))
  obtain ⟨fu1, hn1⟩ : ∃ fu : Nat, L.length ≤ k + fu := ⟨L.length, by omega⟩
  clear e9k e9v
  induction fu1 generalizing k v H locs ls with
  | zero =>
    refine lv_iload hx hb d_MD_hasKey_6 (lv_at hl 5 rfl) ?_
    refine lv_aload_n hx hb d_MD_hasKey_8 rfl (lv_at hl 0 rfl) ?_
    refine hp_get S hK hM i_MD f_md rfl 8 (by decide) mf_MD_91 (fun _ h9 => h9) rfl d_MD_hasKey_9 ?_
    refine lv_iload_n hx hb d_MD_hasKey_12 rfl (lv_at hl 1 rfl) ?_
    refine hp_iald S hK hM 1 f_cn rfl a rfl (by omega) (by omega) d_MD_hasKey_13 ?_
    refine nb_ge (tgt := 128) hx hb d_MD_hasKey_14 (by decide) (by omega) (by have := b_cn (a); omega) (fun hkn => ?_) (fun hkn => ?_)
    · refine lv_iload hx hb d_MD_hasKey_128 (lv_at hl 4 rfl) ?_
      exact hp_iret S hret hlk (bo_nar hv) hM hS (⟨rfl, bo_iff hv ⟨fun ⟨i, q1, q2⟩ => ⟨i, by omega, q2⟩, fun ⟨i, q1, q2⟩ => ⟨i, by omega, q2⟩⟩⟩) d_MD_hasKey_130
    · exact absurd hn1 (by omega)
  | succ fu1 ih1 =>
    refine lv_iload hx hb d_MD_hasKey_6 (lv_at hl 5 rfl) ?_
    refine lv_aload_n hx hb d_MD_hasKey_8 rfl (lv_at hl 0 rfl) ?_
    refine hp_get S hK hM i_MD f_md rfl 8 (by decide) mf_MD_91 (fun _ h9 => h9) rfl d_MD_hasKey_9 ?_
    refine lv_iload_n hx hb d_MD_hasKey_12 rfl (lv_at hl 1 rfl) ?_
    refine hp_iald S hK hM 1 f_cn rfl a rfl (by omega) (by omega) d_MD_hasKey_13 ?_
    refine nb_ge (tgt := 128) hx hb d_MD_hasKey_14 (by decide) (by omega) (by have := b_cn (a); omega) (fun hkn => ?_) (fun hkn => ?_)
    · refine lv_iload hx hb d_MD_hasKey_128 (lv_at hl 4 rfl) ?_
      exact hp_iret S hret hlk (bo_nar hv) hM hS (⟨rfl, bo_iff hv ⟨fun ⟨i, q1, q2⟩ => ⟨i, by omega, q2⟩, fun ⟨i, q1, q2⟩ => ⟨i, by omega, q2⟩⟩⟩) d_MD_hasKey_130
    · refine lv_aload_n hx hb d_MD_hasKey_17 rfl (lv_at hl 0 rfl) ?_
      refine lv_iload_n hx hb d_MD_hasKey_18 rfl (lv_at hl 1 rfl) ?_
      refine lv_iload hx hb d_MD_hasKey_19 (lv_at hl 5 rfl) ?_
      refine hp_calli (go_V S hZ hK hM hS hA hz (c_MD_place l D ct Z hZ _ _ md a k) mc_MD_place mz_MD ml_MD_160 mi_MD_place mx_MD_place hd_MD_place rfl ⟨by decide, by decide⟩ f_md rfl rfl hl.1 rfl (Nat.le_of_ble_eq_true rfl) d_MD_hasKey_21 ⟨by decide, by decide⟩) hM hS hA (fun r1 M9 H locs hr1 hM hS => ?_)
      rw [hr1.1] at hM
      rw [hr1.2]
      refine lv_istore (lv' := [(6, .int (nI (24 * a + k))), (0, .ref md), (1, .int (nI a)), (2, .int (nI w)), (3, .int (nI n)), (4, .int v), (5, .int (nI k))]) hx hb d_MD_hasKey_24 hl (by decide) rfl (fun ls hl => ?_)
      have hRk := hLr k (by omega)
      refine w_join hM hS (P := fun z => bo z (V.kd (24 * a + k) = w ∧ V.ky (24 * a + k) = n)) (pc2 := 53) (rest := []) (fun v2 H locs hM hS hv2 => ?_) (fun hjv2 => ?_)
      · refine lv_istore (lv' := [(7, .int v2), (6, .int (nI (24 * a + k))), (0, .ref md), (1, .int (nI a)), (2, .int (nI w)), (3, .int (nI n)), (4, .int v), (5, .int (nI k))]) hx hb d_MD_hasKey_53 hl (by decide) rfl (fun ls hl => ?_)
        refine lv_iconst (v := nI 0) hx hb d_MD_hasKey_55 rfl ?_
        refine lv_istore (lv' := [(8, .int (nI 0)), (7, .int v2), (6, .int (nI (24 * a + k))), (0, .ref md), (1, .int (nI a)), (2, .int (nI w)), (3, .int (nI n)), (4, .int v), (5, .int (nI k))]) hx hb d_MD_hasKey_56 hl (by decide) rfl (fun ls hl => ?_)
        replace hl : lv_has ls 9 [(0, .ref md), (1, .int (nI a)), (2, .int (nI w)), (3, .int (nI n)), (4, .int v), (5, .int (nI k)), (6, .int (nI (24 * a + k))), (7, .int v2), (8, .int (nI 0))] := lv_sub hl [3, 4, 5, 6, 7, 8, 2, 1, 0] rfl
        obtain ⟨j, e9j⟩ : ∃ z : Nat, z = 0 := ⟨_, rfl⟩
        obtain ⟨u, e9u⟩ : ∃ z : Int32, z = v2 := ⟨_, rfl⟩
        replace hl : lv_has ls 9 [(0, .ref md), (1, .int (nI a)), (2, .int (nI w)), (3, .int (nI n)), (4, .int v), (5, .int (nI k)), (6, .int (nI (24 * a + k))), (7, .int u), (8, .int (nI j))] := by subst e9j e9u; exact hl
        have hj : j ≤ n := by subst e9j e9u; exact Nat.zero_le _
        have hu : bo u (V.kd (24 * a + k) = w ∧ V.ky (24 * a + k) = n ∧ ∀ i, i < j → V.le (64 * (24 * a + k) + i) = T.getD i 0) := by subst e9j e9u; exact bo_iff hv2 ⟨fun q => ⟨q.1, q.2, fun i z => absurd z (Nat.not_lt_zero i)⟩, fun q => ⟨q.1, q.2.1⟩⟩
        obtain ⟨fu2, hn2⟩ : ∃ fu : Nat, n ≤ j + fu := ⟨n, by omega⟩
        clear e9j e9u
        induction fu2 generalizing j u H locs ls with
        | zero =>
          refine lv_iload hx hb d_MD_hasKey_58 (lv_at hl 8 rfl) ?_
          refine lv_iload_n hx hb d_MD_hasKey_60 rfl (lv_at hl 3 rfl) ?_
          refine nb_ge (tgt := 105) hx hb d_MD_hasKey_61 (by decide) (by omega) (by omega) (fun hjn => ?_) (fun hjn => ?_)
          · have hu9 : bo u ((L.getD k mr0).1 = w ∧ kyR (L.getD k mr0) = T.take n) := bo_iff hu ⟨fun q => by first | exact absurd q hQ | exact ⟨hRk.1.symm.trans q.1, kyEq hRk hnT q.2 (by omega)⟩, fun q => ⟨hRk.1.trans q.1, kyEq2 hRk hnT q.2 (by omega)⟩⟩
            refine w_join hM hS (P := fun z => bo z (∃ i, i < k + 1 ∧ (L.getD i mr0).1 = w ∧ kyR (L.getD i mr0) = T.take n)) (pc2 := 120) (rest := []) (fun v3 H locs hM hS hv3 => ?_) (fun hjv3 => ?_)
            · refine lv_istore (lv' := [(4, .int v3), (0, .ref md), (1, .int (nI a)), (2, .int (nI w)), (3, .int (nI n)), (5, .int (nI k)), (6, .int (nI (24 * a + k))), (7, .int u), (8, .int (nI j))]) hx hb d_MD_hasKey_120 hl (by decide) rfl (fun ls hl => ?_)
              refine lv_iinc (v := nI (k + 1)) (lv' := [(5, .int (nI (k + 1))), (4, .int v3), (0, .ref md), (1, .int (nI a)), (2, .int (nI w)), (3, .int (nI n)), (6, .int (nI (24 * a + k))), (7, .int u), (8, .int (nI j))]) hx hb d_MD_hasKey_122 hl (k := 5) rfl (nI_add k 1) (by decide) rfl (fun ls hl => ?_)
              refine lv_goto (tgt := 6) hx hb d_MD_hasKey_125 (by decide) ?_
              exact ih1 (ls := ls) (hl := lv_sub hl [2, 3, 4, 5, 1, 0] rfl) (hn1 := by omega) (k := k + 1) (v := v3) (hkL := by omega) (hv := hv3) (H := H) (locs := locs) (hM := hM) (hS := hS)
            · refine lv_iload hx hb d_MD_hasKey_105 (lv_at hl 4 rfl) ?_
              refine nt_ne (tgt := 115) hx hb d_MD_hasKey_107 (by decide) hv (fun hP => ?_) (fun hP => ?_)
              · refine lv_iconst (v := nI 1) hx hb d_MD_hasKey_115 rfl ?_
                refine lv_goto (tgt := 120) hx hb d_MD_hasKey_116 (by decide) ?_
                exact hjv3 _ H _ hM hS (bo_t (by first | (obtain ⟨i, q1, q2⟩ := hP; exact ⟨i, by omega, q2⟩) | exact ⟨k, Nat.lt_succ_self k, hP2⟩))
              · refine lv_iload hx hb d_MD_hasKey_110 (lv_at hl 7 rfl) ?_
                refine nt_eq (tgt := 119) hx hb d_MD_hasKey_112 (by decide) hu9 (fun hP2 => ?_) (fun hP2 => ?_)
                · refine lv_iconst (v := nI 0) hx hb d_MD_hasKey_119 rfl ?_
                  exact hjv3 _ H _ hM hS (bo_f (fun ⟨i, q1, q2⟩ => by rcases Nat.lt_or_eq_of_le (Nat.le_of_lt_succ q1) with z | z; (exact hP ⟨i, z, q2⟩); (rw [z] at q2; exact hP2 q2)))
                · refine lv_iconst (v := nI 1) hx hb d_MD_hasKey_115 rfl ?_
                  refine lv_goto (tgt := 120) hx hb d_MD_hasKey_116 (by decide) ?_
                  exact hjv3 _ H _ hM hS (bo_t (by first | (obtain ⟨i, q1, q2⟩ := hP; exact ⟨i, by omega, q2⟩) | exact ⟨k, Nat.lt_succ_self k, hP2⟩))
          · exact absurd hn2 (by omega)
        | succ fu2 ih2 =>
          refine lv_iload hx hb d_MD_hasKey_58 (lv_at hl 8 rfl) ?_
          refine lv_iload_n hx hb d_MD_hasKey_60 rfl (lv_at hl 3 rfl) ?_
          refine nb_ge (tgt := 105) hx hb d_MD_hasKey_61 (by decide) (by omega) (by omega) (fun hjn => ?_) (fun hjn => ?_)
          · have hu9 : bo u ((L.getD k mr0).1 = w ∧ kyR (L.getD k mr0) = T.take n) := bo_iff hu ⟨fun q => by first | exact absurd q hQ | exact ⟨hRk.1.symm.trans q.1, kyEq hRk hnT q.2 (by omega)⟩, fun q => ⟨hRk.1.trans q.1, kyEq2 hRk hnT q.2 (by omega)⟩⟩
            refine w_join hM hS (P := fun z => bo z (∃ i, i < k + 1 ∧ (L.getD i mr0).1 = w ∧ kyR (L.getD i mr0) = T.take n)) (pc2 := 120) (rest := []) (fun v4 H locs hM hS hv4 => ?_) (fun hjv4 => ?_)
            · refine lv_istore (lv' := [(4, .int v4), (0, .ref md), (1, .int (nI a)), (2, .int (nI w)), (3, .int (nI n)), (5, .int (nI k)), (6, .int (nI (24 * a + k))), (7, .int u), (8, .int (nI j))]) hx hb d_MD_hasKey_120 hl (by decide) rfl (fun ls hl => ?_)
              refine lv_iinc (v := nI (k + 1)) (lv' := [(5, .int (nI (k + 1))), (4, .int v4), (0, .ref md), (1, .int (nI a)), (2, .int (nI w)), (3, .int (nI n)), (6, .int (nI (24 * a + k))), (7, .int u), (8, .int (nI j))]) hx hb d_MD_hasKey_122 hl (k := 5) rfl (nI_add k 1) (by decide) rfl (fun ls hl => ?_)
              refine lv_goto (tgt := 6) hx hb d_MD_hasKey_125 (by decide) ?_
              exact ih1 (ls := ls) (hl := lv_sub hl [2, 3, 4, 5, 1, 0] rfl) (hn1 := by omega) (k := k + 1) (v := v4) (hkL := by omega) (hv := hv4) (H := H) (locs := locs) (hM := hM) (hS := hS)
            · refine lv_iload hx hb d_MD_hasKey_105 (lv_at hl 4 rfl) ?_
              refine nt_ne (tgt := 115) hx hb d_MD_hasKey_107 (by decide) hv (fun hP => ?_) (fun hP => ?_)
              · refine lv_iconst (v := nI 1) hx hb d_MD_hasKey_115 rfl ?_
                refine lv_goto (tgt := 120) hx hb d_MD_hasKey_116 (by decide) ?_
                exact hjv4 _ H _ hM hS (bo_t (by first | (obtain ⟨i, q1, q2⟩ := hP; exact ⟨i, by omega, q2⟩) | exact ⟨k, Nat.lt_succ_self k, hP2⟩))
              · refine lv_iload hx hb d_MD_hasKey_110 (lv_at hl 7 rfl) ?_
                refine nt_eq (tgt := 119) hx hb d_MD_hasKey_112 (by decide) hu9 (fun hP2 => ?_) (fun hP2 => ?_)
                · refine lv_iconst (v := nI 0) hx hb d_MD_hasKey_119 rfl ?_
                  exact hjv4 _ H _ hM hS (bo_f (fun ⟨i, q1, q2⟩ => by rcases Nat.lt_or_eq_of_le (Nat.le_of_lt_succ q1) with z | z; (exact hP ⟨i, z, q2⟩); (rw [z] at q2; exact hP2 q2)))
                · refine lv_iconst (v := nI 1) hx hb d_MD_hasKey_115 rfl ?_
                  refine lv_goto (tgt := 120) hx hb d_MD_hasKey_116 (by decide) ?_
                  exact hjv4 _ H _ hM hS (bo_t (by first | (obtain ⟨i, q1, q2⟩ := hP; exact ⟨i, by omega, q2⟩) | exact ⟨k, Nat.lt_succ_self k, hP2⟩))
          · refine lv_iload hx hb d_MD_hasKey_64 (lv_at hl 7 rfl) ?_
            refine nt_eq (tgt := 105) hx hb d_MD_hasKey_66 (by decide) hu (fun hQ => ?_) (fun hQ => ?_)
            · have hu9 : bo u ((L.getD k mr0).1 = w ∧ kyR (L.getD k mr0) = T.take n) := bo_iff hu ⟨fun q => by first | exact absurd q hQ | exact ⟨hRk.1.symm.trans q.1, kyEq hRk hnT q.2 (by omega)⟩, fun q => ⟨hRk.1.trans q.1, kyEq2 hRk hnT q.2 (by omega)⟩⟩
              refine w_join hM hS (P := fun z => bo z (∃ i, i < k + 1 ∧ (L.getD i mr0).1 = w ∧ kyR (L.getD i mr0) = T.take n)) (pc2 := 120) (rest := []) (fun v5 H locs hM hS hv5 => ?_) (fun hjv5 => ?_)
              · refine lv_istore (lv' := [(4, .int v5), (0, .ref md), (1, .int (nI a)), (2, .int (nI w)), (3, .int (nI n)), (5, .int (nI k)), (6, .int (nI (24 * a + k))), (7, .int u), (8, .int (nI j))]) hx hb d_MD_hasKey_120 hl (by decide) rfl (fun ls hl => ?_)
                refine lv_iinc (v := nI (k + 1)) (lv' := [(5, .int (nI (k + 1))), (4, .int v5), (0, .ref md), (1, .int (nI a)), (2, .int (nI w)), (3, .int (nI n)), (6, .int (nI (24 * a + k))), (7, .int u), (8, .int (nI j))]) hx hb d_MD_hasKey_122 hl (k := 5) rfl (nI_add k 1) (by decide) rfl (fun ls hl => ?_)
                refine lv_goto (tgt := 6) hx hb d_MD_hasKey_125 (by decide) ?_
                exact ih1 (ls := ls) (hl := lv_sub hl [2, 3, 4, 5, 1, 0] rfl) (hn1 := by omega) (k := k + 1) (v := v5) (hkL := by omega) (hv := hv5) (H := H) (locs := locs) (hM := hM) (hS := hS)
              · refine lv_iload hx hb d_MD_hasKey_105 (lv_at hl 4 rfl) ?_
                refine nt_ne (tgt := 115) hx hb d_MD_hasKey_107 (by decide) hv (fun hP => ?_) (fun hP => ?_)
                · refine lv_iconst (v := nI 1) hx hb d_MD_hasKey_115 rfl ?_
                  refine lv_goto (tgt := 120) hx hb d_MD_hasKey_116 (by decide) ?_
                  exact hjv5 _ H _ hM hS (bo_t (by first | (obtain ⟨i, q1, q2⟩ := hP; exact ⟨i, by omega, q2⟩) | exact ⟨k, Nat.lt_succ_self k, hP2⟩))
                · refine lv_iload hx hb d_MD_hasKey_110 (lv_at hl 7 rfl) ?_
                  refine nt_eq (tgt := 119) hx hb d_MD_hasKey_112 (by decide) hu9 (fun hP2 => ?_) (fun hP2 => ?_)
                  · refine lv_iconst (v := nI 0) hx hb d_MD_hasKey_119 rfl ?_
                    exact hjv5 _ H _ hM hS (bo_f (fun ⟨i, q1, q2⟩ => by rcases Nat.lt_or_eq_of_le (Nat.le_of_lt_succ q1) with z | z; (exact hP ⟨i, z, q2⟩); (rw [z] at q2; exact hP2 q2)))
                  · refine lv_iconst (v := nI 1) hx hb d_MD_hasKey_115 rfl ?_
                    refine lv_goto (tgt := 120) hx hb d_MD_hasKey_116 (by decide) ?_
                    exact hjv5 _ H _ hM hS (bo_t (by first | (obtain ⟨i, q1, q2⟩ := hP; exact ⟨i, by omega, q2⟩) | exact ⟨k, Nat.lt_succ_self k, hP2⟩))
            · refine w_join hM hS (P := fun z => bo z (V.le (64 * (24 * a + k) + j) = T.getD j 0)) (pc2 := 97) (rest := []) (fun v6 H locs hM hS hv6 => ?_) (fun hjv6 => ?_)
              · refine lv_istore (lv' := [(7, .int v6), (0, .ref md), (1, .int (nI a)), (2, .int (nI w)), (3, .int (nI n)), (4, .int v), (5, .int (nI k)), (6, .int (nI (24 * a + k))), (8, .int (nI j))]) hx hb d_MD_hasKey_97 hl (by decide) rfl (fun ls hl => ?_)
                refine lv_iinc (v := nI (j + 1)) (lv' := [(8, .int (nI (j + 1))), (7, .int v6), (0, .ref md), (1, .int (nI a)), (2, .int (nI w)), (3, .int (nI n)), (4, .int v), (5, .int (nI k)), (6, .int (nI (24 * a + k)))]) hx hb d_MD_hasKey_99 hl (k := 8) rfl (nI_add j 1) (by decide) rfl (fun ls hl => ?_)
                refine lv_goto (tgt := 58) hx hb d_MD_hasKey_102 (by decide) ?_
                exact ih2 (ls := ls) (hl := lv_sub hl [2, 3, 4, 5, 6, 7, 8, 1, 0] rfl) (hn2 := by omega) (j := j + 1) (u := v6) (hj := by omega) (hu := bo_iff hv6 ⟨fun q => ⟨hQ.1, hQ.2.1, lt_s hQ.2.2 q⟩, fun q => q.2.2 j (Nat.lt_succ_self j)⟩) (H := H) (locs := locs) (hM := hM) (hS := hS)
              · refine lv_aload_n hx hb d_MD_hasKey_69 rfl (lv_at hl 0 rfl) ?_
                refine hp_get S hK hM i_MD f_md rfl 12 (by decide) mf_MD_103 (fun _ h9 => h9) rfl d_MD_hasKey_70 ?_
                refine lv_bipush (v := nI 64) hx hb d_MD_hasKey_73 rfl ?_
                refine lv_iload hx hb d_MD_hasKey_75 (lv_at hl 6 rfl) ?_
                refine nb_imul hx hb d_MD_hasKey_77 ?_
                refine lv_iload hx hb d_MD_hasKey_78 (lv_at hl 8 rfl) ?_
                refine nb_iadd hx hb d_MD_hasKey_80 ?_
                refine hp_iald S hK hM 1 f_le rfl ((64 * (24 * a + k)) + j) rfl (by omega) (by omega) d_MD_hasKey_81 ?_
                refine lv_aload_n hx hb d_MD_hasKey_82 rfl (lv_at hl 0 rfl) ?_
                refine hp_get S hK hM i_MD f_md rfl 2 (by decide) mf_MD_85 (fun _ h9 => h9) rfl d_MD_hasKey_83 ?_
                refine lv_iload hx hb d_MD_hasKey_86 (lv_at hl 8 rfl) ?_
                refine hp_iald S hK hM 1 f_te rfl j rfl (by omega) (by omega) d_MD_hasKey_88 ?_
                refine nb_ne (tgt := 96) hx hb d_MD_hasKey_89 (by decide) (by have := b_le (((64 * (24 * a + k)) + j)); omega) (by have := b_te (j); omega) (fun heq => ?_) (fun heq => ?_)
                · refine lv_iconst (v := nI 0) hx hb d_MD_hasKey_96 rfl ?_
                  exact hjv6 _ H _ hM hS (bo_f (fun q => heq (q.trans (hte j (by omega)).symm)))
                · refine lv_iconst (v := nI 1) hx hb d_MD_hasKey_92 rfl ?_
                  refine lv_goto (tgt := 97) hx hb d_MD_hasKey_93 (by decide) ?_
                  exact hjv6 _ H _ hM hS (bo_t (heq.trans (hte j (by omega))))
      · refine lv_aload_n hx hb d_MD_hasKey_26 rfl (lv_at hl 1 rfl) ?_
        refine hp_get S hK hM i_MD f_md rfl 9 (by decide) mf_MD_94 (fun _ h9 => h9) rfl d_MD_hasKey_27 ?_
        refine lv_iload hx hb d_MD_hasKey_30 (lv_at hl 0 rfl) ?_
        refine hp_iald S hK hM 1 f_kd rfl (24 * a + k) rfl (by omega) (by omega) d_MD_hasKey_32 ?_
        refine lv_iload_n hx hb d_MD_hasKey_33 rfl (lv_at hl 3 rfl) ?_
        refine nb_ne (tgt := 52) hx hb d_MD_hasKey_34 (by decide) (by have := b_kd ((24 * a + k)); omega) (by omega) (fun hkw => ?_) (fun hkw => ?_)
        · refine lv_iconst (v := nI 0) hx hb d_MD_hasKey_52 rfl ?_
          exact hjv2 _ H _ hM hS (bo_f (fun q => by first | exact hkw q.1 | exact hkyn q.2))
        · refine lv_aload_n hx hb d_MD_hasKey_37 rfl (lv_at hl 1 rfl) ?_
          refine hp_get S hK hM i_MD f_md rfl 11 (by decide) mf_MD_100 (fun _ h9 => h9) rfl d_MD_hasKey_38 ?_
          refine lv_iload hx hb d_MD_hasKey_41 (lv_at hl 0 rfl) ?_
          refine hp_iald S hK hM 1 f_ky rfl (24 * a + k) rfl (by omega) (by omega) d_MD_hasKey_43 ?_
          refine lv_iload_n hx hb d_MD_hasKey_44 rfl (lv_at hl 4 rfl) ?_
          refine nb_ne (tgt := 52) hx hb d_MD_hasKey_45 (by decide) (by have := b_ky ((24 * a + k)); omega) (by omega) (fun hkyn => ?_) (fun hkyn => ?_)
          · refine lv_iconst (v := nI 0) hx hb d_MD_hasKey_52 rfl ?_
            exact hjv2 _ H _ hM hS (bo_f (fun q => by first | exact hkw q.1 | exact hkyn q.2))
          · refine lv_iconst (v := nI 1) hx hb d_MD_hasKey_48 rfl ?_
            refine lv_goto (tgt := 53) hx hb d_MD_hasKey_49 (by decide) ?_
            exact hjv2 _ H _ hM hS (bo_t (⟨hkw, hkyn⟩))
