/-! THE MODEL: where its arrays lie, what they hold -/
abbrev MA : Type := Nat × Nat × Nat × Nat × Nat × Nat × Nat × Nat × Nat × Nat × Nat × Nat × Nat × Nat × Nat × Nat
abbrev MA.ro (X : MA) : Nat := X.1
abbrev MA.te (X : MA) : Nat := X.2.1
abbrev MA.he (X : MA) : Nat := X.2.2.1
abbrev MA.cn (X : MA) : Nat := X.2.2.2.1
abbrev MA.kd (X : MA) : Nat := X.2.2.2.2.1
abbrev MA.sz (X : MA) : Nat := X.2.2.2.2.2.1
abbrev MA.ky (X : MA) : Nat := X.2.2.2.2.2.2.1
abbrev MA.le (X : MA) : Nat := X.2.2.2.2.2.2.2.1
abbrev MA.dg (X : MA) : Nat := X.2.2.2.2.2.2.2.2.1
abbrev MA.nm (X : MA) : Nat := X.2.2.2.2.2.2.2.2.2.1
abbrev MA.ns (X : MA) : Nat := X.2.2.2.2.2.2.2.2.2.2.1
abbrev MA.sl (X : MA) : Nat := X.2.2.2.2.2.2.2.2.2.2.2.1
abbrev MA.sb (X : MA) : Nat := X.2.2.2.2.2.2.2.2.2.2.2.2.1
abbrev MA.su (X : MA) : Nat := X.2.2.2.2.2.2.2.2.2.2.2.2.2.1
abbrev MA.wi (X : MA) : Nat := X.2.2.2.2.2.2.2.2.2.2.2.2.2.2.1
abbrev MA.tu (X : MA) : Nat := X.2.2.2.2.2.2.2.2.2.2.2.2.2.2.2
abbrev mkA (ro : Nat) (te : Nat) (he : Nat) (cn : Nat) (kd : Nat) (sz : Nat) (ky : Nat) (le : Nat) (dg : Nat) (nm : Nat) (ns : Nat) (sl : Nat) (sb : Nat) (su : Nat) (wi : Nat) (tu : Nat) : MA := (ro, te, he, cn, kd, sz, ky, le, dg, nm, ns, sl, sb, su, wi, tu)
abbrev MS : Type := (Nat → Nat) × (Nat → Nat) × (Nat → Nat) × (Nat → Nat) × (Nat → Nat) × (Nat → Nat) × (Nat → Nat) × (Nat → Nat) × (Nat → Nat) × (Nat → Nat) × (Nat → Int32) × (Nat → Int32) × (Nat → Int32) × (Nat → Int32) × (Nat → Int32) × Nat × Nat × Nat × Nat × Nat × Nat
abbrev MS.te (X : MS) : Nat → Nat := X.1
abbrev MS.cn (X : MS) : Nat → Nat := X.2.1
abbrev MS.kd (X : MS) : Nat → Nat := X.2.2.1
abbrev MS.sz (X : MS) : Nat → Nat := X.2.2.2.1
abbrev MS.ky (X : MS) : Nat → Nat := X.2.2.2.2.1
abbrev MS.le (X : MS) : Nat → Nat := X.2.2.2.2.2.1
abbrev MS.nm (X : MS) : Nat → Nat := X.2.2.2.2.2.2.1
abbrev MS.ns (X : MS) : Nat → Nat := X.2.2.2.2.2.2.2.1
abbrev MS.sl (X : MS) : Nat → Nat := X.2.2.2.2.2.2.2.2.1
abbrev MS.sb (X : MS) : Nat → Nat := X.2.2.2.2.2.2.2.2.2.1
abbrev MS.he (X : MS) : Nat → Int32 := X.2.2.2.2.2.2.2.2.2.2.1
abbrev MS.dg (X : MS) : Nat → Int32 := X.2.2.2.2.2.2.2.2.2.2.2.1
abbrev MS.su (X : MS) : Nat → Int32 := X.2.2.2.2.2.2.2.2.2.2.2.2.1
abbrev MS.wi (X : MS) : Nat → Int32 := X.2.2.2.2.2.2.2.2.2.2.2.2.2.1
abbrev MS.tu (X : MS) : Nat → Int32 := X.2.2.2.2.2.2.2.2.2.2.2.2.2.2.1
abbrev MS.co (X : MS) : Nat := X.2.2.2.2.2.2.2.2.2.2.2.2.2.2.2.1
abbrev MS.ty (X : MS) : Nat := X.2.2.2.2.2.2.2.2.2.2.2.2.2.2.2.2.1
abbrev MS.ac (X : MS) : Nat := X.2.2.2.2.2.2.2.2.2.2.2.2.2.2.2.2.2.1
abbrev MS.al (X : MS) : Nat := X.2.2.2.2.2.2.2.2.2.2.2.2.2.2.2.2.2.2.1
abbrev MS.sd (X : MS) : Nat := X.2.2.2.2.2.2.2.2.2.2.2.2.2.2.2.2.2.2.2.1
abbrev MS.ss (X : MS) : Nat := X.2.2.2.2.2.2.2.2.2.2.2.2.2.2.2.2.2.2.2.2
abbrev mkS (te : (Nat → Nat)) (cn : (Nat → Nat)) (kd : (Nat → Nat)) (sz : (Nat → Nat)) (ky : (Nat → Nat)) (le : (Nat → Nat)) (nm : (Nat → Nat)) (ns : (Nat → Nat)) (sl : (Nat → Nat)) (sb : (Nat → Nat)) (he : (Nat → Int32)) (dg : (Nat → Int32)) (su : (Nat → Int32)) (wi : (Nat → Int32)) (tu : (Nat → Int32)) (co : Nat) (ty : Nat) (ac : Nat) (al : Nat) (sd : Nat) (ss : Nat) : MS := (te, cn, kd, sz, ky, le, nm, ns, sl, sb, he, dg, su, wi, tu, co, ty, ac, al, sd, ss)

def roF (i : Nat) : Int32 := if i < 64 then kF i else hF (i - 64)
def MA.ok (B : MA) : Prop := B.kd ≠ B.sz ∧ B.kd ≠ B.ky ∧ B.sz ≠ B.ky ∧ B.he ≠ B.ns ∧ B.he ≠ B.su ∧ B.he ≠ B.tu ∧ B.ns ≠ B.su ∧ B.ns ≠ B.tu ∧ B.su ≠ B.tu ∧ B.te ≠ B.wi
def MS.ok (V : MS) : Prop := (∀ i, V.te i < 65536) ∧ (∀ i, V.cn i ≤ 24) ∧ (∀ i, V.kd i ≤ 7) ∧ (∀ i, V.sz i ≤ 64) ∧ (∀ i, V.ky i ≤ 64) ∧ (∀ i, V.le i < 65536) ∧ (∀ i, V.nm i < 65536) ∧ (∀ i, V.ns i ≤ 16) ∧ (∀ i, V.sl i < 65536) ∧ (∀ i, V.sb i < 65536) ∧ V.co ≤ 2 ∧ V.ty ≤ 64 ∧ V.ac ≤ 12 ∧ V.al ≤ 8 ∧ V.sd ≤ 16 ∧ V.ss ≤ 3000
abbrev mO (B : MA) (V : MS) : va_E := (.inr (6, [.ref B.ro, .int (nI (V.co)), .ref B.te, .int (nI (V.ty)), .int (nI (V.ac)), .int (nI (V.al)), .int (nI (V.sd)), .ref B.he, .ref B.cn, .ref B.kd, .ref B.sz, .ref B.ky, .ref B.le, .ref B.dg, .ref B.nm, .ref B.ns, .ref B.sl, .ref B.sb, .int (nI (V.ss)), .ref B.su, .ref B.wi, .ref B.tu]))
def mdS (ct : Nat → ClassId) (M : hp_M) (md : Nat) (B : MA) (V : MS) : Prop := M md = some (mO B V) ∧ M B.ro = some (.inl (ct 1, 72, .inl roF)) ∧ M B.te = some (.inl (ct 1, 64, .inl (nf V.te))) ∧ M B.he = some (.inl (ct 1, 8, .inl (V.he))) ∧ M B.cn = some (.inl (ct 1, 12, .inl (nf V.cn))) ∧ M B.kd = some (.inl (ct 1, 288, .inl (nf V.kd))) ∧ M B.sz = some (.inl (ct 1, 288, .inl (nf V.sz))) ∧ M B.ky = some (.inl (ct 1, 288, .inl (nf V.ky))) ∧ M B.le = some (.inl (ct 1, 18432, .inl (nf V.le))) ∧ M B.dg = some (.inl (ct 1, 2304, .inl (V.dg))) ∧ M B.nm = some (.inl (ct 1, 128, .inl (nf V.nm))) ∧ M B.ns = some (.inl (ct 1, 8, .inl (nf V.ns))) ∧ M B.sl = some (.inl (ct 1, 16, .inl (nf V.sl))) ∧ M B.sb = some (.inl (ct 1, 3000, .inl (nf V.sb))) ∧ M B.su = some (.inl (ct 1, 8, .inl (V.su))) ∧ M B.wi = some (.inl (ct 1, 64, .inl (V.wi))) ∧ M B.tu = some (.inl (ct 1, 8, .inl (V.tu))) ∧ B.ok ∧ V.ok
section JOIN
variable {p : Program} {l : Launch} {e : Env} {R : Room} {s : State} {m : MethodId} {args : Array Value} {below : List Frame} {meth : Method} {c : Code} {H : Heap} {locs : List Loc} {cells slots : Nat} {Q : State → Prop} {pc : Nat} {ls : Array Slot} {st0 : List Value} {D : va_G} {A : Nat → Prop} {M : hp_M}
/-- several ways meet at pc2 with a value on the stack: what follows is walked once -/
theorem w_join (hM : hp_H D ccl A M H) (hS : va_S A s.heap H locs) {P : Int32 → Prop} {pc2 : Nat} {rest : List Value} (k1 : ∀ (v : Int32) (H : Heap) (locs : List Loc), hp_H D ccl A M H → va_S A s.heap H locs → P v → W p l e R s m args below meth c H locs cells slots Q (F0 m pc2 ls (.int v :: rest)))
    (k2 : (∀ (v : Int32) (H : Heap) (locs : List Loc), hp_H D ccl A M H → va_S A s.heap H locs → P v → W p l e R s m args below meth c H locs cells slots Q (F0 m pc2 ls (.int v :: rest))) → W p l e R s m args below meth c H locs cells slots Q (F0 m pc ls st0)) : W p l e R s m args below meth c H locs cells slots Q (F0 m pc ls st0) := k2 k1
/-- .. with none -/
theorem w_join0 (hM : hp_H D ccl A M H) (hS : va_S A s.heap H locs) {P : Prop} {pc2 : Nat} {rest : List Value} (k1 : ∀ (H : Heap) (locs : List Loc), hp_H D ccl A M H → va_S A s.heap H locs → P → W p l e R s m args below meth c H locs cells slots Q (F0 m pc2 ls rest))
    (k2 : (∀ (H : Heap) (locs : List Loc), hp_H D ccl A M H → va_S A s.heap H locs → P → W p l e R s m args below meth c H locs cells slots Q (F0 m pc2 ls rest)) → W p l e R s m args below meth c H locs cells slots Q (F0 m pc ls st0)) : W p l e R s m args below meth c H locs cells slots Q (F0 m pc ls st0) := k2 k1
end JOIN
theorem up_le {g : Nat → Nat} {n j k : Nat} (h : ∀ i, g i ≤ n) (hk : k ≤ n) (i : Nat) : va_up g j k i ≤ n := by
  by_cases z : i = j
  · rw [z, up_s]; exact hk
  · rw [up_n z]; exact h i
theorem up_lt {g : Nat → Nat} {n j k : Nat} (h : ∀ i, g i < n) (hk : k < n) (i : Nat) : va_up g j k i < n := by
  by_cases z : i = j
  · rw [z, up_s]; exact hk
  · rw [up_n z]; exact h i
theorem d_MD_isLetter_0 : decode b_MD_isLetter 0 = .ok (.iload_n 0, 1) := by decide +kernel
theorem d_MD_isLetter_1 : decode b_MD_isLetter 1 = .ok (.bipush 97, 2) := by decide +kernel
theorem d_MD_isLetter_3 : decode b_MD_isLetter 3 = .ok (.if_icmp .lt 9, 3) := by decide +kernel
theorem d_MD_isLetter_6 : decode b_MD_isLetter 6 = .ok (.iload_n 0, 1) := by decide +kernel
theorem d_MD_isLetter_7 : decode b_MD_isLetter 7 = .ok (.bipush 122, 2) := by decide +kernel
theorem d_MD_isLetter_9 : decode b_MD_isLetter 9 = .ok (.if_icmp .le 15, 3) := by decide +kernel
theorem d_MD_isLetter_12 : decode b_MD_isLetter 12 = .ok (.iload_n 0, 1) := by decide +kernel
theorem d_MD_isLetter_13 : decode b_MD_isLetter 13 = .ok (.bipush 65, 2) := by decide +kernel
theorem d_MD_isLetter_15 : decode b_MD_isLetter 15 = .ok (.if_icmp .lt 13, 3) := by decide +kernel
theorem d_MD_isLetter_18 : decode b_MD_isLetter 18 = .ok (.iload_n 0, 1) := by decide +kernel
theorem d_MD_isLetter_19 : decode b_MD_isLetter 19 = .ok (.bipush 90, 2) := by decide +kernel
theorem d_MD_isLetter_21 : decode b_MD_isLetter 21 = .ok (.if_icmp .gt 7, 3) := by decide +kernel
theorem d_MD_isLetter_24 : decode b_MD_isLetter 24 = .ok (.iconst 1, 1) := by decide +kernel
theorem d_MD_isLetter_25 : decode b_MD_isLetter 25 = .ok (.goto 4, 3) := by decide +kernel
theorem d_MD_isLetter_28 : decode b_MD_isLetter 28 = .ok (.iconst 0, 1) := by decide +kernel
theorem d_MD_isLetter_29 : decode b_MD_isLetter 29 = .ok (.ireturn, 1) := by decide +kernel
theorem d_MD_isDigit_0 : decode b_MD_isDigit 0 = .ok (.iload_n 0, 1) := by decide +kernel
theorem d_MD_isDigit_1 : decode b_MD_isDigit 1 = .ok (.bipush 48, 2) := by decide +kernel
theorem d_MD_isDigit_3 : decode b_MD_isDigit 3 = .ok (.if_icmp .lt 13, 3) := by decide +kernel
theorem d_MD_isDigit_6 : decode b_MD_isDigit 6 = .ok (.iload_n 0, 1) := by decide +kernel
theorem d_MD_isDigit_7 : decode b_MD_isDigit 7 = .ok (.bipush 57, 2) := by decide +kernel
theorem d_MD_isDigit_9 : decode b_MD_isDigit 9 = .ok (.if_icmp .gt 7, 3) := by decide +kernel
theorem d_MD_isDigit_12 : decode b_MD_isDigit 12 = .ok (.iconst 1, 1) := by decide +kernel
theorem d_MD_isDigit_13 : decode b_MD_isDigit 13 = .ok (.goto 4, 3) := by decide +kernel
theorem d_MD_isDigit_16 : decode b_MD_isDigit 16 = .ok (.iconst 0, 1) := by decide +kernel
theorem d_MD_isDigit_17 : decode b_MD_isDigit 17 = .ok (.ireturn, 1) := by decide +kernel
theorem d_MD_turned_0 : decode b_MD_turned 0 = .ok (.iload_n 0, 1) := by decide +kernel
theorem d_MD_turned_1 : decode b_MD_turned 1 = .ok (.iload_n 1, 1) := by decide +kernel
theorem d_MD_turned_2 : decode b_MD_turned 2 = .ok (.iushr, 1) := by decide +kernel
theorem d_MD_turned_3 : decode b_MD_turned 3 = .ok (.iload_n 0, 1) := by decide +kernel
theorem d_MD_turned_4 : decode b_MD_turned 4 = .ok (.bipush 32, 2) := by decide +kernel
theorem d_MD_turned_6 : decode b_MD_turned 6 = .ok (.iload_n 1, 1) := by decide +kernel
theorem d_MD_turned_7 : decode b_MD_turned 7 = .ok (.isub, 1) := by decide +kernel
theorem d_MD_turned_8 : decode b_MD_turned 8 = .ok (.ishl, 1) := by decide +kernel
theorem d_MD_turned_9 : decode b_MD_turned 9 = .ok (.ior, 1) := by decide +kernel
theorem d_MD_turned_10 : decode b_MD_turned 10 = .ok (.ireturn, 1) := by decide +kernel
theorem d_MD_hex_0 : decode b_MD_hex 0 = .ok (.iload_n 0, 1) := by decide +kernel
theorem d_MD_hex_1 : decode b_MD_hex 1 = .ok (.bipush 10, 2) := by decide +kernel
theorem d_MD_hex_3 : decode b_MD_hex 3 = .ok (.if_icmp .ge 10, 3) := by decide +kernel
theorem d_MD_hex_6 : decode b_MD_hex 6 = .ok (.bipush 48, 2) := by decide +kernel
theorem d_MD_hex_8 : decode b_MD_hex 8 = .ok (.iload_n 0, 1) := by decide +kernel
theorem d_MD_hex_9 : decode b_MD_hex 9 = .ok (.iadd, 1) := by decide +kernel
theorem d_MD_hex_10 : decode b_MD_hex 10 = .ok (.goto 10, 3) := by decide +kernel
theorem d_MD_hex_13 : decode b_MD_hex 13 = .ok (.bipush 97, 2) := by decide +kernel
theorem d_MD_hex_15 : decode b_MD_hex 15 = .ok (.iload_n 0, 1) := by decide +kernel
theorem d_MD_hex_16 : decode b_MD_hex 16 = .ok (.iadd, 1) := by decide +kernel
theorem d_MD_hex_17 : decode b_MD_hex 17 = .ok (.bipush 10, 2) := by decide +kernel
theorem d_MD_hex_19 : decode b_MD_hex 19 = .ok (.isub, 1) := by decide +kernel
theorem d_MD_hex_20 : decode b_MD_hex 20 = .ok (.ireturn, 1) := by decide +kernel
theorem d_MD_place_0 : decode b_MD_place 0 = .ok (.bipush 24, 2) := by decide +kernel
theorem d_MD_place_2 : decode b_MD_place 2 = .ok (.iload_n 1, 1) := by decide +kernel
theorem d_MD_place_3 : decode b_MD_place 3 = .ok (.imul, 1) := by decide +kernel
theorem d_MD_place_4 : decode b_MD_place 4 = .ok (.iload_n 2, 1) := by decide +kernel
theorem d_MD_place_5 : decode b_MD_place 5 = .ok (.iadd, 1) := by decide +kernel
theorem d_MD_place_6 : decode b_MD_place 6 = .ok (.ireturn, 1) := by decide +kernel
theorem d_MD_isAction_0 : decode b_MD_isAction 0 = .ok (.iload_n 1, 1) := by decide +kernel
theorem d_MD_isAction_1 : decode b_MD_isAction 1 = .ok (.ifCond .lt 15, 3) := by decide +kernel
theorem d_MD_isAction_4 : decode b_MD_isAction 4 = .ok (.iload_n 1, 1) := by decide +kernel
theorem d_MD_isAction_5 : decode b_MD_isAction 5 = .ok (.aload_n 0, 1) := by decide +kernel
theorem d_MD_isAction_6 : decode b_MD_isAction 6 = .ok (.getfield 144, 3) := by decide +kernel
theorem d_MD_isAction_9 : decode b_MD_isAction 9 = .ok (.if_icmp .ge 7, 3) := by decide +kernel
theorem d_MD_isAction_12 : decode b_MD_isAction 12 = .ok (.iconst 1, 1) := by decide +kernel
theorem d_MD_isAction_13 : decode b_MD_isAction 13 = .ok (.goto 4, 3) := by decide +kernel
theorem d_MD_isAction_16 : decode b_MD_isAction 16 = .ok (.iconst 0, 1) := by decide +kernel
theorem d_MD_isAction_17 : decode b_MD_isAction 17 = .ok (.ireturn, 1) := by decide +kernel
theorem d_MD_thrown_0 : decode b_MD_thrown 0 = .ok (.aload_n 0, 1) := by decide +kernel
theorem d_MD_thrown_1 : decode b_MD_thrown 1 = .ok (.getfield 137, 3) := by decide +kernel
theorem d_MD_thrown_4 : decode b_MD_thrown 4 = .ok (.ireturn, 1) := by decide +kernel
theorem d_MD_refuses_0 : decode b_MD_refuses 0 = .ok (.aload_n 0, 1) := by decide +kernel
theorem d_MD_refuses_1 : decode b_MD_refuses 1 = .ok (.iload_n 1, 1) := by decide +kernel
theorem d_MD_refuses_2 : decode b_MD_refuses 2 = .ok (.ifCond .eq 7, 3) := by decide +kernel
theorem d_MD_refuses_5 : decode b_MD_refuses 5 = .ok (.iconst 1, 1) := by decide +kernel
theorem d_MD_refuses_6 : decode b_MD_refuses 6 = .ok (.goto 12, 3) := by decide +kernel
theorem d_MD_refuses_9 : decode b_MD_refuses 9 = .ok (.iload_n 2, 1) := by decide +kernel
theorem d_MD_refuses_10 : decode b_MD_refuses 10 = .ok (.ifCond .eq 7, 3) := by decide +kernel
theorem d_MD_refuses_13 : decode b_MD_refuses 13 = .ok (.iconst 2, 1) := by decide +kernel
theorem d_MD_refuses_14 : decode b_MD_refuses 14 = .ok (.goto 4, 3) := by decide +kernel
theorem d_MD_refuses_17 : decode b_MD_refuses 17 = .ok (.iconst 0, 1) := by decide +kernel
theorem d_MD_refuses_18 : decode b_MD_refuses 18 = .ok (.putfield 137, 3) := by decide +kernel
theorem d_MD_refuses_21 : decode b_MD_refuses 21 = .ok (.aload_n 0, 1) := by decide +kernel
theorem d_MD_refuses_22 : decode b_MD_refuses 22 = .ok (.getfield 137, 3) := by decide +kernel
theorem d_MD_refuses_25 : decode b_MD_refuses 25 = .ok (.ifCond .le 7, 3) := by decide +kernel
theorem d_MD_refuses_28 : decode b_MD_refuses 28 = .ok (.iconst 1, 1) := by decide +kernel
theorem d_MD_refuses_29 : decode b_MD_refuses 29 = .ok (.goto 4, 3) := by decide +kernel
theorem d_MD_refuses_32 : decode b_MD_refuses 32 = .ok (.iconst 0, 1) := by decide +kernel
theorem d_MD_refuses_33 : decode b_MD_refuses 33 = .ok (.ireturn, 1) := by decide +kernel
theorem d_MD_takes_0 : decode b_MD_takes 0 = .ok (.aload_n 0, 1) := by decide +kernel
theorem d_MD_takes_1 : decode b_MD_takes 1 = .ok (.getfield 141, 3) := by decide +kernel
theorem d_MD_takes_4 : decode b_MD_takes 4 = .ok (.istore_n 1, 1) := by decide +kernel
theorem d_MD_takes_5 : decode b_MD_takes 5 = .ok (.aload_n 0, 1) := by decide +kernel
theorem d_MD_takes_6 : decode b_MD_takes 6 = .ok (.iconst 0, 1) := by decide +kernel
theorem d_MD_takes_7 : decode b_MD_takes 7 = .ok (.putfield 141, 3) := by decide +kernel
theorem d_MD_takes_10 : decode b_MD_takes 10 = .ok (.iload_n 1, 1) := by decide +kernel
theorem d_MD_takes_11 : decode b_MD_takes 11 = .ok (.ireturn, 1) := by decide +kernel
theorem d_MD_put_0 : decode b_MD_put 0 = .ok (.aload_n 0, 1) := by decide +kernel
theorem d_MD_put_1 : decode b_MD_put 1 = .ok (.getfield 118, 3) := by decide +kernel
theorem d_MD_put_4 : decode b_MD_put 4 = .ok (.aload_n 0, 1) := by decide +kernel
theorem d_MD_put_5 : decode b_MD_put 5 = .ok (.getfield 203, 3) := by decide +kernel
theorem d_MD_put_8 : decode b_MD_put 8 = .ok (.iload_n 1, 1) := by decide +kernel
theorem d_MD_put_9 : decode b_MD_put 9 = .ok (.iastore, 1) := by decide +kernel
theorem d_MD_put_10 : decode b_MD_put 10 = .ok (.aload_n 0, 1) := by decide +kernel
theorem d_MD_put_11 : decode b_MD_put 11 = .ok (.dup, 1) := by decide +kernel
theorem d_MD_put_12 : decode b_MD_put 12 = .ok (.getfield 203, 3) := by decide +kernel
theorem d_MD_put_15 : decode b_MD_put 15 = .ok (.iconst 1, 1) := by decide +kernel
theorem d_MD_put_16 : decode b_MD_put 16 = .ok (.iadd, 1) := by decide +kernel
theorem d_MD_put_17 : decode b_MD_put 17 = .ok (.putfield 203, 3) := by decide +kernel
theorem d_MD_put_20 : decode b_MD_put 20 = .ok (.return_, 1) := by decide +kernel
theorem d_MD_keepSum_0 : decode b_MD_keepSum 0 = .ok (.iconst 0, 1) := by decide +kernel
theorem d_MD_keepSum_1 : decode b_MD_keepSum 1 = .ok (.istore_n 1, 1) := by decide +kernel
theorem d_MD_keepSum_2 : decode b_MD_keepSum 2 = .ok (.iload_n 1, 1) := by decide +kernel
theorem d_MD_keepSum_3 : decode b_MD_keepSum 3 = .ok (.bipush 8, 2) := by decide +kernel
theorem d_MD_keepSum_5 : decode b_MD_keepSum 5 = .ok (.if_icmp .ge 21, 3) := by decide +kernel
theorem d_MD_keepSum_8 : decode b_MD_keepSum 8 = .ok (.aload_n 0, 1) := by decide +kernel
theorem d_MD_keepSum_9 : decode b_MD_keepSum 9 = .ok (.getfield 88, 3) := by decide +kernel
theorem d_MD_keepSum_12 : decode b_MD_keepSum 12 = .ok (.iload_n 1, 1) := by decide +kernel
theorem d_MD_keepSum_13 : decode b_MD_keepSum 13 = .ok (.aload_n 0, 1) := by decide +kernel
theorem d_MD_keepSum_14 : decode b_MD_keepSum 14 = .ok (.getfield 121, 3) := by decide +kernel
theorem d_MD_keepSum_17 : decode b_MD_keepSum 17 = .ok (.iload_n 1, 1) := by decide +kernel
theorem d_MD_keepSum_18 : decode b_MD_keepSum 18 = .ok (.iaload, 1) := by decide +kernel
theorem d_MD_keepSum_19 : decode b_MD_keepSum 19 = .ok (.iastore, 1) := by decide +kernel
theorem d_MD_keepSum_20 : decode b_MD_keepSum 20 = .ok (.iinc 1 1, 3) := by decide +kernel
theorem d_MD_keepSum_23 : decode b_MD_keepSum 23 = .ok (.goto (-21), 3) := by decide +kernel
theorem d_MD_keepSum_26 : decode b_MD_keepSum 26 = .ok (.return_, 1) := by decide +kernel
theorem d_MD_type_0 : decode b_MD_type 0 = .ok (.aload_n 0, 1) := by decide +kernel
theorem d_MD_type_1 : decode b_MD_type 1 = .ok (.iconst 0, 1) := by decide +kernel
theorem d_MD_type_2 : decode b_MD_type 2 = .ok (.putfield 137, 3) := by decide +kernel
theorem d_MD_type_5 : decode b_MD_type 5 = .ok (.iload_n 1, 1) := by decide +kernel
theorem d_MD_type_6 : decode b_MD_type 6 = .ok (.bipush 32, 2) := by decide +kernel
theorem d_MD_type_8 : decode b_MD_type 8 = .ok (.if_icmp .lt 18, 3) := by decide +kernel
theorem d_MD_type_11 : decode b_MD_type 11 = .ok (.iload_n 1, 1) := by decide +kernel
theorem d_MD_type_12 : decode b_MD_type 12 = .ok (.bipush 126, 2) := by decide +kernel
theorem d_MD_type_14 : decode b_MD_type 14 = .ok (.if_icmp .gt 12, 3) := by decide +kernel
theorem d_MD_type_17 : decode b_MD_type 17 = .ok (.aload_n 0, 1) := by decide +kernel
theorem d_MD_type_18 : decode b_MD_type 18 = .ok (.getfield 141, 3) := by decide +kernel
theorem d_MD_type_21 : decode b_MD_type 21 = .ok (.bipush 64, 2) := by decide +kernel
theorem d_MD_type_23 : decode b_MD_type 23 = .ok (.if_icmp .ne 5, 3) := by decide +kernel
theorem d_MD_type_26 : decode b_MD_type 26 = .ok (.iconst 0, 1) := by decide +kernel
theorem d_MD_type_27 : decode b_MD_type 27 = .ok (.ireturn, 1) := by decide +kernel
theorem d_MD_type_28 : decode b_MD_type 28 = .ok (.aload_n 0, 1) := by decide +kernel
theorem d_MD_type_29 : decode b_MD_type 29 = .ok (.getfield 85, 3) := by decide +kernel
theorem d_MD_type_32 : decode b_MD_type 32 = .ok (.aload_n 0, 1) := by decide +kernel
theorem d_MD_type_33 : decode b_MD_type 33 = .ok (.getfield 141, 3) := by decide +kernel
theorem d_MD_type_36 : decode b_MD_type 36 = .ok (.iload_n 1, 1) := by decide +kernel
theorem d_MD_type_37 : decode b_MD_type 37 = .ok (.iastore, 1) := by decide +kernel
theorem d_MD_type_38 : decode b_MD_type 38 = .ok (.aload_n 0, 1) := by decide +kernel
theorem d_MD_type_39 : decode b_MD_type 39 = .ok (.dup, 1) := by decide +kernel
theorem d_MD_type_40 : decode b_MD_type 40 = .ok (.getfield 141, 3) := by decide +kernel
theorem d_MD_type_43 : decode b_MD_type 43 = .ok (.iconst 1, 1) := by decide +kernel
theorem d_MD_type_44 : decode b_MD_type 44 = .ok (.iadd, 1) := by decide +kernel
theorem d_MD_type_45 : decode b_MD_type 45 = .ok (.putfield 141, 3) := by decide +kernel
theorem d_MD_type_48 : decode b_MD_type 48 = .ok (.iconst 1, 1) := by decide +kernel
theorem d_MD_type_49 : decode b_MD_type 49 = .ok (.ireturn, 1) := by decide +kernel
theorem d_MD_action_0 : decode b_MD_action 0 = .ok (.aload_n 0, 1) := by decide +kernel
theorem d_MD_action_1 : decode b_MD_action 1 = .ok (.aload_n 0, 1) := by decide +kernel
theorem d_MD_action_2 : decode b_MD_action 2 = .ok (.getfield 144, 3) := by decide +kernel
theorem d_MD_action_5 : decode b_MD_action 5 = .ok (.bipush 12, 2) := by decide +kernel
theorem d_MD_action_7 : decode b_MD_action 7 = .ok (.if_icmp .ne 7, 3) := by decide +kernel
theorem d_MD_action_10 : decode b_MD_action 10 = .ok (.iconst 1, 1) := by decide +kernel
theorem d_MD_action_11 : decode b_MD_action 11 = .ok (.goto 4, 3) := by decide +kernel
theorem d_MD_action_14 : decode b_MD_action 14 = .ok (.iconst 0, 1) := by decide +kernel
theorem d_MD_action_15 : decode b_MD_action 15 = .ok (.putfield 137, 3) := by decide +kernel
theorem d_MD_action_18 : decode b_MD_action 18 = .ok (.aload_n 0, 1) := by decide +kernel
theorem d_MD_action_19 : decode b_MD_action 19 = .ok (.getfield 137, 3) := by decide +kernel
theorem d_MD_action_22 : decode b_MD_action 22 = .ok (.ifCond .le 5, 3) := by decide +kernel
theorem d_MD_action_25 : decode b_MD_action 25 = .ok (.iconst 0, 1) := by decide +kernel
theorem d_MD_action_26 : decode b_MD_action 26 = .ok (.ireturn, 1) := by decide +kernel
theorem d_MD_action_27 : decode b_MD_action 27 = .ok (.aload_n 0, 1) := by decide +kernel
theorem d_MD_action_28 : decode b_MD_action 28 = .ok (.dup, 1) := by decide +kernel
theorem d_MD_action_29 : decode b_MD_action 29 = .ok (.getfield 144, 3) := by decide +kernel
theorem d_MD_action_32 : decode b_MD_action 32 = .ok (.iconst 1, 1) := by decide +kernel
theorem d_MD_action_33 : decode b_MD_action 33 = .ok (.iadd, 1) := by decide +kernel
theorem d_MD_action_34 : decode b_MD_action 34 = .ok (.putfield 144, 3) := by decide +kernel
theorem d_MD_action_37 : decode b_MD_action 37 = .ok (.aload_n 0, 1) := by decide +kernel
theorem d_MD_action_38 : decode b_MD_action 38 = .ok (.getfield 144, 3) := by decide +kernel
theorem d_MD_action_41 : decode b_MD_action 41 = .ok (.iconst 1, 1) := by decide +kernel
theorem d_MD_action_42 : decode b_MD_action 42 = .ok (.isub, 1) := by decide +kernel
theorem d_MD_action_43 : decode b_MD_action 43 = .ok (.ireturn, 1) := by decide +kernel
theorem d_MD_constant_0 : decode b_MD_constant 0 = .ok (.aload_n 0, 1) := by decide +kernel
theorem d_MD_constant_1 : decode b_MD_constant 1 = .ok (.iconst 0, 1) := by decide +kernel
theorem d_MD_constant_2 : decode b_MD_constant 2 = .ok (.putfield 137, 3) := by decide +kernel
theorem d_MD_constant_5 : decode b_MD_constant 5 = .ok (.iload_n 1, 1) := by decide +kernel
theorem d_MD_constant_6 : decode b_MD_constant 6 = .ok (.ifCond .lt 9, 3) := by decide +kernel
theorem d_MD_constant_9 : decode b_MD_constant 9 = .ok (.iload_n 1, 1) := by decide +kernel
theorem d_MD_constant_10 : decode b_MD_constant 10 = .ok (.bipush 71, 2) := by decide +kernel
theorem d_MD_constant_12 : decode b_MD_constant 12 = .ok (.if_icmp .le 7, 3) := by decide +kernel
theorem d_MD_constant_15 : decode b_MD_constant 15 = .ok (.iconst 0, 1) := by decide +kernel
theorem d_MD_constant_16 : decode b_MD_constant 16 = .ok (.goto 9, 3) := by decide +kernel
theorem d_MD_constant_19 : decode b_MD_constant 19 = .ok (.aload_n 0, 1) := by decide +kernel
theorem d_MD_constant_20 : decode b_MD_constant 20 = .ok (.getfield 79, 3) := by decide +kernel
theorem d_MD_constant_23 : decode b_MD_constant 23 = .ok (.iload_n 1, 1) := by decide +kernel
theorem d_MD_constant_24 : decode b_MD_constant 24 = .ok (.iaload, 1) := by decide +kernel
theorem d_MD_constant_25 : decode b_MD_constant 25 = .ok (.ireturn, 1) := by decide +kernel
set_option maxHeartbeats 4000000 in
set_option maxRecDepth 100000 in
theorem c_MD_isLetter (l : Launch) (D : va_G) (ct : Nat → ClassId) (Z : hp_Z) (hZ : hp_Zok Z) (M : hp_M) (sz : Nat) (k : Nat) (hk : k < 65536) : Mi l y_MD_isLetter b_MD_isLetter 1 (some .boolean) 0 0 0 0 [.int (nI k)] D ct Z M sz (fun r M1 => M1 = M ∧ bo r (isLet k)) := by
  refine hp_start (by decide) (Nat.le_of_ble_eq_true rfl) (fun p e s m below meth c ls S hret hlk hnm hsz hK hM hS hA hz hl => ?_)
  have hx := S.1
  have hb := S.2.1
  have hl : lv_has ls 1 [(0, .int (nI k))] := hl
  refine lv_iload_n hx hb d_MD_isLetter_0 rfl (lv_at hl 0 rfl) ?_
  refine lv_bipush (v := nI 97) hx hb d_MD_isLetter_1 rfl ?_
  refine nb_lt (tgt := 12) hx hb d_MD_isLetter_3 (by decide) (by omega) (by omega) (fun h1 => ?_) (fun h1 => ?_)
  · refine lv_iload_n hx hb d_MD_isLetter_12 rfl (lv_at hl 0 rfl) ?_
    refine lv_bipush (v := nI 65) hx hb d_MD_isLetter_13 rfl ?_
    refine nb_lt (tgt := 28) hx hb d_MD_isLetter_15 (by decide) (by omega) (by omega) (fun h2 => ?_) (fun h2 => ?_)
    · refine lv_iconst (v := nI 0) hx hb d_MD_isLetter_28 rfl ?_
      exact hp_iret S hret hlk (rfl) hM hS (⟨rfl, bo_f (by unfold isLet; omega)⟩) d_MD_isLetter_29
    · refine lv_iload_n hx hb d_MD_isLetter_18 rfl (lv_at hl 0 rfl) ?_
      refine lv_bipush (v := nI 90) hx hb d_MD_isLetter_19 rfl ?_
      refine nb_gt (tgt := 28) hx hb d_MD_isLetter_21 (by decide) (by omega) (by omega) (fun h3 => ?_) (fun h3 => ?_)
      · refine lv_iconst (v := nI 0) hx hb d_MD_isLetter_28 rfl ?_
        exact hp_iret S hret hlk (rfl) hM hS (⟨rfl, bo_f (by unfold isLet; omega)⟩) d_MD_isLetter_29
      · refine lv_iconst (v := nI 1) hx hb d_MD_isLetter_24 rfl ?_
        refine lv_goto (tgt := 29) hx hb d_MD_isLetter_25 (by decide) ?_
        exact hp_iret S hret hlk (rfl) hM hS (⟨rfl, bo_t (by unfold isLet; omega)⟩) d_MD_isLetter_29
  · refine lv_iload_n hx hb d_MD_isLetter_6 rfl (lv_at hl 0 rfl) ?_
    refine lv_bipush (v := nI 122) hx hb d_MD_isLetter_7 rfl ?_
    refine nb_le (tgt := 24) hx hb d_MD_isLetter_9 (by decide) (by omega) (by omega) (fun h4 => ?_) (fun h4 => ?_)
    · refine lv_iconst (v := nI 1) hx hb d_MD_isLetter_24 rfl ?_
      refine lv_goto (tgt := 29) hx hb d_MD_isLetter_25 (by decide) ?_
      exact hp_iret S hret hlk (rfl) hM hS (⟨rfl, bo_t (by unfold isLet; omega)⟩) d_MD_isLetter_29
    · refine lv_iload_n hx hb d_MD_isLetter_12 rfl (lv_at hl 0 rfl) ?_
      refine lv_bipush (v := nI 65) hx hb d_MD_isLetter_13 rfl ?_
      refine nb_lt (tgt := 28) hx hb d_MD_isLetter_15 (by decide) (by omega) (by omega) (fun h5 => ?_) (fun h5 => ?_)
      · refine lv_iconst (v := nI 0) hx hb d_MD_isLetter_28 rfl ?_
        exact hp_iret S hret hlk (rfl) hM hS (⟨rfl, bo_f (by unfold isLet; omega)⟩) d_MD_isLetter_29
      · refine lv_iload_n hx hb d_MD_isLetter_18 rfl (lv_at hl 0 rfl) ?_
        refine lv_bipush (v := nI 90) hx hb d_MD_isLetter_19 rfl ?_
        refine nb_gt (tgt := 28) hx hb d_MD_isLetter_21 (by decide) (by omega) (by omega) (fun h6 => ?_) (fun h6 => ?_)
        · refine lv_iconst (v := nI 0) hx hb d_MD_isLetter_28 rfl ?_
          exact hp_iret S hret hlk (rfl) hM hS (⟨rfl, bo_f (by unfold isLet; omega)⟩) d_MD_isLetter_29
        · refine lv_iconst (v := nI 1) hx hb d_MD_isLetter_24 rfl ?_
          refine lv_goto (tgt := 29) hx hb d_MD_isLetter_25 (by decide) ?_
          exact hp_iret S hret hlk (rfl) hM hS (⟨rfl, bo_t (by unfold isLet; omega)⟩) d_MD_isLetter_29
set_option maxHeartbeats 4000000 in
set_option maxRecDepth 100000 in
theorem c_MD_isDigit (l : Launch) (D : va_G) (ct : Nat → ClassId) (Z : hp_Z) (hZ : hp_Zok Z) (M : hp_M) (sz : Nat) (k : Nat) (hk : k < 65536) : Mi l y_MD_isDigit b_MD_isDigit 1 (some .boolean) 0 0 0 0 [.int (nI k)] D ct Z M sz (fun r M1 => M1 = M ∧ bo r (isDig k)) := by
  refine hp_start (by decide) (Nat.le_of_ble_eq_true rfl) (fun p e s m below meth c ls S hret hlk hnm hsz hK hM hS hA hz hl => ?_)
  have hx := S.1
  have hb := S.2.1
  have hl : lv_has ls 1 [(0, .int (nI k))] := hl
  refine lv_iload_n hx hb d_MD_isDigit_0 rfl (lv_at hl 0 rfl) ?_
  refine lv_bipush (v := nI 48) hx hb d_MD_isDigit_1 rfl ?_
  refine nb_lt (tgt := 16) hx hb d_MD_isDigit_3 (by decide) (by omega) (by omega) (fun h1 => ?_) (fun h1 => ?_)
  · refine lv_iconst (v := nI 0) hx hb d_MD_isDigit_16 rfl ?_
    exact hp_iret S hret hlk (rfl) hM hS (⟨rfl, bo_f (by unfold isDig; omega)⟩) d_MD_isDigit_17
  · refine lv_iload_n hx hb d_MD_isDigit_6 rfl (lv_at hl 0 rfl) ?_
    refine lv_bipush (v := nI 57) hx hb d_MD_isDigit_7 rfl ?_
    refine nb_gt (tgt := 16) hx hb d_MD_isDigit_9 (by decide) (by omega) (by omega) (fun h2 => ?_) (fun h2 => ?_)
    · refine lv_iconst (v := nI 0) hx hb d_MD_isDigit_16 rfl ?_
      exact hp_iret S hret hlk (rfl) hM hS (⟨rfl, bo_f (by unfold isDig; omega)⟩) d_MD_isDigit_17
    · refine lv_iconst (v := nI 1) hx hb d_MD_isDigit_12 rfl ?_
      refine lv_goto (tgt := 17) hx hb d_MD_isDigit_13 (by decide) ?_
      exact hp_iret S hret hlk (rfl) hM hS (⟨rfl, bo_t (by unfold isDig; omega)⟩) d_MD_isDigit_17
set_option maxHeartbeats 4000000 in
set_option maxRecDepth 100000 in
theorem c_MD_turned (l : Launch) (D : va_G) (ct : Nat → ClassId) (Z : hp_Z) (hZ : hp_Zok Z) (M : hp_M) (sz : Nat) (x : Int32) (b : Nat) (hb32 : b ≤ 32) : Mi l y_MD_turned b_MD_turned 2 (some .int) 0 0 0 0 [.int x, .int (nI b)] D ct Z M sz (fun r M1 => M1 = M ∧ r = tr x b) := by
  refine hp_start (by decide) (Nat.le_of_ble_eq_true rfl) (fun p e s m below meth c ls S hret hlk hnm hsz hK hM hS hA hz hl => ?_)
  have hx := S.1
  have hb := S.2.1
  have hl : lv_has ls 2 [(0, .int x), (1, .int (nI b))] := hl
  refine lv_iload_n hx hb d_MD_turned_0 rfl (lv_at hl 0 rfl) ?_
  refine lv_iload_n hx hb d_MD_turned_1 rfl (lv_at hl 1 rfl) ?_
  refine lv_iushr hx hb d_MD_turned_2 rfl ?_
  refine lv_iload_n hx hb d_MD_turned_3 rfl (lv_at hl 0 rfl) ?_
  refine lv_bipush (v := nI 32) hx hb d_MD_turned_4 rfl ?_
  refine lv_iload_n hx hb d_MD_turned_6 rfl (lv_at hl 1 rfl) ?_
  refine nb_isub hx hb d_MD_turned_7 (by omega) ?_
  refine lv_ishl hx hb d_MD_turned_8 ?_
  refine lv_ior hx hb d_MD_turned_9 ?_
  exact hp_iret S hret hlk (rfl) hM hS (⟨rfl, rfl⟩) d_MD_turned_10
set_option maxHeartbeats 4000000 in
set_option maxRecDepth 100000 in
theorem c_MD_hex (l : Launch) (D : va_G) (ct : Nat → ClassId) (Z : hp_Z) (hZ : hp_Zok Z) (M : hp_M) (sz : Nat) (k : Nat) (hk : k < 16) : Mi l y_MD_hex b_MD_hex 1 (some .int) 0 0 0 0 [.int (nI k)] D ct Z M sz (fun r M1 => M1 = M ∧ r = nI (hexC k)) := by
  refine hp_start (by decide) (Nat.le_of_ble_eq_true rfl) (fun p e s m below meth c ls S hret hlk hnm hsz hK hM hS hA hz hl => ?_)
  have hx := S.1
  have hb := S.2.1
  have hl : lv_has ls 1 [(0, .int (nI k))] := hl
  refine lv_iload_n hx hb d_MD_hex_0 rfl (lv_at hl 0 rfl) ?_
  refine lv_bipush (v := nI 10) hx hb d_MD_hex_1 rfl ?_
  refine nb_ge (tgt := 13) hx hb d_MD_hex_3 (by decide) (by omega) (by omega) (fun h10 => ?_) (fun h10 => ?_)
  · refine lv_bipush (v := nI 97) hx hb d_MD_hex_13 rfl ?_
    refine lv_iload_n hx hb d_MD_hex_15 rfl (lv_at hl 0 rfl) ?_
    refine nb_iadd hx hb d_MD_hex_16 ?_
    refine lv_bipush (v := nI 10) hx hb d_MD_hex_17 rfl ?_
    refine nb_isub hx hb d_MD_hex_19 (by omega) ?_
    exact hp_iret S hret hlk (rfl) hM hS (⟨rfl, by unfold hexC; first | rw [if_pos (by omega)] | rw [if_neg (by omega)]⟩) d_MD_hex_20
  · refine lv_bipush (v := nI 48) hx hb d_MD_hex_6 rfl ?_
    refine lv_iload_n hx hb d_MD_hex_8 rfl (lv_at hl 0 rfl) ?_
    refine nb_iadd hx hb d_MD_hex_9 ?_
    refine lv_goto (tgt := 20) hx hb d_MD_hex_10 (by decide) ?_
    exact hp_iret S hret hlk (rfl) hM hS (⟨rfl, by unfold hexC; first | rw [if_pos (by omega)] | rw [if_neg (by omega)]⟩) d_MD_hex_20
set_option maxHeartbeats 4000000 in
set_option maxRecDepth 100000 in
theorem c_MD_place (l : Launch) (D : va_G) (ct : Nat → ClassId) (Z : hp_Z) (hZ : hp_Zok Z) (M : hp_M) (sz : Nat) (md a k : Nat) : Mi l y_MD_place b_MD_place 3 (some .int) 0 0 0 0 [.ref md, .int (nI a), .int (nI k)] D ct Z M sz (fun r M1 => M1 = M ∧ r = nI (24 * a + k)) := by
  refine hp_start (by decide) (Nat.le_of_ble_eq_true rfl) (fun p e s m below meth c ls S hret hlk hnm hsz hK hM hS hA hz hl => ?_)
  have hx := S.1
  have hb := S.2.1
  have hl : lv_has ls 3 [(0, .ref md), (1, .int (nI a)), (2, .int (nI k))] := hl
  refine lv_bipush (v := nI 24) hx hb d_MD_place_0 rfl ?_
  refine lv_iload_n hx hb d_MD_place_2 rfl (lv_at hl 1 rfl) ?_
  refine nb_imul hx hb d_MD_place_3 ?_
  refine lv_iload_n hx hb d_MD_place_4 rfl (lv_at hl 2 rfl) ?_
  refine nb_iadd hx hb d_MD_place_5 ?_
  exact hp_iret S hret hlk (rfl) hM hS (⟨rfl, rfl⟩) d_MD_place_6
set_option maxHeartbeats 4000000 in
set_option maxRecDepth 100000 in
theorem c_MD_isAction (l : Launch) (D : va_G) (ct : Nat → ClassId) (Z : hp_Z) (hZ : hp_Zok Z) (M : hp_M) (sz : Nat) (md : Nat) (B : MA) (V : MS) (hw : mdS ct M md B V) (k : Int32) : Mi l y_MD_isAction b_MD_isAction 2 (some .boolean) 0 0 0 0 [.ref md, .int k] D ct Z M sz (fun r M1 => M1 = M ∧ bo r (∃ j, j < V.ac ∧ k = nI j)) := by
  refine hp_start (by decide) (Nat.le_of_ble_eq_true rfl) (fun p e s m below meth c ls S hret hlk hnm hsz hK hM hS hA hz hl => ?_)
  have hx := S.1
  have hb := S.2.1
  have hl : lv_has ls 2 [(0, .ref md), (1, .int k)] := hl
  obtain ⟨f_md, f_ro, f_te, f_he, f_cn, f_kd, f_sz, f_ky, f_le, f_dg, f_nm, f_ns, f_sl, f_sb, f_su, f_wi, f_tu, hB, hV⟩ := id hw
  obtain ⟨n_kdsz, n_kdky, n_szky, n_hens, n_hesu, n_hetu, n_nssu, n_nstu, n_sutu, n_tewi⟩ := id hB
  obtain ⟨b_te, b_cn, b_kd, b_sz, b_ky, b_le, b_nm, b_ns, b_sl, b_sb, b_co, b_ty, b_ac, b_al, b_sd, b_ss⟩ := id hV
  refine lv_iload_n hx hb d_MD_isAction_0 rfl (lv_at hl 1 rfl) ?_
  refine lv_if_lt (tgt := 16) hx hb d_MD_isAction_1 (by decide) (fun h0 => ?_) (fun h0 => ?_)
  · refine lv_iconst (v := nI 0) hx hb d_MD_isAction_16 rfl ?_
    exact hp_iret S hret hlk (rfl) hM hS (⟨rfl, bo_f (fun z9 => by obtain ⟨j, hj, ej⟩ := z9; subst ej; first | exact nI_pos (Nat.lt_of_lt_of_le hj (Nat.le_trans b_ac (by decide))) h0 | exact absurd ((nI_leI (Nat.lt_of_le_of_lt b_ac (by decide)) (Nat.lt_of_lt_of_le hj (Nat.le_trans b_ac (by decide)))).mp h1) (by omega))⟩) d_MD_isAction_17
  · refine lv_iload_n hx hb d_MD_isAction_4 rfl (lv_at hl 1 rfl) ?_
    refine lv_aload_n hx hb d_MD_isAction_5 rfl (lv_at hl 0 rfl) ?_
    refine hp_get S hK hM i_MD f_md rfl 4 (by decide) mf_MD_144 (fun _ h9 => h9) rfl d_MD_isAction_6 ?_
    refine lv_icmp_ge (tgt := 16) hx hb d_MD_isAction_9 (by decide) (fun h1 => ?_) (fun h1 => ?_)
    · refine lv_iconst (v := nI 0) hx hb d_MD_isAction_16 rfl ?_
      exact hp_iret S hret hlk (rfl) hM hS (⟨rfl, bo_f (fun z9 => by obtain ⟨j, hj, ej⟩ := z9; subst ej; first | exact nI_pos (Nat.lt_of_lt_of_le hj (Nat.le_trans b_ac (by decide))) h0 | exact absurd ((nI_leI (Nat.lt_of_le_of_lt b_ac (by decide)) (Nat.lt_of_lt_of_le hj (Nat.le_trans b_ac (by decide)))).mp h1) (by omega))⟩) d_MD_isAction_17
    · refine lv_iconst (v := nI 1) hx hb d_MD_isAction_12 rfl ?_
      refine lv_goto (tgt := 17) hx hb d_MD_isAction_13 (by decide) ?_
      obtain ⟨j, hj, ej⟩ := nI_of h0
      have h2 : j < V.ac := by rw [ej] at h1; exact (nI_ltI hj (by omega)).mp (Int32.not_le.mp h1)
      exact hp_iret S hret hlk (rfl) hM hS (⟨rfl, bo_t ⟨j, h2, ej⟩⟩) d_MD_isAction_17
set_option maxHeartbeats 4000000 in
set_option maxRecDepth 100000 in
theorem c_MD_thrown (l : Launch) (D : va_G) (ct : Nat → ClassId) (Z : hp_Z) (hZ : hp_Zok Z) (M : hp_M) (sz : Nat) (md : Nat) (B : MA) (V : MS) (hw : mdS ct M md B V) : Mi l y_MD_thrown b_MD_thrown 1 (some .int) 0 0 0 0 [.ref md] D ct Z M sz (fun r M1 => M1 = M ∧ r = nI V.co) := by
  refine hp_start (by decide) (Nat.le_of_ble_eq_true rfl) (fun p e s m below meth c ls S hret hlk hnm hsz hK hM hS hA hz hl => ?_)
  have hx := S.1
  have hb := S.2.1
  have hl : lv_has ls 1 [(0, .ref md)] := hl
  obtain ⟨f_md, f_ro, f_te, f_he, f_cn, f_kd, f_sz, f_ky, f_le, f_dg, f_nm, f_ns, f_sl, f_sb, f_su, f_wi, f_tu, hB, hV⟩ := id hw
  obtain ⟨n_kdsz, n_kdky, n_szky, n_hens, n_hesu, n_hetu, n_nssu, n_nstu, n_sutu, n_tewi⟩ := id hB
  obtain ⟨b_te, b_cn, b_kd, b_sz, b_ky, b_le, b_nm, b_ns, b_sl, b_sb, b_co, b_ty, b_ac, b_al, b_sd, b_ss⟩ := id hV
  refine lv_aload_n hx hb d_MD_thrown_0 rfl (lv_at hl 0 rfl) ?_
  refine hp_get S hK hM i_MD f_md rfl 1 (by decide) mf_MD_137 (fun _ h9 => h9) rfl d_MD_thrown_1 ?_
  exact hp_iret S hret hlk (rfl) hM hS (⟨rfl, rfl⟩) d_MD_thrown_4
set_option maxHeartbeats 4000000 in
set_option maxRecDepth 100000 in
theorem c_MD_refuses (l : Launch) (D : va_G) (ct : Nat → ClassId) (Z : hp_Z) (hZ : hp_Zok Z) (M : hp_M) (sz : Nat) (md : Nat) (B : MA) (V : MS) (hw : mdS ct M md B V) (r1 r2 : Int32) (P1 P2 : Prop) (h1 : bo r1 P1) (h2 : bo r2 P2) : Mi l y_MD_refuses b_MD_refuses 3 (some .boolean) 0 0 0 0 [.ref md, .int r1, .int r2] D ct Z M sz (fun r M1 => (P1 ∧ r = nI 1 ∧ mdS ct M1 md B (mkS (V.te) (V.cn) (V.kd) (V.sz) (V.ky) (V.le) (V.nm) (V.ns) (V.sl) (V.sb) (V.he) (V.dg) (V.su) (V.wi) (V.tu) 1 (V.ty) (V.ac) (V.al) (V.sd) (V.ss))) ∨ (¬ P1 ∧ P2 ∧ r = nI 1 ∧ mdS ct M1 md B (mkS (V.te) (V.cn) (V.kd) (V.sz) (V.ky) (V.le) (V.nm) (V.ns) (V.sl) (V.sb) (V.he) (V.dg) (V.su) (V.wi) (V.tu) 2 (V.ty) (V.ac) (V.al) (V.sd) (V.ss))) ∨ (¬ P1 ∧ ¬ P2 ∧ r = nI 0 ∧ mdS ct M1 md B (mkS (V.te) (V.cn) (V.kd) (V.sz) (V.ky) (V.le) (V.nm) (V.ns) (V.sl) (V.sb) (V.he) (V.dg) (V.su) (V.wi) (V.tu) 0 (V.ty) (V.ac) (V.al) (V.sd) (V.ss)))) := by
  refine hp_start (by decide) (Nat.le_of_ble_eq_true rfl) (fun p e s m below meth c ls S hret hlk hnm hsz hK hM hS hA hz hl => ?_)
  have hx := S.1
  have hb := S.2.1
  have hl : lv_has ls 3 [(0, .ref md), (1, .int r1), (2, .int r2)] := hl
  obtain ⟨f_md, f_ro, f_te, f_he, f_cn, f_kd, f_sz, f_ky, f_le, f_dg, f_nm, f_ns, f_sl, f_sb, f_su, f_wi, f_tu, hB, hV⟩ := id hw
  obtain ⟨n_kdsz, n_kdky, n_szky, n_hens, n_hesu, n_hetu, n_nssu, n_nstu, n_sutu, n_tewi⟩ := id hB
  obtain ⟨b_te, b_cn, b_kd, b_sz, b_ky, b_le, b_nm, b_ns, b_sl, b_sb, b_co, b_ty, b_ac, b_al, b_sd, b_ss⟩ := id hV
  refine lv_aload_n hx hb d_MD_refuses_0 rfl (lv_at hl 0 rfl) ?_
  refine lv_iload_n hx hb d_MD_refuses_1 rfl (lv_at hl 1 rfl) ?_
  refine nt_eq (tgt := 9) hx hb d_MD_refuses_2 (by decide) h1 (fun ha => ?_) (fun ha => ?_)
  · refine lv_iload_n hx hb d_MD_refuses_9 rfl (lv_at hl 2 rfl) ?_
    refine nt_eq (tgt := 17) hx hb d_MD_refuses_10 (by decide) h2 (fun hc => ?_) (fun hc => ?_)
    · refine lv_iconst (v := nI 0) hx hb d_MD_refuses_17 rfl ?_
      refine hp_put (ty := .int) (fs' := [.ref B.ro, .int (nI 0), .ref B.te, .int (nI (V.ty)), .int (nI (V.ac)), .int (nI (V.al)), .int (nI (V.sd)), .ref B.he, .ref B.cn, .ref B.kd, .ref B.sz, .ref B.ky, .ref B.le, .ref B.dg, .ref B.nm, .ref B.ns, .ref B.sl, .ref B.sb, .int (nI (V.ss)), .ref B.su, .ref B.wi, .ref B.tu]) S hK hM hS i_MD t_MD to_MD n_MD f_md rfl 1 (by decide) mf_MD_137 (fun _ h9 => h9) rfl (by decide +kernel) rfl rfl (by simp) rfl d_MD_refuses_18 (fun H locs hM hS => ?_)
      have f_ro := hp_k (e := (.inr (6, [.ref B.ro, .int (nI 0), .ref B.te, .int (nI (V.ty)), .int (nI (V.ac)), .int (nI (V.al)), .int (nI (V.sd)), .ref B.he, .ref B.cn, .ref B.kd, .ref B.sz, .ref B.ky, .ref B.le, .ref B.dg, .ref B.nm, .ref B.ns, .ref B.sl, .ref B.sb, .int (nI (V.ss)), .ref B.su, .ref B.wi, .ref B.tu]))) (hp_ne f_ro f_md (by simp)) f_ro
      have f_te := hp_k (e := (.inr (6, [.ref B.ro, .int (nI 0), .ref B.te, .int (nI (V.ty)), .int (nI (V.ac)), .int (nI (V.al)), .int (nI (V.sd)), .ref B.he, .ref B.cn, .ref B.kd, .ref B.sz, .ref B.ky, .ref B.le, .ref B.dg, .ref B.nm, .ref B.ns, .ref B.sl, .ref B.sb, .int (nI (V.ss)), .ref B.su, .ref B.wi, .ref B.tu]))) (hp_ne f_te f_md (by simp)) f_te
      have f_he := hp_k (e := (.inr (6, [.ref B.ro, .int (nI 0), .ref B.te, .int (nI (V.ty)), .int (nI (V.ac)), .int (nI (V.al)), .int (nI (V.sd)), .ref B.he, .ref B.cn, .ref B.kd, .ref B.sz, .ref B.ky, .ref B.le, .ref B.dg, .ref B.nm, .ref B.ns, .ref B.sl, .ref B.sb, .int (nI (V.ss)), .ref B.su, .ref B.wi, .ref B.tu]))) (hp_ne f_he f_md (by simp)) f_he
      have f_cn := hp_k (e := (.inr (6, [.ref B.ro, .int (nI 0), .ref B.te, .int (nI (V.ty)), .int (nI (V.ac)), .int (nI (V.al)), .int (nI (V.sd)), .ref B.he, .ref B.cn, .ref B.kd, .ref B.sz, .ref B.ky, .ref B.le, .ref B.dg, .ref B.nm, .ref B.ns, .ref B.sl, .ref B.sb, .int (nI (V.ss)), .ref B.su, .ref B.wi, .ref B.tu]))) (hp_ne f_cn f_md (by simp)) f_cn
      have f_kd := hp_k (e := (.inr (6, [.ref B.ro, .int (nI 0), .ref B.te, .int (nI (V.ty)), .int (nI (V.ac)), .int (nI (V.al)), .int (nI (V.sd)), .ref B.he, .ref B.cn, .ref B.kd, .ref B.sz, .ref B.ky, .ref B.le, .ref B.dg, .ref B.nm, .ref B.ns, .ref B.sl, .ref B.sb, .int (nI (V.ss)), .ref B.su, .ref B.wi, .ref B.tu]))) (hp_ne f_kd f_md (by simp)) f_kd
      have f_sz := hp_k (e := (.inr (6, [.ref B.ro, .int (nI 0), .ref B.te, .int (nI (V.ty)), .int (nI (V.ac)), .int (nI (V.al)), .int (nI (V.sd)), .ref B.he, .ref B.cn, .ref B.kd, .ref B.sz, .ref B.ky, .ref B.le, .ref B.dg, .ref B.nm, .ref B.ns, .ref B.sl, .ref B.sb, .int (nI (V.ss)), .ref B.su, .ref B.wi, .ref B.tu]))) (hp_ne f_sz f_md (by simp)) f_sz
      have f_ky := hp_k (e := (.inr (6, [.ref B.ro, .int (nI 0), .ref B.te, .int (nI (V.ty)), .int (nI (V.ac)), .int (nI (V.al)), .int (nI (V.sd)), .ref B.he, .ref B.cn, .ref B.kd, .ref B.sz, .ref B.ky, .ref B.le, .ref B.dg, .ref B.nm, .ref B.ns, .ref B.sl, .ref B.sb, .int (nI (V.ss)), .ref B.su, .ref B.wi, .ref B.tu]))) (hp_ne f_ky f_md (by simp)) f_ky
      have f_le := hp_k (e := (.inr (6, [.ref B.ro, .int (nI 0), .ref B.te, .int (nI (V.ty)), .int (nI (V.ac)), .int (nI (V.al)), .int (nI (V.sd)), .ref B.he, .ref B.cn, .ref B.kd, .ref B.sz, .ref B.ky, .ref B.le, .ref B.dg, .ref B.nm, .ref B.ns, .ref B.sl, .ref B.sb, .int (nI (V.ss)), .ref B.su, .ref B.wi, .ref B.tu]))) (hp_ne f_le f_md (by simp)) f_le
      have f_dg := hp_k (e := (.inr (6, [.ref B.ro, .int (nI 0), .ref B.te, .int (nI (V.ty)), .int (nI (V.ac)), .int (nI (V.al)), .int (nI (V.sd)), .ref B.he, .ref B.cn, .ref B.kd, .ref B.sz, .ref B.ky, .ref B.le, .ref B.dg, .ref B.nm, .ref B.ns, .ref B.sl, .ref B.sb, .int (nI (V.ss)), .ref B.su, .ref B.wi, .ref B.tu]))) (hp_ne f_dg f_md (by simp)) f_dg
      have f_nm := hp_k (e := (.inr (6, [.ref B.ro, .int (nI 0), .ref B.te, .int (nI (V.ty)), .int (nI (V.ac)), .int (nI (V.al)), .int (nI (V.sd)), .ref B.he, .ref B.cn, .ref B.kd, .ref B.sz, .ref B.ky, .ref B.le, .ref B.dg, .ref B.nm, .ref B.ns, .ref B.sl, .ref B.sb, .int (nI (V.ss)), .ref B.su, .ref B.wi, .ref B.tu]))) (hp_ne f_nm f_md (by simp)) f_nm
      have f_ns := hp_k (e := (.inr (6, [.ref B.ro, .int (nI 0), .ref B.te, .int (nI (V.ty)), .int (nI (V.ac)), .int (nI (V.al)), .int (nI (V.sd)), .ref B.he, .ref B.cn, .ref B.kd, .ref B.sz, .ref B.ky, .ref B.le, .ref B.dg, .ref B.nm, .ref B.ns, .ref B.sl, .ref B.sb, .int (nI (V.ss)), .ref B.su, .ref B.wi, .ref B.tu]))) (hp_ne f_ns f_md (by simp)) f_ns
      have f_sl := hp_k (e := (.inr (6, [.ref B.ro, .int (nI 0), .ref B.te, .int (nI (V.ty)), .int (nI (V.ac)), .int (nI (V.al)), .int (nI (V.sd)), .ref B.he, .ref B.cn, .ref B.kd, .ref B.sz, .ref B.ky, .ref B.le, .ref B.dg, .ref B.nm, .ref B.ns, .ref B.sl, .ref B.sb, .int (nI (V.ss)), .ref B.su, .ref B.wi, .ref B.tu]))) (hp_ne f_sl f_md (by simp)) f_sl
      have f_sb := hp_k (e := (.inr (6, [.ref B.ro, .int (nI 0), .ref B.te, .int (nI (V.ty)), .int (nI (V.ac)), .int (nI (V.al)), .int (nI (V.sd)), .ref B.he, .ref B.cn, .ref B.kd, .ref B.sz, .ref B.ky, .ref B.le, .ref B.dg, .ref B.nm, .ref B.ns, .ref B.sl, .ref B.sb, .int (nI (V.ss)), .ref B.su, .ref B.wi, .ref B.tu]))) (hp_ne f_sb f_md (by simp)) f_sb
      have f_su := hp_k (e := (.inr (6, [.ref B.ro, .int (nI 0), .ref B.te, .int (nI (V.ty)), .int (nI (V.ac)), .int (nI (V.al)), .int (nI (V.sd)), .ref B.he, .ref B.cn, .ref B.kd, .ref B.sz, .ref B.ky, .ref B.le, .ref B.dg, .ref B.nm, .ref B.ns, .ref B.sl, .ref B.sb, .int (nI (V.ss)), .ref B.su, .ref B.wi, .ref B.tu]))) (hp_ne f_su f_md (by simp)) f_su
      have f_wi := hp_k (e := (.inr (6, [.ref B.ro, .int (nI 0), .ref B.te, .int (nI (V.ty)), .int (nI (V.ac)), .int (nI (V.al)), .int (nI (V.sd)), .ref B.he, .ref B.cn, .ref B.kd, .ref B.sz, .ref B.ky, .ref B.le, .ref B.dg, .ref B.nm, .ref B.ns, .ref B.sl, .ref B.sb, .int (nI (V.ss)), .ref B.su, .ref B.wi, .ref B.tu]))) (hp_ne f_wi f_md (by simp)) f_wi
      have f_tu := hp_k (e := (.inr (6, [.ref B.ro, .int (nI 0), .ref B.te, .int (nI (V.ty)), .int (nI (V.ac)), .int (nI (V.al)), .int (nI (V.sd)), .ref B.he, .ref B.cn, .ref B.kd, .ref B.sz, .ref B.ky, .ref B.le, .ref B.dg, .ref B.nm, .ref B.ns, .ref B.sl, .ref B.sb, .int (nI (V.ss)), .ref B.su, .ref B.wi, .ref B.tu]))) (hp_ne f_tu f_md (by simp)) f_tu
      have f_md : hp_up M md (.inr (6, [.ref B.ro, .int (nI 0), .ref B.te, .int (nI (V.ty)), .int (nI (V.ac)), .int (nI (V.al)), .int (nI (V.sd)), .ref B.he, .ref B.cn, .ref B.kd, .ref B.sz, .ref B.ky, .ref B.le, .ref B.dg, .ref B.nm, .ref B.ns, .ref B.sl, .ref B.sb, .int (nI (V.ss)), .ref B.su, .ref B.wi, .ref B.tu])) md = some (.inr (6, [.ref B.ro, .int (nI 0), .ref B.te, .int (nI (V.ty)), .int (nI (V.ac)), .int (nI (V.al)), .int (nI (V.sd)), .ref B.he, .ref B.cn, .ref B.kd, .ref B.sz, .ref B.ky, .ref B.le, .ref B.dg, .ref B.nm, .ref B.ns, .ref B.sl, .ref B.sb, .int (nI (V.ss)), .ref B.su, .ref B.wi, .ref B.tu])) := hp_us
      obtain ⟨M1, eM1⟩ : ∃ z, z = hp_up M md (.inr (6, [.ref B.ro, .int (nI 0), .ref B.te, .int (nI (V.ty)), .int (nI (V.ac)), .int (nI (V.al)), .int (nI (V.sd)), .ref B.he, .ref B.cn, .ref B.kd, .ref B.sz, .ref B.ky, .ref B.le, .ref B.dg, .ref B.nm, .ref B.ns, .ref B.sl, .ref B.sb, .int (nI (V.ss)), .ref B.su, .ref B.wi, .ref B.tu])) := ⟨_, rfl⟩
      rw [← eM1] at hM f_md f_ro f_te f_he f_cn f_kd f_sz f_ky f_le f_dg f_nm f_ns f_sl f_sb f_su f_wi f_tu
      refine lv_aload_n hx hb d_MD_refuses_21 rfl (lv_at hl 0 rfl) ?_
      refine hp_get S hK hM i_MD f_md rfl 1 (by decide) mf_MD_137 (fun _ h9 => h9) rfl d_MD_refuses_22 ?_
      refine nz_le (tgt := 32) hx hb d_MD_refuses_25 (by decide) (by omega) (fun h2 => ?_) (fun h2 => ?_)
      · refine lv_iconst (v := nI 0) hx hb d_MD_refuses_32 rfl ?_
        exact hp_iret S hret hlk (rfl) hM hS (Or.inr (Or.inr ⟨ha, hc, rfl, ⟨f_md, f_ro, f_te, f_he, f_cn, f_kd, f_sz, f_ky, f_le, f_dg, f_nm, f_ns, f_sl, f_sb, f_su, f_wi, f_tu, hB, b_te, b_cn, b_kd, b_sz, b_ky, b_le, b_nm, b_ns, b_sl, b_sb, by show 0 ≤ 2; decide, b_ty, b_ac, b_al, b_sd, b_ss⟩⟩)) d_MD_refuses_33
      · exact absurd h2 (by decide)
    · refine lv_iconst (v := nI 2) hx hb d_MD_refuses_13 rfl ?_
      refine lv_goto (tgt := 18) hx hb d_MD_refuses_14 (by decide) ?_
      refine hp_put (ty := .int) (fs' := [.ref B.ro, .int (nI 2), .ref B.te, .int (nI (V.ty)), .int (nI (V.ac)), .int (nI (V.al)), .int (nI (V.sd)), .ref B.he, .ref B.cn, .ref B.kd, .ref B.sz, .ref B.ky, .ref B.le, .ref B.dg, .ref B.nm, .ref B.ns, .ref B.sl, .ref B.sb, .int (nI (V.ss)), .ref B.su, .ref B.wi, .ref B.tu]) S hK hM hS i_MD t_MD to_MD n_MD f_md rfl 1 (by decide) mf_MD_137 (fun _ h9 => h9) rfl (by decide +kernel) rfl rfl (by simp) rfl d_MD_refuses_18 (fun H locs hM hS => ?_)
      have f_ro := hp_k (e := (.inr (6, [.ref B.ro, .int (nI 2), .ref B.te, .int (nI (V.ty)), .int (nI (V.ac)), .int (nI (V.al)), .int (nI (V.sd)), .ref B.he, .ref B.cn, .ref B.kd, .ref B.sz, .ref B.ky, .ref B.le, .ref B.dg, .ref B.nm, .ref B.ns, .ref B.sl, .ref B.sb, .int (nI (V.ss)), .ref B.su, .ref B.wi, .ref B.tu]))) (hp_ne f_ro f_md (by simp)) f_ro
      have f_te := hp_k (e := (.inr (6, [.ref B.ro, .int (nI 2), .ref B.te, .int (nI (V.ty)), .int (nI (V.ac)), .int (nI (V.al)), .int (nI (V.sd)), .ref B.he, .ref B.cn, .ref B.kd, .ref B.sz, .ref B.ky, .ref B.le, .ref B.dg, .ref B.nm, .ref B.ns, .ref B.sl, .ref B.sb, .int (nI (V.ss)), .ref B.su, .ref B.wi, .ref B.tu]))) (hp_ne f_te f_md (by simp)) f_te
      have f_he := hp_k (e := (.inr (6, [.ref B.ro, .int (nI 2), .ref B.te, .int (nI (V.ty)), .int (nI (V.ac)), .int (nI (V.al)), .int (nI (V.sd)), .ref B.he, .ref B.cn, .ref B.kd, .ref B.sz, .ref B.ky, .ref B.le, .ref B.dg, .ref B.nm, .ref B.ns, .ref B.sl, .ref B.sb, .int (nI (V.ss)), .ref B.su, .ref B.wi, .ref B.tu]))) (hp_ne f_he f_md (by simp)) f_he
      have f_cn := hp_k (e := (.inr (6, [.ref B.ro, .int (nI 2), .ref B.te, .int (nI (V.ty)), .int (nI (V.ac)), .int (nI (V.al)), .int (nI (V.sd)), .ref B.he, .ref B.cn, .ref B.kd, .ref B.sz, .ref B.ky, .ref B.le, .ref B.dg, .ref B.nm, .ref B.ns, .ref B.sl, .ref B.sb, .int (nI (V.ss)), .ref B.su, .ref B.wi, .ref B.tu]))) (hp_ne f_cn f_md (by simp)) f_cn
      have f_kd := hp_k (e := (.inr (6, [.ref B.ro, .int (nI 2), .ref B.te, .int (nI (V.ty)), .int (nI (V.ac)), .int (nI (V.al)), .int (nI (V.sd)), .ref B.he, .ref B.cn, .ref B.kd, .ref B.sz, .ref B.ky, .ref B.le, .ref B.dg, .ref B.nm, .ref B.ns, .ref B.sl, .ref B.sb, .int (nI (V.ss)), .ref B.su, .ref B.wi, .ref B.tu]))) (hp_ne f_kd f_md (by simp)) f_kd
      have f_sz := hp_k (e := (.inr (6, [.ref B.ro, .int (nI 2), .ref B.te, .int (nI (V.ty)), .int (nI (V.ac)), .int (nI (V.al)), .int (nI (V.sd)), .ref B.he, .ref B.cn, .ref B.kd, .ref B.sz, .ref B.ky, .ref B.le, .ref B.dg, .ref B.nm, .ref B.ns, .ref B.sl, .ref B.sb, .int (nI (V.ss)), .ref B.su, .ref B.wi, .ref B.tu]))) (hp_ne f_sz f_md (by simp)) f_sz
      have f_ky := hp_k (e := (.inr (6, [.ref B.ro, .int (nI 2), .ref B.te, .int (nI (V.ty)), .int (nI (V.ac)), .int (nI (V.al)), .int (nI (V.sd)), .ref B.he, .ref B.cn, .ref B.kd, .ref B.sz, .ref B.ky, .ref B.le, .ref B.dg, .ref B.nm, .ref B.ns, .ref B.sl, .ref B.sb, .int (nI (V.ss)), .ref B.su, .ref B.wi, .ref B.tu]))) (hp_ne f_ky f_md (by simp)) f_ky
      have f_le := hp_k (e := (.inr (6, [.ref B.ro, .int (nI 2), .ref B.te, .int (nI (V.ty)), .int (nI (V.ac)), .int (nI (V.al)), .int (nI (V.sd)), .ref B.he, .ref B.cn, .ref B.kd, .ref B.sz, .ref B.ky, .ref B.le, .ref B.dg, .ref B.nm, .ref B.ns, .ref B.sl, .ref B.sb, .int (nI (V.ss)), .ref B.su, .ref B.wi, .ref B.tu]))) (hp_ne f_le f_md (by simp)) f_le
      have f_dg := hp_k (e := (.inr (6, [.ref B.ro, .int (nI 2), .ref B.te, .int (nI (V.ty)), .int (nI (V.ac)), .int (nI (V.al)), .int (nI (V.sd)), .ref B.he, .ref B.cn, .ref B.kd, .ref B.sz, .ref B.ky, .ref B.le, .ref B.dg, .ref B.nm, .ref B.ns, .ref B.sl, .ref B.sb, .int (nI (V.ss)), .ref B.su, .ref B.wi, .ref B.tu]))) (hp_ne f_dg f_md (by simp)) f_dg
      have f_nm := hp_k (e := (.inr (6, [.ref B.ro, .int (nI 2), .ref B.te, .int (nI (V.ty)), .int (nI (V.ac)), .int (nI (V.al)), .int (nI (V.sd)), .ref B.he, .ref B.cn, .ref B.kd, .ref B.sz, .ref B.ky, .ref B.le, .ref B.dg, .ref B.nm, .ref B.ns, .ref B.sl, .ref B.sb, .int (nI (V.ss)), .ref B.su, .ref B.wi, .ref B.tu]))) (hp_ne f_nm f_md (by simp)) f_nm
      have f_ns := hp_k (e := (.inr (6, [.ref B.ro, .int (nI 2), .ref B.te, .int (nI (V.ty)), .int (nI (V.ac)), .int (nI (V.al)), .int (nI (V.sd)), .ref B.he, .ref B.cn, .ref B.kd, .ref B.sz, .ref B.ky, .ref B.le, .ref B.dg, .ref B.nm, .ref B.ns, .ref B.sl, .ref B.sb, .int (nI (V.ss)), .ref B.su, .ref B.wi, .ref B.tu]))) (hp_ne f_ns f_md (by simp)) f_ns
      have f_sl := hp_k (e := (.inr (6, [.ref B.ro, .int (nI 2), .ref B.te, .int (nI (V.ty)), .int (nI (V.ac)), .int (nI (V.al)), .int (nI (V.sd)), .ref B.he, .ref B.cn, .ref B.kd, .ref B.sz, .ref B.ky, .ref B.le, .ref B.dg, .ref B.nm, .ref B.ns, .ref B.sl, .ref B.sb, .int (nI (V.ss)), .ref B.su, .ref B.wi, .ref B.tu]))) (hp_ne f_sl f_md (by simp)) f_sl
      have f_sb := hp_k (e := (.inr (6, [.ref B.ro, .int (nI 2), .ref B.te, .int (nI (V.ty)), .int (nI (V.ac)), .int (nI (V.al)), .int (nI (V.sd)), .ref B.he, .ref B.cn, .ref B.kd, .ref B.sz, .ref B.ky, .ref B.le, .ref B.dg, .ref B.nm, .ref B.ns, .ref B.sl, .ref B.sb, .int (nI (V.ss)), .ref B.su, .ref B.wi, .ref B.tu]))) (hp_ne f_sb f_md (by simp)) f_sb
      have f_su := hp_k (e := (.inr (6, [.ref B.ro, .int (nI 2), .ref B.te, .int (nI (V.ty)), .int (nI (V.ac)), .int (nI (V.al)), .int (nI (V.sd)), .ref B.he, .ref B.cn, .ref B.kd, .ref B.sz, .ref B.ky, .ref B.le, .ref B.dg, .ref B.nm, .ref B.ns, .ref B.sl, .ref B.sb, .int (nI (V.ss)), .ref B.su, .ref B.wi, .ref B.tu]))) (hp_ne f_su f_md (by simp)) f_su
      have f_wi := hp_k (e := (.inr (6, [.ref B.ro, .int (nI 2), .ref B.te, .int (nI (V.ty)), .int (nI (V.ac)), .int (nI (V.al)), .int (nI (V.sd)), .ref B.he, .ref B.cn, .ref B.kd, .ref B.sz, .ref B.ky, .ref B.le, .ref B.dg, .ref B.nm, .ref B.ns, .ref B.sl, .ref B.sb, .int (nI (V.ss)), .ref B.su, .ref B.wi, .ref B.tu]))) (hp_ne f_wi f_md (by simp)) f_wi
      have f_tu := hp_k (e := (.inr (6, [.ref B.ro, .int (nI 2), .ref B.te, .int (nI (V.ty)), .int (nI (V.ac)), .int (nI (V.al)), .int (nI (V.sd)), .ref B.he, .ref B.cn, .ref B.kd, .ref B.sz, .ref B.ky, .ref B.le, .ref B.dg, .ref B.nm, .ref B.ns, .ref B.sl, .ref B.sb, .int (nI (V.ss)), .ref B.su, .ref B.wi, .ref B.tu]))) (hp_ne f_tu f_md (by simp)) f_tu
      have f_md : hp_up M md (.inr (6, [.ref B.ro, .int (nI 2), .ref B.te, .int (nI (V.ty)), .int (nI (V.ac)), .int (nI (V.al)), .int (nI (V.sd)), .ref B.he, .ref B.cn, .ref B.kd, .ref B.sz, .ref B.ky, .ref B.le, .ref B.dg, .ref B.nm, .ref B.ns, .ref B.sl, .ref B.sb, .int (nI (V.ss)), .ref B.su, .ref B.wi, .ref B.tu])) md = some (.inr (6, [.ref B.ro, .int (nI 2), .ref B.te, .int (nI (V.ty)), .int (nI (V.ac)), .int (nI (V.al)), .int (nI (V.sd)), .ref B.he, .ref B.cn, .ref B.kd, .ref B.sz, .ref B.ky, .ref B.le, .ref B.dg, .ref B.nm, .ref B.ns, .ref B.sl, .ref B.sb, .int (nI (V.ss)), .ref B.su, .ref B.wi, .ref B.tu])) := hp_us
      obtain ⟨M3, eM3⟩ : ∃ z, z = hp_up M md (.inr (6, [.ref B.ro, .int (nI 2), .ref B.te, .int (nI (V.ty)), .int (nI (V.ac)), .int (nI (V.al)), .int (nI (V.sd)), .ref B.he, .ref B.cn, .ref B.kd, .ref B.sz, .ref B.ky, .ref B.le, .ref B.dg, .ref B.nm, .ref B.ns, .ref B.sl, .ref B.sb, .int (nI (V.ss)), .ref B.su, .ref B.wi, .ref B.tu])) := ⟨_, rfl⟩
      rw [← eM3] at hM f_md f_ro f_te f_he f_cn f_kd f_sz f_ky f_le f_dg f_nm f_ns f_sl f_sb f_su f_wi f_tu
      refine lv_aload_n hx hb d_MD_refuses_21 rfl (lv_at hl 0 rfl) ?_
      refine hp_get S hK hM i_MD f_md rfl 1 (by decide) mf_MD_137 (fun _ h9 => h9) rfl d_MD_refuses_22 ?_
      refine nz_le (tgt := 32) hx hb d_MD_refuses_25 (by decide) (by omega) (fun h4 => ?_) (fun h4 => ?_)
      · exact absurd h4 (by decide)
      · refine lv_iconst (v := nI 1) hx hb d_MD_refuses_28 rfl ?_
        refine lv_goto (tgt := 33) hx hb d_MD_refuses_29 (by decide) ?_
        exact hp_iret S hret hlk (rfl) hM hS (Or.inr (Or.inl ⟨ha, hc, rfl, ⟨f_md, f_ro, f_te, f_he, f_cn, f_kd, f_sz, f_ky, f_le, f_dg, f_nm, f_ns, f_sl, f_sb, f_su, f_wi, f_tu, hB, b_te, b_cn, b_kd, b_sz, b_ky, b_le, b_nm, b_ns, b_sl, b_sb, by show 2 ≤ 2; decide, b_ty, b_ac, b_al, b_sd, b_ss⟩⟩)) d_MD_refuses_33
  · refine lv_iconst (v := nI 1) hx hb d_MD_refuses_5 rfl ?_
    refine lv_goto (tgt := 18) hx hb d_MD_refuses_6 (by decide) ?_
    refine hp_put (ty := .int) (fs' := [.ref B.ro, .int (nI 1), .ref B.te, .int (nI (V.ty)), .int (nI (V.ac)), .int (nI (V.al)), .int (nI (V.sd)), .ref B.he, .ref B.cn, .ref B.kd, .ref B.sz, .ref B.ky, .ref B.le, .ref B.dg, .ref B.nm, .ref B.ns, .ref B.sl, .ref B.sb, .int (nI (V.ss)), .ref B.su, .ref B.wi, .ref B.tu]) S hK hM hS i_MD t_MD to_MD n_MD f_md rfl 1 (by decide) mf_MD_137 (fun _ h9 => h9) rfl (by decide +kernel) rfl rfl (by simp) rfl d_MD_refuses_18 (fun H locs hM hS => ?_)
    have f_ro := hp_k (e := (.inr (6, [.ref B.ro, .int (nI 1), .ref B.te, .int (nI (V.ty)), .int (nI (V.ac)), .int (nI (V.al)), .int (nI (V.sd)), .ref B.he, .ref B.cn, .ref B.kd, .ref B.sz, .ref B.ky, .ref B.le, .ref B.dg, .ref B.nm, .ref B.ns, .ref B.sl, .ref B.sb, .int (nI (V.ss)), .ref B.su, .ref B.wi, .ref B.tu]))) (hp_ne f_ro f_md (by simp)) f_ro
    have f_te := hp_k (e := (.inr (6, [.ref B.ro, .int (nI 1), .ref B.te, .int (nI (V.ty)), .int (nI (V.ac)), .int (nI (V.al)), .int (nI (V.sd)), .ref B.he, .ref B.cn, .ref B.kd, .ref B.sz, .ref B.ky, .ref B.le, .ref B.dg, .ref B.nm, .ref B.ns, .ref B.sl, .ref B.sb, .int (nI (V.ss)), .ref B.su, .ref B.wi, .ref B.tu]))) (hp_ne f_te f_md (by simp)) f_te
    have f_he := hp_k (e := (.inr (6, [.ref B.ro, .int (nI 1), .ref B.te, .int (nI (V.ty)), .int (nI (V.ac)), .int (nI (V.al)), .int (nI (V.sd)), .ref B.he, .ref B.cn, .ref B.kd, .ref B.sz, .ref B.ky, .ref B.le, .ref B.dg, .ref B.nm, .ref B.ns, .ref B.sl, .ref B.sb, .int (nI (V.ss)), .ref B.su, .ref B.wi, .ref B.tu]))) (hp_ne f_he f_md (by simp)) f_he
    have f_cn := hp_k (e := (.inr (6, [.ref B.ro, .int (nI 1), .ref B.te, .int (nI (V.ty)), .int (nI (V.ac)), .int (nI (V.al)), .int (nI (V.sd)), .ref B.he, .ref B.cn, .ref B.kd, .ref B.sz, .ref B.ky, .ref B.le, .ref B.dg, .ref B.nm, .ref B.ns, .ref B.sl, .ref B.sb, .int (nI (V.ss)), .ref B.su, .ref B.wi, .ref B.tu]))) (hp_ne f_cn f_md (by simp)) f_cn
    have f_kd := hp_k (e := (.inr (6, [.ref B.ro, .int (nI 1), .ref B.te, .int (nI (V.ty)), .int (nI (V.ac)), .int (nI (V.al)), .int (nI (V.sd)), .ref B.he, .ref B.cn, .ref B.kd, .ref B.sz, .ref B.ky, .ref B.le, .ref B.dg, .ref B.nm, .ref B.ns, .ref B.sl, .ref B.sb, .int (nI (V.ss)), .ref B.su, .ref B.wi, .ref B.tu]))) (hp_ne f_kd f_md (by simp)) f_kd
    have f_sz := hp_k (e := (.inr (6, [.ref B.ro, .int (nI 1), .ref B.te, .int (nI (V.ty)), .int (nI (V.ac)), .int (nI (V.al)), .int (nI (V.sd)), .ref B.he, .ref B.cn, .ref B.kd, .ref B.sz, .ref B.ky, .ref B.le, .ref B.dg, .ref B.nm, .ref B.ns, .ref B.sl, .ref B.sb, .int (nI (V.ss)), .ref B.su, .ref B.wi, .ref B.tu]))) (hp_ne f_sz f_md (by simp)) f_sz
    have f_ky := hp_k (e := (.inr (6, [.ref B.ro, .int (nI 1), .ref B.te, .int (nI (V.ty)), .int (nI (V.ac)), .int (nI (V.al)), .int (nI (V.sd)), .ref B.he, .ref B.cn, .ref B.kd, .ref B.sz, .ref B.ky, .ref B.le, .ref B.dg, .ref B.nm, .ref B.ns, .ref B.sl, .ref B.sb, .int (nI (V.ss)), .ref B.su, .ref B.wi, .ref B.tu]))) (hp_ne f_ky f_md (by simp)) f_ky
    have f_le := hp_k (e := (.inr (6, [.ref B.ro, .int (nI 1), .ref B.te, .int (nI (V.ty)), .int (nI (V.ac)), .int (nI (V.al)), .int (nI (V.sd)), .ref B.he, .ref B.cn, .ref B.kd, .ref B.sz, .ref B.ky, .ref B.le, .ref B.dg, .ref B.nm, .ref B.ns, .ref B.sl, .ref B.sb, .int (nI (V.ss)), .ref B.su, .ref B.wi, .ref B.tu]))) (hp_ne f_le f_md (by simp)) f_le
    have f_dg := hp_k (e := (.inr (6, [.ref B.ro, .int (nI 1), .ref B.te, .int (nI (V.ty)), .int (nI (V.ac)), .int (nI (V.al)), .int (nI (V.sd)), .ref B.he, .ref B.cn, .ref B.kd, .ref B.sz, .ref B.ky, .ref B.le, .ref B.dg, .ref B.nm, .ref B.ns, .ref B.sl, .ref B.sb, .int (nI (V.ss)), .ref B.su, .ref B.wi, .ref B.tu]))) (hp_ne f_dg f_md (by simp)) f_dg
    have f_nm := hp_k (e := (.inr (6, [.ref B.ro, .int (nI 1), .ref B.te, .int (nI (V.ty)), .int (nI (V.ac)), .int (nI (V.al)), .int (nI (V.sd)), .ref B.he, .ref B.cn, .ref B.kd, .ref B.sz, .ref B.ky, .ref B.le, .ref B.dg, .ref B.nm, .ref B.ns, .ref B.sl, .ref B.sb, .int (nI (V.ss)), .ref B.su, .ref B.wi, .ref B.tu]))) (hp_ne f_nm f_md (by simp)) f_nm
    have f_ns := hp_k (e := (.inr (6, [.ref B.ro, .int (nI 1), .ref B.te, .int (nI (V.ty)), .int (nI (V.ac)), .int (nI (V.al)), .int (nI (V.sd)), .ref B.he, .ref B.cn, .ref B.kd, .ref B.sz, .ref B.ky, .ref B.le, .ref B.dg, .ref B.nm, .ref B.ns, .ref B.sl, .ref B.sb, .int (nI (V.ss)), .ref B.su, .ref B.wi, .ref B.tu]))) (hp_ne f_ns f_md (by simp)) f_ns
    have f_sl := hp_k (e := (.inr (6, [.ref B.ro, .int (nI 1), .ref B.te, .int (nI (V.ty)), .int (nI (V.ac)), .int (nI (V.al)), .int (nI (V.sd)), .ref B.he, .ref B.cn, .ref B.kd, .ref B.sz, .ref B.ky, .ref B.le, .ref B.dg, .ref B.nm, .ref B.ns, .ref B.sl, .ref B.sb, .int (nI (V.ss)), .ref B.su, .ref B.wi, .ref B.tu]))) (hp_ne f_sl f_md (by simp)) f_sl
    have f_sb := hp_k (e := (.inr (6, [.ref B.ro, .int (nI 1), .ref B.te, .int (nI (V.ty)), .int (nI (V.ac)), .int (nI (V.al)), .int (nI (V.sd)), .ref B.he, .ref B.cn, .ref B.kd, .ref B.sz, .ref B.ky, .ref B.le, .ref B.dg, .ref B.nm, .ref B.ns, .ref B.sl, .ref B.sb, .int (nI (V.ss)), .ref B.su, .ref B.wi, .ref B.tu]))) (hp_ne f_sb f_md (by simp)) f_sb
    have f_su := hp_k (e := (.inr (6, [.ref B.ro, .int (nI 1), .ref B.te, .int (nI (V.ty)), .int (nI (V.ac)), .int (nI (V.al)), .int (nI (V.sd)), .ref B.he, .ref B.cn, .ref B.kd, .ref B.sz, .ref B.ky, .ref B.le, .ref B.dg, .ref B.nm, .ref B.ns, .ref B.sl, .ref B.sb, .int (nI (V.ss)), .ref B.su, .ref B.wi, .ref B.tu]))) (hp_ne f_su f_md (by simp)) f_su
    have f_wi := hp_k (e := (.inr (6, [.ref B.ro, .int (nI 1), .ref B.te, .int (nI (V.ty)), .int (nI (V.ac)), .int (nI (V.al)), .int (nI (V.sd)), .ref B.he, .ref B.cn, .ref B.kd, .ref B.sz, .ref B.ky, .ref B.le, .ref B.dg, .ref B.nm, .ref B.ns, .ref B.sl, .ref B.sb, .int (nI (V.ss)), .ref B.su, .ref B.wi, .ref B.tu]))) (hp_ne f_wi f_md (by simp)) f_wi
    have f_tu := hp_k (e := (.inr (6, [.ref B.ro, .int (nI 1), .ref B.te, .int (nI (V.ty)), .int (nI (V.ac)), .int (nI (V.al)), .int (nI (V.sd)), .ref B.he, .ref B.cn, .ref B.kd, .ref B.sz, .ref B.ky, .ref B.le, .ref B.dg, .ref B.nm, .ref B.ns, .ref B.sl, .ref B.sb, .int (nI (V.ss)), .ref B.su, .ref B.wi, .ref B.tu]))) (hp_ne f_tu f_md (by simp)) f_tu
    have f_md : hp_up M md (.inr (6, [.ref B.ro, .int (nI 1), .ref B.te, .int (nI (V.ty)), .int (nI (V.ac)), .int (nI (V.al)), .int (nI (V.sd)), .ref B.he, .ref B.cn, .ref B.kd, .ref B.sz, .ref B.ky, .ref B.le, .ref B.dg, .ref B.nm, .ref B.ns, .ref B.sl, .ref B.sb, .int (nI (V.ss)), .ref B.su, .ref B.wi, .ref B.tu])) md = some (.inr (6, [.ref B.ro, .int (nI 1), .ref B.te, .int (nI (V.ty)), .int (nI (V.ac)), .int (nI (V.al)), .int (nI (V.sd)), .ref B.he, .ref B.cn, .ref B.kd, .ref B.sz, .ref B.ky, .ref B.le, .ref B.dg, .ref B.nm, .ref B.ns, .ref B.sl, .ref B.sb, .int (nI (V.ss)), .ref B.su, .ref B.wi, .ref B.tu])) := hp_us
    obtain ⟨M5, eM5⟩ : ∃ z, z = hp_up M md (.inr (6, [.ref B.ro, .int (nI 1), .ref B.te, .int (nI (V.ty)), .int (nI (V.ac)), .int (nI (V.al)), .int (nI (V.sd)), .ref B.he, .ref B.cn, .ref B.kd, .ref B.sz, .ref B.ky, .ref B.le, .ref B.dg, .ref B.nm, .ref B.ns, .ref B.sl, .ref B.sb, .int (nI (V.ss)), .ref B.su, .ref B.wi, .ref B.tu])) := ⟨_, rfl⟩
    rw [← eM5] at hM f_md f_ro f_te f_he f_cn f_kd f_sz f_ky f_le f_dg f_nm f_ns f_sl f_sb f_su f_wi f_tu
    refine lv_aload_n hx hb d_MD_refuses_21 rfl (lv_at hl 0 rfl) ?_
    refine hp_get S hK hM i_MD f_md rfl 1 (by decide) mf_MD_137 (fun _ h9 => h9) rfl d_MD_refuses_22 ?_
    refine nz_le (tgt := 32) hx hb d_MD_refuses_25 (by decide) (by omega) (fun h6 => ?_) (fun h6 => ?_)
    · exact absurd h6 (by decide)
    · refine lv_iconst (v := nI 1) hx hb d_MD_refuses_28 rfl ?_
      refine lv_goto (tgt := 33) hx hb d_MD_refuses_29 (by decide) ?_
      exact hp_iret S hret hlk (rfl) hM hS (Or.inl ⟨ha, rfl, ⟨f_md, f_ro, f_te, f_he, f_cn, f_kd, f_sz, f_ky, f_le, f_dg, f_nm, f_ns, f_sl, f_sb, f_su, f_wi, f_tu, hB, b_te, b_cn, b_kd, b_sz, b_ky, b_le, b_nm, b_ns, b_sl, b_sb, by show 1 ≤ 2; decide, b_ty, b_ac, b_al, b_sd, b_ss⟩⟩) d_MD_refuses_33
set_option maxHeartbeats 4000000 in
set_option maxRecDepth 100000 in
theorem c_MD_takes (l : Launch) (D : va_G) (ct : Nat → ClassId) (Z : hp_Z) (hZ : hp_Zok Z) (M : hp_M) (sz : Nat) (md : Nat) (B : MA) (V : MS) (hw : mdS ct M md B V) : Mi l y_MD_takes b_MD_takes 2 (some .int) 0 0 0 0 [.ref md] D ct Z M sz (fun r M1 => r = nI V.ty ∧ mdS ct M1 md B (mkS (V.te) (V.cn) (V.kd) (V.sz) (V.ky) (V.le) (V.nm) (V.ns) (V.sl) (V.sb) (V.he) (V.dg) (V.su) (V.wi) (V.tu) (V.co) 0 (V.ac) (V.al) (V.sd) (V.ss))) := by
  refine hp_start (by decide) (Nat.le_of_ble_eq_true rfl) (fun p e s m below meth c ls S hret hlk hnm hsz hK hM hS hA hz hl => ?_)
  have hx := S.1
  have hb := S.2.1
  have hl : lv_has ls 2 [(0, .ref md)] := hl
  obtain ⟨f_md, f_ro, f_te, f_he, f_cn, f_kd, f_sz, f_ky, f_le, f_dg, f_nm, f_ns, f_sl, f_sb, f_su, f_wi, f_tu, hB, hV⟩ := id hw
  obtain ⟨n_kdsz, n_kdky, n_szky, n_hens, n_hesu, n_hetu, n_nssu, n_nstu, n_sutu, n_tewi⟩ := id hB
  obtain ⟨b_te, b_cn, b_kd, b_sz, b_ky, b_le, b_nm, b_ns, b_sl, b_sb, b_co, b_ty, b_ac, b_al, b_sd, b_ss⟩ := id hV
  refine lv_aload_n hx hb d_MD_takes_0 rfl (lv_at hl 0 rfl) ?_
  refine hp_get S hK hM i_MD f_md rfl 3 (by decide) mf_MD_141 (fun _ h9 => h9) rfl d_MD_takes_1 ?_
  refine lv_istore_n (lv' := [(1, .int (nI (V.ty))), (0, .ref md)]) hx hb d_MD_takes_4 rfl hl (by decide) rfl (fun ls hl => ?_)
  refine lv_aload_n hx hb d_MD_takes_5 rfl (lv_at hl 1 rfl) ?_
  refine lv_iconst (v := nI 0) hx hb d_MD_takes_6 rfl ?_
  refine hp_put (ty := .int) (fs' := [.ref B.ro, .int (nI (V.co)), .ref B.te, .int (nI 0), .int (nI (V.ac)), .int (nI (V.al)), .int (nI (V.sd)), .ref B.he, .ref B.cn, .ref B.kd, .ref B.sz, .ref B.ky, .ref B.le, .ref B.dg, .ref B.nm, .ref B.ns, .ref B.sl, .ref B.sb, .int (nI (V.ss)), .ref B.su, .ref B.wi, .ref B.tu]) S hK hM hS i_MD t_MD to_MD n_MD f_md rfl 3 (by decide) mf_MD_141 (fun _ h9 => h9) rfl (by decide +kernel) rfl rfl (by simp) rfl d_MD_takes_7 (fun H locs hM hS => ?_)
  have f_ro := hp_k (e := (.inr (6, [.ref B.ro, .int (nI (V.co)), .ref B.te, .int (nI 0), .int (nI (V.ac)), .int (nI (V.al)), .int (nI (V.sd)), .ref B.he, .ref B.cn, .ref B.kd, .ref B.sz, .ref B.ky, .ref B.le, .ref B.dg, .ref B.nm, .ref B.ns, .ref B.sl, .ref B.sb, .int (nI (V.ss)), .ref B.su, .ref B.wi, .ref B.tu]))) (hp_ne f_ro f_md (by simp)) f_ro
  have f_te := hp_k (e := (.inr (6, [.ref B.ro, .int (nI (V.co)), .ref B.te, .int (nI 0), .int (nI (V.ac)), .int (nI (V.al)), .int (nI (V.sd)), .ref B.he, .ref B.cn, .ref B.kd, .ref B.sz, .ref B.ky, .ref B.le, .ref B.dg, .ref B.nm, .ref B.ns, .ref B.sl, .ref B.sb, .int (nI (V.ss)), .ref B.su, .ref B.wi, .ref B.tu]))) (hp_ne f_te f_md (by simp)) f_te
  have f_he := hp_k (e := (.inr (6, [.ref B.ro, .int (nI (V.co)), .ref B.te, .int (nI 0), .int (nI (V.ac)), .int (nI (V.al)), .int (nI (V.sd)), .ref B.he, .ref B.cn, .ref B.kd, .ref B.sz, .ref B.ky, .ref B.le, .ref B.dg, .ref B.nm, .ref B.ns, .ref B.sl, .ref B.sb, .int (nI (V.ss)), .ref B.su, .ref B.wi, .ref B.tu]))) (hp_ne f_he f_md (by simp)) f_he
  have f_cn := hp_k (e := (.inr (6, [.ref B.ro, .int (nI (V.co)), .ref B.te, .int (nI 0), .int (nI (V.ac)), .int (nI (V.al)), .int (nI (V.sd)), .ref B.he, .ref B.cn, .ref B.kd, .ref B.sz, .ref B.ky, .ref B.le, .ref B.dg, .ref B.nm, .ref B.ns, .ref B.sl, .ref B.sb, .int (nI (V.ss)), .ref B.su, .ref B.wi, .ref B.tu]))) (hp_ne f_cn f_md (by simp)) f_cn
  have f_kd := hp_k (e := (.inr (6, [.ref B.ro, .int (nI (V.co)), .ref B.te, .int (nI 0), .int (nI (V.ac)), .int (nI (V.al)), .int (nI (V.sd)), .ref B.he, .ref B.cn, .ref B.kd, .ref B.sz, .ref B.ky, .ref B.le, .ref B.dg, .ref B.nm, .ref B.ns, .ref B.sl, .ref B.sb, .int (nI (V.ss)), .ref B.su, .ref B.wi, .ref B.tu]))) (hp_ne f_kd f_md (by simp)) f_kd
  have f_sz := hp_k (e := (.inr (6, [.ref B.ro, .int (nI (V.co)), .ref B.te, .int (nI 0), .int (nI (V.ac)), .int (nI (V.al)), .int (nI (V.sd)), .ref B.he, .ref B.cn, .ref B.kd, .ref B.sz, .ref B.ky, .ref B.le, .ref B.dg, .ref B.nm, .ref B.ns, .ref B.sl, .ref B.sb, .int (nI (V.ss)), .ref B.su, .ref B.wi, .ref B.tu]))) (hp_ne f_sz f_md (by simp)) f_sz
  have f_ky := hp_k (e := (.inr (6, [.ref B.ro, .int (nI (V.co)), .ref B.te, .int (nI 0), .int (nI (V.ac)), .int (nI (V.al)), .int (nI (V.sd)), .ref B.he, .ref B.cn, .ref B.kd, .ref B.sz, .ref B.ky, .ref B.le, .ref B.dg, .ref B.nm, .ref B.ns, .ref B.sl, .ref B.sb, .int (nI (V.ss)), .ref B.su, .ref B.wi, .ref B.tu]))) (hp_ne f_ky f_md (by simp)) f_ky
  have f_le := hp_k (e := (.inr (6, [.ref B.ro, .int (nI (V.co)), .ref B.te, .int (nI 0), .int (nI (V.ac)), .int (nI (V.al)), .int (nI (V.sd)), .ref B.he, .ref B.cn, .ref B.kd, .ref B.sz, .ref B.ky, .ref B.le, .ref B.dg, .ref B.nm, .ref B.ns, .ref B.sl, .ref B.sb, .int (nI (V.ss)), .ref B.su, .ref B.wi, .ref B.tu]))) (hp_ne f_le f_md (by simp)) f_le
  have f_dg := hp_k (e := (.inr (6, [.ref B.ro, .int (nI (V.co)), .ref B.te, .int (nI 0), .int (nI (V.ac)), .int (nI (V.al)), .int (nI (V.sd)), .ref B.he, .ref B.cn, .ref B.kd, .ref B.sz, .ref B.ky, .ref B.le, .ref B.dg, .ref B.nm, .ref B.ns, .ref B.sl, .ref B.sb, .int (nI (V.ss)), .ref B.su, .ref B.wi, .ref B.tu]))) (hp_ne f_dg f_md (by simp)) f_dg
  have f_nm := hp_k (e := (.inr (6, [.ref B.ro, .int (nI (V.co)), .ref B.te, .int (nI 0), .int (nI (V.ac)), .int (nI (V.al)), .int (nI (V.sd)), .ref B.he, .ref B.cn, .ref B.kd, .ref B.sz, .ref B.ky, .ref B.le, .ref B.dg, .ref B.nm, .ref B.ns, .ref B.sl, .ref B.sb, .int (nI (V.ss)), .ref B.su, .ref B.wi, .ref B.tu]))) (hp_ne f_nm f_md (by simp)) f_nm
  have f_ns := hp_k (e := (.inr (6, [.ref B.ro, .int (nI (V.co)), .ref B.te, .int (nI 0), .int (nI (V.ac)), .int (nI (V.al)), .int (nI (V.sd)), .ref B.he, .ref B.cn, .ref B.kd, .ref B.sz, .ref B.ky, .ref B.le, .ref B.dg, .ref B.nm, .ref B.ns, .ref B.sl, .ref B.sb, .int (nI (V.ss)), .ref B.su, .ref B.wi, .ref B.tu]))) (hp_ne f_ns f_md (by simp)) f_ns
  have f_sl := hp_k (e := (.inr (6, [.ref B.ro, .int (nI (V.co)), .ref B.te, .int (nI 0), .int (nI (V.ac)), .int (nI (V.al)), .int (nI (V.sd)), .ref B.he, .ref B.cn, .ref B.kd, .ref B.sz, .ref B.ky, .ref B.le, .ref B.dg, .ref B.nm, .ref B.ns, .ref B.sl, .ref B.sb, .int (nI (V.ss)), .ref B.su, .ref B.wi, .ref B.tu]))) (hp_ne f_sl f_md (by simp)) f_sl
  have f_sb := hp_k (e := (.inr (6, [.ref B.ro, .int (nI (V.co)), .ref B.te, .int (nI 0), .int (nI (V.ac)), .int (nI (V.al)), .int (nI (V.sd)), .ref B.he, .ref B.cn, .ref B.kd, .ref B.sz, .ref B.ky, .ref B.le, .ref B.dg, .ref B.nm, .ref B.ns, .ref B.sl, .ref B.sb, .int (nI (V.ss)), .ref B.su, .ref B.wi, .ref B.tu]))) (hp_ne f_sb f_md (by simp)) f_sb
  have f_su := hp_k (e := (.inr (6, [.ref B.ro, .int (nI (V.co)), .ref B.te, .int (nI 0), .int (nI (V.ac)), .int (nI (V.al)), .int (nI (V.sd)), .ref B.he, .ref B.cn, .ref B.kd, .ref B.sz, .ref B.ky, .ref B.le, .ref B.dg, .ref B.nm, .ref B.ns, .ref B.sl, .ref B.sb, .int (nI (V.ss)), .ref B.su, .ref B.wi, .ref B.tu]))) (hp_ne f_su f_md (by simp)) f_su
  have f_wi := hp_k (e := (.inr (6, [.ref B.ro, .int (nI (V.co)), .ref B.te, .int (nI 0), .int (nI (V.ac)), .int (nI (V.al)), .int (nI (V.sd)), .ref B.he, .ref B.cn, .ref B.kd, .ref B.sz, .ref B.ky, .ref B.le, .ref B.dg, .ref B.nm, .ref B.ns, .ref B.sl, .ref B.sb, .int (nI (V.ss)), .ref B.su, .ref B.wi, .ref B.tu]))) (hp_ne f_wi f_md (by simp)) f_wi
  have f_tu := hp_k (e := (.inr (6, [.ref B.ro, .int (nI (V.co)), .ref B.te, .int (nI 0), .int (nI (V.ac)), .int (nI (V.al)), .int (nI (V.sd)), .ref B.he, .ref B.cn, .ref B.kd, .ref B.sz, .ref B.ky, .ref B.le, .ref B.dg, .ref B.nm, .ref B.ns, .ref B.sl, .ref B.sb, .int (nI (V.ss)), .ref B.su, .ref B.wi, .ref B.tu]))) (hp_ne f_tu f_md (by simp)) f_tu
  have f_md : hp_up M md (.inr (6, [.ref B.ro, .int (nI (V.co)), .ref B.te, .int (nI 0), .int (nI (V.ac)), .int (nI (V.al)), .int (nI (V.sd)), .ref B.he, .ref B.cn, .ref B.kd, .ref B.sz, .ref B.ky, .ref B.le, .ref B.dg, .ref B.nm, .ref B.ns, .ref B.sl, .ref B.sb, .int (nI (V.ss)), .ref B.su, .ref B.wi, .ref B.tu])) md = some (.inr (6, [.ref B.ro, .int (nI (V.co)), .ref B.te, .int (nI 0), .int (nI (V.ac)), .int (nI (V.al)), .int (nI (V.sd)), .ref B.he, .ref B.cn, .ref B.kd, .ref B.sz, .ref B.ky, .ref B.le, .ref B.dg, .ref B.nm, .ref B.ns, .ref B.sl, .ref B.sb, .int (nI (V.ss)), .ref B.su, .ref B.wi, .ref B.tu])) := hp_us
  obtain ⟨M1, eM1⟩ : ∃ z, z = hp_up M md (.inr (6, [.ref B.ro, .int (nI (V.co)), .ref B.te, .int (nI 0), .int (nI (V.ac)), .int (nI (V.al)), .int (nI (V.sd)), .ref B.he, .ref B.cn, .ref B.kd, .ref B.sz, .ref B.ky, .ref B.le, .ref B.dg, .ref B.nm, .ref B.ns, .ref B.sl, .ref B.sb, .int (nI (V.ss)), .ref B.su, .ref B.wi, .ref B.tu])) := ⟨_, rfl⟩
  rw [← eM1] at hM f_md f_ro f_te f_he f_cn f_kd f_sz f_ky f_le f_dg f_nm f_ns f_sl f_sb f_su f_wi f_tu
  refine lv_iload_n hx hb d_MD_takes_10 rfl (lv_at hl 0 rfl) ?_
  exact hp_iret S hret hlk (rfl) hM hS (⟨rfl, ⟨f_md, f_ro, f_te, f_he, f_cn, f_kd, f_sz, f_ky, f_le, f_dg, f_nm, f_ns, f_sl, f_sb, f_su, f_wi, f_tu, hB, b_te, b_cn, b_kd, b_sz, b_ky, b_le, b_nm, b_ns, b_sl, b_sb, b_co, Nat.zero_le _, b_ac, b_al, b_sd, b_ss⟩⟩) d_MD_takes_11
set_option maxHeartbeats 4000000 in
set_option maxRecDepth 100000 in
theorem c_MD_put (l : Launch) (D : va_G) (ct : Nat → ClassId) (Z : hp_Z) (hZ : hp_Zok Z) (M : hp_M) (sz : Nat) (md : Nat) (B : MA) (V : MS) (hw : mdS ct M md B V) (k : Nat) (hk : k < 65536) (hs3 : V.ss < 3000) : Mv l y_MD_put b_MD_put 2 none 0 0 0 0 [.ref md, .int (nI k)] D ct Z M sz (fun M1 => mdS ct M1 md B (mkS (V.te) (V.cn) (V.kd) (V.sz) (V.ky) (V.le) (V.nm) (V.ns) (V.sl) (va_up V.sb V.ss k) (V.he) (V.dg) (V.su) (V.wi) (V.tu) (V.co) (V.ty) (V.ac) (V.al) (V.sd) (V.ss + 1))) := by
  refine hp_start (by decide) (Nat.le_of_ble_eq_true rfl) (fun p e s m below meth c ls S hret hlk hnm hsz hK hM hS hA hz hl => ?_)
  have hx := S.1
  have hb := S.2.1
  have hl : lv_has ls 2 [(0, .ref md), (1, .int (nI k))] := hl
  obtain ⟨f_md, f_ro, f_te, f_he, f_cn, f_kd, f_sz, f_ky, f_le, f_dg, f_nm, f_ns, f_sl, f_sb, f_su, f_wi, f_tu, hB, hV⟩ := id hw
  obtain ⟨n_kdsz, n_kdky, n_szky, n_hens, n_hesu, n_hetu, n_nssu, n_nstu, n_sutu, n_tewi⟩ := id hB
  obtain ⟨b_te, b_cn, b_kd, b_sz, b_ky, b_le, b_nm, b_ns, b_sl, b_sb, b_co, b_ty, b_ac, b_al, b_sd, b_ss⟩ := id hV
  refine lv_aload_n hx hb d_MD_put_0 rfl (lv_at hl 0 rfl) ?_
  refine hp_get S hK hM i_MD f_md rfl 17 (by decide) mf_MD_118 (fun _ h9 => h9) rfl d_MD_put_1 ?_
  refine lv_aload_n hx hb d_MD_put_4 rfl (lv_at hl 0 rfl) ?_
  refine hp_get S hK hM i_MD f_md rfl 18 (by decide) mf_MD_203 (fun _ h9 => h9) rfl d_MD_put_5 ?_
  refine lv_iload_n hx hb d_MD_put_8 rfl (lv_at hl 1 rfl) ?_
  refine hp_iast S hK hM hS 1 f_sb rfl (V.ss) rfl (by omega) (by omega) d_MD_put_9 (fun H locs hM hS => ?_)
  rw [nf_up] at hM
  have f_md := hp_k (e := (.inl (ct 1, 3000, .inl (nf (va_up (V.sb) (V.ss) k))))) (hp_ne f_md f_sb (by simp)) f_md
  have f_ro := hp_k (e := (.inl (ct 1, 3000, .inl (nf (va_up (V.sb) (V.ss) k))))) (hp_ne f_ro f_sb (by simp)) f_ro
  have f_te := hp_k (e := (.inl (ct 1, 3000, .inl (nf (va_up (V.sb) (V.ss) k))))) (hp_ne f_te f_sb (by simp)) f_te
  have f_he := hp_k (e := (.inl (ct 1, 3000, .inl (nf (va_up (V.sb) (V.ss) k))))) (hp_ne f_he f_sb (by simp)) f_he
  have f_cn := hp_k (e := (.inl (ct 1, 3000, .inl (nf (va_up (V.sb) (V.ss) k))))) (hp_ne f_cn f_sb (by simp)) f_cn
  have f_kd := hp_k (e := (.inl (ct 1, 3000, .inl (nf (va_up (V.sb) (V.ss) k))))) (hp_ne f_kd f_sb (by simp)) f_kd
  have f_sz := hp_k (e := (.inl (ct 1, 3000, .inl (nf (va_up (V.sb) (V.ss) k))))) (hp_ne f_sz f_sb (by simp)) f_sz
  have f_ky := hp_k (e := (.inl (ct 1, 3000, .inl (nf (va_up (V.sb) (V.ss) k))))) (hp_ne f_ky f_sb (by simp)) f_ky
  have f_le := hp_k (e := (.inl (ct 1, 3000, .inl (nf (va_up (V.sb) (V.ss) k))))) (hp_ne f_le f_sb (by simp)) f_le
  have f_dg := hp_k (e := (.inl (ct 1, 3000, .inl (nf (va_up (V.sb) (V.ss) k))))) (hp_ne f_dg f_sb (by simp)) f_dg
  have f_nm := hp_k (e := (.inl (ct 1, 3000, .inl (nf (va_up (V.sb) (V.ss) k))))) (hp_ne f_nm f_sb (by simp)) f_nm
  have f_ns := hp_k (e := (.inl (ct 1, 3000, .inl (nf (va_up (V.sb) (V.ss) k))))) (hp_ne f_ns f_sb (by simp)) f_ns
  have f_sl := hp_k (e := (.inl (ct 1, 3000, .inl (nf (va_up (V.sb) (V.ss) k))))) (hp_ne f_sl f_sb (by simp)) f_sl
  have f_su := hp_k (e := (.inl (ct 1, 3000, .inl (nf (va_up (V.sb) (V.ss) k))))) (hp_ne f_su f_sb (by simp)) f_su
  have f_wi := hp_k (e := (.inl (ct 1, 3000, .inl (nf (va_up (V.sb) (V.ss) k))))) (hp_ne f_wi f_sb (by simp)) f_wi
  have f_tu := hp_k (e := (.inl (ct 1, 3000, .inl (nf (va_up (V.sb) (V.ss) k))))) (hp_ne f_tu f_sb (by simp)) f_tu
  have f_sb : hp_up M B.sb (.inl (ct 1, 3000, .inl (nf (va_up (V.sb) (V.ss) k)))) B.sb = some (.inl (ct 1, 3000, .inl (nf (va_up (V.sb) (V.ss) k)))) := hp_us
  obtain ⟨M1, eM1⟩ : ∃ z, z = hp_up M B.sb (.inl (ct 1, 3000, .inl (nf (va_up (V.sb) (V.ss) k)))) := ⟨_, rfl⟩
  rw [← eM1] at hM f_md f_ro f_te f_he f_cn f_kd f_sz f_ky f_le f_dg f_nm f_ns f_sl f_sb f_su f_wi f_tu
  refine lv_aload_n hx hb d_MD_put_10 rfl (lv_at hl 0 rfl) ?_
  refine lv_dup hx hb d_MD_put_11 rfl ?_
  refine hp_get S hK hM i_MD f_md rfl 18 (by decide) mf_MD_203 (fun _ h9 => h9) rfl d_MD_put_12 ?_
  refine lv_iconst (v := nI 1) hx hb d_MD_put_15 rfl ?_
  refine nb_iadd hx hb d_MD_put_16 ?_
  refine hp_put (ty := .int) (fs' := [.ref B.ro, .int (nI (V.co)), .ref B.te, .int (nI (V.ty)), .int (nI (V.ac)), .int (nI (V.al)), .int (nI (V.sd)), .ref B.he, .ref B.cn, .ref B.kd, .ref B.sz, .ref B.ky, .ref B.le, .ref B.dg, .ref B.nm, .ref B.ns, .ref B.sl, .ref B.sb, .int (nI ((V.ss) + 1)), .ref B.su, .ref B.wi, .ref B.tu]) S hK hM hS i_MD t_MD to_MD n_MD f_md rfl 18 (by decide) mf_MD_203 (fun _ h9 => h9) rfl (by decide +kernel) rfl rfl (by simp) rfl d_MD_put_17 (fun H locs hM hS => ?_)
  have f_ro := hp_k (e := (.inr (6, [.ref B.ro, .int (nI (V.co)), .ref B.te, .int (nI (V.ty)), .int (nI (V.ac)), .int (nI (V.al)), .int (nI (V.sd)), .ref B.he, .ref B.cn, .ref B.kd, .ref B.sz, .ref B.ky, .ref B.le, .ref B.dg, .ref B.nm, .ref B.ns, .ref B.sl, .ref B.sb, .int (nI ((V.ss) + 1)), .ref B.su, .ref B.wi, .ref B.tu]))) (hp_ne f_ro f_md (by simp)) f_ro
  have f_te := hp_k (e := (.inr (6, [.ref B.ro, .int (nI (V.co)), .ref B.te, .int (nI (V.ty)), .int (nI (V.ac)), .int (nI (V.al)), .int (nI (V.sd)), .ref B.he, .ref B.cn, .ref B.kd, .ref B.sz, .ref B.ky, .ref B.le, .ref B.dg, .ref B.nm, .ref B.ns, .ref B.sl, .ref B.sb, .int (nI ((V.ss) + 1)), .ref B.su, .ref B.wi, .ref B.tu]))) (hp_ne f_te f_md (by simp)) f_te
  have f_he := hp_k (e := (.inr (6, [.ref B.ro, .int (nI (V.co)), .ref B.te, .int (nI (V.ty)), .int (nI (V.ac)), .int (nI (V.al)), .int (nI (V.sd)), .ref B.he, .ref B.cn, .ref B.kd, .ref B.sz, .ref B.ky, .ref B.le, .ref B.dg, .ref B.nm, .ref B.ns, .ref B.sl, .ref B.sb, .int (nI ((V.ss) + 1)), .ref B.su, .ref B.wi, .ref B.tu]))) (hp_ne f_he f_md (by simp)) f_he
  have f_cn := hp_k (e := (.inr (6, [.ref B.ro, .int (nI (V.co)), .ref B.te, .int (nI (V.ty)), .int (nI (V.ac)), .int (nI (V.al)), .int (nI (V.sd)), .ref B.he, .ref B.cn, .ref B.kd, .ref B.sz, .ref B.ky, .ref B.le, .ref B.dg, .ref B.nm, .ref B.ns, .ref B.sl, .ref B.sb, .int (nI ((V.ss) + 1)), .ref B.su, .ref B.wi, .ref B.tu]))) (hp_ne f_cn f_md (by simp)) f_cn
  have f_kd := hp_k (e := (.inr (6, [.ref B.ro, .int (nI (V.co)), .ref B.te, .int (nI (V.ty)), .int (nI (V.ac)), .int (nI (V.al)), .int (nI (V.sd)), .ref B.he, .ref B.cn, .ref B.kd, .ref B.sz, .ref B.ky, .ref B.le, .ref B.dg, .ref B.nm, .ref B.ns, .ref B.sl, .ref B.sb, .int (nI ((V.ss) + 1)), .ref B.su, .ref B.wi, .ref B.tu]))) (hp_ne f_kd f_md (by simp)) f_kd
  have f_sz := hp_k (e := (.inr (6, [.ref B.ro, .int (nI (V.co)), .ref B.te, .int (nI (V.ty)), .int (nI (V.ac)), .int (nI (V.al)), .int (nI (V.sd)), .ref B.he, .ref B.cn, .ref B.kd, .ref B.sz, .ref B.ky, .ref B.le, .ref B.dg, .ref B.nm, .ref B.ns, .ref B.sl, .ref B.sb, .int (nI ((V.ss) + 1)), .ref B.su, .ref B.wi, .ref B.tu]))) (hp_ne f_sz f_md (by simp)) f_sz
  have f_ky := hp_k (e := (.inr (6, [.ref B.ro, .int (nI (V.co)), .ref B.te, .int (nI (V.ty)), .int (nI (V.ac)), .int (nI (V.al)), .int (nI (V.sd)), .ref B.he, .ref B.cn, .ref B.kd, .ref B.sz, .ref B.ky, .ref B.le, .ref B.dg, .ref B.nm, .ref B.ns, .ref B.sl, .ref B.sb, .int (nI ((V.ss) + 1)), .ref B.su, .ref B.wi, .ref B.tu]))) (hp_ne f_ky f_md (by simp)) f_ky
  have f_le := hp_k (e := (.inr (6, [.ref B.ro, .int (nI (V.co)), .ref B.te, .int (nI (V.ty)), .int (nI (V.ac)), .int (nI (V.al)), .int (nI (V.sd)), .ref B.he, .ref B.cn, .ref B.kd, .ref B.sz, .ref B.ky, .ref B.le, .ref B.dg, .ref B.nm, .ref B.ns, .ref B.sl, .ref B.sb, .int (nI ((V.ss) + 1)), .ref B.su, .ref B.wi, .ref B.tu]))) (hp_ne f_le f_md (by simp)) f_le
  have f_dg := hp_k (e := (.inr (6, [.ref B.ro, .int (nI (V.co)), .ref B.te, .int (nI (V.ty)), .int (nI (V.ac)), .int (nI (V.al)), .int (nI (V.sd)), .ref B.he, .ref B.cn, .ref B.kd, .ref B.sz, .ref B.ky, .ref B.le, .ref B.dg, .ref B.nm, .ref B.ns, .ref B.sl, .ref B.sb, .int (nI ((V.ss) + 1)), .ref B.su, .ref B.wi, .ref B.tu]))) (hp_ne f_dg f_md (by simp)) f_dg
  have f_nm := hp_k (e := (.inr (6, [.ref B.ro, .int (nI (V.co)), .ref B.te, .int (nI (V.ty)), .int (nI (V.ac)), .int (nI (V.al)), .int (nI (V.sd)), .ref B.he, .ref B.cn, .ref B.kd, .ref B.sz, .ref B.ky, .ref B.le, .ref B.dg, .ref B.nm, .ref B.ns, .ref B.sl, .ref B.sb, .int (nI ((V.ss) + 1)), .ref B.su, .ref B.wi, .ref B.tu]))) (hp_ne f_nm f_md (by simp)) f_nm
  have f_ns := hp_k (e := (.inr (6, [.ref B.ro, .int (nI (V.co)), .ref B.te, .int (nI (V.ty)), .int (nI (V.ac)), .int (nI (V.al)), .int (nI (V.sd)), .ref B.he, .ref B.cn, .ref B.kd, .ref B.sz, .ref B.ky, .ref B.le, .ref B.dg, .ref B.nm, .ref B.ns, .ref B.sl, .ref B.sb, .int (nI ((V.ss) + 1)), .ref B.su, .ref B.wi, .ref B.tu]))) (hp_ne f_ns f_md (by simp)) f_ns
  have f_sl := hp_k (e := (.inr (6, [.ref B.ro, .int (nI (V.co)), .ref B.te, .int (nI (V.ty)), .int (nI (V.ac)), .int (nI (V.al)), .int (nI (V.sd)), .ref B.he, .ref B.cn, .ref B.kd, .ref B.sz, .ref B.ky, .ref B.le, .ref B.dg, .ref B.nm, .ref B.ns, .ref B.sl, .ref B.sb, .int (nI ((V.ss) + 1)), .ref B.su, .ref B.wi, .ref B.tu]))) (hp_ne f_sl f_md (by simp)) f_sl
  have f_sb := hp_k (e := (.inr (6, [.ref B.ro, .int (nI (V.co)), .ref B.te, .int (nI (V.ty)), .int (nI (V.ac)), .int (nI (V.al)), .int (nI (V.sd)), .ref B.he, .ref B.cn, .ref B.kd, .ref B.sz, .ref B.ky, .ref B.le, .ref B.dg, .ref B.nm, .ref B.ns, .ref B.sl, .ref B.sb, .int (nI ((V.ss) + 1)), .ref B.su, .ref B.wi, .ref B.tu]))) (hp_ne f_sb f_md (by simp)) f_sb
  have f_su := hp_k (e := (.inr (6, [.ref B.ro, .int (nI (V.co)), .ref B.te, .int (nI (V.ty)), .int (nI (V.ac)), .int (nI (V.al)), .int (nI (V.sd)), .ref B.he, .ref B.cn, .ref B.kd, .ref B.sz, .ref B.ky, .ref B.le, .ref B.dg, .ref B.nm, .ref B.ns, .ref B.sl, .ref B.sb, .int (nI ((V.ss) + 1)), .ref B.su, .ref B.wi, .ref B.tu]))) (hp_ne f_su f_md (by simp)) f_su
  have f_wi := hp_k (e := (.inr (6, [.ref B.ro, .int (nI (V.co)), .ref B.te, .int (nI (V.ty)), .int (nI (V.ac)), .int (nI (V.al)), .int (nI (V.sd)), .ref B.he, .ref B.cn, .ref B.kd, .ref B.sz, .ref B.ky, .ref B.le, .ref B.dg, .ref B.nm, .ref B.ns, .ref B.sl, .ref B.sb, .int (nI ((V.ss) + 1)), .ref B.su, .ref B.wi, .ref B.tu]))) (hp_ne f_wi f_md (by simp)) f_wi
  have f_tu := hp_k (e := (.inr (6, [.ref B.ro, .int (nI (V.co)), .ref B.te, .int (nI (V.ty)), .int (nI (V.ac)), .int (nI (V.al)), .int (nI (V.sd)), .ref B.he, .ref B.cn, .ref B.kd, .ref B.sz, .ref B.ky, .ref B.le, .ref B.dg, .ref B.nm, .ref B.ns, .ref B.sl, .ref B.sb, .int (nI ((V.ss) + 1)), .ref B.su, .ref B.wi, .ref B.tu]))) (hp_ne f_tu f_md (by simp)) f_tu
  have f_md : hp_up M1 md (.inr (6, [.ref B.ro, .int (nI (V.co)), .ref B.te, .int (nI (V.ty)), .int (nI (V.ac)), .int (nI (V.al)), .int (nI (V.sd)), .ref B.he, .ref B.cn, .ref B.kd, .ref B.sz, .ref B.ky, .ref B.le, .ref B.dg, .ref B.nm, .ref B.ns, .ref B.sl, .ref B.sb, .int (nI ((V.ss) + 1)), .ref B.su, .ref B.wi, .ref B.tu])) md = some (.inr (6, [.ref B.ro, .int (nI (V.co)), .ref B.te, .int (nI (V.ty)), .int (nI (V.ac)), .int (nI (V.al)), .int (nI (V.sd)), .ref B.he, .ref B.cn, .ref B.kd, .ref B.sz, .ref B.ky, .ref B.le, .ref B.dg, .ref B.nm, .ref B.ns, .ref B.sl, .ref B.sb, .int (nI ((V.ss) + 1)), .ref B.su, .ref B.wi, .ref B.tu])) := hp_us
  obtain ⟨M2, eM2⟩ : ∃ z, z = hp_up M1 md (.inr (6, [.ref B.ro, .int (nI (V.co)), .ref B.te, .int (nI (V.ty)), .int (nI (V.ac)), .int (nI (V.al)), .int (nI (V.sd)), .ref B.he, .ref B.cn, .ref B.kd, .ref B.sz, .ref B.ky, .ref B.le, .ref B.dg, .ref B.nm, .ref B.ns, .ref B.sl, .ref B.sb, .int (nI ((V.ss) + 1)), .ref B.su, .ref B.wi, .ref B.tu])) := ⟨_, rfl⟩
  rw [← eM2] at hM f_md f_ro f_te f_he f_cn f_kd f_sz f_ky f_le f_dg f_nm f_ns f_sl f_sb f_su f_wi f_tu
  exact hp_vret S hret hlk hM hS (⟨f_md, f_ro, f_te, f_he, f_cn, f_kd, f_sz, f_ky, f_le, f_dg, f_nm, f_ns, f_sl, f_sb, f_su, f_wi, f_tu, hB, b_te, b_cn, b_kd, b_sz, b_ky, b_le, b_nm, b_ns, b_sl, up_lt b_sb hk, b_co, b_ty, b_ac, b_al, b_sd, hs3⟩) d_MD_put_20
set_option maxHeartbeats 4000000 in
set_option maxRecDepth 100000 in
theorem c_MD_keepSum (l : Launch) (D : va_G) (ct : Nat → ClassId) (Z : hp_Z) (hZ : hp_Zok Z) (M : hp_M) (sz : Nat) (md : Nat) (B : MA) (V : MS) (hw : mdS ct M md B V) : Mv l y_MD_keepSum b_MD_keepSum 2 none 0 0 0 0 [.ref md] D ct Z M sz (fun M1 => ∃ h8 : Nat → Int32, (∀ i, i < 8 → h8 i = V.su i) ∧ mdS ct M1 md B (mkS (V.te) (V.cn) (V.kd) (V.sz) (V.ky) (V.le) (V.nm) (V.ns) (V.sl) (V.sb) h8 (V.dg) (V.su) (V.wi) (V.tu) (V.co) (V.ty) (V.ac) (V.al) (V.sd) (V.ss))) := by
  refine hp_start (by decide) (Nat.le_of_ble_eq_true rfl) (fun p e s m below meth c ls S hret hlk hnm hsz hK hM hS hA hz hl => ?_)
  have hx := S.1
  have hb := S.2.1
  have hl : lv_has ls 2 [(0, .ref md)] := hl
  obtain ⟨f_md, f_ro, f_te, f_he, f_cn, f_kd, f_sz, f_ky, f_le, f_dg, f_nm, f_ns, f_sl, f_sb, f_su, f_wi, f_tu, hB, hV⟩ := id hw
  obtain ⟨n_kdsz, n_kdky, n_szky, n_hens, n_hesu, n_hetu, n_nssu, n_nstu, n_sutu, n_tewi⟩ := id hB
  obtain ⟨b_te, b_cn, b_kd, b_sz, b_ky, b_le, b_nm, b_ns, b_sl, b_sb, b_co, b_ty, b_ac, b_al, b_sd, b_ss⟩ := id hV
  refine lv_iconst (v := nI 0) hx hb d_MD_keepSum_0 rfl ?_
  refine lv_istore_n (lv' := [(1, .int (nI 0)), (0, .ref md)]) hx hb d_MD_keepSum_1 rfl hl (by decide) rfl (fun ls hl => ?_)
  replace hl : lv_has ls 2 [(0, .ref md), (1, .int (nI 0))] := lv_sub hl [1, 0] rfl
  obtain ⟨j, e9j⟩ : ∃ z : Nat, z = 0 := ⟨_, rfl⟩
  obtain ⟨h8, e9h8⟩ : ∃ z : Nat → Int32, z = V.he := ⟨_, rfl⟩
  replace hl : lv_has ls 2 [(0, .ref md), (1, .int (nI j))] := by subst e9j e9h8; exact hl
  obtain ⟨H, e9H⟩ : ∃ z : Heap, z = s.heap := ⟨_, rfl⟩
  replace hM : hp_H D ccl (hp_A M sz) M H := by rw [e9H]; exact hM
  replace hS : va_S (hp_A M sz) s.heap H [] := by rw [e9H]; exact hS
  rw [← e9H]
  clear e9H
  obtain ⟨locs, e9L⟩ : ∃ z : List Loc, z = [] := ⟨_, rfl⟩
  replace hS : va_S (hp_A M sz) s.heap H locs := by rw [e9L]; exact hS
  rw [← e9L]
  clear e9L
  obtain ⟨N1, e9N1⟩ : ∃ z : hp_M, z = M := ⟨_, rfl⟩
  replace hM : hp_H D ccl (hp_A M sz) N1 H := by rw [e9N1]; exact hM
  replace f_md : N1 md = some (.inr (6, [.ref B.ro, .int (nI (V.co)), .ref B.te, .int (nI (V.ty)), .int (nI (V.ac)), .int (nI (V.al)), .int (nI (V.sd)), .ref B.he, .ref B.cn, .ref B.kd, .ref B.sz, .ref B.ky, .ref B.le, .ref B.dg, .ref B.nm, .ref B.ns, .ref B.sl, .ref B.sb, .int (nI (V.ss)), .ref B.su, .ref B.wi, .ref B.tu])) := by rw [e9N1]; exact f_md
  replace f_ro : N1 B.ro = some (.inl (ct 1, 72, .inl roF)) := by rw [e9N1]; exact f_ro
  replace f_te : N1 B.te = some (.inl (ct 1, 64, .inl (nf V.te))) := by rw [e9N1]; exact f_te
  replace f_he : N1 B.he = some (.inl (ct 1, 8, .inl (V.he))) := by rw [e9N1]; exact f_he
  replace f_cn : N1 B.cn = some (.inl (ct 1, 12, .inl (nf V.cn))) := by rw [e9N1]; exact f_cn
  replace f_kd : N1 B.kd = some (.inl (ct 1, 288, .inl (nf V.kd))) := by rw [e9N1]; exact f_kd
  replace f_sz : N1 B.sz = some (.inl (ct 1, 288, .inl (nf V.sz))) := by rw [e9N1]; exact f_sz
  replace f_ky : N1 B.ky = some (.inl (ct 1, 288, .inl (nf V.ky))) := by rw [e9N1]; exact f_ky
  replace f_le : N1 B.le = some (.inl (ct 1, 18432, .inl (nf V.le))) := by rw [e9N1]; exact f_le
  replace f_dg : N1 B.dg = some (.inl (ct 1, 2304, .inl (V.dg))) := by rw [e9N1]; exact f_dg
  replace f_nm : N1 B.nm = some (.inl (ct 1, 128, .inl (nf V.nm))) := by rw [e9N1]; exact f_nm
  replace f_ns : N1 B.ns = some (.inl (ct 1, 8, .inl (nf V.ns))) := by rw [e9N1]; exact f_ns
  replace f_sl : N1 B.sl = some (.inl (ct 1, 16, .inl (nf V.sl))) := by rw [e9N1]; exact f_sl
  replace f_sb : N1 B.sb = some (.inl (ct 1, 3000, .inl (nf V.sb))) := by rw [e9N1]; exact f_sb
  replace f_su : N1 B.su = some (.inl (ct 1, 8, .inl (V.su))) := by rw [e9N1]; exact f_su
  replace f_wi : N1 B.wi = some (.inl (ct 1, 64, .inl (V.wi))) := by rw [e9N1]; exact f_wi
  replace f_tu : N1 B.tu = some (.inl (ct 1, 8, .inl (V.tu))) := by rw [e9N1]; exact f_tu
  replace f_he : N1 B.he = some (.inl (ct 1, 8, .inl h8)) := by subst e9j e9h8; exact f_he
  have hh8 : ∀ i, i < j → h8 i = V.su i := by subst e9j e9h8; intro i hi; omega
  obtain ⟨fu, hn⟩ : ∃ fu : Nat, j + fu = 8 := ⟨8 - j, by omega⟩
  clear e9j e9h8 e9N1
  induction fu generalizing j h8 H locs N1 ls with
  | zero =>
    have hn : j = 8 := by omega
    subst hn
    refine lv_iload_n hx hb d_MD_keepSum_2 rfl (lv_at hl 1 rfl) ?_
    refine lv_bipush (v := nI 8) hx hb d_MD_keepSum_3 rfl ?_
    refine nb_ge (tgt := 26) hx hb d_MD_keepSum_5 (by decide) (by omega) (by omega) (fun h2 => ?_) (fun h2 => ?_)
    · exact hp_vret S hret hlk hM hS (⟨h8, hh8, ⟨f_md, f_ro, f_te, f_he, f_cn, f_kd, f_sz, f_ky, f_le, f_dg, f_nm, f_ns, f_sl, f_sb, f_su, f_wi, f_tu, hB, b_te, b_cn, b_kd, b_sz, b_ky, b_le, b_nm, b_ns, b_sl, b_sb, b_co, b_ty, b_ac, b_al, b_sd, b_ss⟩⟩) d_MD_keepSum_26
    · exact absurd hn (by omega)
  | succ fu ih =>
    refine lv_iload_n hx hb d_MD_keepSum_2 rfl (lv_at hl 1 rfl) ?_
    refine lv_bipush (v := nI 8) hx hb d_MD_keepSum_3 rfl ?_
    refine nb_ge (tgt := 26) hx hb d_MD_keepSum_5 (by decide) (by omega) (by omega) (fun h3 => ?_) (fun h3 => ?_)
    · exact absurd hn (by omega)
    · refine lv_aload_n hx hb d_MD_keepSum_8 rfl (lv_at hl 0 rfl) ?_
      refine hp_get S hK hM i_MD f_md rfl 7 (by decide) mf_MD_88 (fun _ h9 => h9) rfl d_MD_keepSum_9 ?_
      refine lv_iload_n hx hb d_MD_keepSum_12 rfl (lv_at hl 1 rfl) ?_
      refine lv_aload_n hx hb d_MD_keepSum_13 rfl (lv_at hl 0 rfl) ?_
      refine hp_get S hK hM i_MD f_md rfl 19 (by decide) mf_MD_121 (fun _ h9 => h9) rfl d_MD_keepSum_14 ?_
      refine lv_iload_n hx hb d_MD_keepSum_17 rfl (lv_at hl 1 rfl) ?_
      refine hp_iald S hK hM 1 f_su rfl j rfl (by omega) (by omega) d_MD_keepSum_18 ?_
      refine hp_iast S hK hM hS 1 f_he rfl j rfl (by omega) (by omega) d_MD_keepSum_19 (fun H locs hM hS => ?_)
      have f_md := hp_k (e := (.inl (ct 1, 8, .inl (upd h8 j ((V.su) j))))) (hp_ne f_md f_he (by simp)) f_md
      have f_ro := hp_k (e := (.inl (ct 1, 8, .inl (upd h8 j ((V.su) j))))) (hp_ne f_ro f_he (by simp)) f_ro
      have f_te := hp_k (e := (.inl (ct 1, 8, .inl (upd h8 j ((V.su) j))))) (hp_ne f_te f_he (by simp)) f_te
      have f_cn := hp_k (e := (.inl (ct 1, 8, .inl (upd h8 j ((V.su) j))))) (hp_ne f_cn f_he (by simp)) f_cn
      have f_kd := hp_k (e := (.inl (ct 1, 8, .inl (upd h8 j ((V.su) j))))) (hp_ne f_kd f_he (by simp)) f_kd
      have f_sz := hp_k (e := (.inl (ct 1, 8, .inl (upd h8 j ((V.su) j))))) (hp_ne f_sz f_he (by simp)) f_sz
      have f_ky := hp_k (e := (.inl (ct 1, 8, .inl (upd h8 j ((V.su) j))))) (hp_ne f_ky f_he (by simp)) f_ky
      have f_le := hp_k (e := (.inl (ct 1, 8, .inl (upd h8 j ((V.su) j))))) (hp_ne f_le f_he (by simp)) f_le
      have f_dg := hp_k (e := (.inl (ct 1, 8, .inl (upd h8 j ((V.su) j))))) (hp_ne f_dg f_he (by simp)) f_dg
      have f_nm := hp_k (e := (.inl (ct 1, 8, .inl (upd h8 j ((V.su) j))))) (hp_ne f_nm f_he (by simp)) f_nm
      have f_ns := hp_k (e := (.inl (ct 1, 8, .inl (upd h8 j ((V.su) j))))) (Ne.symm n_hens) f_ns
      have f_sl := hp_k (e := (.inl (ct 1, 8, .inl (upd h8 j ((V.su) j))))) (hp_ne f_sl f_he (by simp)) f_sl
      have f_sb := hp_k (e := (.inl (ct 1, 8, .inl (upd h8 j ((V.su) j))))) (hp_ne f_sb f_he (by simp)) f_sb
      have f_su := hp_k (e := (.inl (ct 1, 8, .inl (upd h8 j ((V.su) j))))) (Ne.symm n_hesu) f_su
      have f_wi := hp_k (e := (.inl (ct 1, 8, .inl (upd h8 j ((V.su) j))))) (hp_ne f_wi f_he (by simp)) f_wi
      have f_tu := hp_k (e := (.inl (ct 1, 8, .inl (upd h8 j ((V.su) j))))) (Ne.symm n_hetu) f_tu
      have f_he : hp_up N1 B.he (.inl (ct 1, 8, .inl (upd h8 j ((V.su) j)))) B.he = some (.inl (ct 1, 8, .inl (upd h8 j ((V.su) j)))) := hp_us
      obtain ⟨M4, eM4⟩ : ∃ z, z = hp_up N1 B.he (.inl (ct 1, 8, .inl (upd h8 j ((V.su) j)))) := ⟨_, rfl⟩
      rw [← eM4] at hM f_md f_ro f_te f_he f_cn f_kd f_sz f_ky f_le f_dg f_nm f_ns f_sl f_sb f_su f_wi f_tu
      refine lv_iinc (v := nI (j + 1)) (lv' := [(1, .int (nI (j + 1))), (0, .ref md)]) hx hb d_MD_keepSum_20 hl (k := 1) rfl (nI_add j 1) (by decide) rfl (fun ls hl => ?_)
      refine lv_goto (tgt := 2) hx hb d_MD_keepSum_23 (by decide) ?_
      exact ih (ls := ls) (hl := lv_sub hl [1, 0] rfl) (j := j + 1) (hn := by omega) (h8 := upd h8 j (V.su j)) (hh8 := fun i hi => by unfold upd; by_cases z : i = j; (rw [if_pos z, z]); (rw [if_neg z]; exact hh8 i (by omega))) (H := H) (locs := locs) (hM := hM) (hS := hS) (N1 := M4) (f_md := f_md) (f_ro := f_ro) (f_te := f_te) (f_he := f_he) (f_cn := f_cn) (f_kd := f_kd) (f_sz := f_sz) (f_ky := f_ky) (f_le := f_le) (f_dg := f_dg) (f_nm := f_nm) (f_ns := f_ns) (f_sl := f_sl) (f_sb := f_sb) (f_su := f_su) (f_wi := f_wi) (f_tu := f_tu)
set_option maxHeartbeats 4000000 in
set_option maxRecDepth 100000 in
theorem c_MD_type (l : Launch) (D : va_G) (ct : Nat → ClassId) (Z : hp_Z) (hZ : hp_Zok Z) (M : hp_M) (sz : Nat) (md : Nat) (B : MA) (V : MS) (hw : mdS ct M md B V) (k : Nat) (hk : k < 65536) : Mi l y_MD_type b_MD_type 2 (some .boolean) 0 0 0 0 [.ref md, .int (nI k)] D ct Z M sz (fun r M1 => ((32 ≤ k ∧ k ≤ 126 ∧ V.ty < 64) ∧ r = nI 1 ∧ mdS ct M1 md B (mkS (va_up V.te V.ty k) (V.cn) (V.kd) (V.sz) (V.ky) (V.le) (V.nm) (V.ns) (V.sl) (V.sb) (V.he) (V.dg) (V.su) (V.wi) (V.tu) 0 (V.ty + 1) (V.ac) (V.al) (V.sd) (V.ss))) ∨ (¬ (32 ≤ k ∧ k ≤ 126 ∧ V.ty < 64) ∧ r = nI 0 ∧ mdS ct M1 md B (mkS (V.te) (V.cn) (V.kd) (V.sz) (V.ky) (V.le) (V.nm) (V.ns) (V.sl) (V.sb) (V.he) (V.dg) (V.su) (V.wi) (V.tu) 0 (V.ty) (V.ac) (V.al) (V.sd) (V.ss)))) := by
  refine hp_start (by decide) (Nat.le_of_ble_eq_true rfl) (fun p e s m below meth c ls S hret hlk hnm hsz hK hM hS hA hz hl => ?_)
  have hx := S.1
  have hb := S.2.1
  have hl : lv_has ls 2 [(0, .ref md), (1, .int (nI k))] := hl
  obtain ⟨f_md, f_ro, f_te, f_he, f_cn, f_kd, f_sz, f_ky, f_le, f_dg, f_nm, f_ns, f_sl, f_sb, f_su, f_wi, f_tu, hB, hV⟩ := id hw
  obtain ⟨n_kdsz, n_kdky, n_szky, n_hens, n_hesu, n_hetu, n_nssu, n_nstu, n_sutu, n_tewi⟩ := id hB
  obtain ⟨b_te, b_cn, b_kd, b_sz, b_ky, b_le, b_nm, b_ns, b_sl, b_sb, b_co, b_ty, b_ac, b_al, b_sd, b_ss⟩ := id hV
  refine lv_aload_n hx hb d_MD_type_0 rfl (lv_at hl 0 rfl) ?_
  refine lv_iconst (v := nI 0) hx hb d_MD_type_1 rfl ?_
  refine hp_put (ty := .int) (fs' := [.ref B.ro, .int (nI 0), .ref B.te, .int (nI (V.ty)), .int (nI (V.ac)), .int (nI (V.al)), .int (nI (V.sd)), .ref B.he, .ref B.cn, .ref B.kd, .ref B.sz, .ref B.ky, .ref B.le, .ref B.dg, .ref B.nm, .ref B.ns, .ref B.sl, .ref B.sb, .int (nI (V.ss)), .ref B.su, .ref B.wi, .ref B.tu]) S hK hM hS i_MD t_MD to_MD n_MD f_md rfl 1 (by decide) mf_MD_137 (fun _ h9 => h9) rfl (by decide +kernel) rfl rfl (by simp) rfl d_MD_type_2 (fun H locs hM hS => ?_)
  have f_ro := hp_k (e := (.inr (6, [.ref B.ro, .int (nI 0), .ref B.te, .int (nI (V.ty)), .int (nI (V.ac)), .int (nI (V.al)), .int (nI (V.sd)), .ref B.he, .ref B.cn, .ref B.kd, .ref B.sz, .ref B.ky, .ref B.le, .ref B.dg, .ref B.nm, .ref B.ns, .ref B.sl, .ref B.sb, .int (nI (V.ss)), .ref B.su, .ref B.wi, .ref B.tu]))) (hp_ne f_ro f_md (by simp)) f_ro
  have f_te := hp_k (e := (.inr (6, [.ref B.ro, .int (nI 0), .ref B.te, .int (nI (V.ty)), .int (nI (V.ac)), .int (nI (V.al)), .int (nI (V.sd)), .ref B.he, .ref B.cn, .ref B.kd, .ref B.sz, .ref B.ky, .ref B.le, .ref B.dg, .ref B.nm, .ref B.ns, .ref B.sl, .ref B.sb, .int (nI (V.ss)), .ref B.su, .ref B.wi, .ref B.tu]))) (hp_ne f_te f_md (by simp)) f_te
  have f_he := hp_k (e := (.inr (6, [.ref B.ro, .int (nI 0), .ref B.te, .int (nI (V.ty)), .int (nI (V.ac)), .int (nI (V.al)), .int (nI (V.sd)), .ref B.he, .ref B.cn, .ref B.kd, .ref B.sz, .ref B.ky, .ref B.le, .ref B.dg, .ref B.nm, .ref B.ns, .ref B.sl, .ref B.sb, .int (nI (V.ss)), .ref B.su, .ref B.wi, .ref B.tu]))) (hp_ne f_he f_md (by simp)) f_he
  have f_cn := hp_k (e := (.inr (6, [.ref B.ro, .int (nI 0), .ref B.te, .int (nI (V.ty)), .int (nI (V.ac)), .int (nI (V.al)), .int (nI (V.sd)), .ref B.he, .ref B.cn, .ref B.kd, .ref B.sz, .ref B.ky, .ref B.le, .ref B.dg, .ref B.nm, .ref B.ns, .ref B.sl, .ref B.sb, .int (nI (V.ss)), .ref B.su, .ref B.wi, .ref B.tu]))) (hp_ne f_cn f_md (by simp)) f_cn
  have f_kd := hp_k (e := (.inr (6, [.ref B.ro, .int (nI 0), .ref B.te, .int (nI (V.ty)), .int (nI (V.ac)), .int (nI (V.al)), .int (nI (V.sd)), .ref B.he, .ref B.cn, .ref B.kd, .ref B.sz, .ref B.ky, .ref B.le, .ref B.dg, .ref B.nm, .ref B.ns, .ref B.sl, .ref B.sb, .int (nI (V.ss)), .ref B.su, .ref B.wi, .ref B.tu]))) (hp_ne f_kd f_md (by simp)) f_kd
  have f_sz := hp_k (e := (.inr (6, [.ref B.ro, .int (nI 0), .ref B.te, .int (nI (V.ty)), .int (nI (V.ac)), .int (nI (V.al)), .int (nI (V.sd)), .ref B.he, .ref B.cn, .ref B.kd, .ref B.sz, .ref B.ky, .ref B.le, .ref B.dg, .ref B.nm, .ref B.ns, .ref B.sl, .ref B.sb, .int (nI (V.ss)), .ref B.su, .ref B.wi, .ref B.tu]))) (hp_ne f_sz f_md (by simp)) f_sz
  have f_ky := hp_k (e := (.inr (6, [.ref B.ro, .int (nI 0), .ref B.te, .int (nI (V.ty)), .int (nI (V.ac)), .int (nI (V.al)), .int (nI (V.sd)), .ref B.he, .ref B.cn, .ref B.kd, .ref B.sz, .ref B.ky, .ref B.le, .ref B.dg, .ref B.nm, .ref B.ns, .ref B.sl, .ref B.sb, .int (nI (V.ss)), .ref B.su, .ref B.wi, .ref B.tu]))) (hp_ne f_ky f_md (by simp)) f_ky
  have f_le := hp_k (e := (.inr (6, [.ref B.ro, .int (nI 0), .ref B.te, .int (nI (V.ty)), .int (nI (V.ac)), .int (nI (V.al)), .int (nI (V.sd)), .ref B.he, .ref B.cn, .ref B.kd, .ref B.sz, .ref B.ky, .ref B.le, .ref B.dg, .ref B.nm, .ref B.ns, .ref B.sl, .ref B.sb, .int (nI (V.ss)), .ref B.su, .ref B.wi, .ref B.tu]))) (hp_ne f_le f_md (by simp)) f_le
  have f_dg := hp_k (e := (.inr (6, [.ref B.ro, .int (nI 0), .ref B.te, .int (nI (V.ty)), .int (nI (V.ac)), .int (nI (V.al)), .int (nI (V.sd)), .ref B.he, .ref B.cn, .ref B.kd, .ref B.sz, .ref B.ky, .ref B.le, .ref B.dg, .ref B.nm, .ref B.ns, .ref B.sl, .ref B.sb, .int (nI (V.ss)), .ref B.su, .ref B.wi, .ref B.tu]))) (hp_ne f_dg f_md (by simp)) f_dg
  have f_nm := hp_k (e := (.inr (6, [.ref B.ro, .int (nI 0), .ref B.te, .int (nI (V.ty)), .int (nI (V.ac)), .int (nI (V.al)), .int (nI (V.sd)), .ref B.he, .ref B.cn, .ref B.kd, .ref B.sz, .ref B.ky, .ref B.le, .ref B.dg, .ref B.nm, .ref B.ns, .ref B.sl, .ref B.sb, .int (nI (V.ss)), .ref B.su, .ref B.wi, .ref B.tu]))) (hp_ne f_nm f_md (by simp)) f_nm
  have f_ns := hp_k (e := (.inr (6, [.ref B.ro, .int (nI 0), .ref B.te, .int (nI (V.ty)), .int (nI (V.ac)), .int (nI (V.al)), .int (nI (V.sd)), .ref B.he, .ref B.cn, .ref B.kd, .ref B.sz, .ref B.ky, .ref B.le, .ref B.dg, .ref B.nm, .ref B.ns, .ref B.sl, .ref B.sb, .int (nI (V.ss)), .ref B.su, .ref B.wi, .ref B.tu]))) (hp_ne f_ns f_md (by simp)) f_ns
  have f_sl := hp_k (e := (.inr (6, [.ref B.ro, .int (nI 0), .ref B.te, .int (nI (V.ty)), .int (nI (V.ac)), .int (nI (V.al)), .int (nI (V.sd)), .ref B.he, .ref B.cn, .ref B.kd, .ref B.sz, .ref B.ky, .ref B.le, .ref B.dg, .ref B.nm, .ref B.ns, .ref B.sl, .ref B.sb, .int (nI (V.ss)), .ref B.su, .ref B.wi, .ref B.tu]))) (hp_ne f_sl f_md (by simp)) f_sl
  have f_sb := hp_k (e := (.inr (6, [.ref B.ro, .int (nI 0), .ref B.te, .int (nI (V.ty)), .int (nI (V.ac)), .int (nI (V.al)), .int (nI (V.sd)), .ref B.he, .ref B.cn, .ref B.kd, .ref B.sz, .ref B.ky, .ref B.le, .ref B.dg, .ref B.nm, .ref B.ns, .ref B.sl, .ref B.sb, .int (nI (V.ss)), .ref B.su, .ref B.wi, .ref B.tu]))) (hp_ne f_sb f_md (by simp)) f_sb
  have f_su := hp_k (e := (.inr (6, [.ref B.ro, .int (nI 0), .ref B.te, .int (nI (V.ty)), .int (nI (V.ac)), .int (nI (V.al)), .int (nI (V.sd)), .ref B.he, .ref B.cn, .ref B.kd, .ref B.sz, .ref B.ky, .ref B.le, .ref B.dg, .ref B.nm, .ref B.ns, .ref B.sl, .ref B.sb, .int (nI (V.ss)), .ref B.su, .ref B.wi, .ref B.tu]))) (hp_ne f_su f_md (by simp)) f_su
  have f_wi := hp_k (e := (.inr (6, [.ref B.ro, .int (nI 0), .ref B.te, .int (nI (V.ty)), .int (nI (V.ac)), .int (nI (V.al)), .int (nI (V.sd)), .ref B.he, .ref B.cn, .ref B.kd, .ref B.sz, .ref B.ky, .ref B.le, .ref B.dg, .ref B.nm, .ref B.ns, .ref B.sl, .ref B.sb, .int (nI (V.ss)), .ref B.su, .ref B.wi, .ref B.tu]))) (hp_ne f_wi f_md (by simp)) f_wi
  have f_tu := hp_k (e := (.inr (6, [.ref B.ro, .int (nI 0), .ref B.te, .int (nI (V.ty)), .int (nI (V.ac)), .int (nI (V.al)), .int (nI (V.sd)), .ref B.he, .ref B.cn, .ref B.kd, .ref B.sz, .ref B.ky, .ref B.le, .ref B.dg, .ref B.nm, .ref B.ns, .ref B.sl, .ref B.sb, .int (nI (V.ss)), .ref B.su, .ref B.wi, .ref B.tu]))) (hp_ne f_tu f_md (by simp)) f_tu
  have f_md : hp_up M md (.inr (6, [.ref B.ro, .int (nI 0), .ref B.te, .int (nI (V.ty)), .int (nI (V.ac)), .int (nI (V.al)), .int (nI (V.sd)), .ref B.he, .ref B.cn, .ref B.kd, .ref B.sz, .ref B.ky, .ref B.le, .ref B.dg, .ref B.nm, .ref B.ns, .ref B.sl, .ref B.sb, .int (nI (V.ss)), .ref B.su, .ref B.wi, .ref B.tu])) md = some (.inr (6, [.ref B.ro, .int (nI 0), .ref B.te, .int (nI (V.ty)), .int (nI (V.ac)), .int (nI (V.al)), .int (nI (V.sd)), .ref B.he, .ref B.cn, .ref B.kd, .ref B.sz, .ref B.ky, .ref B.le, .ref B.dg, .ref B.nm, .ref B.ns, .ref B.sl, .ref B.sb, .int (nI (V.ss)), .ref B.su, .ref B.wi, .ref B.tu])) := hp_us
  obtain ⟨M1, eM1⟩ : ∃ z, z = hp_up M md (.inr (6, [.ref B.ro, .int (nI 0), .ref B.te, .int (nI (V.ty)), .int (nI (V.ac)), .int (nI (V.al)), .int (nI (V.sd)), .ref B.he, .ref B.cn, .ref B.kd, .ref B.sz, .ref B.ky, .ref B.le, .ref B.dg, .ref B.nm, .ref B.ns, .ref B.sl, .ref B.sb, .int (nI (V.ss)), .ref B.su, .ref B.wi, .ref B.tu])) := ⟨_, rfl⟩
  rw [← eM1] at hM f_md f_ro f_te f_he f_cn f_kd f_sz f_ky f_le f_dg f_nm f_ns f_sl f_sb f_su f_wi f_tu
  refine lv_iload_n hx hb d_MD_type_5 rfl (lv_at hl 1 rfl) ?_
  refine lv_bipush (v := nI 32) hx hb d_MD_type_6 rfl ?_
  refine nb_lt (tgt := 26) hx hb d_MD_type_8 (by decide) (by omega) (by omega) (fun h2 => ?_) (fun h2 => ?_)
  · refine lv_iconst (v := nI 0) hx hb d_MD_type_26 rfl ?_
    exact hp_iret S hret hlk (rfl) hM hS (Or.inr ⟨by omega, rfl, ⟨f_md, f_ro, f_te, f_he, f_cn, f_kd, f_sz, f_ky, f_le, f_dg, f_nm, f_ns, f_sl, f_sb, f_su, f_wi, f_tu, hB, b_te, b_cn, b_kd, b_sz, b_ky, b_le, b_nm, b_ns, b_sl, b_sb, Nat.zero_le _, b_ty, b_ac, b_al, b_sd, b_ss⟩⟩) d_MD_type_27
  · refine lv_iload_n hx hb d_MD_type_11 rfl (lv_at hl 1 rfl) ?_
    refine lv_bipush (v := nI 126) hx hb d_MD_type_12 rfl ?_
    refine nb_gt (tgt := 26) hx hb d_MD_type_14 (by decide) (by omega) (by omega) (fun h3 => ?_) (fun h3 => ?_)
    · refine lv_iconst (v := nI 0) hx hb d_MD_type_26 rfl ?_
      exact hp_iret S hret hlk (rfl) hM hS (Or.inr ⟨by omega, rfl, ⟨f_md, f_ro, f_te, f_he, f_cn, f_kd, f_sz, f_ky, f_le, f_dg, f_nm, f_ns, f_sl, f_sb, f_su, f_wi, f_tu, hB, b_te, b_cn, b_kd, b_sz, b_ky, b_le, b_nm, b_ns, b_sl, b_sb, Nat.zero_le _, b_ty, b_ac, b_al, b_sd, b_ss⟩⟩) d_MD_type_27
    · refine lv_aload_n hx hb d_MD_type_17 rfl (lv_at hl 0 rfl) ?_
      refine hp_get S hK hM i_MD f_md rfl 3 (by decide) mf_MD_141 (fun _ h9 => h9) rfl d_MD_type_18 ?_
      refine lv_bipush (v := nI 64) hx hb d_MD_type_21 rfl ?_
      refine nb_ne (tgt := 28) hx hb d_MD_type_23 (by decide) (by omega) (by omega) (fun h4 => ?_) (fun h4 => ?_)
      · refine lv_aload_n hx hb d_MD_type_28 rfl (lv_at hl 0 rfl) ?_
        refine hp_get S hK hM i_MD f_md rfl 2 (by decide) mf_MD_85 (fun _ h9 => h9) rfl d_MD_type_29 ?_
        refine lv_aload_n hx hb d_MD_type_32 rfl (lv_at hl 0 rfl) ?_
        refine hp_get S hK hM i_MD f_md rfl 3 (by decide) mf_MD_141 (fun _ h9 => h9) rfl d_MD_type_33 ?_
        refine lv_iload_n hx hb d_MD_type_36 rfl (lv_at hl 1 rfl) ?_
        refine hp_iast S hK hM hS 1 f_te rfl (V.ty) rfl (by omega) (by omega) d_MD_type_37 (fun H locs hM hS => ?_)
        rw [nf_up] at hM
        have f_md := hp_k (e := (.inl (ct 1, 64, .inl (nf (va_up (V.te) (V.ty) k))))) (hp_ne f_md f_te (by simp)) f_md
        have f_ro := hp_k (e := (.inl (ct 1, 64, .inl (nf (va_up (V.te) (V.ty) k))))) (hp_ne f_ro f_te (by simp)) f_ro
        have f_he := hp_k (e := (.inl (ct 1, 64, .inl (nf (va_up (V.te) (V.ty) k))))) (hp_ne f_he f_te (by simp)) f_he
        have f_cn := hp_k (e := (.inl (ct 1, 64, .inl (nf (va_up (V.te) (V.ty) k))))) (hp_ne f_cn f_te (by simp)) f_cn
        have f_kd := hp_k (e := (.inl (ct 1, 64, .inl (nf (va_up (V.te) (V.ty) k))))) (hp_ne f_kd f_te (by simp)) f_kd
        have f_sz := hp_k (e := (.inl (ct 1, 64, .inl (nf (va_up (V.te) (V.ty) k))))) (hp_ne f_sz f_te (by simp)) f_sz
        have f_ky := hp_k (e := (.inl (ct 1, 64, .inl (nf (va_up (V.te) (V.ty) k))))) (hp_ne f_ky f_te (by simp)) f_ky
        have f_le := hp_k (e := (.inl (ct 1, 64, .inl (nf (va_up (V.te) (V.ty) k))))) (hp_ne f_le f_te (by simp)) f_le
        have f_dg := hp_k (e := (.inl (ct 1, 64, .inl (nf (va_up (V.te) (V.ty) k))))) (hp_ne f_dg f_te (by simp)) f_dg
        have f_nm := hp_k (e := (.inl (ct 1, 64, .inl (nf (va_up (V.te) (V.ty) k))))) (hp_ne f_nm f_te (by simp)) f_nm
        have f_ns := hp_k (e := (.inl (ct 1, 64, .inl (nf (va_up (V.te) (V.ty) k))))) (hp_ne f_ns f_te (by simp)) f_ns
        have f_sl := hp_k (e := (.inl (ct 1, 64, .inl (nf (va_up (V.te) (V.ty) k))))) (hp_ne f_sl f_te (by simp)) f_sl
        have f_sb := hp_k (e := (.inl (ct 1, 64, .inl (nf (va_up (V.te) (V.ty) k))))) (hp_ne f_sb f_te (by simp)) f_sb
        have f_su := hp_k (e := (.inl (ct 1, 64, .inl (nf (va_up (V.te) (V.ty) k))))) (hp_ne f_su f_te (by simp)) f_su
        have f_wi := hp_k (e := (.inl (ct 1, 64, .inl (nf (va_up (V.te) (V.ty) k))))) (Ne.symm n_tewi) f_wi
        have f_tu := hp_k (e := (.inl (ct 1, 64, .inl (nf (va_up (V.te) (V.ty) k))))) (hp_ne f_tu f_te (by simp)) f_tu
        have f_te : hp_up M1 B.te (.inl (ct 1, 64, .inl (nf (va_up (V.te) (V.ty) k)))) B.te = some (.inl (ct 1, 64, .inl (nf (va_up (V.te) (V.ty) k)))) := hp_us
        obtain ⟨M5, eM5⟩ : ∃ z, z = hp_up M1 B.te (.inl (ct 1, 64, .inl (nf (va_up (V.te) (V.ty) k)))) := ⟨_, rfl⟩
        rw [← eM5] at hM f_md f_ro f_te f_he f_cn f_kd f_sz f_ky f_le f_dg f_nm f_ns f_sl f_sb f_su f_wi f_tu
        refine lv_aload_n hx hb d_MD_type_38 rfl (lv_at hl 0 rfl) ?_
        refine lv_dup hx hb d_MD_type_39 rfl ?_
        refine hp_get S hK hM i_MD f_md rfl 3 (by decide) mf_MD_141 (fun _ h9 => h9) rfl d_MD_type_40 ?_
        refine lv_iconst (v := nI 1) hx hb d_MD_type_43 rfl ?_
        refine nb_iadd hx hb d_MD_type_44 ?_
        refine hp_put (ty := .int) (fs' := [.ref B.ro, .int (nI 0), .ref B.te, .int (nI ((V.ty) + 1)), .int (nI (V.ac)), .int (nI (V.al)), .int (nI (V.sd)), .ref B.he, .ref B.cn, .ref B.kd, .ref B.sz, .ref B.ky, .ref B.le, .ref B.dg, .ref B.nm, .ref B.ns, .ref B.sl, .ref B.sb, .int (nI (V.ss)), .ref B.su, .ref B.wi, .ref B.tu]) S hK hM hS i_MD t_MD to_MD n_MD f_md rfl 3 (by decide) mf_MD_141 (fun _ h9 => h9) rfl (by decide +kernel) rfl rfl (by simp) rfl d_MD_type_45 (fun H locs hM hS => ?_)
        have f_ro := hp_k (e := (.inr (6, [.ref B.ro, .int (nI 0), .ref B.te, .int (nI ((V.ty) + 1)), .int (nI (V.ac)), .int (nI (V.al)), .int (nI (V.sd)), .ref B.he, .ref B.cn, .ref B.kd, .ref B.sz, .ref B.ky, .ref B.le, .ref B.dg, .ref B.nm, .ref B.ns, .ref B.sl, .ref B.sb, .int (nI (V.ss)), .ref B.su, .ref B.wi, .ref B.tu]))) (hp_ne f_ro f_md (by simp)) f_ro
        have f_te := hp_k (e := (.inr (6, [.ref B.ro, .int (nI 0), .ref B.te, .int (nI ((V.ty) + 1)), .int (nI (V.ac)), .int (nI (V.al)), .int (nI (V.sd)), .ref B.he, .ref B.cn, .ref B.kd, .ref B.sz, .ref B.ky, .ref B.le, .ref B.dg, .ref B.nm, .ref B.ns, .ref B.sl, .ref B.sb, .int (nI (V.ss)), .ref B.su, .ref B.wi, .ref B.tu]))) (hp_ne f_te f_md (by simp)) f_te
        have f_he := hp_k (e := (.inr (6, [.ref B.ro, .int (nI 0), .ref B.te, .int (nI ((V.ty) + 1)), .int (nI (V.ac)), .int (nI (V.al)), .int (nI (V.sd)), .ref B.he, .ref B.cn, .ref B.kd, .ref B.sz, .ref B.ky, .ref B.le, .ref B.dg, .ref B.nm, .ref B.ns, .ref B.sl, .ref B.sb, .int (nI (V.ss)), .ref B.su, .ref B.wi, .ref B.tu]))) (hp_ne f_he f_md (by simp)) f_he
        have f_cn := hp_k (e := (.inr (6, [.ref B.ro, .int (nI 0), .ref B.te, .int (nI ((V.ty) + 1)), .int (nI (V.ac)), .int (nI (V.al)), .int (nI (V.sd)), .ref B.he, .ref B.cn, .ref B.kd, .ref B.sz, .ref B.ky, .ref B.le, .ref B.dg, .ref B.nm, .ref B.ns, .ref B.sl, .ref B.sb, .int (nI (V.ss)), .ref B.su, .ref B.wi, .ref B.tu]))) (hp_ne f_cn f_md (by simp)) f_cn
        have f_kd := hp_k (e := (.inr (6, [.ref B.ro, .int (nI 0), .ref B.te, .int (nI ((V.ty) + 1)), .int (nI (V.ac)), .int (nI (V.al)), .int (nI (V.sd)), .ref B.he, .ref B.cn, .ref B.kd, .ref B.sz, .ref B.ky, .ref B.le, .ref B.dg, .ref B.nm, .ref B.ns, .ref B.sl, .ref B.sb, .int (nI (V.ss)), .ref B.su, .ref B.wi, .ref B.tu]))) (hp_ne f_kd f_md (by simp)) f_kd
        have f_sz := hp_k (e := (.inr (6, [.ref B.ro, .int (nI 0), .ref B.te, .int (nI ((V.ty) + 1)), .int (nI (V.ac)), .int (nI (V.al)), .int (nI (V.sd)), .ref B.he, .ref B.cn, .ref B.kd, .ref B.sz, .ref B.ky, .ref B.le, .ref B.dg, .ref B.nm, .ref B.ns, .ref B.sl, .ref B.sb, .int (nI (V.ss)), .ref B.su, .ref B.wi, .ref B.tu]))) (hp_ne f_sz f_md (by simp)) f_sz
        have f_ky := hp_k (e := (.inr (6, [.ref B.ro, .int (nI 0), .ref B.te, .int (nI ((V.ty) + 1)), .int (nI (V.ac)), .int (nI (V.al)), .int (nI (V.sd)), .ref B.he, .ref B.cn, .ref B.kd, .ref B.sz, .ref B.ky, .ref B.le, .ref B.dg, .ref B.nm, .ref B.ns, .ref B.sl, .ref B.sb, .int (nI (V.ss)), .ref B.su, .ref B.wi, .ref B.tu]))) (hp_ne f_ky f_md (by simp)) f_ky
        have f_le := hp_k (e := (.inr (6, [.ref B.ro, .int (nI 0), .ref B.te, .int (nI ((V.ty) + 1)), .int (nI (V.ac)), .int (nI (V.al)), .int (nI (V.sd)), .ref B.he, .ref B.cn, .ref B.kd, .ref B.sz, .ref B.ky, .ref B.le, .ref B.dg, .ref B.nm, .ref B.ns, .ref B.sl, .ref B.sb, .int (nI (V.ss)), .ref B.su, .ref B.wi, .ref B.tu]))) (hp_ne f_le f_md (by simp)) f_le
        have f_dg := hp_k (e := (.inr (6, [.ref B.ro, .int (nI 0), .ref B.te, .int (nI ((V.ty) + 1)), .int (nI (V.ac)), .int (nI (V.al)), .int (nI (V.sd)), .ref B.he, .ref B.cn, .ref B.kd, .ref B.sz, .ref B.ky, .ref B.le, .ref B.dg, .ref B.nm, .ref B.ns, .ref B.sl, .ref B.sb, .int (nI (V.ss)), .ref B.su, .ref B.wi, .ref B.tu]))) (hp_ne f_dg f_md (by simp)) f_dg
        have f_nm := hp_k (e := (.inr (6, [.ref B.ro, .int (nI 0), .ref B.te, .int (nI ((V.ty) + 1)), .int (nI (V.ac)), .int (nI (V.al)), .int (nI (V.sd)), .ref B.he, .ref B.cn, .ref B.kd, .ref B.sz, .ref B.ky, .ref B.le, .ref B.dg, .ref B.nm, .ref B.ns, .ref B.sl, .ref B.sb, .int (nI (V.ss)), .ref B.su, .ref B.wi, .ref B.tu]))) (hp_ne f_nm f_md (by simp)) f_nm
        have f_ns := hp_k (e := (.inr (6, [.ref B.ro, .int (nI 0), .ref B.te, .int (nI ((V.ty) + 1)), .int (nI (V.ac)), .int (nI (V.al)), .int (nI (V.sd)), .ref B.he, .ref B.cn, .ref B.kd, .ref B.sz, .ref B.ky, .ref B.le, .ref B.dg, .ref B.nm, .ref B.ns, .ref B.sl, .ref B.sb, .int (nI (V.ss)), .ref B.su, .ref B.wi, .ref B.tu]))) (hp_ne f_ns f_md (by simp)) f_ns
        have f_sl := hp_k (e := (.inr (6, [.ref B.ro, .int (nI 0), .ref B.te, .int (nI ((V.ty) + 1)), .int (nI (V.ac)), .int (nI (V.al)), .int (nI (V.sd)), .ref B.he, .ref B.cn, .ref B.kd, .ref B.sz, .ref B.ky, .ref B.le, .ref B.dg, .ref B.nm, .ref B.ns, .ref B.sl, .ref B.sb, .int (nI (V.ss)), .ref B.su, .ref B.wi, .ref B.tu]))) (hp_ne f_sl f_md (by simp)) f_sl
        have f_sb := hp_k (e := (.inr (6, [.ref B.ro, .int (nI 0), .ref B.te, .int (nI ((V.ty) + 1)), .int (nI (V.ac)), .int (nI (V.al)), .int (nI (V.sd)), .ref B.he, .ref B.cn, .ref B.kd, .ref B.sz, .ref B.ky, .ref B.le, .ref B.dg, .ref B.nm, .ref B.ns, .ref B.sl, .ref B.sb, .int (nI (V.ss)), .ref B.su, .ref B.wi, .ref B.tu]))) (hp_ne f_sb f_md (by simp)) f_sb
        have f_su := hp_k (e := (.inr (6, [.ref B.ro, .int (nI 0), .ref B.te, .int (nI ((V.ty) + 1)), .int (nI (V.ac)), .int (nI (V.al)), .int (nI (V.sd)), .ref B.he, .ref B.cn, .ref B.kd, .ref B.sz, .ref B.ky, .ref B.le, .ref B.dg, .ref B.nm, .ref B.ns, .ref B.sl, .ref B.sb, .int (nI (V.ss)), .ref B.su, .ref B.wi, .ref B.tu]))) (hp_ne f_su f_md (by simp)) f_su
        have f_wi := hp_k (e := (.inr (6, [.ref B.ro, .int (nI 0), .ref B.te, .int (nI ((V.ty) + 1)), .int (nI (V.ac)), .int (nI (V.al)), .int (nI (V.sd)), .ref B.he, .ref B.cn, .ref B.kd, .ref B.sz, .ref B.ky, .ref B.le, .ref B.dg, .ref B.nm, .ref B.ns, .ref B.sl, .ref B.sb, .int (nI (V.ss)), .ref B.su, .ref B.wi, .ref B.tu]))) (hp_ne f_wi f_md (by simp)) f_wi
        have f_tu := hp_k (e := (.inr (6, [.ref B.ro, .int (nI 0), .ref B.te, .int (nI ((V.ty) + 1)), .int (nI (V.ac)), .int (nI (V.al)), .int (nI (V.sd)), .ref B.he, .ref B.cn, .ref B.kd, .ref B.sz, .ref B.ky, .ref B.le, .ref B.dg, .ref B.nm, .ref B.ns, .ref B.sl, .ref B.sb, .int (nI (V.ss)), .ref B.su, .ref B.wi, .ref B.tu]))) (hp_ne f_tu f_md (by simp)) f_tu
        have f_md : hp_up M5 md (.inr (6, [.ref B.ro, .int (nI 0), .ref B.te, .int (nI ((V.ty) + 1)), .int (nI (V.ac)), .int (nI (V.al)), .int (nI (V.sd)), .ref B.he, .ref B.cn, .ref B.kd, .ref B.sz, .ref B.ky, .ref B.le, .ref B.dg, .ref B.nm, .ref B.ns, .ref B.sl, .ref B.sb, .int (nI (V.ss)), .ref B.su, .ref B.wi, .ref B.tu])) md = some (.inr (6, [.ref B.ro, .int (nI 0), .ref B.te, .int (nI ((V.ty) + 1)), .int (nI (V.ac)), .int (nI (V.al)), .int (nI (V.sd)), .ref B.he, .ref B.cn, .ref B.kd, .ref B.sz, .ref B.ky, .ref B.le, .ref B.dg, .ref B.nm, .ref B.ns, .ref B.sl, .ref B.sb, .int (nI (V.ss)), .ref B.su, .ref B.wi, .ref B.tu])) := hp_us
        obtain ⟨M6, eM6⟩ : ∃ z, z = hp_up M5 md (.inr (6, [.ref B.ro, .int (nI 0), .ref B.te, .int (nI ((V.ty) + 1)), .int (nI (V.ac)), .int (nI (V.al)), .int (nI (V.sd)), .ref B.he, .ref B.cn, .ref B.kd, .ref B.sz, .ref B.ky, .ref B.le, .ref B.dg, .ref B.nm, .ref B.ns, .ref B.sl, .ref B.sb, .int (nI (V.ss)), .ref B.su, .ref B.wi, .ref B.tu])) := ⟨_, rfl⟩
        rw [← eM6] at hM f_md f_ro f_te f_he f_cn f_kd f_sz f_ky f_le f_dg f_nm f_ns f_sl f_sb f_su f_wi f_tu
        refine lv_iconst (v := nI 1) hx hb d_MD_type_48 rfl ?_
        exact hp_iret S hret hlk (rfl) hM hS (Or.inl ⟨by omega, rfl, ⟨f_md, f_ro, f_te, f_he, f_cn, f_kd, f_sz, f_ky, f_le, f_dg, f_nm, f_ns, f_sl, f_sb, f_su, f_wi, f_tu, hB, up_lt b_te hk, b_cn, b_kd, b_sz, b_ky, b_le, b_nm, b_ns, b_sl, b_sb, Nat.zero_le _, by show V.ty + 1 ≤ 64; omega, b_ac, b_al, b_sd, b_ss⟩⟩) d_MD_type_49
      · refine lv_iconst (v := nI 0) hx hb d_MD_type_26 rfl ?_
        exact hp_iret S hret hlk (rfl) hM hS (Or.inr ⟨by omega, rfl, ⟨f_md, f_ro, f_te, f_he, f_cn, f_kd, f_sz, f_ky, f_le, f_dg, f_nm, f_ns, f_sl, f_sb, f_su, f_wi, f_tu, hB, b_te, b_cn, b_kd, b_sz, b_ky, b_le, b_nm, b_ns, b_sl, b_sb, Nat.zero_le _, b_ty, b_ac, b_al, b_sd, b_ss⟩⟩) d_MD_type_27
set_option maxHeartbeats 4000000 in
set_option maxRecDepth 100000 in
theorem c_MD_action (l : Launch) (D : va_G) (ct : Nat → ClassId) (Z : hp_Z) (hZ : hp_Zok Z) (M : hp_M) (sz : Nat) (md : Nat) (B : MA) (V : MS) (hw : mdS ct M md B V) : Mi l y_MD_action b_MD_action 1 (some .int) 0 0 0 0 [.ref md] D ct Z M sz (fun r M1 => (V.ac = 12 ∧ mdS ct M1 md B (mkS (V.te) (V.cn) (V.kd) (V.sz) (V.ky) (V.le) (V.nm) (V.ns) (V.sl) (V.sb) (V.he) (V.dg) (V.su) (V.wi) (V.tu) 1 (V.ty) (V.ac) (V.al) (V.sd) (V.ss))) ∨ (V.ac < 12 ∧ r = nI V.ac ∧ mdS ct M1 md B (mkS (V.te) (V.cn) (V.kd) (V.sz) (V.ky) (V.le) (V.nm) (V.ns) (V.sl) (V.sb) (V.he) (V.dg) (V.su) (V.wi) (V.tu) 0 (V.ty) (V.ac + 1) (V.al) (V.sd) (V.ss)))) := by
  refine hp_start (by decide) (Nat.le_of_ble_eq_true rfl) (fun p e s m below meth c ls S hret hlk hnm hsz hK hM hS hA hz hl => ?_)
  have hx := S.1
  have hb := S.2.1
  have hl : lv_has ls 1 [(0, .ref md)] := hl
  obtain ⟨f_md, f_ro, f_te, f_he, f_cn, f_kd, f_sz, f_ky, f_le, f_dg, f_nm, f_ns, f_sl, f_sb, f_su, f_wi, f_tu, hB, hV⟩ := id hw
  obtain ⟨n_kdsz, n_kdky, n_szky, n_hens, n_hesu, n_hetu, n_nssu, n_nstu, n_sutu, n_tewi⟩ := id hB
  obtain ⟨b_te, b_cn, b_kd, b_sz, b_ky, b_le, b_nm, b_ns, b_sl, b_sb, b_co, b_ty, b_ac, b_al, b_sd, b_ss⟩ := id hV
  refine lv_aload_n hx hb d_MD_action_0 rfl (lv_at hl 0 rfl) ?_
  refine lv_aload_n hx hb d_MD_action_1 rfl (lv_at hl 0 rfl) ?_
  refine hp_get S hK hM i_MD f_md rfl 4 (by decide) mf_MD_144 (fun _ h9 => h9) rfl d_MD_action_2 ?_
  refine lv_bipush (v := nI 12) hx hb d_MD_action_5 rfl ?_
  refine nb_ne (tgt := 14) hx hb d_MD_action_7 (by decide) (by omega) (by omega) (fun h12 => ?_) (fun h12 => ?_)
  · refine lv_iconst (v := nI 0) hx hb d_MD_action_14 rfl ?_
    refine hp_put (ty := .int) (fs' := [.ref B.ro, .int (nI 0), .ref B.te, .int (nI (V.ty)), .int (nI (V.ac)), .int (nI (V.al)), .int (nI (V.sd)), .ref B.he, .ref B.cn, .ref B.kd, .ref B.sz, .ref B.ky, .ref B.le, .ref B.dg, .ref B.nm, .ref B.ns, .ref B.sl, .ref B.sb, .int (nI (V.ss)), .ref B.su, .ref B.wi, .ref B.tu]) S hK hM hS i_MD t_MD to_MD n_MD f_md rfl 1 (by decide) mf_MD_137 (fun _ h9 => h9) rfl (by decide +kernel) rfl rfl (by simp) rfl d_MD_action_15 (fun H locs hM hS => ?_)
    have f_ro := hp_k (e := (.inr (6, [.ref B.ro, .int (nI 0), .ref B.te, .int (nI (V.ty)), .int (nI (V.ac)), .int (nI (V.al)), .int (nI (V.sd)), .ref B.he, .ref B.cn, .ref B.kd, .ref B.sz, .ref B.ky, .ref B.le, .ref B.dg, .ref B.nm, .ref B.ns, .ref B.sl, .ref B.sb, .int (nI (V.ss)), .ref B.su, .ref B.wi, .ref B.tu]))) (hp_ne f_ro f_md (by simp)) f_ro
    have f_te := hp_k (e := (.inr (6, [.ref B.ro, .int (nI 0), .ref B.te, .int (nI (V.ty)), .int (nI (V.ac)), .int (nI (V.al)), .int (nI (V.sd)), .ref B.he, .ref B.cn, .ref B.kd, .ref B.sz, .ref B.ky, .ref B.le, .ref B.dg, .ref B.nm, .ref B.ns, .ref B.sl, .ref B.sb, .int (nI (V.ss)), .ref B.su, .ref B.wi, .ref B.tu]))) (hp_ne f_te f_md (by simp)) f_te
    have f_he := hp_k (e := (.inr (6, [.ref B.ro, .int (nI 0), .ref B.te, .int (nI (V.ty)), .int (nI (V.ac)), .int (nI (V.al)), .int (nI (V.sd)), .ref B.he, .ref B.cn, .ref B.kd, .ref B.sz, .ref B.ky, .ref B.le, .ref B.dg, .ref B.nm, .ref B.ns, .ref B.sl, .ref B.sb, .int (nI (V.ss)), .ref B.su, .ref B.wi, .ref B.tu]))) (hp_ne f_he f_md (by simp)) f_he
    have f_cn := hp_k (e := (.inr (6, [.ref B.ro, .int (nI 0), .ref B.te, .int (nI (V.ty)), .int (nI (V.ac)), .int (nI (V.al)), .int (nI (V.sd)), .ref B.he, .ref B.cn, .ref B.kd, .ref B.sz, .ref B.ky, .ref B.le, .ref B.dg, .ref B.nm, .ref B.ns, .ref B.sl, .ref B.sb, .int (nI (V.ss)), .ref B.su, .ref B.wi, .ref B.tu]))) (hp_ne f_cn f_md (by simp)) f_cn
    have f_kd := hp_k (e := (.inr (6, [.ref B.ro, .int (nI 0), .ref B.te, .int (nI (V.ty)), .int (nI (V.ac)), .int (nI (V.al)), .int (nI (V.sd)), .ref B.he, .ref B.cn, .ref B.kd, .ref B.sz, .ref B.ky, .ref B.le, .ref B.dg, .ref B.nm, .ref B.ns, .ref B.sl, .ref B.sb, .int (nI (V.ss)), .ref B.su, .ref B.wi, .ref B.tu]))) (hp_ne f_kd f_md (by simp)) f_kd
    have f_sz := hp_k (e := (.inr (6, [.ref B.ro, .int (nI 0), .ref B.te, .int (nI (V.ty)), .int (nI (V.ac)), .int (nI (V.al)), .int (nI (V.sd)), .ref B.he, .ref B.cn, .ref B.kd, .ref B.sz, .ref B.ky, .ref B.le, .ref B.dg, .ref B.nm, .ref B.ns, .ref B.sl, .ref B.sb, .int (nI (V.ss)), .ref B.su, .ref B.wi, .ref B.tu]))) (hp_ne f_sz f_md (by simp)) f_sz
    have f_ky := hp_k (e := (.inr (6, [.ref B.ro, .int (nI 0), .ref B.te, .int (nI (V.ty)), .int (nI (V.ac)), .int (nI (V.al)), .int (nI (V.sd)), .ref B.he, .ref B.cn, .ref B.kd, .ref B.sz, .ref B.ky, .ref B.le, .ref B.dg, .ref B.nm, .ref B.ns, .ref B.sl, .ref B.sb, .int (nI (V.ss)), .ref B.su, .ref B.wi, .ref B.tu]))) (hp_ne f_ky f_md (by simp)) f_ky
    have f_le := hp_k (e := (.inr (6, [.ref B.ro, .int (nI 0), .ref B.te, .int (nI (V.ty)), .int (nI (V.ac)), .int (nI (V.al)), .int (nI (V.sd)), .ref B.he, .ref B.cn, .ref B.kd, .ref B.sz, .ref B.ky, .ref B.le, .ref B.dg, .ref B.nm, .ref B.ns, .ref B.sl, .ref B.sb, .int (nI (V.ss)), .ref B.su, .ref B.wi, .ref B.tu]))) (hp_ne f_le f_md (by simp)) f_le
    have f_dg := hp_k (e := (.inr (6, [.ref B.ro, .int (nI 0), .ref B.te, .int (nI (V.ty)), .int (nI (V.ac)), .int (nI (V.al)), .int (nI (V.sd)), .ref B.he, .ref B.cn, .ref B.kd, .ref B.sz, .ref B.ky, .ref B.le, .ref B.dg, .ref B.nm, .ref B.ns, .ref B.sl, .ref B.sb, .int (nI (V.ss)), .ref B.su, .ref B.wi, .ref B.tu]))) (hp_ne f_dg f_md (by simp)) f_dg
    have f_nm := hp_k (e := (.inr (6, [.ref B.ro, .int (nI 0), .ref B.te, .int (nI (V.ty)), .int (nI (V.ac)), .int (nI (V.al)), .int (nI (V.sd)), .ref B.he, .ref B.cn, .ref B.kd, .ref B.sz, .ref B.ky, .ref B.le, .ref B.dg, .ref B.nm, .ref B.ns, .ref B.sl, .ref B.sb, .int (nI (V.ss)), .ref B.su, .ref B.wi, .ref B.tu]))) (hp_ne f_nm f_md (by simp)) f_nm
    have f_ns := hp_k (e := (.inr (6, [.ref B.ro, .int (nI 0), .ref B.te, .int (nI (V.ty)), .int (nI (V.ac)), .int (nI (V.al)), .int (nI (V.sd)), .ref B.he, .ref B.cn, .ref B.kd, .ref B.sz, .ref B.ky, .ref B.le, .ref B.dg, .ref B.nm, .ref B.ns, .ref B.sl, .ref B.sb, .int (nI (V.ss)), .ref B.su, .ref B.wi, .ref B.tu]))) (hp_ne f_ns f_md (by simp)) f_ns
    have f_sl := hp_k (e := (.inr (6, [.ref B.ro, .int (nI 0), .ref B.te, .int (nI (V.ty)), .int (nI (V.ac)), .int (nI (V.al)), .int (nI (V.sd)), .ref B.he, .ref B.cn, .ref B.kd, .ref B.sz, .ref B.ky, .ref B.le, .ref B.dg, .ref B.nm, .ref B.ns, .ref B.sl, .ref B.sb, .int (nI (V.ss)), .ref B.su, .ref B.wi, .ref B.tu]))) (hp_ne f_sl f_md (by simp)) f_sl
    have f_sb := hp_k (e := (.inr (6, [.ref B.ro, .int (nI 0), .ref B.te, .int (nI (V.ty)), .int (nI (V.ac)), .int (nI (V.al)), .int (nI (V.sd)), .ref B.he, .ref B.cn, .ref B.kd, .ref B.sz, .ref B.ky, .ref B.le, .ref B.dg, .ref B.nm, .ref B.ns, .ref B.sl, .ref B.sb, .int (nI (V.ss)), .ref B.su, .ref B.wi, .ref B.tu]))) (hp_ne f_sb f_md (by simp)) f_sb
    have f_su := hp_k (e := (.inr (6, [.ref B.ro, .int (nI 0), .ref B.te, .int (nI (V.ty)), .int (nI (V.ac)), .int (nI (V.al)), .int (nI (V.sd)), .ref B.he, .ref B.cn, .ref B.kd, .ref B.sz, .ref B.ky, .ref B.le, .ref B.dg, .ref B.nm, .ref B.ns, .ref B.sl, .ref B.sb, .int (nI (V.ss)), .ref B.su, .ref B.wi, .ref B.tu]))) (hp_ne f_su f_md (by simp)) f_su
    have f_wi := hp_k (e := (.inr (6, [.ref B.ro, .int (nI 0), .ref B.te, .int (nI (V.ty)), .int (nI (V.ac)), .int (nI (V.al)), .int (nI (V.sd)), .ref B.he, .ref B.cn, .ref B.kd, .ref B.sz, .ref B.ky, .ref B.le, .ref B.dg, .ref B.nm, .ref B.ns, .ref B.sl, .ref B.sb, .int (nI (V.ss)), .ref B.su, .ref B.wi, .ref B.tu]))) (hp_ne f_wi f_md (by simp)) f_wi
    have f_tu := hp_k (e := (.inr (6, [.ref B.ro, .int (nI 0), .ref B.te, .int (nI (V.ty)), .int (nI (V.ac)), .int (nI (V.al)), .int (nI (V.sd)), .ref B.he, .ref B.cn, .ref B.kd, .ref B.sz, .ref B.ky, .ref B.le, .ref B.dg, .ref B.nm, .ref B.ns, .ref B.sl, .ref B.sb, .int (nI (V.ss)), .ref B.su, .ref B.wi, .ref B.tu]))) (hp_ne f_tu f_md (by simp)) f_tu
    have f_md : hp_up M md (.inr (6, [.ref B.ro, .int (nI 0), .ref B.te, .int (nI (V.ty)), .int (nI (V.ac)), .int (nI (V.al)), .int (nI (V.sd)), .ref B.he, .ref B.cn, .ref B.kd, .ref B.sz, .ref B.ky, .ref B.le, .ref B.dg, .ref B.nm, .ref B.ns, .ref B.sl, .ref B.sb, .int (nI (V.ss)), .ref B.su, .ref B.wi, .ref B.tu])) md = some (.inr (6, [.ref B.ro, .int (nI 0), .ref B.te, .int (nI (V.ty)), .int (nI (V.ac)), .int (nI (V.al)), .int (nI (V.sd)), .ref B.he, .ref B.cn, .ref B.kd, .ref B.sz, .ref B.ky, .ref B.le, .ref B.dg, .ref B.nm, .ref B.ns, .ref B.sl, .ref B.sb, .int (nI (V.ss)), .ref B.su, .ref B.wi, .ref B.tu])) := hp_us
    obtain ⟨M1, eM1⟩ : ∃ z, z = hp_up M md (.inr (6, [.ref B.ro, .int (nI 0), .ref B.te, .int (nI (V.ty)), .int (nI (V.ac)), .int (nI (V.al)), .int (nI (V.sd)), .ref B.he, .ref B.cn, .ref B.kd, .ref B.sz, .ref B.ky, .ref B.le, .ref B.dg, .ref B.nm, .ref B.ns, .ref B.sl, .ref B.sb, .int (nI (V.ss)), .ref B.su, .ref B.wi, .ref B.tu])) := ⟨_, rfl⟩
    rw [← eM1] at hM f_md f_ro f_te f_he f_cn f_kd f_sz f_ky f_le f_dg f_nm f_ns f_sl f_sb f_su f_wi f_tu
    refine lv_aload_n hx hb d_MD_action_18 rfl (lv_at hl 0 rfl) ?_
    refine hp_get S hK hM i_MD f_md rfl 1 (by decide) mf_MD_137 (fun _ h9 => h9) rfl d_MD_action_19 ?_
    refine nz_le (tgt := 27) hx hb d_MD_action_22 (by decide) (by omega) (fun h2 => ?_) (fun h2 => ?_)
    · refine lv_aload_n hx hb d_MD_action_27 rfl (lv_at hl 0 rfl) ?_
      refine lv_dup hx hb d_MD_action_28 rfl ?_
      refine hp_get S hK hM i_MD f_md rfl 4 (by decide) mf_MD_144 (fun _ h9 => h9) rfl d_MD_action_29 ?_
      refine lv_iconst (v := nI 1) hx hb d_MD_action_32 rfl ?_
      refine nb_iadd hx hb d_MD_action_33 ?_
      refine hp_put (ty := .int) (fs' := [.ref B.ro, .int (nI 0), .ref B.te, .int (nI (V.ty)), .int (nI ((V.ac) + 1)), .int (nI (V.al)), .int (nI (V.sd)), .ref B.he, .ref B.cn, .ref B.kd, .ref B.sz, .ref B.ky, .ref B.le, .ref B.dg, .ref B.nm, .ref B.ns, .ref B.sl, .ref B.sb, .int (nI (V.ss)), .ref B.su, .ref B.wi, .ref B.tu]) S hK hM hS i_MD t_MD to_MD n_MD f_md rfl 4 (by decide) mf_MD_144 (fun _ h9 => h9) rfl (by decide +kernel) rfl rfl (by simp) rfl d_MD_action_34 (fun H locs hM hS => ?_)
      have f_ro := hp_k (e := (.inr (6, [.ref B.ro, .int (nI 0), .ref B.te, .int (nI (V.ty)), .int (nI ((V.ac) + 1)), .int (nI (V.al)), .int (nI (V.sd)), .ref B.he, .ref B.cn, .ref B.kd, .ref B.sz, .ref B.ky, .ref B.le, .ref B.dg, .ref B.nm, .ref B.ns, .ref B.sl, .ref B.sb, .int (nI (V.ss)), .ref B.su, .ref B.wi, .ref B.tu]))) (hp_ne f_ro f_md (by simp)) f_ro
      have f_te := hp_k (e := (.inr (6, [.ref B.ro, .int (nI 0), .ref B.te, .int (nI (V.ty)), .int (nI ((V.ac) + 1)), .int (nI (V.al)), .int (nI (V.sd)), .ref B.he, .ref B.cn, .ref B.kd, .ref B.sz, .ref B.ky, .ref B.le, .ref B.dg, .ref B.nm, .ref B.ns, .ref B.sl, .ref B.sb, .int (nI (V.ss)), .ref B.su, .ref B.wi, .ref B.tu]))) (hp_ne f_te f_md (by simp)) f_te
      have f_he := hp_k (e := (.inr (6, [.ref B.ro, .int (nI 0), .ref B.te, .int (nI (V.ty)), .int (nI ((V.ac) + 1)), .int (nI (V.al)), .int (nI (V.sd)), .ref B.he, .ref B.cn, .ref B.kd, .ref B.sz, .ref B.ky, .ref B.le, .ref B.dg, .ref B.nm, .ref B.ns, .ref B.sl, .ref B.sb, .int (nI (V.ss)), .ref B.su, .ref B.wi, .ref B.tu]))) (hp_ne f_he f_md (by simp)) f_he
      have f_cn := hp_k (e := (.inr (6, [.ref B.ro, .int (nI 0), .ref B.te, .int (nI (V.ty)), .int (nI ((V.ac) + 1)), .int (nI (V.al)), .int (nI (V.sd)), .ref B.he, .ref B.cn, .ref B.kd, .ref B.sz, .ref B.ky, .ref B.le, .ref B.dg, .ref B.nm, .ref B.ns, .ref B.sl, .ref B.sb, .int (nI (V.ss)), .ref B.su, .ref B.wi, .ref B.tu]))) (hp_ne f_cn f_md (by simp)) f_cn
      have f_kd := hp_k (e := (.inr (6, [.ref B.ro, .int (nI 0), .ref B.te, .int (nI (V.ty)), .int (nI ((V.ac) + 1)), .int (nI (V.al)), .int (nI (V.sd)), .ref B.he, .ref B.cn, .ref B.kd, .ref B.sz, .ref B.ky, .ref B.le, .ref B.dg, .ref B.nm, .ref B.ns, .ref B.sl, .ref B.sb, .int (nI (V.ss)), .ref B.su, .ref B.wi, .ref B.tu]))) (hp_ne f_kd f_md (by simp)) f_kd
      have f_sz := hp_k (e := (.inr (6, [.ref B.ro, .int (nI 0), .ref B.te, .int (nI (V.ty)), .int (nI ((V.ac) + 1)), .int (nI (V.al)), .int (nI (V.sd)), .ref B.he, .ref B.cn, .ref B.kd, .ref B.sz, .ref B.ky, .ref B.le, .ref B.dg, .ref B.nm, .ref B.ns, .ref B.sl, .ref B.sb, .int (nI (V.ss)), .ref B.su, .ref B.wi, .ref B.tu]))) (hp_ne f_sz f_md (by simp)) f_sz
      have f_ky := hp_k (e := (.inr (6, [.ref B.ro, .int (nI 0), .ref B.te, .int (nI (V.ty)), .int (nI ((V.ac) + 1)), .int (nI (V.al)), .int (nI (V.sd)), .ref B.he, .ref B.cn, .ref B.kd, .ref B.sz, .ref B.ky, .ref B.le, .ref B.dg, .ref B.nm, .ref B.ns, .ref B.sl, .ref B.sb, .int (nI (V.ss)), .ref B.su, .ref B.wi, .ref B.tu]))) (hp_ne f_ky f_md (by simp)) f_ky
      have f_le := hp_k (e := (.inr (6, [.ref B.ro, .int (nI 0), .ref B.te, .int (nI (V.ty)), .int (nI ((V.ac) + 1)), .int (nI (V.al)), .int (nI (V.sd)), .ref B.he, .ref B.cn, .ref B.kd, .ref B.sz, .ref B.ky, .ref B.le, .ref B.dg, .ref B.nm, .ref B.ns, .ref B.sl, .ref B.sb, .int (nI (V.ss)), .ref B.su, .ref B.wi, .ref B.tu]))) (hp_ne f_le f_md (by simp)) f_le
      have f_dg := hp_k (e := (.inr (6, [.ref B.ro, .int (nI 0), .ref B.te, .int (nI (V.ty)), .int (nI ((V.ac) + 1)), .int (nI (V.al)), .int (nI (V.sd)), .ref B.he, .ref B.cn, .ref B.kd, .ref B.sz, .ref B.ky, .ref B.le, .ref B.dg, .ref B.nm, .ref B.ns, .ref B.sl, .ref B.sb, .int (nI (V.ss)), .ref B.su, .ref B.wi, .ref B.tu]))) (hp_ne f_dg f_md (by simp)) f_dg
      have f_nm := hp_k (e := (.inr (6, [.ref B.ro, .int (nI 0), .ref B.te, .int (nI (V.ty)), .int (nI ((V.ac) + 1)), .int (nI (V.al)), .int (nI (V.sd)), .ref B.he, .ref B.cn, .ref B.kd, .ref B.sz, .ref B.ky, .ref B.le, .ref B.dg, .ref B.nm, .ref B.ns, .ref B.sl, .ref B.sb, .int (nI (V.ss)), .ref B.su, .ref B.wi, .ref B.tu]))) (hp_ne f_nm f_md (by simp)) f_nm
      have f_ns := hp_k (e := (.inr (6, [.ref B.ro, .int (nI 0), .ref B.te, .int (nI (V.ty)), .int (nI ((V.ac) + 1)), .int (nI (V.al)), .int (nI (V.sd)), .ref B.he, .ref B.cn, .ref B.kd, .ref B.sz, .ref B.ky, .ref B.le, .ref B.dg, .ref B.nm, .ref B.ns, .ref B.sl, .ref B.sb, .int (nI (V.ss)), .ref B.su, .ref B.wi, .ref B.tu]))) (hp_ne f_ns f_md (by simp)) f_ns
      have f_sl := hp_k (e := (.inr (6, [.ref B.ro, .int (nI 0), .ref B.te, .int (nI (V.ty)), .int (nI ((V.ac) + 1)), .int (nI (V.al)), .int (nI (V.sd)), .ref B.he, .ref B.cn, .ref B.kd, .ref B.sz, .ref B.ky, .ref B.le, .ref B.dg, .ref B.nm, .ref B.ns, .ref B.sl, .ref B.sb, .int (nI (V.ss)), .ref B.su, .ref B.wi, .ref B.tu]))) (hp_ne f_sl f_md (by simp)) f_sl
      have f_sb := hp_k (e := (.inr (6, [.ref B.ro, .int (nI 0), .ref B.te, .int (nI (V.ty)), .int (nI ((V.ac) + 1)), .int (nI (V.al)), .int (nI (V.sd)), .ref B.he, .ref B.cn, .ref B.kd, .ref B.sz, .ref B.ky, .ref B.le, .ref B.dg, .ref B.nm, .ref B.ns, .ref B.sl, .ref B.sb, .int (nI (V.ss)), .ref B.su, .ref B.wi, .ref B.tu]))) (hp_ne f_sb f_md (by simp)) f_sb
      have f_su := hp_k (e := (.inr (6, [.ref B.ro, .int (nI 0), .ref B.te, .int (nI (V.ty)), .int (nI ((V.ac) + 1)), .int (nI (V.al)), .int (nI (V.sd)), .ref B.he, .ref B.cn, .ref B.kd, .ref B.sz, .ref B.ky, .ref B.le, .ref B.dg, .ref B.nm, .ref B.ns, .ref B.sl, .ref B.sb, .int (nI (V.ss)), .ref B.su, .ref B.wi, .ref B.tu]))) (hp_ne f_su f_md (by simp)) f_su
      have f_wi := hp_k (e := (.inr (6, [.ref B.ro, .int (nI 0), .ref B.te, .int (nI (V.ty)), .int (nI ((V.ac) + 1)), .int (nI (V.al)), .int (nI (V.sd)), .ref B.he, .ref B.cn, .ref B.kd, .ref B.sz, .ref B.ky, .ref B.le, .ref B.dg, .ref B.nm, .ref B.ns, .ref B.sl, .ref B.sb, .int (nI (V.ss)), .ref B.su, .ref B.wi, .ref B.tu]))) (hp_ne f_wi f_md (by simp)) f_wi
      have f_tu := hp_k (e := (.inr (6, [.ref B.ro, .int (nI 0), .ref B.te, .int (nI (V.ty)), .int (nI ((V.ac) + 1)), .int (nI (V.al)), .int (nI (V.sd)), .ref B.he, .ref B.cn, .ref B.kd, .ref B.sz, .ref B.ky, .ref B.le, .ref B.dg, .ref B.nm, .ref B.ns, .ref B.sl, .ref B.sb, .int (nI (V.ss)), .ref B.su, .ref B.wi, .ref B.tu]))) (hp_ne f_tu f_md (by simp)) f_tu
      have f_md : hp_up M1 md (.inr (6, [.ref B.ro, .int (nI 0), .ref B.te, .int (nI (V.ty)), .int (nI ((V.ac) + 1)), .int (nI (V.al)), .int (nI (V.sd)), .ref B.he, .ref B.cn, .ref B.kd, .ref B.sz, .ref B.ky, .ref B.le, .ref B.dg, .ref B.nm, .ref B.ns, .ref B.sl, .ref B.sb, .int (nI (V.ss)), .ref B.su, .ref B.wi, .ref B.tu])) md = some (.inr (6, [.ref B.ro, .int (nI 0), .ref B.te, .int (nI (V.ty)), .int (nI ((V.ac) + 1)), .int (nI (V.al)), .int (nI (V.sd)), .ref B.he, .ref B.cn, .ref B.kd, .ref B.sz, .ref B.ky, .ref B.le, .ref B.dg, .ref B.nm, .ref B.ns, .ref B.sl, .ref B.sb, .int (nI (V.ss)), .ref B.su, .ref B.wi, .ref B.tu])) := hp_us
      obtain ⟨M3, eM3⟩ : ∃ z, z = hp_up M1 md (.inr (6, [.ref B.ro, .int (nI 0), .ref B.te, .int (nI (V.ty)), .int (nI ((V.ac) + 1)), .int (nI (V.al)), .int (nI (V.sd)), .ref B.he, .ref B.cn, .ref B.kd, .ref B.sz, .ref B.ky, .ref B.le, .ref B.dg, .ref B.nm, .ref B.ns, .ref B.sl, .ref B.sb, .int (nI (V.ss)), .ref B.su, .ref B.wi, .ref B.tu])) := ⟨_, rfl⟩
      rw [← eM3] at hM f_md f_ro f_te f_he f_cn f_kd f_sz f_ky f_le f_dg f_nm f_ns f_sl f_sb f_su f_wi f_tu
      refine lv_aload_n hx hb d_MD_action_37 rfl (lv_at hl 0 rfl) ?_
      refine hp_get S hK hM i_MD f_md rfl 4 (by decide) mf_MD_144 (fun _ h9 => h9) rfl d_MD_action_38 ?_
      refine lv_iconst (v := nI 1) hx hb d_MD_action_41 rfl ?_
      refine nb_isub hx hb d_MD_action_42 (by omega) ?_
      exact hp_iret S hret hlk (rfl) hM hS (Or.inr ⟨by omega, by rw [Nat.add_sub_cancel], ⟨f_md, f_ro, f_te, f_he, f_cn, f_kd, f_sz, f_ky, f_le, f_dg, f_nm, f_ns, f_sl, f_sb, f_su, f_wi, f_tu, hB, b_te, b_cn, b_kd, b_sz, b_ky, b_le, b_nm, b_ns, b_sl, b_sb, Nat.zero_le _, b_ty, by show V.ac + 1 ≤ 12; omega, b_al, b_sd, b_ss⟩⟩) d_MD_action_43
    · exact absurd h2 (by decide)
  · refine lv_iconst (v := nI 1) hx hb d_MD_action_10 rfl ?_
    refine lv_goto (tgt := 15) hx hb d_MD_action_11 (by decide) ?_
    refine hp_put (ty := .int) (fs' := [.ref B.ro, .int (nI 1), .ref B.te, .int (nI (V.ty)), .int (nI (V.ac)), .int (nI (V.al)), .int (nI (V.sd)), .ref B.he, .ref B.cn, .ref B.kd, .ref B.sz, .ref B.ky, .ref B.le, .ref B.dg, .ref B.nm, .ref B.ns, .ref B.sl, .ref B.sb, .int (nI (V.ss)), .ref B.su, .ref B.wi, .ref B.tu]) S hK hM hS i_MD t_MD to_MD n_MD f_md rfl 1 (by decide) mf_MD_137 (fun _ h9 => h9) rfl (by decide +kernel) rfl rfl (by simp) rfl d_MD_action_15 (fun H locs hM hS => ?_)
    have f_ro := hp_k (e := (.inr (6, [.ref B.ro, .int (nI 1), .ref B.te, .int (nI (V.ty)), .int (nI (V.ac)), .int (nI (V.al)), .int (nI (V.sd)), .ref B.he, .ref B.cn, .ref B.kd, .ref B.sz, .ref B.ky, .ref B.le, .ref B.dg, .ref B.nm, .ref B.ns, .ref B.sl, .ref B.sb, .int (nI (V.ss)), .ref B.su, .ref B.wi, .ref B.tu]))) (hp_ne f_ro f_md (by simp)) f_ro
    have f_te := hp_k (e := (.inr (6, [.ref B.ro, .int (nI 1), .ref B.te, .int (nI (V.ty)), .int (nI (V.ac)), .int (nI (V.al)), .int (nI (V.sd)), .ref B.he, .ref B.cn, .ref B.kd, .ref B.sz, .ref B.ky, .ref B.le, .ref B.dg, .ref B.nm, .ref B.ns, .ref B.sl, .ref B.sb, .int (nI (V.ss)), .ref B.su, .ref B.wi, .ref B.tu]))) (hp_ne f_te f_md (by simp)) f_te
    have f_he := hp_k (e := (.inr (6, [.ref B.ro, .int (nI 1), .ref B.te, .int (nI (V.ty)), .int (nI (V.ac)), .int (nI (V.al)), .int (nI (V.sd)), .ref B.he, .ref B.cn, .ref B.kd, .ref B.sz, .ref B.ky, .ref B.le, .ref B.dg, .ref B.nm, .ref B.ns, .ref B.sl, .ref B.sb, .int (nI (V.ss)), .ref B.su, .ref B.wi, .ref B.tu]))) (hp_ne f_he f_md (by simp)) f_he
    have f_cn := hp_k (e := (.inr (6, [.ref B.ro, .int (nI 1), .ref B.te, .int (nI (V.ty)), .int (nI (V.ac)), .int (nI (V.al)), .int (nI (V.sd)), .ref B.he, .ref B.cn, .ref B.kd, .ref B.sz, .ref B.ky, .ref B.le, .ref B.dg, .ref B.nm, .ref B.ns, .ref B.sl, .ref B.sb, .int (nI (V.ss)), .ref B.su, .ref B.wi, .ref B.tu]))) (hp_ne f_cn f_md (by simp)) f_cn
    have f_kd := hp_k (e := (.inr (6, [.ref B.ro, .int (nI 1), .ref B.te, .int (nI (V.ty)), .int (nI (V.ac)), .int (nI (V.al)), .int (nI (V.sd)), .ref B.he, .ref B.cn, .ref B.kd, .ref B.sz, .ref B.ky, .ref B.le, .ref B.dg, .ref B.nm, .ref B.ns, .ref B.sl, .ref B.sb, .int (nI (V.ss)), .ref B.su, .ref B.wi, .ref B.tu]))) (hp_ne f_kd f_md (by simp)) f_kd
    have f_sz := hp_k (e := (.inr (6, [.ref B.ro, .int (nI 1), .ref B.te, .int (nI (V.ty)), .int (nI (V.ac)), .int (nI (V.al)), .int (nI (V.sd)), .ref B.he, .ref B.cn, .ref B.kd, .ref B.sz, .ref B.ky, .ref B.le, .ref B.dg, .ref B.nm, .ref B.ns, .ref B.sl, .ref B.sb, .int (nI (V.ss)), .ref B.su, .ref B.wi, .ref B.tu]))) (hp_ne f_sz f_md (by simp)) f_sz
    have f_ky := hp_k (e := (.inr (6, [.ref B.ro, .int (nI 1), .ref B.te, .int (nI (V.ty)), .int (nI (V.ac)), .int (nI (V.al)), .int (nI (V.sd)), .ref B.he, .ref B.cn, .ref B.kd, .ref B.sz, .ref B.ky, .ref B.le, .ref B.dg, .ref B.nm, .ref B.ns, .ref B.sl, .ref B.sb, .int (nI (V.ss)), .ref B.su, .ref B.wi, .ref B.tu]))) (hp_ne f_ky f_md (by simp)) f_ky
    have f_le := hp_k (e := (.inr (6, [.ref B.ro, .int (nI 1), .ref B.te, .int (nI (V.ty)), .int (nI (V.ac)), .int (nI (V.al)), .int (nI (V.sd)), .ref B.he, .ref B.cn, .ref B.kd, .ref B.sz, .ref B.ky, .ref B.le, .ref B.dg, .ref B.nm, .ref B.ns, .ref B.sl, .ref B.sb, .int (nI (V.ss)), .ref B.su, .ref B.wi, .ref B.tu]))) (hp_ne f_le f_md (by simp)) f_le
    have f_dg := hp_k (e := (.inr (6, [.ref B.ro, .int (nI 1), .ref B.te, .int (nI (V.ty)), .int (nI (V.ac)), .int (nI (V.al)), .int (nI (V.sd)), .ref B.he, .ref B.cn, .ref B.kd, .ref B.sz, .ref B.ky, .ref B.le, .ref B.dg, .ref B.nm, .ref B.ns, .ref B.sl, .ref B.sb, .int (nI (V.ss)), .ref B.su, .ref B.wi, .ref B.tu]))) (hp_ne f_dg f_md (by simp)) f_dg
    have f_nm := hp_k (e := (.inr (6, [.ref B.ro, .int (nI 1), .ref B.te, .int (nI (V.ty)), .int (nI (V.ac)), .int (nI (V.al)), .int (nI (V.sd)), .ref B.he, .ref B.cn, .ref B.kd, .ref B.sz, .ref B.ky, .ref B.le, .ref B.dg, .ref B.nm, .ref B.ns, .ref B.sl, .ref B.sb, .int (nI (V.ss)), .ref B.su, .ref B.wi, .ref B.tu]))) (hp_ne f_nm f_md (by simp)) f_nm
    have f_ns := hp_k (e := (.inr (6, [.ref B.ro, .int (nI 1), .ref B.te, .int (nI (V.ty)), .int (nI (V.ac)), .int (nI (V.al)), .int (nI (V.sd)), .ref B.he, .ref B.cn, .ref B.kd, .ref B.sz, .ref B.ky, .ref B.le, .ref B.dg, .ref B.nm, .ref B.ns, .ref B.sl, .ref B.sb, .int (nI (V.ss)), .ref B.su, .ref B.wi, .ref B.tu]))) (hp_ne f_ns f_md (by simp)) f_ns
    have f_sl := hp_k (e := (.inr (6, [.ref B.ro, .int (nI 1), .ref B.te, .int (nI (V.ty)), .int (nI (V.ac)), .int (nI (V.al)), .int (nI (V.sd)), .ref B.he, .ref B.cn, .ref B.kd, .ref B.sz, .ref B.ky, .ref B.le, .ref B.dg, .ref B.nm, .ref B.ns, .ref B.sl, .ref B.sb, .int (nI (V.ss)), .ref B.su, .ref B.wi, .ref B.tu]))) (hp_ne f_sl f_md (by simp)) f_sl
    have f_sb := hp_k (e := (.inr (6, [.ref B.ro, .int (nI 1), .ref B.te, .int (nI (V.ty)), .int (nI (V.ac)), .int (nI (V.al)), .int (nI (V.sd)), .ref B.he, .ref B.cn, .ref B.kd, .ref B.sz, .ref B.ky, .ref B.le, .ref B.dg, .ref B.nm, .ref B.ns, .ref B.sl, .ref B.sb, .int (nI (V.ss)), .ref B.su, .ref B.wi, .ref B.tu]))) (hp_ne f_sb f_md (by simp)) f_sb
    have f_su := hp_k (e := (.inr (6, [.ref B.ro, .int (nI 1), .ref B.te, .int (nI (V.ty)), .int (nI (V.ac)), .int (nI (V.al)), .int (nI (V.sd)), .ref B.he, .ref B.cn, .ref B.kd, .ref B.sz, .ref B.ky, .ref B.le, .ref B.dg, .ref B.nm, .ref B.ns, .ref B.sl, .ref B.sb, .int (nI (V.ss)), .ref B.su, .ref B.wi, .ref B.tu]))) (hp_ne f_su f_md (by simp)) f_su
    have f_wi := hp_k (e := (.inr (6, [.ref B.ro, .int (nI 1), .ref B.te, .int (nI (V.ty)), .int (nI (V.ac)), .int (nI (V.al)), .int (nI (V.sd)), .ref B.he, .ref B.cn, .ref B.kd, .ref B.sz, .ref B.ky, .ref B.le, .ref B.dg, .ref B.nm, .ref B.ns, .ref B.sl, .ref B.sb, .int (nI (V.ss)), .ref B.su, .ref B.wi, .ref B.tu]))) (hp_ne f_wi f_md (by simp)) f_wi
    have f_tu := hp_k (e := (.inr (6, [.ref B.ro, .int (nI 1), .ref B.te, .int (nI (V.ty)), .int (nI (V.ac)), .int (nI (V.al)), .int (nI (V.sd)), .ref B.he, .ref B.cn, .ref B.kd, .ref B.sz, .ref B.ky, .ref B.le, .ref B.dg, .ref B.nm, .ref B.ns, .ref B.sl, .ref B.sb, .int (nI (V.ss)), .ref B.su, .ref B.wi, .ref B.tu]))) (hp_ne f_tu f_md (by simp)) f_tu
    have f_md : hp_up M md (.inr (6, [.ref B.ro, .int (nI 1), .ref B.te, .int (nI (V.ty)), .int (nI (V.ac)), .int (nI (V.al)), .int (nI (V.sd)), .ref B.he, .ref B.cn, .ref B.kd, .ref B.sz, .ref B.ky, .ref B.le, .ref B.dg, .ref B.nm, .ref B.ns, .ref B.sl, .ref B.sb, .int (nI (V.ss)), .ref B.su, .ref B.wi, .ref B.tu])) md = some (.inr (6, [.ref B.ro, .int (nI 1), .ref B.te, .int (nI (V.ty)), .int (nI (V.ac)), .int (nI (V.al)), .int (nI (V.sd)), .ref B.he, .ref B.cn, .ref B.kd, .ref B.sz, .ref B.ky, .ref B.le, .ref B.dg, .ref B.nm, .ref B.ns, .ref B.sl, .ref B.sb, .int (nI (V.ss)), .ref B.su, .ref B.wi, .ref B.tu])) := hp_us
    obtain ⟨M4, eM4⟩ : ∃ z, z = hp_up M md (.inr (6, [.ref B.ro, .int (nI 1), .ref B.te, .int (nI (V.ty)), .int (nI (V.ac)), .int (nI (V.al)), .int (nI (V.sd)), .ref B.he, .ref B.cn, .ref B.kd, .ref B.sz, .ref B.ky, .ref B.le, .ref B.dg, .ref B.nm, .ref B.ns, .ref B.sl, .ref B.sb, .int (nI (V.ss)), .ref B.su, .ref B.wi, .ref B.tu])) := ⟨_, rfl⟩
    rw [← eM4] at hM f_md f_ro f_te f_he f_cn f_kd f_sz f_ky f_le f_dg f_nm f_ns f_sl f_sb f_su f_wi f_tu
    refine lv_aload_n hx hb d_MD_action_18 rfl (lv_at hl 0 rfl) ?_
    refine hp_get S hK hM i_MD f_md rfl 1 (by decide) mf_MD_137 (fun _ h9 => h9) rfl d_MD_action_19 ?_
    refine nz_le (tgt := 27) hx hb d_MD_action_22 (by decide) (by omega) (fun h5 => ?_) (fun h5 => ?_)
    · exact absurd h5 (by decide)
    · refine lv_iconst (v := nI 0) hx hb d_MD_action_25 rfl ?_
      exact hp_iret S hret hlk (rfl) hM hS (Or.inl ⟨h12, ⟨f_md, f_ro, f_te, f_he, f_cn, f_kd, f_sz, f_ky, f_le, f_dg, f_nm, f_ns, f_sl, f_sb, f_su, f_wi, f_tu, hB, b_te, b_cn, b_kd, b_sz, b_ky, b_le, b_nm, b_ns, b_sl, b_sb, by show 1 ≤ 2; decide, b_ty, b_ac, b_al, b_sd, b_ss⟩⟩) d_MD_action_26
set_option maxHeartbeats 4000000 in
set_option maxRecDepth 100000 in
theorem c_MD_constant (l : Launch) (D : va_G) (ct : Nat → ClassId) (Z : hp_Z) (hZ : hp_Zok Z) (M : hp_M) (sz : Nat) (md : Nat) (B : MA) (V : MS) (hw : mdS ct M md B V) (k : Int32) : Mi l y_MD_constant b_MD_constant 2 (some .int) 0 0 0 0 [.ref md, .int k] D ct Z M sz (fun r M1 => onK 72 k r (fun j r => r = roF j) 0 ∧ mdS ct M1 md B (mkS (V.te) (V.cn) (V.kd) (V.sz) (V.ky) (V.le) (V.nm) (V.ns) (V.sl) (V.sb) (V.he) (V.dg) (V.su) (V.wi) (V.tu) 0 (V.ty) (V.ac) (V.al) (V.sd) (V.ss))) := by
  refine hp_start (by decide) (Nat.le_of_ble_eq_true rfl) (fun p e s m below meth c ls S hret hlk hnm hsz hK hM hS hA hz hl => ?_)
  have hx := S.1
  have hb := S.2.1
  have hl : lv_has ls 2 [(0, .ref md), (1, .int k)] := hl
  obtain ⟨f_md, f_ro, f_te, f_he, f_cn, f_kd, f_sz, f_ky, f_le, f_dg, f_nm, f_ns, f_sl, f_sb, f_su, f_wi, f_tu, hB, hV⟩ := id hw
  obtain ⟨n_kdsz, n_kdky, n_szky, n_hens, n_hesu, n_hetu, n_nssu, n_nstu, n_sutu, n_tewi⟩ := id hB
  obtain ⟨b_te, b_cn, b_kd, b_sz, b_ky, b_le, b_nm, b_ns, b_sl, b_sb, b_co, b_ty, b_ac, b_al, b_sd, b_ss⟩ := id hV
  refine lv_aload_n hx hb d_MD_constant_0 rfl (lv_at hl 0 rfl) ?_
  refine lv_iconst (v := nI 0) hx hb d_MD_constant_1 rfl ?_
  refine hp_put (ty := .int) (fs' := [.ref B.ro, .int (nI 0), .ref B.te, .int (nI (V.ty)), .int (nI (V.ac)), .int (nI (V.al)), .int (nI (V.sd)), .ref B.he, .ref B.cn, .ref B.kd, .ref B.sz, .ref B.ky, .ref B.le, .ref B.dg, .ref B.nm, .ref B.ns, .ref B.sl, .ref B.sb, .int (nI (V.ss)), .ref B.su, .ref B.wi, .ref B.tu]) S hK hM hS i_MD t_MD to_MD n_MD f_md rfl 1 (by decide) mf_MD_137 (fun _ h9 => h9) rfl (by decide +kernel) rfl rfl (by simp) rfl d_MD_constant_2 (fun H locs hM hS => ?_)
  have f_ro := hp_k (e := (.inr (6, [.ref B.ro, .int (nI 0), .ref B.te, .int (nI (V.ty)), .int (nI (V.ac)), .int (nI (V.al)), .int (nI (V.sd)), .ref B.he, .ref B.cn, .ref B.kd, .ref B.sz, .ref B.ky, .ref B.le, .ref B.dg, .ref B.nm, .ref B.ns, .ref B.sl, .ref B.sb, .int (nI (V.ss)), .ref B.su, .ref B.wi, .ref B.tu]))) (hp_ne f_ro f_md (by simp)) f_ro
  have f_te := hp_k (e := (.inr (6, [.ref B.ro, .int (nI 0), .ref B.te, .int (nI (V.ty)), .int (nI (V.ac)), .int (nI (V.al)), .int (nI (V.sd)), .ref B.he, .ref B.cn, .ref B.kd, .ref B.sz, .ref B.ky, .ref B.le, .ref B.dg, .ref B.nm, .ref B.ns, .ref B.sl, .ref B.sb, .int (nI (V.ss)), .ref B.su, .ref B.wi, .ref B.tu]))) (hp_ne f_te f_md (by simp)) f_te
  have f_he := hp_k (e := (.inr (6, [.ref B.ro, .int (nI 0), .ref B.te, .int (nI (V.ty)), .int (nI (V.ac)), .int (nI (V.al)), .int (nI (V.sd)), .ref B.he, .ref B.cn, .ref B.kd, .ref B.sz, .ref B.ky, .ref B.le, .ref B.dg, .ref B.nm, .ref B.ns, .ref B.sl, .ref B.sb, .int (nI (V.ss)), .ref B.su, .ref B.wi, .ref B.tu]))) (hp_ne f_he f_md (by simp)) f_he
  have f_cn := hp_k (e := (.inr (6, [.ref B.ro, .int (nI 0), .ref B.te, .int (nI (V.ty)), .int (nI (V.ac)), .int (nI (V.al)), .int (nI (V.sd)), .ref B.he, .ref B.cn, .ref B.kd, .ref B.sz, .ref B.ky, .ref B.le, .ref B.dg, .ref B.nm, .ref B.ns, .ref B.sl, .ref B.sb, .int (nI (V.ss)), .ref B.su, .ref B.wi, .ref B.tu]))) (hp_ne f_cn f_md (by simp)) f_cn
  have f_kd := hp_k (e := (.inr (6, [.ref B.ro, .int (nI 0), .ref B.te, .int (nI (V.ty)), .int (nI (V.ac)), .int (nI (V.al)), .int (nI (V.sd)), .ref B.he, .ref B.cn, .ref B.kd, .ref B.sz, .ref B.ky, .ref B.le, .ref B.dg, .ref B.nm, .ref B.ns, .ref B.sl, .ref B.sb, .int (nI (V.ss)), .ref B.su, .ref B.wi, .ref B.tu]))) (hp_ne f_kd f_md (by simp)) f_kd
  have f_sz := hp_k (e := (.inr (6, [.ref B.ro, .int (nI 0), .ref B.te, .int (nI (V.ty)), .int (nI (V.ac)), .int (nI (V.al)), .int (nI (V.sd)), .ref B.he, .ref B.cn, .ref B.kd, .ref B.sz, .ref B.ky, .ref B.le, .ref B.dg, .ref B.nm, .ref B.ns, .ref B.sl, .ref B.sb, .int (nI (V.ss)), .ref B.su, .ref B.wi, .ref B.tu]))) (hp_ne f_sz f_md (by simp)) f_sz
  have f_ky := hp_k (e := (.inr (6, [.ref B.ro, .int (nI 0), .ref B.te, .int (nI (V.ty)), .int (nI (V.ac)), .int (nI (V.al)), .int (nI (V.sd)), .ref B.he, .ref B.cn, .ref B.kd, .ref B.sz, .ref B.ky, .ref B.le, .ref B.dg, .ref B.nm, .ref B.ns, .ref B.sl, .ref B.sb, .int (nI (V.ss)), .ref B.su, .ref B.wi, .ref B.tu]))) (hp_ne f_ky f_md (by simp)) f_ky
  have f_le := hp_k (e := (.inr (6, [.ref B.ro, .int (nI 0), .ref B.te, .int (nI (V.ty)), .int (nI (V.ac)), .int (nI (V.al)), .int (nI (V.sd)), .ref B.he, .ref B.cn, .ref B.kd, .ref B.sz, .ref B.ky, .ref B.le, .ref B.dg, .ref B.nm, .ref B.ns, .ref B.sl, .ref B.sb, .int (nI (V.ss)), .ref B.su, .ref B.wi, .ref B.tu]))) (hp_ne f_le f_md (by simp)) f_le
  have f_dg := hp_k (e := (.inr (6, [.ref B.ro, .int (nI 0), .ref B.te, .int (nI (V.ty)), .int (nI (V.ac)), .int (nI (V.al)), .int (nI (V.sd)), .ref B.he, .ref B.cn, .ref B.kd, .ref B.sz, .ref B.ky, .ref B.le, .ref B.dg, .ref B.nm, .ref B.ns, .ref B.sl, .ref B.sb, .int (nI (V.ss)), .ref B.su, .ref B.wi, .ref B.tu]))) (hp_ne f_dg f_md (by simp)) f_dg
  have f_nm := hp_k (e := (.inr (6, [.ref B.ro, .int (nI 0), .ref B.te, .int (nI (V.ty)), .int (nI (V.ac)), .int (nI (V.al)), .int (nI (V.sd)), .ref B.he, .ref B.cn, .ref B.kd, .ref B.sz, .ref B.ky, .ref B.le, .ref B.dg, .ref B.nm, .ref B.ns, .ref B.sl, .ref B.sb, .int (nI (V.ss)), .ref B.su, .ref B.wi, .ref B.tu]))) (hp_ne f_nm f_md (by simp)) f_nm
  have f_ns := hp_k (e := (.inr (6, [.ref B.ro, .int (nI 0), .ref B.te, .int (nI (V.ty)), .int (nI (V.ac)), .int (nI (V.al)), .int (nI (V.sd)), .ref B.he, .ref B.cn, .ref B.kd, .ref B.sz, .ref B.ky, .ref B.le, .ref B.dg, .ref B.nm, .ref B.ns, .ref B.sl, .ref B.sb, .int (nI (V.ss)), .ref B.su, .ref B.wi, .ref B.tu]))) (hp_ne f_ns f_md (by simp)) f_ns
  have f_sl := hp_k (e := (.inr (6, [.ref B.ro, .int (nI 0), .ref B.te, .int (nI (V.ty)), .int (nI (V.ac)), .int (nI (V.al)), .int (nI (V.sd)), .ref B.he, .ref B.cn, .ref B.kd, .ref B.sz, .ref B.ky, .ref B.le, .ref B.dg, .ref B.nm, .ref B.ns, .ref B.sl, .ref B.sb, .int (nI (V.ss)), .ref B.su, .ref B.wi, .ref B.tu]))) (hp_ne f_sl f_md (by simp)) f_sl
  have f_sb := hp_k (e := (.inr (6, [.ref B.ro, .int (nI 0), .ref B.te, .int (nI (V.ty)), .int (nI (V.ac)), .int (nI (V.al)), .int (nI (V.sd)), .ref B.he, .ref B.cn, .ref B.kd, .ref B.sz, .ref B.ky, .ref B.le, .ref B.dg, .ref B.nm, .ref B.ns, .ref B.sl, .ref B.sb, .int (nI (V.ss)), .ref B.su, .ref B.wi, .ref B.tu]))) (hp_ne f_sb f_md (by simp)) f_sb
  have f_su := hp_k (e := (.inr (6, [.ref B.ro, .int (nI 0), .ref B.te, .int (nI (V.ty)), .int (nI (V.ac)), .int (nI (V.al)), .int (nI (V.sd)), .ref B.he, .ref B.cn, .ref B.kd, .ref B.sz, .ref B.ky, .ref B.le, .ref B.dg, .ref B.nm, .ref B.ns, .ref B.sl, .ref B.sb, .int (nI (V.ss)), .ref B.su, .ref B.wi, .ref B.tu]))) (hp_ne f_su f_md (by simp)) f_su
  have f_wi := hp_k (e := (.inr (6, [.ref B.ro, .int (nI 0), .ref B.te, .int (nI (V.ty)), .int (nI (V.ac)), .int (nI (V.al)), .int (nI (V.sd)), .ref B.he, .ref B.cn, .ref B.kd, .ref B.sz, .ref B.ky, .ref B.le, .ref B.dg, .ref B.nm, .ref B.ns, .ref B.sl, .ref B.sb, .int (nI (V.ss)), .ref B.su, .ref B.wi, .ref B.tu]))) (hp_ne f_wi f_md (by simp)) f_wi
  have f_tu := hp_k (e := (.inr (6, [.ref B.ro, .int (nI 0), .ref B.te, .int (nI (V.ty)), .int (nI (V.ac)), .int (nI (V.al)), .int (nI (V.sd)), .ref B.he, .ref B.cn, .ref B.kd, .ref B.sz, .ref B.ky, .ref B.le, .ref B.dg, .ref B.nm, .ref B.ns, .ref B.sl, .ref B.sb, .int (nI (V.ss)), .ref B.su, .ref B.wi, .ref B.tu]))) (hp_ne f_tu f_md (by simp)) f_tu
  have f_md : hp_up M md (.inr (6, [.ref B.ro, .int (nI 0), .ref B.te, .int (nI (V.ty)), .int (nI (V.ac)), .int (nI (V.al)), .int (nI (V.sd)), .ref B.he, .ref B.cn, .ref B.kd, .ref B.sz, .ref B.ky, .ref B.le, .ref B.dg, .ref B.nm, .ref B.ns, .ref B.sl, .ref B.sb, .int (nI (V.ss)), .ref B.su, .ref B.wi, .ref B.tu])) md = some (.inr (6, [.ref B.ro, .int (nI 0), .ref B.te, .int (nI (V.ty)), .int (nI (V.ac)), .int (nI (V.al)), .int (nI (V.sd)), .ref B.he, .ref B.cn, .ref B.kd, .ref B.sz, .ref B.ky, .ref B.le, .ref B.dg, .ref B.nm, .ref B.ns, .ref B.sl, .ref B.sb, .int (nI (V.ss)), .ref B.su, .ref B.wi, .ref B.tu])) := hp_us
  obtain ⟨M1, eM1⟩ : ∃ z, z = hp_up M md (.inr (6, [.ref B.ro, .int (nI 0), .ref B.te, .int (nI (V.ty)), .int (nI (V.ac)), .int (nI (V.al)), .int (nI (V.sd)), .ref B.he, .ref B.cn, .ref B.kd, .ref B.sz, .ref B.ky, .ref B.le, .ref B.dg, .ref B.nm, .ref B.ns, .ref B.sl, .ref B.sb, .int (nI (V.ss)), .ref B.su, .ref B.wi, .ref B.tu])) := ⟨_, rfl⟩
  rw [← eM1] at hM f_md f_ro f_te f_he f_cn f_kd f_sz f_ky f_le f_dg f_nm f_ns f_sl f_sb f_su f_wi f_tu
  refine lv_iload_n hx hb d_MD_constant_5 rfl (lv_at hl 1 rfl) ?_
  refine lv_if_lt (tgt := 15) hx hb d_MD_constant_6 (by decide) (fun h0 => ?_) (fun h0 => ?_)
  · refine lv_iconst (v := nI 0) hx hb d_MD_constant_15 rfl ?_
    refine lv_goto (tgt := 25) hx hb d_MD_constant_16 (by decide) ?_
    exact hp_iret S hret hlk (rfl) hM hS (⟨Or.inr ⟨fun j hj e => by subst e; first | exact nI_pos (by omega) h0 | exact h1 ((nI_leI (by omega) (by decide)).mpr (by omega)), rfl⟩, ⟨f_md, f_ro, f_te, f_he, f_cn, f_kd, f_sz, f_ky, f_le, f_dg, f_nm, f_ns, f_sl, f_sb, f_su, f_wi, f_tu, hB, b_te, b_cn, b_kd, b_sz, b_ky, b_le, b_nm, b_ns, b_sl, b_sb, Nat.zero_le _, b_ty, b_ac, b_al, b_sd, b_ss⟩⟩) d_MD_constant_25
  · refine lv_iload_n hx hb d_MD_constant_9 rfl (lv_at hl 1 rfl) ?_
    refine lv_bipush (v := nI 71) hx hb d_MD_constant_10 rfl ?_
    refine lv_icmp_le (tgt := 19) hx hb d_MD_constant_12 (by decide) (fun h1 => ?_) (fun h1 => ?_)
    · refine lv_aload_n hx hb d_MD_constant_19 rfl (lv_at hl 0 rfl) ?_
      refine hp_get S hK hM i_MD f_md rfl 0 (by decide) mf_MD_79 (fun _ h9 => h9) rfl d_MD_constant_20 ?_
      refine lv_iload_n hx hb d_MD_constant_23 rfl (lv_at hl 1 rfl) ?_
      obtain ⟨j, hj, ej⟩ := nI_of h0
      subst ej
      have hj71 : j ≤ 71 := (nI_leI hj (by decide)).mp h1
      refine hp_iald S hK hM 1 f_ro rfl j rfl (by omega) (by omega) d_MD_constant_24 ?_
      exact hp_iret S hret hlk (rfl) hM hS (⟨Or.inl ⟨j, by omega, rfl, rfl⟩, ⟨f_md, f_ro, f_te, f_he, f_cn, f_kd, f_sz, f_ky, f_le, f_dg, f_nm, f_ns, f_sl, f_sb, f_su, f_wi, f_tu, hB, b_te, b_cn, b_kd, b_sz, b_ky, b_le, b_nm, b_ns, b_sl, b_sb, Nat.zero_le _, b_ty, b_ac, b_al, b_sd, b_ss⟩⟩) d_MD_constant_25
    · refine lv_iconst (v := nI 0) hx hb d_MD_constant_15 rfl ?_
      refine lv_goto (tgt := 25) hx hb d_MD_constant_16 (by decide) ?_
      exact hp_iret S hret hlk (rfl) hM hS (⟨Or.inr ⟨fun j hj e => by subst e; first | exact nI_pos (by omega) h0 | exact h1 ((nI_leI (by omega) (by decide)).mpr (by omega)), rfl⟩, ⟨f_md, f_ro, f_te, f_he, f_cn, f_kd, f_sz, f_ky, f_le, f_dg, f_nm, f_ns, f_sl, f_sb, f_su, f_wi, f_tu, hB, b_te, b_cn, b_kd, b_sz, b_ky, b_le, b_nm, b_ns, b_sl, b_sb, Nat.zero_le _, b_ty, b_ac, b_al, b_sd, b_ss⟩⟩) d_MD_constant_25
