/-! ACTIONS: what stays while other cells are written -/
/-- Keys, Rows and characters that nobody writes stay -/
def stab (ct : Nat → ClassId) (fz : Nat → Prop) (M M1 : hp_M) : Prop := (∀ (q k : Nat) (fs : List Value), k = 4 ∨ k = 5 → M q = some (.inr (k, fs)) → M1 q = some (.inr (k, fs))) ∧ ∀ (q n : Nat) (f : Nat → Int32), fz q → M q = some (.inl (ct 0, n, .inl f)) → M1 q = some (.inl (ct 0, n, .inl f))
theorem stab_rf {ct : Nat → ClassId} {fz : Nat → Prop} {M : hp_M} : stab ct fz M M := ⟨fun _ _ _ _ h => h, fun _ _ _ _ h => h⟩
theorem stab.tr {ct : Nat → ClassId} {fz : Nat → Prop} {M M1 M2 : hp_M} (h : stab ct fz M M1) (g : stab ct fz M1 M2) : stab ct fz M M2 := ⟨fun q k fs hk h1 => g.1 q k fs hk (h.1 q k fs hk h1), fun q n f hq h1 => g.2 q n f hq (h.2 q n f hq h1)⟩
theorem stab_q {ct : Nat → ClassId} {fz : Nat → Prop} {M : hp_M} {a : Nat} {cA : ClassId} {n : Nat} {f : (Nat → Int64) ⊕ (Nat → UInt32) ⊕ (Nat → UInt64) ⊕ (Nat → Option Nat)} {E : va_E} (h : M a = some (.inl (cA, n, .inr f))) : stab ct fz M (hp_up M a E) :=
  ⟨fun q k fs _ h1 => hp_k (hp_ne h1 h (by simp)) h1, fun q n2 f2 _ h1 => hp_k (hp_ne h1 h (by simp)) h1⟩
theorem stab_o {ct : Nat → ClassId} {fz : Nat → Prop} {M : hp_M} {a k : Nat} {fs : List Value} {E : va_E} (h : M a = some (.inr (k, fs))) (hk : k ≠ 4 ∧ k ≠ 5) : stab ct fz M (hp_up M a E) :=
  ⟨fun q k2 fs2 hk2 h1 => hp_k (hp_ne h1 h (fun e9 => by have e8 := congrArg Prod.fst (Sum.inr.inj e9); simp only at e8; omega)) h1, fun q n2 f2 _ h1 => hp_k (hp_ne h1 h (by simp)) h1⟩
theorem stab_i {ct : Nat → ClassId} {fz : Nat → Prop} {M : hp_M} {a n : Nat} {cA : ClassId} {f : Nat → Int32} {E : va_E} (h : M a = some (.inl (cA, n, .inl f))) (hne : ct 0 ≠ cA) : stab ct fz M (hp_up M a E) :=
  ⟨fun q k fs _ h1 => hp_k (hp_ne h1 h (by simp)) h1, fun q n2 f2 _ h1 => hp_k (hp_ne h1 h (fun e9 => hne (congrArg Prod.fst (Sum.inl.inj e9)))) h1⟩
theorem stab_c {ct : Nat → ClassId} {fz : Nat → Prop} {M : hp_M} {a n : Nat} {cA : ClassId} {f : Nat → Int32} {E : va_E} (h : M a = some (.inl (cA, n, .inl f))) (hne : ¬ fz a) : stab ct fz M (hp_up M a E) :=
  ⟨fun q k fs _ h1 => hp_k (hp_ne h1 h (by simp)) h1, fun q n2 f2 hq h1 => hp_k (fun e9 => hne (by rw [← e9]; exact hq)) h1⟩
theorem stab_n {ct : Nat → ClassId} {fz : Nat → Prop} {M : hp_M} {a : Nat} {E : va_E} (h : M a = none) : stab ct fz M (hp_up M a E) :=
  ⟨fun q k fs _ h1 => hp_k (hp_nn h1 h) h1, fun q n2 f2 _ h1 => hp_k (hp_nn h1 h) h1⟩
theorem kyOk.st {ct : Nat → ClassId} {fz : Nat → Prop} {M M1 : hp_M} {a : Nat} {K : List Nat} (h : kyOk ct fz M a K) (hs : stab ct fz M M1) : kyOk ct fz M1 a K := by
  obtain ⟨ca, xs, h1, h2, h3, h4, h5, h6, h7⟩ := h
  exact ⟨ca, xs, hs.1 _ _ _ (Or.inr rfl) h1, hs.2 _ _ _ h7 h2, h3, h4, h5, h6, h7⟩
theorem rwOk.st {ct : Nat → ClassId} {fz : Nat → Prop} {M M1 : hp_M} {a : Nat} {R : RowT} (h : rwOk ct fz M a R) (hs : stab ct fz M M1) : rwOk ct fz M1 a R := by
  obtain ⟨ky, ba, h1, h2, h3, h4, h5, h6, h7⟩ := h
  exact ⟨ky, ba, hs.1 _ _ _ (Or.inl rfl) h1, h2.st hs, hs.2 _ _ _ h6 h3, h4, h5, h6, h7⟩
abbrev rw0 : RowT := (0, [], [])
/-- the rows of an action lie in its array -/
def rsOk (ct : Nat → ClassId) (fz : Nat → Prop) (M : hp_M) (f : Nat → Option Nat) (rs : List RowT) : Prop := ∀ i, i < rs.length → ∃ r, f i = some r ∧ rwOk ct fz M r (rs.getD i rw0)
theorem rsOk.st {ct : Nat → ClassId} {fz : Nat → Prop} {M M1 : hp_M} {f : Nat → Option Nat} {rs : List RowT} (h : rsOk ct fz M f rs) (hs : stab ct fz M M1) : rsOk ct fz M1 f rs := fun i hi => by
  obtain ⟨r, h1, h2⟩ := h i hi
  exact ⟨r, h1, h2.st hs⟩
theorem d_AC_init_0 : decode b_AC_init 0 = .ok (.aload_n 0, 1) := by decide +kernel
theorem d_AC_init_1 : decode b_AC_init 1 = .ok (.invokespecial 3, 3) := by decide +kernel
theorem d_AC_init_4 : decode b_AC_init 4 = .ok (.aload_n 0, 1) := by decide +kernel
theorem d_AC_init_5 : decode b_AC_init 5 = .ok (.bipush 24, 2) := by decide +kernel
theorem d_AC_init_7 : decode b_AC_init 7 = .ok (.anewarray 9, 3) := by decide +kernel
theorem d_AC_init_10 : decode b_AC_init 10 = .ok (.putfield 11, 3) := by decide +kernel
theorem d_AC_init_13 : decode b_AC_init 13 = .ok (.aload_n 0, 1) := by decide +kernel
theorem d_AC_init_14 : decode b_AC_init 14 = .ok (.iconst 0, 1) := by decide +kernel
theorem d_AC_init_15 : decode b_AC_init 15 = .ok (.putfield 17, 3) := by decide +kernel
theorem d_AC_init_18 : decode b_AC_init 18 = .ok (.return_, 1) := by decide +kernel
theorem d_AC_isFull_0 : decode b_AC_isFull 0 = .ok (.aload_n 0, 1) := by decide +kernel
theorem d_AC_isFull_1 : decode b_AC_isFull 1 = .ok (.getfield 17, 3) := by decide +kernel
theorem d_AC_isFull_4 : decode b_AC_isFull 4 = .ok (.bipush 24, 2) := by decide +kernel
theorem d_AC_isFull_6 : decode b_AC_isFull 6 = .ok (.if_icmp .lt 7, 3) := by decide +kernel
theorem d_AC_isFull_9 : decode b_AC_isFull 9 = .ok (.iconst 1, 1) := by decide +kernel
theorem d_AC_isFull_10 : decode b_AC_isFull 10 = .ok (.goto 4, 3) := by decide +kernel
theorem d_AC_isFull_13 : decode b_AC_isFull 13 = .ok (.iconst 0, 1) := by decide +kernel
theorem d_AC_isFull_14 : decode b_AC_isFull 14 = .ok (.ireturn, 1) := by decide +kernel
theorem d_AC_rowAt_0 : decode b_AC_rowAt 0 = .ok (.iload_n 1, 1) := by decide +kernel
theorem d_AC_rowAt_1 : decode b_AC_rowAt 1 = .ok (.ifCond .lt 11, 3) := by decide +kernel
theorem d_AC_rowAt_4 : decode b_AC_rowAt 4 = .ok (.iload_n 1, 1) := by decide +kernel
theorem d_AC_rowAt_5 : decode b_AC_rowAt 5 = .ok (.aload_n 0, 1) := by decide +kernel
theorem d_AC_rowAt_6 : decode b_AC_rowAt 6 = .ok (.getfield 17, 3) := by decide +kernel
theorem d_AC_rowAt_9 : decode b_AC_rowAt 9 = .ok (.if_icmp .lt 7, 3) := by decide +kernel
theorem d_AC_rowAt_12 : decode b_AC_rowAt 12 = .ok (.aconst_null, 1) := by decide +kernel
theorem d_AC_rowAt_13 : decode b_AC_rowAt 13 = .ok (.goto 9, 3) := by decide +kernel
theorem d_AC_rowAt_16 : decode b_AC_rowAt 16 = .ok (.aload_n 0, 1) := by decide +kernel
theorem d_AC_rowAt_17 : decode b_AC_rowAt 17 = .ok (.getfield 11, 3) := by decide +kernel
theorem d_AC_rowAt_20 : decode b_AC_rowAt 20 = .ok (.iload_n 1, 1) := by decide +kernel
theorem d_AC_rowAt_21 : decode b_AC_rowAt 21 = .ok (.aaload, 1) := by decide +kernel
theorem d_AC_rowAt_22 : decode b_AC_rowAt 22 = .ok (.areturn, 1) := by decide +kernel
theorem d_AC_has_0 : decode b_AC_has 0 = .ok (.iconst 0, 1) := by decide +kernel
theorem d_AC_has_1 : decode b_AC_has 1 = .ok (.istore_n 3, 1) := by decide +kernel
theorem d_AC_has_2 : decode b_AC_has 2 = .ok (.iload_n 3, 1) := by decide +kernel
theorem d_AC_has_3 : decode b_AC_has 3 = .ok (.bipush 24, 2) := by decide +kernel
theorem d_AC_has_5 : decode b_AC_has 5 = .ok (.if_icmp .ge 44, 3) := by decide +kernel
theorem d_AC_has_8 : decode b_AC_has 8 = .ok (.aload_n 0, 1) := by decide +kernel
theorem d_AC_has_9 : decode b_AC_has 9 = .ok (.iload_n 3, 1) := by decide +kernel
theorem d_AC_has_10 : decode b_AC_has 10 = .ok (.invokevirtual 21, 3) := by decide +kernel
theorem d_AC_has_13 : decode b_AC_has 13 = .ok (.astore 4, 2) := by decide +kernel
theorem d_AC_has_15 : decode b_AC_has 15 = .ok (.aload 4, 2) := by decide +kernel
theorem d_AC_has_17 : decode b_AC_has 17 = .ok (.ifnull 26, 3) := by decide +kernel
theorem d_AC_has_20 : decode b_AC_has 20 = .ok (.aload 4, 2) := by decide +kernel
theorem d_AC_has_22 : decode b_AC_has 22 = .ok (.getfield 25, 3) := by decide +kernel
theorem d_AC_has_25 : decode b_AC_has 25 = .ok (.iload_n 1, 1) := by decide +kernel
theorem d_AC_has_26 : decode b_AC_has 26 = .ok (.if_icmp .ne 17, 3) := by decide +kernel
theorem d_AC_has_29 : decode b_AC_has 29 = .ok (.aload 4, 2) := by decide +kernel
theorem d_AC_has_31 : decode b_AC_has 31 = .ok (.getfield 28, 3) := by decide +kernel
theorem d_AC_has_34 : decode b_AC_has 34 = .ok (.aload_n 2, 1) := by decide +kernel
theorem d_AC_has_35 : decode b_AC_has 35 = .ok (.invokevirtual 32, 3) := by decide +kernel
theorem d_AC_has_38 : decode b_AC_has 38 = .ok (.ifCond .ne 5, 3) := by decide +kernel
theorem d_AC_has_41 : decode b_AC_has 41 = .ok (.iconst 1, 1) := by decide +kernel
theorem d_AC_has_42 : decode b_AC_has 42 = .ok (.ireturn, 1) := by decide +kernel
theorem d_AC_has_43 : decode b_AC_has 43 = .ok (.iinc 3 1, 3) := by decide +kernel
theorem d_AC_has_46 : decode b_AC_has 46 = .ok (.goto (-44), 3) := by decide +kernel
theorem d_AC_has_49 : decode b_AC_has 49 = .ok (.iconst 0, 1) := by decide +kernel
theorem d_AC_has_50 : decode b_AC_has 50 = .ok (.ireturn, 1) := by decide +kernel
theorem d_AC_insert_0 : decode b_AC_insert 0 = .ok (.aload_n 0, 1) := by decide +kernel
theorem d_AC_insert_1 : decode b_AC_insert 1 = .ok (.invokevirtual 38, 3) := by decide +kernel
theorem d_AC_insert_4 : decode b_AC_insert 4 = .ok (.ifCond .eq 4, 3) := by decide +kernel
theorem d_AC_insert_7 : decode b_AC_insert 7 = .ok (.return_, 1) := by decide +kernel
theorem d_AC_insert_8 : decode b_AC_insert 8 = .ok (.aload_n 0, 1) := by decide +kernel
theorem d_AC_insert_9 : decode b_AC_insert 9 = .ok (.getfield 17, 3) := by decide +kernel
theorem d_AC_insert_12 : decode b_AC_insert 12 = .ok (.istore_n 2, 1) := by decide +kernel
theorem d_AC_insert_13 : decode b_AC_insert 13 = .ok (.iload_n 2, 1) := by decide +kernel
theorem d_AC_insert_14 : decode b_AC_insert 14 = .ok (.ifCond .le 39, 3) := by decide +kernel
theorem d_AC_insert_17 : decode b_AC_insert 17 = .ok (.aload_n 0, 1) := by decide +kernel
theorem d_AC_insert_18 : decode b_AC_insert 18 = .ok (.iload_n 2, 1) := by decide +kernel
theorem d_AC_insert_19 : decode b_AC_insert 19 = .ok (.iconst 1, 1) := by decide +kernel
theorem d_AC_insert_20 : decode b_AC_insert 20 = .ok (.isub, 1) := by decide +kernel
theorem d_AC_insert_21 : decode b_AC_insert 21 = .ok (.invokevirtual 21, 3) := by decide +kernel
theorem d_AC_insert_24 : decode b_AC_insert 24 = .ok (.astore_n 3, 1) := by decide +kernel
theorem d_AC_insert_25 : decode b_AC_insert 25 = .ok (.aload_n 3, 1) := by decide +kernel
theorem d_AC_insert_26 : decode b_AC_insert 26 = .ok (.ifnull 27, 3) := by decide +kernel
theorem d_AC_insert_29 : decode b_AC_insert 29 = .ok (.aload_n 3, 1) := by decide +kernel
theorem d_AC_insert_30 : decode b_AC_insert 30 = .ok (.aload_n 1, 1) := by decide +kernel
theorem d_AC_insert_31 : decode b_AC_insert 31 = .ok (.invokevirtual 42, 3) := by decide +kernel
theorem d_AC_insert_34 : decode b_AC_insert 34 = .ok (.ifCond .ne 6, 3) := by decide +kernel
theorem d_AC_insert_37 : decode b_AC_insert 37 = .ok (.goto 16, 3) := by decide +kernel
theorem d_AC_insert_40 : decode b_AC_insert 40 = .ok (.aload_n 0, 1) := by decide +kernel
theorem d_AC_insert_41 : decode b_AC_insert 41 = .ok (.getfield 11, 3) := by decide +kernel
theorem d_AC_insert_44 : decode b_AC_insert 44 = .ok (.iload_n 2, 1) := by decide +kernel
theorem d_AC_insert_45 : decode b_AC_insert 45 = .ok (.aload_n 3, 1) := by decide +kernel
theorem d_AC_insert_46 : decode b_AC_insert 46 = .ok (.aastore, 1) := by decide +kernel
theorem d_AC_insert_47 : decode b_AC_insert 47 = .ok (.iinc 2 (-1), 3) := by decide +kernel
theorem d_AC_insert_50 : decode b_AC_insert 50 = .ok (.goto (-37), 3) := by decide +kernel
theorem d_AC_insert_53 : decode b_AC_insert 53 = .ok (.aload_n 0, 1) := by decide +kernel
theorem d_AC_insert_54 : decode b_AC_insert 54 = .ok (.getfield 11, 3) := by decide +kernel
theorem d_AC_insert_57 : decode b_AC_insert 57 = .ok (.iload_n 2, 1) := by decide +kernel
theorem d_AC_insert_58 : decode b_AC_insert 58 = .ok (.aload_n 1, 1) := by decide +kernel
theorem d_AC_insert_59 : decode b_AC_insert 59 = .ok (.aastore, 1) := by decide +kernel
theorem d_AC_insert_60 : decode b_AC_insert 60 = .ok (.aload_n 0, 1) := by decide +kernel
theorem d_AC_insert_61 : decode b_AC_insert 61 = .ok (.dup, 1) := by decide +kernel
theorem d_AC_insert_62 : decode b_AC_insert 62 = .ok (.getfield 17, 3) := by decide +kernel
theorem d_AC_insert_65 : decode b_AC_insert 65 = .ok (.iconst 1, 1) := by decide +kernel
theorem d_AC_insert_66 : decode b_AC_insert 66 = .ok (.iadd, 1) := by decide +kernel
theorem d_AC_insert_67 : decode b_AC_insert 67 = .ok (.putfield 17, 3) := by decide +kernel
theorem d_AC_insert_70 : decode b_AC_insert 70 = .ok (.return_, 1) := by decide +kernel
theorem d_AC_replaceEdition_0 : decode b_AC_replaceEdition 0 = .ok (.iconst 0, 1) := by decide +kernel
theorem d_AC_replaceEdition_1 : decode b_AC_replaceEdition 1 = .ok (.istore_n 2, 1) := by decide +kernel
theorem d_AC_replaceEdition_2 : decode b_AC_replaceEdition 2 = .ok (.iload_n 2, 1) := by decide +kernel
theorem d_AC_replaceEdition_3 : decode b_AC_replaceEdition 3 = .ok (.bipush 24, 2) := by decide +kernel
theorem d_AC_replaceEdition_5 : decode b_AC_replaceEdition 5 = .ok (.if_icmp .ge 37, 3) := by decide +kernel
theorem d_AC_replaceEdition_8 : decode b_AC_replaceEdition 8 = .ok (.aload_n 0, 1) := by decide +kernel
theorem d_AC_replaceEdition_9 : decode b_AC_replaceEdition 9 = .ok (.iload_n 2, 1) := by decide +kernel
theorem d_AC_replaceEdition_10 : decode b_AC_replaceEdition 10 = .ok (.invokevirtual 21, 3) := by decide +kernel
theorem d_AC_replaceEdition_13 : decode b_AC_replaceEdition 13 = .ok (.astore_n 3, 1) := by decide +kernel
theorem d_AC_replaceEdition_14 : decode b_AC_replaceEdition 14 = .ok (.aload_n 3, 1) := by decide +kernel
theorem d_AC_replaceEdition_15 : decode b_AC_replaceEdition 15 = .ok (.ifnull 21, 3) := by decide +kernel
theorem d_AC_replaceEdition_18 : decode b_AC_replaceEdition 18 = .ok (.aload_n 3, 1) := by decide +kernel
theorem d_AC_replaceEdition_19 : decode b_AC_replaceEdition 19 = .ok (.getfield 25, 3) := by decide +kernel
theorem d_AC_replaceEdition_22 : decode b_AC_replaceEdition 22 = .ok (.bipush 7, 2) := by decide +kernel
theorem d_AC_replaceEdition_24 : decode b_AC_replaceEdition 24 = .ok (.if_icmp .ne 12, 3) := by decide +kernel
theorem d_AC_replaceEdition_27 : decode b_AC_replaceEdition 27 = .ok (.aload_n 0, 1) := by decide +kernel
theorem d_AC_replaceEdition_28 : decode b_AC_replaceEdition 28 = .ok (.getfield 11, 3) := by decide +kernel
theorem d_AC_replaceEdition_31 : decode b_AC_replaceEdition 31 = .ok (.iload_n 2, 1) := by decide +kernel
theorem d_AC_replaceEdition_32 : decode b_AC_replaceEdition 32 = .ok (.aload_n 1, 1) := by decide +kernel
theorem d_AC_replaceEdition_33 : decode b_AC_replaceEdition 33 = .ok (.aastore, 1) := by decide +kernel
theorem d_AC_replaceEdition_34 : decode b_AC_replaceEdition 34 = .ok (.iconst 1, 1) := by decide +kernel
theorem d_AC_replaceEdition_35 : decode b_AC_replaceEdition 35 = .ok (.ireturn, 1) := by decide +kernel
theorem d_AC_replaceEdition_36 : decode b_AC_replaceEdition 36 = .ok (.iinc 2 1, 3) := by decide +kernel
theorem d_AC_replaceEdition_39 : decode b_AC_replaceEdition 39 = .ok (.goto (-37), 3) := by decide +kernel
theorem d_AC_replaceEdition_42 : decode b_AC_replaceEdition 42 = .ok (.iconst 0, 1) := by decide +kernel
theorem d_AC_replaceEdition_43 : decode b_AC_replaceEdition 43 = .ok (.ireturn, 1) := by decide +kernel
set_option maxHeartbeats 4000000 in
set_option maxRecDepth 100000 in
/-- Action() -/
theorem c_AC_init (l : Launch) (D : va_G) (ct : Nat → ClassId) (Z : hp_Z) (hZ : hp_Zok Z) (M : hp_M) (sz : Nat) (hzo : ∀ A U H, Z A U H → va_AO "ActionDigests$Row" U) (a : Nat) (f_a : M a = some (.inr (3, [.null, .int (nI 0)]))) : Mv l y_AC_init b_AC_init 1 none 1 12 1 24 [.ref a] D ct Z M sz (fun M1 => ∃ oa, M oa = none ∧ M1 = hp_up (hp_up M oa (.inl (ct 2, 24, .inr (.inr (.inr (.inr (fun _ => none))))))) a (.inr (3, [.ref oa, .int (nI 0)]))) := by
  refine hp_start (by decide) (Nat.le_of_ble_eq_true rfl) (fun p e s m below meth c ls S hret hlk hnm hsz hK hM hS hA hz hl => ?_)
  have hx := S.1
  have hb := S.2.1
  have hl : lv_has ls 1 [(0, .ref a)] := hl
  refine lv_aload_n hx hb d_AC_init_0 rfl (lv_at hl 0 rfl) ?_
  refine W.objInit hx hb S.2.2.2.1 (S.2.2.2.2 _ ml_AC_3) (S.2.2.2.2 _ mi_OB_init) (S.2.2.2.2 _ mc_OB_init) rfl (by rw [S.2.2.1]; exact hl.1) rfl d_AC_init_1 (by decide) (Nat.le_of_ble_eq_true rfl) ?_
  refine W.eq (g2 := F0 m 4 ls []) rfl ?_
  refine lv_aload_n hx hb d_AC_init_4 rfl (lv_at hl 0 rfl) ?_
  refine lv_bipush (v := nI 24) hx hb d_AC_init_5 rfl ?_
  refine hp_newq S hK hM hS hA mk_AC_9 (hzo _ _ _ hz) 2 rfl 24 rfl (by decide) (by decide) (by decide) d_AC_init_7 (fun q7 H hq_q7 hM hS => ?_)
  refine W.widen (k := 1) (n := 24) (by omega) (by omega) ?_
  have ne_a_q7 : a ≠ q7 := hp_nn f_a hq_q7
  have f_a := hp_k (e := (.inl (ct 2, 24, .inr (.inr (.inr (.inr (fun _ => none))))))) ne_a_q7 f_a
  have f_q7 : hp_up M q7 (.inl (ct 2, 24, .inr (.inr (.inr (.inr (fun _ => none)))))) q7 = some (.inl (ct 2, 24, .inr (.inr (.inr (.inr (fun _ => none)))))) := hp_us
  obtain ⟨M1, eM1⟩ : ∃ z, z = hp_up M q7 (.inl (ct 2, 24, .inr (.inr (.inr (.inr (fun _ => none)))))) := ⟨_, rfl⟩
  rw [← eM1] at hM f_a f_q7
  refine hp_putF (ty := (.array (.object "ActionDigests$Row"))) (fs' := [.ref q7, .int (nI 0)]) S hK hM hS i_AC t_AC to_AC n_AC f_a rfl 0 (by decide) mf_AC_11 (fun _ h9 => h9) rfl hnm rfl (by decide +kernel) rfl rfl (by simp) rfl d_AC_init_10 (fun H locs hM hS => ?_)
  have f_q7 := hp_k (e := (.inr (3, [.ref q7, .int (nI 0)]))) (Ne.symm ne_a_q7) f_q7
  have f_a : hp_up M1 a (.inr (3, [.ref q7, .int (nI 0)])) a = some (.inr (3, [.ref q7, .int (nI 0)])) := hp_us
  obtain ⟨M2, eM2⟩ : ∃ z, z = hp_up M1 a (.inr (3, [.ref q7, .int (nI 0)])) := ⟨_, rfl⟩
  rw [← eM2] at hM f_a f_q7
  refine lv_aload_n hx hb d_AC_init_13 rfl (lv_at hl 0 rfl) ?_
  refine lv_iconst (v := nI 0) hx hb d_AC_init_14 rfl ?_
  refine hp_put (ty := .int) (fs' := [.ref q7, .int (nI 0)]) S hK hM hS i_AC t_AC to_AC n_AC f_a rfl 1 (by decide) mf_AC_17 (fun _ h9 => h9) rfl (by decide +kernel) rfl rfl (by simp) rfl d_AC_init_15 (fun H locs hM hS => ?_)
  have f_q7 := hp_k (e := (.inr (3, [.ref q7, .int (nI 0)]))) (Ne.symm ne_a_q7) f_q7
  have f_a : hp_up M2 a (.inr (3, [.ref q7, .int (nI 0)])) a = some (.inr (3, [.ref q7, .int (nI 0)])) := hp_us
  obtain ⟨M3, eM3⟩ : ∃ z, z = hp_up M2 a (.inr (3, [.ref q7, .int (nI 0)])) := ⟨_, rfl⟩
  rw [← eM3] at hM f_a f_q7
  exact hp_vret S hret hlk hM hS (⟨q7, hq_q7, by rw [eM3, eM2, eM1, hp_uu]⟩) d_AC_init_18
set_option maxHeartbeats 4000000 in
set_option maxRecDepth 100000 in
/-- there are 24 rows -/
theorem c_AC_isFull (l : Launch) (D : va_G) (ct : Nat → ClassId) (Z : hp_Z) (hZ : hp_Zok Z) (M : hp_M) (sz : Nat) (a oa n : Nat) (hn24 : n ≤ 24) (f_a : M a = some (.inr (3, [.ref oa, .int (nI n)]))) : Mi l y_AC_isFull b_AC_isFull 1 (some .boolean) 0 0 0 0 [.ref a] D ct Z M sz (fun r M1 => M1 = M ∧ bo r (24 ≤ n)) := by
  refine hp_start (by decide) (Nat.le_of_ble_eq_true rfl) (fun p e s m below meth c ls S hret hlk hnm hsz hK hM hS hA hz hl => ?_)
  have hx := S.1
  have hb := S.2.1
  have hl : lv_has ls 1 [(0, .ref a)] := hl
  refine lv_aload_n hx hb d_AC_isFull_0 rfl (lv_at hl 0 rfl) ?_
  refine hp_get S hK hM i_AC f_a rfl 1 (by decide) mf_AC_17 (fun _ h9 => h9) rfl d_AC_isFull_1 ?_
  refine lv_bipush (v := nI 24) hx hb d_AC_isFull_4 rfl ?_
  refine nb_lt (tgt := 13) hx hb d_AC_isFull_6 (by decide) (by omega) (by omega) (fun h1 => ?_) (fun h1 => ?_)
  · refine lv_iconst (v := nI 0) hx hb d_AC_isFull_13 rfl ?_
    exact hp_iret S hret hlk (rfl) hM hS (⟨rfl, bo_f (by omega)⟩) d_AC_isFull_14
  · refine lv_iconst (v := nI 1) hx hb d_AC_isFull_9 rfl ?_
    refine lv_goto (tgt := 14) hx hb d_AC_isFull_10 (by decide) ?_
    exact hp_iret S hret hlk (rfl) hM hS (⟨rfl, bo_t (by omega)⟩) d_AC_isFull_14
set_option maxHeartbeats 4000000 in
set_option maxRecDepth 100000 in
/-- the row at a place -/
theorem c_AC_rowAt (l : Launch) (D : va_G) (ct : Nat → ClassId) (Z : hp_Z) (hZ : hp_Zok Z) (M : hp_M) (sz : Nat) (fz : Nat → Prop) (a oa : Nat) (f : Nat → Option Nat) (rs : List RowT) (hn24 : rs.length ≤ 24) (f_a : M a = some (.inr (3, [.ref oa, .int (nI rs.length)]))) (f_oa : M oa = some (.inl (ct 2, 24, .inr (.inr (.inr (.inr f)))))) (hrs : rsOk ct fz M f rs) (i : Nat) (hi : i < 2 ^ 31) : Mq l y_AC_rowAt b_AC_rowAt 2 (some (.object "ActionDigests$Row")) 0 0 0 0 [.ref a, .int (nI i)] D ct Z M sz (fun r M1 => M1 = M ∧ ((i < rs.length ∧ ∃ q, r = some q ∧ rwOk ct fz M q (rs.getD i rw0)) ∨ (rs.length ≤ i ∧ r = none))) := by
  refine hp_start (by decide) (Nat.le_of_ble_eq_true rfl) (fun p e s m below meth c ls S hret hlk hnm hsz hK hM hS hA hz hl => ?_)
  have hx := S.1
  have hb := S.2.1
  have hl : lv_has ls 2 [(0, .ref a), (1, .int (nI i))] := hl
  refine lv_iload_n hx hb d_AC_rowAt_0 rfl (lv_at hl 1 rfl) ?_
  refine nz_lt (tgt := 12) hx hb d_AC_rowAt_1 (by decide) (by omega) (fun h1 => ?_) (fun h1 => ?_)
  · exact absurd h1 (fun q => q)
  · refine lv_iload_n hx hb d_AC_rowAt_4 rfl (lv_at hl 1 rfl) ?_
    refine lv_aload_n hx hb d_AC_rowAt_5 rfl (lv_at hl 0 rfl) ?_
    refine hp_get S hK hM i_AC f_a rfl 1 (by decide) mf_AC_17 (fun _ h9 => h9) rfl d_AC_rowAt_6 ?_
    refine nb_lt (tgt := 16) hx hb d_AC_rowAt_9 (by decide) (by omega) (by omega) (fun hlt => ?_) (fun hlt => ?_)
    · refine lv_aload_n hx hb d_AC_rowAt_16 rfl (lv_at hl 0 rfl) ?_
      refine hp_get S hK hM i_AC f_a rfl 0 (by decide) mf_AC_11 (fun _ h9 => h9) rfl d_AC_rowAt_17 ?_
      refine lv_iload_n hx hb d_AC_rowAt_20 rfl (lv_at hl 1 rfl) ?_
      obtain ⟨q, hfq, hq⟩ := hrs i hlt
      refine hp_aald S hK hM 2 f_oa rfl i rfl (by omega) (by decide) (congrArg va_rf hfq) d_AC_rowAt_21 ?_
      exact hp_aret (some q) rfl S hret (Or.inl ⟨_, rfl⟩) hlk hM hS (⟨rfl, Or.inl ⟨hlt, q, rfl, hq⟩⟩) d_AC_rowAt_22
    · refine lv_null hx hb d_AC_rowAt_12 ?_
      refine lv_goto (tgt := 22) hx hb d_AC_rowAt_13 (by decide) ?_
      exact hp_aret (none) rfl S hret (Or.inl ⟨_, rfl⟩) hlk hM hS (⟨rfl, Or.inr ⟨by omega, rfl⟩⟩) d_AC_rowAt_22
set_option maxHeartbeats 4000000 in
set_option maxRecDepth 100000 in
/-- the row at a place, and where it lies -/
theorem c_AC_rowAt2 (l : Launch) (D : va_G) (ct : Nat → ClassId) (Z : hp_Z) (hZ : hp_Zok Z) (M : hp_M) (sz : Nat) (a oa n : Nat) (hn24 : n ≤ 24) (f : Nat → Option Nat) (f_a : M a = some (.inr (3, [.ref oa, .int (nI n)]))) (f_oa : M oa = some (.inl (ct 2, 24, .inr (.inr (.inr (.inr f)))))) (i q : Nat) (hi : i < n) (hfq : f i = some q) : Mq l y_AC_rowAt b_AC_rowAt 2 (some (.object "ActionDigests$Row")) 0 0 0 0 [.ref a, .int (nI i)] D ct Z M sz (fun r M1 => M1 = M ∧ r = some q) := by
  refine hp_start (by decide) (Nat.le_of_ble_eq_true rfl) (fun p e s m below meth c ls S hret hlk hnm hsz hK hM hS hA hz hl => ?_)
  have hx := S.1
  have hb := S.2.1
  have hl : lv_has ls 2 [(0, .ref a), (1, .int (nI i))] := hl
  refine lv_iload_n hx hb d_AC_rowAt_0 rfl (lv_at hl 1 rfl) ?_
  refine nz_lt (tgt := 12) hx hb d_AC_rowAt_1 (by decide) (by omega) (fun h1 => ?_) (fun h1 => ?_)
  · exact absurd h1 (fun q => q)
  · refine lv_iload_n hx hb d_AC_rowAt_4 rfl (lv_at hl 1 rfl) ?_
    refine lv_aload_n hx hb d_AC_rowAt_5 rfl (lv_at hl 0 rfl) ?_
    refine hp_get S hK hM i_AC f_a rfl 1 (by decide) mf_AC_17 (fun _ h9 => h9) rfl d_AC_rowAt_6 ?_
    refine nb_lt (tgt := 16) hx hb d_AC_rowAt_9 (by decide) (by omega) (by omega) (fun h2 => ?_) (fun h2 => ?_)
    · refine lv_aload_n hx hb d_AC_rowAt_16 rfl (lv_at hl 0 rfl) ?_
      refine hp_get S hK hM i_AC f_a rfl 0 (by decide) mf_AC_11 (fun _ h9 => h9) rfl d_AC_rowAt_17 ?_
      refine lv_iload_n hx hb d_AC_rowAt_20 rfl (lv_at hl 1 rfl) ?_
      refine hp_aald S hK hM 2 f_oa rfl i rfl (by omega) (by decide) (congrArg va_rf hfq) d_AC_rowAt_21 ?_
      exact hp_aret (some q) rfl S hret (Or.inl ⟨_, rfl⟩) hlk hM hS (⟨rfl, rfl⟩) d_AC_rowAt_22
    · exact absurd hi (by omega)
set_option maxHeartbeats 4000000 in
set_option maxRecDepth 100000 in
/-- a PATH or NAME is there for a KIND -/
theorem c_AC_has (l : Launch) (D : va_G) (ct : Nat → ClassId) (Z : hp_Z) (hZ : hp_Zok Z) (M : hp_M) (sz : Nat) (fz : Nat → Prop) (a oa : Nat) (f : Nat → Option Nat) (rs : List RowT) (hn24 : rs.length ≤ 24) (f_a : M a = some (.inr (3, [.ref oa, .int (nI rs.length)]))) (f_oa : M oa = some (.inl (ct 2, 24, .inr (.inr (.inr (.inr f)))))) (hrs : rsOk ct fz M f rs) (k ky : Nat) (hk : k < 2 ^ 31) (K : List Nat) (hky : kyOk ct fz M ky K) : Mi l y_AC_has b_AC_has 5 (some .boolean) 2 36 0 0 [.ref a, .int (nI k), .ref ky] D ct Z M sz (fun r M1 => M1 = M ∧ bo r (∃ i, i < rs.length ∧ (rs.getD i rw0).1 = k ∧ (rs.getD i rw0).2.1 = K)) := by
  refine hp_start (by decide) (Nat.le_of_ble_eq_true rfl) (fun p e s m below meth c ls S hret hlk hnm hsz hK hM hS hA hz hl => ?_)
  have hx := S.1
  have hb := S.2.1
  have hl : lv_has ls 5 [(0, .ref a), (1, .int (nI k)), (2, .ref ky)] := hl
  refine lv_iconst (v := nI 0) hx hb d_AC_has_0 rfl ?_
  refine lv_istore_n (lv' := [(3, .int (nI 0)), (0, .ref a), (1, .int (nI k)), (2, .ref ky)]) hx hb d_AC_has_1 rfl hl (by decide) rfl (fun ls hl => ?_)
  replace hl : lv_has ls 5 [(0, .ref a), (1, .int (nI k)), (2, .ref ky), (3, .int (nI 0))] := lv_sub hl [1, 2, 3, 0] rfl
  obtain ⟨j, e9j⟩ : ∃ z : Nat, z = 0 := ⟨_, rfl⟩
  replace hl : lv_has ls 5 [(0, .ref a), (1, .int (nI k)), (2, .ref ky), (3, .int (nI j))] := by subst e9j; exact hl
  obtain ⟨H, e9H⟩ : ∃ z : Heap, z = s.heap := ⟨_, rfl⟩
  replace hM : hp_H D ccl (hp_A M sz) M H := by rw [e9H]; exact hM
  replace hS : va_S (hp_A M sz) s.heap H [] := by rw [e9H]; exact hS
  rw [← e9H]
  clear e9H
  obtain ⟨locs, e9L⟩ : ∃ z : List Loc, z = [] := ⟨_, rfl⟩
  replace hS : va_S (hp_A M sz) s.heap H locs := by rw [e9L]; exact hS
  rw [← e9L]
  clear e9L
  have hinv : ∀ i, i < j → i < rs.length → ¬ ((rs.getD i rw0).1 = k ∧ (rs.getD i rw0).2.1 = K) := by subst e9j; intro i hi; omega
  obtain ⟨fu, hn⟩ : ∃ fu : Nat, j + fu = 24 := ⟨24 - j, by omega⟩
  clear e9j
  induction fu generalizing j H locs ls with
  | zero =>
    have hn : j = 24 := by omega
    refine lv_iload_n hx hb d_AC_has_2 rfl (lv_at hl 3 rfl) ?_
    refine lv_bipush (v := nI 24) hx hb d_AC_has_3 rfl ?_
    refine nb_ge (tgt := 49) hx hb d_AC_has_5 (by decide) (by omega) (by omega) (fun h1 => ?_) (fun h1 => ?_)
    · refine lv_iconst (v := nI 0) hx hb d_AC_has_49 rfl ?_
      exact hp_iret S hret hlk (rfl) hM hS (⟨rfl, bo_f (fun q => by obtain ⟨i, q1, q2⟩ := q; exact hinv i (by omega) q1 q2)⟩) d_AC_has_50
    · exact absurd hn (by omega)
  | succ fu ih =>
    refine lv_iload_n hx hb d_AC_has_2 rfl (lv_at hl 3 rfl) ?_
    refine lv_bipush (v := nI 24) hx hb d_AC_has_3 rfl ?_
    refine nb_ge (tgt := 49) hx hb d_AC_has_5 (by decide) (by omega) (by omega) (fun h2 => ?_) (fun h2 => ?_)
    · exact absurd hn (by omega)
    · refine lv_aload_n hx hb d_AC_has_8 rfl (lv_at hl 0 rfl) ?_
      refine lv_iload_n hx hb d_AC_has_9 rfl (lv_at hl 3 rfl) ?_
      refine hp_callq (go_V S hZ hK hM hS hA hz (c_AC_rowAt l D ct Z hZ _ _ fz a oa f rs hn24 f_a f_oa hrs j (by omega)) mc_AC_rowAt mz_AC ml_AC_21 mi_AC_rowAt mx_AC_rowAt hd_AC_rowAt rfl ⟨by decide, by decide⟩ f_a rfl rfl hl.1 rfl (Nat.le_of_ble_eq_true rfl) d_AC_has_10 ⟨by decide, by decide⟩) hM hS hA (fun r3 M9 H locs hr3 hM hS => ?_)
      rw [hr3.1] at hM
      replace hr3 := hr3.2
      rcases hr3 with ⟨hlt, q, e9r, hq⟩ | ⟨hge, e9r⟩
      · subst e9r
        obtain ⟨ky2, ba2, f_q, hky2, f_ba2, hbl2, hc_bd2, hfb2, hk72⟩ := id hq
        obtain ⟨ca2, xa2, f_ky2, -⟩ := id hky2
        refine lv_astore (lv' := [(4, .ref q), (0, .ref a), (1, .int (nI k)), (2, .ref ky), (3, .int (nI j))]) hx hb d_AC_has_13 hl (by decide) rfl (fun ls hl => ?_)
        refine lv_aload hx hb d_AC_has_15 (lv_at hl 0 rfl) ?_
        refine lv_ifnull hx hb d_AC_has_17 ?_
        refine lv_aload hx hb d_AC_has_20 (lv_at hl 0 rfl) ?_
        refine hp_get S hK hM i_RW f_q rfl 0 (by decide) mf_AC_25 (fun _ h9 => h9) rfl d_AC_has_22 ?_
        refine lv_iload_n hx hb d_AC_has_25 rfl (lv_at hl 2 rfl) ?_
        refine nb_ne (tgt := 43) hx hb d_AC_has_26 (by decide) (by omega) (by omega) (fun hk1 => ?_) (fun hk1 => ?_)
        · refine lv_iinc (v := nI (j + 1)) (lv' := [(3, .int (nI (j + 1))), (4, .ref q), (0, .ref a), (1, .int (nI k)), (2, .ref ky)]) hx hb d_AC_has_43 hl (k := 4) rfl (nI_add j 1) (by decide) rfl (fun ls hl => ?_)
          refine lv_goto (tgt := 2) hx hb d_AC_has_46 (by decide) ?_
          exact ih (ls := ls) (hl := lv_sub hl [2, 3, 4, 0] rfl) (j := j + 1) (hn := by omega) (hinv := lt_s hinv (fun _ z => hk1 z.1)) (H := H) (locs := locs) (hM := hM) (hS := hS)
        · refine lv_aload hx hb d_AC_has_29 (lv_at hl 0 rfl) ?_
          refine hp_get S hK hM i_RW f_q rfl 1 (by decide) mf_AC_28 (fun _ h9 => h9) rfl d_AC_has_31 ?_
          refine lv_aload_n hx hb d_AC_has_34 rfl (lv_at hl 3 rfl) ?_
          refine hp_calli (go_V S hZ hK hM hS hA hz (c_KY_compareWith l D ct Z hZ _ _ fz ky2 ky (rs.getD j rw0).2.1 K hky2 hky) mc_KY_compareWith mz_KY ml_AC_32 mi_KY_compareWith mx_KY_compareWith hd_KY_compareWith rfl ⟨by decide, by decide⟩ f_ky2 rfl rfl hl.1 rfl (Nat.le_of_ble_eq_true rfl) d_AC_has_35 ⟨by decide, by decide⟩) hM hS hA (fun r4 N5 H locs hr4 hM hS => ?_)
          rw [hr4.1] at hM
          replace hr4 := hr4.2
          refine lv_if_ne (tgt := 43) hx hb d_AC_has_38 (by decide) (fun hk2 => ?_) (fun hk2 => ?_)
          · refine lv_iinc (v := nI (j + 1)) (lv' := [(3, .int (nI (j + 1))), (4, .ref q), (0, .ref a), (1, .int (nI k)), (2, .ref ky)]) hx hb d_AC_has_43 hl (k := 4) rfl (nI_add j 1) (by decide) rfl (fun ls hl => ?_)
            refine lv_goto (tgt := 2) hx hb d_AC_has_46 (by decide) ?_
            exact ih (ls := ls) (hl := lv_sub hl [2, 3, 4, 0] rfl) (j := j + 1) (hn := by omega) (hinv := lt_s hinv (fun _ z => hk2 (hr4.1.mpr ((cmpK_0 _ _).mpr z.2)))) (H := H) (locs := locs) (hM := hM) (hS := hS)
          · refine lv_iconst (v := nI 1) hx hb d_AC_has_41 rfl ?_
            exact hp_iret S hret hlk (rfl) hM hS (⟨rfl, bo_t ⟨j, hlt, hk1, (cmpK_0 _ _).mp (hr4.1.mp hk2)⟩⟩) d_AC_has_42
      · subst e9r
        refine lv_astoreN (lv' := [(4, .null), (0, .ref a), (1, .int (nI k)), (2, .ref ky), (3, .int (nI j))]) hx hb d_AC_has_13 hl (by decide) rfl (fun ls hl => ?_)
        refine lv_aloadN hx hb d_AC_has_15 (lv_at hl 0 rfl) ?_
        refine lv_ifnullN (tgt := 43) hx hb d_AC_has_17 (by decide) ?_
        refine lv_iinc (v := nI (j + 1)) (lv' := [(3, .int (nI (j + 1))), (4, .null), (0, .ref a), (1, .int (nI k)), (2, .ref ky)]) hx hb d_AC_has_43 hl (k := 4) rfl (nI_add j 1) (by decide) rfl (fun ls hl => ?_)
        refine lv_goto (tgt := 2) hx hb d_AC_has_46 (by decide) ?_
        exact ih (ls := ls) (hl := lv_sub hl [2, 3, 4, 0] rfl) (j := j + 1) (hn := by omega) (hinv := lt_s hinv (fun z => absurd z (by omega))) (H := H) (locs := locs) (hM := hM) (hS := hS)
set_option maxHeartbeats 4000000 in
set_option maxRecDepth 100000 in
/-- an EDITION takes the place of another -/
theorem c_AC_replaceEdition (l : Launch) (D : va_G) (ct : Nat → ClassId) (Z : hp_Z) (hZ : hp_Zok Z) (M : hp_M) (sz : Nat) (fz : Nat → Prop) (a oa : Nat) (f : Nat → Option Nat) (rs : List RowT) (hn24 : rs.length ≤ 24) (f_a : M a = some (.inr (3, [.ref oa, .int (nI rs.length)]))) (f_oa : M oa = some (.inl (ct 2, 24, .inr (.inr (.inr (.inr f)))))) (hrs : rsOk ct fz M f rs) (b : Nat) (R : RowT) (hrb : rwOk ct fz M b R) : Mi l y_AC_replaceEdition b_AC_replaceEdition 4 (some .boolean) 1 21 0 0 [.ref a, .ref b] D ct Z M sz (fun r M1 => (∃ i, i < rs.length ∧ (∀ j, j < i → (rs.getD j rw0).1 ≠ 7) ∧ (rs.getD i rw0).1 = 7 ∧ r = nI 1 ∧ M1 = hp_up M oa (.inl (ct 2, 24, .inr (.inr (.inr (.inr (va_up f i (some b)))))))) ∨ ((∀ j, j < rs.length → (rs.getD j rw0).1 ≠ 7) ∧ r = nI 0 ∧ M1 = M)) := by
  refine hp_start (by decide) (Nat.le_of_ble_eq_true rfl) (fun p e s m below meth c ls S hret hlk hnm hsz hK hM hS hA hz hl => ?_)
  have hx := S.1
  have hb := S.2.1
  have hl : lv_has ls 4 [(0, .ref a), (1, .ref b)] := hl
  obtain ⟨kyb, bab, f_b, -⟩ := id hrb
  refine lv_iconst (v := nI 0) hx hb d_AC_replaceEdition_0 rfl ?_
  refine lv_istore_n (lv' := [(2, .int (nI 0)), (0, .ref a), (1, .ref b)]) hx hb d_AC_replaceEdition_1 rfl hl (by decide) rfl (fun ls hl => ?_)
  replace hl : lv_has ls 4 [(0, .ref a), (1, .ref b), (2, .int (nI 0))] := lv_sub hl [1, 2, 0] rfl
  obtain ⟨j, e9j⟩ : ∃ z : Nat, z = 0 := ⟨_, rfl⟩
  replace hl : lv_has ls 4 [(0, .ref a), (1, .ref b), (2, .int (nI j))] := by subst e9j; exact hl
  obtain ⟨H, e9H⟩ : ∃ z : Heap, z = s.heap := ⟨_, rfl⟩
  replace hM : hp_H D ccl (hp_A M sz) M H := by rw [e9H]; exact hM
  replace hS : va_S (hp_A M sz) s.heap H [] := by rw [e9H]; exact hS
  rw [← e9H]
  clear e9H
  obtain ⟨locs, e9L⟩ : ∃ z : List Loc, z = [] := ⟨_, rfl⟩
  replace hS : va_S (hp_A M sz) s.heap H locs := by rw [e9L]; exact hS
  rw [← e9L]
  clear e9L
  have hinv : ∀ i, i < j → i < rs.length → (rs.getD i rw0).1 ≠ 7 := by subst e9j; intro i hi; omega
  obtain ⟨fu, hn⟩ : ∃ fu : Nat, j + fu = 24 := ⟨24 - j, by omega⟩
  clear e9j
  induction fu generalizing j H locs ls with
  | zero =>
    have hn : j = 24 := by omega
    refine lv_iload_n hx hb d_AC_replaceEdition_2 rfl (lv_at hl 2 rfl) ?_
    refine lv_bipush (v := nI 24) hx hb d_AC_replaceEdition_3 rfl ?_
    refine nb_ge (tgt := 42) hx hb d_AC_replaceEdition_5 (by decide) (by omega) (by omega) (fun h1 => ?_) (fun h1 => ?_)
    · refine lv_iconst (v := nI 0) hx hb d_AC_replaceEdition_42 rfl ?_
      exact hp_iret S hret hlk (rfl) hM hS (Or.inr ⟨fun i hi => hinv i (by omega) hi, rfl, rfl⟩) d_AC_replaceEdition_43
    · exact absurd hn (by omega)
  | succ fu ih =>
    refine lv_iload_n hx hb d_AC_replaceEdition_2 rfl (lv_at hl 2 rfl) ?_
    refine lv_bipush (v := nI 24) hx hb d_AC_replaceEdition_3 rfl ?_
    refine nb_ge (tgt := 42) hx hb d_AC_replaceEdition_5 (by decide) (by omega) (by omega) (fun h2 => ?_) (fun h2 => ?_)
    · exact absurd hn (by omega)
    · refine lv_aload_n hx hb d_AC_replaceEdition_8 rfl (lv_at hl 0 rfl) ?_
      refine lv_iload_n hx hb d_AC_replaceEdition_9 rfl (lv_at hl 2 rfl) ?_
      refine hp_callq (go_V S hZ hK hM hS hA hz (c_AC_rowAt l D ct Z hZ _ _ fz a oa f rs hn24 f_a f_oa hrs j (by omega)) mc_AC_rowAt mz_AC ml_AC_21 mi_AC_rowAt mx_AC_rowAt hd_AC_rowAt rfl ⟨by decide, by decide⟩ f_a rfl rfl hl.1 rfl (Nat.le_of_ble_eq_true rfl) d_AC_replaceEdition_10 ⟨by decide, by decide⟩) hM hS hA (fun r3 M9 H locs hr3 hM hS => ?_)
      rw [hr3.1] at hM
      replace hr3 := hr3.2
      rcases hr3 with ⟨hlt, q, e9r, hq⟩ | ⟨hge, e9r⟩
      · subst e9r
        obtain ⟨ky2, ba2, f_q, hky2, f_ba2, hbl2, hc_bd2, hfb2, hk72⟩ := id hq
        refine lv_astore_n (lv' := [(3, .ref q), (0, .ref a), (1, .ref b), (2, .int (nI j))]) hx hb d_AC_replaceEdition_13 rfl hl (by decide) rfl (fun ls hl => ?_)
        refine lv_aload_n hx hb d_AC_replaceEdition_14 rfl (lv_at hl 0 rfl) ?_
        refine lv_ifnull hx hb d_AC_replaceEdition_15 ?_
        refine lv_aload_n hx hb d_AC_replaceEdition_18 rfl (lv_at hl 0 rfl) ?_
        refine hp_get S hK hM i_RW f_q rfl 0 (by decide) mf_AC_25 (fun _ h9 => h9) rfl d_AC_replaceEdition_19 ?_
        refine lv_bipush (v := nI 7) hx hb d_AC_replaceEdition_22 rfl ?_
        refine nb_ne (tgt := 36) hx hb d_AC_replaceEdition_24 (by decide) (by omega) (by omega) (fun hk1 => ?_) (fun hk1 => ?_)
        · refine lv_iinc (v := nI (j + 1)) (lv' := [(2, .int (nI (j + 1))), (3, .ref q), (0, .ref a), (1, .ref b)]) hx hb d_AC_replaceEdition_36 hl (k := 3) rfl (nI_add j 1) (by decide) rfl (fun ls hl => ?_)
          refine lv_goto (tgt := 2) hx hb d_AC_replaceEdition_39 (by decide) ?_
          exact ih (ls := ls) (hl := lv_sub hl [2, 3, 0] rfl) (j := j + 1) (hn := by omega) (hinv := lt_s hinv (fun _ => hk1)) (H := H) (locs := locs) (hM := hM) (hS := hS)
        · refine lv_aload_n hx hb d_AC_replaceEdition_27 rfl (lv_at hl 1 rfl) ?_
          refine hp_get S hK hM i_AC f_a rfl 0 (by decide) mf_AC_11 (fun _ h9 => h9) rfl d_AC_replaceEdition_28 ?_
          refine lv_iload_n hx hb d_AC_replaceEdition_31 rfl (lv_at hl 3 rfl) ?_
          refine lv_aload_n hx hb d_AC_replaceEdition_32 rfl (lv_at hl 2 rfl) ?_
          refine hp_aast S hK hM hS 2 4 f_oa rfl f_b rfl j rfl (by omega) (by decide) d_AC_replaceEdition_33 (fun H locs hM hS => ?_)
          have f_a := hp_k (e := (.inl (ct 2, 24, .inr (.inr (.inr (.inr (va_up f j (some b)))))))) (hp_ne f_a f_oa (by simp)) f_a
          have f_b := hp_k (e := (.inl (ct 2, 24, .inr (.inr (.inr (.inr (va_up f j (some b)))))))) (hp_ne f_b f_oa (by simp)) f_b
          have f_q := hp_k (e := (.inl (ct 2, 24, .inr (.inr (.inr (.inr (va_up f j (some b)))))))) (hp_ne f_q f_oa (by simp)) f_q
          have f_oa : hp_up M oa (.inl (ct 2, 24, .inr (.inr (.inr (.inr (va_up f j (some b))))))) oa = some (.inl (ct 2, 24, .inr (.inr (.inr (.inr (va_up f j (some b))))))) := hp_us
          obtain ⟨M4, eM4⟩ : ∃ z, z = hp_up M oa (.inl (ct 2, 24, .inr (.inr (.inr (.inr (va_up f j (some b))))))) := ⟨_, rfl⟩
          rw [← eM4] at hM f_a f_oa f_b f_q
          refine lv_iconst (v := nI 1) hx hb d_AC_replaceEdition_34 rfl ?_
          exact hp_iret S hret hlk (rfl) hM hS (Or.inl ⟨j, hlt, fun i hi => hinv i hi (by omega), hk1, rfl, by rw [eM4]⟩) d_AC_replaceEdition_35
      · subst e9r
        refine lv_astore_nN (lv' := [(3, .null), (0, .ref a), (1, .ref b), (2, .int (nI j))]) hx hb d_AC_replaceEdition_13 rfl hl (by decide) rfl (fun ls hl => ?_)
        refine lv_aload_nN hx hb d_AC_replaceEdition_14 rfl (lv_at hl 0 rfl) ?_
        refine lv_ifnullN (tgt := 36) hx hb d_AC_replaceEdition_15 (by decide) ?_
        refine lv_iinc (v := nI (j + 1)) (lv' := [(2, .int (nI (j + 1))), (3, .null), (0, .ref a), (1, .ref b)]) hx hb d_AC_replaceEdition_36 hl (k := 3) rfl (nI_add j 1) (by decide) rfl (fun ls hl => ?_)
        refine lv_goto (tgt := 2) hx hb d_AC_replaceEdition_39 (by decide) ?_
        exact ih (ls := ls) (hl := lv_sub hl [2, 3, 0] rfl) (j := j + 1) (hn := by omega) (hinv := lt_s hinv (fun z => absurd z (by omega))) (H := H) (locs := locs) (hM := hM) (hS := hS)
set_option maxHeartbeats 4000000 in
set_option maxRecDepth 100000 in
/-- a row goes in, ahead of those that come behind it -/
theorem c_AC_insert (l : Launch) (D : va_G) (ct : Nat → ClassId) (Z : hp_Z) (hZ : hp_Zok Z) (M : hp_M) (sz : Nat) (fz : Nat → Prop) (a oa : Nat) (f : Nat → Option Nat) (rs : List RowT) (hn24 : rs.length < 24) (f_a : M a = some (.inr (3, [.ref oa, .int (nI rs.length)]))) (f_oa : M oa = some (.inl (ct 2, 24, .inr (.inr (.inr (.inr f)))))) (hrs : rsOk ct fz M f rs) (b : Nat) (R : RowT) (hrb : rwOk ct fz M b R) : Mv l y_AC_insert b_AC_insert 4 none 3 57 0 0 [.ref a, .ref b] D ct Z M sz (fun M1 => ∃ (u : Nat) (f1 : Nat → Option Nat), u ≤ rs.length ∧ (∀ i, u ≤ i → i < rs.length → behind (rs.getD i rw0) R) ∧ (u = 0 ∨ ¬ behind (rs.getD (u - 1) rw0) R) ∧ (∀ i, i < u → f1 i = f i) ∧ f1 u = some b ∧ (∀ i, u < i → i ≤ rs.length → f1 i = f (i - 1)) ∧ M1 = hp_up (hp_up M oa (.inl (ct 2, 24, .inr (.inr (.inr (.inr f1)))))) a (.inr (3, [.ref oa, .int (nI (rs.length + 1))]))) := by
  refine hp_start (by decide) (Nat.le_of_ble_eq_true rfl) (fun p e s m below meth c ls S hret hlk hnm hsz hK hM hS hA hz hl => ?_)
  have hx := S.1
  have hb := S.2.1
  have hl : lv_has ls 4 [(0, .ref a), (1, .ref b)] := hl
  obtain ⟨kyb, bab, f_b, -⟩ := id hrb
  have f0_oa := f_oa
  refine lv_aload_n hx hb d_AC_insert_0 rfl (lv_at hl 0 rfl) ?_
  refine hp_calli (go_V S hZ hK hM hS hA hz (c_AC_isFull l D ct Z hZ _ _ a oa rs.length (by omega) f_a) mc_AC_isFull mz_AC ml_AC_38 mi_AC_isFull mx_AC_isFull hd_AC_isFull rfl ⟨by decide, by decide⟩ f_a rfl rfl hl.1 rfl (Nat.le_of_ble_eq_true rfl) d_AC_insert_1 ⟨by decide, by decide⟩) hM hS hA (fun r1 N2 H locs hr1 hM hS => ?_)
  rw [hr1.1] at hM
  replace hr1 := hr1.2
  refine nt_eq (tgt := 8) hx hb d_AC_insert_4 (by decide) hr1 (fun h3 => ?_) (fun h3 => ?_)
  · refine lv_aload_n hx hb d_AC_insert_8 rfl (lv_at hl 0 rfl) ?_
    refine hp_get S hK hM i_AC f_a rfl 1 (by decide) mf_AC_17 (fun _ h9 => h9) rfl d_AC_insert_9 ?_
    refine lv_istore_n (lv' := [(2, .int (nI (rs.length))), (0, .ref a), (1, .ref b)]) hx hb d_AC_insert_12 rfl hl (by decide) rfl (fun ls hl => ?_)
    replace hl : lv_has ls 4 [(0, .ref a), (1, .ref b), (2, .int (nI (rs.length)))] := lv_sub hl [1, 2, 0] rfl
    obtain ⟨u, e9u⟩ : ∃ z : Nat, z = rs.length := ⟨_, rfl⟩
    obtain ⟨fq, e9f⟩ : ∃ z : Nat → Option Nat, z = f := ⟨_, rfl⟩
    replace hl : lv_has ls 4 [(0, .ref a), (1, .ref b), (2, .int (nI u))] := by rw [e9u]; exact hl
    obtain ⟨N, e9N⟩ : ∃ z : hp_M, z = M := ⟨_, rfl⟩
    replace hM : hp_H D ccl (hp_A M sz) N H := by rw [e9N]; exact hM
    replace f_a : N a = some (.inr (3, [.ref oa, .int (nI rs.length)])) := by rw [e9N]; exact f_a
    replace f_oa : N oa = some (.inl (ct 2, 24, .inr (.inr (.inr (.inr f))))) := by rw [e9N]; exact f_oa
    replace f_b : N b = some (.inr (4, [.int (nI R.1), .ref kyb, .ref bab])) := by rw [e9N]; exact f_b
    replace f_oa : N oa = some (.inl (ct 2, 24, .inr (.inr (.inr (.inr fq))))) := by rw [e9f]; exact f_oa
    have hN : N = hp_up M oa (.inl (ct 2, 24, .inr (.inr (.inr (.inr fq))))) := by rw [e9f, hp_same f0_oa]; exact e9N
    have hu : u ≤ rs.length := by omega
    have hlo : ∀ i, i < u → fq i = f i := fun i _ => by rw [e9f]
    have hhi : ∀ i, u < i → i ≤ rs.length → fq i = f (i - 1) := fun i h1 h2 => by omega
    have hbh : ∀ i, u ≤ i → i < rs.length → behind (rs.getD i rw0) R := fun i h1 h2 => by omega
    clear e9u e9f e9N
    induction u generalizing fq N H locs ls with
    | zero =>
      refine lv_iload_n hx hb d_AC_insert_13 rfl (lv_at hl 2 rfl) ?_
      refine nz_le (tgt := 53) hx hb d_AC_insert_14 (by decide) (by omega) (fun h4 => ?_) (fun h4 => ?_)
      · refine lv_aload_n hx hb d_AC_insert_53 rfl (lv_at hl 0 rfl) ?_
        refine hp_get S hK hM i_AC f_a rfl 0 (by decide) mf_AC_11 (fun _ h9 => h9) rfl d_AC_insert_54 ?_
        refine lv_iload_n hx hb d_AC_insert_57 rfl (lv_at hl 2 rfl) ?_
        refine lv_aload_n hx hb d_AC_insert_58 rfl (lv_at hl 1 rfl) ?_
        refine hp_aast S hK hM hS 2 4 f_oa rfl f_b rfl 0 rfl (by omega) (by decide) d_AC_insert_59 (fun H locs hM hS => ?_)
        have f_a := hp_k (e := (.inl (ct 2, 24, .inr (.inr (.inr (.inr (va_up fq 0 (some b)))))))) (hp_ne f_a f_oa (by simp)) f_a
        have f_b := hp_k (e := (.inl (ct 2, 24, .inr (.inr (.inr (.inr (va_up fq 0 (some b)))))))) (hp_ne f_b f_oa (by simp)) f_b
        have f_oa : hp_up N oa (.inl (ct 2, 24, .inr (.inr (.inr (.inr (va_up fq 0 (some b))))))) oa = some (.inl (ct 2, 24, .inr (.inr (.inr (.inr (va_up fq 0 (some b))))))) := hp_us
        obtain ⟨M5, eM5⟩ : ∃ z, z = hp_up N oa (.inl (ct 2, 24, .inr (.inr (.inr (.inr (va_up fq 0 (some b))))))) := ⟨_, rfl⟩
        rw [← eM5] at hM f_a f_oa f_b
        refine lv_aload_n hx hb d_AC_insert_60 rfl (lv_at hl 0 rfl) ?_
        refine lv_dup hx hb d_AC_insert_61 rfl ?_
        refine hp_get S hK hM i_AC f_a rfl 1 (by decide) mf_AC_17 (fun _ h9 => h9) rfl d_AC_insert_62 ?_
        refine lv_iconst (v := nI 1) hx hb d_AC_insert_65 rfl ?_
        refine nb_iadd hx hb d_AC_insert_66 ?_
        refine hp_put (ty := .int) (fs' := [.ref oa, .int (nI ((rs.length) + 1))]) S hK hM hS i_AC t_AC to_AC n_AC f_a rfl 1 (by decide) mf_AC_17 (fun _ h9 => h9) rfl (by decide +kernel) rfl rfl (by simp) rfl d_AC_insert_67 (fun H locs hM hS => ?_)
        have f_oa := hp_k (e := (.inr (3, [.ref oa, .int (nI ((rs.length) + 1))]))) (hp_ne f_oa f_a (by simp)) f_oa
        have f_b := hp_k (e := (.inr (3, [.ref oa, .int (nI ((rs.length) + 1))]))) (hp_ne f_b f_a (by simp)) f_b
        have f_a : hp_up M5 a (.inr (3, [.ref oa, .int (nI ((rs.length) + 1))])) a = some (.inr (3, [.ref oa, .int (nI ((rs.length) + 1))])) := hp_us
        obtain ⟨M6, eM6⟩ : ∃ z, z = hp_up M5 a (.inr (3, [.ref oa, .int (nI ((rs.length) + 1))])) := ⟨_, rfl⟩
        rw [← eM6] at hM f_a f_oa f_b
        exact hp_vret S hret hlk hM hS ⟨0, va_up fq 0 (some b), by omega, hbh, Or.inl rfl, fun i hi => by rw [up_n (Nat.ne_of_lt hi)]; exact hlo i hi, up_s, fun i h1 h2 => by rw [up_n (by omega)]; exact hhi i h1 h2, by rw [eM6, eM5, hN, hp_uu]⟩ d_AC_insert_70
      · exact absurd h4 (by omega)
    | succ u ih =>
      have hst : stab ct fz M N := by rw [hN]; exact stab_q f0_oa
      obtain ⟨q, hfq0, hq0⟩ := hrs u (by omega)
      have hq := hq0.st hst
      have hfq : fq (u + 1 - 1) = some q := (hlo u (by omega)).trans hfq0
      obtain ⟨ky2, ba2, f_q, -⟩ := id hq
      refine lv_iload_n hx hb d_AC_insert_13 rfl (lv_at hl 2 rfl) ?_
      refine nz_le (tgt := 53) hx hb d_AC_insert_14 (by decide) (by omega) (fun h7 => ?_) (fun h7 => ?_)
      · exact absurd h7 (by omega)
      · refine lv_aload_n hx hb d_AC_insert_17 rfl (lv_at hl 0 rfl) ?_
        refine lv_iload_n hx hb d_AC_insert_18 rfl (lv_at hl 2 rfl) ?_
        refine lv_iconst (v := nI 1) hx hb d_AC_insert_19 rfl ?_
        refine nb_isub hx hb d_AC_insert_20 (by omega) ?_
        refine hp_callq (go_V S hZ hK hM hS hA hz (c_AC_rowAt2 l D ct Z hZ _ _ a oa rs.length (by omega) fq f_a f_oa (u + 1 - 1) q (by omega) hfq) mc_AC_rowAt mz_AC ml_AC_21 mi_AC_rowAt mx_AC_rowAt hd_AC_rowAt rfl ⟨by decide, by decide⟩ f_a rfl rfl hl.1 rfl (Nat.le_of_ble_eq_true rfl) d_AC_insert_21 ⟨by decide, by decide⟩) hM hS hA (fun r9 M9 H locs h9 hM hS => ?_)
        rw [h9.1] at hM
        replace h9 := h9.2
        subst h9
        refine lv_astore_n (lv' := [(3, .ref q), (0, .ref a), (1, .ref b), (2, .int (nI (u + 1)))]) hx hb d_AC_insert_24 rfl hl (by decide) rfl (fun ls hl => ?_)
        refine lv_aload_n hx hb d_AC_insert_25 rfl (lv_at hl 0 rfl) ?_
        refine lv_ifnull hx hb d_AC_insert_26 ?_
        refine lv_aload_n hx hb d_AC_insert_29 rfl (lv_at hl 0 rfl) ?_
        refine lv_aload_n hx hb d_AC_insert_30 rfl (lv_at hl 2 rfl) ?_
        refine hp_calli (go_V S hZ hK hM hS hA hz (c_RW_isBehind l D ct Z hZ _ _ fz q b (rs.getD u rw0) R hq (hrb.st hst)) mc_RW_isBehind mz_RW ml_AC_42 mi_RW_isBehind mx_RW_isBehind hd_RW_isBehind rfl ⟨by decide, by decide⟩ f_q rfl rfl hl.1 rfl (Nat.le_of_ble_eq_true rfl) d_AC_insert_31 ⟨by decide, by decide⟩) hM hS hA (fun r8 N9 H locs hr8 hM hS => ?_)
        rw [hr8.1] at hM
        replace hr8 := hr8.2
        refine nt_ne (tgt := 40) hx hb d_AC_insert_34 (by decide) hr8 (fun hbe => ?_) (fun hbe => ?_)
        · refine lv_aload_n hx hb d_AC_insert_40 rfl (lv_at hl 1 rfl) ?_
          refine hp_get S hK hM i_AC f_a rfl 0 (by decide) mf_AC_11 (fun _ h9 => h9) rfl d_AC_insert_41 ?_
          refine lv_iload_n hx hb d_AC_insert_44 rfl (lv_at hl 3 rfl) ?_
          refine lv_aload_n hx hb d_AC_insert_45 rfl (lv_at hl 0 rfl) ?_
          refine hp_aast S hK hM hS 2 4 f_oa rfl f_q rfl (u + 1) rfl (by omega) (by decide) d_AC_insert_46 (fun H locs hM hS => ?_)
          have f_a := hp_k (e := (.inl (ct 2, 24, .inr (.inr (.inr (.inr (va_up fq (u + 1) (some q)))))))) (hp_ne f_a f_oa (by simp)) f_a
          have f_b := hp_k (e := (.inl (ct 2, 24, .inr (.inr (.inr (.inr (va_up fq (u + 1) (some q)))))))) (hp_ne f_b f_oa (by simp)) f_b
          have f_q := hp_k (e := (.inl (ct 2, 24, .inr (.inr (.inr (.inr (va_up fq (u + 1) (some q)))))))) (hp_ne f_q f_oa (by simp)) f_q
          have f_oa : hp_up N oa (.inl (ct 2, 24, .inr (.inr (.inr (.inr (va_up fq (u + 1) (some q))))))) oa = some (.inl (ct 2, 24, .inr (.inr (.inr (.inr (va_up fq (u + 1) (some q))))))) := hp_us
          obtain ⟨M10, eM10⟩ : ∃ z, z = hp_up N oa (.inl (ct 2, 24, .inr (.inr (.inr (.inr (va_up fq (u + 1) (some q))))))) := ⟨_, rfl⟩
          rw [← eM10] at hM f_a f_oa f_b f_q
          refine lv_iinc (v := nI u) (lv' := [(2, .int (nI u)), (3, .ref q), (0, .ref a), (1, .ref b)]) hx hb d_AC_insert_47 hl (k := 3) rfl (pk_m1 u) (by decide) rfl (fun ls hl => ?_)
          refine lv_goto (tgt := 13) hx hb d_AC_insert_50 (by decide) ?_
          exact ih (fq := va_up fq (u + 1) (some q)) (N := M10) (H := H) (locs := locs) (ls := ls) (hM := hM) (hS := hS) (f_a := f_a) (f_b := f_b) (f_oa := f_oa) (hl := lv_sub hl [2, 3, 0] rfl) (hN := by rw [eM10, hN, hp_uu]) (hu := by omega) (hlo := fun i hi => by rw [up_n (by omega)]; exact hlo i (by omega)) (hhi := fun i h1 h2 => by rcases Nat.lt_or_ge (u + 1) i with z | z; (rw [up_n (by omega)]; exact hhi i z h2); (rw [show i = u + 1 by omega, up_s]; exact hfq0.symm)) (hbh := fun i h1 h2 => by rcases Nat.lt_or_ge u i with z | z; exact hbh i z h2; (rw [show i = u by omega]; exact hbe))
        · refine lv_goto (tgt := 53) hx hb d_AC_insert_37 (by decide) ?_
          refine lv_aload_n hx hb d_AC_insert_53 rfl (lv_at hl 1 rfl) ?_
          refine hp_get S hK hM i_AC f_a rfl 0 (by decide) mf_AC_11 (fun _ h9 => h9) rfl d_AC_insert_54 ?_
          refine lv_iload_n hx hb d_AC_insert_57 rfl (lv_at hl 3 rfl) ?_
          refine lv_aload_n hx hb d_AC_insert_58 rfl (lv_at hl 2 rfl) ?_
          refine hp_aast S hK hM hS 2 4 f_oa rfl f_b rfl (u + 1) rfl (by omega) (by decide) d_AC_insert_59 (fun H locs hM hS => ?_)
          have f_a := hp_k (e := (.inl (ct 2, 24, .inr (.inr (.inr (.inr (va_up fq (u + 1) (some b)))))))) (hp_ne f_a f_oa (by simp)) f_a
          have f_b := hp_k (e := (.inl (ct 2, 24, .inr (.inr (.inr (.inr (va_up fq (u + 1) (some b)))))))) (hp_ne f_b f_oa (by simp)) f_b
          have f_q := hp_k (e := (.inl (ct 2, 24, .inr (.inr (.inr (.inr (va_up fq (u + 1) (some b)))))))) (hp_ne f_q f_oa (by simp)) f_q
          have f_oa : hp_up N oa (.inl (ct 2, 24, .inr (.inr (.inr (.inr (va_up fq (u + 1) (some b))))))) oa = some (.inl (ct 2, 24, .inr (.inr (.inr (.inr (va_up fq (u + 1) (some b))))))) := hp_us
          obtain ⟨M11, eM11⟩ : ∃ z, z = hp_up N oa (.inl (ct 2, 24, .inr (.inr (.inr (.inr (va_up fq (u + 1) (some b))))))) := ⟨_, rfl⟩
          rw [← eM11] at hM f_a f_oa f_b f_q
          refine lv_aload_n hx hb d_AC_insert_60 rfl (lv_at hl 1 rfl) ?_
          refine lv_dup hx hb d_AC_insert_61 rfl ?_
          refine hp_get S hK hM i_AC f_a rfl 1 (by decide) mf_AC_17 (fun _ h9 => h9) rfl d_AC_insert_62 ?_
          refine lv_iconst (v := nI 1) hx hb d_AC_insert_65 rfl ?_
          refine nb_iadd hx hb d_AC_insert_66 ?_
          refine hp_put (ty := .int) (fs' := [.ref oa, .int (nI ((rs.length) + 1))]) S hK hM hS i_AC t_AC to_AC n_AC f_a rfl 1 (by decide) mf_AC_17 (fun _ h9 => h9) rfl (by decide +kernel) rfl rfl (by simp) rfl d_AC_insert_67 (fun H locs hM hS => ?_)
          have f_oa := hp_k (e := (.inr (3, [.ref oa, .int (nI ((rs.length) + 1))]))) (hp_ne f_oa f_a (by simp)) f_oa
          have f_b := hp_k (e := (.inr (3, [.ref oa, .int (nI ((rs.length) + 1))]))) (hp_ne f_b f_a (by simp)) f_b
          have f_q := hp_k (e := (.inr (3, [.ref oa, .int (nI ((rs.length) + 1))]))) (hp_ne f_q f_a (by simp)) f_q
          have f_a : hp_up M11 a (.inr (3, [.ref oa, .int (nI ((rs.length) + 1))])) a = some (.inr (3, [.ref oa, .int (nI ((rs.length) + 1))])) := hp_us
          obtain ⟨M12, eM12⟩ : ∃ z, z = hp_up M11 a (.inr (3, [.ref oa, .int (nI ((rs.length) + 1))])) := ⟨_, rfl⟩
          rw [← eM12] at hM f_a f_oa f_b f_q
          exact hp_vret S hret hlk hM hS ⟨(u + 1), va_up fq (u + 1) (some b), by omega, hbh, Or.inr hbe, fun i hi => by rw [up_n (Nat.ne_of_lt hi)]; exact hlo i hi, up_s, fun i h1 h2 => by rw [up_n (by omega)]; exact hhi i h1 h2, by rw [eM12, eM11, hN, hp_uu]⟩ d_AC_insert_70
  · exact absurd h3 (by omega)
