/-! THE CLASS'S WORLD: one object with all that hangs on it -/
abbrev fzc (ch hg : Nat) : Nat → Prop := fun q => q ≠ ch ∧ q ≠ hg
/-- Keys, Rows, frozen characters, actions and arrays of references stay -/
def kq (ct : Nat → ClassId) (fz : Nat → Prop) (M M1 : hp_M) : Prop := stab ct fz M M1 ∧ (∀ (q : Nat) (fs : List Value), M q = some (.inr (3, fs)) → M1 q = some (.inr (3, fs))) ∧ ∀ (q : Nat) (c : ClassId) (n : Nat) (f : Nat → Option Nat), M q = some (.inl (c, n, .inr (.inr (.inr (.inr f))))) → M1 q = some (.inl (c, n, .inr (.inr (.inr (.inr f)))))
theorem kq.tr {ct : Nat → ClassId} {fz : Nat → Prop} {M M1 M2 : hp_M} (h : kq ct fz M M1) (g : kq ct fz M1 M2) : kq ct fz M M2 := ⟨h.1.tr g.1, fun q fs h1 => g.2.1 q fs (h.2.1 q fs h1), fun q c n f h1 => g.2.2 q c n f (h.2.2 q c n f h1)⟩
theorem kq_rf {ct : Nat → ClassId} {fz : Nat → Prop} {M : hp_M} : kq ct fz M M := ⟨stab_rf, fun _ _ h => h, fun _ _ _ _ h => h⟩
theorem kq_sh {ct : Nat → ClassId} {fz : Nat → Prop} {M : hp_M} {sh su wo : Nat} {Y X : ShT} (hne : ct 0 ≠ ct 1) (h : shOk ct M sh su wo Y) : kq ct fz M (shM ct M sh su wo X) := by
  have k := kp_sh (fz := fz) (X := X) hne h
  exact ⟨k.1, fun q fs h1 => k.2.1 q 3 fs (Or.inr rfl) h1, k.2.2⟩
theorem kq_c {ct : Nat → ClassId} {fz : Nat → Prop} {M : hp_M} {a n : Nat} {f : Nat → Int32} {E : va_E} (h : M a = some (.inl (ct 0, n, .inl f))) (hne : ¬ fz a) : kq ct fz M (hp_up M a E) :=
  ⟨stab_c h hne, fun q fs h1 => hp_k (hp_ne h1 h (by simp)) h1, fun q c n f h1 => hp_k (hp_ne h1 h (by simp)) h1⟩
theorem kq_o {ct : Nat → ClassId} {fz : Nat → Prop} {M : hp_M} {a k : Nat} {fs : List Value} {E : va_E} (h : M a = some (.inr (k, fs))) (hk : k ≠ 4 ∧ k ≠ 5 ∧ k ≠ 3) : kq ct fz M (hp_up M a E) :=
  ⟨stab_o h ⟨hk.1, hk.2.1⟩, fun q fs2 h1 => hp_k (hp_ne h1 h (fun e9 => by have e8 := congrArg Prod.fst (Sum.inr.inj e9); simp only at e8; omega)) h1, fun q c n f h1 => hp_k (hp_ne h1 h (by simp)) h1⟩
theorem kq_n {ct : Nat → ClassId} {fz : Nat → Prop} {M : hp_M} {a : Nat} {E : va_E} (h : M a = none) : kq ct fz M (hp_up M a E) :=
  ⟨stab_n h, fun q fs h1 => hp_k (hp_nn h1 h) h1, fun q c n f h1 => hp_k (hp_nn h1 h) h1⟩
def txP (ct : Nat → ClassId) (M : hp_M) (xt ch : Nat) (T : List Nat) : Prop := ∃ g : Nat → Nat, M xt = some (.inr (1, [.ref ch, .int (nI T.length)])) ∧ M ch = some (.inl (ct 0, 64, .inl (nf g))) ∧ (∀ i, i < T.length → g i = T.getD i 0) ∧ (∀ i, g i < 65536) ∧ T.length ≤ 64
def acsP (ct : Nat → ClassId) (fz : Nat → Prop) (M : hp_M) (ac : Nat) (As : List (List RowT)) : Prop := ∃ (fa : Nat → Option Nat) (ao oo : Nat → Nat) (rf : Nat → Nat → Option Nat), M ac = some (.inl (ct 4, 12, .inr (.inr (.inr (.inr fa))))) ∧ As.length ≤ 12 ∧ (∀ i, i < As.length → fa i = some (ao i) ∧ M (ao i) = some (.inr (3, [.ref (oo i), .int (nI (As.getD i []).length)])) ∧ M (oo i) = some (.inl (ct 2, 24, .inr (.inr (.inr (.inr (rf i)))))) ∧ (As.getD i []).length ≤ 24 ∧ rsOk ct fz M (rf i) (As.getD i [])) ∧ ∀ i j, i < As.length → j < As.length → (ao i = ao j ∨ oo i = oo j) → i = j
def alsP (ct : Nat → ClassId) (fz : Nat → Prop) (M : hp_M) (al : Nat) (Al : List (List Nat)) : Prop := ∃ fl : Nat → Option Nat, M al = some (.inl (ct 3, 8, .inr (.inr (.inr (.inr fl))))) ∧ (Al.length ≤ 8 ∧ ∀ i, Al.length ≤ i → fl i = none) ∧ ∀ i, i < Al.length → ∃ k, fl i = some k ∧ kyOk ct fz M k (Al.getD i [])
theorem acsP.kq {ct : Nat → ClassId} {fz : Nat → Prop} {M M1 : hp_M} {ac : Nat} {As : List (List RowT)} (h : acsP ct fz M ac As) (k : kq ct fz M M1) : acsP ct fz M1 ac As := by
  obtain ⟨fa, ao, oo, rf, h1, h2, h3, h4⟩ := h
  exact ⟨fa, ao, oo, rf, k.2.2 _ _ _ _ h1, h2, fun i hi => by obtain ⟨a1, a2, a3, a4, a5⟩ := h3 i hi; exact ⟨a1, k.2.1 _ _ a2, k.2.2 _ _ _ _ a3, a4, a5.st k.1⟩, h4⟩
theorem alsP.kq {ct : Nat → ClassId} {fz : Nat → Prop} {M M1 : hp_M} {al : Nat} {Al : List (List Nat)} (h : alsP ct fz M al Al) (k : kq ct fz M M1) : alsP ct fz M1 al Al := by
  obtain ⟨fl, h1, h2, h3⟩ := h
  exact ⟨fl, k.2.2 _ _ _ _ h1, h2, fun i hi => by obtain ⟨q, a1, a2⟩ := h3 i hi; exact ⟨q, a1, a2.st k.1⟩⟩
/-- TEXT, the actions' rows, the allowed names, the salt, the held digest's characters -/
def adW (ct : Nat → ClassId) (M : hp_M) (x xt ch sh su wo ac al sc hg : Nat) (T : List Nat) (Y : ShT) (As : List (List RowT)) (Al : List (List Nat)) (sa hd : List Nat) : Prop :=
  M x = some (xO xt sh ac As.length al Al.length sc hg) ∧ txP ct M xt ch T ∧ shOk ct M sh su wo Y ∧ acsP ct (fzc ch hg) M ac As ∧ alsP ct (fzc ch hg) M al Al ∧ (M sc = some (.inl (ct 0, sa.length, .inl (tx sa))) ∧ sa.length ≤ 16 ∧ (∀ i, sa.getD i 0 < 65536) ∧ fzc ch hg sc) ∧ (M hg = some (.inl (ct 0, 64, .inl (tx hd))) ∧ hd.length = 64 ∧ ∀ i, hd.getD i 0 < 65536) ∧ ch ≠ hg
theorem adW.atP {ct : Nat → ClassId} {M : hp_M} {x xt ch sh su wo ac al sc hg : Nat} {T : List Nat} {Y : ShT} {As : List (List RowT)} {Al : List (List Nat)} {sa hd : List Nat} (h : adW ct M x xt ch sh su wo ac al sc hg T Y As Al sa hd) : atP ct (fzc ch hg) M x As ∧ alP ct (fzc ch hg) M x Al := by
  obtain ⟨h1, -, -, ⟨fa, ao, oo, rf, a1, a2, a3, -⟩, ⟨fl, b1, b2, b3⟩, -⟩ := h
  exact ⟨⟨_, _, _, _, _, _, _, fa, h1, a1, a2, fun i hi => by obtain ⟨c1, c2, c3, c4, c5⟩ := a3 i hi; exact ⟨_, c1, _, _, c2, c3, c4, c5⟩⟩, ⟨_, _, _, _, _, _, _, fl, h1, b1, b2, b3⟩⟩
theorem shOk.k {ct : Nat → ClassId} {M : hp_M} {sh su wo a : Nat} {Y : ShT} {E : va_E} (h : shOk ct M sh su wo Y) (h1 : su ≠ a) (h2 : wo ≠ a) (h3 : sh ≠ a) : shOk ct (hp_up M a E) sh su wo Y := ⟨hp_k h1 h.1, hp_k h2 h.2.1, hp_k h3 h.2.2.1, h.2.2.2⟩
/-- TEXT becomes another -/
theorem adW.text {ct : Nat → ClassId} {M : hp_M} {x xt ch sh su wo ac al sc hg : Nat} {T : List Nat} {Y : ShT} {As : List (List RowT)} {Al : List (List Nat)} {sa hd : List Nat} (h : adW ct M x xt ch sh su wo ac al sc hg T Y As Al sa hd) (hne : ct 0 ≠ ct 1) (g : Nat → Nat) (T1 : List Nat) (h1 : ∀ i, i < T1.length → g i = T1.getD i 0) (h2 : ∀ i, g i < 65536) (h3 : T1.length ≤ 64) : adW ct (hp_up (hp_up M ch (.inl (ct 0, 64, .inl (nf g)))) xt (.inr (1, [.ref ch, .int (nI T1.length)]))) x xt ch sh su wo ac al sc hg T1 Y As Al sa hd := by
  obtain ⟨a1, ⟨g0, b1, b2, b3, b4, b5⟩, c, d, e, ⟨f1, f2, f3, f4⟩, ⟨k1, k2, k3⟩, n⟩ := h
  have e1 := hp_ne a1 b1 (by simp)
  have e2 := hp_ne a1 b2 (by simp)
  have e3 := hp_ne b2 b1 (by simp)
  have i1 : ∀ (q n : Nat) (f : Nat → Int32), M q = some (.inl (ct 1, n, .inl f)) → q ≠ ch := fun q n f hq => hp_ne hq b2 (fun z => hne (congrArg Prod.fst (Sum.inl.inj z)).symm)
  have i2 : ∀ (q n : Nat) (f : Nat → Int32), M q = some (.inl (ct 1, n, .inl f)) → q ≠ xt := fun q n f hq => hp_ne hq b1 (by simp)
  have kk : kq ct (fzc ch hg) M (hp_up (hp_up M ch (.inl (ct 0, 64, .inl (nf g)))) xt (.inr (1, [.ref ch, .int (nI T1.length)]))) := (kq_c b2 (fun z => z.1 rfl)).tr (kq_o (hp_k (Ne.symm e3) b1) (by decide))
  refine ⟨hp_k e1 (hp_k e2 a1), ⟨g, hp_us, hp_k e3 hp_us, h1, h2, h3⟩, (c.k (i1 _ _ _ c.1) (i1 _ _ _ c.2.1) (hp_ne c.2.2.1 b2 (by simp))).k (i2 _ _ _ c.1) (i2 _ _ _ c.2.1) (hp_ne c.2.2.1 b1 (by simp)), d.kq kk, e.kq kk, ⟨hp_k (hp_ne f1 b1 (by simp)) (hp_k f4.1 f1), f2, f3, f4⟩, ⟨hp_k (hp_ne k1 b1 (by simp)) (hp_k (Ne.symm n) k1), k2, k3⟩, n⟩
/-- a new cell beside -/
theorem adW.new {ct : Nat → ClassId} {M : hp_M} {x xt ch sh su wo ac al sc hg : Nat} {T : List Nat} {Y : ShT} {As : List (List RowT)} {Al : List (List Nat)} {sa hd : List Nat} (h : adW ct M x xt ch sh su wo ac al sc hg T Y As Al sa hd) {q : Nat} {E : va_E} (hq : M q = none) : adW ct (hp_up M q E) x xt ch sh su wo ac al sc hg T Y As Al sa hd ∧ fzc ch hg q := by
  obtain ⟨a1, ⟨g0, b1, b2, b3, b4, b5⟩, c, d, e, ⟨f1, f2, f3, f4⟩, ⟨k1, k2, k3⟩, n⟩ := h
  exact ⟨⟨hp_k (hp_nn a1 hq) a1, ⟨g0, hp_k (hp_nn b1 hq) b1, hp_k (hp_nn b2 hq) b2, b3, b4, b5⟩, c.k (hp_nn c.1 hq) (hp_nn c.2.1 hq) (hp_nn c.2.2.1 hq), d.kq (kq_n hq), e.kq (kq_n hq), ⟨hp_k (hp_nn f1 hq) f1, f2, f3, f4⟩, ⟨hp_k (hp_nn k1 hq) k1, k2, k3⟩, n⟩, ⟨fun z => hp_nn b2 hq z.symm, fun z => hp_nn k1 hq z.symm⟩⟩
/-- the Sha moves -/
theorem adW.sha {ct : Nat → ClassId} {M : hp_M} {x xt ch sh su wo ac al sc hg : Nat} {T : List Nat} {Y : ShT} {As : List (List RowT)} {Al : List (List Nat)} {sa hd : List Nat} (h : adW ct M x xt ch sh su wo ac al sc hg T Y As Al sa hd) (hne : ct 0 ≠ ct 1) {X : ShT} (hX : X.2.2.1 ≤ 64) : adW ct (shM ct M sh su wo X) x xt ch sh su wo ac al sc hg T X As Al sa hd := by
  obtain ⟨a1, ⟨g0, b1, b2, b3, b4, b5⟩, c, d, e, ⟨f1, f2, f3, f4⟩, ⟨k1, k2, k3⟩, n⟩ := h
  have kc : ∀ (q n : Nat) (f : Nat → Int32), M q = some (.inl (ct 0, n, .inl f)) → shM ct M sh su wo X q = some (.inl (ct 0, n, .inl f)) := fun q n f hq => shM_k hq (hp_ne hq c.1 (fun z => hne (congrArg Prod.fst (Sum.inl.inj z)))) (hp_ne hq c.2.1 (fun z => hne (congrArg Prod.fst (Sum.inl.inj z)))) (hp_ne hq c.2.2.1 (by simp))
  have kk : kq ct (fzc ch hg) M (shM ct M sh su wo X) := kq_sh hne c
  exact ⟨xO_sh c a1, ⟨g0, shM_k b1 (hp_ne b1 c.1 (by simp)) (hp_ne b1 c.2.1 (by simp)) (hp_ne b1 c.2.2.1 (by simp)), kc _ _ _ b2, b3, b4, b5⟩, shM_ok c hX, d.kq kk, e.kq kk, ⟨kc _ _ _ f1, f2, f3, f4⟩, ⟨kc _ _ _ k1, k2, k3⟩, n⟩
/-- another content is held -/
theorem adW.held {ct : Nat → ClassId} {M : hp_M} {x xt ch sh su wo ac al sc hg : Nat} {T : List Nat} {Y : ShT} {As : List (List RowT)} {Al : List (List Nat)} {sa hd : List Nat} (h : adW ct M x xt ch sh su wo ac al sc hg T Y As Al sa hd) (hne : ct 0 ≠ ct 1) {h2 : List Nat} (hl : h2.length = 64) (hc : ∀ i, h2.getD i 0 < 65536) : adW ct (hp_up M hg (.inl (ct 0, 64, .inl (tx h2)))) x xt ch sh su wo ac al sc hg T Y As Al sa h2 := by
  obtain ⟨a1, ⟨g0, b1, b2, b3, b4, b5⟩, c, d, e, ⟨f1, f2, f3, f4⟩, ⟨k1, k2, k3⟩, n⟩ := h
  have kk : kq ct (fzc ch hg) M (hp_up M hg (.inl (ct 0, 64, .inl (tx h2)))) := kq_c k1 (fun z => z.2 rfl)
  have i1 : ∀ (q n : Nat) (f : Nat → Int32), M q = some (.inl (ct 1, n, .inl f)) → q ≠ hg := fun q n f hq => hp_ne hq k1 (fun z => hne (congrArg Prod.fst (Sum.inl.inj z)).symm)
  exact ⟨hp_k (hp_ne a1 k1 (by simp)) a1, ⟨g0, hp_k (hp_ne b1 k1 (by simp)) b1, hp_k n b2, b3, b4, b5⟩, c.k (i1 _ _ _ c.1) (i1 _ _ _ c.2.1) (hp_ne c.2.2.1 k1 (by simp)), d.kq kk, e.kq kk, ⟨hp_k f4.2 f1, f2, f3, f4⟩, ⟨hp_us, hl, hc⟩, n⟩
/-- the digits of a digest -/
def hexL (s : Nat → Int32) : List Nat := (List.range 64).map (hexF s)
theorem hexL_len {s : Nat → Int32} : (hexL s).length = 64 := by unfold hexL; rw [List.length_map, List.length_range]
theorem hexL_at {s : Nat → Int32} {i : Nat} (h : i < 64) : (hexL s).getD i 0 = hexF s i := by
  unfold hexL
  rw [List.getD_eq_getElem?_getD, List.getElem?_map, List.getElem?_range h]
  rfl
theorem hexF_lt {s : Nat → Int32} {i : Nat} : hexF s i < 128 := by
  unfold hexF hexC
  have h : nibN (s (i / 8)) (28 - 4 * (i % 8)) < 16 := Nat.mod_lt _ (by decide)
  by_cases q : nibN (s (i / 8)) (28 - 4 * (i % 8)) < 10
  · rw [if_pos q]; omega
  · rw [if_neg q]; omega
theorem hexL_lt {s : Nat → Int32} (i : Nat) : (hexL s).getD i 0 < 128 := by
  rcases Nat.lt_or_ge i 64 with h | h
  · rw [hexL_at h]; exact hexF_lt
  · rw [List.getD_eq_getElem?_getD, List.getElem?_eq_none (by rw [hexL_len]; exact h)]; decide
theorem d_AD_type_0 : decode b_AD_type 0 = .ok (.aload_n 0, 1) := by decide +kernel
theorem d_AD_type_1 : decode b_AD_type 1 = .ok (.getfield 10, 3) := by decide +kernel
theorem d_AD_type_4 : decode b_AD_type 4 = .ok (.iload_n 1, 1) := by decide +kernel
theorem d_AD_type_5 : decode b_AD_type 5 = .ok (.invokevirtual 53, 3) := by decide +kernel
theorem d_AD_type_8 : decode b_AD_type 8 = .ok (.ireturn, 1) := by decide +kernel
theorem d_AD_hold_0 : decode b_AD_hold 0 = .ok (.aload_n 0, 1) := by decide +kernel
theorem d_AD_hold_1 : decode b_AD_hold 1 = .ok (.aload_n 0, 1) := by decide +kernel
theorem d_AD_hold_2 : decode b_AD_hold 2 = .ok (.getfield 10, 3) := by decide +kernel
theorem d_AD_hold_5 : decode b_AD_hold 5 = .ok (.invokevirtual 65, 3) := by decide +kernel
theorem d_AD_hold_8 : decode b_AD_hold 8 = .ok (.invokevirtual 49, 3) := by decide +kernel
theorem d_AD_hold_11 : decode b_AD_hold 11 = .ok (.return_, 1) := by decide +kernel
set_option maxHeartbeats 4000000 in
set_option maxRecDepth 100000 in
/-- type(c) -/
theorem c_AD_type (l : Launch) (D : va_G) (ct : Nat → ClassId) (Z : hp_Z) (hZ : hp_Zok Z) (M : hp_M) (sz : Nat) (x xt ch sh su wo ac al sc hg : Nat) (T : List Nat) (Y : ShT) (As : List (List RowT)) (Al : List (List Nat)) (sa hd : List Nat) (hw : adW ct M x xt ch sh su wo ac al sc hg T Y As Al sa hd) (k : Nat) (hk : k < 65536) : Mi l y_AD_type b_AD_type 2 (some .boolean) 1 21 0 0 [.ref x, .int (nI k)] D ct Z M sz (fun r M1 => ((32 ≤ k ∧ k ≤ 126 ∧ T.length < 64) ∧ r = nI 1 ∧ adW ct M1 x xt ch sh su wo ac al sc hg (T ++ [k]) Y As Al sa hd) ∨ (¬ (32 ≤ k ∧ k ≤ 126 ∧ T.length < 64) ∧ r = nI 0 ∧ M1 = M)) := by
  refine hp_start (by decide) (Nat.le_of_ble_eq_true rfl) (fun p e s m below meth c ls S hret hlk hnm hsz hK hM hS hA hz hl => ?_)
  have hx := S.1
  have hb := S.2.1
  have hl : lv_has ls 2 [(0, .ref x), (1, .int (nI k))] := hl
  obtain ⟨f_x, ⟨g0, f_xt, f_ch, hg0, hgb, hT⟩, hsh, hacs, hals, ⟨f_sc, hsal, hc_sa, hfsc⟩, ⟨f_hg, hdl, hc_hd⟩, hchg⟩ := id hw
  refine lv_aload_n hx hb d_AD_type_0 rfl (lv_at hl 0 rfl) ?_
  refine hp_get S hK hM i_AD f_x rfl 0 (by decide) mf_AD_10 (fun _ h9 => h9) rfl d_AD_type_1 ?_
  refine lv_iload_n hx hb d_AD_type_4 rfl (lv_at hl 1 rfl) ?_
  refine hp_calli (go_V S hZ hK hM hS hA hz (c_TX_append l D ct Z hZ _ _ xt ch T.length g0 hT f_xt f_ch k hk) mc_TX_append mz_TX ml_AD_53 mi_TX_append mx_TX_append hd_TX_append rfl ⟨by decide, by decide⟩ f_xt rfl rfl hl.1 rfl (Nat.le_of_ble_eq_true rfl) d_AD_type_5 ⟨by decide, by decide⟩) hM hS hA (fun r M9 H locs h9 hM hS => ?_)
  rcases h9 with ⟨h1, rfl, rfl⟩ | ⟨h1, rfl, rfl⟩
  · refine hp_iret S hret hlk rfl hM hS (Or.inl ⟨h1, rfl, ?_⟩) d_AD_type_8
    have h2 := hw.text (ct01 hK) (va_up g0 T.length k) (T ++ [k]) (fun i hi => ?_) (fun i => ?_) (by rw [List.length_append]; show T.length + 1 ≤ 64; omega)
    · rw [List.length_append] at h2; exact h2
    · by_cases z : i = T.length
      · rw [z, up_s, List.getD_eq_getElem?_getD, List.getElem?_append_right (Nat.le_refl _), Nat.sub_self]; rfl
      · rw [List.length_append] at hi; have hi : i < T.length + 1 := hi; rw [up_n z, hg0 i (by omega), List.getD_eq_getElem?_getD, List.getD_eq_getElem?_getD, List.getElem?_append_left (by omega)]
    · by_cases z : i = T.length
      · rw [z, up_s]; exact hk
      · rw [up_n z]; exact hgb i
  · exact hp_iret S hret hlk rfl hM hS (Or.inr ⟨h1, rfl, rfl⟩) d_AD_type_8
/-- TEXT is taken: a new array q holds it, TEXT is empty -/
theorem adW.take {ct : Nat → ClassId} {M : hp_M} {x xt ch sh su wo ac al sc hg : Nat} {T : List Nat} {Y : ShT} {As : List (List RowT)} {Al : List (List Nat)} {sa hd : List Nat} (h : adW ct M x xt ch sh su wo ac al sc hg T Y As Al sa hd) (hne : ct 0 ≠ ct 1) {q : Nat} (hq : M q = none) : adW ct (hp_up (hp_up M q (.inl (ct 0, T.length, .inl (tx T)))) xt (.inr (1, [.ref ch, .int (nI 0)]))) x xt ch sh su wo ac al sc hg [] Y As Al sa hd ∧ fzc ch hg q ∧ hp_up (hp_up M q (.inl (ct 0, T.length, .inl (tx T)))) xt (.inr (1, [.ref ch, .int (nI 0)])) q = some (.inl (ct 0, T.length, .inl (tx T))) := by
  obtain ⟨g1, b1, b2, b3, b4, b5⟩ := h.2.1
  have h1 := h.new (E := .inl (ct 0, T.length, .inl (tx T))) hq
  have h2 := h1.1.text hne g1 [] (fun i hi => absurd hi (Nat.not_lt_zero i)) b4 (by decide)
  rw [hp_same (hp_k (hp_nn b2 hq) b2)] at h2
  exact ⟨h2, h1.2, hp_k (Ne.symm (hp_nn b1 hq)) hp_us⟩
theorem take_cong {D : va_G} {ct : Nat → ClassId} {A : Nat → Prop} {M : hp_M} {H : Heap} {q xt : Nat} {T : List Nat} {g : Nat → Nat} {E : va_E} (hqx : q ≠ xt) (h : hp_H D ccl A (hp_up (hp_up M q (.inl (ct 0, T.length, .inl (nf g)))) xt E) H) (hg : ∀ i, i < T.length → g i = T.getD i 0) : hp_H D ccl A (hp_up (hp_up M q (.inl (ct 0, T.length, .inl (tx T)))) xt E) H := by
  have h1 := h.cong (a := q) (g := tx T) (hp_k hqx hp_us) (fun i hi => congrArg nI (hg i hi))
  rw [hp_uc (Ne.symm hqx), hp_uu] at h1
  exact h1
set_option maxHeartbeats 4000000 in
set_option maxRecDepth 100000 in
/-- hold() -/
theorem c_AD_hold (l : Launch) (D : va_G) (ct : Nat → ClassId) (Z : hp_Z) (hZ : hp_Zok Z) (M : hp_M) (sz : Nat) (tk th : Nat) (hzk : zK Z tk) (hzh : zH Z th) (x xt ch sh su wo ac al sc hg : Nat) (T : List Nat) (Y : ShT) (As : List (List RowT)) (Al : List (List Nat)) (sa hd : List Nat) (hw : adW ct M x xt ch sh su wo ac al sc hg T Y As Al sa hd) (hcT : ∀ i, T.getD i 0 < 65536) : Mv l y_AD_hold b_AD_hold 1 none 5 120 1 64 [.ref x] D ct Z M sz (fun M1 => ∃ X : ShT, adW ct M1 x xt ch sh su wo ac al sc hg [] X As Al sa (hexL (dgW Y.2.1 T))) := by
  refine hp_start (by decide) (Nat.le_of_ble_eq_true rfl) (fun p e s m below meth c ls S hret hlk hnm hsz hK hM hS hA hz hl => ?_)
  have hx := S.1
  have hb := S.2.1
  have hl : lv_has ls 1 [(0, .ref x)] := hl
  obtain ⟨f_x, ⟨g0, f_xt, f_ch, hg0, hgb, hT⟩, hsh, hacs, hals, ⟨f_sc, hsal, hc_sa, hfsc⟩, ⟨f_hg, hdl, hc_hd⟩, hchg⟩ := id hw
  refine lv_aload_n hx hb d_AD_hold_0 rfl (lv_at hl 0 rfl) ?_
  refine lv_aload_n hx hb d_AD_hold_1 rfl (lv_at hl 0 rfl) ?_
  refine hp_get S hK hM i_AD f_x rfl 0 (by decide) mf_AD_10 (fun _ h9 => h9) rfl d_AD_hold_2 ?_
  refine hp_callq (go_V S hZ hK hM hS hA hz (c_TX_take l D ct Z hZ _ _ xt ch T.length g0 hT f_xt f_ch hgb) mc_TX_take mz_TX ml_AD_65 mi_TX_take mx_TX_take hd_TX_take rfl ⟨by decide, by decide⟩ f_xt rfl rfl hl.1 rfl (Nat.le_of_ble_eq_true rfl) d_AD_hold_5 ⟨by decide, by decide⟩) hM hS hA (fun r9 M9 H locs h9 hM hS => ?_)
  obtain ⟨q, rfl, hqn, rfl⟩ := h9
  replace hM := take_cong (Ne.symm (hp_nn f_xt hqn)) hM hg0
  obtain ⟨hw2, hfq, f_q⟩ := hw.take (ct01 hK) hqn
  obtain ⟨M2, eM2⟩ : ∃ z, z = hp_up (hp_up M q (.inl (ct 0, T.length, .inl (tx T)))) xt (.inr (1, [.ref ch, .int (nI 0)])) := ⟨_, rfl⟩
  rw [← eM2] at hM hw2 f_q
  obtain ⟨f_x, ⟨g2, f_xt, f_ch, -, hgb2, -⟩, hsh, hacs, hals, ⟨f_sc, hsal, hc_sa, hfsc⟩, ⟨f_hg, hdl, hc_hd⟩, hchg⟩ := id hw2
  refine hp_callv (go_V S hZ hK hM hS hA hz (c_AD_holdContent l D ct Z hZ _ _ tk th hzk hzh (fzc ch hg) x xt sh ac As.length al Al.length sc hg f_x su wo Y hsh hd f_hg q T (by omega) hcT f_q) mc_AD_holdContent mz_AD ml_AD_49 mi_AD_holdContent mx_AD_holdContent hd_AD_holdContent rfl ⟨by decide, by decide⟩ f_x rfl rfl hl.1 rfl (Nat.le_of_ble_eq_true rfl) d_AD_hold_8 ⟨by decide, by decide⟩) hM hS hA (fun M9 H locs h9 hM hS => ?_)
  obtain ⟨X, hX, rfl⟩ := h9
  have hw3 := hw2.sha (ct01 hK) hX
  have f_hg3 := hw3.2.2.2.2.2.2.1.1
  replace hM := hM.cong (a := hg) (g := tx (hexL (dgW Y.2.1 T))) hp_us (fun i hi => congrArg nI (hexL_at hi).symm)
  rw [hp_uu] at hM
  exact hp_vret S hret hlk hM hS ⟨X, hw3.held (ct01 hK) hexL_len (fun i => Nat.lt_trans (hexL_lt i) (by decide))⟩ d_AD_hold_11
