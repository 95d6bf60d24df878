/-! THE CLAIM OUT OF ONE WALK OF THE LAW'S BODY. Your part is whole_start (and what it stands on); all else here is the same for every law, but numbers. -/
def R_law : String := "ActionDigestsLaw"
def lw_P (b : Addr) (xs : List Int32) (args : Array Value) (s : State) : Prop := args = #[.ref b] ∧ s.IntsAt b xs ∧ xs.length ≤ 1536 ∧ (Jvm.Cond.and given_1 narrow_1).before args s = true
def lw_Q (_ : Array Value) (s : State) (o : Outcome) (t : State) : Prop := o = .returned (some (.int 1)) ∧ Framed s o t [] 601024 7293034
def lw_Z (below : List Frame) (a : Array Value) (s : State) : State → Prop := fun t => ∃ o, t.status = .running ∧ Ended t below o ∧ lw_Q a s o t
/-- the law's own end, with 1 on the stack, nothing written that was there before, its room as the claim has it -/
theorem lw_ret {p : Program} {l : Launch} {e : Env} {s : State} {m : MethodId} {below : List Frame} {meth : Method} {c : Code} {b : Nat} (hx : p.tables.exec = Jvm.exec) (hb : c.code = code) (hr : meth.sig.returnType = ret) (hlocks : meth.locks = false) {pc : Nat} {H : Heap} {ls : Array Slot} (hdg : decode code pc = .ok (.ireturn, 1)) : W p l e room_1 s m #[Value.ref b] below meth c H [] 601024 7293034 (lw_Z below #[Value.ref b] s) (F0 m pc ls [.int 1]) := by
  intro T hT X
  obtain ⟨fs, hret, hrun, hended, hW, hframe⟩ := X.leave (v := some (.int 1)) (hlocks := hlocks) (fun h => by rw [hr] at h; cases h)
  have hmeth' : T.vm.method? m = some meth := X.method'
  refine ⟨T.setFrames fs, ?_, .returned (some (.int 1)), hrun, hended, rfl, ⟨_, rfl⟩, hW, hframe⟩
  jvm_step X.here [X.here.top, hx, hb, hdg, hmeth', hr, ret, narrow_b1]
  (try refine ⟨rfl, ?_⟩); (try refine ⟨rfl, ?_⟩)
  first | (intro acts; rw [hret _ acts rfl rfl rfl]) | rw [hret _ _ rfl rfl rfl]
  exact Steps.refl _
/-- what holds at the law's entry: the machine, the code, the tables' words (any of lw_tbl by 'hts w (by decide +kernel)'), the script of L ints xs at the cell b, what the Statement gives of the start (any of its parts by flat_of_before) -/
def lw_At (p : Program) (s : State) (m : MethodId) (meth : Method) (c : Code) (b L : Nat) (xs : Nat → Int32) : Prop :=
  p.tables.exec = Jvm.exec ∧ c.code = code ∧ meth.sig.returnType = ret ∧ c.maxLocals = 7 ∧ s.vm.findClass R_law = some m.cls ∧ (∀ w ∈ lw_tbl, w.before #[Value.ref b] s = true) ∧ va_X b L xs s s.heap ∧ b < s.heap.size ∧ meth.locks = false ∧ (Jvm.Cond.and given_1 narrow_1).before #[Value.ref b] s = true
theorem lw_exit (l : Launch) {p : Program} {e : Env} {s : State} {m : MethodId} {below : List Frame} {meth : Method} {c : Code} {b : Nat} {H : Heap} {locs : List Loc} {cells slots : Nat} {ls : Array Slot} (hx : p.tables.exec = Jvm.exec) (hb : c.code = code) (hr : meth.sig.returnType = ret) (hlk : meth.locks = false) (hrc : cells ≤ 500000) (hrs : slots ≤ 7000000) (hS : va_S (A0 s) s.heap H locs) : W p l e room_1 s m #[Value.ref b] below meth c H locs cells slots (lw_Z below #[Value.ref b] s) (F0 m 563 ls []) := by
  refine lv_iconst (v := 1) hx hb d_LW_law_563 rfl ?_
  refine va_forget (fun q hq => hS.2.2 q hq) ?_
  refine W.widen (k := 601024) (n := 7293034) (Nat.le_trans hrc (by decide)) (Nat.le_trans hrs (by decide)) ?_
  exact lw_ret hx hb hr hlk d_LW_law_564
set_option maxHeartbeats 4000000 in
set_option maxRecDepth 100000 in
theorem lw_loop (l : Launch) {p : Program} {e : Env} {s : State} {m : MethodId} {below : List Frame} {meth : Method} {c : Code} {b L : Nat} {xs : Nat → Int32} {D : va_G} {ct : Nat → ClassId} {Z : hp_Z} {x md o tk th : Nat} (F : lwF l p s m c b L xs D ct Z tk th) (hr : meth.sig.returnType = ret) (hlk : meth.locks = false) (h3 : 3 ≤ L) : ∀ (fu j cells slots : Nat) (H : Heap) (locs : List Loc) (ls : Array Slot), L ≤ j + 3 * fu + 2 → j ≤ L → cells + 8 * fu ≤ 500000 → slots + 300 * fu ≤ 7000000 → lv_has ls 7 [(4, .int (nI j)), (0, .ref b), (1, .ref x), (2, .ref md), (3, .ref o)] → lwI D ct s x md o H → va_S (A0 s) s.heap H locs → W p l e room_1 s m #[Value.ref b] below meth c H locs cells slots (lw_Z below #[Value.ref b] s) (F0 m 23 ls []) := by
  intro fu
  induction fu with
  | zero =>
    intro j cells slots H locs ls hfu hjL hrc hrs hl I hS
    obtain ⟨S, hZ, hK, hz, hX, hbl, hzk, hzh, hzn, hza, hzx, hzc, hlt, hL⟩ := F
    have hx := S.1
    have hb := S.2.1
    have hbA : ¬ A0 s b := Nat.not_le.mpr hbl
    refine lv_iload hx hb d_LW_law_23 (lv_at hl 0 rfl) ?_
    refine lv_aload_n hx hb d_LW_law_25 rfl (lv_at hl 1 rfl) ?_
    refine va_slen hx hb hX hbl hbA hS d_LW_law_26 ?_
    refine lv_iconst (v := nI 3) hx hb d_LW_law_27 rfl ?_
    refine nb_isub (a := L) hx hb d_LW_law_28 h3 ?_
    refine nb_gt (tgt := 563) hx hb d_LW_law_29 (by decide) (by omega) (by omega) (fun _ => ?_) (fun h => ?_)
    · exact lw_exit l hx hb hr hlk (by omega) (by omega) hS
    · exfalso; omega
  | succ fu ih =>
    intro j cells slots H locs ls hfu hjL hrc hrs hl I hS
    have F9 := F
    obtain ⟨S, hZ, hK, hz, hX, hbl, hzk, hzh, hzn, hza, hzx, hzc, hlt, hL⟩ := F
    have hx := S.1
    have hb := S.2.1
    have hbA : ¬ A0 s b := Nat.not_le.mpr hbl
    refine lv_iload hx hb d_LW_law_23 (lv_at hl 0 rfl) ?_
    refine lv_aload_n hx hb d_LW_law_25 rfl (lv_at hl 1 rfl) ?_
    refine va_slen hx hb hX hbl hbA hS d_LW_law_26 ?_
    refine lv_iconst (v := nI 3) hx hb d_LW_law_27 rfl ?_
    refine nb_isub (a := L) hx hb d_LW_law_28 h3 ?_
    refine nb_gt (tgt := 563) hx hb d_LW_law_29 (by decide) (by omega) (by omega) (fun _ => ?_) (fun h => ?_)
    · exact lw_exit l hx hb hr hlk (by omega) (by omega) hS
    · have hj : j + 2 < L := by omega
      have kk : ∀ (H1 : Heap) (locs1 : List Loc) (ls1 : Array Slot), lwI D ct s x md o H1 → va_S (A0 s) s.heap H1 locs1 → lv_has ls1 7 [(4, .int (nI j)), (0, .ref b), (1, .ref x), (2, .ref md), (3, .ref o)] → W p l e room_1 s m #[Value.ref b] below meth c H1 locs1 (cells + 8) (slots + 300) (lw_Z below #[Value.ref b] s) (F0 m 557 ls1 []) := fun H1 locs1 ls1 I1 hS1 hl1 => by
        refine lv_iinc (v := nI (j + 3)) (lv' := [(4, .int (nI (j + 3))), (0, .ref b), (1, .ref x), (2, .ref md), (3, .ref o)]) hx hb d_LW_law_557 hl1 (k := 0) rfl (nI_add j 3) (by decide) rfl (fun ls hl => ?_)
        refine lv_goto (tgt := 23) hx hb d_LW_law_560 (by decide) ?_
        exact ih (j + 3) (cells + 8) (slots + 300) H1 locs1 ls (by omega) (by omega) (by omega) (by omega) hl I1 hS1
      refine lv_aload_n hx hb d_LW_law_32 rfl (lv_at hl 1 rfl) ?_
      refine lv_iload hx hb d_LW_law_33 (lv_at hl 0 rfl) ?_
      refine va_sld hx hb hX hbl hbA hS (i := nI j) (vp_in_nI (by omega) (by omega)) d_LW_law_35 ?_
      rw [nI_clamp (n := j) (by omega)]
      refine lv_bipush (v := nI 15) hx hb d_LW_law_36 rfl ?_
      refine lv_iand hx hb d_LW_law_38 ?_
      obtain ⟨t, ht, et⟩ := pk_andE (xs j) (m := nI 15) 4 (by decide)
      rw [et]
      have ht : t < 16 := ht
      rcases (show t = 0 ∨ t = 1 ∨ t = 2 ∨ t = 3 ∨ t = 4 ∨ t = 5 ∨ t = 6 ∨ t = 7 ∨ t = 8 ∨ t = 9 ∨ t = 10 ∨ t = 11 ∨ t = 12 ∨ t = 13 ∨ t = 14 ∨ t = 15 by omega) with rfl | rfl | rfl | rfl | rfl | rfl | rfl | rfl | rfl | rfl | rfl | rfl | rfl | rfl | rfl | rfl
      · refine lv_tableIn (tgt := 108) hx hb d_LW_law_39 (by decide) (by decide) rfl (by decide) ?_
        exact lw_0 l F9 hj (by omega) (by omega) hl I hS kk
      · refine lv_tableIn (tgt := 135) hx hb d_LW_law_39 (by decide) (by decide) rfl (by decide) ?_
        exact lw_1 l F9 hj (by omega) (by omega) hl I hS kk
      · refine lv_tableIn (tgt := 179) hx hb d_LW_law_39 (by decide) (by decide) rfl (by decide) ?_
        exact lw_2 l F9 hj (by omega) (by omega) hl I hS kk
      · refine lv_tableIn (tgt := 190) hx hb d_LW_law_39 (by decide) (by decide) rfl (by decide) ?_
        exact lw_3 l F9 hj (by omega) (by omega) hl I hS kk
      · refine lv_tableIn (tgt := 238) hx hb d_LW_law_39 (by decide) (by decide) rfl (by decide) ?_
        exact lw_4 l F9 hj (by omega) (by omega) hl I hS kk
      · refine lv_tableIn (tgt := 286) hx hb d_LW_law_39 (by decide) (by decide) rfl (by decide) ?_
        exact lw_5 l F9 hj (by omega) (by omega) hl I hS kk
      · refine lv_tableIn (tgt := 310) hx hb d_LW_law_39 (by decide) (by decide) rfl (by decide) ?_
        exact lw_6 l F9 hj (by omega) (by omega) hl I hS kk
      · refine lv_tableIn (tgt := 334) hx hb d_LW_law_39 (by decide) (by decide) rfl (by decide) ?_
        exact lw_7 l F9 hj (by omega) (by omega) hl I hS kk
      · refine lv_tableIn (tgt := 359) hx hb d_LW_law_39 (by decide) (by decide) rfl (by decide) ?_
        exact lw_8 l F9 hj (by omega) (by omega) hl I hS kk
      · refine lv_tableIn (tgt := 396) hx hb d_LW_law_39 (by decide) (by decide) rfl (by decide) ?_
        exact lw_9 l F9 hj (by omega) (by omega) hl I hS kk
      · refine lv_tableIn (tgt := 421) hx hb d_LW_law_39 (by decide) (by decide) rfl (by decide) ?_
        exact lw_10 l F9 hj (by omega) (by omega) hl I hS kk
      · refine lv_tableIn (tgt := 458) hx hb d_LW_law_39 (by decide) (by decide) rfl (by decide) ?_
        exact lw_11 l F9 hj (by omega) (by omega) hl I hS kk
      · refine lv_tableIn (tgt := 495) hx hb d_LW_law_39 (by decide) (by decide) rfl (by decide) ?_
        exact lw_12 l F9 hj (by omega) (by omega) hl I hS kk
      · refine lv_tableIn (tgt := 532) hx hb d_LW_law_39 (by decide) (by decide) rfl (by decide) ?_
        exact lw_13 l F9 hj (by omega) (by omega) hl I hS kk
      · refine lv_tableOut (tgt := 557) hx hb d_LW_law_39 (by decide) (by decide) ?_
        refine W.widen (k := cells + 8) (n := slots + 300) (by omega) (by omega) ?_
        exact kk _ _ _ I hS hl
      · refine lv_tableOut (tgt := 557) hx hb d_LW_law_39 (by decide) (by decide) ?_
        refine W.widen (k := cells + 8) (n := slots + 300) (by omega) (by omega) ?_
        exact kk _ _ _ I hS hl
set_option maxHeartbeats 4000000 in
set_option maxRecDepth 100000 in
/-- YOUR PART: from the entry, for every script of at most 1536 ints, the law comes to its end with true -/
theorem whole_start {p : Program} {e : Env} {s : State} {m : MethodId} {below : List Frame} {meth : Method} {c : Code} (l : Launch) (hl9 : l.stackTraces = false) {b L : Nat} {xs : Nat → Int32} (hL : L ≤ 1536) (C0 : lw_At p s m meth c b L xs) : W p l e room_1 s m #[Value.ref b] below meth c s.heap [] 0 0 (lw_Z below #[Value.ref b] s) (entryFrame m ([Value.ref b] : List Value).toArray 7) := by
  obtain ⟨hx, hb, hr, hml, hown, hts, hX, hbl, hlk, hgv⟩ := C0
  obtain ⟨D, ct, hK⟩ := law_K hts
  obtain ⟨tk, th, hz⟩ := law_Z hts hgv
  have S : CallFix p m c code 7 s #[Value.ref b] tb "ActionDigestsLaw" := ⟨hx, hb, hml, hown, fun w h => hts w (List.mem_filter.mp h).1⟩
  have hZ := Z0_ok tk th
  have hA : ∀ q, s.heap.size ≤ q → A0 s q := fun q h => h
  have hbA : ¬ A0 s b := Nat.not_le.mpr hbl
  have hl := lv_entry [Value.ref b] (n := 7) (Nat.le_of_ble_eq_true rfl)
  rw [lg_entry_eq]
  generalize (lg_sl [Value.ref b] ++ List.replicate (7 - (lg_sl [Value.ref b]).length) Slot.unset).toArray = ls at hl ⊢
  have hl : lv_has ls 7 [(0, .ref b)] := hl
  have hS : va_S (A0 s) s.heap s.heap [] := va_S.rf
  refine hp_new (ci := 0) (fs := [.null, .null, .null, .int (nI 0), .null, .int (nI 0), .null, .null]) S hK (hp_0 (D := D) (cl := ccl) (A := A0 s)) hS hA i_AD t_AD to_AD mk_LW_8 mt_AD mz_AD rfl (fun j hj => by rcases (show j = 0 ∨ j = 1 ∨ j = 2 ∨ j = 3 ∨ j = 4 ∨ j = 5 ∨ j = 6 ∨ j = 7 by omega) with rfl | rfl | rfl | rfl | rfl | rfl | rfl | rfl <;> rfl) (by decide) (by decide) d_LW_law_0 (fun x H _ hM hS => ?_)
  refine lv_dup hx hb d_LW_law_3 rfl ?_
  refine hq_callv (go_I S hZ hK hM hS hA hz (c_AD_init l D ct (Z0 tk th) hZ _ _ tk th (Z0_K tk th) (Z0_H tk th) (Z0_N tk th) x hp_us) mc_AD_init mz_AD ml_LW_30 mi_AD_init rfl hd_AD_init rfl ⟨by decide, by decide⟩ hl.1 rfl (Nat.le_of_ble_eq_true rfl) d_LW_law_4 ⟨by decide, by decide⟩) hM hS hA (fun Mc H locs hpc hC _ _ hS => ?_)
  refine lv_astore_n (lv' := [(1, .ref x), (0, .ref b)]) hx hb d_LW_law_7 rfl hl (by decide) rfl (fun ls hl => ?_)
  refine hp_new (ci := 6) (fs := [.null, .int (nI 0), .null, .int (nI 0), .int (nI 0), .int (nI 0), .int (nI 0), .null, .null, .null, .null, .null, .null, .null, .null, .null, .null, .null, .int (nI 0), .null, .null, .null]) S hK hC hS hA i_MD t_MD to_MD mk_LW_31 mt_MD mz_MD rfl (fun j hj => by rcases (show j = 0 ∨ j = 1 ∨ j = 2 ∨ j = 3 ∨ j = 4 ∨ j = 5 ∨ j = 6 ∨ j = 7 ∨ j = 8 ∨ j = 9 ∨ j = 10 ∨ j = 11 ∨ j = 12 ∨ j = 13 ∨ j = 14 ∨ j = 15 ∨ j = 16 ∨ j = 17 ∨ j = 18 ∨ j = 19 ∨ j = 20 ∨ j = 21 by omega) with rfl | rfl | rfl | rfl | rfl | rfl | rfl | rfl | rfl | rfl | rfl | rfl | rfl | rfl | rfl | rfl | rfl | rfl | rfl | rfl | rfl | rfl <;> rfl) (by decide) (by decide) d_LW_law_8 (fun md H hmd hM hS => ?_)
  have hC := hM.part (N := Mc) (fun a e h => hp_k (hp_nn h hmd) h)
  have hD := hM.part (N := hp_1 md (.inr (6, [.null, .int (nI 0), .null, .int (nI 0), .int (nI 0), .int (nI 0), .int (nI 0), .null, .null, .null, .null, .null, .null, .null, .null, .null, .null, .null, .int (nI 0), .null, .null, .null]))) (fun a e h => by
    obtain ⟨rfl, rfl⟩ := hp_1n h
    exact hp_us)
  have hcm : ∀ a, Mc a ≠ none → hp_1 md (.inr (6, [.null, .int (nI 0), .null, .int (nI 0), .int (nI 0), .int (nI 0), .int (nI 0), .null, .null, .null, .null, .null, .null, .null, .null, .null, .null, .null, .int (nI 0), .null, .null, .null])) a = none := fun a ha => if_neg (fun z => ha (by rw [z]; exact hmd))
  refine lv_dup hx hb d_LW_law_11 rfl ?_
  refine hq_callv (go_I S hZ hK hD hS hA hz (c_MD_init l D ct (Z0 tk th) hZ _ _ md hp_1s) mc_MD_init mz_MD ml_LW_33 mi_MD_init rfl hd_MD_init rfl ⟨by decide, by decide⟩ hl.1 rfl (Nat.le_of_ble_eq_true rfl) d_LW_law_12 ⟨by decide, by decide⟩) hD hS hA (fun Mm H locs hpm hD hB hk hS => ?_)
  obtain ⟨hC, hmc⟩ := fr_keep hC (ap_sym hcm) hB hk
  have hcm := ap_sym hmc
  refine lv_astore_n (lv' := [(2, .ref md), (1, .ref x), (0, .ref b)]) hx hb d_LW_law_15 rfl hl (by decide) rfl (fun ls hl => ?_)
  refine lv_iconst (v := nI 1) hx hb d_LW_law_16 rfl ?_
  refine hp_newl S hK (hC.join hD hcm) hS hA ma_long 5 rfl 1 rfl (by decide) (by decide) (by decide) d_LW_law_17 (fun o H ho hM hS => ?_)
  have hco : Mc o = none := by
    cases hm : Mc o with
    | none => rfl
    | some e9 => rw [hp_or_l hm] at ho; cases ho
  have hmo : Mm o = none := by rw [hp_or_r hco] at ho; exact ho
  have hC := hM.part (N := Mc) (fun a e h => hp_k (hp_nn h hco) (hp_or_l h))
  have hD := hM.part (N := Mm) (fun a e h => hp_k (hp_nn h hmo) (by
    rw [hp_or_r (ap_sym hcm a (by rw [h]; exact Option.some_ne_none _))]
    exact h))
  have hO := hM.part (N := hp_1 o (oE ct (fun _ => 0))) (fun a e h => by
    obtain ⟨rfl, rfl⟩ := hp_1n h
    exact hp_us)
  have I : lwI D ct s x md o H := ⟨Mc, Mm, fun _ => 0, born hpc hpm, hC, hD, hO, hcm, fun a ha => if_neg (fun z => ha (by rw [z]; exact hco)), fun a ha => if_neg (fun z => ha (by rw [z]; exact hmo))⟩
  have F : lwF l p s m c b L xs D ct (Z0 tk th) tk th := ⟨S, hZ, hK, hz, hX, hbl, Z0_K tk th, Z0_H tk th, Z0_N tk th, Z0_A tk th, Z0_X tk th, Z0_C tk th, hl9, hL⟩
  refine lv_astore_n (lv' := [(3, .ref o), (2, .ref md), (1, .ref x), (0, .ref b)]) hx hb d_LW_law_19 rfl hl (by decide) rfl (fun ls hl => ?_)
  refine lv_iconst (v := nI 0) hx hb d_LW_law_20 rfl ?_
  refine lv_istore (lv' := [(4, .int (nI 0)), (3, .ref o), (2, .ref md), (1, .ref x), (0, .ref b)]) hx hb d_LW_law_21 hl (by decide) rfl (fun ls hl => ?_)
  refine W.widen (k := 100) (n := 30000) (by decide) (by decide) ?_
  have hl : lv_has ls 7 [(4, .int (nI 0)), (0, .ref b), (1, .ref x), (2, .ref md), (3, .ref o)] := lv_sub hl [0, 4, 3, 2, 1] rfl
  by_cases h3 : 3 ≤ L
  · exact lw_loop l F hr hlk h3 512 0 100 30000 H _ ls (by omega) (by omega) (by decide) (by decide) hl I hS
  · refine lv_iload hx hb d_LW_law_23 (lv_at hl 0 rfl) ?_
    refine lv_aload_n hx hb d_LW_law_25 rfl (lv_at hl 1 rfl) ?_
    refine va_slen hx hb hX hbl hbA hS d_LW_law_26 ?_
    refine lv_iconst (v := nI 3) hx hb d_LW_law_27 rfl ?_
    refine lv_isub hx hb d_LW_law_28 ?_
    refine lv_icmp_gt (tgt := 563) hx hb d_LW_law_29 (by decide) (fun _ => ?_) (fun h => ?_)
    · exact lw_exit l hx hb hr hlk (by decide) (by decide) hS
    · exact absurd (pk_sneg (a := L) (b := 3) (by decide) (by omega)) h
set_option maxHeartbeats 4000000 in
theorem lw_walk (l : Launch) (hl9 : l.stackTraces = false) (b : Addr) (xs : List Int32) : MetFree l x (headSpec (Jvm.Cond.code x code maxLocals ret :: tables_1) room_1) (lw_P b xs) (fun _ _ _ _ _ => True) lw_Q := by
  refine MetFree.of_bodyS (code := code) (maxLocals := maxLocals) (ret := ret) (by decide) ?_ ?_
  · intro args s m h hn
    obtain ⟨meth, c, h1, h2, h3, h4, h5, h6, -, -⟩ := Cond.code_spec hn (atoms_spec (ws := Jvm.Cond.code x code maxLocals ret :: tables_1) h _ List.mem_cons_self)
    exact ⟨meth, c, h1, h2, h3, h4, h5, h6⟩
  · intro p e s m args below meth c s₁ B hml0 hP _
    obtain ⟨rfl, hx, hbd, hgv⟩ := hP
    obtain ⟨scr, harrAt, hlist, hof, hsmall⟩ := hx
    obtain ⟨hcb, hkn, -, -⟩ := State.arrayAt?_spec harrAt
    have hown : s.vm.findClass R_law = some m.cls := findClass_of_methodNamed B.named
    have hts0 : ∀ c ∈ (Jvm.Cond.code x code maxLocals ret :: tables_1), c.before #[Value.ref b] s = true := atoms_spec (ws := Jvm.Cond.code x code maxLocals ret :: tables_1) B.pre
    have hts : ∀ w ∈ lw_tbl, w.before #[Value.ref b] s = true := k2_hts_sels lw_privs (fun w hw => hts0 w (List.mem_cons_of_mem _ hw)) lw_privs_ok
    have hml : c.maxLocals = 7 := B.maxLocals_eq (hts0 _ List.mem_cons_self)
    have X₀ : Stand p l e room_1 s m #[Value.ref b] below meth c s₁ [] 0 0 := Stand.of_body B
    have hh0 : s₁.heap = s.heap := by rw [B.state]; rfl
    have hsz : scr.slots.size = xs.length := by rw [← Array.length_toList, hlist, List.length_map]
    have hval : ∀ j : Nat, j < xs.length → scr.slots[j]? = some (.int (xs.getD j 0)) := fun j hj => by
      rw [← Array.getElem?_toList, hlist]
      simp [hj]
    have hbl : b < s.heap.size := (Array.getElem?_eq_some_iff.mp hcb).1
    have hX : va_X b xs.length (fun j => xs.getD j 0) s s.heap := ⟨scr, hcb, hof, hkn, hsz, hval⟩
    have K : W p l e room_1 s m #[Value.ref b] below meth c s₁.heap [] 0 0 (lw_Z below #[Value.ref b] s) (entryFrame m ([Value.ref b] : List Value).toArray 7) := by
      rw [hh0]
      exact whole_start l hl9 hbd ⟨B.exec, B.bytes, B.returns, hml, hown, hts, hX, hbl, B.notSynchronized, hgv⟩
    obtain ⟨t, a1, o, b1, b2, b3⟩ := K s₁ rfl X₀
    exact ⟨t, o, a1, b1, b2, b3⟩
theorem lw_pre_spec {args : Array Value} {s : State} (h : (Jvm.Cond.and given_1 narrow_1).before args s = true) (hr : rest_1_c.before args s = true) : ∃ (b : Addr) (xs : List Int32), lw_P b xs args s := by
  have hs := flat_of_before _ h
  have hq := flat_of_before _ hr
  have hc : (Cond.count 1).before args s = true := hs _ (by decide +kernel)
  have harr : (Cond.arrayOf (.arg 0) .int).before args s = true := hs _ (by decide +kernel)
  have hle : (Cond.le (.length (.arg 0)) (.int 1536)).before args s = true := hs _ (by decide +kernel)
  have hlen : (Cond.isInt (.length (.arg 0))).before args s = true := hq _ (by decide +kernel)
  have hall : (Cond.all (.arg 0) (.isInt (.elem (.arg 0) (.index 0)))).before args s = true := hq _ (by decide +kernel)
  obtain ⟨b, xs, hb, hx⟩ := State.ints_of_pre rfl harr hlen hall
  have hsm : xs.length < 2 ^ 31 := hx.choose_spec.2.2.2
  have hev : (Term.length (.arg 0)).eval args s none [] s = some (.int xs.length.toInt32) := hx.length_eval hb
  have hv := Cond.le_ints hev (show (Term.int 1536).eval args s none [] s = some (.int 1536) from rfl)
  have hd : xs.length.toInt32 ≤ 1536 := by
    simpa [Cond.before, Cond.holds, hv] using hle
  have hN : xs.length ≤ 1536 := (Int32.ofNat_le_ofNat hsm (by decide)).mp (show Int32.ofNat xs.length ≤ Int32.ofNat 1536 from hd)
  exact ⟨b, xs, Cond.one_arg hc (show args[0]? = some (.ref b) from hb), hx, hN, h⟩
theorem lw_comes (l : Launch) (hl9 : l.stackTraces = false) : Comes l x (Jvm.Cond.code x code maxLocals ret :: tables_1) room_1 (fun tb e args s => Calls_1 tb e args s ∧ rest_1 tb e args s ∧ Pre_1 tb e args s)
    (fun _ _ args s o t => lw_Q args s o t) := by
  intro p e ha hc hk s m args below hf hfit hheap happ hpre
  obtain ⟨b, xs, hP⟩ := lw_pre_spec hpre.2.2 hpre.2.1
  obtain ⟨k, o, h1, h2, h3, hQ⟩ := lw_walk l hl9 b xs p e ha hc hk s m args below hf ((Spec.applies_iff_loose hf).mp happ).1 hP trivial
  exact ⟨k, o, h1, h2, h3, hQ⟩
theorem lw_frame {s t : State} {o : Outcome} {args : Array Value} (h : Framed s o t [] 601024 7293034) :
    Framed s o t (fieldLocs frame_1_writes args s ++ arrayLocs frame_1_arrays args s ++ staticLocs frame_1_statics s) 601024 7293034 := h
theorem lw_limb (L : Cond) (hL : ∀ (args : Array Value) (s t : State), L.after args s (.returned (some (.int 1))) t = true) :
    ArmFor flags0 classFile x code maxLocals ret World_1 tables_1 room_1 Calls_1 rest_1 Pre_1
      (fun tb e a s o t => postC L tb e a s o t ∧ Framed s o t (fieldLocs frame_1_writes a s ++ arrayLocs frame_1_arrays a s ++ staticLocs frame_1_statics s) 601024 7293034) := by
  intro l hfl _ _ p e ha hc hk s m args below hf hfit hheap happ hpre
  obtain ⟨k, o, h1, h2, h3, rfl, hF⟩ := lw_comes l (by show (!l.flags.contains Jvm.noTraceFlag) = false; rw [hfl]; decide +kernel) p e ha hc hk s m args below hf hfit hheap happ hpre
  exact ⟨k, _, h1, h2, h3, hL args s _, lw_frame hF⟩
theorem i_vc : Claimed_1_1 ∧ Claimed_1_2 := ⟨lw_limb limb_1_1 (fun args s t => by simp [limb_1_1, Cond.after, Cond.holds, Cond.value]), lw_limb limb_1_2 (fun args s t => Cond.after_iff.mpr (by
  first | (rw [show limb_1_2 = Cond.eq .result (.int 1) from rfl, Cond.eq_ints (x := 1) (y := 1) rfl rfl]; simp; done) | (simp [limb_1_2, Cond.value, Term.eval]; done)))⟩
