/-! THE LAW'S HELPERS THAT CATCH -/
/-- what catching asks of the tables -/
def zC (Z : hp_Z) : Prop := ∀ (A : Nat → Prop) (U : State) (H : Heap), Z A U H → va_Nc "java/lang/IllegalStateException" "java/lang/IllegalArgumentException" U
theorem both.x {ct : Nat → ClassId} {Mc Mm : hp_M} {x md : Nat} (h : both ct Mc Mm x md) : ∃ fs, Mc x = some (.inr (0, fs)) := by
  obtain ⟨c, xt, ch, sh, su, wo, ac, al, sc, hg, T, Y, As, Al, sa, hd, B, V, LL, hc, hm, h1, ec⟩ := h
  exact ⟨_, hc.1⟩
theorem both.m {ct : Nat → ClassId} {Mc Mm : hp_M} {x md : Nat} (h : both ct Mc Mm x md) : ∃ fs, Mm md = some (.inr (6, fs)) := by
  obtain ⟨c, xt, ch, sh, su, wo, ac, al, sc, hg, T, Y, As, Al, sa, hd, B, V, LL, hc, hm, h1, ec⟩ := h
  exact ⟨_, hm.1⟩
abbrev oE (ct : Nat → ClassId) (f : Nat → Int64) : va_E := .inl (ct 5, 1, .inr (.inl f))
theorem or_1 {M : hp_M} {ct : Nat → ClassId} {o : Nat} {f g : Nat → Int64} (h : M o = none) : hp_up (hp_or M (hp_1 o (oE ct f))) o (oE ct g) = hp_or M (hp_1 o (oE ct g)) := by
  funext q
  by_cases z : q = o
  · rw [z, hp_us, hp_or_r h, hp_1s]
  · rw [hp_un z]
    unfold hp_or hp_1
    rw [if_neg z, if_neg z]
theorem ap_o {M : hp_M} {o : Nat} {E : va_E} (h : ∀ a, M a ≠ none → hp_1 o E a = none) : M o = none := by
  cases hm : M o with
  | none => rfl
  | some x =>
    have := h o (by rw [hm]; exact Option.some_ne_none _)
    rw [hp_1s] at this
    cases this
theorem or_r {M : hp_M} {o : Nat} {E : va_E} (h : ∀ a, M a ≠ none → hp_1 o E a = none) : ∀ (a : Nat) (x : va_E), hp_1 o E a = some x → hp_or M (hp_1 o E) a = some x := fun a x hx => by
  obtain ⟨rfl, -⟩ := hp_1n hx
  rw [hp_or_r (ap_o h)]
  exact hx
abbrev b_LW_action : ByteArray := method_3_code
abbrev y_LW_action : MethodName := ⟨"ActionDigestsLaw", "action", "(LActionDigests;[J)I"⟩
abbrev hh_LW_action : List (Nat × Nat × Nat × Nat) := [(0, 8, 11, 13)]
theorem hd_LW_action : y_LW_action.cls ≠ "java/lang/invoke/MethodHandle" ∧ y_LW_action.cls ≠ "java/lang/invoke/VarHandle" ∧ (parseMethodDescriptor y_LW_action.desc).map (fun d => d.parameters.length) = some 2 := by decide +kernel
theorem mw_LW_action : Cond.codeWith y_LW_action b_LW_action 3 (some .int) hh_LW_action ∈ tb := tb_1 (List.mem_of_getElem? (i := 224) rfl) rfl
theorem d_LW_action_0 : decode b_LW_action 0 = .ok (.aload_n 1, 1) := by decide +kernel
theorem d_LW_action_1 : decode b_LW_action 1 = .ok (.iconst 0, 1) := by decide +kernel
theorem d_LW_action_2 : decode b_LW_action 2 = .ok (.aload_n 0, 1) := by decide +kernel
theorem d_LW_action_3 : decode b_LW_action 3 = .ok (.invokevirtual 7, 3) := by decide +kernel
theorem d_LW_action_6 : decode b_LW_action 6 = .ok (.i2l, 1) := by decide +kernel
theorem d_LW_action_7 : decode b_LW_action 7 = .ok (.lastore, 1) := by decide +kernel
theorem d_LW_action_8 : decode b_LW_action 8 = .ok (.goto 6, 3) := by decide +kernel
theorem d_LW_action_11 : decode b_LW_action 11 = .ok (.astore_n 2, 1) := by decide +kernel
theorem d_LW_action_12 : decode b_LW_action 12 = .ok (.iconst 1, 1) := by decide +kernel
theorem d_LW_action_13 : decode b_LW_action 13 = .ok (.ireturn, 1) := by decide +kernel
theorem d_LW_action_14 : decode b_LW_action 14 = .ok (.iconst 0, 1) := by decide +kernel
theorem d_LW_action_15 : decode b_LW_action 15 = .ok (.ireturn, 1) := by decide +kernel
abbrev b_LW_row : ByteArray := method_4_code
abbrev y_LW_row : MethodName := ⟨"ActionDigestsLaw", "row", "(LActionDigests;II)I"⟩
abbrev hh_LW_row : List (Nat × Nat × Nat × Nat) := [(0, 6, 9, 19), (0, 6, 12, 13)]
theorem hd_LW_row : y_LW_row.cls ≠ "java/lang/invoke/MethodHandle" ∧ y_LW_row.cls ≠ "java/lang/invoke/VarHandle" ∧ (parseMethodDescriptor y_LW_row.desc).map (fun d => d.parameters.length) = some 3 := by decide +kernel
theorem mw_LW_row : Cond.codeWith y_LW_row b_LW_row 4 (some .int) hh_LW_row ∈ tb := tb_2 (List.mem_of_getElem? (i := 73) rfl) rfl
theorem d_LW_row_0 : decode b_LW_row 0 = .ok (.aload_n 0, 1) := by decide +kernel
theorem d_LW_row_1 : decode b_LW_row 1 = .ok (.iload_n 1, 1) := by decide +kernel
theorem d_LW_row_2 : decode b_LW_row 2 = .ok (.iload_n 2, 1) := by decide +kernel
theorem d_LW_row_3 : decode b_LW_row 3 = .ok (.invokevirtual 15, 3) := by decide +kernel
theorem d_LW_row_6 : decode b_LW_row 6 = .ok (.goto 9, 3) := by decide +kernel
theorem d_LW_row_9 : decode b_LW_row 9 = .ok (.astore_n 3, 1) := by decide +kernel
theorem d_LW_row_10 : decode b_LW_row 10 = .ok (.iconst 1, 1) := by decide +kernel
theorem d_LW_row_11 : decode b_LW_row 11 = .ok (.ireturn, 1) := by decide +kernel
theorem d_LW_row_12 : decode b_LW_row 12 = .ok (.astore_n 3, 1) := by decide +kernel
theorem d_LW_row_13 : decode b_LW_row 13 = .ok (.iconst 2, 1) := by decide +kernel
theorem d_LW_row_14 : decode b_LW_row 14 = .ok (.ireturn, 1) := by decide +kernel
theorem d_LW_row_15 : decode b_LW_row 15 = .ok (.iconst 0, 1) := by decide +kernel
theorem d_LW_row_16 : decode b_LW_row 16 = .ok (.ireturn, 1) := by decide +kernel
abbrev b_LW_edition : ByteArray := method_5_code
abbrev y_LW_edition : MethodName := ⟨"ActionDigestsLaw", "edition", "(LActionDigests;II)I"⟩
abbrev hh_LW_edition : List (Nat × Nat × Nat × Nat) := [(0, 6, 9, 19), (0, 6, 12, 13)]
theorem hd_LW_edition : y_LW_edition.cls ≠ "java/lang/invoke/MethodHandle" ∧ y_LW_edition.cls ≠ "java/lang/invoke/VarHandle" ∧ (parseMethodDescriptor y_LW_edition.desc).map (fun d => d.parameters.length) = some 3 := by decide +kernel
theorem mw_LW_edition : Cond.codeWith y_LW_edition b_LW_edition 4 (some .int) hh_LW_edition ∈ tb := tb_2 (List.mem_of_getElem? (i := 183) rfl) rfl
theorem d_LW_edition_0 : decode b_LW_edition 0 = .ok (.aload_n 0, 1) := by decide +kernel
theorem d_LW_edition_1 : decode b_LW_edition 1 = .ok (.iload_n 1, 1) := by decide +kernel
theorem d_LW_edition_2 : decode b_LW_edition 2 = .ok (.iload_n 2, 1) := by decide +kernel
theorem d_LW_edition_3 : decode b_LW_edition 3 = .ok (.invokevirtual 21, 3) := by decide +kernel
theorem d_LW_edition_6 : decode b_LW_edition 6 = .ok (.goto 9, 3) := by decide +kernel
theorem d_LW_edition_9 : decode b_LW_edition 9 = .ok (.astore_n 3, 1) := by decide +kernel
theorem d_LW_edition_10 : decode b_LW_edition 10 = .ok (.iconst 1, 1) := by decide +kernel
theorem d_LW_edition_11 : decode b_LW_edition 11 = .ok (.ireturn, 1) := by decide +kernel
theorem d_LW_edition_12 : decode b_LW_edition 12 = .ok (.astore_n 3, 1) := by decide +kernel
theorem d_LW_edition_13 : decode b_LW_edition 13 = .ok (.iconst 2, 1) := by decide +kernel
theorem d_LW_edition_14 : decode b_LW_edition 14 = .ok (.ireturn, 1) := by decide +kernel
theorem d_LW_edition_15 : decode b_LW_edition 15 = .ok (.iconst 0, 1) := by decide +kernel
theorem d_LW_edition_16 : decode b_LW_edition 16 = .ok (.ireturn, 1) := by decide +kernel
abbrev b_LW_allow : ByteArray := method_6_code
abbrev y_LW_allow : MethodName := ⟨"ActionDigestsLaw", "allow", "(LActionDigests;)I"⟩
abbrev hh_LW_allow : List (Nat × Nat × Nat × Nat) := [(0, 4, 7, 19), (0, 4, 10, 13)]
theorem hd_LW_allow : y_LW_allow.cls ≠ "java/lang/invoke/MethodHandle" ∧ y_LW_allow.cls ≠ "java/lang/invoke/VarHandle" ∧ (parseMethodDescriptor y_LW_allow.desc).map (fun d => d.parameters.length) = some 1 := by decide +kernel
theorem mw_LW_allow : Cond.codeWith y_LW_allow b_LW_allow 2 (some .int) hh_LW_allow ∈ tb := tb_2 (List.mem_of_getElem? (i := 199) rfl) rfl
theorem d_LW_allow_0 : decode b_LW_allow 0 = .ok (.aload_n 0, 1) := by decide +kernel
theorem d_LW_allow_1 : decode b_LW_allow 1 = .ok (.invokevirtual 24, 3) := by decide +kernel
theorem d_LW_allow_4 : decode b_LW_allow 4 = .ok (.goto 9, 3) := by decide +kernel
theorem d_LW_allow_7 : decode b_LW_allow 7 = .ok (.astore_n 1, 1) := by decide +kernel
theorem d_LW_allow_8 : decode b_LW_allow 8 = .ok (.iconst 1, 1) := by decide +kernel
theorem d_LW_allow_9 : decode b_LW_allow 9 = .ok (.ireturn, 1) := by decide +kernel
theorem d_LW_allow_10 : decode b_LW_allow 10 = .ok (.astore_n 1, 1) := by decide +kernel
theorem d_LW_allow_11 : decode b_LW_allow 11 = .ok (.iconst 2, 1) := by decide +kernel
theorem d_LW_allow_12 : decode b_LW_allow 12 = .ok (.ireturn, 1) := by decide +kernel
theorem d_LW_allow_13 : decode b_LW_allow 13 = .ok (.iconst 0, 1) := by decide +kernel
theorem d_LW_allow_14 : decode b_LW_allow 14 = .ok (.ireturn, 1) := by decide +kernel
abbrev b_LW_salt : ByteArray := method_7_code
abbrev y_LW_salt : MethodName := ⟨"ActionDigestsLaw", "salt", "(LActionDigests;)I"⟩
abbrev hh_LW_salt : List (Nat × Nat × Nat × Nat) := [(0, 4, 7, 19)]
theorem hd_LW_salt : y_LW_salt.cls ≠ "java/lang/invoke/MethodHandle" ∧ y_LW_salt.cls ≠ "java/lang/invoke/VarHandle" ∧ (parseMethodDescriptor y_LW_salt.desc).map (fun d => d.parameters.length) = some 1 := by decide +kernel
theorem mw_LW_salt : Cond.codeWith y_LW_salt b_LW_salt 2 (some .int) hh_LW_salt ∈ tb := tb_2 (List.mem_of_getElem? (i := 210) rfl) rfl
theorem d_LW_salt_0 : decode b_LW_salt 0 = .ok (.aload_n 0, 1) := by decide +kernel
theorem d_LW_salt_1 : decode b_LW_salt 1 = .ok (.invokevirtual 27, 3) := by decide +kernel
theorem d_LW_salt_4 : decode b_LW_salt 4 = .ok (.goto 6, 3) := by decide +kernel
theorem d_LW_salt_7 : decode b_LW_salt 7 = .ok (.astore_n 1, 1) := by decide +kernel
theorem d_LW_salt_8 : decode b_LW_salt 8 = .ok (.iconst 1, 1) := by decide +kernel
theorem d_LW_salt_9 : decode b_LW_salt 9 = .ok (.ireturn, 1) := by decide +kernel
theorem d_LW_salt_10 : decode b_LW_salt 10 = .ok (.iconst 0, 1) := by decide +kernel
theorem d_LW_salt_11 : decode b_LW_salt 11 = .ok (.ireturn, 1) := by decide +kernel
set_option maxHeartbeats 4000000 in
set_option maxRecDepth 100000 in
theorem h_row (l : Launch) (D : va_G) (ct : Nat → ClassId) (Z : hp_Z) (hZ : hp_Zok Z) (hzx : zX Z) (hzc : zC Z) {Mc : hp_M} {x : Nat} {fs : List Value} (f_x : Mc x = some (.inr (0, fs))) {Pc : hp_M → Prop} {Px : String → hp_M → Prop} (k : Int32) (k2 : Int32) (hX : ∀ sz, Xv l y_AD_row b_AD_row 6 none 6 88 4 198 [.ref x, .int k, .int k2] D ct Z Mc sz Pc Px) (hE : ∀ E M, Px E M → E = "java/lang/IllegalArgumentException" ∨ E = "java/lang/IllegalStateException") (sz : Nat) : Met l y_LW_row (Cond.codeWith y_LW_row b_LW_row 4 (some .int) hh_LW_row :: tb) { frames := 7, cells := 4, slots := 198, locals := 113 } (hp_Pc [.ref x, .int k, .int k2] D ccl (tys ct) Z Mc sz) (va_Qi (fun r M1 => (r = nI 0 ∧ Pc M1) ∨ (r = nI 1 ∧ Px "java/lang/IllegalArgumentException" M1) ∨ (r = nI 2 ∧ Px "java/lang/IllegalStateException" M1)) (hp_B D ccl Mc sz) (hp_A Mc sz)) 4 198 (hp_A Mc sz) := by
  refine hp_startW (by decide) (Nat.le_of_ble_eq_true rfl) (fun p e s m below meth c ls S hret hlk hsz hK hM hS hA hz hl htab => ?_)
  have hx := S.1
  have hb := S.2.1
  have hl : lv_has ls 4 [(0, .ref x), (1, .int k), (2, .int k2)] := hl
  refine lv_aload_n hx hb d_LW_row_0 rfl (lv_at hl 0 rfl) ?_
  refine lv_iload_n hx hb d_LW_row_1 rfl (lv_at hl 1 rfl) ?_
  refine lv_iload_n hx hb d_LW_row_2 rfl (lv_at hl 2 rfl) ?_
  refine hq_callvX (go_VX S hZ hK hM hS hA hz (hX _) mc_AD_row mz_AD ml_LW_15 mi_AD_row mx_AD_row hd_AD_row rfl ⟨by decide, by decide⟩ f_x rfl rfl hl.1 rfl (Nat.le_of_ble_eq_true rfl) d_LW_row_3 ⟨by decide, by decide⟩) hM hS hA (fun E ce q9 M1 H1 locs1 hp hM1 hS1 hc1 hc2 hc3 => ?_) (fun M1 H1 locs1 hp hM1 hS1 => ?_)
  · rcases hE E M1 hp with rfl | rfl
    · refine vx_catch (own := "ActionDigestsLaw") (name := "java/lang/IllegalArgumentException") S.2.2.2.1 [] ⟨0, 6, 9, 19⟩ [⟨0, 6, 12, 13⟩] htab (fun z hz => nomatch hz) (by decide) (by decide) (S.2.2.2.2 _ mk_LW_19) (va_Nw.use rfl ((hzx _ _ _ hz).2.1 (.castable "java/lang/IllegalArgumentException" "java/lang/IllegalArgumentException") (by decide +kernel))) hc1 hc2 hc3 ?_
      refine lv_astore_n (lv' := [(3, .ref q9), (0, .ref x), (1, .int k), (2, .int k2)]) hx hb d_LW_row_9 rfl hl (by decide) rfl (fun ls hl => ?_)
      refine lv_iconst (v := nI 1) hx hb d_LW_row_10 rfl ?_
      exact hp_iret S hret hlk rfl hM1 hS1 (Or.inr (Or.inl ⟨rfl, hp⟩)) d_LW_row_11
    · refine vx_catch (own := "ActionDigestsLaw") (name := "java/lang/IllegalStateException") S.2.2.2.1 [⟨0, 6, 9, 19⟩] ⟨0, 6, 12, 13⟩ [] htab (fun z h9 => ?_) (by decide) (by decide) (S.2.2.2.2 _ mk_LW_13) (va_Nw.use rfl ((hzx _ _ _ hz).2.1 (.castable "java/lang/IllegalStateException" "java/lang/IllegalStateException") (by decide +kernel))) hc1 hc2 hc3 ?_
      · rw [List.mem_singleton] at h9
        rw [h9]
        exact Or.inr ⟨by decide, "java/lang/IllegalArgumentException", S.2.2.2.2 _ mk_LW_19, hzc _ _ _ hz⟩
      · refine lv_astore_n (lv' := [(3, .ref q9), (0, .ref x), (1, .int k), (2, .int k2)]) hx hb d_LW_row_12 rfl hl (by decide) rfl (fun ls hl => ?_)
        refine lv_iconst (v := nI 2) hx hb d_LW_row_13 rfl ?_
        exact hp_iret S hret hlk rfl hM1 hS1 (Or.inr (Or.inr ⟨rfl, hp⟩)) d_LW_row_14
  · refine lv_goto (tgt := 15) hx hb d_LW_row_6 (by decide) ?_
    refine lv_iconst (v := nI 0) hx hb d_LW_row_15 rfl ?_
    exact hp_iret S hret hlk rfl hM1 hS1 (Or.inl ⟨rfl, hp⟩) d_LW_row_16
set_option maxHeartbeats 4000000 in
set_option maxRecDepth 100000 in
theorem h_edition (l : Launch) (D : va_G) (ct : Nat → ClassId) (Z : hp_Z) (hZ : hp_Zok Z) (hzx : zX Z) (hzc : zC Z) {Mc : hp_M} {x : Nat} {fs : List Value} (f_x : Mc x = some (.inr (0, fs))) {Pc : hp_M → Prop} {Px : String → hp_M → Prop} (k : Int32) (k2 : Int32) (hX : ∀ sz, Xv l y_AD_edition b_AD_edition 6 none 6 82 4 19 [.ref x, .int k, .int k2] D ct Z Mc sz Pc Px) (hE : ∀ E M, Px E M → E = "java/lang/IllegalArgumentException" ∨ E = "java/lang/IllegalStateException") (sz : Nat) : Met l y_LW_edition (Cond.codeWith y_LW_edition b_LW_edition 4 (some .int) hh_LW_edition :: tb) { frames := 7, cells := 4, slots := 19, locals := 107 } (hp_Pc [.ref x, .int k, .int k2] D ccl (tys ct) Z Mc sz) (va_Qi (fun r M1 => (r = nI 0 ∧ Pc M1) ∨ (r = nI 1 ∧ Px "java/lang/IllegalArgumentException" M1) ∨ (r = nI 2 ∧ Px "java/lang/IllegalStateException" M1)) (hp_B D ccl Mc sz) (hp_A Mc sz)) 4 19 (hp_A Mc sz) := by
  refine hp_startW (by decide) (Nat.le_of_ble_eq_true rfl) (fun p e s m below meth c ls S hret hlk hsz hK hM hS hA hz hl htab => ?_)
  have hx := S.1
  have hb := S.2.1
  have hl : lv_has ls 4 [(0, .ref x), (1, .int k), (2, .int k2)] := hl
  refine lv_aload_n hx hb d_LW_edition_0 rfl (lv_at hl 0 rfl) ?_
  refine lv_iload_n hx hb d_LW_edition_1 rfl (lv_at hl 1 rfl) ?_
  refine lv_iload_n hx hb d_LW_edition_2 rfl (lv_at hl 2 rfl) ?_
  refine hq_callvX (go_VX S hZ hK hM hS hA hz (hX _) mc_AD_edition mz_AD ml_LW_21 mi_AD_edition mx_AD_edition hd_AD_edition rfl ⟨by decide, by decide⟩ f_x rfl rfl hl.1 rfl (Nat.le_of_ble_eq_true rfl) d_LW_edition_3 ⟨by decide, by decide⟩) hM hS hA (fun E ce q9 M1 H1 locs1 hp hM1 hS1 hc1 hc2 hc3 => ?_) (fun M1 H1 locs1 hp hM1 hS1 => ?_)
  · rcases hE E M1 hp with rfl | rfl
    · refine vx_catch (own := "ActionDigestsLaw") (name := "java/lang/IllegalArgumentException") S.2.2.2.1 [] ⟨0, 6, 9, 19⟩ [⟨0, 6, 12, 13⟩] htab (fun z hz => nomatch hz) (by decide) (by decide) (S.2.2.2.2 _ mk_LW_19) (va_Nw.use rfl ((hzx _ _ _ hz).2.1 (.castable "java/lang/IllegalArgumentException" "java/lang/IllegalArgumentException") (by decide +kernel))) hc1 hc2 hc3 ?_
      refine lv_astore_n (lv' := [(3, .ref q9), (0, .ref x), (1, .int k), (2, .int k2)]) hx hb d_LW_edition_9 rfl hl (by decide) rfl (fun ls hl => ?_)
      refine lv_iconst (v := nI 1) hx hb d_LW_edition_10 rfl ?_
      exact hp_iret S hret hlk rfl hM1 hS1 (Or.inr (Or.inl ⟨rfl, hp⟩)) d_LW_edition_11
    · refine vx_catch (own := "ActionDigestsLaw") (name := "java/lang/IllegalStateException") S.2.2.2.1 [⟨0, 6, 9, 19⟩] ⟨0, 6, 12, 13⟩ [] htab (fun z h9 => ?_) (by decide) (by decide) (S.2.2.2.2 _ mk_LW_13) (va_Nw.use rfl ((hzx _ _ _ hz).2.1 (.castable "java/lang/IllegalStateException" "java/lang/IllegalStateException") (by decide +kernel))) hc1 hc2 hc3 ?_
      · rw [List.mem_singleton] at h9
        rw [h9]
        exact Or.inr ⟨by decide, "java/lang/IllegalArgumentException", S.2.2.2.2 _ mk_LW_19, hzc _ _ _ hz⟩
      · refine lv_astore_n (lv' := [(3, .ref q9), (0, .ref x), (1, .int k), (2, .int k2)]) hx hb d_LW_edition_12 rfl hl (by decide) rfl (fun ls hl => ?_)
        refine lv_iconst (v := nI 2) hx hb d_LW_edition_13 rfl ?_
        exact hp_iret S hret hlk rfl hM1 hS1 (Or.inr (Or.inr ⟨rfl, hp⟩)) d_LW_edition_14
  · refine lv_goto (tgt := 15) hx hb d_LW_edition_6 (by decide) ?_
    refine lv_iconst (v := nI 0) hx hb d_LW_edition_15 rfl ?_
    exact hp_iret S hret hlk rfl hM1 hS1 (Or.inl ⟨rfl, hp⟩) d_LW_edition_16
set_option maxHeartbeats 4000000 in
set_option maxRecDepth 100000 in
theorem h_allow (l : Launch) (D : va_G) (ct : Nat → ClassId) (Z : hp_Z) (hZ : hp_Zok Z) (hzx : zX Z) (hzc : zC Z) {Mc : hp_M} {x : Nat} {fs : List Value} (f_x : Mc x = some (.inr (0, fs))) {Pc : hp_M → Prop} {Px : String → hp_M → Prop} (hX : ∀ sz, Xv l y_AD_allow b_AD_allow 3 none 6 82 3 72 [.ref x] D ct Z Mc sz Pc Px) (hE : ∀ E M, Px E M → E = "java/lang/IllegalArgumentException" ∨ E = "java/lang/IllegalStateException") (sz : Nat) : Met l y_LW_allow (Cond.codeWith y_LW_allow b_LW_allow 2 (some .int) hh_LW_allow :: tb) { frames := 7, cells := 3, slots := 72, locals := 104 } (hp_Pc [.ref x] D ccl (tys ct) Z Mc sz) (va_Qi (fun r M1 => (r = nI 0 ∧ Pc M1) ∨ (r = nI 1 ∧ Px "java/lang/IllegalArgumentException" M1) ∨ (r = nI 2 ∧ Px "java/lang/IllegalStateException" M1)) (hp_B D ccl Mc sz) (hp_A Mc sz)) 3 72 (hp_A Mc sz) := by
  refine hp_startW (by decide) (Nat.le_of_ble_eq_true rfl) (fun p e s m below meth c ls S hret hlk hsz hK hM hS hA hz hl htab => ?_)
  have hx := S.1
  have hb := S.2.1
  have hl : lv_has ls 2 [(0, .ref x)] := hl
  refine lv_aload_n hx hb d_LW_allow_0 rfl (lv_at hl 0 rfl) ?_
  refine hq_callvX (go_VX S hZ hK hM hS hA hz (hX _) mc_AD_allow mz_AD ml_LW_24 mi_AD_allow mx_AD_allow hd_AD_allow rfl ⟨by decide, by decide⟩ f_x rfl rfl hl.1 rfl (Nat.le_of_ble_eq_true rfl) d_LW_allow_1 ⟨by decide, by decide⟩) hM hS hA (fun E ce q9 M1 H1 locs1 hp hM1 hS1 hc1 hc2 hc3 => ?_) (fun M1 H1 locs1 hp hM1 hS1 => ?_)
  · rcases hE E M1 hp with rfl | rfl
    · refine vx_catch (own := "ActionDigestsLaw") (name := "java/lang/IllegalArgumentException") S.2.2.2.1 [] ⟨0, 4, 7, 19⟩ [⟨0, 4, 10, 13⟩] htab (fun z hz => nomatch hz) (by decide) (by decide) (S.2.2.2.2 _ mk_LW_19) (va_Nw.use rfl ((hzx _ _ _ hz).2.1 (.castable "java/lang/IllegalArgumentException" "java/lang/IllegalArgumentException") (by decide +kernel))) hc1 hc2 hc3 ?_
      refine lv_astore_n (lv' := [(1, .ref q9), (0, .ref x)]) hx hb d_LW_allow_7 rfl hl (by decide) rfl (fun ls hl => ?_)
      refine lv_iconst (v := nI 1) hx hb d_LW_allow_8 rfl ?_
      exact hp_iret S hret hlk rfl hM1 hS1 (Or.inr (Or.inl ⟨rfl, hp⟩)) d_LW_allow_9
    · refine vx_catch (own := "ActionDigestsLaw") (name := "java/lang/IllegalStateException") S.2.2.2.1 [⟨0, 4, 7, 19⟩] ⟨0, 4, 10, 13⟩ [] htab (fun z h9 => ?_) (by decide) (by decide) (S.2.2.2.2 _ mk_LW_13) (va_Nw.use rfl ((hzx _ _ _ hz).2.1 (.castable "java/lang/IllegalStateException" "java/lang/IllegalStateException") (by decide +kernel))) hc1 hc2 hc3 ?_
      · rw [List.mem_singleton] at h9
        rw [h9]
        exact Or.inr ⟨by decide, "java/lang/IllegalArgumentException", S.2.2.2.2 _ mk_LW_19, hzc _ _ _ hz⟩
      · refine lv_astore_n (lv' := [(1, .ref q9), (0, .ref x)]) hx hb d_LW_allow_10 rfl hl (by decide) rfl (fun ls hl => ?_)
        refine lv_iconst (v := nI 2) hx hb d_LW_allow_11 rfl ?_
        exact hp_iret S hret hlk rfl hM1 hS1 (Or.inr (Or.inr ⟨rfl, hp⟩)) d_LW_allow_12
  · refine lv_goto (tgt := 13) hx hb d_LW_allow_4 (by decide) ?_
    refine lv_iconst (v := nI 0) hx hb d_LW_allow_13 rfl ?_
    exact hp_iret S hret hlk rfl hM1 hS1 (Or.inl ⟨rfl, hp⟩) d_LW_allow_14
set_option maxHeartbeats 4000000 in
set_option maxRecDepth 100000 in
theorem h_salt (l : Launch) (D : va_G) (ct : Nat → ClassId) (Z : hp_Z) (hZ : hp_Zok Z) (hzx : zX Z) (hzc : zC Z) {Mc : hp_M} {x : Nat} {fs : List Value} (f_x : Mc x = some (.inr (0, fs))) {Pc : hp_M → Prop} {Px : String → hp_M → Prop} (hX : ∀ sz, Xv l y_AD_salt b_AD_salt 2 none 6 82 2 70 [.ref x] D ct Z Mc sz Pc Px) (hE : ∀ E M, Px E M → E = "java/lang/IllegalArgumentException") (sz : Nat) : Met l y_LW_salt (Cond.codeWith y_LW_salt b_LW_salt 2 (some .int) hh_LW_salt :: tb) { frames := 7, cells := 2, slots := 70, locals := 103 } (hp_Pc [.ref x] D ccl (tys ct) Z Mc sz) (va_Qi (fun r M1 => (r = nI 0 ∧ Pc M1) ∨ (r = nI 1 ∧ Px "java/lang/IllegalArgumentException" M1)) (hp_B D ccl Mc sz) (hp_A Mc sz)) 2 70 (hp_A Mc sz) := by
  refine hp_startW (by decide) (Nat.le_of_ble_eq_true rfl) (fun p e s m below meth c ls S hret hlk hsz hK hM hS hA hz hl htab => ?_)
  have hx := S.1
  have hb := S.2.1
  have hl : lv_has ls 2 [(0, .ref x)] := hl
  refine lv_aload_n hx hb d_LW_salt_0 rfl (lv_at hl 0 rfl) ?_
  refine hq_callvX (go_VX S hZ hK hM hS hA hz (hX _) mc_AD_salt mz_AD ml_LW_27 mi_AD_salt mx_AD_salt hd_AD_salt rfl ⟨by decide, by decide⟩ f_x rfl rfl hl.1 rfl (Nat.le_of_ble_eq_true rfl) d_LW_salt_1 ⟨by decide, by decide⟩) hM hS hA (fun E ce q9 M1 H1 locs1 hp hM1 hS1 hc1 hc2 hc3 => ?_) (fun M1 H1 locs1 hp hM1 hS1 => ?_)
  · have eE := hE E M1 hp
    subst eE
    refine vx_catch (own := "ActionDigestsLaw") (name := "java/lang/IllegalArgumentException") S.2.2.2.1 [] ⟨0, 4, 7, 19⟩ [] htab (fun z hz => nomatch hz) (by decide) (by decide) (S.2.2.2.2 _ mk_LW_19) (va_Nw.use rfl ((hzx _ _ _ hz).2.1 (.castable "java/lang/IllegalArgumentException" "java/lang/IllegalArgumentException") (by decide +kernel))) hc1 hc2 hc3 ?_
    refine lv_astore_n (lv' := [(1, .ref q9), (0, .ref x)]) hx hb d_LW_salt_7 rfl hl (by decide) rfl (fun ls hl => ?_)
    refine lv_iconst (v := nI 1) hx hb d_LW_salt_8 rfl ?_
    exact hp_iret S hret hlk rfl hM1 hS1 (Or.inr ⟨rfl, hp⟩) d_LW_salt_9
  · refine lv_goto (tgt := 10) hx hb d_LW_salt_4 (by decide) ?_
    refine lv_iconst (v := nI 0) hx hb d_LW_salt_10 rfl ?_
    exact hp_iret S hret hlk rfl hM1 hS1 (Or.inl ⟨rfl, hp⟩) d_LW_salt_11
set_option maxHeartbeats 4000000 in
set_option maxRecDepth 100000 in
theorem h_action (l : Launch) (D : va_G) (ct : Nat → ClassId) (Z : hp_Z) (hZ : hp_Zok Z) (hzx : zX Z) {Mc : hp_M} {x o : Nat} {fo : Nat → Int64} {fs : List Value} (f_x : Mc x = some (.inr (0, fs))) (hap : ∀ a, Mc a ≠ none → hp_1 o (oE ct fo) a = none) {Pc : Int32 → hp_M → Prop} {Px : String → hp_M → Prop} (hX : ∀ sz, Xi l y_AD_action b_AD_action 2 (some .int) 6 82 2 26 [.ref x] D ct Z Mc sz Pc Px) (hE : ∀ E M, Px E M → E = "java/lang/IllegalStateException") (sz : Nat) : Met l y_LW_action (Cond.codeWith y_LW_action b_LW_action 3 (some .int) hh_LW_action :: tb) { frames := 7, cells := 2, slots := 26, locals := 103 } (hp_Pc [.ref x, .ref o] D ccl (tys ct) Z (hp_or Mc (hp_1 o (oE ct fo))) sz) (va_Qi (fun r M1 => ∃ Mc1 fo1, M1 = hp_or Mc1 (hp_1 o (oE ct fo1)) ∧ (∀ a, Mc1 a ≠ none → hp_1 o (oE ct fo1) a = none) ∧ ((r = nI 0 ∧ ∃ v, Pc v Mc1 ∧ fo1 0 = Int32.toInt64 v) ∨ (r = nI 1 ∧ Px "java/lang/IllegalStateException" Mc1))) (hp_B D ccl (hp_or Mc (hp_1 o (oE ct fo))) sz) (hp_A (hp_or Mc (hp_1 o (oE ct fo))) sz)) 2 26 (hp_A (hp_or Mc (hp_1 o (oE ct fo))) sz) := by
  refine hp_startW (by decide) (Nat.le_of_ble_eq_true rfl) (fun p e s m below meth c ls S hret hlk hsz hK hM hS hA hz hl htab => ?_)
  have hx := S.1
  have hb := S.2.1
  have hl : lv_has ls 3 [(0, .ref x), (1, .ref o)] := hl
  have hC := hM.part (N := Mc) (fun a e h => hp_or_l h)
  have hO := hM.part (N := hp_1 o (oE ct fo)) (or_r hap)
  refine lv_aload_n hx hb d_LW_action_0 rfl (lv_at hl 1 rfl) ?_
  refine lv_iconst (v := nI 0) hx hb d_LW_action_1 rfl ?_
  refine lv_aload_n hx hb d_LW_action_2 rfl (lv_at hl 0 rfl) ?_
  refine hq_calliX (go_VX S hZ hK hC hS hA hz (hX _) mc_AD_action mz_AD ml_LW_7 mi_AD_action mx_AD_action hd_AD_action rfl ⟨by decide, by decide⟩ f_x rfl rfl hl.1 rfl (Nat.le_of_ble_eq_true rfl) d_LW_action_3 ⟨by decide, by decide⟩) hC hS hA (fun E ce q9 M1 H1 locs1 hp hM1 hB1 hk1 hS1 hc1 hc2 hc3 => ?_) (fun r M1 H1 locs1 hp hM1 hB1 hk1 hS1 => ?_)
  · have eE := hE E M1 hp
    subst eE
    obtain ⟨hO1, hap1⟩ := fr_keep hO hap hB1 hk1
    have hJ := hM1.join hO1 hap1
    refine vx_catch (own := "ActionDigestsLaw") (name := "java/lang/IllegalStateException") S.2.2.2.1 [] ⟨0, 8, 11, 13⟩ [] htab (fun z hz => nomatch hz) (by decide) (by decide) (S.2.2.2.2 _ mk_LW_13) (va_Nw.use rfl ((hzx _ _ _ hz).2.1 (.castable "java/lang/IllegalStateException" "java/lang/IllegalStateException") (by decide +kernel))) hc1 hc2 hc3 ?_
    refine lv_astore_n (lv' := [(2, .ref q9), (0, .ref x), (1, .ref o)]) hx hb d_LW_action_11 rfl hl (by decide) rfl (fun ls hl => ?_)
    refine lv_iconst (v := nI 1) hx hb d_LW_action_12 rfl ?_
    exact hp_iret S hret hlk rfl hJ hS1 ⟨M1, fo, rfl, hap1, Or.inr ⟨rfl, hp⟩⟩ d_LW_action_13
  · obtain ⟨hO1, hap1⟩ := fr_keep hO hap hB1 hk1
    have hJ := hM1.join hO1 hap1
    refine lv_i2l hx hb d_LW_action_6 rfl ?_
    refine hp_last S hK hJ hS1 5 (by rw [hp_or_r (ap_o hap1), hp_1s]) rfl 0 rfl (by decide) (by decide) d_LW_action_7 (fun H2 locs2 hM2 hS2 => ?_)
    rw [or_1 (ap_o hap1)] at hM2
    refine lv_goto (tgt := 14) hx hb d_LW_action_8 (by decide) ?_
    refine lv_iconst (v := nI 0) hx hb d_LW_action_14 rfl ?_
    refine hp_iret S hret hlk rfl hM2 hS2 ⟨M1, _, rfl, fun a ha => ?_, Or.inl ⟨rfl, r, hp, rfl⟩⟩ d_LW_action_15
    unfold hp_1
    by_cases z : a = o
    · rw [z] at ha
      exact absurd (ap_o hap1) ha
    · rw [if_neg z]
