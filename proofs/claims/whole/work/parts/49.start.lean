/-! AT THE LAW'S START -/
theorem lt_1 {w : Cond} (h : w ∈ tables_1_1) : w ∈ lw_tbl := List.mem_append_right _ (List.mem_append_left _ h)
theorem lt_2 {w : Cond} (h : w ∈ tables_1_2) : w ∈ lw_tbl := List.mem_append_right _ (List.mem_append_right _ (List.mem_append_left _ h))
theorem lt_3 {w : Cond} (h : w ∈ tables_1_3) : w ∈ lw_tbl := List.mem_append_right _ (List.mem_append_right _ (List.mem_append_right _ (List.mem_append_left _ h)))
theorem lt_4 {w : Cond} (h : w ∈ tables_1_4) : w ∈ lw_tbl := List.mem_append_right _ (List.mem_append_right _ (List.mem_append_right _ (List.mem_append_right _ h)))
theorem arr_p {args : Array Value} {s : State} {t : FieldType} (h : (Cond.arrayClass t).before args s = true) (ho : ∀ C, t ≠ .object C) : ∃ c : ClassId, ArrOfT s c t ∧ va_RA s c t := by
  obtain ⟨c, k, comp, h1, h2, h3⟩ := Cond.arrayClass_spec h
  refine ⟨c, fun N z => ⟨(fun q hq => by cases hq), k, h2, comp, h3⟩, ?_⟩
  cases t <;> first | exact h1 | exact absurd rfl (ho _)
theorem arr_r {args : Array Value} {s : State} {C : String} (h : (Cond.arrayOver (.object C)).before args s = true) : ∃ c : ClassId, ArrOfT s c (.object C) ∧ va_RA s c (.object C) := by
  obtain ⟨comp, c, k, h1, -, h2, h3, h4⟩ := Cond.arrayOver_spec h
  exact ⟨c, fun N z => ⟨(fun q hq => by cases hq), k, h2, comp, h3⟩, k, comp, h2, h3, h1, h4⟩
theorem law_K {args : Array Value} {s : State} (hts : ∀ w ∈ lw_tbl, w.before args s = true) : ∃ (D : va_G) (ct : Nat → ClassId), va_K D ccl (tys ct) s := by
  have htb : ∀ w ∈ tb, w.before args s = true := fun w h => hts w (List.mem_filter.mp h).1
  obtain ⟨c0, i0, k0⟩ := u_known (C := "ActionDigests") (T := F_AD) (N := 8) (n := 8) htb i_AD (htb _ mt_AD)
  obtain ⟨c1, i1, k1⟩ := u_known (C := "ActionDigests$Text") (T := F_TX) (N := 2) (n := 2) htb i_TX (htb _ mt_TX)
  obtain ⟨c2, i2, k2⟩ := u_known (C := "ActionDigests$Sha") (T := F_SH) (N := 4) (n := 4) htb i_SH (htb _ mt_SH)
  obtain ⟨c3, i3, k3⟩ := u_known (C := "ActionDigests$Action") (T := F_AC) (N := 2) (n := 2) htb i_AC (htb _ mt_AC)
  obtain ⟨c4, i4, k4⟩ := u_known (C := "ActionDigests$Row") (T := F_RW) (N := 3) (n := 3) htb i_RW (htb _ mt_RW)
  obtain ⟨c5, i5, k5⟩ := u_known (C := "ActionDigests$Key") (T := F_KY) (N := 2) (n := 2) htb i_KY (htb _ mt_KY)
  obtain ⟨c6, i6, k6⟩ := u_known (C := "ActionDigestsModel") (T := F_MD) (N := 22) (n := 22) htb i_MD (htb _ mt_MD)
  obtain ⟨c7, i7, k7⟩ := u_known (C := "java/lang/IllegalStateException") (T := F_IS) (N := 0) (n := 6) htb i_IS (htb _ mt_IS)
  obtain ⟨c8, i8, k8⟩ := u_known (C := "java/lang/IllegalArgumentException") (T := F_IA) (N := 0) (n := 6) htb i_IA (htb _ mt_IA)
  obtain ⟨a0, r0⟩ := arr_p (t := .char) (htb _ ma_char) (fun C h => by cases h)
  obtain ⟨a1, r1⟩ := arr_p (t := .int) (htb _ ma_int) (fun C h => by cases h)
  obtain ⟨a2, r2⟩ := arr_r (C := "ActionDigests$Row") (hts _ (lt_2 (List.mem_of_getElem? (i := 63) rfl)))
  obtain ⟨a3, r3⟩ := arr_r (C := "ActionDigests$Key") (hts _ (lt_1 (List.mem_of_getElem? (i := 61) rfl)))
  obtain ⟨a4, r4⟩ := arr_r (C := "ActionDigests$Action") (hts _ (lt_1 (List.mem_of_getElem? (i := 59) rfl)))
  obtain ⟨a5, r5⟩ := arr_p (t := .long) (htb _ ma_long) (fun C h => by cases h)
  refine ⟨((fun k => match k with | 0 => c0 | 1 => c1 | 2 => c2 | 3 => c3 | 4 => c4 | 5 => c5 | 6 => c6 | 7 => c7 | _ => c8), (fun k => match k with | 0 => i0 | 1 => i1 | 2 => i2 | 3 => i3 | 4 => i4 | 5 => i5 | 6 => i6 | 7 => i7 | _ => i8)), (fun k => match k with | 0 => a0 | 1 => a1 | 2 => a2 | 3 => a3 | 4 => a4 | _ => a5), fun c q hq => ?_, fun k q hk => ?_⟩
  · match c, hq with
    | 0, hq => cases hq; exact k0
    | 1, hq => cases hq; exact k1
    | 2, hq => cases hq; exact k2
    | 3, hq => cases hq; exact k3
    | 4, hq => cases hq; exact k4
    | 5, hq => cases hq; exact k5
    | 6, hq => cases hq; exact k6
    | 7, hq => cases hq; exact k7
    | 8, hq => cases hq; exact k8
    | c + 9, hq => simp [ccl] at hq
  · match k, hk with
    | 0, hk => cases hk; exact r0
    | 1, hk => cases hk; exact r1
    | 2, hk => cases hk; exact r2
    | 3, hk => cases hk; exact r3
    | 4, hk => cases hk; exact r4
    | 5, hk => cases hk; exact r5
    | k + 6, hk => simp [tys] at hk
/-- the statics, links and texts that the class asks -/
def Z0 (tk th : Nat) : hp_Z := fun A U H => va_Z "ActionDigests" "ROUND_CONSTANTS" "[I" (.ref tk) A U H ∧ va_T .int tk 64 (fun i => .int (kF i)) A U H ∧ va_Z "ActionDigests" "FIRST_SUMS" "[I" (.ref th) A U H ∧ va_T .int th 8 (fun i => .int (hF i)) A U H ∧ va_Nw (.fieldLinkNest "ActionDigests$Sha" 47 "ActionDigests" "ROUND_CONSTANTS" "[I" "ActionDigests") U ∧ va_Nw (.fieldLinkNest "ActionDigests$Sha" 26 "ActionDigests" "FIRST_SUMS" "[I" "ActionDigests") U ∧ va_Nw (.methodLinkNest "ActionDigests" 9 y_TX_init "ActionDigests") U ∧ va_Nw (.methodLinkNest "ActionDigests" 18 y_SH_init "ActionDigests") U ∧ va_Nw (.methodLinkNest "ActionDigests" 64 y_AC_init "ActionDigests") U ∧ va_AO "ActionDigests$Action" U ∧ va_AO "ActionDigests$Key" U ∧ va_AO "ActionDigests$Row" U ∧ (∀ q ∈ xstr, ∃ sa, vk_R "ActionDigests" q.1 q.2 sa U) ∧ (∀ w ∈ xng, va_Nw w U) ∧ vx_Zq Bundle.tN "UNASSIGNED_STACK" Bundle.steD A U H ∧ vx_Zq Bundle.tN "SUPPRESSED_SENTINEL" Bundle.listD A U H ∧ va_Nc "java/lang/IllegalStateException" "java/lang/IllegalArgumentException" U
theorem xng_w {u U : State} (hW : u.WarmedH U.vm) (h : ∀ w ∈ xng, va_Nw w u) : ∀ w ∈ xng, va_Nw w U := by
  intro w hw
  have h9 := h w hw
  simp only [xng, List.mem_cons, List.not_mem_nil, or_false] at hw
  rcases hw with rfl | rfl | rfl | rfl | rfl
  · exact va_Nw.warmD hW h9
  · exact va_Nw.warmD hW h9
  · exact va_Nw.warmD hW h9
  · exact va_Nw.warmC hW h9
  · exact va_Nw.warmC hW h9
theorem Z0_ok (tk th : Nat) : hp_Zok (Z0 tk th) := by
  refine ⟨fun A u U H hW h => ?_, fun A U H H1 hq h => ?_, fun A B U H hAB h => ?_⟩
  · obtain ⟨a1, a2, a3, a4, n1, n2, n3, n4, n5, o1, o2, o3, q1, q2, u1, u2, nc⟩ := h
    have hv := hW.alike
    exact ⟨a1.moved hv, a2.moved hv, a3.moved hv, a4.moved hv, va_Nw.warmF hW n1, va_Nw.warmF hW n2, va_Nw.warmM hW n3, va_Nw.warmM hW n4, va_Nw.warmM hW n5, o1.moved hv, o2.moved hv, o3.moved hv, fun q hq => (q1 q hq).imp (fun _ h => vk_R.warm hW h), xng_w hW q2, u1.moved hv, u2.moved hv, nc.moved hv⟩
  · obtain ⟨a1, a2, a3, a4, n1, n2, n3, n4, n5, o1, o2, o3, q1, q2, u1, u2, nc⟩ := h
    exact ⟨a1.kept hq, a2.kept hq, a3.kept hq, a4.kept hq, n1, n2, n3, n4, n5, o1, o2, o3, q1, q2, u1.kept hq, u2.kept hq, nc⟩
  · obtain ⟨a1, a2, a3, a4, n1, n2, n3, n4, n5, o1, o2, o3, q1, q2, u1, u2, nc⟩ := h
    exact ⟨a1.narrow hAB, a2.narrow hAB, a3.narrow hAB, a4.narrow hAB, n1, n2, n3, n4, n5, o1, o2, o3, q1, q2, u1.narrow hAB, u2.narrow hAB, nc⟩
theorem Z0_K (tk th : Nat) : zK (Z0 tk th) tk := fun A U H h => by
  obtain ⟨a1, a2, a3, a4, n1, n2, n3, n4, n5, o1, o2, o3, q1, q2, u1, u2, nc⟩ := h
  exact ⟨a1, a2, n1⟩
theorem Z0_H (tk th : Nat) : zH (Z0 tk th) th := fun A U H h => by
  obtain ⟨a1, a2, a3, a4, n1, n2, n3, n4, n5, o1, o2, o3, q1, q2, u1, u2, nc⟩ := h
  exact ⟨a3, a4, n2⟩
theorem Z0_N (tk th : Nat) : zN (Z0 tk th) := fun A U H h => by
  obtain ⟨a1, a2, a3, a4, n1, n2, n3, n4, n5, o1, o2, o3, q1, q2, u1, u2, nc⟩ := h
  exact ⟨n3, n4, o1, o2, o3⟩
theorem Z0_A (tk th : Nat) : zA (Z0 tk th) := fun A U H h => by
  obtain ⟨a1, a2, a3, a4, n1, n2, n3, n4, n5, o1, o2, o3, q1, q2, u1, u2, nc⟩ := h
  exact n5
theorem Z0_X (tk th : Nat) : zX (Z0 tk th) := fun A U H h => by
  obtain ⟨a1, a2, a3, a4, n1, n2, n3, n4, n5, o1, o2, o3, q1, q2, u1, u2, nc⟩ := h
  exact ⟨q1, q2, u1, u2⟩
theorem Z0_C (tk th : Nat) : zC (Z0 tk th) := fun A U H h => by
  obtain ⟨a1, a2, a3, a4, n1, n2, n3, n4, n5, o1, o2, o3, q1, q2, u1, u2, nc⟩ := h
  exact nc
set_option maxHeartbeats 4000000 in
set_option maxRecDepth 100000 in
theorem law_Z {b : Nat} {s : State} (hts : ∀ w ∈ lw_tbl, w.before #[Value.ref b] s = true) (hgv : (Jvm.Cond.and given_1 narrow_1).before #[Value.ref b] s = true) : ∃ tk th, Z0 tk th (A0 s) s s.heap := by
  have hs := flat_of_before _ hgv
  obtain ⟨tk, htk, hTtk⟩ := va_Tof (tm := .static "ActionDigests" "ROUND_CONSTANTS" "[I") (ty := .int) (f := fun i => .int (kF i)) (N := 64) (A := A0 s) (by decide) (hs _ (by decide +kernel)) (va_eqt (hs (Cond.eq (.length (Term.static "ActionDigests" "ROUND_CONSTANTS" "[I")) (.int (Int32.ofNat 64))) (by decide +kernel))) (fun j hj => va_eqt (hs _ (of_decide_eq_true (List.all_eq_true.mp (by decide +kernel : ((List.range 64).all fun j => decide ((Cond.eq (.elem (Term.static "ActionDigests" "ROUND_CONSTANTS" "[I") (.int (Int32.ofNat j))) (.int (kF j))) ∈ _)) = true) j (List.mem_range.mpr hj))))) (fun a h9 => Nat.not_le.mpr h9)
  obtain ⟨th, hth, hTth⟩ := va_Tof (tm := .static "ActionDigests" "FIRST_SUMS" "[I") (ty := .int) (f := fun i => .int (hF i)) (N := 8) (A := A0 s) (by decide) (hs _ (by decide +kernel)) (va_eqt (hs (Cond.eq (.length (Term.static "ActionDigests" "FIRST_SUMS" "[I")) (.int (Int32.ofNat 8))) (by decide +kernel))) (fun j hj => va_eqt (hs _ (of_decide_eq_true (List.all_eq_true.mp (by decide +kernel : ((List.range 8).all fun j => decide ((Cond.eq (.elem (Term.static "ActionDigests" "FIRST_SUMS" "[I") (.int (Int32.ofNat j))) (.int (hF j))) ∈ _)) = true) j (List.mem_range.mpr hj))))) (fun a h9 => Nat.not_le.mpr h9)
  refine ⟨tk, th, va_Zref (hts (.laysStatic "ActionDigests" "ROUND_CONSTANTS" "[I") (by decide +kernel)) (hts (.initialized "ActionDigests") (by decide +kernel)) htk (fun a h9 => Nat.not_le.mpr h9), hTtk, va_Zref (hts (.laysStatic "ActionDigests" "FIRST_SUMS" "[I") (by decide +kernel)) (hts (.initialized "ActionDigests") (by decide +kernel)) hth (fun a h9 => Nat.not_le.mpr h9), hTth, va_Nw.of rfl (hts (.fieldLinkNest "ActionDigests$Sha" 47 "ActionDigests" "ROUND_CONSTANTS" "[I" "ActionDigests") (by decide +kernel)), va_Nw.of rfl (hts (.fieldLinkNest "ActionDigests$Sha" 26 "ActionDigests" "FIRST_SUMS" "[I" "ActionDigests") (by decide +kernel)), va_Nw.of rfl (hts (.methodLinkNest "ActionDigests" 9 y_TX_init "ActionDigests") (by decide +kernel)), va_Nw.of rfl (hts (.methodLinkNest "ActionDigests" 18 y_SH_init "ActionDigests") (by decide +kernel)), va_Nw.of rfl (hts (.methodLinkNest "ActionDigests" 64 y_AC_init "ActionDigests") (by decide +kernel)), va_AO.of (hts (.arrayOver (.object "ActionDigests$Action")) (by decide +kernel)), va_AO.of (hts (.arrayOver (.object "ActionDigests$Key")) (by decide +kernel)), va_AO.of (hts (.arrayOver (.object "ActionDigests$Row")) (by decide +kernel)), fun q hq => ?_, fun w hw => va_Nw.of (xng_t w hw) (hts w ((by decide +kernel : ∀ w ∈ xng, w ∈ lw_tbl) w hw)), vx_Zqof (hts (.laysStatic Bundle.tN "UNASSIGNED_STACK" Bundle.steD) (by decide +kernel)) (hts (.initialized Bundle.tN) (by decide +kernel)) (hs _ (by decide +kernel)) (fun a h9 => Nat.not_le.mpr h9), vx_Zqof (hts (.laysStatic Bundle.tN "SUPPRESSED_SENTINEL" Bundle.listD) (by decide +kernel)) (hts (.initialized Bundle.tN) (by decide +kernel)) (hs _ (by decide +kernel)) (fun a h9 => Nat.not_le.mpr h9), va_Nc.of (hs _ (by decide +kernel))⟩
  have hst : (Cond.stringRef "ActionDigests" q.1 q.2).before #[Value.ref b] s = true := hts _ ((by decide +kernel : ∀ q ∈ xstr, Cond.stringRef "ActionDigests" q.1 q.2 ∈ lw_tbl) q hq)
  have hex : (Cond.exactly (.string "ActionDigests" q.1) "java/lang/String").before #[Value.ref b] s = true := hs _ ((by decide +kernel : ∀ q ∈ xstr, Cond.exactly (.string "ActionDigests" q.1) "java/lang/String" ∈ _) q hq)
  obtain ⟨a, -, -, -, ha, -⟩ := Cond.exactly_spec hex
  exact ⟨a, vk_R.of hst ha⟩
