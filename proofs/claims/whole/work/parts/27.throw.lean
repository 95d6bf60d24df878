/-! THROWING: a contract with two posts -/
def hp_X (D : va_G) (M : hp_M) (sz : Nat) (pX : String → hp_M → Prop) : String → State → State → Prop := vx_X (fun _ : hp_M => True) (fun E M1 t => pX E M1 ∧ hp_B D ccl M sz M1 t) (hp_A M sz)
abbrev Xi (l : Launch) (y : MethodName) (b : ByteArray) (n : Nat) (ret : Option FieldType) (fr lo ce sl : Nat) (avs : List Value) (D : va_G) (ct : Nat → ClassId) (Z : hp_Z) (M : hp_M) (sz : Nat) (post : Int32 → hp_M → Prop) (pX : String → hp_M → Prop) : Prop :=
  vx_Met l y (Cond.code y b n ret :: tb) { frames := fr, cells := ce, slots := sl, locals := lo } (hp_Pc avs D ccl (tys ct) Z M sz) (va_Qi post (hp_B D ccl M sz) (hp_A M sz)) (hp_X D M sz pX) ce sl (hp_A M sz)
abbrev Xv (l : Launch) (y : MethodName) (b : ByteArray) (n : Nat) (ret : Option FieldType) (fr lo ce sl : Nat) (avs : List Value) (D : va_G) (ct : Nat → ClassId) (Z : hp_Z) (M : hp_M) (sz : Nat) (post : hp_M → Prop) (pX : String → hp_M → Prop) : Prop :=
  vx_Met l y (Cond.code y b n ret :: tb) { frames := fr, cells := ce, slots := sl, locals := lo } (hp_Pc avs D ccl (tys ct) Z M sz) (va_Qv post (hp_B D ccl M sz) (hp_A M sz)) (hp_X D M sz pX) ce sl (hp_A M sz)
theorem hp_startX {l : Launch} {y : MethodName} {rm : Room} {Qc : Array Value → State → Outcome → State → Prop} {XC : String → State → State → Prop} {mc ms sz : Nat} {free : Addr → Prop} {cc : ByteArray} {maxL : Nat} {ret : Option FieldType} {avs : List Value} {D : va_G} {ct : Nat → ClassId} {Z : hp_Z} {M : hp_M}
    (hy : plainName y.cls = true) (hlen : (lg_sl avs).length ≤ maxL)
    (body : ∀ (p : Program) (e : Env) (s : State) (m : MethodId) (below : List Frame) (meth : Method) (c : Code) (ls : Array Slot), CallFix p m c cc maxL s avs.toArray tb y.cls → meth.sig.returnType = ret → meth.locks = false → meth.name = y.name → s.heap.size = sz → va_K D ccl (tys ct) s → hp_H D ccl (hp_A M sz) M s.heap → va_S (hp_A M sz) s.heap s.heap [] → (∀ q, s.heap.size ≤ q → hp_A M sz q) → Z (hp_A M sz) s s.heap → lv_has ls maxL (lv_args 0 avs) → (∀ x ∈ c.exceptionTable.toList, False) →
      W p l e rm s m avs.toArray below meth c s.heap [] 0 0 (vx_MQ below Qc XC avs.toArray s mc ms free) (F0 m 0 ls [])) : vx_Met l y (Cond.code y cc maxL ret :: tb) rm (hp_Pc avs D ccl (tys ct) Z M sz) Qc XC mc ms free := by
  refine vx_ofW (cc := cc) (maxL := maxL) (ret := ret) hy rfl ?_
  intro p e s m args below meth c s₁ B hml hnx hv
  obtain ⟨rfl, hsz, hM, hK, hZ⟩ := hv
  have hts := atoms_spec (ws := Cond.code y cc maxL ret :: tb) B.pre
  have hown : s.vm.findClass y.cls = some m.cls := findClass_of_methodNamed B.named
  have hl := lv_entry avs (n := maxL) hlen
  rw [lg_entry_eq]
  exact body p e s m below meth c _ ⟨B.exec, B.bytes, hml, hown, fun w h => hts w (List.mem_cons_of_mem _ h)⟩ B.returns B.notSynchronized (name_of_methodNamed B.named B.method).1 hsz hK hM va_S.rf (fun q h => Or.inr (by rw [← hsz]; exact h)) hZ hl hnx
def xstr : List (Nat × String) := [(59, "there are 12 actions"), (75, "there is no such action"), (84, "there is no such kind, or the text is none of it"), (97, "the path or name is there for this kind"), (103, "there are 24 rows"), (119, "there is no such number"), (132, "the text is no name"), (138, "the name is allowed"), (140, "there are 8 allowed names"), (142, "the text has more than 16 characters")]
def xng : List Cond := [.declares ⟨"java/lang/Throwable", "<init>", "(Ljava/lang/String;)V"⟩, .declares ⟨"java/lang/RuntimeException", "<init>", "(Ljava/lang/String;)V"⟩, .declares ⟨"java/lang/Exception", "<init>", "(Ljava/lang/String;)V"⟩, .castable "java/lang/IllegalStateException" "java/lang/IllegalStateException", .castable "java/lang/IllegalArgumentException" "java/lang/IllegalArgumentException"]
/-- what a throw asks of the tables and statics -/
def zX (Z : hp_Z) : Prop := ∀ (A : Nat → Prop) (U : State) (H : Heap), Z A U H → (∀ q ∈ xstr, ∃ sa, vk_R "ActionDigests" q.1 q.2 sa U) ∧ (∀ w ∈ xng, va_Nw w U) ∧ vx_Zq Bundle.tN "UNASSIGNED_STACK" Bundle.steD A U H ∧ vx_Zq Bundle.tN "SUPPRESSED_SENTINEL" Bundle.listD A U H
theorem xng_t : ∀ w ∈ xng, w.onTables = true := by decide +kernel
theorem xg_IS : ∀ w ∈ (vx_atS "ActionDigests" 61 "java/lang/IllegalStateException" ["java/lang/RuntimeException", "java/lang/Exception"]).filter goodWord, w ∈ lw_tbl := by decide +kernel
theorem xn_IS : ∀ w ∈ (vx_atS "ActionDigests" 61 "java/lang/IllegalStateException" ["java/lang/RuntimeException", "java/lang/Exception"]).filter (fun w => !goodWord w), w ∈ xng := by decide +kernel
theorem xo_IS : ∀ w ∈ Cond.classLink "ActionDigests" 57 "java/lang/IllegalStateException" :: Cond.initialized "java/lang/IllegalStateException" :: vx_atS "ActionDigests" 61 "java/lang/IllegalStateException" ["java/lang/RuntimeException", "java/lang/Exception"], vx_ot w = true := by decide +kernel
theorem xg_IA : ∀ w ∈ (vx_atS "ActionDigests" 77 "java/lang/IllegalArgumentException" ["java/lang/RuntimeException", "java/lang/Exception"]).filter goodWord, w ∈ lw_tbl := by decide +kernel
theorem xn_IA : ∀ w ∈ (vx_atS "ActionDigests" 77 "java/lang/IllegalArgumentException" ["java/lang/RuntimeException", "java/lang/Exception"]).filter (fun w => !goodWord w), w ∈ xng := by decide +kernel
theorem xo_IA : ∀ w ∈ Cond.classLink "ActionDigests" 73 "java/lang/IllegalArgumentException" :: Cond.initialized "java/lang/IllegalArgumentException" :: vx_atS "ActionDigests" 77 "java/lang/IllegalArgumentException" ["java/lang/RuntimeException", "java/lang/Exception"], vx_ot w = true := by decide +kernel
section THROW
variable {p : Program} {l : Launch} {e : Env} {R : Room} {s : State} {m : MethodId} {args : Array Value} {below : List Frame} {meth : Method} {c : Code} {H : Heap} {locs : List Loc} {cells slots mc ms : Nat}
variable {cc : ByteArray} {pc nL : Nat} {ls : Array Slot} {rest : List Value} {D : va_G} {M M0 : hp_M} {sz : Nat} {Z : hp_Z} {pX : String → hp_M → Prop} {Qc : Array Value → State → Outcome → State → Prop}
theorem hp_hx {E : String} (hM : hp_H D ccl (hp_A M0 sz) M H) (hS : va_S (hp_A M0 sz) s.heap H locs) (hp : pX E M) (t : State) (h1 : H.size ≤ t.heap.size) (h2 : ∀ q : Nat, q < H.size → t.heap[q]? = H[q]?) : hp_X D M0 sz pX E s t :=
  ⟨M, trivial, ⟨hp, hM.kept (fun a ha => h2 a (hM.lt ha))⟩, Nat.le_trans hS.1 h1, fun q hq hn => (h2 q (Nat.lt_of_lt_of_le hq hS.1)).trans (hS.2.1 q hq hn)⟩
theorem hp_throwIS {is : Nat} {text : String} (S : CallFix p m c cc nL s args tb "ActionDigests") (hl : l.stackTraces = false) (hzx : zX Z) (hz : Z (hp_A M0 sz) s s.heap) (hM : hp_H D ccl (hp_A M0 sz) M H) (hS : va_S (hp_A M0 sz) s.heap H locs) (hsz : ls.size = nL) (hlk : meth.locks = false) (hnx : ∀ x ∈ c.exceptionTable.toList, False) (hstr : (is, text) ∈ xstr)
    (d0 : decode cc pc = .ok (.new 57, 3)) (d3 : decode cc (pc + 3) = .ok (.dup, 1)) (d4 : decode cc (pc + 4) = .ok (.ldc is, 2)) (d6 : decode cc (pc + 6) = .ok (.invokespecial 61, 3)) (d9 : decode cc (pc + 9) = .ok (.athrow, 1))
    (hR : 6 ≤ R.frames ∧ (rest.map fun v => v.category).sum + 82 ≤ R.locals) (hf : cells + 1 ≤ R.cells ∧ slots + 6 ≤ R.slots) (hc : cells + 1 ≤ mc) (hs : slots + 6 ≤ ms) (hp : pX "java/lang/IllegalStateException" M) :
    W p l e R s m args below meth c H locs cells slots (vx_MQ below Qc (hp_X D M0 sz pX) args s mc ms (hp_A M0 sz)) (F0 m pc ls rest) := by
  obtain ⟨hst, hng, hU, hN⟩ := hzx _ _ _ hz
  obtain ⟨sa, hsa⟩ := hst _ hstr
  exact vx_throwS S.1 S.2.1 hl (own := "ActionDigests") (cls := "java/lang/IllegalStateException") (text := text) (names := ["java/lang/RuntimeException", "java/lang/Exception"]) (ik := 57) (is := is) (ic := 61) (sa := sa) (A := hp_A M0 sz) S.2.2.2.1 (by decide +kernel) (by decide +kernel)
    (S.2.2.2.2 _ mk_AD_57) (S.2.2.2.2 _ mz_IS) hsa (vx_hat (fun w hw => S.2.2.2.2 w (List.mem_filter.mpr ⟨xg_IS w hw, (List.mem_filter.mp hw).2⟩)) xn_IS (fun w hw => va_Nw.use (xng_t w hw) (hng w hw))) xo_IS hU hN hS (hsz.trans S.2.2.1.symm) d0 d3 d4 d6 d9 (fun x hx => absurd (hnx x hx) id) (Nat.lt_of_lt_of_le (by decide) hR.1) hR.2 hf.1 hf.2 hlk (fun t _ h1 h2 => hp_hx hM hS hp t h1 h2) hS.2.2 hc hs
theorem hp_throwIA {is : Nat} {text : String} (S : CallFix p m c cc nL s args tb "ActionDigests") (hl : l.stackTraces = false) (hzx : zX Z) (hz : Z (hp_A M0 sz) s s.heap) (hM : hp_H D ccl (hp_A M0 sz) M H) (hS : va_S (hp_A M0 sz) s.heap H locs) (hsz : ls.size = nL) (hlk : meth.locks = false) (hnx : ∀ x ∈ c.exceptionTable.toList, False) (hstr : (is, text) ∈ xstr)
    (d0 : decode cc pc = .ok (.new 73, 3)) (d3 : decode cc (pc + 3) = .ok (.dup, 1)) (d4 : decode cc (pc + 4) = .ok (.ldc is, 2)) (d6 : decode cc (pc + 6) = .ok (.invokespecial 77, 3)) (d9 : decode cc (pc + 9) = .ok (.athrow, 1))
    (hR : 6 ≤ R.frames ∧ (rest.map fun v => v.category).sum + 82 ≤ R.locals) (hf : cells + 1 ≤ R.cells ∧ slots + 6 ≤ R.slots) (hc : cells + 1 ≤ mc) (hs : slots + 6 ≤ ms) (hp : pX "java/lang/IllegalArgumentException" M) :
    W p l e R s m args below meth c H locs cells slots (vx_MQ below Qc (hp_X D M0 sz pX) args s mc ms (hp_A M0 sz)) (F0 m pc ls rest) := by
  obtain ⟨hst, hng, hU, hN⟩ := hzx _ _ _ hz
  obtain ⟨sa, hsa⟩ := hst _ hstr
  exact vx_throwS S.1 S.2.1 hl (own := "ActionDigests") (cls := "java/lang/IllegalArgumentException") (text := text) (names := ["java/lang/RuntimeException", "java/lang/Exception"]) (ik := 73) (is := is) (ic := 77) (sa := sa) (A := hp_A M0 sz) S.2.2.2.1 (by decide +kernel) (by decide +kernel)
    (S.2.2.2.2 _ mk_AD_73) (S.2.2.2.2 _ mz_IA) hsa (vx_hat (fun w hw => S.2.2.2.2 w (List.mem_filter.mpr ⟨xg_IA w hw, (List.mem_filter.mp hw).2⟩)) xn_IA (fun w hw => va_Nw.use (xng_t w hw) (hng w hw))) xo_IA hU hN hS (hsz.trans S.2.2.1.symm) d0 d3 d4 d6 d9 (fun x hx => absurd (hnx x hx) id) (Nat.lt_of_lt_of_le (by decide) hR.1) hR.2 hf.1 hf.2 hlk (fun t _ h1 h2 => hp_hx hM hS hp t h1 h2) hS.2.2 hc hs
end THROW
