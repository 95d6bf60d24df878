/-! CONTRACTS OF THIS CLAIM: all methods have the words tb behind their own code -/

abbrev hp_Z : Type := (Nat → Prop) → State → Heap → Prop
/-- a contract: of an int (truth values, characters too), of nothing, of a reference or null -/
abbrev Mi (l : Launch) (y : MethodName) (b : ByteArray) (n : Nat) (ret : Option FieldType) (fr lo ce sl : Nat) (avs : List Value) (D : va_G) (ct : Nat → ClassId) (Z : hp_Z) (M : hp_M) (sz : Nat) (post : Int32 → hp_M → Prop) : Prop :=
  Met l y (Cond.code y b n ret :: tb) { frames := fr, cells := ce, slots := sl, locals := lo } (hp_Pc avs D ccl (tys ct) Z M sz) (va_Qi post (hp_B D ccl M sz) (hp_A M sz)) ce sl (hp_A M sz)
abbrev Mv (l : Launch) (y : MethodName) (b : ByteArray) (n : Nat) (ret : Option FieldType) (fr lo ce sl : Nat) (avs : List Value) (D : va_G) (ct : Nat → ClassId) (Z : hp_Z) (M : hp_M) (sz : Nat) (post : hp_M → Prop) : Prop :=
  Met l y (Cond.code y b n ret :: tb) { frames := fr, cells := ce, slots := sl, locals := lo } (hp_Pc avs D ccl (tys ct) Z M sz) (va_Qv post (hp_B D ccl M sz) (hp_A M sz)) ce sl (hp_A M sz)
abbrev Mq (l : Launch) (y : MethodName) (b : ByteArray) (n : Nat) (ret : Option FieldType) (fr lo ce sl : Nat) (avs : List Value) (D : va_G) (ct : Nat → ClassId) (Z : hp_Z) (M : hp_M) (sz : Nat) (post : Option Nat → hp_M → Prop) : Prop :=
  Met l y (Cond.code y b n ret :: tb) { frames := fr, cells := ce, slots := sl, locals := lo } (hp_Pc avs D ccl (tys ct) Z M sz) (va_Qq post (hp_B D ccl M sz) (hp_A M sz)) ce sl (hp_A M sz)
theorem hp_start {l : Launch} {y : MethodName} {rm : Room} {Qc : Array Value → State → Outcome → State → Prop} {mc ms sz : Nat} {free : Addr → Prop} {cc : ByteArray} {maxL : Nat} {ret : Option FieldType} {avs : List Value} {D : va_G} {ct : Nat → ClassId} {Z : hp_Z} {M : hp_M}
    (hy : plainName y.cls = true) (hlen : (lg_sl avs).length ≤ maxL)
    (body : ∀ (p : Program) (e : Env) (s : State) (m : MethodId) (below : List Frame) (meth : Method) (c : Code) (ls : Array Slot), CallFix p m c cc maxL s avs.toArray tb y.cls → meth.sig.returnType = ret → meth.locks = false → meth.name = y.name → s.heap.size = sz → va_K D ccl (tys ct) s → hp_H D ccl (hp_A M sz) M s.heap → va_S (hp_A M sz) s.heap s.heap [] → (∀ q, s.heap.size ≤ q → hp_A M sz q) → Z (hp_A M sz) s s.heap → lv_has ls maxL (lv_args 0 avs) →
      W p l e rm s m avs.toArray below meth c s.heap [] 0 0 (MQ below Qc avs.toArray s mc ms free) (F0 m 0 ls [])) : Met l y (Cond.code y cc maxL ret :: tb) rm (hp_Pc avs D ccl (tys ct) Z M sz) Qc mc ms free :=
  hp_enter hy rfl hlen (fun p e s m below meth c ls S => body p e s m below meth c ls ⟨S.1, S.2.1, S.2.2.1, S.2.2.2.1, fun w h => S.2.2.2.2 w (List.mem_cons_of_mem _ h)⟩)
section CALL
variable {p : Program} {l : Launch} {e : Env} {R : Room} {s : State} {m : MethodId} {args : Array Value} {below : List Frame} {meth : Method} {c : Code} {H : Heap} {locs : List Loc} {cells slots : Nat} {Q : State → Prop}
variable {cc : ByteArray} {pc nL : Nat} {ls : Array Slot} {rest st0 : List Value} {D : va_G} {A : Nat → Prop} {ct : Nat → ClassId} {M : hp_M} {own : String} {Z : hp_Z} {As : List Value}
variable {y : MethodName} {b : ByteArray} {n index fr lo ce sl k : Nat} {ret : Option FieldType}
theorem cw_G (hc : Cond.code y b n ret ∈ tb) : GoodIn tb (Cond.code y b n ret :: tb) := fun w hw => by
  rcases List.mem_cons.mp hw with h | h
  · rw [h]; exact gd_tb _ hc
  · exact gd_tb w h
theorem cw_B (S : CallFix p m c cc nL s args tb own) (hc : Cond.code y b n ret ∈ tb) (hi : Cond.initialized y.cls ∈ tb) (hl : Cond.methodLink own index y ∈ tb) (hd : y.cls ≠ "java/lang/invoke/MethodHandle" ∧ y.cls ≠ "java/lang/invoke/VarHandle" ∧ (parseMethodDescriptor y.desc).map (fun d => d.parameters.length) = some k) (hR : fr + 1 ≤ R.frames ∧ 8 + (n + 11) + lo ≤ R.locals) : CallB R s args own index y b n ret (Cond.code y b n ret :: tb) { frames := fr, cells := ce, slots := sl, locals := lo } ce sl k :=
  callB_of k S.2.2.2.2 (cw_G hc) rfl rfl rfl (S.2.2.2.2 _ hi) (S.2.2.2.2 _ hl) hd hR
/-- what a call needs that isn't the callee's: the words, the arguments on the stack, the room -/
theorem go_V (S : CallFix p m c cc nL s args tb own) (hZ : hp_Zok Z) (hK : va_K D ccl (tys ct) s) (hM : hp_H D ccl A M H) (hS : va_S A s.heap H locs) (hA : ∀ q, s.heap.size ≤ q → A q) (hz : Z A s s.heap) {Qc : Array Value → State → Outcome → State → Prop} {o ci : Nat} {fs : List Value} {r : vw_C}
    (hC : Met l y (Cond.code y b n ret :: tb) { frames := fr, cells := ce, slots := sl, locals := lo } (hp_Pc (.ref o :: As) D ccl (tys ct) Z M H.size) Qc ce sl (hp_A M H.size))
    (hc : Cond.code y b n ret ∈ tb) (hi : Cond.initialized y.cls ∈ tb) (hl : Cond.methodLink own index y ∈ tb) (hin : Cond.instanceMethod y ∈ tb) (hse : Cond.selects y.cls y y ∈ tb) (hd : y.cls ≠ "java/lang/invoke/MethodHandle" ∧ y.cls ≠ "java/lang/invoke/VarHandle" ∧ (parseMethodDescriptor y.desc).map (fun d => d.parameters.length) = some k) (hk : As.length = k) (hR : fr + 1 ≤ R.frames ∧ 8 + (n + 11) + lo ≤ R.locals)
    (hm : M o = some (.inr (ci, fs))) (hr : ccl[ci]? = some r) (hrc : r.1 = y.cls) (hsize : ls.size = nL) (hst : st0 = As.reverse ++ .ref o :: rest) (hW : (rest.map fun v => v.category).sum ≤ 8) (hdg : decode cc pc = .ok (.invokevirtual index, 3)) (hf : cells + ce ≤ R.cells ∧ slots + sl ≤ R.slots) :
    va_Run p l e R s m args below meth c H locs cells slots ce sl (F0 m pc ls st0) rest (Qc (Value.ref o :: As).toArray) (hp_A M H.size) :=
  va_runV (C := y.cls) (As := As) (b := o) S hC ⟨cw_B S hc hi hl hd hR, S.2.2.2.2 _ hin, S.2.2.2.2 _ hse⟩ (by rw [← hrc]; exact hp_preV hZ hK hM hS hA hz hm hr) rfl hk hsize hst (lv_room hW) hdg hf
theorem go_S (S : CallFix p m c cc nL s args tb own) (hZ : hp_Zok Z) (hK : va_K D ccl (tys ct) s) (hM : hp_H D ccl A M H) (hS : va_S A s.heap H locs) (hA : ∀ q, s.heap.size ≤ q → A q) (hz : Z A s s.heap) {Qc : Array Value → State → Outcome → State → Prop}
    (hC : Met l y (Cond.code y b n ret :: tb) { frames := fr, cells := ce, slots := sl, locals := lo } (hp_Pc As D ccl (tys ct) Z M H.size) Qc ce sl (hp_A M H.size))
    (hc : Cond.code y b n ret ∈ tb) (hi : Cond.initialized y.cls ∈ tb) (hl : Cond.methodLink own index y ∈ tb) (hst' : Cond.static y ∈ tb) (hd : y.cls ≠ "java/lang/invoke/MethodHandle" ∧ y.cls ≠ "java/lang/invoke/VarHandle" ∧ (parseMethodDescriptor y.desc).map (fun d => d.parameters.length) = some k) (hk : As.length = k) (hR : fr + 1 ≤ R.frames ∧ 8 + (n + 11) + lo ≤ R.locals)
    (hsize : ls.size = nL) (hst : st0 = As.reverse ++ rest) (hW : (rest.map fun v => v.category).sum ≤ 8) (hdg : decode cc pc = .ok (.invokestatic index, 3)) (hf : cells + ce ≤ R.cells ∧ slots + sl ≤ R.slots) :
    va_Run p l e R s m args below meth c H locs cells slots ce sl (F0 m pc ls st0) rest (Qc As.toArray) (hp_A M H.size) :=
  va_runS (As := As) S hC ⟨cw_B S hc hi hl hd hR, S.2.2.2.2 _ hst'⟩ (hp_preS hZ hK hM hS hA hz) rfl hk hsize hst (lv_room hW) hdg hf
theorem go_I (S : CallFix p m c cc nL s args tb own) (hZ : hp_Zok Z) (hK : va_K D ccl (tys ct) s) (hM : hp_H D ccl A M H) (hS : va_S A s.heap H locs) (hA : ∀ q, s.heap.size ≤ q → A q) (hz : Z A s s.heap) {Qc : Array Value → State → Outcome → State → Prop} {o : Nat}
    (hC : Met l y (Cond.code y b n none :: tb) { frames := fr, cells := ce, slots := sl, locals := lo } (hp_Pc (.ref o :: As) D ccl (tys ct) Z M H.size) Qc ce sl (hp_A M H.size))
    (hc : Cond.code y b n none ∈ tb) (hi : Cond.initialized y.cls ∈ tb) (hl : Cond.methodLink own index y ∈ tb) (hin : Cond.instanceMethod y ∈ tb) (hy : y.name = "<init>") (hd : y.cls ≠ "java/lang/invoke/MethodHandle" ∧ y.cls ≠ "java/lang/invoke/VarHandle" ∧ (parseMethodDescriptor y.desc).map (fun d => d.parameters.length) = some k) (hk : As.length = k) (hR : fr + 1 ≤ R.frames ∧ 8 + (n + 11) + lo ≤ R.locals)
    (hsize : ls.size = nL) (hst : st0 = As.reverse ++ .ref o :: rest) (hW : (rest.map fun v => v.category).sum ≤ 8) (hdg : decode cc pc = .ok (.invokespecial index, 3)) (hf : cells + ce ≤ R.cells ∧ slots + sl ≤ R.slots) :
    va_Run p l e R s m args below meth c H locs cells slots ce sl (F0 m pc ls st0) rest (Qc (Value.ref o :: As).toArray) (hp_A M H.size) :=
  va_runI (As := As) (b := o) S hC ⟨cw_B S hc hi hl hd hR, hy, S.2.2.2.2 _ hin⟩ (hp_preS (avs := .ref o :: As) hZ hK hM hS hA hz) rfl hk hsize hst (lv_room hW) hdg hf
/-- .. of a nest mate's constructor that javac links by its nest -/
theorem go_IN {host : String} (S : CallFix p m c cc nL s args tb own) (hZ : hp_Zok Z) (hK : va_K D ccl (tys ct) s) (hM : hp_H D ccl A M H) (hS : va_S A s.heap H locs) (hA : ∀ q, s.heap.size ≤ q → A q) (hz : Z A s s.heap) {Qc : Array Value → State → Outcome → State → Prop} {o : Nat}
    (hC : Met l y (Cond.code y b n none :: tb) { frames := fr, cells := ce, slots := sl, locals := lo } (hp_Pc (.ref o :: As) D ccl (tys ct) Z M H.size) Qc ce sl (hp_A M H.size))
    (hc : Cond.code y b n none ∈ tb) (hi : Cond.initialized y.cls ∈ tb) (hl : va_Nw (.methodLinkNest own index y host) s) (hin : Cond.instanceMethod y ∈ tb) (hy : y.name = "<init>") (hd : y.cls ≠ "java/lang/invoke/MethodHandle" ∧ y.cls ≠ "java/lang/invoke/VarHandle" ∧ (parseMethodDescriptor y.desc).map (fun d => d.parameters.length) = some k) (hk : As.length = k) (hR : fr + 1 ≤ R.frames ∧ 8 + (n + 11) + lo ≤ R.locals)
    (hsize : ls.size = nL) (hst : st0 = As.reverse ++ .ref o :: rest) (hW : (rest.map fun v => v.category).sum ≤ 8) (hdg : decode cc pc = .ok (.invokespecial index, 3)) (hf : cells + ce ≤ R.cells ∧ slots + sl ≤ R.slots) :
    va_Run p l e R s m args below meth c H locs cells slots ce sl (F0 m pc ls st0) rest (Qc (Value.ref o :: As).toArray) (hp_A M H.size) :=
  va_runIN (As := As) (b := o) S hC ⟨va_cnB k S.2.2.2.2 (cw_G hc) rfl rfl rfl hl (S.2.2.2.2 _ hi) hd hR, hy, S.2.2.2.2 _ hin⟩ (hp_preS (avs := .ref o :: As) hZ hK hM hS hA hz) rfl hk hsize hst (lv_room hW) hdg hf
end CALL
/-- two arrays of other types are of other classes -/
theorem ct_ne {D : va_G} {ct : Nat → ClassId} {s : State} (hK : va_K D ccl (tys ct) s) {i j : Nat} {t1 t2 : FieldType} (hi : (tys ct)[i]? = some (ct i, t1)) (hj : (tys ct)[j]? = some (ct j, t2)) (hne : t1 ≠ t2) : ct i ≠ ct j := by
  intro q
  obtain ⟨-, kA, hk, comp, hc⟩ := (hK.2 i _ hi).1 0 (fun _ => .null)
  obtain ⟨-, kB, hk2, comp2, hc2⟩ := (hK.2 j _ hj).1 0 (fun _ => .null)
  have hk : s.vm.classes[ct i]? = some kA := hk
  have hk2 : s.vm.classes[ct j]? = some kB := hk2
  rw [q, hk2] at hk
  cases hk
  rw [hc] at hc2
  cases hc2
  exact hne rfl
theorem hp_ne {M : hp_M} {a b : Nat} {e x : va_E} (ha : M a = some e) (hb : M b = some x) (h : e ≠ x) : a ≠ b := fun q => h (by rw [q, hb] at ha; exact (Option.some.inj ha).symm)
