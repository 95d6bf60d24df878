/-! THE HEAPLET: what lies at which address, as a partial function; one fact 'hp_H' says that the heap holds it. Rows of the kit turned to it. -/
abbrev hp_M : Type := Nat → Option va_E
def hp_up (M : hp_M) (a : Nat) (e : va_E) : hp_M := fun q => if q = a then some e else M q
theorem hp_us {M : hp_M} {a : Nat} {e : va_E} : hp_up M a e a = some e := if_pos rfl
theorem hp_un {M : hp_M} {a b : Nat} {e : va_E} (h : b ≠ a) : hp_up M a e b = M b := if_neg h
theorem hp_k {M : hp_M} {a b : Nat} {e x : va_E} (h : b ≠ a) (hb : M b = some x) : hp_up M a e b = some x := by rw [hp_un h]; exact hb
theorem hp_uu {M : hp_M} {a : Nat} {e x : va_E} : hp_up (hp_up M a e) a x = hp_up M a x := by
  funext q
  unfold hp_up
  by_cases h : q = a
  · rw [if_pos h, if_pos h]
  · rw [if_neg h, if_neg h, if_neg h]
theorem hp_same {M : hp_M} {a : Nat} {e : va_E} (h : M a = some e) : hp_up M a e = M := by
  funext q
  unfold hp_up
  by_cases hq : q = a
  · rw [if_pos hq, hq, h]
  · rw [if_neg hq]
/-- what a method may write: the heaplet's addresses, and new ones -/
def hp_A (M : hp_M) (sz : Nat) : Nat → Prop := fun q => M q ≠ none ∨ sz ≤ q
def hp_H (D : va_G) (cl : List vw_C) (A : Nat → Prop) (M : hp_M) (H : Heap) : Prop := ∃ ws : va_W, va_P D cl ws H ∧ va_D A ws ∧ ∀ (a : Nat) (e : va_E), M a = some e ↔ (a, e) ∈ ws
theorem hp_set_i {M : hp_M} {A : Nat → Prop} {ws : va_W} {q0 a : Nat} {e e' : va_E} (hD : va_D A ws) (hi : ∀ (b : Nat) (x : va_E), M b = some x ↔ (b, x) ∈ ws) (he : ws[q0]? = some (a, e)) : ∀ (b : Nat) (x : va_E), hp_up M a e' b = some x ↔ (b, x) ∈ ws.set q0 (a, e') := by
  have hlt : q0 < ws.length := (List.getElem?_eq_some_iff.mp he).1
  intro b x
  constructor
  · intro h
    by_cases hb : b = a
    · subst hb
      rw [hp_us] at h
      cases h
      exact List.mem_of_getElem? (i := q0) (List.getElem?_set_self hlt)
    · rw [hp_un hb] at h
      obtain ⟨i, hi'⟩ := List.getElem?_of_mem ((hi b x).mp h)
      have hne : q0 ≠ i := fun q => by
        subst q
        rw [he] at hi'
        cases hi'
        exact hb rfl
      exact List.mem_of_getElem? (i := i) (by rw [List.getElem?_set_ne hne]; exact hi')
  · intro h
    obtain ⟨i, hi'⟩ := List.getElem?_of_mem h
    by_cases hq : q0 = i
    · subst hq
      rw [List.getElem?_set_self hlt] at hi'
      cases hi'
      exact hp_us
    · rw [List.getElem?_set_ne hq] at hi'
      have hb : b ≠ a := fun q => hq (hD.1 _ _ _ _ he hi' q.symm)
      rw [hp_un hb]
      exact (hi b x).mpr (List.mem_of_getElem? hi')
theorem hp_push_i {M : hp_M} {A : Nat → Prop} {ws : va_W} {q : Nat} {e : va_E} (hD : va_D A (ws ++ [(q, e)])) (hi : ∀ (b : Nat) (x : va_E), M b = some x ↔ (b, x) ∈ ws) : M q = none ∧ ∀ (b : Nat) (x : va_E), hp_up M q e b = some x ↔ (b, x) ∈ ws ++ [(q, e)] := by
  have fresh : ∀ x : va_E, (q, x) ∉ ws := fun x h => by
    obtain ⟨i, hi'⟩ := List.getElem?_of_mem h
    have hlt : i < ws.length := (List.getElem?_eq_some_iff.mp hi').1
    have h3 := hD.1 i ws.length (q, x) (q, e) (by rw [List.getElem?_append_left hlt]; exact hi') (by simp) rfl
    omega
  refine ⟨?_, fun b x => ?_⟩
  · cases hM : M q with
    | none => rfl
    | some x => exact absurd ((hi q x).mp hM) (fresh x)
  · rw [List.mem_append, List.mem_singleton]
    constructor
    · intro h
      by_cases hb : b = q
      · subst hb
        rw [hp_us] at h
        cases h
        exact Or.inr rfl
      · rw [hp_un hb] at h
        exact Or.inl ((hi b x).mp h)
    · intro h
      rcases h with h | h
      · have hb : b ≠ q := fun e1 => by
          subst e1
          exact fresh x h
        rw [hp_un hb]
        exact (hi b x).mpr h
      · cases h
        exact hp_us
theorem hp_H.wide {D : va_G} {cl : List vw_C} {A B : Nat → Prop} {M : hp_M} {H : Heap} (h : hp_H D cl A M H) (hAB : ∀ q, A q → B q) : hp_H D cl B M H := by
  obtain ⟨ws, hP, hD, hi⟩ := h
  exact ⟨ws, hP, ⟨hD.1, fun k q hk => hAB _ (hD.2 k q hk)⟩, hi⟩
theorem hp_H.self {D : va_G} {cl : List vw_C} {A : Nat → Prop} {M : hp_M} {H : Heap} (h : hp_H D cl A M H) (sz : Nat) : hp_H D cl (hp_A M sz) M H := by
  obtain ⟨ws, hP, hD, hi⟩ := h
  refine ⟨ws, hP, ⟨hD.1, fun k q hk => Or.inl ?_⟩, hi⟩
  rw [(hi q.1 q.2).mpr (List.mem_of_getElem? hk)]
  exact Option.some_ne_none _
theorem hp_H.mem {D : va_G} {cl : List vw_C} {A : Nat → Prop} {M : hp_M} {H : Heap} (h : hp_H D cl A M H) {a : Nat} {e : va_E} (hm : M a = some e) : A a ∧ va_at D cl (a, e) H := by
  obtain ⟨ws, hP, hD, hi⟩ := h
  obtain ⟨q0, he⟩ := List.getElem?_of_mem ((hi a e).mp hm)
  exact ⟨hD.2 q0 _ he, hP q0 _ he⟩
theorem hp_H.lt {D : va_G} {cl : List vw_C} {A : Nat → Prop} {M : hp_M} {H : Heap} (h : hp_H D cl A M H) {a : Nat} (hm : M a ≠ none) : a < H.size := by
  cases hM : M a with
  | none => exact absurd hM hm
  | some e => exact (h.mem hM).2.lt
/-- a heap that agrees on the heaplet's addresses holds it too -/
theorem hp_H.kept {D : va_G} {cl : List vw_C} {A : Nat → Prop} {M : hp_M} {H H1 : Heap} (h : hp_H D cl A M H) (hq : ∀ a : Nat, M a ≠ none → H1[a]? = H[a]?) : hp_H D cl A M H1 := by
  obtain ⟨ws, hP, hD, hi⟩ := h
  refine ⟨ws, fun k q hk => (hP k q hk).kept (hq q.1 ?_), hD, hi⟩
  rw [(hi q.1 q.2).mpr (List.mem_of_getElem? hk)]
  exact Option.some_ne_none _
theorem hp_sub {D : va_G} {cl : List vw_C} {A : Nat → Prop} {M : hp_M} {H0 H : Heap} {locs : List Loc} (hM : hp_H D cl A M H) (hS : va_S A H0 H locs) (hA : ∀ q, H0.size ≤ q → A q) {q : Nat} (h : hp_A M H.size q) : A q := by
  rcases h with h | h
  · cases hm : M q with
    | none => exact absurd hm h
    | some e => exact (hM.mem hm).1
  · exact hA q (Nat.le_trans hS.1 h)
/-- other contents of an array that agree below its length -/
theorem hp_H.cong {D : va_G} {cl : List vw_C} {A : Nat → Prop} {M : hp_M} {H : Heap} (h : hp_H D cl A M H) {a : Nat} {cA : ClassId} {n : Nat} {f g : Nat → Int32} (hm : M a = some (.inl (cA, n, .inl f))) (hfg : ∀ i, i < n → f i = g i) : hp_H D cl A (hp_up M a (.inl (cA, n, .inl g))) H := by
  obtain ⟨ws, hP, hD, hi⟩ := h
  obtain ⟨q0, he⟩ := List.getElem?_of_mem ((hi a _).mp hm)
  have hlt : q0 < ws.length := (List.getElem?_eq_some_iff.mp he).1
  have hcell : vp_cell cA (n, .inl f) = vp_cell cA (n, .inl g) := by
    rw [vp_cell_i, vp_cell_i]
    unfold arrV
    congr 1
    apply Array.ext
    · simp
    · intro i h1 h2
      simp only [Array.size_ofFn] at h1
      simp [hfg i h1]
  refine ⟨ws.set q0 (a, .inl (cA, n, .inl g)), fun k q hk => ?_, ⟨fun i j p q h1 h2 h3 => ?_, fun k q hk => ?_⟩, hp_set_i hD hi he⟩
  · by_cases hkq : q0 = k
    · subst hkq
      rw [List.getElem?_set_self hlt] at hk
      cases hk
      have h9 : H[a]? = some (vp_cell cA (n, .inl f)) := hP q0 _ he
      show H[a]? = some (vp_cell cA (n, .inl g))
      rw [← hcell]
      exact h9
    · rw [List.getElem?_set_ne hkq] at hk
      exact hP k q hk
  · have key : ∀ (i : Nat) (p : Nat × va_E), (ws.set q0 (a, .inl (cA, n, .inl g)))[i]? = some p → ∃ p' : Nat × va_E, ws[i]? = some p' ∧ p'.1 = p.1 := fun i p hp => by
      by_cases hkq : q0 = i
      · subst hkq
        rw [List.getElem?_set_self hlt] at hp
        cases hp
        exact ⟨_, he, rfl⟩
      · rw [List.getElem?_set_ne hkq] at hp
        exact ⟨p, hp, rfl⟩
    obtain ⟨p', e1, e2⟩ := key i p h1
    obtain ⟨q', e3, e4⟩ := key j q h2
    exact hD.1 i j p' q' e1 e3 (by rw [e2, e4]; exact h3)
  · by_cases hkq : q0 = k
    · subst hkq
      rw [List.getElem?_set_self hlt] at hk
      cases hk
      have h9 := hD.2 q0 _ he
      exact h9
    · rw [List.getElem?_set_ne hkq] at hk
      exact hD.2 k q hk
theorem hp_RA {U : State} {c1 c2 : ClassId} {ty : FieldType} (h1 : va_RA U c1 ty) (h2 : va_RA U c2 ty) : c1 = c2 := by
  cases ty with
  | object C =>
    obtain ⟨_, _, _, _, _, h1⟩ := h1
    obtain ⟨_, _, _, _, _, h2⟩ := h2
    exact Option.some.inj (h1.symm.trans h2)
  | _ => exact Option.some.inj (Eq.trans (Eq.symm h1) h2)
theorem hp_cA {D : va_G} {cl : List vw_C} {tys : List (ClassId × FieldType)} {s : State} {t0 : Nat} {c0 cA : ClassId} {ty : FieldType} (hK : va_K D cl tys s) (ht : tys[t0]? = some (c0, ty)) (hK1 : va_K D cl (tys ++ [(cA, ty)]) s) : cA = c0 :=
  hp_RA (hK1.2 tys.length (cA, ty) (by simp)).2 (hK.2 t0 _ ht).2
section HPW
variable {p : Program} {l : Launch} {e : Env} {R : Room} {s : State} {m : MethodId} {args : Array Value} {below : List Frame} {meth : Method} {c : Code} {H : Heap} {locs : List Loc} {cells slots : Nat} {Q : State → Prop}
variable {cc : ByteArray} {pc nL : Nat} {ls : Array Slot} {rest : List Value} {D : va_G} {cl : List vw_C} {A : Nat → Prop} {a : Nat} {tys : List (ClassId × FieldType)} {M : hp_M} {H0 : Heap} {Ts : List Cond} {own : String}
theorem hp_get (S : CallFix p m c cc nL s args Ts own) (hK : va_K D cl tys s) (hM : hp_H D cl A M H) {C ref : String} {T : u_T} {N ci index : Nat} (hin : ∀ w ∈ u_ws C T N, w ∈ Ts) {fs : List Value} (hm : M a = some (.inr (ci, fs))) (hc : cl[ci]? = some (C, T, N)) (k : Nat) (hk : k < N) (hlink : Cond.fieldLink own index ref (T k).2.1 (T k).2.2.1 ∈ Ts) (hsame : ∀ x, s.fieldFound? (T k).1 (T k).2.1 (T k).2.2.1 = some x → s.fieldFound? ref (T k).2.1 (T k).2.2.1 = some x) {v : Value} (hv : fs[k]? = some v) (hdg : decode cc pc = .ok (.getfield index, 3))
    (kk : W p l e R s m args below meth c H locs cells slots Q (F0 m (pc + 3) ls (v :: rest))) : W p l e R s m args below meth c H locs cells slots Q (F0 m pc ls (.ref a :: rest)) := by
  obtain ⟨ws, hP, hD, hi⟩ := hM
  obtain ⟨q0, he⟩ := List.getElem?_of_mem ((hi a _).mp hm)
  exact va_get S.1 S.2.1 S.2.2.2.2 hin S.2.2.2.1 hK hP q0 he hc k hk (S.2.2.2.2 _ hlink) hsame hv hdg kk
theorem hp_getN (S : CallFix p m c cc nL s args Ts own) (hK : va_K D cl tys s) (hM : hp_H D cl A M H) {C ref host : String} {T : u_T} {N ci index : Nat} (hin : ∀ w ∈ u_ws C T N, w ∈ Ts) {fs : List Value} (hm : M a = some (.inr (ci, fs))) (hc : cl[ci]? = some (C, T, N)) (k : Nat) (hk : k < N) (hlink : Cond.fieldLinkNest own index ref (T k).2.1 (T k).2.2.1 host ∈ Ts) (hsame : ∀ x, s.fieldFound? (T k).1 (T k).2.1 (T k).2.2.1 = some x → s.fieldFound? ref (T k).2.1 (T k).2.2.1 = some x) {v : Value} (hv : fs[k]? = some v) (hdg : decode cc pc = .ok (.getfield index, 3))
    (kk : W p l e R s m args below meth c H locs cells slots Q (F0 m (pc + 3) ls (v :: rest))) : W p l e R s m args below meth c H locs cells slots Q (F0 m pc ls (.ref a :: rest)) := by
  obtain ⟨ws, hP, hD, hi⟩ := hM
  obtain ⟨q0, he⟩ := List.getElem?_of_mem ((hi a _).mp hm)
  exact va_getN S.1 S.2.1 S.2.2.2.2 hin S.2.2.2.1 hK hP q0 he hc k hk (S.2.2.2.2 _ hlink) hsame hv hdg kk
theorem hp_put (S : CallFix p m c cc nL s args Ts own) (hK : va_K D cl tys s) (hM : hp_H D cl A M H) (hS : va_S A H0 H locs) {C ref : String} {T : u_T} {N ci index : Nat} (hin : ∀ w ∈ u_ws C T N, w ∈ Ts) (ty0 : Nat → FieldType) (hty : ∀ k, k < N → parseFieldDescriptor (T k).2.2.1 = some (ty0 k)) (hnm : ∀ a, a < N → ∀ b, b < N → a ≠ b → (T a).2.1 ≠ (T b).2.1) {fs : List Value} (hm : M a = some (.inr (ci, fs))) (hc : cl[ci]? = some (C, T, N)) (k : Nat) (hk : k < N) (hlink : Cond.fieldLink own index ref (T k).2.1 (T k).2.2.1 ∈ Ts) (hsame : ∀ x, s.fieldFound? (T k).1 (T k).2.1 (T k).2.2.1 = some x → s.fieldFound? ref (T k).2.1 (T k).2.2.1 = some x) (hfin : (T k).2.2.2 = false) {ty : FieldType} {v : Value} (hd : parseFieldDescriptor (T k).2.2.1 = some ty) (hn : narrow ty v = v) (hfit : fits ty v = true) (hl : k < fs.length) {fs' : List Value} (hfs : fs.set k v = fs') (hdg : decode cc pc = .ok (.putfield index, 3))
    (kk : ∀ (H1 : Heap) (locs1 : List Loc), hp_H D cl A (hp_up M a (.inr (ci, fs'))) H1 → va_S A H0 H1 locs1 → W p l e R s m args below meth c H1 locs1 cells slots Q (F0 m (pc + 3) ls rest)) : W p l e R s m args below meth c H locs cells slots Q (F0 m pc ls (v :: .ref a :: rest)) := by
  subst hfs
  obtain ⟨ws, hP, hD, hi⟩ := hM
  obtain ⟨q0, he⟩ := List.getElem?_of_mem ((hi a _).mp hm)
  exact va_put S.1 S.2.1 S.2.2.2.2 hin ty0 hty hnm S.2.2.2.1 hK hP hD hS q0 he hc k hk (S.2.2.2.2 _ hlink) hsame hfin hd hn hfit hl hdg (fun H1 locs1 hP1 hD1 hS1 => kk H1 locs1 ⟨_, hP1, hD1, hp_set_i hD hi he⟩ hS1)
theorem hp_putF (S : CallFix p m c cc nL s args Ts own) (hK : va_K D cl tys s) (hM : hp_H D cl A M H) (hS : va_S A H0 H locs) {C ref : String} {T : u_T} {N ci index : Nat} (hin : ∀ w ∈ u_ws C T N, w ∈ Ts) (ty0 : Nat → FieldType) (hty : ∀ k, k < N → parseFieldDescriptor (T k).2.2.1 = some (ty0 k)) (hnm : ∀ a, a < N → ∀ b, b < N → a ≠ b → (T a).2.1 ≠ (T b).2.1) {fs : List Value} (hm : M a = some (.inr (ci, fs))) (hc : cl[ci]? = some (C, T, N)) (k : Nat) (hk : k < N) (hlink : Cond.fieldLink own index ref (T k).2.1 (T k).2.2.1 ∈ Ts) (hsame : ∀ x, s.fieldFound? (T k).1 (T k).2.1 (T k).2.2.1 = some x → s.fieldFound? ref (T k).2.1 (T k).2.2.1 = some x) (hfin : (T k).2.2.2 = true) (hin2 : meth.name = "<init>") (hdecl : (T k).1 = own) {ty : FieldType} {v : Value} (hd : parseFieldDescriptor (T k).2.2.1 = some ty) (hn : narrow ty v = v) (hfit : fits ty v = true) (hl : k < fs.length) {fs' : List Value} (hfs : fs.set k v = fs') (hdg : decode cc pc = .ok (.putfield index, 3))
    (kk : ∀ (H1 : Heap) (locs1 : List Loc), hp_H D cl A (hp_up M a (.inr (ci, fs'))) H1 → va_S A H0 H1 locs1 → W p l e R s m args below meth c H1 locs1 cells slots Q (F0 m (pc + 3) ls rest)) : W p l e R s m args below meth c H locs cells slots Q (F0 m pc ls (v :: .ref a :: rest)) := by
  subst hfs
  obtain ⟨ws, hP, hD, hi⟩ := hM
  obtain ⟨q0, he⟩ := List.getElem?_of_mem ((hi a _).mp hm)
  exact va_putF S.1 S.2.1 S.2.2.2.2 hin ty0 hty hnm S.2.2.2.1 hK hP hD hS q0 he hc k hk (S.2.2.2.2 _ hlink) hsame hfin hin2 hdecl hd hn hfit hl hdg (fun H1 locs1 hP1 hD1 hS1 => kk H1 locs1 ⟨_, hP1, hD1, hp_set_i hD hi he⟩ hS1)
theorem hp_iald (S : CallFix p m c cc nL s args Ts own) (hK : va_K D cl tys s) (hM : hp_H D cl A M H) (t0 : Nat) {cA : ClassId} {n : Nat} {f : Nat → Int32} (hm : M a = some (.inl (cA, n, .inl f))) (ht : tys[t0]? = some (cA, .int)) {i : Int32} (j : Nat) (hj : i = nI j) (hjn : j < n) (hn : n < 2 ^ 31) (hdg : decode cc pc = .ok (.iaload, 1))
    (kk : W p l e R s m args below meth c H locs cells slots Q (F0 m (pc + 1) ls (.int (f j) :: rest))) : W p l e R s m args below meth c H locs cells slots Q (F0 m pc ls (.int i :: .ref a :: rest)) := by
  obtain ⟨ws, hP, hD, hi⟩ := hM
  obtain ⟨q0, he⟩ := List.getElem?_of_mem ((hi a _).mp hm)
  subst hj
  refine va_iald S.1 S.2.1 hK hP q0 t0 he ht (vp_in_nI hjn hn) hdg ?_
  rw [nI_clamp (by omega)]
  exact kk
theorem hp_cald (S : CallFix p m c cc nL s args Ts own) (hK : va_K D cl tys s) (hM : hp_H D cl A M H) (t0 : Nat) {cA : ClassId} {n : Nat} {f : Nat → Int32} (hm : M a = some (.inl (cA, n, .inl f))) (ht : tys[t0]? = some (cA, .char)) {i : Int32} (j : Nat) (hj : i = nI j) (hjn : j < n) (hn : n < 2 ^ 31) (hdg : decode cc pc = .ok (.caload, 1))
    (kk : W p l e R s m args below meth c H locs cells slots Q (F0 m (pc + 1) ls (.int (f j) :: rest))) : W p l e R s m args below meth c H locs cells slots Q (F0 m pc ls (.int i :: .ref a :: rest)) := by
  obtain ⟨ws, hP, hD, hi⟩ := hM
  obtain ⟨q0, he⟩ := List.getElem?_of_mem ((hi a _).mp hm)
  subst hj
  refine va_cald S.1 S.2.1 hK hP q0 t0 he ht (vp_in_nI hjn hn) hdg ?_
  rw [nI_clamp (by omega)]
  exact kk
theorem hp_iast (S : CallFix p m c cc nL s args Ts own) (hK : va_K D cl tys s) (hM : hp_H D cl A M H) (hS : va_S A H0 H locs) (t0 : Nat) {cA : ClassId} {n : Nat} {f : Nat → Int32} (hm : M a = some (.inl (cA, n, .inl f))) (ht : tys[t0]? = some (cA, .int)) {i x : Int32} (j : Nat) (hj : i = nI j) (hjn : j < n) (hn : n < 2 ^ 31) (hdg : decode cc pc = .ok (.iastore, 1))
    (kk : ∀ (H1 : Heap) (locs1 : List Loc), hp_H D cl A (hp_up M a (.inl (cA, n, .inl (upd f j x)))) H1 → va_S A H0 H1 locs1 → W p l e R s m args below meth c H1 locs1 cells slots Q (F0 m (pc + 1) ls rest)) : W p l e R s m args below meth c H locs cells slots Q (F0 m pc ls (.int x :: .int i :: .ref a :: rest)) := by
  obtain ⟨ws, hP, hD, hi⟩ := hM
  obtain ⟨q0, he⟩ := List.getElem?_of_mem ((hi a _).mp hm)
  subst hj
  refine va_iast S.1 S.2.1 hK hP hD hS q0 t0 he ht (vp_in_nI hjn hn) hdg (fun H1 locs1 hP1 hD1 hS1 => ?_)
  rw [nI_clamp (by omega)] at hP1 hD1
  exact kk H1 locs1 ⟨_, hP1, hD1, hp_set_i hD hi he⟩ hS1
theorem hp_cast (S : CallFix p m c cc nL s args Ts own) (hK : va_K D cl tys s) (hM : hp_H D cl A M H) (hS : va_S A H0 H locs) (t0 : Nat) {cA : ClassId} {n : Nat} {f : Nat → Int32} (hm : M a = some (.inl (cA, n, .inl f))) (ht : tys[t0]? = some (cA, .char)) {i x : Int32} (j : Nat) (hj : i = nI j) (hjn : j < n) (hn : n < 2 ^ 31) {x' : Int32} (hx : vp_nar .char x = x') (hdg : decode cc pc = .ok (.castore, 1))
    (kk : ∀ (H1 : Heap) (locs1 : List Loc), hp_H D cl A (hp_up M a (.inl (cA, n, .inl (upd f j x')))) H1 → va_S A H0 H1 locs1 → W p l e R s m args below meth c H1 locs1 cells slots Q (F0 m (pc + 1) ls rest)) : W p l e R s m args below meth c H locs cells slots Q (F0 m pc ls (.int x :: .int i :: .ref a :: rest)) := by
  obtain ⟨ws, hP, hD, hi⟩ := hM
  obtain ⟨q0, he⟩ := List.getElem?_of_mem ((hi a _).mp hm)
  subst hj
  subst hx
  refine va_cast S.1 S.2.1 hK hP hD hS q0 t0 he ht (vp_in_nI hjn hn) hdg (fun H1 locs1 hP1 hD1 hS1 => ?_)
  rw [nI_clamp (by omega)] at hP1 hD1
  exact kk H1 locs1 ⟨_, hP1, hD1, hp_set_i hD hi he⟩ hS1
theorem hp_alen (S : CallFix p m c cc nL s args Ts own) (hK : va_K D cl tys s) (hM : hp_H D cl A M H) (t0 : Nat) {cA : ClassId} {x : vp_A} (hm : M a = some (.inl (cA, x))) {ty : FieldType} (ht : tys[t0]? = some (cA, ty)) (hdg : decode cc pc = .ok (.arraylength, 1))
    (kk : W p l e R s m args below meth c H locs cells slots Q (F0 m (pc + 1) ls (.int (nI x.1) :: rest))) : W p l e R s m args below meth c H locs cells slots Q (F0 m pc ls (.ref a :: rest)) := by
  obtain ⟨ws, hP, hD, hi⟩ := hM
  obtain ⟨q0, he⟩ := List.getElem?_of_mem ((hi a _).mp hm)
  exact va_alen S.1 S.2.1 hK hP q0 t0 he ht rfl hdg kk
theorem hp_aald (S : CallFix p m c cc nL s args Ts own) (hK : va_K D cl tys s) (hM : hp_H D cl A M H) (t0 : Nat) {cA : ClassId} {C : String} {n : Nat} {f : Nat → Option Nat} (hm : M a = some (.inl (cA, n, .inr (.inr (.inr (.inr f)))))) (ht : tys[t0]? = some (cA, .object C)) {i : Int32} (j : Nat) (hj : i = nI j) (hjn : j < n) (hn : n < 2 ^ 31) {v : Value} (hv : va_rf (f j) = v) (hdg : decode cc pc = .ok (.aaload, 1))
    (kk : W p l e R s m args below meth c H locs cells slots Q (F0 m (pc + 1) ls (v :: rest))) : W p l e R s m args below meth c H locs cells slots Q (F0 m pc ls (.int i :: .ref a :: rest)) := by
  obtain ⟨ws, hP, hD, hi⟩ := hM
  obtain ⟨q0, he⟩ := List.getElem?_of_mem ((hi a _).mp hm)
  subst hj
  subst hv
  refine va_aldq S.1 S.2.1 hK hP q0 t0 he ht (vp_in_nI hjn hn) hdg ?_
  rw [nI_clamp (by omega)]
  exact kk
theorem hp_aast (S : CallFix p m c cc nL s args Ts own) (hK : va_K D cl tys s) (hM : hp_H D cl A M H) (hS : va_S A H0 H locs) (t0 ci : Nat) {cA : ClassId} {r : vw_C} {n v : Nat} {vs : List Value} {f : Nat → Option Nat} (hm : M a = some (.inl (cA, n, .inr (.inr (.inr (.inr f)))))) (ht : tys[t0]? = some (cA, .object r.1)) (hv : M v = some (.inr (ci, vs))) (hc : cl[ci]? = some r) {i : Int32} (j : Nat) (hj : i = nI j) (hjn : j < n) (hn : n < 2 ^ 31) (hdg : decode cc pc = .ok (.aastore, 1))
    (kk : ∀ (H1 : Heap) (locs1 : List Loc), hp_H D cl A (hp_up M a (.inl (cA, n, .inr (.inr (.inr (.inr (va_up f j (some v)))))))) H1 → va_S A H0 H1 locs1 → W p l e R s m args below meth c H1 locs1 cells slots Q (F0 m (pc + 1) ls rest)) : W p l e R s m args below meth c H locs cells slots Q (F0 m pc ls (.ref v :: .int i :: .ref a :: rest)) := by
  obtain ⟨ws, hP, hD, hi⟩ := hM
  obtain ⟨q0, he⟩ := List.getElem?_of_mem ((hi a _).mp hm)
  obtain ⟨qk, hk⟩ := List.getElem?_of_mem ((hi v _).mp hv)
  subst hj
  refine va_astq S.1 S.2.1 hK hP hD hS q0 t0 qk ci he ht hk hc (vp_in_nI hjn hn) hdg (fun H1 locs1 hP1 hD1 hS1 => ?_)
  rw [nI_clamp (by omega)] at hP1 hD1
  exact kk H1 locs1 ⟨_, hP1, hD1, hp_set_i hD hi he⟩ hS1
/-- a new array of ints or chars, all 0 -/
theorem hp_newi (S : CallFix p m c cc nL s args Ts own) (hK : va_K D cl tys s) (hM : hp_H D cl A M H) (hS : va_S A H0 H locs) (hA : ∀ q, H0.size ≤ q → A q) {atype : ArrayType} {ty : FieldType} (hat : newarray.typeOf atype = ty) (harr : Cond.arrayClass (newarray.typeOf atype) ∈ Ts) (t0 : Nat) {c0 : ClassId} (ht : tys[t0]? = some (c0, ty)) (hdef : defaultValue ty = .int 0) (hbyte : componentBytes ty ≤ 4) {n : Int32} (k : Nat) (hk : n = nI k) (hkn : k < 2 ^ 20) (hcells : cells + 1 ≤ R.cells) (hslots : slots + k ≤ R.slots) (hdg : decode cc pc = .ok (.newarray atype, 2))
    (kk : ∀ (q : Nat) (H1 : Heap), M q = none → hp_H D cl A (hp_up M q (.inl (c0, k, .inl (fun _ => 0)))) H1 → va_S A H0 H1 locs → W p l e R s m args below meth c H1 locs (cells + 1) (slots + k) Q (F0 m (pc + 2) ls (.ref q :: rest))) : W p l e R s m args below meth c H locs cells slots Q (F0 m pc ls (.int n :: rest)) := by
  obtain ⟨ws, hP, hD, hi⟩ := hM
  subst hk
  refine va_newa (a0 := (k, .inl (fun _ => 0))) (N' := k) S.1 S.2.1 (S.2.2.2.2 _ harr) hat hK hP hD hS hA (fun cA => by rw [vp_cell_i, hdef]) (nI_pos (by omega)) (nI_clamp (by omega)) (Nat.le_trans (Nat.mul_le_mul (Nat.le_of_lt hkn) hbyte) (by decide)) hcells hslots hdg (fun q cA H1 hK1 hP1 hD1 hS1 => ?_)
  have hcA := hp_cA hK ht hK1
  subst hcA
  have h9 := hp_push_i hD1 hi
  exact kk q H1 h9.1 ⟨_, hP1, hD1, h9.2⟩ hS1
/-- a new array of references, all null -/
theorem hp_newq (S : CallFix p m c cc nL s args Ts own) (hK : va_K D cl tys s) (hM : hp_H D cl A M H) (hS : va_S A H0 H locs) (hA : ∀ q, H0.size ≤ q → A q) {C : String} {index : Nat} (hclink : Cond.classLink own index C ∈ Ts) (hover : va_AO C s) (t0 : Nat) {c0 : ClassId} (ht : tys[t0]? = some (c0, .object C)) {n : Int32} (k : Nat) (hk : n = nI k) (hkn : k < 2 ^ 20) (hcells : cells + 1 ≤ R.cells) (hslots : slots + k ≤ R.slots) (hdg : decode cc pc = .ok (.anewarray index, 3))
    (kk : ∀ (q : Nat) (H1 : Heap), M q = none → hp_H D cl A (hp_up M q (.inl (c0, k, .inr (.inr (.inr (.inr (fun _ => none))))))) H1 → va_S A H0 H1 locs → W p l e R s m args below meth c H1 locs (cells + 1) (slots + k) Q (F0 m (pc + 3) ls (.ref q :: rest))) : W p l e R s m args below meth c H locs cells slots Q (F0 m pc ls (.int n :: rest)) := by
  obtain ⟨ws, hP, hD, hi⟩ := hM
  subst hk
  refine va_newq (N' := k) S.1 S.2.1 S.2.2.2.1 (S.2.2.2.2 _ hclink) hover hK hP hD hS hA (nI_pos (by omega)) (nI_clamp (by omega)) (by omega) hcells hslots hdg (fun q cA H1 hK1 hP1 hD1 hS1 => ?_)
  have hcA := hp_cA hK ht hK1
  subst hcA
  have h9 := hp_push_i hD1 hi
  exact kk q H1 h9.1 ⟨_, hP1, hD1, h9.2⟩ hS1
theorem hp_new (S : CallFix p m c cc nL s args Ts own) (hK : va_K D cl tys s) (hM : hp_H D cl A M H) (hS : va_S A H0 H locs) (hA : ∀ q, H0.size ≤ q → A q) {C : String} {T : u_T} {N ci index : Nat} (hin : ∀ w ∈ u_ws C T N, w ∈ Ts) (ty : Nat → FieldType) (hty : ∀ k, k < N → parseFieldDescriptor (T k).2.2.1 = some (ty k)) (hcl : Cond.classLink own index C ∈ Ts) (hinst : Cond.instantiable C N ∈ Ts) (hini : Cond.initialized C ∈ Ts) (hc : cl[ci]? = some (C, T, N)) {fs : List Value} (hfs : ∀ j, j < N → defaultValue (ty j) = vp_V fs j) (hcells : cells + 1 ≤ R.cells) (hslots : slots + N ≤ R.slots) (hdg : decode cc pc = .ok (.new index, 3))
    (kk : ∀ (q : Nat) (H1 : Heap), M q = none → hp_H D cl A (hp_up M q (.inr (ci, fs))) H1 → va_S A H0 H1 locs → W p l e R s m args below meth c H1 locs (cells + 1) (slots + N) Q (F0 m (pc + 3) ls (.ref q :: rest))) : W p l e R s m args below meth c H locs cells slots Q (F0 m pc ls rest) := by
  obtain ⟨ws, hP, hD, hi⟩ := hM
  refine va_new S.1 S.2.1 S.2.2.2.2 hin ty hty S.2.2.2.1 (S.2.2.2.2 _ hcl) (S.2.2.2.2 _ hinst) (S.2.2.2.2 _ hini) hK hP hD hS hA hc hfs hcells hslots hdg (fun q H1 hP1 hD1 hS1 => ?_)
  have h9 := hp_push_i hD1 hi
  exact kk q H1 h9.1 ⟨_, hP1, hD1, h9.2⟩ hS1
end HPW
/-! CONTRACTS over a heaplet: one shape for all methods -/
/-- what the statics hold, and nobody writes: moves with the state, the heap, the free addresses -/
def hp_Zok (Z : (Nat → Prop) → State → Heap → Prop) : Prop := (∀ (A : Nat → Prop) (u U : State) (H : Heap), u.WarmedH U.vm → Z A u H → Z A U H) ∧ (∀ (A : Nat → Prop) (U : State) (H H1 : Heap), (∀ a : Nat, a < H.size → ¬ A a → H1[a]? = H[a]?) → Z A U H → Z A U H1) ∧ ∀ (A B : Nat → Prop) (U : State) (H : Heap), (∀ q, B q → A q) → Z A U H → Z B U H
def hp_Pc (avs : List Value) (D : va_G) (cl : List vw_C) (tys : List (ClassId × FieldType)) (Z : (Nat → Prop) → State → Heap → Prop) (M : hp_M) (sz : Nat) : Array Value → State → Prop := va_Pc avs (fun U => U.heap.size = sz ∧ hp_H D cl (hp_A M sz) M U.heap ∧ va_K D cl tys U ∧ Z (hp_A M sz) U U.heap)
def hp_B (D : va_G) (cl : List vw_C) (M : hp_M) (sz : Nat) (M1 : hp_M) (t : State) : Prop := hp_H D cl (hp_A M sz) M1 t.heap
theorem hp_blind {avs : List Value} {D : va_G} {cl : List vw_C} {tys : List (ClassId × FieldType)} {Z : (Nat → Prop) → State → Heap → Prop} {M : hp_M} {sz : Nat} (hZ : hp_Zok Z) : FrameBlind (hp_Pc avs D cl tys Z M sz) := fun a U g mk q => by
  obtain ⟨q0, q1, qM, qK, qZ⟩ := q
  exact ⟨q0, q1, qM, va_K.moved (u := U) (U := U.calling g mk a) (Vm.Alike.refl U.vm) qK, hZ.1 _ U (U.calling g mk a) _ (State.WarmedH.refl U) qZ⟩
section HPC
variable {p : Program} {l : Launch} {e : Env} {R : Room} {s : State} {m : MethodId} {args : Array Value} {below : List Frame} {meth : Method} {c : Code} {H : Heap} {locs : List Loc} {cells slots : Nat} {Q : State → Prop}
variable {cc : ByteArray} {pc nL mc ms : Nat} {ls : Array Slot} {rest st0 : List Value} {D : va_G} {cl : List vw_C} {A : Nat → Prop} {a : Array Value} {tys : List (ClassId × FieldType)} {M : hp_M} {Ts : List Cond} {own : String} {Z : (Nat → Prop) → State → Heap → Prop} {avs : List Value}
theorem hp_pre (hZ : hp_Zok Z) (hK : va_K D cl tys s) (hM : hp_H D cl A M H) (hS : va_S A s.heap H locs) (hA : ∀ q, s.heap.size ≤ q → A q) (hz : Z A s s.heap) : ∀ U : State, U.heap = H → s.WarmedH U.vm → hp_Pc avs D cl tys Z M H.size avs.toArray U := fun U hU hW =>
  ⟨rfl, by rw [hU], by rw [hU]; exact hM.self _, va_K.moved hW.alike hK, by rw [hU]; exact hZ.1 _ s U _ hW (hZ.2.2 A _ s H (fun q h => hp_sub hM hS hA h) (hZ.2.1 A s s.heap H (fun q h1 h2 => hS.2.1 q h1 h2) hz))⟩
theorem hp_preS (hZ : hp_Zok Z) (hK : va_K D cl tys s) (hM : hp_H D cl A M H) (hS : va_S A s.heap H locs) (hA : ∀ q, s.heap.size ≤ q → A q) (hz : Z A s s.heap) : PreS s H (hp_Pc avs D cl tys Z M H.size) avs :=
  ⟨hp_blind hZ, hp_pre hZ hK hM hS hA hz⟩
theorem hp_preV {b : Nat} {ci : Nat} {fs : List Value} {r : vw_C} (hZ : hp_Zok Z) (hK : va_K D cl tys s) (hM : hp_H D cl A M H) (hS : va_S A s.heap H locs) (hA : ∀ q, s.heap.size ≤ q → A q) (hz : Z A s s.heap) (hm : M b = some (.inr (ci, fs))) (hc : cl[ci]? = some r) : PreV s H r.1 b (hp_Pc (.ref b :: avs) D cl tys Z M H.size) avs := by
  refine ⟨hp_blind hZ, ?_, hp_pre (avs := .ref b :: avs) hZ hK hM hS hA hz⟩
  obtain ⟨ws, hP, hD, hi⟩ := hM
  obtain ⟨q0, he⟩ := List.getElem?_of_mem ((hi b _).mp hm)
  exact va_recv hK hP hc he
theorem hp_calli {post : Int32 → hp_M → Prop} (hr : va_Run p l e R s m args below meth c H locs cells slots mc ms (F0 m pc ls st0) rest (va_Qi post (hp_B D cl M H.size) (hp_A M H.size) a) (hp_A M H.size)) (hM : hp_H D cl A M H) (hS : va_S A s.heap H locs) (hA : ∀ q, s.heap.size ≤ q → A q)
    (kk : ∀ (r : Int32) (M1 : hp_M) (H1 : Heap) (locs1 : List Loc), post r M1 → hp_H D cl A M1 H1 → va_S A s.heap H1 locs1 → W p l e R s m args below meth c H1 locs1 (cells + mc) (slots + ms) Q (F0 m (pc + 3) ls (.int r :: rest))) : W p l e R s m args below meth c H locs cells slots Q (F0 m pc ls st0) :=
  va_calli hr hS (fun _ _ h => hp_sub hM hS hA h) (fun _ h => hp_sub hM hS hA h) (fun r u t H1 locs1 ht _ hw hB _ _ hS1 => kk r u H1 locs1 hw (by rw [← ht]; exact hp_H.wide hB (fun _ h => hp_sub hM hS hA h)) hS1)
theorem hp_callv {post : hp_M → Prop} (hr : va_Run p l e R s m args below meth c H locs cells slots mc ms (F0 m pc ls st0) rest (va_Qv post (hp_B D cl M H.size) (hp_A M H.size) a) (hp_A M H.size)) (hM : hp_H D cl A M H) (hS : va_S A s.heap H locs) (hA : ∀ q, s.heap.size ≤ q → A q)
    (kk : ∀ (M1 : hp_M) (H1 : Heap) (locs1 : List Loc), post M1 → hp_H D cl A M1 H1 → va_S A s.heap H1 locs1 → W p l e R s m args below meth c H1 locs1 (cells + mc) (slots + ms) Q (F0 m (pc + 3) ls rest)) : W p l e R s m args below meth c H locs cells slots Q (F0 m pc ls st0) :=
  va_callv hr hS (fun _ _ h => hp_sub hM hS hA h) (fun _ h => hp_sub hM hS hA h) (fun u t H1 locs1 ht _ hw hB _ _ hS1 => kk u H1 locs1 hw (by rw [← ht]; exact hp_H.wide hB (fun _ h => hp_sub hM hS hA h)) hS1)
/-- an answer that is null or an address -/
theorem hp_callq {post : Option Nat → hp_M → Prop} (hr : va_Run p l e R s m args below meth c H locs cells slots mc ms (F0 m pc ls st0) rest (va_Qq post (hp_B D cl M H.size) (hp_A M H.size) a) (hp_A M H.size)) (hM : hp_H D cl A M H) (hS : va_S A s.heap H locs) (hA : ∀ q, s.heap.size ≤ q → A q)
    (kk : ∀ (r : Option Nat) (M1 : hp_M) (H1 : Heap) (locs1 : List Loc), post r M1 → hp_H D cl A M1 H1 → va_S A s.heap H1 locs1 → W p l e R s m args below meth c H1 locs1 (cells + mc) (slots + ms) Q (F0 m (pc + 3) ls (va_rf r :: rest))) : W p l e R s m args below meth c H locs cells slots Q (F0 m pc ls st0) := by
  intro T hT X
  obtain ⟨v, st₀, t, T', L, h0, X', hL, e1, e2, ⟨⟨r, u, hv, hp, hb⟩, hz, hk⟩, st⟩ := hr T hT X
  cases hv
  rw [h0] at hz hk
  have hsub : ∀ q, hp_A M H.size q → A q := fun _ h => hp_sub hM hS hA h
  obtain ⟨t2, a1, b1⟩ := kk r u T'.heap (locs ++ L) hp (by rw [e1]; exact hp_H.wide hb hsub)
    ⟨Nat.le_trans hS.1 (by rw [e1]; exact hz), fun q h1 h2 => by rw [e1, hk q (Nat.lt_of_lt_of_le h1 hS.1) (fun z => h2 (hsub q z))]; exact hS.2.1 q h1 h2, fun q hq => by
      rcases List.mem_append.mp hq with h | h
      · exact hS.2.2 q h
      · exact hsub _ (hL q h)⟩ T' rfl X'
  exact ⟨t2, st t2 a1, b1⟩
theorem hp_iret {M0 : hp_M} {sz : Nat} {post : Int32 → hp_M → Prop} {v : Int32} {ty : FieldType} (S : CallFix p m c cc nL s args Ts own) (hr : meth.sig.returnType = some ty) (hlocks : meth.locks = false) (hn : narrow ty (.int v) = .int v) (hM : hp_H D cl (hp_A M0 sz) M H) (hS : va_S (hp_A M0 sz) s.heap H locs) (hp : post v M) (hdg : decode cc pc = .ok (.ireturn, 1)) : W p l e R s m args below meth c H locs cells slots (MQ below (va_Qi post (hp_B D cl M0 sz) (hp_A M0 sz)) args s cells slots (hp_A M0 sz)) (F0 m pc ls [.int v]) :=
  W.zret S.1 S.2.1 hr hn (fun t ht hW => ⟨⟨v, M, rfl, hp, by unfold hp_B; rw [ht]; exact hM⟩, hS.F ht⟩) hS.2.2 hdg hlocks
theorem hp_vret {M0 : hp_M} {sz : Nat} {post : hp_M → Prop} (S : CallFix p m c cc nL s args Ts own) (hr : meth.sig.returnType = none) (hlocks : meth.locks = false) (hM : hp_H D cl (hp_A M0 sz) M H) (hS : va_S (hp_A M0 sz) s.heap H locs) (hp : post M) (hdg : decode cc pc = .ok (.return_, 1)) : W p l e R s m args below meth c H locs cells slots (MQ below (va_Qv post (hp_B D cl M0 sz) (hp_A M0 sz)) args s cells slots (hp_A M0 sz)) (F0 m pc ls []) :=
  W.vret S.1 S.2.1 hr (fun t ht hW => ⟨⟨M, rfl, hp, by unfold hp_B; rw [ht]; exact hM⟩, hS.F ht⟩) hS.2.2 hdg hlocks
theorem hp_aret {M0 : hp_M} {sz : Nat} {post : Option Nat → hp_M → Prop} {v : Value} (r : Option Nat) (hv : v = va_rf r) {ty : FieldType} (S : CallFix p m c cc nL s args Ts own) (hr : meth.sig.returnType = some ty) (hrt : (∃ n, ty = .object n) ∨ ∃ t, ty = .array t) (hlocks : meth.locks = false) (hM : hp_H D cl (hp_A M0 sz) M H) (hS : va_S (hp_A M0 sz) s.heap H locs) (hp : post r M) (hdg : decode cc pc = .ok (.areturn, 1)) : W p l e R s m args below meth c H locs cells slots (MQ below (va_Qq post (hp_B D cl M0 sz) (hp_A M0 sz)) args s cells slots (hp_A M0 sz)) (F0 m pc ls [v]) := by
  subst hv
  exact W.aret S.1 S.2.1 hr hrt (by cases r with | none => exact Or.inl rfl | some a => exact Or.inr ⟨a, rfl⟩) (fun t ht hW => ⟨⟨r, M, rfl, hp, by unfold hp_B; rw [ht]; exact hM⟩, hS.F ht⟩) hS.2.2 hdg hlocks
end HPC
/-- THE HEAD OF ANY METHOD -/
theorem hp_enter {l : Launch} {y : MethodName} {ws ws' : List Cond} {rm : Room} {Qc : Array Value → State → Outcome → State → Prop} {mc ms sz : Nat} {free : Addr → Prop} {cc : ByteArray} {maxL : Nat} {ret : Option FieldType} {avs : List Value} {D : va_G} {cl : List vw_C} {tys : List (ClassId × FieldType)} {Z : (Nat → Prop) → State → Heap → Prop} {M : hp_M}
    (hy : plainName y.cls = true) (hw : ws = Cond.code y cc maxL ret :: ws') (hlen : (lg_sl avs).length ≤ maxL)
    (body : ∀ (p : Program) (e : Env) (s : State) (m : MethodId) (below : List Frame) (meth : Method) (c : Code) (ls : Array Slot), CallFix p m c cc maxL s avs.toArray ws y.cls → meth.sig.returnType = ret → meth.locks = false → meth.name = y.name → s.heap.size = sz → va_K D cl tys s → hp_H D cl (hp_A M sz) M s.heap → va_S (hp_A M sz) s.heap s.heap [] → (∀ q, s.heap.size ≤ q → hp_A M sz q) → Z (hp_A M sz) s s.heap → lv_has ls maxL (lv_args 0 avs) →
      W p l e rm s m avs.toArray below meth c s.heap [] 0 0 (MQ below Qc avs.toArray s mc ms free) (F0 m 0 ls [])) : Met l y ws rm (hp_Pc avs D cl tys Z M sz) Qc mc ms free := by
  refine Met.ofW (cc := cc) (maxL := maxL) (ret := ret) hy hw ?_
  intro p e s m args below meth c s₁ B hml hv
  obtain ⟨rfl, hsz, hM, hK, hZ⟩ := hv
  have hts := atoms_spec (ws := ws) B.pre
  have hown : s.vm.findClass y.cls = some m.cls := findClass_of_methodNamed B.named
  have hl := lv_entry avs (n := maxL) hlen
  rw [lg_entry_eq]
  exact body p e s m below meth c _ ⟨B.exec, B.bytes, hml, hown, hts⟩ B.returns B.notSynchronized (name_of_methodNamed B.named B.method).1 hsz hK hM va_S.rf (fun q h => Or.inr (by rw [← hsz]; exact h)) hZ hl
