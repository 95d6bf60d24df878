/-! APART: one heap, several heaplets -/
def hp_1 (a : Nat) (e : va_E) : hp_M := fun q => if q = a then some e else none
theorem hp_1s {a : Nat} {e : va_E} : hp_1 a e a = some e := if_pos rfl
theorem hp_1n {a b : Nat} {e x : va_E} (h : hp_1 a e b = some x) : b = a ∧ x = e := by
  unfold hp_1 at h
  by_cases z : b = a
  · rw [if_pos z] at h; exact ⟨z, (Option.some.inj h).symm⟩
  · rw [if_neg z] at h; cases h
def hp_or (M N : hp_M) : hp_M := fun q => match M q with
  | some e => some e
  | none => N q
theorem hp_or_l {M N : hp_M} {a : Nat} {e : va_E} (h : M a = some e) : hp_or M N a = some e := by
  unfold hp_or; rw [h]
theorem hp_or_r {M N : hp_M} {a : Nat} (h : M a = none) : hp_or M N a = N a := by
  unfold hp_or; rw [h]
theorem hp_or_i {M N : hp_M} {a : Nat} {e : va_E} (h : hp_or M N a = some e) : M a = some e ∨ (M a = none ∧ N a = some e) := by
  cases hm : M a with
  | none => rw [hp_or_r hm] at h; exact Or.inr ⟨rfl, h⟩
  | some x => rw [hp_or_l hm] at h; exact Or.inl h
theorem hp_H.part {D : va_G} {cl : List vw_C} {A : Nat → Prop} {M N : hp_M} {H : Heap} (h : hp_H D cl A M H) (hN : ∀ (a : Nat) (e : va_E), N a = some e → M a = some e) : hp_H D cl A N H := by
  obtain ⟨ws, hP, hD, hi⟩ := h
  have hm : ∀ (k : Nat) (q : Nat × va_E), (ws.filter (fun q => (N q.1).isSome))[k]? = some q → q ∈ ws ∧ (N q.1).isSome = true := fun k q hk => by
    have := List.mem_of_getElem? hk
    rw [List.mem_filter] at this
    exact this
  have pw : ws.Pairwise (fun a b => a.1 ≠ b.1) := List.pairwise_iff_getElem.mpr (fun i j hi hj hij e => Nat.ne_of_lt hij (hD.1 i j _ _ (List.getElem?_eq_getElem hi) (List.getElem?_eq_getElem hj) e))
  have pf := pw.filter (fun q => (N q.1).isSome)
  refine ⟨ws.filter (fun q => (N q.1).isSome), fun k q hk => ?_, ⟨fun i j p q hp hq e => ?_, fun k q hk => ?_⟩, fun a e => ?_⟩
  · obtain ⟨i, hi'⟩ := List.getElem?_of_mem (hm k q hk).1
    exact hP i q hi'
  · obtain ⟨hi', ei⟩ := List.getElem?_eq_some_iff.mp hp
    obtain ⟨hj', ej⟩ := List.getElem?_eq_some_iff.mp hq
    rcases Nat.lt_trichotomy i j with z | z | z
    · exact absurd (by rw [ei, ej]; exact e) (List.pairwise_iff_getElem.mp pf i j hi' hj' z)
    · exact z
    · exact absurd (by rw [ei, ej]; exact e.symm) (List.pairwise_iff_getElem.mp pf j i hj' hi' z)
  · obtain ⟨i, hi'⟩ := List.getElem?_of_mem (hm k q hk).1
    exact hD.2 i q hi'
  · rw [List.mem_filter]
    constructor
    · intro h
      exact ⟨(hi a e).mp (hN a e h), by show (N a).isSome = true; rw [h]; rfl⟩
    · rintro ⟨h1, h2⟩
      replace h1 := (hi a e).mpr h1
      replace h2 : (N a).isSome = true := h2
      cases h3 : N a with
      | none => rw [h3] at h2; cases h2
      | some x =>
        have h4 := hN a x h3
        rw [h1] at h4
        exact h4.symm
theorem hp_H.join {D : va_G} {cl : List vw_C} {A : Nat → Prop} {M N : hp_M} {H : Heap} (h : hp_H D cl A M H) (h2 : hp_H D cl A N H) (hd : ∀ a, M a ≠ none → N a = none) : hp_H D cl A (hp_or M N) H := by
  obtain ⟨ws, hP, hD, hi⟩ := h
  obtain ⟨wt, gP, gD, gi⟩ := h2
  have hx : ∀ p q : Nat × va_E, p ∈ ws → q ∈ wt → p.1 ≠ q.1 := fun p q hp hq e => by
    have e1 := (hi p.1 p.2).mpr hp
    have e2 := (gi q.1 q.2).mpr hq
    have e3 := hd p.1 (by rw [e1]; exact Option.some_ne_none _)
    rw [e, e2] at e3
    cases e3
  refine ⟨ws ++ wt, fun k q hk => ?_, ⟨fun i j p q hp hq e => ?_, fun k q hk => ?_⟩, fun a e => ?_⟩
  · rcases List.mem_append.mp (List.mem_of_getElem? hk) with hm | hm
    · obtain ⟨i, hi'⟩ := List.getElem?_of_mem hm
      exact hP i q hi'
    · obtain ⟨i, hi'⟩ := List.getElem?_of_mem hm
      exact gP i q hi'
  · by_cases zi : i < ws.length
    · rw [List.getElem?_append_left zi] at hp
      by_cases zj : j < ws.length
      · rw [List.getElem?_append_left zj] at hq
        exact hD.1 i j p q hp hq e
      · rw [List.getElem?_append_right (by omega)] at hq
        exact absurd e (hx p q (List.mem_of_getElem? hp) (List.mem_of_getElem? hq))
    · rw [List.getElem?_append_right (by omega)] at hp
      by_cases zj : j < ws.length
      · rw [List.getElem?_append_left zj] at hq
        exact absurd e.symm (hx q p (List.mem_of_getElem? hq) (List.mem_of_getElem? hp))
      · rw [List.getElem?_append_right (by omega)] at hq
        have := gD.1 _ _ p q hp hq e
        omega
  · rcases List.mem_append.mp (List.mem_of_getElem? hk) with hm | hm
    · obtain ⟨i, hi'⟩ := List.getElem?_of_mem hm
      exact hD.2 i q hi'
    · obtain ⟨i, hi'⟩ := List.getElem?_of_mem hm
      exact gD.2 i q hi'
  · rw [List.mem_append]
    constructor
    · intro h
      rcases hp_or_i h with h | ⟨-, h⟩
      · exact Or.inl ((hi a e).mp h)
      · exact Or.inr ((gi a e).mp h)
    · rintro (h | h)
      · exact hp_or_l ((hi a e).mpr h)
      · have h9 := (gi a e).mpr h
        cases hm : M a with
        | none => rw [hp_or_r hm]; exact h9
        | some x =>
          have := hd a (by rw [hm]; exact Option.some_ne_none _)
          rw [this] at h9
          cases h9
theorem hp_0 {D : va_G} {cl : List vw_C} {A : Nat → Prop} {H : Heap} : hp_H D cl A (fun _ => none) H := ⟨[], fun k q hk => by simp at hk, ⟨fun i j p q hp => by simp at hp, fun k q hk => by simp at hk⟩, fun a e => by simp⟩
/-- a call over one heaplet keeps another that is apart from it -/
theorem fr_keep {D : va_G} {A : Nat → Prop} {M M1 N : hp_M} {H H1 : Heap} (hN : hp_H D ccl A N H) (hd : ∀ a, M a ≠ none → N a = none) (hM1 : hp_H D ccl (hp_A M H.size) M1 H1) (hk : ∀ q : Nat, q < H.size → ¬ hp_A M H.size q → H1[q]? = H[q]?) : hp_H D ccl A N H1 ∧ ∀ a, M1 a ≠ none → N a = none := by
  have hz : ∀ a, N a ≠ none → a < H.size ∧ ¬ hp_A M H.size a := fun a ha => by
    have hlt := hN.lt ha
    refine ⟨hlt, fun z => ?_⟩
    rcases z with z | z
    · exact ha (hd a z)
    · omega
  refine ⟨hN.kept (fun a ha => hk a (hz a ha).1 (hz a ha).2), fun a ha => ?_⟩
  cases e : N a with
  | none => rfl
  | some v =>
    exfalso
    have hn : N a ≠ none := by rw [e]; exact Option.some_ne_none _
    cases e1 : M1 a with
    | none => exact ha e1
    | some v1 => exact (hz a hn).2 (hM1.mem e1).1
section APART
variable {p : Program} {l : Launch} {e : Env} {R : Room} {s : State} {m : MethodId} {args : Array Value} {below : List Frame} {meth : Method} {c : Code} {H : Heap} {locs : List Loc} {cells slots : Nat} {Q : State → Prop}
variable {cc : ByteArray} {pc nL mc ms : Nat} {ls : Array Slot} {rest st0 : List Value} {D : va_G} {A : Nat → Prop} {a : Nat} {av : Array Value} {ct : Nat → ClassId} {M : hp_M} {H0 : Heap} {Ts : List Cond} {own : String}
theorem hp_lald (S : CallFix p m c cc nL s args Ts own) (hK : va_K D ccl (tys ct) s) (hM : hp_H D ccl A M H) (t0 : Nat) {cA : ClassId} {n : Nat} {f : Nat → Int64} (hm : M a = some (.inl (cA, n, .inr (.inl f)))) (ht : (tys ct)[t0]? = some (cA, .long)) {i : Int32} (j : Nat) (hj : i = nI j) (hjn : j < n) (hn : n < 2 ^ 31) (hdg : decode cc pc = .ok (.laload, 1))
    (kk : W p l e R s m args below meth c H locs cells slots Q (F0 m (pc + 1) ls (.long (f j) :: rest))) : W p l e R s m args below meth c H locs cells slots Q (F0 m pc ls (.int i :: .ref a :: rest)) := by
  obtain ⟨ws, hP, hD, hi⟩ := hM
  obtain ⟨q0, he⟩ := List.getElem?_of_mem ((hi a _).mp hm)
  subst hj
  refine va_lald S.1 S.2.1 hK hP q0 t0 he ht (vp_in_nI hjn hn) hdg ?_
  rw [nI_clamp (by omega)]
  exact kk
theorem hp_last (S : CallFix p m c cc nL s args Ts own) (hK : va_K D ccl (tys ct) s) (hM : hp_H D ccl A M H) (hS : va_S A H0 H locs) (t0 : Nat) {cA : ClassId} {n : Nat} {f : Nat → Int64} (hm : M a = some (.inl (cA, n, .inr (.inl f)))) (ht : (tys ct)[t0]? = some (cA, .long)) {i : Int32} {x : Int64} (j : Nat) (hj : i = nI j) (hjn : j < n) (hn : n < 2 ^ 31) (hdg : decode cc pc = .ok (.lastore, 1))
    (kk : ∀ (H1 : Heap) (locs1 : List Loc), hp_H D ccl A (hp_up M a (.inl (cA, n, .inr (.inl (vp_updL f j x))))) H1 → va_S A H0 H1 locs1 → W p l e R s m args below meth c H1 locs1 cells slots Q (F0 m (pc + 1) ls rest)) : W p l e R s m args below meth c H locs cells slots Q (F0 m pc ls (.long x :: .int i :: .ref a :: rest)) := by
  obtain ⟨ws, hP, hD, hi⟩ := hM
  obtain ⟨q0, he⟩ := List.getElem?_of_mem ((hi a _).mp hm)
  subst hj
  refine va_last S.1 S.2.1 hK hP hD hS q0 t0 he ht (vp_in_nI hjn hn) hdg (fun H1 locs1 hP1 hD1 hS1 => ?_)
  rw [nI_clamp (by omega)] at hP1 hD1
  exact kk H1 locs1 ⟨_, hP1, hD1, hp_set_i hD hi he⟩ hS1
theorem hp_newl (S : CallFix p m c cc nL s args Ts own) (hK : va_K D ccl (tys ct) s) (hM : hp_H D ccl A M H) (hS : va_S A H0 H locs) (hA : ∀ q, H0.size ≤ q → A q) (harr : Cond.arrayClass .long ∈ Ts) (t0 : Nat) {c0 : ClassId} (ht : (tys ct)[t0]? = some (c0, .long)) {n : Int32} (k : Nat) (hk : n = nI k) (hkn : k < 2 ^ 20) (hcells : cells + 1 ≤ R.cells) (hslots : slots + k ≤ R.slots) (hdg : decode cc pc = .ok (.newarray .long, 2))
    (kk : ∀ (q : Nat) (H1 : Heap), M q = none → hp_H D ccl A (hp_up M q (.inl (c0, k, .inr (.inl (fun _ => 0))))) H1 → va_S A H0 H1 locs → W p l e R s m args below meth c H1 locs (cells + 1) (slots + k) Q (F0 m (pc + 2) ls (.ref q :: rest))) : W p l e R s m args below meth c H locs cells slots Q (F0 m pc ls (.int n :: rest)) := by
  obtain ⟨ws, hP, hD, hi⟩ := hM
  subst hk
  refine va_newa (a0 := (k, .inr (.inl (fun _ => 0)))) (N' := k) (atype := .long) (ty := .long) S.1 S.2.1 (S.2.2.2.2 _ harr) rfl hK hP hD hS hA (fun cA => rfl) (nI_pos (by omega)) (nI_clamp (by omega)) (Nat.le_trans (Nat.mul_le_mul (Nat.le_of_lt hkn) (by decide : componentBytes .long ≤ 8)) (by decide)) hcells hslots hdg (fun q cA H1 hK1 hP1 hD1 hS1 => ?_)
  have hcA := hp_cA hK ht hK1
  subst hcA
  have h9 := hp_push_i hD1 hi
  exact kk q H1 h9.1 ⟨_, hP1, hD1, h9.2⟩ hS1
/-- calls that say what they kept -/
theorem hq_calli {post : Int32 → hp_M → Prop} (hr : va_Run p l e R s m args below meth c H locs cells slots mc ms (F0 m pc ls st0) rest (va_Qi post (hp_B D ccl M H.size) (hp_A M H.size) av) (hp_A M H.size)) (hM : hp_H D ccl A M H) (hS : va_S A s.heap H locs) (hA : ∀ q, s.heap.size ≤ q → A q)
    (kk : ∀ (r : Int32) (M1 : hp_M) (H1 : Heap) (locs1 : List Loc), post r M1 → hp_H D ccl A M1 H1 → hp_H D ccl (hp_A M H.size) M1 H1 → (∀ q : Nat, q < H.size → ¬ hp_A M H.size q → H1[q]? = H[q]?) → va_S A s.heap H1 locs1 → W p l e R s m args below meth c H1 locs1 (cells + mc) (slots + ms) Q (F0 m (pc + 3) ls (.int r :: rest))) : W p l e R s m args below meth c H locs cells slots Q (F0 m pc ls st0) :=
  va_calli hr hS (fun _ _ h => hp_sub hM hS hA h) (fun _ h => hp_sub hM hS hA h) (fun r u t H1 locs1 ht _ hw hB _ hk hS1 => by
    have hB1 : hp_H D ccl (hp_A M H.size) u H1 := by rw [← ht]; exact hB
    exact kk r u H1 locs1 hw (hB1.wide (fun _ h => hp_sub hM hS hA h)) hB1 hk hS1)
theorem hq_callv {post : hp_M → Prop} (hr : va_Run p l e R s m args below meth c H locs cells slots mc ms (F0 m pc ls st0) rest (va_Qv post (hp_B D ccl M H.size) (hp_A M H.size) av) (hp_A M H.size)) (hM : hp_H D ccl A M H) (hS : va_S A s.heap H locs) (hA : ∀ q, s.heap.size ≤ q → A q)
    (kk : ∀ (M1 : hp_M) (H1 : Heap) (locs1 : List Loc), post M1 → hp_H D ccl A M1 H1 → hp_H D ccl (hp_A M H.size) M1 H1 → (∀ q : Nat, q < H.size → ¬ hp_A M H.size q → H1[q]? = H[q]?) → va_S A s.heap H1 locs1 → W p l e R s m args below meth c H1 locs1 (cells + mc) (slots + ms) Q (F0 m (pc + 3) ls rest)) : W p l e R s m args below meth c H locs cells slots Q (F0 m pc ls st0) :=
  va_callv hr hS (fun _ _ h => hp_sub hM hS hA h) (fun _ h => hp_sub hM hS hA h) (fun u t H1 locs1 ht _ hw hB _ hk hS1 => by
    have hB1 : hp_H D ccl (hp_A M H.size) u H1 := by rw [← ht]; exact hB
    exact kk u H1 locs1 hw (hB1.wide (fun _ h => hp_sub hM hS hA h)) hB1 hk hS1)
/-- .. of one that may throw -/
theorem hq_calliX {post : Int32 → hp_M → Prop} {pX : String → hp_M → Prop} (hr : vx_Run p l e R s m args below meth c H locs cells slots mc ms (F0 m pc ls st0) rest (va_Qi post (hp_B D ccl M H.size) (hp_A M H.size) av) (hp_X D M H.size pX) (hp_A M H.size)) (hM : hp_H D ccl A M H) (hS : va_S A s.heap H locs) (hA : ∀ q, s.heap.size ≤ q → A q)
    (kx : ∀ (E : String) (ce : Cell) (q9 : Addr) (M1 : hp_M) (H1 : Heap) (locs1 : List Loc), pX E M1 → hp_H D ccl A M1 H1 → hp_H D ccl (hp_A M H.size) M1 H1 → (∀ q : Nat, q < H.size → ¬ hp_A M H.size q → H1[q]? = H[q]?) → va_S A s.heap H1 locs1 → H1[q9]? = some ce → ce.vm = .none → s.vm.findClass E = some ce.cls → vx_W p l e R s m args below meth c H1 locs1 (cells + mc) (slots + ms) Q (F0 m pc ls rest) q9)
    (kk : ∀ (r : Int32) (M1 : hp_M) (H1 : Heap) (locs1 : List Loc), post r M1 → hp_H D ccl A M1 H1 → hp_H D ccl (hp_A M H.size) M1 H1 → (∀ q : Nat, q < H.size → ¬ hp_A M H.size q → H1[q]? = H[q]?) → va_S A s.heap H1 locs1 → W p l e R s m args below meth c H1 locs1 (cells + mc) (slots + ms) Q (F0 m (pc + 3) ls (.int r :: rest))) : W p l e R s m args below meth c H locs cells slots Q (F0 m pc ls st0) :=
  vx_calli (px := fun _ : hp_M => True) (BX := fun E M1 t => pX E M1 ∧ hp_B D ccl M H.size M1 t) (AX := hp_A M H.size) hr hS (fun _ _ h => hp_sub hM hS hA h) (fun _ h => hp_sub hM hS hA h) (fun _ _ h => hp_sub hM hS hA h)
    (fun E ce q9 u t H1 locs1 ht _ _ hB _ hk hS1 h1 h2 h3 => by
      have hB1 : hp_H D ccl (hp_A M H.size) u H1 := by rw [← ht]; exact hB.2
      exact kx E ce q9 u H1 locs1 hB.1 (hB1.wide (fun _ h => hp_sub hM hS hA h)) hB1 hk hS1 h1 h2 h3)
    (fun r u t H1 locs1 ht _ hw hB _ hk hS1 => by
      have hB1 : hp_H D ccl (hp_A M H.size) u H1 := by rw [← ht]; exact hB
      exact kk r u H1 locs1 hw (hB1.wide (fun _ h => hp_sub hM hS hA h)) hB1 hk hS1)
theorem hq_callvX {post : hp_M → Prop} {pX : String → hp_M → Prop} (hr : vx_Run p l e R s m args below meth c H locs cells slots mc ms (F0 m pc ls st0) rest (va_Qv post (hp_B D ccl M H.size) (hp_A M H.size) av) (hp_X D M H.size pX) (hp_A M H.size)) (hM : hp_H D ccl A M H) (hS : va_S A s.heap H locs) (hA : ∀ q, s.heap.size ≤ q → A q)
    (kx : ∀ (E : String) (ce : Cell) (q9 : Addr) (M1 : hp_M) (H1 : Heap) (locs1 : List Loc), pX E M1 → hp_H D ccl A M1 H1 → va_S A s.heap H1 locs1 → H1[q9]? = some ce → ce.vm = .none → s.vm.findClass E = some ce.cls → vx_W p l e R s m args below meth c H1 locs1 (cells + mc) (slots + ms) Q (F0 m pc ls rest) q9)
    (kk : ∀ (M1 : hp_M) (H1 : Heap) (locs1 : List Loc), post M1 → hp_H D ccl A M1 H1 → va_S A s.heap H1 locs1 → W p l e R s m args below meth c H1 locs1 (cells + mc) (slots + ms) Q (F0 m (pc + 3) ls rest)) : W p l e R s m args below meth c H locs cells slots Q (F0 m pc ls st0) :=
  vx_callv (px := fun _ : hp_M => True) (BX := fun E M1 t => pX E M1 ∧ hp_B D ccl M H.size M1 t) (AX := hp_A M H.size) hr hS (fun _ _ h => hp_sub hM hS hA h) (fun _ h => hp_sub hM hS hA h) (fun _ _ h => hp_sub hM hS hA h)
    (fun E ce q9 u t H1 locs1 ht _ _ hB _ hk hS1 h1 h2 h3 => by
      have hB1 : hp_H D ccl (hp_A M H.size) u H1 := by rw [← ht]; exact hB.2
      exact kx E ce q9 u H1 locs1 hB.1 (hB1.wide (fun _ h => hp_sub hM hS hA h)) hS1 h1 h2 h3)
    (fun u t H1 locs1 ht _ hw hB _ hk hS1 => by
      have hB1 : hp_H D ccl (hp_A M H.size) u H1 := by rw [← ht]; exact hB
      exact kk u H1 locs1 hw (hB1.wide (fun _ h => hp_sub hM hS hA h)) hS1)
variable {Z : hp_Z} {As : List Value} {y : MethodName} {b : ByteArray} {n index fr lo ce sl k : Nat} {ret : Option FieldType} {hh : List (Nat × Nat × Nat × Nat)}
/-- a call of an instance's method that may throw -/
theorem go_VX (S : CallFix p m c cc nL s args tb own) (hZ : hp_Zok Z) (hK : va_K D ccl (tys ct) s) (hM : hp_H D ccl A M H) (hS : va_S A s.heap H locs) (hA : ∀ q, s.heap.size ≤ q → A q) (hz : Z A s s.heap) {Qc : Array Value → State → Outcome → State → Prop} {XC : String → State → State → Prop} {o ci : Nat} {fs : List Value} {r : vw_C}
    (hC : vx_Met l y (Cond.code y b n ret :: tb) { frames := fr, cells := ce, slots := sl, locals := lo } (hp_Pc (.ref o :: As) D ccl (tys ct) Z M H.size) Qc XC ce sl (hp_A M H.size))
    (hc : Cond.code y b n ret ∈ tb) (hi : Cond.initialized y.cls ∈ tb) (hl : Cond.methodLink own index y ∈ tb) (hin : Cond.instanceMethod y ∈ tb) (hse : Cond.selects y.cls y y ∈ tb) (hd : y.cls ≠ "java/lang/invoke/MethodHandle" ∧ y.cls ≠ "java/lang/invoke/VarHandle" ∧ (parseMethodDescriptor y.desc).map (fun d => d.parameters.length) = some k) (hk : As.length = k) (hR : fr + 1 ≤ R.frames ∧ 8 + (n + 11) + lo ≤ R.locals)
    (hm : M o = some (.inr (ci, fs))) (hr : ccl[ci]? = some r) (hrc : r.1 = y.cls) (hsize : ls.size = nL) (hst : st0 = As.reverse ++ .ref o :: rest) (hW : (rest.map fun v => v.category).sum ≤ 8) (hdg : decode cc pc = .ok (.invokevirtual index, 3)) (hf : cells + ce ≤ R.cells ∧ slots + sl ≤ R.slots) :
    vx_Run p l e R s m args below meth c H locs cells slots ce sl (F0 m pc ls st0) rest (Qc (Value.ref o :: As).toArray) XC (hp_A M H.size) :=
  vx_runV (C := y.cls) (As := As) (b := o) S hC ⟨cw_B S hc hi hl hd hR, S.2.2.2.2 _ hin, S.2.2.2.2 _ hse⟩ (by rw [← hrc]; exact hp_preV hZ hK hM hS hA hz hm hr) rfl hk hsize hst (lv_room hW) hdg hf
/-- a call of a static method that catches -/
theorem go_SW (S : CallFix p m c cc nL s args tb own) (hZ : hp_Zok Z) (hK : va_K D ccl (tys ct) s) (hM : hp_H D ccl A M H) (hS : va_S A s.heap H locs) (hA : ∀ q, s.heap.size ≤ q → A q) (hz : Z A s s.heap) {Qc : Array Value → State → Outcome → State → Prop}
    (hC : Met l y (Cond.codeWith y b n ret hh :: tb) { frames := fr, cells := ce, slots := sl, locals := lo } (hp_Pc As D ccl (tys ct) Z M H.size) Qc ce sl (hp_A M H.size))
    (hc : Cond.codeWith y b n ret hh ∈ tb) (hi : Cond.initialized y.cls ∈ tb) (hl : Cond.methodLink own index y ∈ tb) (hst' : Cond.static y ∈ tb) (hd : y.cls ≠ "java/lang/invoke/MethodHandle" ∧ y.cls ≠ "java/lang/invoke/VarHandle" ∧ (parseMethodDescriptor y.desc).map (fun d => d.parameters.length) = some k) (hk : As.length = k) (hR : fr + 1 ≤ R.frames ∧ 8 + (n + 11) + lo ≤ R.locals)
    (hsize : ls.size = nL) (hst : st0 = As.reverse ++ rest) (hW : (rest.map fun v => v.category).sum ≤ 8) (hdg : decode cc pc = .ok (.invokestatic index, 3)) (hf : cells + ce ≤ R.cells ∧ slots + sl ≤ R.slots) :
    va_Run p l e R s m args below meth c H locs cells slots ce sl (F0 m pc ls st0) rest (Qc As.toArray) (hp_A M H.size) := by
  have hG : GoodIn tb (Cond.codeWith y b n ret hh :: tb) := fun w hw => by
    rcases List.mem_cons.mp hw with h | h
    · rw [h]; exact gd_tb _ hc
    · exact gd_tb w h
  refine vx_runSW (n := k) (As := As) S hC ⟨⟨rfl, rfl, hR.1, hR.2, pay_in S.2.2.2.2 hG, List.mem_cons_self⟩, S.2.2.2.2 _ hc, S.2.2.2.2 _ hi, ⟨hd.1, hd.2.1⟩, fun sig h => ?_, S.2.2.2.2 _ hl, S.2.2.2.2 _ hst'⟩ (hp_preS hZ hK hM hS hA hz) rfl hk hsize hst (lv_room hW) hdg hf
  have h2 := hd.2.2
  rw [h] at h2
  exact (Option.some.inj h2).symm
end APART
/-- the start of a method that catches -/
theorem hp_startW {l : Launch} {y : MethodName} {rm : Room} {Qc : Array Value → State → Outcome → State → Prop} {mc ms sz : Nat} {free : Addr → Prop} {cc : ByteArray} {maxL : Nat} {ret : Option FieldType} {hh : List (Nat × Nat × Nat × Nat)} {avs : List Value} {D : va_G} {ct : Nat → ClassId} {Z : hp_Z} {M : hp_M}
    (hy : plainName y.cls = true) (hlen : (lg_sl avs).length ≤ maxL)
    (body : ∀ (p : Program) (e : Env) (s : State) (m : MethodId) (below : List Frame) (meth : Method) (c : Code) (ls : Array Slot), CallFix p m c cc maxL s avs.toArray tb y.cls → meth.sig.returnType = ret → meth.locks = false → s.heap.size = sz → va_K D ccl (tys ct) s → hp_H D ccl (hp_A M sz) M s.heap → va_S (hp_A M sz) s.heap s.heap [] → (∀ q, s.heap.size ≤ q → hp_A M sz q) → Z (hp_A M sz) s s.heap → lv_has ls maxL (lv_args 0 avs) → c.exceptionTable.toList = tableOf hh →
      W p l e rm s m avs.toArray below meth c s.heap [] 0 0 (MQ below Qc avs.toArray s mc ms free) (F0 m 0 ls [])) : Met l y (Cond.codeWith y cc maxL ret hh :: tb) rm (hp_Pc avs D ccl (tys ct) Z M sz) Qc mc ms free := by
  refine MetFree.of_bodyS (code := cc) (maxLocals := maxL) (ret := ret) hy ?_ ?_
  · intro args s m h hn
    obtain ⟨m9, meth, c, hn9, h1, h2, h3, h4, -, h5, h6, -⟩ := Cond.codeWith_spec (atoms_spec (ws := Cond.codeWith y cc maxL ret hh :: tb) h _ List.mem_cons_self)
    cases hn.symm.trans hn9
    exact ⟨meth, c, h1, h2, h3, h4, h5, h6⟩
  · intro p e s m args below meth c s₁ B hml hv _
    have hh0 : s₁.heap = s.heap := by rw [B.state]; rfl
    obtain ⟨rfl, hsz, hM, hK, hZ⟩ := hv
    have hts := atoms_spec (ws := Cond.codeWith y cc maxL ret hh :: tb) B.pre
    have hown : s.vm.findClass y.cls = some m.cls := findClass_of_methodNamed B.named
    have hl := lv_entry avs (n := maxL) hlen
    have htab := vx_table (x := y) B (hts _ List.mem_cons_self)
    have K : W p l e rm s m avs.toArray below meth c s.heap [] 0 0 (MQ below Qc avs.toArray s mc ms free) (entryFrame m avs.toArray maxL) := by
      rw [lg_entry_eq]
      exact body p e s m below meth c _ ⟨B.exec, B.bytes, hml, hown, fun w h => hts w (List.mem_cons_of_mem _ h)⟩ B.returns B.notSynchronized hsz hK hM va_S.rf (fun q h => Or.inr (by rw [← hsz]; exact h)) hZ hl htab
    obtain ⟨t, a1, o, b1, b2, b3⟩ := K s₁ hh0 (Stand.of_body B)
    exact ⟨t, o, a1, b1, b2, b3⟩
