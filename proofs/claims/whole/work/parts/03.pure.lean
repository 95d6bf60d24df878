/-! PURE WORDS: texts are lists of numbers below 65536 -/
/-- an answer that is a truth value -/
def bo (r : Int32) (P : Prop) : Prop := (P ∧ r = nI 1) ∨ (¬ P ∧ r = nI 0)
theorem bo_t {P : Prop} (h : P) : bo (nI 1) P := Or.inl ⟨h, rfl⟩
theorem bo_f {P : Prop} (h : ¬ P) : bo (nI 0) P := Or.inr ⟨h, rfl⟩
theorem bo_nar {r : Int32} {P : Prop} (h : bo r P) : narrow .boolean (.int r) = .int r := by
  rcases h with ⟨-, rfl⟩ | ⟨-, rfl⟩ <;> rfl
theorem bo_0 {r : Int32} {P : Prop} (h : bo r P) : r = 0 ↔ ¬ P := by
  rcases h with ⟨h1, rfl⟩ | ⟨h1, rfl⟩
  · exact ⟨fun h => absurd h (nI_ne0 (by decide) (by decide)), fun h => absurd h1 h⟩
  · exact ⟨fun _ => h1, fun _ => rfl⟩
theorem bo_iff {r : Int32} {P Q : Prop} (h : bo r P) (e : P ↔ Q) : bo r Q := by
  rcases h with ⟨h1, rfl⟩ | ⟨h1, rfl⟩
  · exact bo_t (e.mp h1)
  · exact bo_f (fun q => h1 (e.mpr q))
theorem nar_nI {k : Nat} (h : k < 65536) : vp_nar .char (nI k) = nI k := by
  unfold vp_nar
  rw [(pk_charN h).1]
/-- the contents of an array that holds a list -/
def tx (l : List Nat) : Nat → Int32 := fun i => nI (l.getD i 0)
theorem nI_neq {a b : Nat} (ha : a < 2 ^ 31) (hb : b < 2 ^ 31) (h : a ≠ b) : ¬ nI a = nI b := fun q => h ((nI_eq ha hb).mp q)
/-- the order of PATHS and NAMES -/
def cmpK : List Nat → List Nat → Int
  | [], [] => 0
  | [], _ :: _ => -1
  | _ :: _, [] => 1
  | x :: xs, y :: ys => if x < y then -1 else if y < x then 1 else cmpK xs ys
theorem cmpK_diff : ∀ (xs ys : List Nat) (i : Nat), i < xs.length → i < ys.length → (∀ j, j < i → xs.getD j 0 = ys.getD j 0) → xs.getD i 0 ≠ ys.getD i 0 → cmpK xs ys = if xs.getD i 0 < ys.getD i 0 then -1 else 1
  | [], _, i, h, _, _, _ => absurd h (Nat.not_lt_zero i)
  | _ :: _, [], i, _, h, _, _ => absurd h (Nat.not_lt_zero i)
  | x :: xs, y :: ys, 0, _, _, _, hne => by
    have hne : x ≠ y := hne
    show (if x < y then (-1 : Int) else if y < x then 1 else cmpK xs ys) = if x < y then -1 else 1
    by_cases h : x < y
    · rw [if_pos h, if_pos h]
    · rw [if_neg h, if_neg h, if_pos (by omega)]
  | x :: xs, y :: ys, i + 1, h1, h2, heq, hne => by
    have h0 : x = y := heq 0 (by omega)
    subst h0
    have ih := cmpK_diff xs ys i (by simpa using h1) (by simpa using h2) (fun j hj => by simpa using heq (j + 1) (by omega)) (by simpa using hne)
    show (if x < x then (-1 : Int) else if x < x then 1 else cmpK xs ys) = _
    rw [if_neg (Nat.lt_irrefl x), if_neg (Nat.lt_irrefl x), ih]
    simp
theorem cmpK_pre : ∀ (xs ys : List Nat), (∀ j, j < xs.length → j < ys.length → xs.getD j 0 = ys.getD j 0) → cmpK xs ys = if xs.length = ys.length then 0 else if xs.length < ys.length then -1 else 1
  | [], [], _ => rfl
  | [], y :: ys, _ => by simp [cmpK]
  | x :: xs, [], _ => by simp [cmpK]
  | x :: xs, y :: ys, heq => by
    have h0 : x = y := heq 0 (by simp) (by simp)
    subst h0
    have ih := cmpK_pre xs ys (fun j h1 h2 => by simpa using heq (j + 1) (by simpa using h1) (by simpa using h2))
    show (if x < x then (-1 : Int) else if x < x then 1 else cmpK xs ys) = _
    rw [if_neg (Nat.lt_irrefl x), if_neg (Nat.lt_irrefl x), ih]
    simp
theorem cmpK_0 : ∀ (xs ys : List Nat), cmpK xs ys = 0 ↔ xs = ys
  | [], [] => by simp [cmpK]
  | [], y :: ys => by simp [cmpK]
  | x :: xs, [] => by simp [cmpK]
  | x :: xs, y :: ys => by
    show (if x < y then (-1 : Int) else if y < x then 1 else cmpK xs ys) = 0 ↔ _
    by_cases h : x < y
    · rw [if_pos h]
      constructor
      · intro q; omega
      · intro q
        rw [List.cons.injEq] at q
        omega
    · rw [if_neg h]
      by_cases h2 : y < x
      · rw [if_pos h2]
        constructor
        · intro q; omega
        · intro q
          rw [List.cons.injEq] at q
          omega
      · rw [if_neg h2, cmpK_0 xs ys, List.cons.injEq]
        constructor
        · intro q
          exact ⟨by omega, q⟩
        · intro q
          exact q.2
/-- letters, digits -/
def isLet (k : Nat) : Prop := (97 ≤ k ∧ k ≤ 122) ∨ (65 ≤ k ∧ k ≤ 90)
def isDig (k : Nat) : Prop := 48 ≤ k ∧ k ≤ 57
def isWrd (k : Nat) : Prop := isLet k ∨ isDig k ∨ k = 95
def isDot (k : Nat) : Prop := isWrd k ∨ k = 45 ∨ k = 46
/-- the first n characters of a text are a NAME -/
def isNam (l : List Nat) (n : Nat) : Prop := 1 ≤ n ∧ n ≤ 16 ∧ n ≤ l.length ∧ isLet (l.getD 0 0) ∧ ∀ i, 1 ≤ i → i < n → isWrd (l.getD i 0)
/-- where the first = stands, or the end -/
def isEqs (l : List Nat) (n : Nat) : Prop := n ≤ l.length ∧ (∀ i, i < n → l.getD i 0 ≠ 61) ∧ (n < l.length → l.getD n 0 = 61)
theorem isEqs_one {l : List Nat} {a b : Nat} (ha : isEqs l a) (hb : isEqs l b) : a = b := by
  rcases Nat.lt_trichotomy a b with h | h | h
  · exact absurd (ha.2.2 (Nat.lt_of_lt_of_le h hb.1)) (hb.2.1 a h)
  · exact h
  · exact absurd (hb.2.2 (Nat.lt_of_lt_of_le h ha.1)) (ha.2.1 b h)
/-- the characters from a to b are a PIECE -/
def isPce (l : List Nat) (a b : Nat) : Prop := (∀ i, a ≤ i → i < b → isDot (l.getD i 0)) ∧ ((∀ i, a ≤ i → i < b → l.getD i 0 = 46) → 2 < b - a)
/-- the characters from a to b are a stretch between slashes -/
def isBnd (l : List Nat) (a b : Nat) : Prop := a ≤ b ∧ b ≤ l.length ∧ (a = 0 ∨ l.getD (a - 1) 0 = 47) ∧ (b = l.length ∨ l.getD b 0 = 47) ∧ ∀ i, a ≤ i → i < b → l.getD i 0 ≠ 47
theorem isBnd_one {l : List Nat} {a c b : Nat} (h : isBnd l a b) (hc : c ≤ b) (h0 : c = 0 ∨ l.getD (c - 1) 0 = 47) (hn : ∀ i, c ≤ i → i < b → l.getD i 0 ≠ 47) : a = c := by
  obtain ⟨h1, -, h3, -, h5⟩ := h
  rcases Nat.lt_trichotomy a c with q | q | q
  · rcases h0 with z | z
    · omega
    · exact absurd z (h5 (c - 1) (by omega) (by omega))
  · exact q
  · rcases h3 with z | z
    · omega
    · exact absurd z (hn (a - 1) (by omega) (by omega))
/-- a PATH -/
def isPth (l : List Nat) : Prop := l.length ≤ 40 ∧ ∀ a b, isBnd l a b → isPce l a b
/-- a NAME, =, and what it is -/
def isNv (l : List Nat) : Prop := ∃ n, isEqs l n ∧ n < l.length ∧ isNam l n ∧ l.length - n - 1 ≤ 40
def kP (k : Int32) : Prop := k = nI 1 ∨ k = nI 3 ∨ k = nI 5
def kN (k : Int32) : Prop := k = nI 2 ∨ k = nI 4 ∨ k = nI 6
/-- a text is one of a KIND -/
def fitK (l : List Nat) (k : Int32) : Prop := k = nI 0 ∨ (kP k ∧ isPth l) ∨ (kN k ∧ isNv l)
/-- how many characters a text's PATH or NAME has -/
def isKl (l : List Nat) (k : Int32) (n : Nat) : Prop := (kP k ∧ n = l.length) ∨ (kN k ∧ isEqs l n) ∨ (¬ kP k ∧ ¬ kN k ∧ n = 0)
theorem sw_in (k : Int32) (n : Nat) (hn : n < 2 ^ 31) : (∃ j, j ≤ n ∧ k = nI j) ∨ (k.toInt < 0 ∨ (n : Int) < k.toInt) := by
  by_cases h : k < 0
  · right; left
    exact Int32.lt_iff_toInt_lt.mp h
  · obtain ⟨j, hj, rfl⟩ := nI_of h
    rcases Nat.lt_or_ge n j with q | q
    · right; right
      rw [nI_toInt hj]
      omega
    · exact Or.inl ⟨j, q, rfl⟩
