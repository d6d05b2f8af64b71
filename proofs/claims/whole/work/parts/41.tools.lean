/-! numbers -/
theorem tn0 : (0 : Int32).toNatClampNeg = 0 := by decide
theorem tn1 : (1 : Int32).toNatClampNeg = 1 := by decide
theorem li0 : (0 : Int32) = nI 0 := by decide
theorem li1 : (1 : Int32) = nI 1 := by decide
theorem li2 : (2 : Int32) = nI 2 := by decide
theorem li8 : (8 : Int32) = nI 8 := by decide
theorem li10 : (10 : Int32) = nI 10 := by decide
theorem li11 : (11 : Int32) = nI 11 := by decide
theorem li12 : (12 : Int32) = nI 12 := by decide
theorem li16 : (16 : Int32) = nI 16 := by decide
theorem li24 : (24 : Int32) = nI 24 := by decide
theorem li7 : (7 : Int32) = nI 7 := by decide
theorem li6 : (6 : Int32) = nI 6 := by decide
theorem li9 : (9 : Int32) = nI 9 := by decide
theorem li120 : (120 : Int32) = nI 120 := by decide
theorem nI_0' : nI 0 = 0 := by decide
/-- a guard that holds -/
theorem gdI {α : Type} {j N : Nat} {e : Option α} (h : j < N) (hN : N < 2 ^ 31) : (if nI j < 0 ∨ N ≤ (nI j).toNatClampNeg then none else e) = e := if_neg (nI_in h hN)
theorem fu_lt {k : Nat} (h : k < 4096) : k < fu := h
theorem b2i_t : b2i true = 1 := rfl
theorem b2i_f : b2i false = 0 := rfl
theorem ifbt {α : Type} {a b : α} : (if b2i true = 0 then a else b) = b := if_neg (by decide)
theorem ifbf {α : Type} {a b : α} : (if b2i false = 0 then a else b) = a := if_pos rfl
theorem ifb {α : Type} {a b : α} (x : Bool) : (if b2i x = 0 then a else b) = if x = true then b else a := by cases x <;> rfl
theorem ifbd {α : Type} {a b : α} (p : Prop) {i : Decidable p} : (if b2i (decide p) = 0 then a else b) = if p then b else a := by by_cases h : p <;> simp [h, b2i]
theorem b2i_0 (b : Bool) : (b2i b = 0) ↔ b = false := by cases b <;> decide
/-- x is one of the places 0 .. n-1 -/
def ixd (x : Int32) (n : Nat) : Bool := decide (¬ x < 0) && decide (¬ nI n ≤ x)
theorem ixd_of {x : Int32} {n : Nat} (hn : n < 2 ^ 31) (h : ixd x n = true) : ∃ j : Nat, j < n ∧ x = nI j := by
  unfold ixd at h
  rw [Bool.and_eq_true, decide_eq_true_iff, decide_eq_true_iff] at h
  rcases pk_ix x hn with h1 | h1 | h1
  · exact absurd h1 h.1
  · exact absurd h1 h.2
  · exact h1
theorem ixd_nI {j n : Nat} (hn : n < 2 ^ 31) (h : j < n) : ixd (nI j) n = true := by
  unfold ixd
  rw [Bool.and_eq_true, decide_eq_true_iff, decide_eq_true_iff]
  exact ⟨nI_pos (by omega), nI_ge h hn⟩
/-- loops that count up: the state is known at each step -/
theorem up_loop {S E : Type} (L : Nat → Int32 → S → Option E) {C : Nat} (inv : Nat → S) {res : E}
    (hs : ∀ n i, i < C → L (n + 1) (nI i) (inv i) = L n (nI (i + 1)) (inv (i + 1))) (he : ∀ n, L (n + 1) (nI C) (inv C) = some res) :
    ∀ k n i, i + k = C → k < n → L n (nI i) (inv i) = some res := by
  intro k
  induction k with
  | zero =>
    intro n i h1 h2
    obtain ⟨n, rfl⟩ : ∃ n', n = n' + 1 := ⟨n - 1, by omega⟩
    obtain rfl : i = C := by omega
    exact he n
  | succ k ih =>
    intro n i h1 h2
    obtain ⟨n, rfl⟩ : ∃ n', n = n' + 1 := ⟨n - 1, by omega⟩
    rw [hs n i (by omega)]
    exact ih n (i + 1) (by omega) (by omega)
/-- loops that count up: something is known of the state at each step -/
theorem up_ex {S E : Type} (L : Nat → Int32 → S → Option E) {C : Nat} (I : Nat → S → Prop) (P : E → Prop)
    (hs : ∀ n i s, i < C → I i s → ∃ s', I (i + 1) s' ∧ L (n + 1) (nI i) s = L n (nI (i + 1)) s') (he : ∀ n s, I C s → ∃ r, P r ∧ L (n + 1) (nI C) s = some r) :
    ∀ k n i s, i + k = C → k < n → I i s → ∃ r, P r ∧ L n (nI i) s = some r := by
  intro k
  induction k with
  | zero =>
    intro n i s h1 h2 hI
    obtain ⟨n, rfl⟩ : ∃ n', n = n' + 1 := ⟨n - 1, by omega⟩
    obtain rfl : i = C := by omega
    exact he n s hI
  | succ k ih =>
    intro n i s h1 h2 hI
    obtain ⟨n, rfl⟩ : ∃ n', n = n' + 1 := ⟨n - 1, by omega⟩
    obtain ⟨s', hI', e⟩ := hs n i s (by omega) hI
    rw [e]
    exact ih n (i + 1) s' (by omega) (by omega) hI'
/-! the table itself: R rows, C columns, their kinds, cells and tags -/
def nothing : Int64 := -9223372036854775808
/-- what a cell of a kind may be -/
def okc (k : Nat) (v : Int64) : Prop :=
  (k = 0 → v = 0 ∨ v = 1) ∧ (k = 1 → -128 ≤ v.toInt ∧ v.toInt ≤ 127) ∧ (k = 2 → 0 ≤ v.toInt ∧ v.toInt ≤ 65535) ∧ (k = 3 → -32768 ≤ v.toInt ∧ v.toInt ≤ 32767) ∧
  (k = 4 → -2147483648 ≤ v.toInt ∧ v.toInt ≤ 2147483647) ∧ (k = 5 → -2147490090450944 ≤ v.toInt ∧ v.toInt ≤ 2147490090450944) ∧
  (k = 6 → v = v.toInt32.toInt64 ∧ (v = 0 ∨ (0 < v.toInt32.toUInt32.toNat / 2 ^ 23 % 256 ∧ v.toInt32.toUInt32.toNat / 2 ^ 23 % 256 < 255))) ∧ (k = 7 → v = 0 ∨ (0 < v.toUInt64.toNat / 2 ^ 52 % 2048 ∧ v.toUInt64.toNat / 2 ^ 52 % 2048 < 2047)) ∧
  (k = 8 → v = nothing ∨ (-2147483648 ≤ v.toInt ∧ v.toInt ≤ 2147483647)) ∧ (k = 9 → v = nothing ∨ (0 ≤ v.toInt ∧ v.toInt ≤ 77)) ∧ (k = 10 → v = nothing ∨ (-2147483648 ≤ v.toInt ∧ v.toInt ≤ 2147483647))
def VT (R C : Nat) (kd : Nat → Nat) (cl : Nat → Nat → Int64) (tg : Nat → Nat) : Prop :=
  R ≤ 16 ∧ C ≤ 6 ∧ (∀ c, c < C → kd c ≤ 13) ∧ (∀ c r, c < C → r < R → okc (kd c) (cl c r)) ∧ (∀ r, r < R → tg r < R) ∧ (∀ r r', r < R → r' < R → tg r = tg r' → r = r')
def CT (R C : Nat) (kd : Nat → Nat) (cl : Nat → Nat → Int64) (tg : Nat → Nat) (cols rows : Int32) (kinds tags : Nat → Int32) (cells : Nat → Int64) : Prop :=
  cols = nI C ∧ rows = nI R ∧ (∀ c, c < C → kinds c = nI (kd c)) ∧ (∀ r, r < R → tags r = nI (tg r)) ∧ ∀ c r, c < C → r < R → cells (c * 16 + r) = cl c r
def MT (R C : Nat) (kd : Nat → Nat) (cl : Nat → Nat → Int64) (tg : Nat → Nat) (now : Nat → Int64) : Prop :=
  now 0 = lN R ∧ now 1 = lN C ∧ (∀ c, c < C → now (2 + c) = lN (kd c)) ∧ (∀ r, r < R → now (8 + r) = lN (tg r)) ∧ ∀ c r, c < C → r < R → now (24 + 16 * c + r) = cl c r
