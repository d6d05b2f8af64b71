/-! a day told as a text: its acts, both sides -/
/-- how many signs an act has, its letter too -/
def sg (v : Nat) : Nat := if v = 109 then 5 else if v = 112 then 8 else if v = 114 then 1 else if v = 115 then 5 else if v = 116 then 3 else 0
theorem sg_dec : ∀ v, v < 256 → (if nI v = 109 then (some (5 : Int32)) else (if nI v = 110 then (some (0 : Int32)) else (if nI v = 111 then (some (0 : Int32)) else (if nI v = 112 then (some (8 : Int32)) else (if nI v = 113 then (some (0 : Int32)) else (if nI v = 114 then (some (1 : Int32)) else (if nI v = 115 then (some (5 : Int32)) else (if nI v = 116 then (some (3 : Int32)) else (some (0 : Int32)))))))))) = some (nI (sg v)) := by decide +kernel
theorem sg_le (v : Nat) : sg v ≤ 8 := by
  unfold sg
  (repeat' split) <;> omega
theorem sgl_of {v : Nat} (h : ¬ sg v = 0) : v = 109 ∨ v = 112 ∨ v = 114 ∨ v = 115 ∨ v = 116 := by
  unfold sg at h
  by_cases h1 : v = 109
  · exact Or.inl h1
  by_cases h2 : v = 112
  · exact Or.inr (Or.inl h2)
  by_cases h3 : v = 114
  · exact Or.inr (Or.inr (Or.inl h3))
  by_cases h4 : v = 115
  · exact Or.inr (Or.inr (Or.inr (Or.inl h4)))
  by_cases h5 : v = 116
  · exact Or.inr (Or.inr (Or.inr (Or.inr h5)))
  rw [if_neg h1, if_neg h2, if_neg h3, if_neg h4, if_neg h5] at h
  exact absurd rfl h
theorem sg_no : ∀ v, v < 256 → sg v = 0 → ¬ nI v = 115 ∧ ¬ nI v = 109 ∧ ¬ nI v = 116 ∧ ¬ nI v = 114 ∧ ¬ nI v = 112 := by decide +kernel
theorem nI_k2 (p : Nat) : nI p + 2 = nI (p + 2) := nI_add p 2
theorem nI_k3 (p : Nat) : nI p + 3 = nI (p + 3) := nI_add p 3
theorem nI_k4 (p : Nat) : nI p + 4 = nI (p + 4) := nI_add p 4
theorem nI_k6 (p : Nat) : nI p + 6 = nI (p + 6) := nI_add p 6
theorem nI_5 (p : Nat) : (5 : Int32) * nI p = nI (5 * p) := pk_mul 5 p
theorem mmax1 : ∀ k, k < 9 → 1 ≤ k → mmax 1 (nI k) = nI k := by decide +kernel
/-- the first place of these that has no digit -/
def fd (n : Nat) (b : Nat → Nat) : Nat → Nat → Option Nat
  | _, 0 => none
  | q, k + 1 => if dg n b q = true then fd n b (q + 1) k else some q
def fdr : Option Nat → Unit ⊕ Int32
  | none => .inl ()
  | some r => .inr (nI r)
def orf : Option Nat → Option Nat → Option Nat
  | none, x => x
  | some r, _ => some r
def war : Option Nat → Int32
  | none => -1
  | some r => nI r
theorem orf_none {x y : Option Nat} (h : orf x y = none) : x = none ∧ y = none := by
  cases x with
  | none => exact ⟨rfl, h⟩
  | some r => have h' : some r = none := h; cases h'
theorem orf_some {x y : Option Nat} {r : Nat} (h : orf x y = some r) : x = some r ∨ (x = none ∧ y = some r) := by
  cases x with
  | none => exact Or.inr ⟨rfl, h⟩
  | some q => exact Or.inl h
theorem sm_fdr (x : Option Nat) : (some (fdr x)).bind (sm (fun _ => (some (-1 : Int32)))) = some (war x) := by cases x <;> rfl
theorem fd_add (n : Nat) (b : Nat → Nat) : ∀ (a k q : Nat), fd n b q (a + k) = orf (fd n b q a) (fd n b (q + a) k) := by
  intro a
  induction a with
  | zero => intro k q; rw [Nat.zero_add]; rfl
  | succ a ih =>
    intro k q
    rw [show a + 1 + k = (a + k) + 1 by omega]
    show (if dg n b q = true then fd n b (q + 1) (a + k) else some q) = orf (if dg n b q = true then fd n b (q + 1) a else some q) (fd n b (q + (a + 1)) k)
    by_cases h : dg n b q = true
    · rw [if_pos h, if_pos h, ih, show q + 1 + a = q + (a + 1) by omega]
    · rw [if_neg h, if_neg h]
      rfl
theorem fd2 (n : Nat) (b : Nat → Nat) (q : Nat) : fd n b q 2 = if dg n b q = true then (if dg n b (q + 1) = true then none else some (q + 1)) else some q := rfl
theorem dg_p {n : Nat} {b : Nat → Nat} {q : Nat} (h : dg n b q = true) : q < n ∧ 48 ≤ b q ∧ b q ≤ 57 := by simpa [dg] using h
theorem bw_p {n : Nat} {b : Nat → Nat} {lo m q : Nat} (h : bw n b lo m q = true) : q < n ∧ lo ≤ b q ∧ b q < lo + m := by simpa [bw] using h
theorem fd_none {n : Nat} {b : Nat → Nat} : ∀ (k q : Nat), fd n b q k = none → ∀ i, i < k → dg n b (q + i) = true := by
  intro k
  induction k with
  | zero => intro q _ i hi; omega
  | succ k ih =>
    intro q h i hi
    have h' : (if dg n b q = true then fd n b (q + 1) k else some q) = none := h
    by_cases hd : dg n b q = true
    · rw [if_pos hd] at h'
      rcases Nat.eq_zero_or_pos i with rfl | hi0
      · exact hd
      · have := ih (q + 1) h' (i - 1) (by omega)
        rw [show q + 1 + (i - 1) = q + i by omega] at this
        exact this
    · rw [if_neg hd] at h'; cases h'
theorem fd_some {n : Nat} {b : Nat → Nat} : ∀ (k q r : Nat), q ≤ n → fd n b q k = some r → r ≤ n := by
  intro k
  induction k with
  | zero => intro q r _ h; have h' : (none : Option Nat) = some r := h; cases h'
  | succ k ih =>
    intro q r hq h
    have h' : (if dg n b q = true then fd n b (q + 1) k else some q) = some r := h
    by_cases hd : dg n b q = true
    · rw [if_pos hd] at h'
      have := (dg_p hd).1
      exact ih (q + 1) r (by omega) h'
    · rw [if_neg hd] at h'
      have := Option.some.inj h'
      omega
/-- where an act goes wrong -/
def wa (n : Nat) (b : Nat → Nat) (p : Nat) : Option Nat := if sg (b p) = 0 then some p else if b p = 112 then (if bw n b 97 6 (p + 1) = true then fd n b (p + 2) 6 else some (p + 1)) else fd n b (p + 1) (sg (b p) - 1)
theorem wa_end {n : Nat} {b : Nat → Nat} {p : Nat} (hp : p < n) (h : wa n b p = none) : 1 ≤ sg (b p) ∧ p + sg (b p) ≤ n := by
  unfold wa at h
  by_cases h0 : sg (b p) = 0
  · rw [if_pos h0] at h; cases h
  rw [if_neg h0] at h
  refine ⟨by omega, ?_⟩
  by_cases h1 : b p = 112
  · rw [if_pos h1] at h
    have e : sg (b p) = 8 := by rw [h1]; rfl
    by_cases h2 : bw n b 97 6 (p + 1) = true
    · rw [if_pos h2] at h
      have := (dg_p (fd_none 6 (p + 2) h 5 (by omega))).1
      omega
    · rw [if_neg h2] at h; cases h
  · rw [if_neg h1] at h
    by_cases h3 : sg (b p) = 1
    · omega
    · have := (dg_p (fd_none _ (p + 1) h (sg (b p) - 2) (by omega))).1
      omega
theorem wa_w {n : Nat} {b : Nat → Nat} {p w : Nat} (hp : p < n) (h : wa n b p = some w) : w ≤ n := by
  unfold wa at h
  by_cases h0 : sg (b p) = 0
  · rw [if_pos h0] at h
    have := Option.some.inj h
    omega
  rw [if_neg h0] at h
  by_cases h1 : b p = 112
  · rw [if_pos h1] at h
    by_cases h2 : bw n b 97 6 (p + 1) = true
    · rw [if_pos h2] at h
      exact fd_some 6 (p + 2) w (by have := (bw_p h2).1; omega) h
    · rw [if_neg h2] at h
      have := Option.some.inj h
      omega
  · rw [if_neg h1] at h
    exact fd_some _ (p + 1) w (by omega) h
theorem icl_dec : ∀ v, v < 256 → (if (nI v - (97 : Int32)) < 0 then (some false) else ((some (nI v - (97 : Int32))).bind (fun o_2670 => (if (6 : Int32) ≤ o_2670 then (some false) else (some true))))) = some (decide (97 ≤ v) && decide (v < 97 + 6)) := by decide +kernel
section
variable {n : Nat} {b : Nat → Nat} {signs text : Nat → Int32}
theorem c_signsOfAct (hn : n ≤ 80) (hb : ∀ p, p < n → b p < 256 ∧ signs p = nI (b p) ∧ text p = bt (b p)) {p : Nat} (hp : p < n) : f_X9_signsOfAct (nI n) signs (nI p) = some (nI (sg (b p))) := by
  unfold f_X9_signsOfAct
  rw [@c_signAt n b signs text hn hb p (by omega), if_pos hp, Option.bind_some]
  exact sg_dec _ (hb p hp).1
theorem c_wa64 (hn : n ≤ 80) (hb : ∀ p, p < n → b p < 256 ∧ signs p = nI (b p) ∧ text p = bt (b p)) (p s : Nat) : ∀ (k q m : Nat), q + k = p + s → q + k < 1000 → k < m → L_X9_wrongInAct_64 (nI n) signs (nI p) (nI s) m (nI q) = some (fdr (fd n b q k)) := by
  intro k
  induction k with
  | zero =>
    intro q m h1 h2 h3
    obtain ⟨m, rfl⟩ : ∃ m', m = m' + 1 := ⟨m - 1, by omega⟩
    rw [L_X9_wrongInAct_64, nI_add, if_pos (nI_le (by omega) (by omega))]
    rfl
  | succ k ih =>
    intro q m h1 h2 h3
    obtain ⟨m, rfl⟩ : ∃ m', m = m' + 1 := ⟨m - 1, by omega⟩
    rw [L_X9_wrongInAct_64, nI_add, if_neg (nI_ge (by omega) (by omega)), @c_digitAt n b signs text hn hb q (by omega), Option.bind_some]
    show _ = some (fdr (if dg n b q = true then fd n b (q + 1) k else some q))
    by_cases hd : dg n b q = true
    · have := dg_p hd
      rw [if_pos hd, if_pos hd, if_pos (k14_0 _ (by omega)), nI_1]
      exact ih (q + 1) m (by omega) (by omega) (by omega)
    · rw [if_neg hd, if_neg hd, if_neg (by decide)]
      rfl
theorem c_wa642 (hn : n ≤ 80) (hb : ∀ p, p < n → b p < 256 ∧ signs p = nI (b p) ∧ text p = bt (b p)) (p s : Nat) : ∀ (k q m : Nat), q + k = p + s → q + k < 1000 → k < m → L_X9_wrongInAct_64_2 (nI n) signs (nI p) (nI s) m (nI q) = some (fdr (fd n b q k)) := by
  intro k
  induction k with
  | zero =>
    intro q m h1 h2 h3
    obtain ⟨m, rfl⟩ : ∃ m', m = m' + 1 := ⟨m - 1, by omega⟩
    rw [L_X9_wrongInAct_64_2, nI_add, if_pos (nI_le (by omega) (by omega))]
    rfl
  | succ k ih =>
    intro q m h1 h2 h3
    obtain ⟨m, rfl⟩ : ∃ m', m = m' + 1 := ⟨m - 1, by omega⟩
    rw [L_X9_wrongInAct_64_2, nI_add, if_neg (nI_ge (by omega) (by omega)), @c_digitAt n b signs text hn hb q (by omega), Option.bind_some]
    show _ = some (fdr (if dg n b q = true then fd n b (q + 1) k else some q))
    by_cases hd : dg n b q = true
    · have := dg_p hd
      rw [if_pos hd, if_pos hd, if_pos (k14_0 _ (by omega)), nI_1]
      exact ih (q + 1) m (by omega) (by omega) (by omega)
    · rw [if_neg hd, if_neg hd, if_neg (by decide)]
      rfl
theorem c_isColumnLetter (hn : n ≤ 80) (hb : ∀ p, p < n → b p < 256 ∧ signs p = nI (b p) ∧ text p = bt (b p)) {p : Nat} (hp : p < 2 ^ 29) : f_X9_isColumnLetter (nI n) signs (nI p) = some (bw n b 97 6 p) := by
  unfold f_X9_isColumnLetter f_X7_letterAt
  rw [@c_signAt n b signs text hn hb p (by omega), Option.bind_some, Option.bind_some]
  by_cases h : p < n
  · rw [if_pos h, icl_dec _ (hb p h).1]
    unfold bw
    rw [decide_eq_true h, Bool.true_and]
  · rw [if_neg h, icl_dec 0 (by omega)]
    unfold bw
    rw [decide_eq_false h, Bool.false_and]
    rfl
theorem c_wrongInAct (hn : n ≤ 80) (hb : ∀ p, p < n → b p < 256 ∧ signs p = nI (b p) ∧ text p = bt (b p)) {p : Nat} (hp : p < n) : f_X9_wrongInAct (nI n) signs (nI p) = some (war (wa n b p)) := by
  have hs := c_signsOfAct hn hb hp
  have ha := @c_signAt n b signs text hn hb p (by omega)
  rw [if_pos hp] at ha
  have h256 := (hb p hp).1
  have h8 := sg_le (b p)
  unfold f_X9_wrongInAct wa
  rw [hs, Option.bind_some, ha]
  by_cases h0 : sg (b p) = 0
  · rw [if_pos (by rw [h0]; rfl), if_pos h0]; rfl
  · rw [if_neg (nI_ne0 (by omega) (by omega)), if_neg h0, Option.bind_some]
    by_cases h112 : b p = 112
    · have hs8 : sg (b p) = 8 := by rw [h112]; rfl
      rw [if_pos (show nI (b p) = 112 by rw [h112]; rfl), Option.bind_some, if_pos h112, if_neg (by decide), nI_1, c_isColumnLetter hn hb (by omega), Option.bind_some, ifb]
      by_cases hc : bw n b 97 6 (p + 1) = true
      · rw [if_pos hc, if_pos hc, if_neg (by decide), Option.bind_some, nI_k2, c_wa642 hn hb p (sg (b p)) 6 (p + 2) fu (by omega) (by omega) (fu_lt (by omega))]
        exact sm_fdr _
      · rw [if_neg hc, if_neg hc]; rfl
    · rw [if_neg (show ¬ nI (b p) = 112 from fun q => h112 ((nI_eq (a := b p) (b := 112) (by omega) (by omega)).mp q)), Option.bind_some, if_neg h112, if_pos rfl, if_pos rfl, Option.bind_some, nI_1, c_wa64 hn hb p (sg (b p)) (sg (b p) - 1) (p + 1) fu (by omega) (by omega) (fu_lt (by omega))]
      exact sm_fdr _
def v2 (b : Nat → Nat) (q : Nat) : Nat := 10 * (b q - 48) + (b (q + 1) - 48)
theorem m_td (hn : n ≤ 80) (hb : ∀ p, p < n → b p < 256 ∧ signs p = nI (b p) ∧ text p = bt (b p)) {q : Nat} (hq : q < 81) : (fd n b q 2 = none → f_X10_twoDigits (nI n) (nI q) (-1) text = some (nI (v2 b q), nI (q + 2), -1)) ∧ (∀ r, fd n b q 2 = some r → ∃ x a, f_X10_twoDigits (nI n) (nI q) (-1) text = some (x, a, nI r)) := by
  have t := @m_twoDigits n b signs text hn hb q hq
  rw [fd2]
  by_cases h0 : dg n b q = true
  · rw [if_pos h0] at t
    by_cases h1 : dg n b (q + 1) = true
    · rw [if_pos h1] at t
      rw [if_pos h0, if_pos h1]
      exact ⟨fun _ => t, fun r h => (by cases h)⟩
    · rw [if_neg h1] at t
      rw [if_pos h0, if_neg h1]
      exact ⟨fun h => (by cases h), fun r h => (by cases h; exact ⟨_, _, t⟩)⟩
  · rw [if_neg h0] at t
    rw [if_neg h0]
    exact ⟨fun h => (by cases h), fun r h => (by cases h; exact ⟨_, _, t⟩)⟩
/-- what the reference has read of an act -/
def RD (b : Nat → Nat) (read : Nat → Int32) (j p : Nat) : Prop := read (5 * j) = nI (b p) ∧ (b p = 115 ∨ b p = 109 → read (5 * j + 1) = nI (v2 b (p + 1)) ∧ read (5 * j + 2) = nI (v2 b (p + 3))) ∧ (b p = 116 → read (5 * j + 1) = nI (v2 b (p + 1))) ∧ (b p = 112 → read (5 * j + 1) = nI (b (p + 1) - 97) ∧ read (5 * j + 2) = nI (v2 b (p + 2)) ∧ read (5 * j + 3) = nI (v2 b (p + 4)) ∧ read (5 * j + 4) = nI (v2 b (p + 6)))
theorem RD.cong {r r' : Nat → Int32} {i j p : Nat} (h : RD b r i p) (hij : i < j) (e : ∀ k, k < 5 * j → r' k = r k) : RD b r' i p := by
  obtain ⟨h1, h2, h3, h4⟩ := h
  unfold RD
  rw [e (5 * i) (by omega), e (5 * i + 1) (by omega), e (5 * i + 2) (by omega), e (5 * i + 3) (by omega), e (5 * i + 4) (by omega)]
  exact ⟨h1, h2, h3, h4⟩

theorem m_readAct_ok (hn : n ≤ 80) (hb : ∀ p, p < n → b p < 256 ∧ signs p = nI (b p) ∧ text p = bt (b p)) {p j : Nat} (hp : p < n) (hj : j < 81) (read : Nat → Int32) (hw : wa n b p = none) : ∃ read', f_X10_readAct (nI n) (nI p) (-1) text read (nI (5 * j)) = some (nI (p + sg (b p)), -1, read') ∧ RD b read' j p ∧ ∀ i, i < 5 * j → read' i = read i := by
  have hh := @m_here n b signs text hn hb p (by omega)
  rw [if_pos hp] at hh
  unfold f_X10_readAct
  rw [hh, Option.bind_some]
  unfold wa at hw
  by_cases h0 : sg (b p) = 0
  · rw [if_pos h0] at hw; cases hw
  rw [if_neg h0] at hw
  have cl0 := nI_clamp (show 5 * j < 2 ^ 31 by omega)
  have cl1 := nI_clamp (show 5 * j + 1 < 2 ^ 31 by omega)
  have cl2 := nI_clamp (show 5 * j + 2 < 2 ^ 31 by omega)
  have cl3 := nI_clamp (show 5 * j + 3 < 2 ^ 31 by omega)
  have cl4 := nI_clamp (show 5 * j + 4 < 2 ^ 31 by omega)
  rcases sgl_of h0 with hv | hv | hv | hv | hv
  · rw [hv] at hw
    have hw' : orf (fd n b (p + 1) 2) (fd n b (p + 1 + 2) 2) = none := (fd_add n b 2 2 (p + 1)).symm.trans hw
    obtain ⟨w1, w2⟩ := orf_none hw'
    have d1 := (dg_p (fd_none 2 (p + 1) w1 1 (by omega))).1
    have t1 := (m_td hn hb (q := p + 1) (by omega)).1 w1
    have t2 := (m_td hn hb (q := p + 1 + 2) (by omega)).1 w2
    refine ⟨upd (upd (upd read (5 * j) (nI 109)) (5 * j + 1) (nI (v2 b (p + 1)))) (5 * j + 2) (nI (v2 b (p + 1 + 2))), ?_, ?_, ?_⟩
    · rw [hv]
      rw [if_neg (by decide), if_pos (by decide), gdI (by omega) (by omega), if_neg (by decide), if_neg (by decide), nI_1 p, t1, Option.bind_some, Option.bind_some]
      dsimp only
      rw [nI_1 (5 * j), gdI (by omega) (by omega), if_neg (by decide), t2, Option.bind_some, nI_k2 (5 * j), gdI (by omega) (by omega), Option.bind_some]
      dsimp only
      rw [if_neg (by decide)]
      rw [cl0, cl1, cl2]
      rfl
    · unfold RD
      rw [hv]
      refine ⟨by rw [upd_ne _ _ (by omega), upd_ne _ _ (by omega), upd_at], fun _ => ⟨by rw [upd_ne _ _ (by omega), upd_at], by rw [upd_at]⟩, fun q => absurd q (by decide), fun q => absurd q (by decide)⟩
    · intro i hi
      rw [upd_ne _ _ (by omega), upd_ne _ _ (by omega), upd_ne _ _ (by omega)]
  · rw [hv] at hw
    rw [if_pos rfl] at hw
    by_cases hc : bw n b 97 6 (p + 1) = true
    · rw [if_pos hc] at hw
      have hcp := bw_p hc
      have hw' : orf (fd n b (p + 2) 2) (fd n b (p + 2 + 2) 4) = none := (fd_add n b 2 4 (p + 2)).symm.trans hw
      obtain ⟨w1, hw2⟩ := orf_none hw'
      have hw'' : orf (fd n b (p + 4) 2) (fd n b (p + 4 + 2) 2) = none := (fd_add n b 2 2 (p + 4)).symm.trans hw2
      obtain ⟨w2, w3⟩ := orf_none hw''
      have d1 := (dg_p (fd_none 2 (p + 2) w1 1 (by omega))).1
      have d2 := (dg_p (fd_none 2 (p + 4) w2 1 (by omega))).1
      have t0 : f_X10_oneOf (nI n) (nI (p + 1)) (-1) text 97 6 = some (nI (b (p + 1) - 97), nI (p + 2), -1) := by
        have := @m_oneOf n b signs text hn hb (p + 1) 97 6 (by omega) (by omega) (by omega)
        rw [if_pos hc] at this
        exact this
      have t1 := (m_td hn hb (q := p + 2) (by omega)).1 w1
      have t2 : f_X10_twoDigits (nI n) (nI (p + 2 + 2)) (-1) text = some (nI (v2 b (p + 4)), nI (p + 4 + 2), -1) := (m_td hn hb (q := p + 4) (by omega)).1 w2
      have t3 := (m_td hn hb (q := p + 4 + 2) (by omega)).1 w3
      refine ⟨upd (upd (upd (upd (upd read (5 * j) (nI 112)) (5 * j + 1) (nI (b (p + 1) - 97))) (5 * j + 2) (nI (v2 b (p + 2)))) (5 * j + 3) (nI (v2 b (p + 4)))) (5 * j + 4) (nI (v2 b (p + 4 + 2))), ?_, ?_, ?_⟩
      · rw [hv]
        rw [if_neg (by decide), if_neg (by decide), if_neg (by decide), if_neg (by decide), if_pos (by decide), gdI (by omega) (by omega), if_neg (by decide), if_pos (by decide), nI_1 p, t0, Option.bind_some, Option.bind_some]
        dsimp only
        rw [nI_1 (5 * j), gdI (by omega) (by omega), if_neg (by decide), t1, Option.bind_some, nI_k2 (5 * j), gdI (by omega) (by omega), Option.bind_some]
        dsimp only
        rw [if_pos (by decide), t2, Option.bind_some, nI_k3 (5 * j), gdI (by omega) (by omega)]
        dsimp only
        rw [t3, Option.bind_some, nI_k4 (5 * j), gdI (by omega) (by omega)]
        rw [cl0, cl1, cl2, cl3, cl4]
        rfl
      · unfold RD
        rw [hv]
        refine ⟨by rw [upd_ne _ _ (by omega), upd_ne _ _ (by omega), upd_ne _ _ (by omega), upd_ne _ _ (by omega), upd_at], fun q => absurd q (by decide), fun q => absurd q (by decide), fun _ => ⟨by rw [upd_ne _ _ (by omega), upd_ne _ _ (by omega), upd_ne _ _ (by omega), upd_at], by rw [upd_ne _ _ (by omega), upd_ne _ _ (by omega), upd_at], by rw [upd_ne _ _ (by omega), upd_at], by rw [upd_at]⟩⟩
      · intro i hi
        rw [upd_ne _ _ (by omega), upd_ne _ _ (by omega), upd_ne _ _ (by omega), upd_ne _ _ (by omega), upd_ne _ _ (by omega)]
    · rw [if_neg hc] at hw; cases hw
  · rw [hv] at hw
    refine ⟨upd read (5 * j) (nI 114), ?_, ?_, ?_⟩
    · rw [hv]
      rw [if_neg (by decide), if_neg (by decide), if_neg (by decide), if_pos (by decide), gdI (by omega) (by omega), if_pos (by decide)]
      rw [cl0, nI_1]
      rfl
    · unfold RD
      rw [hv]
      refine ⟨by rw [upd_at], fun q => absurd q (by decide), fun q => absurd q (by decide), fun q => absurd q (by decide)⟩
    · intro i hi
      rw [upd_ne _ _ (by omega)]
  · rw [hv] at hw
    have hw' : orf (fd n b (p + 1) 2) (fd n b (p + 1 + 2) 2) = none := (fd_add n b 2 2 (p + 1)).symm.trans hw
    obtain ⟨w1, w2⟩ := orf_none hw'
    have d1 := (dg_p (fd_none 2 (p + 1) w1 1 (by omega))).1
    have t1 := (m_td hn hb (q := p + 1) (by omega)).1 w1
    have t2 := (m_td hn hb (q := p + 1 + 2) (by omega)).1 w2
    refine ⟨upd (upd (upd read (5 * j) (nI 115)) (5 * j + 1) (nI (v2 b (p + 1)))) (5 * j + 2) (nI (v2 b (p + 1 + 2))), ?_, ?_, ?_⟩
    · rw [hv]
      rw [if_pos (by decide), gdI (by omega) (by omega), if_neg (by decide), if_neg (by decide), nI_1 p, t1, Option.bind_some, Option.bind_some]
      dsimp only
      rw [nI_1 (5 * j), gdI (by omega) (by omega), if_neg (by decide), t2, Option.bind_some, nI_k2 (5 * j), gdI (by omega) (by omega), Option.bind_some]
      dsimp only
      rw [if_neg (by decide)]
      rw [cl0, cl1, cl2]
      rfl
    · unfold RD
      rw [hv]
      refine ⟨by rw [upd_ne _ _ (by omega), upd_ne _ _ (by omega), upd_at], fun _ => ⟨by rw [upd_ne _ _ (by omega), upd_at], by rw [upd_at]⟩, fun q => absurd q (by decide), fun q => absurd q (by decide)⟩
    · intro i hi
      rw [upd_ne _ _ (by omega), upd_ne _ _ (by omega), upd_ne _ _ (by omega)]
  · rw [hv] at hw
    have w1 : fd n b (p + 1) 2 = none := hw
    have t1 := (m_td hn hb (q := p + 1) (by omega)).1 w1
    refine ⟨upd (upd read (5 * j) (nI 116)) (5 * j + 1) (nI (v2 b (p + 1))), ?_, ?_, ?_⟩
    · rw [hv]
      rw [if_neg (by decide), if_neg (by decide), if_pos (by decide), gdI (by omega) (by omega), if_neg (by decide), if_neg (by decide), nI_1 p, t1, Option.bind_some, Option.bind_some]
      dsimp only
      rw [nI_1 (5 * j), gdI (by omega) (by omega), if_pos (by decide), Option.bind_some]
      dsimp only
      rw [if_neg (by decide)]
      rw [cl0, cl1]
      rfl
    · unfold RD
      rw [hv]
      refine ⟨by rw [upd_ne _ _ (by omega), upd_at], fun q => absurd q (by decide), fun _ => by rw [upd_at], fun q => absurd q (by decide)⟩
    · intro i hi
      rw [upd_ne _ _ (by omega), upd_ne _ _ (by omega)]
theorem m_readAct_bad (hn : n ≤ 80) (hb : ∀ p, p < n → b p < 256 ∧ signs p = nI (b p) ∧ text p = bt (b p)) {p j w : Nat} (hp : p < n) (hj : j < 81) (read : Nat → Int32) (hw : wa n b p = some w) : ∃ a read', f_X10_readAct (nI n) (nI p) (-1) text read (nI (5 * j)) = some (a, nI w, read') := by
  have hw81 : w < 81 := by have := wa_w hp hw; omega
  have hh := @m_here n b signs text hn hb p (by omega)
  rw [if_pos hp] at hh
  unfold f_X10_readAct
  rw [hh, Option.bind_some]
  unfold wa at hw
  by_cases h0 : sg (b p) = 0
  · rw [if_pos h0] at hw
    obtain rfl := Option.some.inj hw
    obtain ⟨k1, k2, k3, k4, k5⟩ := sg_no _ (hb p hp).1 h0
    rw [if_neg k1, if_neg k2, if_neg k3, if_neg k4, if_neg k5, m_fault1, Option.bind_some]
    exact ⟨_, _, rfl⟩
  rw [if_neg h0] at hw
  have t00 : ∀ a : Int32, f_X10_twoDigits (nI n) a (nI w) text = some (0, a, nI w) := fun a => m_twoDigits0 hw81 _ a
  rcases sgl_of h0 with hv | hv | hv | hv | hv
  · rw [hv] at hw ⊢
    have hw' : orf (fd n b (p + 1) 2) (fd n b (p + 1 + 2) 2) = some w := (fd_add n b 2 2 (p + 1)).symm.trans hw
    rcases orf_some hw' with w1 | ⟨w1, w2⟩
    · obtain ⟨x, a, t1⟩ := (m_td hn hb (q := p + 1) (by omega)).2 w w1
      rw [if_neg (by decide), if_pos (by decide), gdI (by omega) (by omega), if_neg (by decide), if_neg (by decide), nI_1 p, t1, Option.bind_some, Option.bind_some]
      dsimp only
      rw [nI_1 (5 * j), gdI (by omega) (by omega), if_neg (by decide), t00, Option.bind_some, nI_k2 (5 * j), gdI (by omega) (by omega), Option.bind_some]
      dsimp only
      rw [if_neg (by decide)]
      exact ⟨_, _, rfl⟩
    · have d1 := (dg_p (fd_none 2 (p + 1) w1 1 (by omega))).1
      have t1 := (m_td hn hb (q := p + 1) (by omega)).1 w1
      obtain ⟨x, a, t2⟩ := (m_td hn hb (q := p + 1 + 2) (by omega)).2 w w2
      rw [if_neg (by decide), if_pos (by decide), gdI (by omega) (by omega), if_neg (by decide), if_neg (by decide), nI_1 p, t1, Option.bind_some, Option.bind_some]
      dsimp only
      rw [nI_1 (5 * j), gdI (by omega) (by omega), if_neg (by decide), t2, Option.bind_some, nI_k2 (5 * j), gdI (by omega) (by omega), Option.bind_some]
      dsimp only
      rw [if_neg (by decide)]
      exact ⟨_, _, rfl⟩
  · rw [hv] at hw ⊢
    rw [if_pos rfl] at hw
    by_cases hc : bw n b 97 6 (p + 1) = true
    · rw [if_pos hc] at hw
      have hcp := bw_p hc
      have t0 : f_X10_oneOf (nI n) (nI (p + 1)) (-1) text 97 6 = some (nI (b (p + 1) - 97), nI (p + 2), -1) := by
        have := @m_oneOf n b signs text hn hb (p + 1) 97 6 (by omega) (by omega) (by omega)
        rw [if_pos hc] at this
        exact this
      have hw' : orf (fd n b (p + 2) 2) (fd n b (p + 2 + 2) 4) = some w := (fd_add n b 2 4 (p + 2)).symm.trans hw
      rcases orf_some hw' with w1 | ⟨w1, hw2⟩
      · obtain ⟨x, a, t1⟩ := (m_td hn hb (q := p + 2) (by omega)).2 w w1
        rw [if_neg (by decide), if_neg (by decide), if_neg (by decide), if_neg (by decide), if_pos (by decide), gdI (by omega) (by omega), if_neg (by decide), if_pos (by decide), nI_1 p, t0, Option.bind_some, Option.bind_some]
        dsimp only
        rw [nI_1 (5 * j), gdI (by omega) (by omega), if_neg (by decide), t1, Option.bind_some, nI_k2 (5 * j), gdI (by omega) (by omega), Option.bind_some]
        dsimp only
        rw [if_pos (by decide), t00, Option.bind_some, nI_k3 (5 * j), gdI (by omega) (by omega)]
        dsimp only
        rw [t00, Option.bind_some, nI_k4 (5 * j), gdI (by omega) (by omega)]
        exact ⟨_, _, rfl⟩
      have d1 := (dg_p (fd_none 2 (p + 2) w1 1 (by omega))).1
      have t1 := (m_td hn hb (q := p + 2) (by omega)).1 w1
      have hw'' : orf (fd n b (p + 4) 2) (fd n b (p + 4 + 2) 2) = some w := (fd_add n b 2 2 (p + 4)).symm.trans hw2
      rcases orf_some hw'' with w2 | ⟨w2, w3⟩
      · obtain ⟨x, a, t2⟩ := (m_td hn hb (q := p + 2 + 2) (by omega)).2 w w2
        rw [if_neg (by decide), if_neg (by decide), if_neg (by decide), if_neg (by decide), if_pos (by decide), gdI (by omega) (by omega), if_neg (by decide), if_pos (by decide), nI_1 p, t0, Option.bind_some, Option.bind_some]
        dsimp only
        rw [nI_1 (5 * j), gdI (by omega) (by omega), if_neg (by decide), t1, Option.bind_some, nI_k2 (5 * j), gdI (by omega) (by omega), Option.bind_some]
        dsimp only
        rw [if_pos (by decide), t2, Option.bind_some, nI_k3 (5 * j), gdI (by omega) (by omega)]
        dsimp only
        rw [t00, Option.bind_some, nI_k4 (5 * j), gdI (by omega) (by omega)]
        exact ⟨_, _, rfl⟩
      have d2 := (dg_p (fd_none 2 (p + 4) w2 1 (by omega))).1
      have t2 : f_X10_twoDigits (nI n) (nI (p + 2 + 2)) (-1) text = some (nI (v2 b (p + 4)), nI (p + 4 + 2), -1) := (m_td hn hb (q := p + 4) (by omega)).1 w2
      obtain ⟨x, a, t3⟩ := (m_td hn hb (q := p + 4 + 2) (by omega)).2 w w3
      rw [if_neg (by decide), if_neg (by decide), if_neg (by decide), if_neg (by decide), if_pos (by decide), gdI (by omega) (by omega), if_neg (by decide), if_pos (by decide), nI_1 p, t0, Option.bind_some, Option.bind_some]
      dsimp only
      rw [nI_1 (5 * j), gdI (by omega) (by omega), if_neg (by decide), t1, Option.bind_some, nI_k2 (5 * j), gdI (by omega) (by omega), Option.bind_some]
      dsimp only
      rw [if_pos (by decide), t2, Option.bind_some, nI_k3 (5 * j), gdI (by omega) (by omega)]
      dsimp only
      rw [t3, Option.bind_some, nI_k4 (5 * j), gdI (by omega) (by omega)]
      exact ⟨_, _, rfl⟩
    · rw [if_neg hc] at hw
      obtain rfl := Option.some.inj hw
      have t0 : f_X10_oneOf (nI n) (nI (p + 1)) (-1) text 97 6 = some (0, nI (p + 1), nI (p + 1)) := by
        have := @m_oneOf n b signs text hn hb (p + 1) 97 6 (by omega) (by omega) (by omega)
        rw [if_neg hc] at this
        exact this
      rw [if_neg (by decide), if_neg (by decide), if_neg (by decide), if_neg (by decide), if_pos (by decide), gdI (by omega) (by omega), if_neg (by decide), if_pos (by decide), nI_1 p, t0, Option.bind_some, Option.bind_some]
      dsimp only
      rw [nI_1 (5 * j), gdI (by omega) (by omega), if_neg (by decide), t00, Option.bind_some, nI_k2 (5 * j), gdI (by omega) (by omega), Option.bind_some]
      dsimp only
      rw [if_pos (by decide), t00, Option.bind_some, nI_k3 (5 * j), gdI (by omega) (by omega)]
      dsimp only
      rw [t00, Option.bind_some, nI_k4 (5 * j), gdI (by omega) (by omega)]
      exact ⟨_, _, rfl⟩
  · rw [hv] at hw ⊢
    have hw' : (none : Option Nat) = some w := hw
    cases hw'
  · rw [hv] at hw ⊢
    have hw' : orf (fd n b (p + 1) 2) (fd n b (p + 1 + 2) 2) = some w := (fd_add n b 2 2 (p + 1)).symm.trans hw
    rcases orf_some hw' with w1 | ⟨w1, w2⟩
    · obtain ⟨x, a, t1⟩ := (m_td hn hb (q := p + 1) (by omega)).2 w w1
      rw [if_pos (by decide), gdI (by omega) (by omega), if_neg (by decide), if_neg (by decide), nI_1 p, t1, Option.bind_some, Option.bind_some]
      dsimp only
      rw [nI_1 (5 * j), gdI (by omega) (by omega), if_neg (by decide), t00, Option.bind_some, nI_k2 (5 * j), gdI (by omega) (by omega), Option.bind_some]
      dsimp only
      rw [if_neg (by decide)]
      exact ⟨_, _, rfl⟩
    · have d1 := (dg_p (fd_none 2 (p + 1) w1 1 (by omega))).1
      have t1 := (m_td hn hb (q := p + 1) (by omega)).1 w1
      obtain ⟨x, a, t2⟩ := (m_td hn hb (q := p + 1 + 2) (by omega)).2 w w2
      rw [if_pos (by decide), gdI (by omega) (by omega), if_neg (by decide), if_neg (by decide), nI_1 p, t1, Option.bind_some, Option.bind_some]
      dsimp only
      rw [nI_1 (5 * j), gdI (by omega) (by omega), if_neg (by decide), t2, Option.bind_some, nI_k2 (5 * j), gdI (by omega) (by omega), Option.bind_some]
      dsimp only
      rw [if_neg (by decide)]
      exact ⟨_, _, rfl⟩
  · rw [hv] at hw ⊢
    obtain ⟨x, a, t1⟩ := (m_td hn hb (q := p + 1) (by omega)).2 w hw
    rw [if_neg (by decide), if_neg (by decide), if_pos (by decide), gdI (by omega) (by omega), if_neg (by decide), if_neg (by decide), nI_1 p, t1, Option.bind_some, Option.bind_some]
    dsimp only
    rw [nI_1 (5 * j), gdI (by omega) (by omega), if_pos (by decide), Option.bind_some]
    dsimp only
    rw [if_neg (by decide)]
    exact ⟨_, _, rfl⟩
end
