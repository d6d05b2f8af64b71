/-! all orders of some columns: one after the other, and by numbers -/
def dig (m w k : Nat) : Nat := w / m ^ (m - 1 - k) % m
def sn (m w : Nat) : Nat → Int32
  | 0 => 0
  | j + 1 => sn m w j ||| ((1 : Int32) <<< (nI (w / m ^ j % m) &&& 31))
def vld (m w : Nat) : Bool := decide (sn m w m = ((1 : Int32) <<< (nI m &&& 31)) - 1)
/-- the next order at or behind w -/
def nv (m : Nat) : Nat → Nat → Option Nat
  | 0, _ => none
  | k + 1, w => if vld m w then some w else nv m k (w + 1)
def sameD (m w : Nat) (c : Nat → Int32) : Nat → Bool
  | 0 => true
  | k + 1 => sameD m w c k && decide (c k = nI (dig m w k))
theorem sameD_at {m w : Nat} {c : Nat → Int32} : ∀ {n : Nat}, sameD m w c n = true → ∀ k, k < n → c k = nI (dig m w k)
  | 0, _, k, hk => by omega
  | n + 1, h, k, hk => by
    unfold sameD at h
    rw [Bool.and_eq_true, decide_eq_true_eq] at h
    by_cases e : k = n
    · subst e; exact h.2
    · exact sameD_at h.1 k (by omega)
def stp (m w k : Nat) : Bool := match f_X2_stepOn (nI m) (fun j => nI (dig m w j)) with
  | some (true, c) => (match nv m k (w + 1) with | some v => sameD m v c m | none => false)
  | some (false, _) => (match nv m k (w + 1) with | some _ => false | none => true)
  | none => false
def chk (m : Nat) : Nat → Nat → Bool
  | 0, _ => true
  | n + 1, w => Bool.and (Bool.or (Bool.not (vld m w)) (stp m w (m ^ m - w - 1))) (chk m n (w + 1))
theorem chk_at {m : Nat} : ∀ {n w : Nat}, chk m n w = true → ∀ v, w ≤ v → v < w + n → vld m v = true → stp m v (m ^ m - v - 1) = true
  | 0, w, _, v, h1, h2, _ => by omega
  | n + 1, w, h, v, h1, h2, h3 => by
    have h' : ((!vld m w || stp m w (m ^ m - w - 1)) && chk m n (w + 1)) = true := h
    rw [Bool.and_eq_true] at h'
    by_cases e : v = w
    · subst e
      rw [h3] at h'
      simpa using h'.1
    · exact chk_at h'.2 v (by omega) (by omega) h3
theorem chk1 : chk 1 1 0 = true := by decide +kernel
theorem chk2 : chk 2 4 0 = true := by decide +kernel
theorem chk3 : chk 3 27 0 = true := by decide +kernel
theorem chk4 : chk 4 256 0 = true := by decide +kernel
theorem chk5_0 : chk 5 250 0 = true := by decide +kernel
theorem chk5_1 : chk 5 250 250 = true := by decide +kernel
theorem chk5_2 : chk 5 250 500 = true := by decide +kernel
theorem chk5_3 : chk 5 250 750 = true := by decide +kernel
theorem chk5_4 : chk 5 250 1000 = true := by decide +kernel
theorem chk5_5 : chk 5 250 1250 = true := by decide +kernel
theorem chk5_6 : chk 5 250 1500 = true := by decide +kernel
theorem chk5_7 : chk 5 250 1750 = true := by decide +kernel
theorem chk5_8 : chk 5 250 2000 = true := by decide +kernel
theorem chk5_9 : chk 5 250 2250 = true := by decide +kernel
theorem chk5_10 : chk 5 250 2500 = true := by decide +kernel
theorem chk5_11 : chk 5 250 2750 = true := by decide +kernel
theorem chk5_12 : chk 5 125 3000 = true := by decide +kernel
theorem cnt5_0 : fb_ct (fun k => vld 5 (0 + k)) 250 ≤ 6 := by decide +kernel
theorem cnt5_1 : fb_ct (fun k => vld 5 (250 + k)) 250 ≤ 12 := by decide +kernel
theorem cnt5_2 : fb_ct (fun k => vld 5 (500 + k)) 250 ≤ 12 := by decide +kernel
theorem cnt5_3 : fb_ct (fun k => vld 5 (750 + k)) 250 ≤ 6 := by decide +kernel
theorem cnt5_4 : fb_ct (fun k => vld 5 (1000 + k)) 250 ≤ 12 := by decide +kernel
theorem cnt5_5 : fb_ct (fun k => vld 5 (1250 + k)) 250 ≤ 12 := by decide +kernel
theorem cnt5_6 : fb_ct (fun k => vld 5 (1500 + k)) 250 ≤ 6 := by decide +kernel
theorem cnt5_7 : fb_ct (fun k => vld 5 (1750 + k)) 250 ≤ 12 := by decide +kernel
theorem cnt5_8 : fb_ct (fun k => vld 5 (2000 + k)) 250 ≤ 12 := by decide +kernel
theorem cnt5_9 : fb_ct (fun k => vld 5 (2250 + k)) 250 ≤ 6 := by decide +kernel
theorem cnt5_10 : fb_ct (fun k => vld 5 (2500 + k)) 250 ≤ 12 := by decide +kernel
theorem cnt5_11 : fb_ct (fun k => vld 5 (2750 + k)) 250 ≤ 12 := by decide +kernel
theorem cnt5_12 : fb_ct (fun k => vld 5 (3000 + k)) 125 ≤ 0 := by decide +kernel
theorem cnt5 : fb_ct (vld 5) 3125 ≤ 120 := by
  have h (i n : Nat) : fb_ct (vld 5) (i + n) = fb_ct (vld 5) i + fb_ct (fun k => vld 5 (i + k)) n := fb_ct_split _ _ _
  have e0 := h 0 250
  have e1 := h 250 250
  have e2 := h 500 250
  have e3 := h 750 250
  have e4 := h 1000 250
  have e5 := h 1250 250
  have e6 := h 1500 250
  have e7 := h 1750 250
  have e8 := h 2000 250
  have e9 := h 2250 250
  have e10 := h 2500 250
  have e11 := h 2750 250
  have e12 := h 3000 125
  have z : fb_ct (vld 5) 0 = 0 := rfl
  have q0 := cnt5_0
  have q1 := cnt5_1
  have q2 := cnt5_2
  have q3 := cnt5_3
  have q4 := cnt5_4
  have q5 := cnt5_5
  have q6 := cnt5_6
  have q7 := cnt5_7
  have q8 := cnt5_8
  have q9 := cnt5_9
  have q10 := cnt5_10
  have q11 := cnt5_11
  have q12 := cnt5_12
  simp only [Nat.reduceAdd] at *
  omega
theorem cnt1 : fb_ct (vld 1) 1 ≤ 120 := by decide +kernel
theorem cnt2 : fb_ct (vld 2) 4 ≤ 120 := by decide +kernel
theorem cnt3 : fb_ct (vld 3) 27 ≤ 120 := by decide +kernel
theorem cnt4 : fb_ct (vld 4) 256 ≤ 120 := by decide +kernel
theorem all5 (v : Nat) (hv : v < 3125) (h : vld 5 v = true) : stp 5 v (5 ^ 5 - v - 1) = true := by
  by_cases h0 : v < 250
  · exact chk_at chk5_0 v (by omega) (by omega) h
  by_cases h1 : v < 500
  · exact chk_at chk5_1 v (by omega) (by omega) h
  by_cases h2 : v < 750
  · exact chk_at chk5_2 v (by omega) (by omega) h
  by_cases h3 : v < 1000
  · exact chk_at chk5_3 v (by omega) (by omega) h
  by_cases h4 : v < 1250
  · exact chk_at chk5_4 v (by omega) (by omega) h
  by_cases h5 : v < 1500
  · exact chk_at chk5_5 v (by omega) (by omega) h
  by_cases h6 : v < 1750
  · exact chk_at chk5_6 v (by omega) (by omega) h
  by_cases h7 : v < 2000
  · exact chk_at chk5_7 v (by omega) (by omega) h
  by_cases h8 : v < 2250
  · exact chk_at chk5_8 v (by omega) (by omega) h
  by_cases h9 : v < 2500
  · exact chk_at chk5_9 v (by omega) (by omega) h
  by_cases h10 : v < 2750
  · exact chk_at chk5_10 v (by omega) (by omega) h
  by_cases h11 : v < 3000
  · exact chk_at chk5_11 v (by omega) (by omega) h
  exact chk_at chk5_12 v (by omega) (by omega) h
theorem perm_ok (m : Nat) (h1 : 1 ≤ m) (h5 : m ≤ 5) : (∀ v, v < m ^ m → vld m v = true → stp m v (m ^ m - v - 1) = true) ∧ (∃ w, nv m (m ^ m) 0 = some w ∧ ∀ k, k < m → dig m w k = k) ∧ fb_ct (vld m) (m ^ m) ≤ 120 := by
  rcases (show m = 1 ∨ m = 2 ∨ m = 3 ∨ m = 4 ∨ m = 5 by omega) with rfl | rfl | rfl | rfl | rfl
  · exact ⟨fun v hv h => chk_at chk1 v (Nat.zero_le _) (by rw [Nat.zero_add]; exact hv) h, ⟨0, by decide +kernel, by decide +kernel⟩, cnt1⟩
  · exact ⟨fun v hv h => chk_at chk2 v (Nat.zero_le _) (by rw [Nat.zero_add]; exact hv) h, ⟨1, by decide +kernel, by decide +kernel⟩, cnt2⟩
  · exact ⟨fun v hv h => chk_at chk3 v (Nat.zero_le _) (by rw [Nat.zero_add]; exact hv) h, ⟨5, by decide +kernel, by decide +kernel⟩, cnt3⟩
  · exact ⟨fun v hv h => chk_at chk4 v (Nat.zero_le _) (by rw [Nat.zero_add]; exact hv) h, ⟨27, by decide +kernel, by decide +kernel⟩, cnt4⟩
  · exact ⟨fun v hv h => all5 v hv h, ⟨194, by decide +kernel, by decide +kernel⟩, cnt5⟩
/-! the same orders of other numbers -/
section
variable {m : Nat} {pc : Nat → Nat} {A B : Nat → Int32}
def Rel (m : Nat) (pc : Nat → Nat) (A B : Nat → Int32) : Prop := ∃ σ : Nat → Nat, ∀ k, k < m → σ k < m ∧ A k = nI (σ k) ∧ B k = nI (pc (σ k))
theorem Rel.le (hm : m ≤ 6) (hp : ∀ k, k < m → pc k < 6) (hpl : ∀ j k, j < m → k < m → (pc j < pc k ↔ j < k)) (h : Rel m pc A B) {i j : Nat} (hi : i < m) (hj : j < m) : A i ≤ A j ↔ B i ≤ B j := by
  obtain ⟨σ, hσ⟩ := h
  obtain ⟨a1, a2, a3⟩ := hσ i hi
  obtain ⟨b1, b2, b3⟩ := hσ j hj
  rw [a2, a3, b2, b3]
  have q1 := hp (σ i) a1
  have q2 := hp (σ j) b1
  have q3 := hpl (σ j) (σ i) b1 a1
  by_cases h : σ i ≤ σ j
  · have q4 : pc (σ i) ≤ pc (σ j) := Nat.le_of_not_lt (fun q => by have := q3.mp q; omega)
    exact ⟨fun _ => nI_le q4 (by omega), fun _ => nI_le h (by omega)⟩
  · have h' : pc (σ j) < pc (σ i) := q3.mpr (by omega)
    exact ⟨fun q => absurd q (nI_ge (by omega) (by omega)), fun q => absurd q (nI_ge h' (by omega))⟩
theorem rel7 (hm : m ≤ 6) (hp : ∀ k, k < m → pc k < 6) (hpl : ∀ j k, j < m → k < m → (pc j < pc k ↔ j < k)) (h : Rel m pc A B) : ∀ (n i : Nat), i < m → L_X2_stepOn_7 B n (nI i - 1) = L_X2_stepOn_7 A n (nI i - 1) ∧ ∀ w, L_X2_stepOn_7 A n (nI i - 1) = some w → w < 0 ∨ ∃ t, t < m ∧ w = nI t := by
  intro n
  induction n with
  | zero => intro i hi; exact ⟨rfl, fun w q => by cases q⟩
  | succ n ih =>
    intro i hi
    cases i with
    | zero =>
      rw [L_X2_stepOn_7, L_X2_stepOn_7, if_pos (by decide), if_pos (by decide)]
      exact ⟨rfl, fun w q => Or.inl (by cases q; decide)⟩
    | succ i =>
      have e1 : nI (i + 1) - 1 = nI i := by rw [← nI_add]; exact Int32.add_sub_cancel _ _
      have e2 : nI i + (-1) = nI i - 1 := (nI_m1 i (by omega)).2.2.2
      rw [e1, L_X2_stepOn_7, L_X2_stepOn_7, if_neg (nI_pos (by omega)), if_neg (nI_pos (by omega)), gdI (by omega) (by omega), gdI (by omega) (by omega), nI_1, gdI (by omega) (by omega), gdI (by omega) (by omega), nI_clamp (by omega), nI_clamp (by omega), e2]
      have hle := h.le hm hp hpl (show i < m by omega) hi
      by_cases q : A i ≤ A (i + 1)
      · rw [if_pos q, if_pos (hle.mp q)]
        exact ⟨rfl, fun w q => Or.inr ⟨i, by omega, by cases q; rfl⟩⟩
      · rw [if_neg q, if_neg (fun z => q (hle.mpr z))]
        exact ih i (by omega)
theorem rel47 (hm : m ≤ 6) (hp : ∀ k, k < m → pc k < 6) (hpl : ∀ j k, j < m → k < m → (pc j < pc k ↔ j < k)) (h : Rel m pc A B) {t : Nat} (ht : t < m) : ∀ (n j : Nat), j < m → L_X2_stepOn_47 B (nI t) n (nI j) = L_X2_stepOn_47 A (nI t) n (nI j) ∧ ∀ w, L_X2_stepOn_47 A (nI t) n (nI j) = some w → ∃ g, g < m ∧ w = nI g := by
  intro n
  induction n with
  | zero => intro i hi; exact ⟨rfl, fun w q => by cases q⟩
  | succ n ih =>
    intro j hj
    rw [L_X2_stepOn_47, L_X2_stepOn_47]
    by_cases h0 : j ≤ t
    · rw [if_pos (nI_le h0 (by omega)), if_pos (nI_le h0 (by omega))]
      exact ⟨rfl, fun w q => ⟨j, hj, by cases q; rfl⟩⟩
    · rw [if_neg (nI_ge (by omega) (by omega)), if_neg (nI_ge (by omega) (by omega)), gdI (show j < 6 by omega) (by omega), gdI (show j < 6 by omega) (by omega), gdI (show t < 6 by omega) (by omega), gdI (show t < 6 by omega) (by omega), nI_clamp (show j < 2 ^ 31 by omega), nI_clamp (show t < 2 ^ 31 by omega)]
      have hle := h.le hm hp hpl ht hj
      by_cases q : A t ≤ A j
      · rw [if_pos q, if_pos (hle.mp q)]
        exact ⟨rfl, fun w q => ⟨j, hj, by cases q; rfl⟩⟩
      · rw [if_neg q, if_neg (fun z => q (hle.mpr z))]
        obtain ⟨j, rfl⟩ : ∃ j', j = j' + 1 := ⟨j - 1, by omega⟩
        rw [pk_m1]
        exact ih j (by omega)
theorem relx (hm : m ≤ 6) (h : Rel m pc A B) {a b : Nat} (ha : a < m) (hb : b < m) : ∃ A' B', f_X2_exchange A (nI a) (nI b) = some A' ∧ f_X2_exchange B (nI a) (nI b) = some B' ∧ Rel m pc A' B' := by
  obtain ⟨σ, hσ⟩ := h
  have ex (F : Nat → Int32) : f_X2_exchange F (nI a) (nI b) = some (upd (upd F a (F b)) b (F a)) := by
    unfold f_X2_exchange
    rw [gdI (show a < 6 by omega) (by omega), gdI (show b < 6 by omega) (by omega), gdI (show a < 6 by omega) (by omega), gdI (show b < 6 by omega) (by omega), nI_clamp (show a < 2 ^ 31 by omega), nI_clamp (show b < 2 ^ 31 by omega)]
  refine ⟨_, _, ex A, ex B, updN (updN σ a (σ b)) b (σ a), fun k hk => ?_⟩
  by_cases e1 : k = b
  · subst e1
    rw [updN_at, upd_at, upd_at]
    exact hσ a ha
  · rw [updN_ne _ e1, upd_ne _ _ e1, upd_ne _ _ e1]
    by_cases e2 : k = a
    · subst e2
      rw [updN_at, upd_at, upd_at]
      exact hσ b hb
    · rw [updN_ne _ e2, upd_ne _ _ e2, upd_ne _ _ e2]
      exact hσ k hk
theorem rel91 (hm : m ≤ 6) : ∀ (n : Nat) (A B : Nat → Int32) (a b : Nat), Rel m pc A B → a ≤ m → b < m → (L_X2_stepOn_91 n (nI a) (nI b) A = none ∧ L_X2_stepOn_91 n (nI a) (nI b) B = none) ∨ ∃ A' B', L_X2_stepOn_91 n (nI a) (nI b) A = some A' ∧ L_X2_stepOn_91 n (nI a) (nI b) B = some B' ∧ Rel m pc A' B' := by
  intro n
  induction n with
  | zero => intro A B a b _ _ _; exact Or.inl ⟨rfl, rfl⟩
  | succ n ih =>
    intro A B a b h ha hb
    rw [L_X2_stepOn_91, L_X2_stepOn_91]
    by_cases h0 : b ≤ a
    · rw [if_pos (nI_le h0 (by omega)), if_pos (nI_le h0 (by omega))]
      exact Or.inr ⟨A, B, rfl, rfl, h⟩
    · obtain ⟨A', B', x1, x2, x3⟩ := relx hm h (show a < m by omega) hb
      rw [if_neg (nI_ge (by omega) (by omega)), if_neg (nI_ge (by omega) (by omega)), x1, x2, Option.bind_some, Option.bind_some]
      obtain ⟨b, rfl⟩ : ∃ b', b = b' + 1 := ⟨b - 1, by omega⟩
      rw [pk_m1, nI_1]
      exact ih A' B' (a + 1) b x3 (by omega) (by omega)
theorem rel_step (h1 : 1 ≤ m) (hm : m ≤ 6) (hp : ∀ k, k < m → pc k < 6) (hpl : ∀ j k, j < m → k < m → (pc j < pc k ↔ j < k)) (h : Rel m pc A B) {b : Bool} {A' : Nat → Int32} (e : f_X2_stepOn (nI m) A = some (b, A')) : ∃ B', f_X2_stepOn (nI m) B = some (b, B') ∧ Rel m pc A' B' := by
  have e2 : nI m - 2 = nI (m - 1) - 1 := by
    have : ∀ m, m < 7 → 1 ≤ m → nI m - 2 = nI (m - 1) - 1 := by decide +kernel
    exact this m (by omega) h1
  have e1 : nI m - 1 = nI (m - 1) := by
    have : ∀ m, m < 7 → 1 ≤ m → nI m - 1 = nI (m - 1) := by decide +kernel
    exact this m (by omega) h1
  unfold f_X2_stepOn at e ⊢
  rw [e2, e1] at e ⊢
  obtain ⟨q1, q2⟩ := rel7 hm hp hpl h fu (m - 1) (by omega)
  rw [q1]
  cases hw : L_X2_stepOn_7 A fu (nI (m - 1) - 1) with
  | none => rw [hw] at e; cases e
  | some w =>
    rw [hw, Option.bind_some] at e
    rw [Option.bind_some]
    rcases q2 w hw with hneg | ⟨t, ht, rfl⟩
    · have hn : ¬ (0 : Int32) ≤ w := Int32.not_le.mpr hneg
      rw [if_neg hn] at e
      rw [if_neg hn]
      cases e
      exact ⟨B, rfl, h⟩
    · have hpos : (0 : Int32) ≤ nI t := Int32.not_lt.mp (nI_pos (by omega))
      rw [if_pos hpos] at e
      rw [if_pos hpos]
      obtain ⟨r1, r2⟩ := rel47 hm hp hpl h ht fu (m - 1) (by omega)
      rw [r1]
      cases hg : L_X2_stepOn_47 A (nI t) fu (nI (m - 1)) with
      | none => rw [hg] at e; cases e
      | some g' =>
        obtain ⟨g, hg2, rfl⟩ := r2 g' hg
        rw [hg, Option.bind_some] at e
        rw [Option.bind_some]
        obtain ⟨A1, B1, x1, x2, x3⟩ := relx hm h ht hg2
        rw [x1, Option.bind_some] at e
        rw [x2, Option.bind_some]
        rcases rel91 hm fu A1 B1 (t + 1) (m - 1) x3 (by omega) (by omega) with ⟨z1, z2⟩ | ⟨A2, B2, z1, z2, z3⟩
        · rw [nI_1, z1] at e; cases e
        · rw [nI_1, z1, Option.bind_some] at e
          rw [nI_1, z2, Option.bind_some]
          cases e
          exact ⟨B2, rfl, z3⟩
end
/-- the class's step from an order to the next -/
theorem step_to {m : Nat} {pc : Nat → Nat} (h1 : 1 ≤ m) (h5 : m ≤ 5) (hp : ∀ k, k < m → pc k < 6) (hpl : ∀ j k, j < m → k < m → (pc j < pc k ↔ j < k)) {w : Nat} (hw : w < m ^ m) (hv : vld m w = true) {oc : Nat → Int32} (ho : ∀ k, k < m → oc k = nI (pc (dig m w k))) :
    (nv m (m ^ m - w - 1) (w + 1) = none ∧ ∃ oc', f_X2_stepOn (nI m) oc = some (false, oc')) ∨ ∃ v oc', nv m (m ^ m - w - 1) (w + 1) = some v ∧ f_X2_stepOn (nI m) oc = some (true, oc') ∧ ∀ k, k < m → oc' k = nI (pc (dig m v k)) := by
  have hs := (perm_ok m h1 h5).1 w hw hv
  have hR : Rel m pc (fun j => nI (dig m w j)) oc := ⟨dig m w, fun k hk => ⟨Nat.mod_lt _ (by omega), rfl, ho k hk⟩⟩
  unfold stp at hs
  cases hst : f_X2_stepOn (nI m) (fun j => nI (dig m w j)) with
  | none => rw [hst] at hs; cases hs
  | some r =>
    obtain ⟨b, c⟩ := r
    rw [hst] at hs
    obtain ⟨oc', g1, σ, hσ⟩ := rel_step h1 (by omega) hp hpl hR hst
    cases b with
    | false =>
      left
      cases hn : nv m (m ^ m - w - 1) (w + 1) with
      | none => exact ⟨rfl, oc', g1⟩
      | some v => rw [hn] at hs; cases hs
    | true =>
      right
      cases hn : nv m (m ^ m - w - 1) (w + 1) with
      | none => rw [hn] at hs; cases hs
      | some v =>
        rw [hn] at hs
        refine ⟨v, oc', rfl, g1, fun k hk => ?_⟩
        have hd := sameD_at hs k hk
        obtain ⟨a1, a2, a3⟩ := hσ k hk
        have hdl : dig m v k < m := Nat.mod_lt _ (by omega)
        have : σ k = dig m v k := by
          have q : nI (σ k) = nI (dig m v k) := by rw [← a2]; exact hd
          exact (nI_eq (by omega) (by omega)).mp q
        rw [a3, this]
