/-! a table begun by a text -/
section
variable {n : Nat} {b : Nat → Nat} {signs text : Nat → Int32}
theorem m_wasRight0 {w : Nat} (hw : w < 81) (l a : Int32) : f_X10_wasRight l a (nI w) = some (false, nI w) := by
  unfold f_X10_wasRight
  rw [m_fault0 hw]
  simp only [Option.bind_some, ite_self]
  rw [m_fine0 hw, Option.bind_some]
theorem m_wasRight1 {n : Nat} (hn : n ≤ 80) : f_X10_wasRight (nI n) (nI n) (-1) = some (true, -1) := by
  unfold f_X10_wasRight
  rw [if_pos (nI_le (Nat.le_refl _) (by omega)), Option.bind_some, m_fine1, Option.bind_some]
theorem k14_0 : ∀ k, k < 14 → (0 : Int32) ≤ nI k := by decide +kernel
theorem k14_1 : ∀ k, k < 14 → ¬ nI k = -1 := by decide +kernel
theorem kinds_read (hn : n ≤ 80) (hb : ∀ p, p < n → b p < 256 ∧ signs p = nI (b p) ∧ text p = bt (b p)) (o : Int32 × Int32 × Int32 × Int32) (ho : o.2.1 = nI n) : ∀ (k p m : Nat) (read : Nat → Int32), p + k = n → 2 ≤ p → p ≤ 8 → k + 1 < m → (∀ c, c < p - 2 → read c = nI (lk (b (c + 2))) ∧ lk (b (c + 2)) < 14) →
    (∃ q read', q < n ∧ L_X9_wrongInTable_41 (nI n) signs m (nI p) = some (.inr (nI q)) ∧ L_X10_table_39 text o m (nI (p - 2)) (nI p) (-1) read = some (nI (q - 2), nI q, nI q, read')) ∨
    (∃ read', n ≤ 8 ∧ (∀ c, c < n - 2 → read' c = nI (lk (b (c + 2))) ∧ lk (b (c + 2)) < 14) ∧ L_X9_wrongInTable_41 (nI n) signs m (nI p) = some (.inl ()) ∧ L_X10_table_39 text o m (nI (p - 2)) (nI p) (-1) read = some (nI (n - 2), nI n, -1, read')) := by
  intro k
  induction k with
  | zero =>
    intro p m read hpn h2 h8 hm hr
    obtain ⟨m, rfl⟩ : ∃ m', m = m' + 1 := ⟨m - 1, by omega⟩
    obtain rfl : p = n := by omega
    right
    refine ⟨read, h8, hr, ?_, ?_⟩
    · rw [L_X9_wrongInTable_41, if_pos (nI_le (Nat.le_refl _) (by omega))]
    · rw [L_X10_table_39, m_fine1, Option.bind_some, ifbt, ho, if_pos (nI_le (Nat.le_refl _) (by omega))]
  | succ k ih =>
    intro p m read hpn h2 h8 hm hr
    obtain ⟨m, rfl⟩ : ∃ m', m = m' + 1 + 1 := ⟨m - 2, by omega⟩
    have hp : p < n := by omega
    have bad (hc : L_X9_wrongInTable_41 (nI n) signs (m + 1 + 1) (nI p) = some (.inr (nI p))) (hmo : L_X10_table_39 text o (m + 1 + 1) (nI (p - 2)) (nI p) (-1) read = L_X10_table_39 text o (m + 1) (nI (p - 2)) (nI p) (nI p) read) : (∃ q read', q < n ∧ L_X9_wrongInTable_41 (nI n) signs (m + 1 + 1) (nI p) = some (.inr (nI q)) ∧ L_X10_table_39 text o (m + 1 + 1) (nI (p - 2)) (nI p) (-1) read = some (nI (q - 2), nI q, nI q, read')) := by
      refine ⟨p, read, hp, hc, ?_⟩
      rw [hmo, L_X10_table_39, m_fine0 (by omega), Option.bind_some, ifbf]
    have hl := m_letterHere hn hb hp
    have hs := @c_signAt n b signs text hn hb p (by omega)
    rw [if_pos hp] at hs
    have hlt := (hb p hp).1
    by_cases hp8 : p = 8
    · left
      apply bad
      · rw [L_X9_wrongInTable_41, if_neg (nI_ge hp (by omega)), li8, if_pos (nI_le (by omega) (by omega))]
      · rw [L_X10_table_39, m_fine1, Option.bind_some, ifbt, ho, if_neg (nI_ge hp (by omega)), hl, Option.bind_some, m_fault1, Option.bind_some]
        by_cases h : lk (b p) < 14
        · rw [if_pos h, if_neg (k14_1 _ h), if_pos (by rw [hp8]; rfl)]
        · rw [if_neg h, if_pos rfl]
    · have h8' : ¬ (8 : Int32) ≤ nI p := by rw [li8]; exact nI_ge (by omega) (by omega)
      by_cases h : lk (b p) < 14
      · have e1 : ¬ nI (lk (b p)) = -1 := k14_1 _ h
        have e2 : ¬ nI (p - 2) = 6 := by
          have : ∀ k, k < 6 → ¬ nI k = 6 := by decide +kernel
          exact this _ (by omega)
        have hc1 : L_X9_wrongInTable_41 (nI n) signs (m + 1 + 1) (nI p) = L_X9_wrongInTable_41 (nI n) signs (m + 1) (nI (p + 1)) := by
          rw [L_X9_wrongInTable_41, if_neg (nI_ge hp (by omega)), if_neg h8', hs, Option.bind_some, c_ofLetter _ hlt, Option.bind_some, if_pos h, if_pos (k14_0 _ h), nI_1]
        have hm1 : L_X10_table_39 text o (m + 1 + 1) (nI (p - 2)) (nI p) (-1) read = L_X10_table_39 text o (m + 1) (nI (p + 1 - 2)) (nI (p + 1)) (-1) (upd read (p - 2) (nI (lk (b p)))) := by
          rw [L_X10_table_39, m_fine1, Option.bind_some, ifbt, ho, if_neg (nI_ge hp (by omega)), hl, Option.bind_some, if_pos h, if_neg e1, if_neg e2, gdI (by omega) (by omega), nI_clamp (by omega), nI_1, nI_1, show p - 2 + 1 = p + 1 - 2 by omega]
        rw [hc1, hm1]
        refine ih (p + 1) (m + 1) _ (by omega) (by omega) (by omega) (by omega) (fun c hc => ?_)
        by_cases ec : c = p - 2
        · subst ec
          rw [upd_at, show p - 2 + 2 = p by omega]
          exact ⟨rfl, h⟩
        · rw [upd_ne _ _ ec]
          exact hr c (by omega)
      · left
        apply bad
        · rw [L_X9_wrongInTable_41, if_neg (nI_ge hp (by omega)), if_neg h8', hs, Option.bind_some, c_ofLetter _ hlt, Option.bind_some, if_neg h, if_neg (by decide)]
        · rw [L_X10_table_39, m_fine1, Option.bind_some, ifbt, ho, if_neg (nI_ge hp (by omega)), hl, Option.bind_some, m_fault1, Option.bind_some, if_neg h, if_pos rfl]
end
/-- what a new cell holds -/
def nw (k : Nat) : Int64 := if 8 ≤ k ∧ k ≤ 10 then nothing else 0
theorem nw_ok {k : Nat} (hk : k < 14) : okc k (nw k) := by
  unfold nw
  by_cases h : 8 ≤ k ∧ k ≤ 10
  · rw [if_pos h]; exact okc_nothing h.1
  · rw [if_neg h]
    have z : (0 : Int64).toInt = 0 := by decide
    refine ⟨fun _ => Or.inl rfl, fun _ => ?_, fun _ => ?_, fun _ => ?_, fun _ => ?_, fun _ => ?_, fun _ => ⟨by decide, Or.inl rfl⟩, fun _ => Or.inl rfl, fun e => by omega, fun e => by omega, fun e => by omega⟩ <;> rw [z] <;> omega
theorem VT.new {R C : Nat} {kd : Nat → Nat} (hR : R ≤ 16) (hC : C ≤ 6) (hk : ∀ c, c < C → kd c < 14) : VT R C kd (fun c _ => nw (kd c)) id :=
  ⟨hR, hC, fun c hc => by have := hk c hc; omega, fun c r hc _ => nw_ok (hk c hc), fun r hr => hr, fun r r' _ _ e => e⟩
section
variable {R C : Nat} {kd : Nat → Nat}
theorem m_layTable (hR : R ≤ 16) (hC : C ≤ 6) (hk : ∀ c, c < C → kd c < 14) {read : Nat → Int32} (hr : ∀ c, c < C → read c = nI (kd c)) (now : Nat → Int64) : ∃ now', f_X10_layTable now read (nI R) (nI C) = some now' ∧ MT R C kd (fun c _ => nw (kd c)) id now' := by
  obtain ⟨w1, -, h1⟩ := up_ex (fun n i s => L_X10_layTable_2 n i s) (C := 120) (fun _ _ => True) (fun _ => True)
    (fun n i s hi _ => ⟨_, trivial, by
      show L_X10_layTable_2 (n + 1) (nI i) s = _
      rw [L_X10_layTable_2, li120, if_neg (nI_ge hi (by omega)), gdI hi (by omega), nI_1]⟩)
    (fun n s _ => ⟨s, trivial, by
      show L_X10_layTable_2 (n + 1) (nI 120) s = _
      rw [L_X10_layTable_2, if_pos (by decide)]⟩)
    120 fu 0 now (by omega) (fu_lt (by omega)) trivial
  have h1' : L_X10_layTable_2 fu 0 now = some w1 := h1
  obtain ⟨w2, ⟨g0, g1, g2⟩, h2⟩ := up_ex (fun n i s => L_X10_layTable_39 read (nI R) (nI C) n i s) (C := C)
    (fun i w => w 0 = lN R ∧ w 1 = lN C ∧ ∀ c, c < i → w (2 + c) = lN (kd c) ∧ ∀ r, r < R → w (24 + 16 * c + r) = nw (kd c))
    (fun w => w 0 = lN R ∧ w 1 = lN C ∧ ∀ c, c < C → w (2 + c) = lN (kd c) ∧ ∀ r, r < R → w (24 + 16 * c + r) = nw (kd c))
    (fun n i s hi hI => by
      obtain ⟨a0, a1, a2⟩ := hI
      obtain ⟨w, hw, e⟩ := up_ex (fun n j s => L_X10_layTable_62 read (nI R) (nI i) n j s) (C := R)
        (fun j w => w 0 = lN R ∧ w 1 = lN C ∧ w (2 + i) = lN (kd i) ∧ (∀ c, c < i → w (2 + c) = lN (kd c) ∧ ∀ r, r < R → w (24 + 16 * c + r) = nw (kd c)) ∧ ∀ r, r < j → w (24 + 16 * i + r) = nw (kd i))
        (fun w => w 0 = lN R ∧ w 1 = lN C ∧ w (2 + i) = lN (kd i) ∧ (∀ c, c < i → w (2 + c) = lN (kd c) ∧ ∀ r, r < R → w (24 + 16 * c + r) = nw (kd c)) ∧ ∀ r, r < R → w (24 + 16 * i + r) = nw (kd i))
        (fun n j s hj hI => by
          obtain ⟨b0, b1, b2, b3, b4⟩ := hI
          refine ⟨vp_updL s (24 + 16 * i + j) (nw (kd i)), ⟨?_, ?_, ?_, fun c hc => ⟨?_, fun r hr' => ?_⟩, fun r hr' => ?_⟩, ?_⟩
          · rw [updL_ne _ _ (by omega)]; exact b0
          · rw [updL_ne _ _ (by omega)]; exact b1
          · rw [updL_ne _ _ (by omega)]; exact b2
          · rw [updL_ne _ _ (by omega)]; exact (b3 c hc).1
          · rw [updL_ne _ _ (by omega)]; exact (b3 c hc).2 r hr'
          · by_cases er : r = j
            · subst er; exact updL_at _ _ _
            · rw [updL_ne _ _ (by omega)]; exact b4 r (by omega)
          · show L_X10_layTable_62 read (nI R) (nI i) (n + 1) (nI j) s = L_X10_layTable_62 read (nI R) (nI i) n (nI (j + 1)) _
            have hca : f_X10_cellAt (nI i) (nI j) = some (nI (24 + 16 * i + j)) := by
              unfold f_X10_cellAt
              rw [li24, li16, pk_mul, nI_add, nI_add]
            rw [L_X10_layTable_62, if_neg (nI_ge hj (by omega)), hca, Option.bind_some, gdI (by omega) (by omega), nI_clamp (by omega), hr i hi, in810_dec _ (hk i hi), Option.bind_some, ifbd, gdI (by omega) (by omega), gdI (by omega) (by omega), nI_clamp (by omega), nI_1]
            unfold nw
            by_cases e : 8 ≤ kd i ∧ kd i ≤ 10
            · rw [if_pos e, if_pos e]; rfl
            · rw [if_neg e, if_neg e])
        (fun n s hI => ⟨s, hI, by
          show L_X10_layTable_62 read (nI R) (nI i) (n + 1) (nI R) s = _
          rw [L_X10_layTable_62, if_pos (nI_le (Nat.le_refl _) (by omega))]⟩)
        R fu 0 (vp_updL s (2 + i) (lN (kd i))) (by omega) (fu_lt (by omega))
        ⟨by rw [updL_ne _ _ (by omega)]; exact a0, by rw [updL_ne _ _ (by omega)]; exact a1, updL_at _ _ _, fun c hc => ⟨by rw [updL_ne _ _ (by omega)]; exact (a2 c hc).1, fun r hr' => by rw [updL_ne _ _ (by omega)]; exact (a2 c hc).2 r hr'⟩, fun r hr' => by omega⟩
      have e' : L_X10_layTable_62 read (nI R) (nI i) fu 0 (vp_updL s (2 + i) (lN (kd i))) = some w := e
      obtain ⟨b0, b1, b2, b3, b4⟩ := hw
      have := hk i hi
      refine ⟨w, ⟨b0, b1, fun c hc => ?_⟩, ?_⟩
      · by_cases ec : c = i
        · subst ec; exact ⟨b2, b4⟩
        · exact b3 c (by omega)
      · show L_X10_layTable_39 read (nI R) (nI C) (n + 1) (nI i) s = L_X10_layTable_39 read (nI R) (nI C) n (nI (i + 1)) w
        rw [L_X10_layTable_39, if_neg (nI_ge hi (by omega)), gdI (by omega) (by omega), li2, nI_add, gdI (by omega) (by omega), nI_clamp (by omega), nI_clamp (by omega), hr i hi, nI_l (by omega), e', Option.bind_some, nI_1])
    (fun n s hI => ⟨s, hI, by
      show L_X10_layTable_39 read (nI R) (nI C) (n + 1) (nI C) s = _
      rw [L_X10_layTable_39, if_pos (nI_le (Nat.le_refl _) (by omega))]⟩)
    C fu 0 (vp_updL (vp_updL w1 0 (lN R)) 1 (lN C)) (by omega) (fu_lt (by omega))
    ⟨by rw [updL_ne _ _ (by omega)]; exact updL_at _ _ _, updL_at _ _ _, fun c hc => by omega⟩
  have h2' : L_X10_layTable_39 read (nI R) (nI C) fu 0 (vp_updL (vp_updL w1 0 (lN R)) 1 (lN C)) = some w2 := h2
  obtain ⟨w3, ⟨k0, k1, k2, k3⟩, h3⟩ := up_ex (fun n i s => L_X10_layTable_116 (nI R) n i s) (C := R)
    (fun i w => w 0 = lN R ∧ w 1 = lN C ∧ (∀ c, c < C → w (2 + c) = lN (kd c) ∧ ∀ r, r < R → w (24 + 16 * c + r) = nw (kd c)) ∧ ∀ r, r < i → w (8 + r) = lN r)
    (fun w => w 0 = lN R ∧ w 1 = lN C ∧ (∀ c, c < C → w (2 + c) = lN (kd c) ∧ ∀ r, r < R → w (24 + 16 * c + r) = nw (kd c)) ∧ ∀ r, r < R → w (8 + r) = lN r)
    (fun n i s hi hI => by
      obtain ⟨a0, a1, a2, a3⟩ := hI
      refine ⟨vp_updL s (8 + i) (lN i), ⟨?_, ?_, fun c hc => ⟨?_, fun r hr' => ?_⟩, fun r hr' => ?_⟩, ?_⟩
      · rw [updL_ne _ _ (by omega)]; exact a0
      · rw [updL_ne _ _ (by omega)]; exact a1
      · rw [updL_ne _ _ (by omega)]; exact (a2 c hc).1
      · rw [updL_ne _ _ (by omega)]; exact (a2 c hc).2 r hr'
      · by_cases er : r = i
        · subst er; exact updL_at _ _ _
        · rw [updL_ne _ _ (by omega)]; exact a3 r (by omega)
      · show L_X10_layTable_116 (nI R) (n + 1) (nI i) s = L_X10_layTable_116 (nI R) n (nI (i + 1)) _
        rw [L_X10_layTable_116, if_neg (nI_ge hi (by omega)), li8, nI_add, gdI (by omega) (by omega), nI_clamp (by omega), nI_l (by omega), nI_1])
    (fun n s hI => ⟨s, hI, by
      show L_X10_layTable_116 (nI R) (n + 1) (nI R) s = _
      rw [L_X10_layTable_116, if_pos (nI_le (Nat.le_refl _) (by omega))]⟩)
    R fu 0 w2 (by omega) (fu_lt (by omega)) ⟨g0, g1, g2, fun r hr' => by omega⟩
  have h3' : L_X10_layTable_116 (nI R) fu 0 w2 = some w3 := h3
  refine ⟨w3, ?_, k0, k1, fun c hc => (k2 c hc).1, k3, fun c r hc hr' => (k2 c hc).2 r hr'⟩
  unfold f_X10_layTable
  rw [h1', Option.bind_some, tn0, tn1, nI_l (by omega), nI_l (by omega), h2', Option.bind_some, h3', Option.bind_some]
theorem c_begin68 {c : Nat} (hc : c < 6) (v : Int64) (cells : Nat → Int64) : ∃ w, ((∀ r, r < 16 → w (c * 16 + r) = v) ∧ ∀ j, j < c * 16 → w j = cells j) ∧ L_X8_begin_68 (nI c) v fu 0 cells = some w :=
  up_ex (fun n i s => L_X8_begin_68 (nI c) v n i s) (C := 16) (fun i w => (∀ r, r < i → w (c * 16 + r) = v) ∧ ∀ j, j < c * 16 → w j = cells j) (fun w => (∀ r, r < 16 → w (c * 16 + r) = v) ∧ ∀ j, j < c * 16 → w j = cells j)
    (fun n i s hi hI => ⟨vp_updL s (c * 16 + i) v, ⟨fun r hr => by
        by_cases e : r = i
        · subst e; exact updL_at _ _ _
        · rw [updL_ne _ _ (by omega)]; exact hI.1 r (by omega), fun j hj => by rw [updL_ne _ _ (by omega)]; exact hI.2 j hj⟩, by
      show L_X8_begin_68 (nI c) v (n + 1) (nI i) s = _
      rw [L_X8_begin_68, li16, if_neg (nI_ge hi (by omega)), pk_mul, nI_add, gdI (by omega) (by omega), nI_clamp (by omega), nI_1]⟩)
    (fun n s hI => ⟨s, hI, by
      show L_X8_begin_68 (nI c) v (n + 1) (nI 16) s = _
      rw [L_X8_begin_68, if_pos (by decide)]⟩)
    16 fu 0 cells (by omega) (fu_lt (by omega)) ⟨fun r hr => by omega, fun j hj => rfl⟩
theorem c_begin102 (tags : Nat → Int32) : ∃ w, (∀ r, r < 16 → w r = nI r) ∧ L_X8_begin_102 fu 0 tags = some w :=
  up_ex (fun n i s => L_X8_begin_102 n i s) (C := 16) (fun i w => ∀ r, r < i → w r = nI r) (fun w => ∀ r, r < 16 → w r = nI r)
    (fun n i s hi hI => ⟨upd s i (nI i), fun r hr => by
        by_cases e : r = i
        · subst e; exact upd_at _ _ _
        · rw [upd_ne _ _ (by omega)]; exact hI r (by omega), by
      show L_X8_begin_102 (n + 1) (nI i) s = _
      rw [L_X8_begin_102, li16, if_neg (nI_ge hi (by omega)), gdI (by omega) (by omega), nI_clamp (by omega), nI_1]⟩)
    (fun n s hI => ⟨s, hI, by
      show L_X8_begin_102 (n + 1) (nI 16) s = _
      rw [L_X8_begin_102, if_pos (by decide)]⟩)
    16 fu 0 tags (by omega) (fu_lt (by omega)) (fun r hr => by omega)
theorem c_begin {n : Nat} {b : Nat → Nat} {signs text : Nat → Int32} (hn : n ≤ 8) (hn2 : 2 ≤ n) (hb : ∀ p, p < n → b p < 256 ∧ signs p = nI (b p) ∧ text p = bt (b p)) (h0 : dg n b 0 = true) (h1 : dg n b 1 = true) (hR : 10 * (b 0 - 48) + (b 1 - 48) = R) (hR16 : R ≤ 16) (hk : ∀ c, c < n - 2 → lk (b (c + 2)) < 14) (kinds tags : Nat → Int32) (cells : Nat → Int64) :
    ∃ kinds' tags' cells', f_X8_begin kinds tags cells (nI n) signs = some (nI (n - 2), nI R, kinds', tags', cells') ∧ CT R (n - 2) (fun c => lk (b (c + 2))) (fun c _ => nw (lk (b (c + 2)))) id (nI (n - 2)) (nI R) kinds' tags' cells' := by
  have e2 : nI n - 2 = nI (n - 2) := by
    have : ∀ n, n < 9 → 2 ≤ n → nI n - 2 = nI (n - 2) := by decide +kernel
    exact this n (by omega) hn2
  obtain ⟨w, hw, hwe⟩ := up_ex (fun m i (s : (Nat → Int32) × (Nat → Int64)) => L_X8_begin_21 (nI n) signs m i s.1 s.2) (C := n - 2)
    (fun i w => ∀ c, c < i → w.1 c = nI (lk (b (c + 2))) ∧ ∀ r, r < 16 → w.2 (c * 16 + r) = nw (lk (b (c + 2))))
    (fun w => ∀ c, c < n - 2 → w.1 c = nI (lk (b (c + 2))) ∧ ∀ r, r < 16 → w.2 (c * 16 + r) = nw (lk (b (c + 2))))
    (fun m i s hi hI => by
      obtain ⟨cs, ⟨g1, g2⟩, g3⟩ := c_begin68 (show i < 6 by omega) (nw (lk (b (i + 2)))) s.2
      refine ⟨(upd s.1 i (nI (lk (b (i + 2)))), cs), fun c hc => ?_, ?_⟩
      · by_cases ec : c = i
        · subst ec
          exact ⟨upd_at _ _ _, g1⟩
        · refine ⟨?_, fun r hr => ?_⟩
          · show upd s.1 i _ c = _
            rw [upd_ne _ _ ec]; exact (hI c (by omega)).1
          · show cs _ = _
            rw [g2 _ (by omega)]; exact (hI c (by omega)).2 r hr
      · show L_X8_begin_21 (nI n) signs (m + 1) (nI i) s.1 s.2 = L_X8_begin_21 (nI n) signs m (nI (i + 1)) (upd s.1 i (nI (lk (b (i + 2))))) cs
        have hs := @c_signAt n b signs text (by omega) hb (i + 2) (by omega)
        rw [if_pos (by omega)] at hs
        have hlt := (hb (i + 2) (by omega)).1
        rw [L_X8_begin_21, e2, if_neg (nI_ge hi (by omega)), li2, nI_add, hs, Option.bind_some, c_ofLetter _ hlt, Option.bind_some, if_pos (hk i hi), gdI (by omega) (by omega), gdI (by omega) (by omega), nI_clamp (by omega), upd_at, mbn_dec _ (hk i hi), Option.bind_some, ifbd]
        have ev : (if 8 ≤ lk (b (i + 2)) ∧ lk (b (i + 2)) ≤ 10 then some (-9223372036854775808 : Int64) else some 0) = some (nw (lk (b (i + 2)))) := by
          unfold nw
          split <;> rfl
        rw [ev, Option.bind_some, g3, Option.bind_some, nI_1])
    (fun m s hI => ⟨s, hI, by
      show L_X8_begin_21 (nI n) signs (m + 1) (nI (n - 2)) s.1 s.2 = _
      rw [L_X8_begin_21, e2, if_pos (nI_le (Nat.le_refl _) (by omega))]⟩)
    (n - 2) fu 0 (kinds, cells) (by omega) (fu_lt (by omega)) (fun c hc => by omega)
  have hwe' : L_X8_begin_21 (nI n) signs fu 0 kinds cells = some w := hwe
  obtain ⟨t, ht, hte⟩ := c_begin102 tags
  refine ⟨w.1, t, w.2, ?_, rfl, rfl, fun c hc => (hw c hc).1, fun r hr => ht r (by omega), fun c r hc hr => (hw c hc).2 r (by omega)⟩
  unfold f_X8_begin
  have h2 := c_twoDigits (p := 0) (show n ≤ 80 by omega) hb (by omega) h0 h1
  have h2' : f_X7_twoDigitsAt (nI n) signs 0 = some (nI R) := by rw [← hR]; exact h2
  rw [h2', Option.bind_some, hwe', Option.bind_some, hte, Option.bind_some, e2]
end
section
variable {next size undoMany cols rows asz amany tsz typed : Int32} {sk st : Nat → Nat → Int32} {sc : Nat → Nat → Int64} {scol srow kinds tags signs text : Nat → Int32} {undos cells now nu row : Nat → Int64}
theorem TX.nil (signs text : Nat → Int32) : TX 0 signs 0 text := ⟨0, fun _ => 0, by omega, rfl, rfl, fun p hp => by omega⟩
theorem op_table (hT : TT cols rows kinds tags cells now) (hU : UX next size sk st sc scol srow undoMany undos) (hX : TX tsz signs typed text) (read : Nat → Int32) (was : Nat → Int64) :
    ∃ oc om, f_X9_table cols rows kinds tags cells next size sk st sc scol srow tsz signs = some oc ∧ f_X10_table typed undoMany now text read undos was = some om ∧ oc.1 = om.1 ∧
      TT oc.2.1 oc.2.2.1 oc.2.2.2.1 oc.2.2.2.2.1 oc.2.2.2.2.2.1 om.2.2.2.2.2.2.2.1 ∧ UX oc.2.2.2.2.2.2.1 oc.2.2.2.2.2.2.2.1 oc.2.2.2.2.2.2.2.2.1 oc.2.2.2.2.2.2.2.2.2.1 oc.2.2.2.2.2.2.2.2.2.2.1 oc.2.2.2.2.2.2.2.2.2.2.2.1 oc.2.2.2.2.2.2.2.2.2.2.2.2.1 om.2.2.2.2.2.2.1 om.2.2.2.2.2.2.2.2.2.1 ∧ TX oc.2.2.2.2.2.2.2.2.2.2.2.2.2 signs om.2.1 text := by
  obtain ⟨sk', st', sc', scol', srow', next', size', um', un', was', -, c1, c2, c3, c4, c5, c6, c7⟩ := chg hT hU was
  obtain ⟨n, b, hn, rfl, rfl, hb⟩ := id hX
  have w81 : ∀ w, w < 81 → ¬ nI w = -1 := by decide +kernel
  have bad {w : Nat} (hw : w < 81) {a : Int32} {read' : Nat → Int32} {q : Int32} (hc : f_X9_wrongInTable (nI n) signs = some (nI w)) (hm : f_X10_table (nI n) undoMany now text read undos was = some (-1 - nI w, 0, 0, nI n, a, nI w, undoMany, now, read', undos, was)) : ∃ oc om, f_X9_table cols rows kinds tags cells next size sk st sc scol srow (nI n) signs = some oc ∧ f_X10_table (nI n) undoMany now text read undos was = some om ∧ oc.1 = om.1 ∧
      TT oc.2.1 oc.2.2.1 oc.2.2.2.1 oc.2.2.2.2.1 oc.2.2.2.2.2.1 om.2.2.2.2.2.2.2.1 ∧ UX oc.2.2.2.2.2.2.1 oc.2.2.2.2.2.2.2.1 oc.2.2.2.2.2.2.2.2.1 oc.2.2.2.2.2.2.2.2.2.1 oc.2.2.2.2.2.2.2.2.2.2.1 oc.2.2.2.2.2.2.2.2.2.2.2.1 oc.2.2.2.2.2.2.2.2.2.2.2.2.1 om.2.2.2.2.2.2.1 om.2.2.2.2.2.2.2.2.2.1 ∧ TX oc.2.2.2.2.2.2.2.2.2.2.2.2.2 signs om.2.1 text := by
    refine ⟨(-1 - nI w, cols, rows, kinds, tags, cells, next, size, sk, st, sc, scol, srow, 0), _, ?_, hm, rfl, hT, hU, TX.nil _ _⟩
    unfold f_X9_table f_X7_clear
    rw [hc, Option.bind_some, if_neg (w81 w hw), Option.bind_some, Option.bind_some, if_neg (w81 w hw)]
  have d0 := @c_digitAt n b signs text hn hb 0 (by omega)
  have d0' : f_X7_digitAt (nI n) signs 0 = _ := d0
  have d1 := @c_digitAt n b signs text hn hb 1 (by omega)
  have d1' : f_X7_digitAt (nI n) signs 1 = _ := d1
  have t0 := @m_twoDigits n b signs text hn hb 0 (by omega)
  have t0' : f_X10_twoDigits (nI n) 0 (-1) text = _ := t0
  have pos10 : ∀ k, k < 208 → (0 : Int32) ≤ nI k ∧ ¬ nI k < 0 := by decide +kernel
  by_cases h0 : dg n b 0 = true
  · have hd0 : 0 < n ∧ 48 ≤ b 0 ∧ b 0 ≤ 57 := by simpa [dg] using h0
    by_cases h1 : dg n b 1 = true
    · have hd1 : 1 < n ∧ 48 ≤ b 1 ∧ b 1 ≤ 57 := by simpa [dg] using h1
      rw [h0, if_pos rfl, h1, if_pos rfl] at t0'
      rw [h0, if_pos rfl] at d0'
      rw [h1, if_pos rfl] at d1'
      have tw := c_twoDigits (p := 0) hn hb (by omega) h0 h1
      have tw' : f_X7_twoDigitsAt (nI n) signs 0 = _ := tw
      by_cases h16 : 10 * (b 0 - 48) + (b 1 - 48) ≤ 16
      · have hc0 : f_X9_wrongInTable (nI n) signs = (L_X9_wrongInTable_41 (nI n) signs fu (2 : Int32)).bind (sm (fun u_2193 => (some (-1 : Int32)))) := by
          unfold f_X9_wrongInTable
          rw [d0', Option.bind_some, if_pos (pos10 _ (by omega)).1, d1', Option.bind_some, if_neg (pos10 _ (by omega)).2, tw', Option.bind_some, li16, if_pos (nI_le h16 (by omega))]
        have hm0 : f_X10_table (nI n) undoMany now text read undos was = ((L_X10_table_39 text (0, nI n, 0, -1) fu (0 : Int32) (nI 2) (-1) read).bind (fun w_225 => ((f_X10_wasRight (nI n) w_225.2.1 w_225.2.2.1).bind (fun o_226 => (if (b2i o_226.1) = 0 then (some (((-1 : Int32) - o_226.2), 0, (0 : Int32), nI n, w_225.2.1, o_226.2, undoMany, now, w_225.2.2.2, undos, was)) else ((f_X10_change undoMany now undos was).bind (fun o_229 => ((f_X10_layTable now w_225.2.2.2 (nI (10 * (b 0 - 48) + (b 1 - 48))) w_225.1).bind (fun o_231 => (some (w_225.1, 0, (0 : Int32), nI n, w_225.2.1, o_226.2, o_229.1, o_231, w_225.2.2.2, o_229.2.1, o_229.2.2)))))))))))  := by
          unfold f_X10_table f_X10_begin
          rw [Option.bind_some]
          simp only []
          rw [t0', Option.bind_some]
          simp only []
          rw [m_fine1, Option.bind_some, ifbt, li16, if_pos (nI_le h16 (by omega)), Option.bind_some, Option.bind_some]
        rcases kinds_read hn hb (0, nI n, 0, -1) rfl (n - 2) 2 fu read (by omega) (by omega) (by omega) (by unfold fu; omega) (fun c hc => by omega) with ⟨q, read', hq, k1, k2⟩ | ⟨read', hn8, hr, k1, k2⟩
        · have k1' : L_X9_wrongInTable_41 (nI n) signs fu 2 = _ := k1
          have k2' : L_X10_table_39 text (0, nI n, 0, -1) fu 0 (nI 2) (-1) read = _ := k2
          refine bad (w := q) (by omega) (a := nI q) (read' := read') (q := 0) ?_ ?_
          · rw [hc0, k1']; rfl
          · rw [hm0, k2', Option.bind_some]
            simp only []
            rw [m_wasRight0 (by omega), Option.bind_some, ifbf]
        · have k1' : L_X9_wrongInTable_41 (nI n) signs fu 2 = _ := k1
          have k2' : L_X10_table_39 text (0, nI n, 0, -1) fu 0 (nI 2) (-1) read = _ := k2
          obtain ⟨now', l1, l2⟩ := m_layTable (R := 10 * (b 0 - 48) + (b 1 - 48)) (C := n - 2) (kd := fun c => lk (b (c + 2))) h16 (by omega) (fun c hc => (hr c hc).2) (fun c hc => (hr c hc).1) now
          obtain ⟨kinds', tags', cells', g1, g2⟩ := c_begin hn8 (by omega) hb h0 h1 rfl h16 (fun c hc => (hr c hc).2) kinds tags cells
          refine ⟨(nI (n - 2), nI (n - 2), nI (10 * (b 0 - 48) + (b 1 - 48)), kinds', tags', cells', next', size', sk', st', sc', scol', srow', 0), (nI (n - 2), 0, 0, nI n, nI n, -1, um', now', read', un', was'), ?_, ?_, rfl, ⟨_, _, _, _, _, VT.new h16 (by omega) (fun c hc => (hr c hc).2), g2, l2⟩, c6, TX.nil _ _⟩
          · unfold f_X9_table f_X7_clear
            rw [hc0, k1', Option.bind_some]
            show ((some (-1 : Int32)).bind _) = _
            rw [Option.bind_some, if_pos rfl, c1, Option.bind_some, g1, Option.bind_some, c2, Option.bind_some, Option.bind_some, Option.bind_some, if_pos rfl]
          · rw [hm0, k2', Option.bind_some]
            simp only []
            rw [m_wasRight1 hn, Option.bind_some, ifbt, c5, Option.bind_some, l1, Option.bind_some]
      · refine bad (w := 1) (by omega) (a := nI 2) (read' := read) (q := 0) ?_ ?_
        · unfold f_X9_wrongInTable
          rw [d0', Option.bind_some, if_pos (pos10 _ (by omega)).1, d1', Option.bind_some, if_neg (pos10 _ (by omega)).2, tw', Option.bind_some, li16, if_neg (nI_ge (show 16 < 10 * (b 0 - 48) + (b (0 + 1) - 48) from Nat.lt_of_not_le h16) (show 10 * (b 0 - 48) + (b 1 - 48) < 2 ^ 31 by omega))]
          rfl
        · unfold f_X10_table f_X10_begin
          rw [Option.bind_some]
          simp only []
          rw [t0', Option.bind_some]
          simp only []
          rw [m_fine1, Option.bind_some, ifbt, li16, if_neg (nI_ge (show 16 < 10 * (b 0 - 48) + (b (0 + 1) - 48) from Nat.lt_of_not_le h16) (show 10 * (b 0 - 48) + (b 1 - 48) < 2 ^ 31 by omega)), m_fault1, Option.bind_some, Option.bind_some, Option.bind_some, show nI (0 + 2) - 1 = nI 1 by decide]
          show (L_X10_table_39 text _ (4095 + 1) _ _ _ _).bind _ = _
          rw [L_X10_table_39, m_fine0 (by omega), Option.bind_some, ifbf, Option.bind_some]
          simp only []
          rw [m_wasRight0 (by omega), Option.bind_some, ifbf]
    · have h1' : dg n b 1 = false := by simpa using h1
      rw [h0, if_pos rfl, h1', if_neg (by decide)] at t0'
      rw [h0, if_pos rfl] at d0'
      rw [h1', if_neg (by decide)] at d1'
      refine bad (w := 1) (by omega) (a := nI 1) (read' := read) (q := 0) ?_ ?_
      · unfold f_X9_wrongInTable
        rw [d0', Option.bind_some, if_pos (pos10 _ (by omega)).1, d1', Option.bind_some, if_pos (by decide)]
        rfl
      · unfold f_X10_table f_X10_begin
        rw [Option.bind_some]
        simp only []
        rw [t0', Option.bind_some]
        simp only []
        rw [m_fine0 (by omega), Option.bind_some, ifbf, Option.bind_some]
        show (L_X10_table_39 text _ (4095 + 1) _ _ _ _).bind _ = _
        rw [L_X10_table_39, m_fine0 (by omega), Option.bind_some, ifbf, Option.bind_some]
        simp only []
        rw [m_wasRight0 (by omega), Option.bind_some, ifbf]
  · have h0' : dg n b 0 = false := by simpa using h0
    rw [h0', if_neg (by decide)] at t0'
    rw [h0', if_neg (by decide)] at d0'
    refine bad (w := 0) (by omega) (a := nI 0) (read' := read) (q := 0) ?_ ?_
    · unfold f_X9_wrongInTable
      rw [d0', Option.bind_some, if_neg (by decide)]
      rfl
    · unfold f_X10_table f_X10_begin
      rw [Option.bind_some]
      simp only []
      rw [t0', Option.bind_some]
      simp only []
      rw [m_fine0 (by omega), Option.bind_some, ifbf, Option.bind_some]
      show (L_X10_table_39 text _ (4095 + 1) _ _ _ _).bind _ = _
      rw [L_X10_table_39, m_fine0 (by omega), Option.bind_some, ifbf, Option.bind_some]
      simp only []
      rw [m_wasRight0 (by omega), Option.bind_some, ifbf]
end
