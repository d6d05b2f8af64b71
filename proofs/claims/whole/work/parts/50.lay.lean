/-! the reference's ranks and its list of proper columns -/
theorem prop_loop {E S : Type} (L : Nat → Int32 → S → Option E) (p : Nat → Bool) {C : Nat} (inv : Nat → S) {res : E}
    (hs : ∀ n c, c < C → p c = true → L (n + 1) (nI (fb_ct p c)) (inv c) = L n (nI (fb_ct p c + 1)) (inv (c + 1))) (hk : ∀ c, c < C → p c = false → inv (c + 1) = inv c) (he : ∀ n, L (n + 1) (nI (fb_ct p C)) (inv C) = some res) :
    ∀ k n c, c + k = C → k < n → L n (nI (fb_ct p c)) (inv c) = some res := by
  intro k
  induction k with
  | zero =>
    intro n c h1 h2
    obtain ⟨n, rfl⟩ : ∃ n', n = n' + 1 := ⟨n - 1, by omega⟩
    obtain rfl : c = C := by omega
    exact he n
  | succ k ih =>
    intro n c h1 h2
    by_cases h : p c = true
    · obtain ⟨n, rfl⟩ : ∃ n', n = n' + 1 := ⟨n - 1, by omega⟩
      rw [hs n c (by omega) h]
      have := ih n (c + 1) (by omega) (by omega)
      rw [fb_ct_succ, if_pos h] at this
      exact this
    · have h' : p c = false := by simpa using h
      have := ih n (c + 1) (by omega) (by omega)
      rw [fb_ct_succ, if_neg h, hk c (by omega) h'] at this
      exact this
theorem ct_lt {p q : Nat → Bool} : ∀ {n : Nat}, (∀ k, k < n → p k = true → q k = true) → (∃ k, k < n ∧ q k = true ∧ p k = false) → fb_ct p n < fb_ct q n
  | 0, _, h => by obtain ⟨k, hk, _⟩ := h; omega
  | n + 1, h1, h2 => by
    obtain ⟨k, hk, hq, hp⟩ := h2
    rw [fb_ct_succ, fb_ct_succ]
    by_cases h : k = n
    · subst h
      have := fb_ct_sub (p := p) (q := q) (n := k) (fun j hj => h1 j (by omega))
      rw [if_pos hq, if_neg (by simp [hp])]
      omega
    · have := ct_lt (p := p) (q := q) (n := n) (fun j hj => h1 j (by omega)) ⟨k, by omega, hq, hp⟩
      by_cases h3 : p n = true
      · rw [if_pos h3, if_pos (h1 n (by omega) h3)]; omega
      · rw [if_neg h3]; omega
theorem first_of (cl : Nat → Nat → Int64) (c : Nat) : ∀ r, ∃ k, k ≤ r ∧ fst cl c k = true ∧ cl c k = cl c r := by
  intro r
  induction r using Nat.strongRecOn with
  | ind r ih =>
    by_cases h : fst cl c r = true
    · exact ⟨r, Nat.le_refl _, h, rfl⟩
    · have h0 : 0 < fb_ct (fun j => decide (cl c j = cl c r)) r := by
        unfold fst at h
        rw [decide_eq_true_iff] at h
        omega
      obtain ⟨j, hj, e⟩ := fb_ct_pos.mp h0
      have e' : cl c j = cl c r := by simpa using e
      obtain ⟨k, h1, h2, h3⟩ := ih j hj
      exact ⟨k, by omega, h2, h3.trans e'⟩
theorem rk_mono {R : Nat} {kd : Nat → Nat} {cl : Nat → Nat → Int64} {c r s : Nat} (hr : r < R) (h : wt (kd c) (cl c r) < wt (kd c) (cl c s)) : rk R kd cl c r < rk R kd cl c s := by
  unfold rk
  refine ct_lt (fun k _ hk => ?_) ?_
  · rw [Bool.and_eq_true, decide_eq_true_iff] at hk ⊢
    refine ⟨hk.1, ?_⟩
    have := hk.2
    rw [Int64.lt_iff_toInt_lt] at *
    omega
  · obtain ⟨k, h1, h2, h3⟩ := first_of cl c r
    refine ⟨k, by omega, ?_, ?_⟩
    · rw [Bool.and_eq_true, decide_eq_true_iff, h3]; exact ⟨h2, h⟩
    · rw [h3]; simp [Int64.lt_iff_toInt_lt]
theorem rk_lt {R : Nat} {kd : Nat → Nat} {cl : Nat → Nat → Int64} {c r : Nat} (hr : r < R) : rk R kd cl c r < R := by
  have h1 : rk R kd cl c r < fb_ct (fun _ => true) R := by
    unfold rk
    refine ct_lt (fun k _ hk => rfl) ?_
    obtain ⟨k, h1, h2, h3⟩ := first_of cl c r
    exact ⟨k, by omega, rfl, by rw [h3]; simp [Int64.lt_iff_toInt_lt]⟩
  have := fb_ct_le (fun _ => true) R
  omega
section
variable {R C : Nat} {kd : Nat → Nat} {cl : Nat → Nat → Int64} {tg : Nat → Nat} {now : Nat → Int64} {cols rows : Int32} {kinds tags : Nat → Int32} {cells : Nat → Int64}
theorem rk_eq (hV : VT R C kd cl tg) {c r s : Nat} (hc : c < C) (hp : kd c ≤ 10) (hr : r < R) (hs : s < R) : rk R kd cl c r = rk R kd cl c s ↔ cl c r = cl c s := by
  constructor
  · intro e
    refine F3i (kd c) (by omega) _ _ (hV.2.2.2.1 c r hc hr) (hV.2.2.2.1 c s hc hs) ?_
    by_cases h1 : wt (kd c) (cl c r) < wt (kd c) (cl c s)
    · have := rk_mono hr h1; omega
    · by_cases h2 : wt (kd c) (cl c s) < wt (kd c) (cl c r)
      · have := rk_mono hs h2; omega
      · rw [Int64.lt_iff_toInt_lt] at h1 h2
        exact Int64.toInt_inj.mp (by omega)
  · intro e
    unfold rk
    rw [e]
/-- the list of proper columns -/
def PL (C : Nat) (kd : Nat → Nat) (many : Int32) (proper : Nat → Int32) : Prop := many = nI (fb_ct (pr kd) C) ∧ ∀ c, c < C → kd c ≤ 10 → proper (fb_ct (pr kd) c) = nI c
theorem m_layRanks55 (hV : VT R C kd cl tg) (hM : MT R C kd cl tg now) {c : Nat} (hc : c < C) (hp : kd c ≤ 10) (rks dis : Nat → Int32) :
    ∃ o : (Nat → Int32) × (Nat → Int32), (RC R kd cl o.2 o.1 c ∧ (∀ j, j ≠ c → o.2 j = dis j) ∧ ∀ j, (j < c * 16 ∨ c * 16 + R ≤ j) → o.1 j = rks j) ∧ L_X10_layRanks_55 now (nI c) fu 0 rks (upd dis c 0) = some o := by
  have h16 := hV.1
  have h6 := hV.2.1
  have := up_ex (fun n i (s : (Nat → Int32) × (Nat → Int32)) => L_X10_layRanks_55 now (nI c) n i s.1 s.2) (C := R)
    (fun i s => (s.2 c = nI (fb_ct (fst cl c) i) ∧ ∀ r, r < i → s.1 (c * 16 + r) = nI (rk R kd cl c r)) ∧ (∀ j, j ≠ c → s.2 j = dis j) ∧ ∀ j, (j < c * 16 ∨ c * 16 + R ≤ j) → s.1 j = rks j)
    (fun o => RC R kd cl o.2 o.1 c ∧ (∀ j, j ≠ c → o.2 j = dis j) ∧ ∀ j, (j < c * 16 ∨ c * 16 + R ≤ j) → o.1 j = rks j)
    (fun n i s hi hI => by
      have hstep : L_X10_layRanks_55 now (nI c) (n + 1) (nI i) s.1 s.2 = L_X10_layRanks_55 now (nI c) n (nI (i + 1)) (upd s.1 (c * 16 + i) (nI (rk R kd cl c i))) (upd s.2 c (nI (fb_ct (fst cl c) (i + 1)))) := by
        rw [L_X10_layRanks_55, m_rows hM]
        simp only [Option.bind_some]
        rw [if_neg (nI_ge hi (by omega)), m_rankOf hV hM hc hi hp, m_isFirst hV hM hc hi]
        simp only [Option.bind_some]
        rw [li16, pk_mul, nI_add, show 16 * c + i = c * 16 + i by omega, gdI (by omega) (by omega), gdI (by omega) (by omega), gdI (by omega) (by omega), gdI (by omega) (by omega), nI_clamp (show c < 2 ^ 31 by omega), nI_clamp (show c * 16 + i < 2 ^ 31 by omega), hI.1.1, nI_1, fb_ct_succ]
        simp only [ifb]
        by_cases h : fst cl c i = true
        · rw [if_pos h, if_pos h, nI_1]
        · rw [if_neg h, if_neg h, li0, nI_add]
      refine ⟨(upd s.1 (c * 16 + i) (nI (rk R kd cl c i)), upd s.2 c (nI (fb_ct (fst cl c) (i + 1)))), ⟨⟨upd_at _ _ _, fun r hr => ?_⟩, fun j hj => (upd_ne _ _ hj).trans (hI.2.1 j hj), fun j hj => (upd_ne _ _ (by omega)).trans (hI.2.2 j hj)⟩, hstep⟩
      show upd s.1 (c * 16 + i) (nI (rk R kd cl c i)) (c * 16 + r) = _
      by_cases h : r = i
      · rw [h, upd_at]
      · rw [upd_ne _ _ (by omega)]; exact hI.1.2 r (by omega))
    (fun n s hI => ⟨s, hI, by
        show L_X10_layRanks_55 now (nI c) (n + 1) _ _ _ = _
        rw [L_X10_layRanks_55, m_rows hM]
        simp only [Option.bind_some]
        rw [if_pos (nI_le (Nat.le_refl _) (by omega))]⟩) R fu 0 (rks, upd dis c 0) (by omega) (fu_lt (by omega)) ⟨⟨upd_at _ _ _, fun r hr => by omega⟩, fun j hj => upd_ne _ _ hj, fun j hj => rfl⟩
  exact this
theorem m_layRanks (hV : VT R C kd cl tg) (hM : MT R C kd cl tg now) (rks dis pro : Nat → Int32) :
    ∃ (many : Int32) (rks' dis' pro' : Nat → Int32), f_X10_layRanks now rks dis pro = some (many, rks', dis', pro') ∧ (∀ c, c < C → kd c ≤ 10 → RC R kd cl dis' rks' c) ∧ PL C kd many pro' := by
  have h16 := hV.1
  have h6 := hV.2.1
  obtain ⟨o, ⟨h1, h2, h3⟩, h4⟩ := up_ex (fun n i (s : Int32 × (Nat → Int32) × (Nat → Int32) × (Nat → Int32)) => L_X10_layRanks_7 now n i s.1 s.2.1 s.2.2.1 s.2.2.2) (C := C)
    (fun i s => s.1 = nI (fb_ct (pr kd) i) ∧ (∀ c, c < i → kd c ≤ 10 → RC R kd cl s.2.2.1 s.2.1 c) ∧ ∀ c, c < i → kd c ≤ 10 → s.2.2.2 (fb_ct (pr kd) c) = nI c)
    (fun s => s.1 = nI (fb_ct (pr kd) C) ∧ (∀ c, c < C → kd c ≤ 10 → RC R kd cl s.2.2.1 s.2.1 c) ∧ ∀ c, c < C → kd c ≤ 10 → s.2.2.2 (fb_ct (pr kd) c) = nI c)
    (fun n i s hi hI => by
      by_cases hp : kd i ≤ 10
      · have hle := fb_ct_le (pr kd) i
        obtain ⟨o, ⟨q1, q2, q3⟩, q4⟩ := m_layRanks55 hV hM hi hp s.2.1 s.2.2.1
        refine ⟨(nI (fb_ct (pr kd) (i + 1)), o.1, o.2, upd s.2.2.2 (fb_ct (pr kd) i) (nI i)), ⟨rfl, fun c hc hpc => ?_, fun c hc hpc => ?_⟩, ?_⟩
        · by_cases h : c = i
          · subst h; exact q1
          · obtain ⟨a1, a2⟩ := hI.2.1 c (by omega) hpc
            exact ⟨(q2 c h).trans a1, fun r hr => (q3 _ (by omega)).trans (a2 r hr)⟩
        · show upd s.2.2.2 (fb_ct (pr kd) i) (nI i) (fb_ct (pr kd) c) = _
          by_cases h : c = i
          · rw [h, upd_at]
          · have hlt : fb_ct (pr kd) c < fb_ct (pr kd) i := by
              have h1 := fb_ct_mono (pr kd) (show c + 1 ≤ i by omega)
              rw [fb_ct_succ, if_pos (by unfold pr; exact decide_eq_true hpc)] at h1
              omega
            rw [upd_ne _ _ (by omega)]
            exact hI.2.2 c (by omega) hpc
        · show L_X10_layRanks_7 now (n + 1) _ _ _ _ _ = L_X10_layRanks_7 now n _ _ _ _ _
          rw [L_X10_layRanks_7, m_cols hM, m_isProper hV hM hi]
          simp only [Option.bind_some]
          rw [if_neg (nI_ge hi (by omega)), hI.1, gdI (by omega) (by omega), gdI (by omega) (by omega), nI_clamp (show i < 2 ^ 31 by omega), nI_clamp (show fb_ct (pr kd) i < 2 ^ 31 by omega), q4]
          simp only [Option.bind_some, ifbd, nI_1]
          rw [if_pos hp, fb_ct_succ, if_pos (show pr kd i = true from decide_eq_true hp)]
      · refine ⟨s, ⟨?_, fun c hc hpc => hI.2.1 c (by have : c ≠ i := fun e => hp (e ▸ hpc); omega) hpc, fun c hc hpc => hI.2.2 c (by have : c ≠ i := fun e => hp (e ▸ hpc); omega) hpc⟩, ?_⟩
        · rw [fb_ct_succ, if_neg (by unfold pr; simp [hp])]; exact hI.1
        · show L_X10_layRanks_7 now (n + 1) _ _ _ _ _ = L_X10_layRanks_7 now n _ _ _ _ _
          rw [L_X10_layRanks_7, m_cols hM, m_isProper hV hM hi]
          simp only [Option.bind_some]
          rw [if_neg (nI_ge hi (by omega))]
          simp only [ifbd]
          rw [if_neg hp, nI_1])
    (fun n s hI => ⟨s, hI, by
        show L_X10_layRanks_7 now (n + 1) _ _ _ _ _ = _
        rw [L_X10_layRanks_7, m_cols hM]
        simp only [Option.bind_some]
        rw [if_pos (nI_le (Nat.le_refl _) (by omega))]⟩) C fu 0 (0, rks, dis, pro) (by omega) (fu_lt (by omega)) ⟨rfl, fun c hc => by omega, fun c hc => by omega⟩
  refine ⟨o.1, o.2.1, o.2.2.1, o.2.2.2, ?_, h2, ⟨h1, h3⟩⟩
  unfold f_X10_layRanks
  have e1 : L_X10_layRanks_7 now fu 0 0 rks dis pro = _ := h4
  rw [e1]
  rfl
/-- the line as rows lie -/
theorem m_layLine (hV : VT R C kd cl tg) (hM : MT R C kd cl tg now) (rks dis pro ln : Nat → Int32) :
    ∃ (many : Int32) (rks' dis' pro' ln' : Nat → Int32), f_X10_layLine now rks dis pro ln = some (many, rks', dis', pro', ln') ∧ (∀ c, c < C → kd c ≤ 10 → RC R kd cl dis' rks' c) ∧ PL C kd many pro' ∧ ∀ r, r < R → ln' r = nI r := by
  have h16 := hV.1
  obtain ⟨l', h1, h2⟩ := up_ex (L_X10_layLine_2 now) (C := R) (fun i s => ∀ r, r < i → s r = nI r) (fun s => ∀ r, r < R → s r = nI r)
    (fun n i s hi hI => ⟨upd s i (nI i), fun r hr => by
        by_cases h : r = i
        · rw [h, upd_at]
        · rw [upd_ne _ _ h]; exact hI r (by omega), by
        rw [L_X10_layLine_2, m_rows hM]
        simp only [Option.bind_some]
        rw [if_neg (nI_ge hi (by omega)), gdI (by omega) (by omega), nI_clamp (by omega), nI_1]⟩)
    (fun n s hI => ⟨s, hI, by
        rw [L_X10_layLine_2, m_rows hM]
        simp only [Option.bind_some]
        rw [if_pos (nI_le (Nat.le_refl _) (by omega))]⟩) R fu 0 ln (by omega) (fu_lt (by omega)) (fun r hr => by omega)
  obtain ⟨many, rks', dis', pro', q1, q2, q3⟩ := m_layRanks hV hM rks dis pro
  refine ⟨many, rks', dis', pro', l', ?_, q2, q3, h1⟩
  unfold f_X10_layLine
  rw [li0, h2]
  simp only [Option.bind_some]
  rw [q1]
  rfl
/-- the reference's count of unlike cells -/
theorem m_unlikeOf (hV : VT R C kd cl tg) {many : Int32} {rks dis pro : Nat → Int32} (hRC : ∀ c, c < C → kd c ≤ 10 → RC R kd cl dis rks c) (hPL : PL C kd many pro) {r s : Nat} (hr : r < R) (hs : s < R) : f_X10_unlikeOf many rks pro (nI r) (nI s) = some (nI (unl C kd cl r s)) := by
  have h16 := hV.1
  have h6 := hV.2.1
  have hle := fb_ct_le (pr kd) C
  have := prop_loop (fun n i a => L_X10_unlikeOf_5 many rks pro (nI r) (nI s) n a i) (pr kd) (C := C) (fun c => nI (fb_ct (fun c => pr kd c && decide (¬ cl c r = cl c s)) c)) (res := nI (unl C kd cl r s))
    (fun n c hc hp => by
      have hp' : kd c ≤ 10 := of_decide_eq_true hp
      have hlt : fb_ct (pr kd) c < fb_ct (pr kd) C := by
        have h1 := fb_ct_mono (pr kd) (show c + 1 ≤ C by omega)
        rw [fb_ct_succ, if_pos hp] at h1
        omega
      show L_X10_unlikeOf_5 many rks pro (nI r) (nI s) (n + 1) _ _ = L_X10_unlikeOf_5 many rks pro (nI r) (nI s) n _ _
      rw [L_X10_unlikeOf_5, hPL.1, if_neg (nI_ge hlt (by omega)), gdI (by omega) (by omega), gdI (by omega) (by omega), nI_clamp (show fb_ct (pr kd) c < 2 ^ 31 by omega), hPL.2 c hc hp', li16, pk_mul, nI_add, nI_add, gdI (by omega) (by omega), gdI (by omega) (by omega), nI_clamp (by omega), nI_clamp (by omega)]
      rw [show 16 * c + r = c * 16 + r by omega, show 16 * c + s = c * 16 + s by omega, (hRC c hc hp').2 r hr, (hRC c hc hp').2 s hs, nI_1, fb_ct_succ]
      have l1 := rk_lt (kd := kd) (cl := cl) (c := c) hr
      have l2 := rk_lt (kd := kd) (cl := cl) (c := c) hs
      by_cases h : cl c r = cl c s
      · rw [if_pos (by rw [(rk_eq hV hc hp' hr hs).mpr h])]
        simp [h, li0, nI_add]
      · rw [if_neg (fun q => h ((rk_eq hV hc hp' hr hs).mp ((nI_eq (by omega) (by omega)).mp q)))]
        simp [h, hp, nI_1])
    (fun c hc hp => by rw [fb_ct_succ, if_neg (by simp [hp])]; rfl)
    (fun n => by
      show L_X10_unlikeOf_5 many rks pro (nI r) (nI s) (n + 1) _ _ = _
      rw [L_X10_unlikeOf_5, hPL.1, if_pos (nI_le (Nat.le_refl _) (by omega))]
      rfl)
    C fu 0 (by omega) (fu_lt (by omega))
  unfold f_X10_unlikeOf
  have h0 : L_X10_unlikeOf_5 many rks pro (nI r) (nI s) fu 0 0 = _ := this
  rw [h0]
  rfl
end
