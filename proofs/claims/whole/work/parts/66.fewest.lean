/-! columns by how many unlike cells they have -/
theorem nth_pr (p : Nat → Bool) (n : Nat) : ∃ pc : Nat → Nat, ∀ k, k < fb_ct p n → pc k < n ∧ p (pc k) = true ∧ fb_ct p (pc k) = k := by
  have h : ∀ k, ∃ i, k < fb_ct p n → i < n ∧ p i = true ∧ fb_ct p i = k := fun k => by
    by_cases hk : k < fb_ct p n
    · obtain ⟨i, hi⟩ := fb_ct_kth hk
      exact ⟨i, fun _ => hi⟩
    · exact ⟨0, fun q => absurd q hk⟩
  exact ⟨fun k => Classical.choose (h k), fun k => Classical.choose_spec (h k)⟩
theorem nth_lt {p : Nat → Bool} {n : Nat} {pc : Nat → Nat} (h : ∀ k, k < fb_ct p n → pc k < n ∧ p (pc k) = true ∧ fb_ct p (pc k) = k) {j k : Nat} (hj : j < fb_ct p n) (hk : k < fb_ct p n) : pc j < pc k ↔ j < k := by
  obtain ⟨a1, a2, a3⟩ := h j hj
  obtain ⟨b1, b2, b3⟩ := h k hk
  constructor
  · intro q
    have : fb_ct p (pc j + 1) ≤ fb_ct p (pc k) := fb_ct_mono p q
    rw [fb_ct_succ, if_pos a2] at this
    omega
  · intro q
    apply Nat.lt_of_not_le
    intro q2
    have := fb_ct_mono p q2
    omega
theorem nth_inj {p : Nat → Bool} {n : Nat} {pc : Nat → Nat} (h : ∀ k, k < fb_ct p n → pc k < n ∧ p (pc k) = true ∧ fb_ct p (pc k) = k) {j k : Nat} (hj : j < fb_ct p n) (hk : k < fb_ct p n) (e : pc j = pc k) : j = k := by
  have := (h j hj).2.2
  have := (h k hk).2.2
  rw [e] at *
  omega
section
variable {R C : Nat} {kd : Nat → Nat} {cl : Nat → Nat → Int64} {tg : Nat → Nat} {now : Nat → Int64} {cols rows : Int32} {kinds tags : Nat → Int32} {cells : Nat → Int64}
theorem c_readProper (hV : VT R C kd cl tg) (hC : CT R C kd cl tg cols rows kinds tags cells) (oc : Nat → Int32) : ∃ oc', f_X2_readProper oc cols kinds = some (nI (fb_ct (pr kd) C), oc') ∧ PL C kd (nI (fb_ct (pr kd) C)) oc' := by
  have h6 := hV.2.1
  obtain ⟨w, hw, hwe⟩ := up_ex (fun n i (s : Int32 × (Nat → Int32)) => L_X2_readProper_7 cols kinds n i s.1 s.2) (C := C)
    (fun i w => w.1 = nI (fb_ct (pr kd) i) ∧ ∀ c, c < i → kd c ≤ 10 → w.2 (fb_ct (pr kd) c) = nI c)
    (fun w => w.1 = nI (fb_ct (pr kd) C) ∧ ∀ c, c < C → kd c ≤ 10 → w.2 (fb_ct (pr kd) c) = nI c)
    (fun n i s hi hI => by
      obtain ⟨s1, s2⟩ := s
      obtain ⟨rfl, hI2⟩ : s1 = nI (fb_ct (pr kd) i) ∧ ∀ c, c < i → kd c ≤ 10 → s2 (fb_ct (pr kd) c) = nI c := hI
      have hle := fb_ct_le (pr kd) i
      by_cases h : kd i ≤ 10
      · have hp : pr kd i = true := by unfold pr; simp [h]
        refine ⟨(nI (fb_ct (pr kd) i + 1), upd s2 (fb_ct (pr kd) i) (nI i)), ⟨by rw [fb_ct_succ, if_pos hp], fun c hc hk => ?_⟩, ?_⟩
        · by_cases e : c = i
          · subst e; exact upd_at _ _ _
          · have hpc : pr kd c = true := by unfold pr; simp [hk]
            have hm : fb_ct (pr kd) (c + 1) ≤ fb_ct (pr kd) i := fb_ct_mono _ (by omega)
            rw [fb_ct_succ, if_pos hpc] at hm
            show upd s2 _ _ _ = _
            rw [upd_ne _ _ (by omega)]; exact hI2 c (by omega) hk
        · show L_X2_readProper_7 cols kinds (n + 1) (nI i) (nI (fb_ct (pr kd) i)) s2 = L_X2_readProper_7 cols kinds n (nI (i + 1)) (nI (fb_ct (pr kd) i + 1)) (upd s2 (fb_ct (pr kd) i) (nI i))
          rw [L_X2_readProper_7, hC.1, if_neg (nI_ge hi (by omega)), ← hC.1]
          unfold f_X2_addProper
          rw [c_isProper hV hC hi, Option.bind_some, ifbd, if_pos h, li6, if_neg (nI_ge (by omega) (by omega)), gdI (by omega) (by omega), nI_clamp (by omega), Option.bind_some, nI_1, nI_1]
      · have hp : pr kd i = false := by unfold pr; simp [h]
        refine ⟨(nI (fb_ct (pr kd) i), s2), ⟨by rw [fb_ct_succ, hp]; rfl, fun c hc hk => ?_⟩, ?_⟩
        · exact hI2 c (by have : c ≠ i := fun e => h (e ▸ hk)
                          omega) hk
        · show L_X2_readProper_7 cols kinds (n + 1) (nI i) (nI (fb_ct (pr kd) i)) s2 = L_X2_readProper_7 cols kinds n (nI (i + 1)) (nI (fb_ct (pr kd) i)) s2
          rw [L_X2_readProper_7, hC.1, if_neg (nI_ge hi (by omega)), ← hC.1]
          unfold f_X2_addProper
          rw [c_isProper hV hC hi, Option.bind_some, ifbd, if_neg h, Option.bind_some, nI_1])
    (fun n s hI => ⟨s, hI, by
      show L_X2_readProper_7 cols kinds (n + 1) (nI C) s.1 s.2 = _
      rw [L_X2_readProper_7, hC.1, if_pos (nI_le (Nat.le_refl _) (by omega))]⟩)
    C fu 0 (0, oc) (by omega) (fu_lt (by omega)) ⟨rfl, fun c hc => by omega⟩
  have hwe' : L_X2_readProper_7 cols kinds fu 0 0 oc = some w := hwe
  refine ⟨w.2, ?_, rfl, hw.2⟩
  unfold f_X2_readProper
  rw [hwe', Option.bind_some, hw.1]
theorem PL.at {pc : Nat → Nat} (hpc : ∀ k, k < fb_ct (pr kd) C → pc k < C ∧ pr kd (pc k) = true ∧ fb_ct (pr kd) (pc k) = k) {many : Int32} {pro : Nat → Int32} (h : PL C kd many pro) {k : Nat} (hk : k < fb_ct (pr kd) C) : pro k = nI (pc k) := by
  obtain ⟨a1, a2, a3⟩ := hpc k hk
  have := h.2 (pc k) a1 (by simpa [pr] using a2)
  rw [a3] at this
  exact this
theorem c_tellOrder {m : Nat} (hm : m ≤ 6) (nu : Nat → Int64) (oc : Nat → Int32) : ∃ nu', f_X9_tellOrder nu (nI m) oc = some (nI m, nu') ∧ ∀ k, k < m → nu' k = (oc k).toInt64 := by
  obtain ⟨w, hw, hwe⟩ := up_ex (fun n i (s : Int32 × (Nat → Int64)) => L_X9_tellOrder_9 (nI m) oc n i s.1 s.2) (C := m)
    (fun i w => w.1 = nI i ∧ ∀ k, k < i → w.2 k = (oc k).toInt64) (fun w => w.1 = nI m ∧ ∀ k, k < m → w.2 k = (oc k).toInt64)
    (fun n i s hi hI => ⟨(nI (i + 1), vp_updL s.2 i (oc i).toInt64), ⟨rfl, fun k hk => by
        by_cases e : k = i
        · subst e; exact updL_at _ _ _
        · show vp_updL s.2 i _ k = _
          rw [updL_ne _ _ e]; exact hI.2 k (by omega)⟩, by
      show L_X9_tellOrder_9 (nI m) oc (n + 1) (nI i) s.1 s.2 = L_X9_tellOrder_9 (nI m) oc n (nI (i + 1)) (nI (i + 1)) (vp_updL s.2 i (oc i).toInt64)
      rw [L_X9_tellOrder_9, if_neg (nI_ge hi (by omega)), gdI (by omega) (by omega), nI_clamp (by omega), hI.1, c_add i (by omega), Option.bind_some, nI_1]⟩)
    (fun n s hI => ⟨s, hI, by
      show L_X9_tellOrder_9 (nI m) oc (n + 1) (nI m) s.1 s.2 = _
      rw [L_X9_tellOrder_9, if_pos (nI_le (Nat.le_refl _) (by omega))]⟩)
    m fu 0 (0, nu) (by omega) (fu_lt (by omega)) ⟨rfl, fun k hk => by omega⟩
  have hwe' : L_X9_tellOrder_9 (nI m) oc fu 0 0 nu = some w := hwe
  refine ⟨w.2, ?_, hw.2⟩
  unfold f_X9_tellOrder f_X0_clear
  rw [Option.bind_some, hwe', Option.bind_some, hw.1]
/-- the number by which columns are ordered -/
def kap (d : Nat → Nat) (k : Nat) : Nat := d k * 6 + k
variable {m : Nat} {pc : Nat → Nat} {d : Nat → Nat}
theorem few20 (hm : m ≤ 6) (hpc : ∀ k, k < m → pc k < 6) {dis : Nat → Int32} (hd : ∀ k, k < m → dis (pc k) = nI (d k)) (hd2 : ∀ k, k < m → d k ≤ 16) {e : Nat} (he : e < m) (o0 : Nat → Int32) (ho0 : o0 e = nI (pc e)) :
    ∀ (x n : Nat) (l : Nat → Nat) (oc : Nat → Int32), x ≤ e → x < n → LPm m (updN l x e) → (∀ j, j < m → oc j = nI (pc (l j))) → (∀ j, j ≤ e → j ≠ x → l j < e) → (∀ j j', j < j' → j' ≤ e → j ≠ x → j' ≠ x → kap d (l j) < kap d (l j')) → (∀ j, x < j → j ≤ e → kap d e < kap d (l j)) → (∀ j, e < j → j < m → l j = j) →
    ∃ (y : Nat) (l' : Nat → Nat) (oc' : Nat → Int32), y ≤ e ∧ LPm m (updN l' y e) ∧ (∀ j, j < m → oc' j = nI (pc (l' j))) ∧ (∀ j, j ≤ e → j ≠ y → l' j < e) ∧ (∀ j j', j < j' → j' ≤ e → kap d (updN l' y e j) < kap d (updN l' y e j')) ∧ (∀ j, e < j → j < m → l' j = j) ∧
      L_X2_sortByFewest_20 dis (nI e) o0 n (nI x) oc = some (nI y, oc') := by
  have fin : ∀ (y : Nat) (l : Nat → Nat), y ≤ e → (∀ j j', j < j' → j' ≤ e → j ≠ y → j' ≠ y → kap d (l j) < kap d (l j')) → (∀ j, y < j → j ≤ e → kap d e < kap d (l j)) → (y = 0 ∨ kap d (l (y - 1)) < kap d e) → (∀ j j', j < j' → j' ≤ e → kap d (updN l y e j) < kap d (updN l y e j')) := by
    intro y l hy h1 h2 h3 j j' hjj hj'
    by_cases q1 : j = y
    · subst q1
      rw [updN_at, updN_ne _ (by omega)]
      exact h2 j' hjj hj'
    · rw [updN_ne _ q1]
      by_cases q2 : j' = y
      · subst q2
        rw [updN_at]
        have h3' := h3.resolve_left (by omega)
        by_cases q3 : j = j' - 1
        · subst q3; exact h3'
        · exact Nat.lt_trans (h1 j (j' - 1) (by omega) (by omega) q1 (by omega)) h3'
      · rw [updN_ne _ q2]
        exact h1 j j' hjj hj' q1 q2
  intro x
  induction x with
  | zero =>
    intro n l oc hx hn hP h1 h2 h3 h4 h5
    obtain ⟨n, rfl⟩ : ∃ n', n = n' + 1 := ⟨n - 1, by omega⟩
    refine ⟨0, l, oc, by omega, hP, h1, h2, fin 0 l (by omega) h3 h4 (Or.inl rfl), h5, ?_⟩
    rw [L_X2_sortByFewest_20, if_pos (by decide)]
  | succ x ih =>
    intro n l oc hx hn hP h1 h2 h3 h4 h5
    obtain ⟨n, rfl⟩ : ∃ n', n = n' + 1 := ⟨n - 1, by omega⟩
    obtain ⟨s1, s2, s3⟩ := sub_1 x (by omega)
    have hlx : l x < e := h2 x (by omega) (by omega)
    have hp1 := hpc (l x) (by omega)
    have hp2 := hpc e he
    have q1 := hd2 (l x) (by omega)
    have q2 := hd2 e he
    have ec : (nI e).toNatClampNeg = e := nI_clamp (by omega)
    by_cases h : d (l x) ≤ d e
    · refine ⟨x + 1, l, oc, hx, hP, h1, h2, fin (x + 1) l hx h3 h4 (Or.inr ?_), h5, ?_⟩
      · show kap d (l x) < kap d e
        unfold kap; omega
      · rw [L_X2_sortByFewest_20, if_neg s3, s1, gdI (by omega) (by omega), nI_clamp (by omega), ec, ho0, h1 x (by omega), gdI (by omega) (by omega), gdI (by omega) (by omega), nI_clamp (by omega), nI_clamp (by omega), hd _ (by omega), hd _ he, if_pos (nI_le h (by omega))]
    · obtain ⟨y, l', oc', g0, g1, g2, g3, g4, g5, g6⟩ := ih n (updN l (x + 1) (l x)) (upd oc (x + 1) (oc x)) (by omega) (by omega)
        ((hP.comp (f := swI x (x + 1)) (fun r hr => swI_lt (by omega) (by omega) hr) (fun r s _ _ q => swI_inj q)).cong (fun r hr => by
          by_cases e1 : r = x
          · have q : swI x (x + 1) r = x + 1 := by unfold swI; rw [if_neg (by omega), if_pos e1]
            rw [q, updN_at, e1, updN_at]
          · by_cases e2 : r = x + 1
            · have q : swI x (x + 1) r = x := by unfold swI; rw [if_pos e2]
              rw [q, updN_ne _ e1, e2, updN_at, updN_ne _ (by omega)]
            · have q : swI x (x + 1) r = r := by unfold swI; rw [if_neg e2, if_neg e1]
              rw [q, updN_ne _ e1, updN_ne _ e2, updN_ne _ e2]))
        (fun j hj => by
          by_cases e1 : j = x + 1
          · subst e1; rw [upd_at, updN_at]; exact h1 x (by omega)
          · rw [upd_ne _ _ e1, updN_ne _ e1]; exact h1 j hj)
        (fun j hj hne => by
          by_cases e1 : j = x + 1
          · subst e1; rw [updN_at]; exact hlx
          · rw [updN_ne _ e1]; exact h2 j hj e1)
        (fun j j' hjj hj' n1 n2 => by
          by_cases e1 : j = x + 1
          · subst e1
            rw [updN_at, updN_ne _ (by omega)]
            exact h3 x j' (by omega) hj' (by omega) (by omega)
          · rw [updN_ne _ e1]
            by_cases e2 : j' = x + 1
            · subst e2
              rw [updN_at]
              exact h3 j x (by omega) (by omega) e1 (by omega)
            · rw [updN_ne _ e2]
              exact h3 j j' hjj hj' e1 e2)
        (fun j hj hj2 => by
          by_cases e1 : j = x + 1
          · subst e1; rw [updN_at]; unfold kap; omega
          · rw [updN_ne _ e1]; exact h4 j (by omega) hj2)
        (fun j hj hj2 => by rw [updN_ne _ (by omega)]; exact h5 j hj hj2)
      refine ⟨y, l', oc', g0, g1, g2, g3, g4, g5, ?_⟩
      rw [L_X2_sortByFewest_20, if_neg s3, s1, s2, gdI (show x < 6 by omega) (by omega), nI_clamp (show x < 2 ^ 31 by omega), ec, ho0, h1 x (by omega), gdI (show pc (l x) < 6 by omega) (by omega), gdI (show pc e < 6 by omega) (by omega), nI_clamp (show pc (l x) < 2 ^ 31 by omega), nI_clamp (show pc e < 2 ^ 31 by omega), hd _ (by omega), hd _ he, if_neg (nI_ge (by omega) (by omega)), gdJ (by omega) (by omega), gdI (by omega) (by omega), nI_clamp (by omega), ← h1 x (by omega)]
      exact g6
/-- the class's order by fewest -/
theorem c_fewest (hm : m ≤ 6) (hpc : ∀ k, k < m → pc k < 6) {dis : Nat → Int32} (hd : ∀ k, k < m → dis (pc k) = nI (d k)) (hd2 : ∀ k, k < m → d k ≤ 16) {oc : Nat → Int32} (ho : ∀ k, k < m → oc k = nI (pc k)) :
    ∃ (s : Nat → Nat) (oc' : Nat → Int32), LPm m s ∧ (∀ j j', j < j' → j' < m → kap d (s j) < kap d (s j')) ∧ (∀ j, j < m → oc' j = nI (pc (s j))) ∧ f_X2_sortByFewest (nI m) oc dis = some oc' := by
  have key : ∀ (k i n : Nat) (l : Nat → Nat) (oc : Nat → Int32), i + k = m → k < n → 0 < i → LPm m l → (∀ j, j < m → oc j = nI (pc (l j))) → (∀ j, j < i → l j < i) → (∀ j j', j < j' → j' < i → kap d (l j) < kap d (l j')) → (∀ j, i ≤ j → j < m → l j = j) →
      ∃ (s : Nat → Nat) (oc' : Nat → Int32), LPm m s ∧ (∀ j j', j < j' → j' < m → kap d (s j) < kap d (s j')) ∧ (∀ j, j < m → oc' j = nI (pc (s j))) ∧ L_X2_sortByFewest_2 (nI m) dis n (nI i) oc = some oc' := by
    intro k
    induction k with
    | zero =>
      intro i n l oc hi hn h0 hP h1 h2 h3 h4
      obtain ⟨n, rfl⟩ : ∃ n', n = n' + 1 := ⟨n - 1, by omega⟩
      obtain rfl : i = m := by omega
      refine ⟨l, oc, hP, h3, h1, ?_⟩
      rw [L_X2_sortByFewest_2, if_pos (nI_le (Nat.le_refl _) (by omega))]
    | succ k ih =>
      intro i n l oc hi hn h0 hP h1 h2 h3 h4
      obtain ⟨n, rfl⟩ : ∃ n', n = n' + 1 := ⟨n - 1, by omega⟩
      have him : i < m := by omega
      have hli := h4 i (Nat.le_refl _) him
      obtain ⟨y, l', oc', g0, g1, g2, g3, g4, g5, g6⟩ := few20 hm hpc hd hd2 him oc (by rw [h1 i him, hli]) i fu l oc (Nat.le_refl _) (fu_lt (by omega))
        (hP.cong (fun r hr => by
          by_cases e : r = i
          · subst e; rw [updN_at, hli]
          · rw [updN_ne _ e])) h1 (fun j hj hne => h2 j (by omega)) (fun j j' hjj hj' n1 n2 => h3 j j' hjj (by omega)) (fun j hj hj2 => by omega) (fun j hj hj2 => h4 j (by omega) hj2)
      obtain ⟨s, oc2, r1, r2, r3, r4⟩ := ih (i + 1) n (updN l' y i) (upd oc' y (nI (pc i))) (by omega) (by omega) (by omega) g1
        (fun j hj => by
          by_cases e : j = y
          · subst e; rw [upd_at, updN_at]
          · rw [upd_ne _ _ e, updN_ne _ e]; exact g2 j hj)
        (fun j hj => by
          by_cases e : j = y
          · subst e; rw [updN_at]; omega
          · rw [updN_ne _ e]; have := g3 j (by omega) e; omega)
        (fun j j' hjj hj' => g4 j j' hjj (by omega))
        (fun j hj hj2 => by rw [updN_ne _ (by omega)]; exact g5 j (by omega) hj2)
      refine ⟨s, oc2, r1, r2, r3, ?_⟩
      rw [L_X2_sortByFewest_2, if_neg (nI_ge him (by omega)), gdI (by omega) (by omega), g6, Option.bind_some, gdI (show y < 6 by omega) (by omega), nI_clamp (by omega), nI_clamp (by omega), h1 i him, hli, nI_1]
      exact r4
  unfold f_X2_sortByFewest
  by_cases h0 : m = 0
  · subst h0
    refine ⟨id, oc, LPm.id 0, fun j j' _ h => by omega, ho, ?_⟩
    show (L_X2_sortByFewest_2 (nI 0) dis (4095 + 1) 1 oc).bind _ = _
    rw [L_X2_sortByFewest_2, if_pos (by decide), Option.bind_some]
  · obtain ⟨s, oc2, r1, r2, r3, r4⟩ := key (m - 1) 1 fu id oc (by omega) (fu_lt (by omega)) (by omega) (LPm.id m) ho (fun j hj => hj) (fun j j' _ _ => by omega) (fun j _ _ => rfl)
    have r4' : L_X2_sortByFewest_2 (nI m) dis fu 1 oc = some oc2 := r4
    exact ⟨s, oc2, r1, r2, r3, by rw [r4', Option.bind_some]⟩
end
