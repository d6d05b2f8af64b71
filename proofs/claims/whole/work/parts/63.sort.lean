/-! rows sorted: keys on the one side, cells against cells on the other -/
def kS (f : Nat → Nat) : Nat → Nat
  | 0 => 0
  | k + 1 => kS f k + f k
def kD (rf : Bool) (s r : Nat) : Nat := if rf && decide (s % 2 = 1) then 15 - r else r
def kK (rf : Bool) (f : Nat → Nat) : Nat → Nat
  | 0 => 0
  | k + 1 => kK rf f k * 16 + kD rf (kS f k) (f k)
theorem kS_cong {f g : Nat → Nat} : ∀ {k : Nat}, (∀ j, j < k → f j = g j) → kS f k = kS g k
  | 0, _ => rfl
  | k + 1, h => by rw [kS, kS, kS_cong (fun j hj => h j (by omega)), h k (by omega)]
theorem kK_cong (rf : Bool) {f g : Nat → Nat} : ∀ {k : Nat}, (∀ j, j < k → f j = g j) → kK rf f k = kK rf g k
  | 0, _ => rfl
  | k + 1, h => by rw [kK, kK, kK_cong rf (fun j hj => h j (by omega)), kS_cong (fun j hj => h j (by omega)), h k (by omega)]
theorem kD_lt (rf : Bool) (s : Nat) {r : Nat} (h : r < 16) : kD rf s r < 16 := by unfold kD; split <;> omega
theorem kS_le {f : Nat → Nat} : ∀ {k : Nat}, (∀ j, j < k → f j < 16) → kS f k ≤ 15 * k
  | 0, _ => Nat.le_refl _
  | k + 1, h => by
    have := kS_le (f := f) (k := k) (fun j hj => h j (by omega))
    have := h k (by omega)
    rw [kS]; omega
theorem kK_lt (rf : Bool) {f : Nat → Nat} : ∀ {k : Nat}, (∀ j, j < k → f j < 16) → kK rf f k < 16 ^ k
  | 0, _ => (by decide : 0 < 16 ^ 0)
  | k + 1, h => by
    have := kK_lt rf (f := f) (k := k) (fun j hj => h j (by omega))
    have := kD_lt rf (kS f k) (h k (by omega))
    rw [kK, Nat.pow_succ]; omega
theorem kK_mono (rf : Bool) {f g : Nat → Nat} {k : Nat} (h : kK rf f k < kK rf g k) : ∀ d, (∀ j, j < k + d → f j < 16) → kK rf f (k + d) < kK rf g (k + d)
  | 0, _ => h
  | d + 1, hf => by
    have := kK_mono rf h d (fun j hj => hf j (by omega))
    have := kD_lt rf (kS f (k + d)) (hf (k + d) (by omega))
    show kK rf f (k + d + 1) < kK rf g (k + d + 1)
    rw [kK, kK]; omega
theorem par_and : ∀ s, s < 128 → (nI s &&& 1 = 1 ↔ s % 2 = 1) := by decide +kernel
theorem par_mod : ∀ s, s < 128 → (nI s - nI s / 2 * 2 = 1 ↔ s % 2 = 1) := by decide +kernel
theorem sub15 : ∀ r, r < 16 → (15 : Int32) - nI r = nI (15 - r) := by decide +kernel
theorem sub_le : ∀ x, x < 16 → ∀ y, y < 16 → (nI x - nI y ≤ 0 ↔ x ≤ y) := by decide +kernel
theorem nI_inj16 : ∀ x, x < 16 → ∀ y, y < 16 → (nI x = nI y ↔ x = y) := by decide +kernel
section
variable {R C : Nat} {kd : Nat → Nat} {cl : Nat → Nat → Int64} {tg : Nat → Nat} {now : Nat → Int64} {cols rows : Int32} {kinds tags : Nat → Int32} {cells : Nat → Int64}
variable {m : Nat} {od : Nat → Nat} {oc om rC rM dC dM : Nat → Int32}
/-- a row's ranks in the order -/
def ro (R : Nat) (kd : Nat → Nat) (cl : Nat → Nat → Int64) (od : Nat → Nat) (a : Nat) (k : Nat) : Nat := rk R kd cl (od k) a
theorem c_key (hV : VT R C kd cl tg) (hm : m ≤ 6) (hO : OD C kd m od oc om) (hc : ∀ c, c < C → kd c ≤ 10 → RC R kd cl dC rC c) (x : Int32) {a : Nat} (ha : a < R) : f_X4_key (nI m) oc rC x (nI a) = some (nI (kK (decide (¬ x = 0)) (ro R kd cl od a) m)) := by
  have h16 := hV.1
  have h6 := hV.2.1
  have hr : ∀ j, j < m → ro R kd cl od a j < 16 := fun j hj => Nat.lt_of_lt_of_le (rk_lt ha) h16
  have := up_loop (fun n i (s : Int32 × Int32) => L_X4_key_9 (nI m) oc rC x (nI a) n s.1 s.2 i) (C := m) (fun i => (nI (kK (decide (¬ x = 0)) (ro R kd cl od a) i), nI (kS (ro R kd cl od a) i))) (res := nI (kK (decide (¬ x = 0)) (ro R kd cl od a) m))
    (fun n i hi => by
      obtain ⟨a1, a2, a3, a4⟩ := hO i hi
      show L_X4_key_9 (nI m) oc rC x (nI a) (n + 1) _ _ _ = L_X4_key_9 (nI m) oc rC x (nI a) n (nI (kK (decide (¬ x = 0)) (ro R kd cl od a) (i + 1))) (nI (kS (ro R kd cl od a) (i + 1))) _
      have hs := kS_le (f := ro R kd cl od a) (k := i) (fun j hj => hr j (by omega))
      have hri := hr i hi
      have e : rk R kd cl (od i) a = ro R kd cl od a i := rfl
      rw [L_X4_key_9, if_neg (nI_ge hi (by omega)), gdI (by omega) (by omega), nI_clamp (by omega), a3, c_of trivial (by omega) ha h16 (hc _ a1 a2), Option.bind_some, e, kK, kS, li16, pk_mul, nI_add, nI_1]
      have ev : (if x = 0 then (some (0 : Int32)) else (((if (nI (kS (ro R kd cl od a) i) &&& (1 : Int32)) = (1 : Int32) then (some (1 : Int32)) else (some (0 : Int32)))).bind (fun v_2110 => (some v_2110)))) = some (b2i (decide (¬ x = 0) && decide (kS (ro R kd cl od a) i % 2 = 1))) := by
        by_cases hx : x = 0
        · rw [if_pos hx]; simp [hx]; rfl
        · rw [if_neg hx]
          by_cases hp : kS (ro R kd cl od a) i % 2 = 1
          · rw [if_pos ((par_and _ (by omega)).mpr hp)]; simp [hx, hp]; rfl
          · rw [if_neg (fun q => hp ((par_and _ (by omega)).mp q))]; simp [hp]; rfl
      rw [ev, Option.bind_some, kD, sub15 _ hri, nI_add, nI_add]
      cases (decide (¬ x = 0) && decide (kS (ro R kd cl od a) i % 2 = 1))
      · rw [ifbf]; rfl
      · rw [ifbt]; rfl)
    (fun n => by
      show L_X4_key_9 (nI m) oc rC x (nI a) (n + 1) _ _ _ = _
      rw [L_X4_key_9, if_pos (nI_le (Nat.le_refl _) (by omega))])
    m fu 0 (by omega) (fu_lt (by omega))
  have h0 : L_X4_key_9 (nI m) oc rC x (nI a) fu 0 0 0 = _ := this
  unfold f_X4_key
  rw [h0, Option.bind_some]
theorem m_against (hV : VT R C kd cl tg) (hm : m ≤ 6) (hO : OD C kd m od oc om) (hc : ∀ c, c < C → kd c ≤ 10 → RC R kd cl dM rM c) (x : Int32) {a b : Nat} (ha : a < R) (hb : b < R) : ∃ v, f_X10_against (nI m) rM om (nI a) (nI b) x = some v ∧ (v ≤ 0 ↔ kK (decide (¬ x = 0)) (ro R kd cl od a) m ≤ kK (decide (¬ x = 0)) (ro R kd cl od b) m) := by
  have h16 := hV.1
  have h6 := hV.2.1
  have hra : ∀ j, j < m → ro R kd cl od a j < 16 := fun j hj => Nat.lt_of_lt_of_le (rk_lt ha) h16
  have hrb : ∀ j, j < m → ro R kd cl od b j < 16 := fun j hj => Nat.lt_of_lt_of_le (rk_lt hb) h16
  have key : ∀ (k i n : Nat), i + k = m → k < n → (∀ j, j < i → ro R kd cl od a j = ro R kd cl od b j) → ∃ v, (L_X10_against_6 (nI m) rM om (nI a) (nI b) x n (nI (kS (ro R kd cl od a) i)) (nI i)).bind (sm (fun _ => (some (0 : Int32)))) = some v ∧ (v ≤ 0 ↔ kK (decide (¬ x = 0)) (ro R kd cl od a) m ≤ kK (decide (¬ x = 0)) (ro R kd cl od b) m) := by
    intro k
    induction k with
    | zero =>
      intro i n hi hn he
      obtain ⟨n, rfl⟩ : ∃ n', n = n' + 1 := ⟨n - 1, by omega⟩
      obtain rfl : i = m := by omega
      refine ⟨0, ?_, ?_⟩
      · rw [L_X10_against_6, if_pos (nI_le (Nat.le_refl _) (by omega))]; rfl
      · rw [kK_cong _ he]
        exact ⟨fun _ => Nat.le_refl _, fun _ => by decide⟩
    | succ k ih =>
      intro i n hi hn he
      obtain ⟨n, rfl⟩ : ∃ n', n = n' + 1 := ⟨n - 1, by omega⟩
      have him : i < m := by omega
      obtain ⟨a1, a2, a3, a4⟩ := hO i him
      have hs := kS_le (f := ro R kd cl od a) (k := i) (fun j hj => hra j (by omega))
      have hri := hra i him
      have hrj := hrb i him
      have ea : rM (od i * 16 + a) = nI (ro R kd cl od a i) := (hc _ a1 a2).2 a ha
      have eb : rM (od i * 16 + b) = nI (ro R kd cl od b i) := (hc _ a1 a2).2 b hb
      rw [Nat.mul_comm] at ea eb
      rw [L_X10_against_6, if_neg (nI_ge him (by omega)), gdI (by omega) (by omega), nI_clamp (by omega), a4, li16, pk_mul, nI_add, nI_add, gdI (by omega) (by omega), gdJ (by omega) (by omega), gdI (by omega) (by omega), nI_clamp (by omega), nI_clamp (by omega), ea, eb]
      by_cases h : ro R kd cl od a i = ro R kd cl od b i
      · rw [if_pos (by rw [h]), nI_add, nI_1]
        have := ih (i + 1) n (by omega) (by omega) (fun j hj => by
          by_cases e : j = i
          · subst e; exact h
          · exact he j (by omega))
        exact this
      · rw [if_neg (fun q => h ((nI_inj16 _ hri _ hrj).mp q))]
        have hk : kK (decide (¬ x = 0)) (ro R kd cl od a) i = kK (decide (¬ x = 0)) (ro R kd cl od b) i := kK_cong _ he
        have hsb : kS (ro R kd cl od a) i = kS (ro R kd cl od b) i := kS_cong he
        have hdig : (kK (decide (¬ x = 0)) (ro R kd cl od a) m ≤ kK (decide (¬ x = 0)) (ro R kd cl od b) m) ↔ kD (decide (¬ x = 0)) (kS (ro R kd cl od a) i) (ro R kd cl od a i) ≤ kD (decide (¬ x = 0)) (kS (ro R kd cl od a) i) (ro R kd cl od b i) := by
          have hne : kD (decide (¬ x = 0)) (kS (ro R kd cl od a) i) (ro R kd cl od a i) ≠ kD (decide (¬ x = 0)) (kS (ro R kd cl od a) i) (ro R kd cl od b i) := by
            unfold kD
            split <;> omega
          have hmi : m = i + 1 + (m - i - 1) := by omega
          constructor
          · intro q
            apply Nat.le_of_not_lt
            intro q2
            have : kK (decide (¬ x = 0)) (ro R kd cl od b) (i + 1) < kK (decide (¬ x = 0)) (ro R kd cl od a) (i + 1) := by
              rw [kK, kK, hk, ← hsb]; omega
            have := kK_mono _ this (m - i - 1) (fun j hj => hrb j (by omega))
            rw [← hmi] at this
            omega
          · intro q
            have : kK (decide (¬ x = 0)) (ro R kd cl od a) (i + 1) < kK (decide (¬ x = 0)) (ro R kd cl od b) (i + 1) := by
              rw [kK, kK, hk, ← hsb]; omega
            have := kK_mono _ this (m - i - 1) (fun j hj => hra j (by omega))
            rw [← hmi] at this
            omega
        rw [hdig]
        unfold kD
        by_cases hx : x = 0
        · rw [if_pos hx]
          refine ⟨_, rfl, ?_⟩
          simp [hx]
          exact sub_le _ hri _ hrj
        · rw [if_neg hx]
          by_cases hp : kS (ro R kd cl od a) i % 2 = 1
          · rw [if_pos ((par_mod _ (by omega)).mpr hp)]
            refine ⟨_, rfl, ?_⟩
            simp only [hx, hp, not_false_eq_true, decide_true, Bool.and_self, if_true]
            rw [sub_le _ hrj _ hri]
            omega
          · rw [if_neg (fun q => hp ((par_mod _ (by omega)).mp q))]
            refine ⟨_, rfl, ?_⟩
            simp [hp]
            exact sub_le _ hri _ hrj
  obtain ⟨v, v1, v2⟩ := key m 0 fu (by omega) (fu_lt (by omega)) (fun j hj => by omega)
  exact ⟨v, v1, v2⟩
end
def updN (l : Nat → Nat) (x v : Nat) : Nat → Nat := fun r => if r = x then v else l r
theorem updN_at (l : Nat → Nat) (x v : Nat) : updN l x v x = v := if_pos rfl
theorem updN_ne (l : Nat → Nat) {x v r : Nat} (h : r ≠ x) : updN l x v r = l r := if_neg h
theorem LPm.cong {R : Nat} {f g : Nat → Nat} (h : LPm R f) (e : ∀ r, r < R → g r = f r) : LPm R g :=
  ⟨fun r hr => by rw [e r hr]; exact h.1 r hr, fun r s hr hs q => h.2 r s hr hs (by rw [← e r hr, ← e s hs]; exact q)⟩
theorem sub_1 : ∀ x, x < 17 → nI (x + 1) - 1 = nI x ∧ nI (x + 1) + (-1) = nI x ∧ ¬ nI (x + 1) ≤ 0 := by decide +kernel
section
variable {R C : Nat} {kd : Nat → Nat} {cl : Nat → Nat → Int64} {tg : Nat → Nat} {now : Nat → Int64} {cols rows : Int32} {kinds tags : Nat → Int32} {cells : Nat → Int64}
variable {m : Nat} {od : Nat → Nat} {oc om rC rM dC dM : Nat → Int32}
theorem sort20 (hV : VT R C kd cl tg) (hm : m ≤ 6) (hO : OD C kd m od oc om) (hc : ∀ c, c < C → kd c ≤ 10 → RC R kd cl dM rM c) (x1 : Int32) {e : Nat} (he : e < R) (l0 : Nat → Int32) (hl0 : l0 e = nI e) :
    ∀ (x n : Nat) (l : Nat → Nat) (lc ks lm : Nat → Int32), x ≤ e → x < n → LPm R (updN l x e) → (∀ j, j < R → lm j = nI (l j)) → (∀ j, j ≤ e → j ≠ x → lc j = nI (l j) ∧ ks j = nI (kK (decide (¬ x1 = 0)) (ro R kd cl od (l j)) m)) → (∀ j, e < j → j < R → l j = j) →
    ∃ (y : Nat) (l' : Nat → Nat) (lc' ks' lm' : Nat → Int32), y ≤ e ∧ LPm R (updN l' y e) ∧ (∀ j, j < R → lm' j = nI (l' j)) ∧ (∀ j, j ≤ e → j ≠ y → lc' j = nI (l' j) ∧ ks' j = nI (kK (decide (¬ x1 = 0)) (ro R kd cl od (l' j)) m)) ∧ (∀ j, e < j → j < R → l' j = j) ∧
      L_X4_sortBy_26 (nI (kK (decide (¬ x1 = 0)) (ro R kd cl od e) m)) n (nI x) lc ks = some (nI y, lc', ks') ∧ L_X10_sortLine_20 (nI m) rM om x1 (nI e) l0 n (nI x) lm = some (nI y, lm') := by
  have h16 := hV.1
  have h6 := hV.2.1
  intro x
  induction x with
  | zero =>
    intro n l lc ks lm hx hn hP h1 h2 h3
    obtain ⟨n, rfl⟩ : ∃ n', n = n' + 1 := ⟨n - 1, by omega⟩
    refine ⟨0, l, lc, ks, lm, by omega, hP, h1, h2, h3, ?_, ?_⟩
    · rw [L_X4_sortBy_26, if_pos (by decide)]
    · rw [L_X10_sortLine_20, if_pos (by decide)]
  | succ x ih =>
    intro n l lc ks lm hx hn hP h1 h2 h3
    obtain ⟨n, rfl⟩ : ∃ n', n = n' + 1 := ⟨n - 1, by omega⟩
    obtain ⟨s1, s2, s3⟩ := sub_1 x (by omega)
    obtain ⟨q1, q2⟩ := h2 x (by omega) (by omega)
    have hlx : l x < R := by
      have := hP.1 x (by omega)
      rw [updN_ne _ (by omega)] at this
      exact this
    have hb (a : Nat) (ha : a < R) : kK (decide (¬ x1 = 0)) (ro R kd cl od a) m < 2 ^ 31 := by
      have := kK_lt (decide (¬ x1 = 0)) (f := ro R kd cl od a) (k := m) (fun j hj => Nat.lt_of_lt_of_le (rk_lt ha) h16)
      have hb : (16 : Nat) ^ m ≤ 16 ^ 6 := Nat.pow_le_pow_right (by omega) hm
      have hb' : (16 : Nat) ^ 6 = 16777216 := by decide
      omega
    obtain ⟨v, v1, v2⟩ := m_against hV hm hO hc x1 hlx he
    have ec : (nI e).toNatClampNeg = e := nI_clamp (by omega)
    by_cases h : kK (decide (¬ x1 = 0)) (ro R kd cl od (l x)) m ≤ kK (decide (¬ x1 = 0)) (ro R kd cl od e) m
    · refine ⟨x + 1, l, lc, ks, lm, hx, hP, h1, h2, h3, ?_, ?_⟩
      · rw [L_X4_sortBy_26, if_neg s3, s1, gdI (by omega) (by omega), nI_clamp (by omega), q2, if_pos (nI_le h (hb _ he))]
      · rw [L_X10_sortLine_20, if_neg s3, s1, gdI (by omega) (by omega), nI_clamp (by omega), ec, hl0, h1 x (by omega), v1, Option.bind_some, if_pos (v2.mpr h)]
    · obtain ⟨y, l', lc', ks', lm', g0, g1, g2, g3, g4, g5, g6⟩ := ih n (updN l (x + 1) (l x)) (upd lc (x + 1) (lc x)) (upd ks (x + 1) (ks x)) (upd lm (x + 1) (lm x)) (by omega) (by omega)
        ((hP.comp (f := swI x (x + 1)) (fun r hr => swI_lt (by omega) (by omega) hr) (fun r s _ _ q => swI_inj q)).cong (fun r hr => by
          by_cases e1 : r = x
          · have q : swI x (x + 1) r = x + 1 := by unfold swI; rw [if_neg (by omega), if_pos e1]
            rw [q, updN_at, e1, updN_at]
          · by_cases e2 : r = x + 1
            · have q : swI x (x + 1) r = x := by unfold swI; rw [if_pos e2]
              rw [q, updN_ne _ e1, e2, updN_at, updN_ne _ (by omega)]
            · have q : swI x (x + 1) r = r := by unfold swI; rw [if_neg e2, if_neg e1]
              rw [q, updN_ne _ e1, updN_ne _ e2, updN_ne _ e2]))
        (fun j hj => by
          by_cases e1 : j = x + 1
          · subst e1; rw [upd_at, updN_at]; exact h1 x (by omega)
          · rw [upd_ne _ _ e1, updN_ne _ e1]; exact h1 j hj)
        (fun j hj hne => by
          by_cases e1 : j = x + 1
          · subst e1; rw [upd_at, upd_at, updN_at]; exact ⟨q1, q2⟩
          · rw [upd_ne _ _ e1, upd_ne _ _ e1, updN_ne _ e1]; exact h2 j hj e1)
        (fun j hj hj2 => by rw [updN_ne _ (by omega)]; exact h3 j hj hj2)
      refine ⟨y, l', lc', ks', lm', g0, g1, g2, g3, g4, ?_, ?_⟩
      · rw [L_X4_sortBy_26, if_neg s3, s1, s2, gdI (by omega) (by omega), if_neg (by rw [nI_clamp (by omega), q2]; exact nI_ge (by omega) (hb _ hlx)), gdI (by omega) (by omega), gdI (by omega) (by omega), gdI (by omega) (by omega), gdI (by omega) (by omega), nI_clamp (by omega), nI_clamp (by omega)]
        exact g5
      · rw [L_X10_sortLine_20, if_neg s3, s1, s2, gdI (by omega) (by omega), nI_clamp (by omega), ec, hl0, h1 x (by omega), v1, Option.bind_some, if_neg (fun q => h (v2.mp q)), gdJ (by omega) (by omega), gdI (by omega) (by omega), nI_clamp (by omega), ← h1 x (by omega)]
        exact g6
/-- rows sorted: both sides come to the same line -/
theorem sort_in (hV : VT R C kd cl tg) (hM : MT R C kd cl tg now) (hm : m ≤ 6) (hO : OD C kd m od oc om) (hcC : ∀ c, c < C → kd c ≤ 10 → RC R kd cl dC rC c) (hcM : ∀ c, c < C → kd c ≤ 10 → RC R kd cl dM rM c) (x1 : Int32) (lc ks lm : Nat → Int32) (hL : LN R id lm) :
    ∃ (ln : Nat → Nat) (lc' ks' lm' : Nat → Int32), LPm R ln ∧ LN R ln lc' ∧ LN R ln lm' ∧ f_X4_sortBy (nI R) lc ks (nI m) oc rC x1 = some (lc', ks') ∧ f_X10_sortLine (nI m) now rM lm om x1 = some lm' := by
  have h16 := hV.1
  have h6 := hV.2.1
  have key : ∀ (k i n f : Nat) (l : Nat → Nat) (lc ks lm : Nat → Int32), i + k = R → k < n → k < f → 0 < i → LPm R l → (∀ j, j < R → lm j = nI (l j)) → (∀ j, j < i → lc j = nI (l j) ∧ ks j = nI (kK (decide (¬ x1 = 0)) (ro R kd cl od (l j)) m)) → (∀ j, i ≤ j → j < R → l j = j) →
      ∃ (ln : Nat → Nat) (lc' ks' lm' : Nat → Int32), LPm R ln ∧ LN R ln lc' ∧ LN R ln lm' ∧ L_X4_sortBy_3 (nI R) (nI m) oc rC x1 n (nI i) lc ks = some (lc', ks') ∧ L_X10_sortLine_2 (nI m) now rM om x1 f (nI i) lm = some lm' := by
    intro k
    induction k with
    | zero =>
      intro i n f l lc ks lm hi hn hf h0 hP h1 h2 h3
      obtain ⟨n, rfl⟩ : ∃ n', n = n' + 1 := ⟨n - 1, by omega⟩
      obtain ⟨f, rfl⟩ : ∃ f', f = f' + 1 := ⟨f - 1, by omega⟩
      obtain rfl : i = R := by omega
      refine ⟨l, lc, ks, lm, hP, fun r hr => (h2 r hr).1, h1, ?_, ?_⟩
      · rw [L_X4_sortBy_3, if_pos (nI_le (Nat.le_refl _) (by omega))]
      · rw [L_X10_sortLine_2, m_rows hM, Option.bind_some, if_pos (nI_le (Nat.le_refl _) (by omega))]
    | succ k ih =>
      intro i n f l lc ks lm hi hn hf h0 hP h1 h2 h3
      obtain ⟨n, rfl⟩ : ∃ n', n = n' + 1 := ⟨n - 1, by omega⟩
      obtain ⟨f, rfl⟩ : ∃ f', f = f' + 1 := ⟨f - 1, by omega⟩
      have hiR : i < R := by omega
      have hli := h3 i (Nat.le_refl _) hiR
      obtain ⟨y, l', lc', ks', lm', g0, g1, g2, g3, g4, g5, g6⟩ := sort20 hV hm hO hcM x1 hiR lm (by rw [h1 i hiR, hli]) i fu l lc ks lm (Nat.le_refl _) (fu_lt (by omega))
        (hP.cong (fun r hr => by
          by_cases e : r = i
          · subst e; rw [updN_at, hli]
          · rw [updN_ne _ e])) h1 (fun j hj hne => h2 j (by omega)) (fun j hj hj2 => h3 j (by omega) hj2)
      obtain ⟨ln, lc2, ks2, lm2, r1, r2, r3, r4, r5⟩ := ih (i + 1) n f (updN l' y i) (upd lc' y (nI i)) (upd ks' y (nI (kK (decide (¬ x1 = 0)) (ro R kd cl od i) m))) (upd lm' y (nI i)) (by omega) (by omega) (by omega) (by omega) g1
        (fun j hj => by
          by_cases e : j = y
          · subst e; rw [upd_at, updN_at]
          · rw [upd_ne _ _ e, updN_ne _ e]; exact g2 j hj)
        (fun j hj => by
          by_cases e : j = y
          · subst e; rw [upd_at, upd_at, updN_at]; exact ⟨rfl, rfl⟩
          · rw [upd_ne _ _ e, upd_ne _ _ e, updN_ne _ e]; exact g3 j (by omega) e)
        (fun j hj hj2 => by rw [updN_ne _ (by omega)]; exact g4 j (by omega) hj2)
      refine ⟨ln, lc2, ks2, lm2, r1, r2, r3, ?_, ?_⟩
      · rw [L_X4_sortBy_3, if_neg (nI_ge hiR (by omega)), c_key hV hm hO hcC x1 hiR, Option.bind_some, g5, Option.bind_some, gdI (show y < 16 by omega) (by omega), gdI (show y < 16 by omega) (by omega), nI_clamp (by omega), nI_1]
        exact r4
      · rw [L_X10_sortLine_2, m_rows hM, Option.bind_some, if_neg (nI_ge hiR (by omega)), gdI (by omega) (by omega), g6, Option.bind_some, gdI (show y < 16 by omega) (by omega), nI_clamp (by omega), nI_clamp (by omega), h1 i hiR, hli, nI_1]
        exact r5
  unfold f_X4_sortBy f_X10_sortLine
  by_cases h0 : R = 0
  · subst h0
    refine ⟨id, lc, ks, lm, LPm.id 0, fun r hr => by omega, hL, ?_, ?_⟩
    · show (L_X4_sortBy_3 (nI 0) (nI m) oc rC x1 (4095 + 1) 0 lc ks).bind _ = _
      rw [L_X4_sortBy_3, if_pos (by decide), Option.bind_some]
    · show (L_X10_sortLine_2 (nI m) now rM om x1 (4095 + 1) 1 lm).bind _ = _
      rw [L_X10_sortLine_2, m_rows hM, Option.bind_some, if_pos (by decide), Option.bind_some]
  · have h0R : 0 < R := by omega
    obtain ⟨ln, lc2, ks2, lm2, r1, r2, r3, r4, r5⟩ := key (R - 1) 1 4095 fu id (upd lc 0 (nI 0)) (upd ks 0 (nI (kK (decide (¬ x1 = 0)) (ro R kd cl od 0) m))) lm (by omega) (by omega) (fu_lt (by omega)) (by omega) (LPm.id R) hL (fun j hj => by
      obtain rfl : j = 0 := by omega
      rw [upd_at, upd_at]; exact ⟨rfl, rfl⟩) (fun j hj hj2 => rfl)
    have hc0 := c_key hV hm hO hcC x1 h0R
    refine ⟨ln, lc2, ks2, lm2, r1, r2, r3, ?_, ?_⟩
    · show (L_X4_sortBy_3 (nI R) (nI m) oc rC x1 (4095 + 1) (nI 0) lc ks).bind _ = _
      rw [L_X4_sortBy_3, if_neg (nI_ge h0R (by omega)), hc0, Option.bind_some]
      have : L_X4_sortBy_26 (nI (kK (decide (¬ x1 = 0)) (ro R kd cl od 0) m)) fu (nI 0) lc ks = some (nI 0, lc, ks) := by
        show L_X4_sortBy_26 _ (4095 + 1) (nI 0) lc ks = _
        rw [L_X4_sortBy_26, if_pos (by decide)]
      rw [this, Option.bind_some, gdI (show 0 < 16 by omega) (by omega), gdI (show 0 < 16 by omega) (by omega), nI_clamp (by omega), nI_1, r4, Option.bind_some]
    · have r5' : L_X10_sortLine_2 (nI m) now rM om x1 fu 1 lm = some lm2 := r5
      rw [r5', Option.bind_some]
end
section
variable {next size undoMany cols rows asz amany tsz typed : Int32} {sk st : Nat → Nat → Int32} {sc : Nat → Nat → Int64} {scol srow kinds tags signs text : Nat → Int32} {undos cells now nu row : Nat → Int64}
theorem op_sorts (hT : TT cols rows kinds tags cells now) (hU : UX next size sk st sc scol srow undoMany undos) (hX : TX tsz signs typed text) (hA : AX asz nu amany row) (rd rr : Nat → Int32) (rw' : Nat → Int64) (rf oc : Nat → Int32) (lr lp : Int32) (line keys lt : Nat → Int32) (lc : Nat → Int64) (un : Nat → Int32) (pm : Int32) (rks dis pro lm om : Nat → Int32) (thn was : Nat → Int64) (x : Int32) :
    ∃ r q, f_X9_sorts cols rows kinds tags cells next size sk st sc scol srow tsz signs asz nu rd rr rw' rf oc lr lp line keys lt lc un x = some r ∧ f_X10_sorts typed amany pm undoMany now text row rks dis pro lm om thn undos was x = some q ∧ r.1 = q.1 ∧
      TT cols rows kinds r.2.1 r.2.2.1 q.2.2.2.2.2.2.2.2.2.2.1 ∧ UX r.2.2.2.1 r.2.2.2.2.1 r.2.2.2.2.2.1 r.2.2.2.2.2.2.1 r.2.2.2.2.2.2.2.1 r.2.2.2.2.2.2.2.2.1 r.2.2.2.2.2.2.2.2.2.1 q.2.2.2.2.2.2.2.2.2.1 q.2.2.2.2.2.2.2.2.2.2.2.2.2.2.2.2.2.2.1 ∧
      TX r.2.2.2.2.2.2.2.2.2.2.1 signs q.2.1 text ∧ AX r.2.2.2.2.2.2.2.2.2.2.2.1 r.2.2.2.2.2.2.2.2.2.2.2.2.1 q.2.2.1 q.2.2.2.2.2.2.2.2.2.2.2.1 := by
  obtain ⟨sk', st', sc', scol', srow', next', size', um', un', was', -, c1, c2, c3, c4, c5, c6, c7⟩ := chg hT hU was
  obtain ⟨R, C, kd, cl, tg, hV, hC, hM⟩ := id hT
  obtain ⟨n, b, hn, rfl, rfl, hb⟩ := id hX
  have h16 := hV.1
  unfold f_X9_sorts f_X10_sorts f_X7_clear
  rcases order_in hV hC hM hn hb oc om with ⟨q, s, a, m', om', hq, e1, e2⟩ | ⟨m', od', oc', om', hm, hO, e1, e2⟩
  · rw [e1, e2, Option.bind_some, Option.bind_some, Option.bind_some, ifbf, if_neg (show ¬ (nI q, s).1 = -1 from wrong_no q (by omega))]
    exact ⟨_, _, rfl, rfl, rfl, hT, hU, TX.nil _ _, hA⟩
  · obtain ⟨dis', rks', wts', isF', a1, a2⟩ := c_readAll hV hC rd rr rw' rf
    obtain ⟨line', u', l1, l2, l3⟩ := c_read hV hC line un
    obtain ⟨many, rM, dM, pM, lM, b1, b2, b3, b4⟩ := m_runsNow hV hM rks dis pro lm
    obtain ⟨ln, lc2, ks2, lm2, s1, s2, s3, s4, s5⟩ := sort_in hV hM hm hO a2 b2 x line' keys lM b4
    obtain ⟨lt2, lcc, tags2, cells2, t1, t2⟩ := c_carryOut hV hC s2 s1 lt lc
    obtain ⟨now2, thn2, w1, w2⟩ := m_takeLine hV hM s3 s1 thn
    rw [e1, e2, Option.bind_some, Option.bind_some, Option.bind_some, ifbt, if_pos rfl, c1, Option.bind_some, a1, Option.bind_some, l1, Option.bind_some]
    simp only []
    rw [c_runsOfLine hV l2 (LPm.id R) l3, Option.bind_some, s4, Option.bind_some]
    simp only []
    rw [c_runsOfLine hV s2 s1 l3, Option.bind_some, c_tell2, Option.bind_some, c2, Option.bind_some, t1, Option.bind_some, c5, Option.bind_some, b1, Option.bind_some]
    simp only []
    rw [s5, Option.bind_some, m_runsOfLine hV hM b2 b3 s3 s1, Option.bind_some, li0, m_tell 0 (by omega), Option.bind_some]
    simp only []
    rw [m_tell 1 (by omega), Option.bind_some, w1, Option.bind_some]
    exact ⟨_, _, rfl, rfl, rfl, ⟨R, C, kd, _, _, hV.line s1, t2, w2⟩, c6, TX.nil _ _, AX.two _ _ _ _⟩
end
