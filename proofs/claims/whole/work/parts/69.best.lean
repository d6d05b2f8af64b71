/-! the best order of all -/
theorem in15 : ∀ m, m < 7 → f_X10_in (nI m) 1 5 = some (decide (1 ≤ m) && decide (m ≤ 5)) := by decide +kernel
theorem li97 : (97 : Int32) = nI 97 := by decide
theorem ne_m1 {a : Nat} (h : a < 2 ^ 31) : ¬ nI a = -1 := fun q => nI_pos h (by rw [q]; decide)
section
variable {R C : Nat} {kd : Nat → Nat} {cl : Nat → Nat → Int64} {tg : Nat → Nat} {now : Nat → Int64} {cols rows : Int32} {kinds tags : Nat → Int32} {cells : Nat → Int64}
variable {m : Nat} {pc : Nat → Nat}
theorem m_best31 (hm : m ≤ 6) {o : Int32 × (Nat → Int32) × (Nat → Int32) × (Nat → Int32)} (ho : o.1 = nI m) : L_X10_best_31 o fu 1 0 = some (nI (m ^ m)) :=
  up_loop (fun n i s => L_X10_best_31 o n s i) (C := m) (fun i => nI (m ^ i))
    (fun n i hi => by
      show L_X10_best_31 o (n + 1) (nI (m ^ i)) (nI i) = L_X10_best_31 o n (nI (m ^ (i + 1))) (nI (i + 1))
      rw [L_X10_best_31, ho, if_neg (nI_ge hi (by omega)), pk_mul, nI_1, Nat.pow_succ])
    (fun n => by
      show L_X10_best_31 o (n + 1) (nI (m ^ m)) (nI m) = _
      rw [L_X10_best_31, ho, if_pos (nI_le (Nat.le_refl _) (by omega))])
    m fu 0 (by omega) (fu_lt (by omega))
theorem m_lay20 (hm1 : 1 ≤ m) (hm : m ≤ 6) {pM : Nat → Int32} (hpro : ∀ k, k < m → pM k = nI (pc k)) {w : Nat} (hw : w < 2 ^ 30) : ∀ (r n : Nat) (om : Nat → Int32), r ≤ m → r < n → (∀ k, r ≤ k → k < m → om k = nI (pc (dig m w k))) →
    ∃ om', L_X10_layOrder_20 (nI m) pM n (nI (w / m ^ (m - r))) (sn m w (m - r)) (nI r - 1) om = some (sn m w m, om') ∧ ∀ k, k < m → om' k = nI (pc (dig m w k)) := by
  intro r
  induction r with
  | zero =>
    intro n om _ hn ho
    obtain ⟨n, rfl⟩ : ∃ n', n = n' + 1 := ⟨n - 1, by omega⟩
    refine ⟨om, ?_, fun k hk => ho k (Nat.zero_le _) hk⟩
    rw [L_X10_layOrder_20, if_pos (by decide)]
    rfl
  | succ r ih =>
    intro n om hr hn ho
    obtain ⟨n, rfl⟩ : ∃ n', n = n' + 1 := ⟨n - 1, by omega⟩
    have e1 : nI (r + 1) - 1 = nI r := nI_pred r
    have e2 : nI r + (-1) = nI r - 1 := (nI_m1 r (by omega)).2.2.2
    have ej : m - r = (m - (r + 1)) + 1 := by omega
    have hle : w / m ^ (m - (r + 1)) ≤ w := Nat.div_le_self _ _
    have hmod : w / m ^ (m - (r + 1)) % m < m := Nat.mod_lt _ (by omega)
    obtain ⟨om', q1, q2⟩ := ih n (upd om r (nI (pc (dig m w r)))) (by omega) (by omega) (fun k hk1 hk2 => by
      by_cases e : k = r
      · subst e; exact upd_at _ _ _
      · rw [upd_ne _ _ e]; exact ho k (by omega) hk2)
    refine ⟨om', ?_, q2⟩
    have hd : dig m w r = w / m ^ (m - (r + 1)) % m := by
      unfold dig
      rw [show m - 1 - r = m - (r + 1) by omega]
    have hs : sn m w (m - r) = sn m w (m - (r + 1)) ||| ((1 : Int32) <<< (nI (w / m ^ (m - (r + 1)) % m) &&& 31)) := by rw [ej]; rfl
    have hq : w / m ^ (m - r) = w / m ^ (m - (r + 1)) / m := by rw [ej, Nat.pow_succ, Nat.div_div_eq_div_mul]
    rw [hs, hq, hd] at q1
    rw [L_X10_layOrder_20, e1, if_neg (nI_pos (by omega)), if_neg (nI_ne0 (by omega) (by omega)), pk_rem (by omega) (by omega) (by omega), gdI (show w / m ^ (m - (r + 1)) % m < 6 by omega) (by omega), gdI (show r < 6 by omega) (by omega), if_neg (nI_ne0 (by omega) (by omega)), if_neg (nI_ne0 (by omega) (by omega)), nI_clamp (by omega), nI_clamp (by omega), hpro _ hmod, pk_div (by omega) (by omega) (by omega), e2]
    exact q1
theorem m_layOrder (hm1 : 1 ≤ m) (hm : m ≤ 6) {pM : Nat → Int32} (hpro : ∀ k, k < m → pM k = nI (pc k)) {w : Nat} (hw : w < 2 ^ 30) (om : Nat → Int32) :
    ∃ om', f_X10_layOrder (nI m) pM om (nI w) = some (vld m w, nI m, om') ∧ ∀ k, k < m → om' k = nI (pc (dig m w k)) := by
  obtain ⟨om', q1, q2⟩ := m_lay20 (m := m) hm1 hm hpro hw m fu om (Nat.le_refl _) (fu_lt (by omega)) (fun k h1 h2 => by omega)
  refine ⟨om', ?_, q2⟩
  rw [Nat.sub_self, Nat.pow_zero, Nat.div_one] at q1
  have q1' : L_X10_layOrder_20 (nI m) pM fu (nI w) 0 (nI m - 1) om = some (sn m w m, om') := q1
  unfold f_X10_layOrder vld
  rw [q1', Option.bind_some]
  by_cases h : sn m w m = ((1 : Int32) <<< (nI m &&& 31)) - 1
  · simp [h]
  · simp [h]
theorem m_best77 (hV : VT R C kd cl tg) (hM : MT R C kd cl tg now) (lm : Nat → Int32) : ∃ lm', LN R id lm' ∧ L_X10_best_77 now fu 0 lm = some lm' := by
  have h16 := hV.1
  exact up_ex (L_X10_best_77 now) (C := R) (fun i s => ∀ r, r < i → s r = nI r) (fun s => ∀ r, r < R → s r = nI r)
    (fun n i s hi hI => ⟨upd s i (nI i), fun r hr => by
        by_cases h : r = i
        · rw [h, upd_at]
        · rw [upd_ne _ _ h]; exact hI r (by omega), by
        rw [L_X10_best_77, m_rows hM]
        simp only [Option.bind_some]
        rw [if_neg (nI_ge hi (by omega)), gdI (by omega) (by omega), nI_clamp (by omega), nI_1]⟩)
    (fun n s hI => ⟨s, hI, by
        rw [L_X10_best_77, m_rows hM]
        simp only [Option.bind_some]
        rw [if_pos (nI_le (Nat.le_refl _) (by omega))]⟩) R fu 0 lm (by omega) (fu_lt (by omega)) (fun r hr => by omega)
theorem m_best132 (hm : m ≤ 6) {o : Int32 × (Nat → Int32) × (Nat → Int32) × (Nat → Int32)} (ho : o.1 = nI m) (p : Bool × Int32 × (Nat → Int32)) (bo : Nat → Int32) : ∃ bo', (∀ k, k < m → bo' k = p.2.2 k) ∧ L_X10_best_132 o p fu 0 bo = some bo' :=
  up_ex (L_X10_best_132 o p) (C := m) (fun i s => ∀ r, r < i → s r = p.2.2 r) (fun s => ∀ r, r < m → s r = p.2.2 r)
    (fun n i s hi hI => ⟨upd s i (p.2.2 i), fun r hr => by
        by_cases h : r = i
        · rw [h, upd_at]
        · rw [upd_ne _ _ h]; exact hI r (by omega), by
        rw [L_X10_best_132, ho, if_neg (nI_ge hi (by omega)), gdI (by omega) (by omega), gdI (by omega) (by omega), nI_clamp (by omega), nI_1]⟩)
    (fun n s hI => ⟨s, hI, by
        rw [L_X10_best_132, ho, if_pos (nI_le (Nat.le_refl _) (by omega))]⟩) m fu 0 bo (by omega) (fu_lt (by omega)) (fun r hr => by omega)
theorem m_best175 (hm : m ≤ 6) {o : Int32 × (Nat → Int32) × (Nat → Int32) × (Nat → Int32)} (ho : o.1 = nI m) (p : Int32 × Int32 × (Nat → Int32) × (Nat → Int32) × (Nat → Int32)) (row : Nat → Int64) : ∃ row', L_X10_best_175 o p fu 0 0 row = some (nI m, row') ∧ ∀ k, k < m → row' k = (p.2.2.2.2 k).toInt64 := by
  obtain ⟨w, hw, hwe⟩ := up_ex (fun n i (s : Int32 × (Nat → Int64)) => L_X10_best_175 o p n i s.1 s.2) (C := m)
    (fun i w => w.1 = nI i ∧ ∀ k, k < i → w.2 k = (p.2.2.2.2 k).toInt64) (fun w => w.1 = nI m ∧ ∀ k, k < m → w.2 k = (p.2.2.2.2 k).toInt64)
    (fun n i s hi hI => ⟨(nI (i + 1), vp_updL s.2 i (p.2.2.2.2 i).toInt64), ⟨rfl, fun k hk => by
        by_cases e : k = i
        · subst e; exact updL_at _ _ _
        · show vp_updL s.2 i _ k = _
          rw [updL_ne _ _ e]; exact hI.2 k (by omega)⟩, by
      show L_X10_best_175 o p (n + 1) (nI i) s.1 s.2 = L_X10_best_175 o p n (nI (i + 1)) (nI (i + 1)) (vp_updL s.2 i (p.2.2.2.2 i).toInt64)
      rw [L_X10_best_175, ho, if_neg (nI_ge hi (by omega)), gdI (by omega) (by omega), nI_clamp (by omega), hI.1, m_tell i (by omega), Option.bind_some, nI_1]⟩)
    (fun n s hI => ⟨s, hI, by
      show L_X10_best_175 o p (n + 1) (nI m) s.1 s.2 = _
      rw [L_X10_best_175, ho, if_pos (nI_le (Nat.le_refl _) (by omega))]⟩)
    m fu 0 (0, row) (by omega) (fu_lt (by omega)) ⟨rfl, fun k hk => by omega⟩
  have hwe' : L_X10_best_175 o p fu 0 0 row = some w := hwe
  exact ⟨w.2, by rw [hwe', ← hw.1], hw.2⟩
/-- the best up to now: the same on both sides -/
def BST (m e : Nat) (xc xm asz : Int32) (nu : Nat → Int64) (bo : Nat → Int32) : Prop := e ≤ 96 ∧ xc = nI e ∧ xm = nI e ∧ asz = nI m ∧ ∀ k, k < m → nu k = (bo k).toInt64
theorem ct_from (p : Nat → Bool) (w d : Nat) : fb_ct (fun k => p (w + k)) (d + 1) = (if p w then 1 else 0) + fb_ct (fun k => p (w + 1 + k)) d := by
  rw [Nat.add_comm d 1, fb_ct_split]
  have e1 : fb_ct (fun k => p (w + k)) 1 = if p w then 1 else 0 := by
    rw [show (1 : Nat) = 0 + 1 from rfl, fb_ct_succ]
    show 0 + _ = _
    rw [Nat.zero_add]; rfl
  rw [e1]
  congr 1
  apply fb_ct_cong
  intro k _
  show p (w + (1 + k)) = p (w + 1 + k)
  rw [Nat.add_assoc]
theorem best_sim (hV : VT R C kd cl tg) (hM : MT R C kd cl tg now) (hm1 : 1 ≤ m) (hm5 : m ≤ 5) (hmC : m = fb_ct (pr kd) C) (hpC : ∀ k, k < m → pc k < C ∧ kd (pc k) ≤ 10) (hpl : ∀ j k, j < m → k < m → (pc j < pc k ↔ j < k))
    (x1 : Int32) {oA : Int32 × (Nat → Int32)} (hA1 : oA.1 = nI m) {oB : (Nat → Int32) × (Nat → Int32) × (Nat → Int64) × (Nat → Int32)} (hB : ∀ c, c < C → kd c ≤ 10 → RC R kd cl oB.1 oB.2.1 c) {oL : Int32 × Int32 × (Nat → Int32) × (Nat → Int32)} (hL1 : oL.1 = nI R) (hL2 : oL.2.1 = nI m) (hL3 : UT R C kd cl oL.2.2.2)
    {oM : Int32 × (Nat → Int32) × (Nat → Int32) × (Nat → Int32)} (hM1 : oM.1 = nI m) (hM2 : ∀ c, c < C → kd c ≤ 10 → RC R kd cl oM.2.2.1 oM.2.1 c) (hM3 : PL C kd oM.1 oM.2.2.2) (hpro : ∀ k, k < m → oM.2.2.2 k = nI (pc k)) (hmm : m ^ m ≤ 3125) :
    ∀ (d w n f t : Nat) (xc xm mo asz omy : Int32) (nu : Nat → Int64) (oc lc ks lm om bo : Nat → Int32), w + d = m ^ m → d < n → d < f → t + fb_ct (fun k => vld m (w + k)) d ≤ 120 →
      ((xc = nI 97 ∧ xm = -1 ∧ nv m d w ≠ none) ∨ ∃ e, BST m e xc xm asz nu bo) →
      ((nv m d w = none ∧ mo = 0) ∨ ∃ v, nv m d w = some v ∧ mo = 1 ∧ ∀ k, k < m → oc k = nI (pc (dig m v k))) →
      ∃ (wc : Int32 × Int32 × (Nat → Int64) × (Nat → Int32) × (Nat → Int32) × (Nat → Int32)) (wm : Int32 × Int32 × (Nat → Int32) × (Nat → Int32) × (Nat → Int32)) (e : Nat), L_X9_best_65 x1 oA oB oL n xc mo (nI t) asz nu oc lc ks = some wc ∧ L_X10_best_56 now x1 oM (nI (m ^ m)) f xm (nI w) omy lm om bo = some wm ∧ BST m e wc.1 wm.1 wc.2.1 wc.2.2.1 wm.2.2.2.2 := by
  have h16 := hV.1
  have h6 := hV.2.1
  have fin : ∀ (w n t : Nat) (xc mo asz : Int32) (nu : Nat → Int64) (oc lc ks : Nat → Int32), mo = 0 → 0 < n → L_X9_best_65 x1 oA oB oL n xc mo (nI t) asz nu oc lc ks = some (xc, asz, nu, oc, lc, ks) := by
    intro w n t xc mo asz nu oc lc ks hmo hn
    obtain ⟨n, rfl⟩ : ∃ n', n = n' + 1 := ⟨n - 1, by omega⟩
    rw [L_X9_best_65, if_pos hmo]
  intro d
  induction d with
  | zero =>
    intro w n f t xc xm mo asz omy nu oc lc ks lm om bo hw hn hf ht hb hc
    obtain ⟨f, rfl⟩ : ∃ f', f = f' + 1 := ⟨f - 1, by omega⟩
    have hmo : mo = 0 := by
      rcases hc with ⟨_, h⟩ | ⟨v, h, _⟩
      · exact h
      · cases h
    rcases hb with ⟨_, _, h⟩ | ⟨e, he⟩
    · exact absurd rfl h
    · refine ⟨_, (xm, omy, lm, om, bo), e, fin w n t xc mo asz nu oc lc ks hmo hn, ?_, he⟩
      rw [L_X10_best_56, if_pos (nI_le (by omega) (by omega))]
  | succ d ih =>
    intro w n f t xc xm mo asz omy nu oc lc ks lm om bo hw hn hf ht hb hc
    obtain ⟨f, rfl⟩ : ∃ f', f = f' + 1 := ⟨f - 1, by omega⟩
    obtain ⟨om', o1, o2⟩ := m_layOrder (m := m) hm1 (by omega) hpro (show w < 2 ^ 30 by omega) om
    have hge : ¬ nI (m ^ m) ≤ nI w := nI_ge (by omega) (by omega)
    rw [ct_from] at ht
    cases hv : vld m w with
    | false =>
      have hnv : nv m (d + 1) w = nv m d (w + 1) := by
        rw [nv, hv]; rfl
      rw [hnv] at hb hc
      rw [hv] at ht
      obtain ⟨wc, wm, e, r1, r2, r3⟩ := ih (w + 1) n f t xc xm mo asz (nI m) nu oc lc ks lm om' bo (by omega) (by omega) (by omega) (by simpa using ht) hb hc
      refine ⟨wc, wm, e, r1, ?_, r3⟩
      rw [L_X10_best_56, if_neg hge, hM1, o1, Option.bind_some]
      simp only [hv]
      rw [ifbf, nI_1]
      exact r2
    | true =>
      have hnv : nv m (d + 1) w = some w := by
        rw [nv, hv]; rfl
      rw [hnv] at hb hc
      rw [hv, if_pos rfl] at ht
      obtain ⟨hmo, hoc⟩ : mo = 1 ∧ ∀ k, k < m → oc k = nI (pc (dig m w k)) := by
        rcases hc with ⟨h, _⟩ | ⟨v, h, h2, h3⟩
        · cases h
        · cases h; exact ⟨h2, h3⟩
      obtain ⟨n, rfl⟩ : ∃ n', n = n' + 1 := ⟨n - 1, by omega⟩
      have hdl : ∀ k, dig m w k < m := fun k => Nat.mod_lt _ (by omega)
      have hO : OD C kd m (fun k => pc (dig m w k)) oc om' := fun k hk => ⟨(hpC _ (hdl k)).1, (hpC _ (hdl k)).2, hoc k hk, o2 k hk⟩
      obtain ⟨lm0, l1, l2⟩ := m_best77 hV hM lm
      obtain ⟨ln, lc2, ks2, lm2, s1, s2, s3, s4, s5⟩ := sort_in hV hM (by omega) hO hB hM2 x1 lc ks lm0 l1
      have hrl : rl C kd cl ln R ≤ 96 := by
        have := rl_le C kd cl ln R
        have : R * C ≤ 16 * 6 := Nat.mul_le_mul h16 h6
        omega
      have rc : f_X4_runsOfLine (nI R) (nI m) lc2 oL.2.2.2 = some (nI (rl C kd cl ln R)) := by
        rw [hmC]; exact c_runsOfLine hV s2 s1 hL3
      have rm : f_X10_runsOfLine oM.1 now oM.2.1 oM.2.2.2 lm2 = some (nI (rl C kd cl ln R)) := m_runsOfLine hV hM hM2 hM3 s3 s1
      obtain ⟨bo', b1, b2⟩ := m_best132 (m := m) (by omega) hM1 (true, nI m, om') bo
      obtain ⟨nu', t1, t2⟩ := c_tellOrder (m := m) (by omega) nu oc
      -- the step of both, the new best named
      obtain ⟨xc', asz', nu', bo', e, hBST, hcS, hmS⟩ : ∃ (xc' asz' : Int32) (nu' : Nat → Int64) (bo' : Nat → Int32) (e : Nat), BST m e xc' xc' asz' nu' bo' ∧
          ((if xc ≤ nI (rl C kd cl ln R) then (some (xc, asz, nu)) else ((f_X4_runsOfLine (nI R) (nI m) lc2 oL.2.2.2).bind (fun o_2540 => ((f_X9_tellOrder nu (nI m) oc).bind (fun o_2542 => (some (o_2540, o_2542.1, o_2542.2))))))) = some (xc', asz', nu')) ∧
          L_X10_best_56 now x1 oM (nI (m ^ m)) (f + 1) xm (nI w) omy lm om bo = L_X10_best_56 now x1 oM (nI (m ^ m)) f xc' (nI (w + 1)) (nI m) lm2 om' bo' := by
        have hstart : L_X10_best_56 now x1 oM (nI (m ^ m)) (f + 1) xm (nI w) omy lm om bo = (if xm = (-1 : Int32) then ((L_X10_best_132 oM (true, nI m, om') fu (0 : Int32) bo).bind (fun w_1086 => (L_X10_best_56 now x1 oM (nI (m ^ m)) f (nI (rl C kd cl ln R)) (nI (w + 1)) (nI m) lm2 om' w_1086))) else (if nI (rl C kd cl ln R) < xm then ((L_X10_best_132 oM (true, nI m, om') fu (0 : Int32) bo).bind (fun w_1091 => (L_X10_best_56 now x1 oM (nI (m ^ m)) f (nI (rl C kd cl ln R)) (nI (w + 1)) (nI m) lm2 om' w_1091))) else (L_X10_best_56 now x1 oM (nI (m ^ m)) f xm (nI (w + 1)) (nI m) lm2 om' bo))) := by
          rw [L_X10_best_56, if_neg hge, hM1, o1, Option.bind_some, hv]
          simp only []
          rw [ifbt, l2, Option.bind_some, s5, Option.bind_some, ← hM1, rm, Option.bind_some, nI_1]
        have hnew : (if xc ≤ nI (rl C kd cl ln R) then (some (xc, asz, nu)) else ((f_X4_runsOfLine (nI R) (nI m) lc2 oL.2.2.2).bind (fun o_2540 => ((f_X9_tellOrder nu (nI m) oc).bind (fun o_2542 => (some (o_2540, o_2542.1, o_2542.2))))))) = if xc ≤ nI (rl C kd cl ln R) then some (xc, asz, nu) else some (nI (rl C kd cl ln R), nI m, nu') := by
          rw [rc, t1]; rfl
        have hB' : BST m (rl C kd cl ln R) (nI (rl C kd cl ln R)) (nI (rl C kd cl ln R)) (nI m) nu' bo' := ⟨hrl, rfl, rfl, rfl, fun k hk => by
          rw [t2 k hk, b1 k hk]
          show (oc k).toInt64 = (om' k).toInt64
          rw [o2 k hk, hoc k hk]⟩
        rcases hb with ⟨rfl, rfl, _⟩ | ⟨e, he1, rfl, rfl, he4, he5⟩
        · refine ⟨nI (rl C kd cl ln R), nI m, nu', bo', rl C kd cl ln R, hB', ?_, ?_⟩
          · rw [hnew, if_neg (nI_ge (by omega) (by omega))]
          · rw [hstart, if_pos rfl, b2, Option.bind_some]
        · by_cases hlt : rl C kd cl ln R < e
          · refine ⟨nI (rl C kd cl ln R), nI m, nu', bo', rl C kd cl ln R, hB', ?_, ?_⟩
            · rw [hnew, if_neg (nI_ge hlt (by omega))]
            · rw [hstart, if_neg (ne_m1 (by omega)), if_pos (nI_lt hlt (by omega)), b2, Option.bind_some]
          · refine ⟨nI e, asz, nu, bo, e, ⟨he1, rfl, rfl, he4, he5⟩, ?_, ?_⟩
            · rw [hnew, if_pos (nI_le (by omega) (by omega))]
            · rw [hstart, if_neg (ne_m1 (by omega)), if_neg (nI_nlt (by omega) (by omega))]
      have hst := step_to (m := m) (pc := pc) hm1 hm5 (fun k hk => by have := (hpC k hk).1; omega) hpl (w := w) (by omega) hv hoc
      rw [show m ^ m - w - 1 = d by omega] at hst
      have hclass : ∀ (b : Bool) (oc' : Nat → Int32), f_X2_stepOn (nI m) oc = some (b, oc') → L_X9_best_65 x1 oA oB oL (n + 1) xc mo (nI t) asz nu oc lc ks = L_X9_best_65 x1 oA oB oL n xc' (b2i b) (nI (t + 1)) asz' nu' oc' lc2 ks2 := by
        intro b oc' hso
        rw [L_X9_best_65, hmo, if_neg (by decide), show (120 : Int32) = nI 120 from li120, if_neg (nI_ge (by omega) (by omega)), hL1, hL2, hA1, s4, Option.bind_some]
        simp only []
        rw [rc, Option.bind_some, ← rc, hcS, Option.bind_some, hso, Option.bind_some, nI_1]
      rcases hst with ⟨g1, oc', g2⟩ | ⟨v, oc', g1, g2, g3⟩
      · obtain ⟨wc, wm, e', r1, r2, r3⟩ := ih (w + 1) n f (t + 1) xc' xc' 0 asz' (nI m) nu' oc' lc2 ks2 lm2 om' bo' (by omega) (by omega) (by omega) (by omega) (Or.inr ⟨e, hBST⟩) (Or.inl ⟨g1, rfl⟩)
        exact ⟨wc, wm, e', by rw [hclass false oc' g2]; exact r1, by rw [hmS]; exact r2, r3⟩
      · obtain ⟨wc, wm, e', r1, r2, r3⟩ := ih (w + 1) n f (t + 1) xc' xc' 1 asz' (nI m) nu' oc' lc2 ks2 lm2 om' bo' (by omega) (by omega) (by omega) (by omega) (Or.inr ⟨e, hBST⟩) (Or.inr ⟨v, g1, rfl, g3⟩)
        exact ⟨wc, wm, e', by rw [hclass true oc' g2]; exact r1, by rw [hmS]; exact r2, r3⟩
end
theorem pow_le5 : ∀ m, m < 6 → m ^ m ≤ 3125 := by decide +kernel
section
variable {next size undoMany cols rows asz amany tsz typed : Int32} {kinds tags : Nat → Int32} {undos cells now nu row : Nat → Int64}
theorem op_best (hT : TT cols rows kinds tags cells now) (hA : AX asz nu amany row) (rd rr : Nat → Int32) (rw' : Nat → Int64) (rf oc : Nat → Int32) (lr lp : Int32) (line keys un : Nat → Int32) (omy : Int32) (rks dis pro lm om bo : Nat → Int32) (x : Int32) :
    ∃ r q, f_X9_best cols rows kinds cells asz nu rd rr rw' rf oc lr lp line keys un x = some r ∧ f_X10_best amany omy now row rks dis pro lm om bo x = some q ∧ r.1 = q.1 ∧ AX r.2.1 r.2.2.1 q.2.1 q.2.2.2.2.2.1 := by
  obtain ⟨R, C, kd, cl, tg, hV, hC, hM⟩ := id hT
  have h16 := hV.1
  have h6 := hV.2.1
  have hle := fb_ct_le (pr kd) C
  obtain ⟨pc, hpc⟩ := nth_pr (pr kd) C
  obtain ⟨oc', a1, a2⟩ := c_readProper hV hC oc
  obtain ⟨many, rM, dM, pM, c1, c2, c3⟩ := m_layRanks hV hM rks dis pro
  have hk10 : ∀ k, k < fb_ct (pr kd) C → kd (pc k) ≤ 10 := fun k hk => by simpa [pr] using (hpc k hk).2.1
  unfold f_X9_best f_X10_best
  rw [a1, c1, Option.bind_some, Option.bind_some, c3.1, in15 _ (by omega), Option.bind_some]
  simp only []
  by_cases h0 : fb_ct (pr kd) C = 0
  · rw [h0, if_pos nI_0]
    simp only [show ¬ 1 ≤ 0 by omega, decide_false, Bool.false_and, ifbf]
    exact ⟨_, _, rfl, rfl, rfl, hA⟩
  · rw [if_neg (nI_ne0 (by omega) (by omega)), li5]
    by_cases h5 : fb_ct (pr kd) C ≤ 5
    · rw [if_pos (nI_le h5 (by omega))]
      simp only [h5, show 1 ≤ fb_ct (pr kd) C by omega, decide_true, Bool.true_and, ifbt]
      obtain ⟨dis', rks', wts', isF', b1, b2⟩ := c_readAll hV hC rd rr rw' rf
      obtain ⟨line', u', l1, l2, l3⟩ := c_read hV hC line un
      obtain ⟨-, ⟨w0, p1, p2⟩, p3⟩ := perm_ok (fb_ct (pr kd) C) (by omega) h5
      rw [b1, Option.bind_some, l1, Option.bind_some]
      simp only []
      have hc3 : PL C kd (nI (fb_ct (pr kd) C)) pM := ⟨rfl, c3.2⟩
      obtain ⟨wc, wm, e, r1, r2, r3⟩ := best_sim (m := fb_ct (pr kd) C) (pc := pc) hV hM (by omega) h5 rfl (fun k hk => ⟨(hpc k hk).1, hk10 k hk⟩) (fun j k hj hk => nth_lt hpc hj hk) x
        (oA := (nI (fb_ct (pr kd) C), oc')) rfl (oB := (dis', rks', wts', isF')) b2 (oL := (nI R, nI (fb_ct (pr kd) C), line', u')) rfl rfl l3 (oM := (nI (fb_ct (pr kd) C), rM, dM, pM)) rfl c2 hc3 (fun k hk => c3.at hpc hk) (pow_le5 _ (by omega))
        (fb_ct (pr kd) C ^ fb_ct (pr kd) C) 0 fu fu 0 (nI 97) (-1) 1 asz omy nu oc' line' keys lm om bo (by omega) (fu_lt (by have := pow_le5 (fb_ct (pr kd) C) (by omega); omega)) (fu_lt (by have := pow_le5 (fb_ct (pr kd) C) (by omega); omega)) (by
          have : fb_ct (fun k => vld (fb_ct (pr kd) C) (0 + k)) (fb_ct (pr kd) C ^ fb_ct (pr kd) C) = fb_ct (vld (fb_ct (pr kd) C)) (fb_ct (pr kd) C ^ fb_ct (pr kd) C) := fb_ct_cong (fun k _ => by rw [Nat.zero_add])
          omega)
        (Or.inl ⟨rfl, rfl, by rw [p1]; intro q; cases q⟩) (Or.inr ⟨w0, p1, rfl, fun k hk => by rw [p2 k hk]; exact a2.at hpc hk⟩)
      rw [m_best31 (m := fb_ct (pr kd) C) (by omega) rfl, Option.bind_some]
      have r1' : L_X9_best_65 x (nI (fb_ct (pr kd) C), oc') (dis', rks', wts', isF') (nI R, nI (fb_ct (pr kd) C), line', u') fu 97 1 0 asz nu oc' line' keys = some wc := r1
      have r2' : L_X10_best_56 now x (nI (fb_ct (pr kd) C), rM, dM, pM) (nI (fb_ct (pr kd) C ^ fb_ct (pr kd) C)) fu (-1) 0 omy lm om bo = some wm := r2
      obtain ⟨row', u1, u2⟩ := m_best175 (m := fb_ct (pr kd) C) (by omega) (o := (nI (fb_ct (pr kd) C), rM, dM, pM)) rfl wm row
      rw [r1', r2', Option.bind_some, Option.bind_some, u1, Option.bind_some]
      obtain ⟨-, q2, q3, q4, q5⟩ := r3
      refine ⟨_, _, rfl, rfl, ?_, fb_ct (pr kd) C, by omega, q4, rfl, fun i hi => ?_⟩
      · show wc.1 = wm.1
        rw [q2, q3]
      · show wc.2.2.1 i = row' i
        rw [q5 i hi, u2 i hi]
    · rw [if_neg (nI_ge (by omega) (by omega))]
      simp only [h5, decide_false, Bool.and_false, ifbf]
      exact ⟨_, _, rfl, rfl, rfl, hA⟩
end
