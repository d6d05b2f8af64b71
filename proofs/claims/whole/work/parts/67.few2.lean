/-! columns by how many unlike cells they have: the reference's side -/
theorem LPm.onto {m : Nat} {s : Nat → Nat} (h : LPm m s) {k : Nat} (hk : k < m) : ∃ j, j < m ∧ s j = k := fb_onto h.1 (fun i j hij hj e => by have := h.2 i j (by omega) hj e; omega) hk
/-- the columns told after some steps -/
def tpj (pc s : Nat → Nat) : Nat → Nat → Bool
  | 0 => fun _ => false
  | j + 1 => sete (tpj pc s j) (pc (s j))
section
variable {R C : Nat} {kd : Nat → Nat} {cl : Nat → Nat → Int64} {tg : Nat → Nat} {now : Nat → Int64} {cols rows : Int32} {kinds tags : Nat → Int32} {cells : Nat → Int64}
variable {m : Nat} {pc : Nat → Nat} {d : Nat → Nat} {s : Nat → Nat}
theorem tpj_at (hi : ∀ j k, j < m → k < m → pc j = pc k → j = k) (hP : LPm m s) : ∀ (j : Nat), j ≤ m → ∀ k, k < m → (tpj pc s j (pc k) = true ↔ ∃ j', j' < j ∧ s j' = k)
  | 0, _, k, _ => ⟨fun h => by simp [tpj] at h, fun ⟨j', h, _⟩ => by omega⟩
  | j + 1, hj, k, hk => by
    have ih := tpj_at hi hP j (by omega) k hk
    have hs := hP.1 j (by omega)
    unfold tpj sete
    by_cases e : pc k = pc (s j)
    · rw [if_pos e]
      exact ⟨fun _ => ⟨j, by omega, hi _ _ hs hk e.symm⟩, fun _ => rfl⟩
    · rw [if_neg e, ih]
      constructor
      · rintro ⟨j', h1, h2⟩
        exact ⟨j', by omega, h2⟩
      · rintro ⟨j', h1, h2⟩
        have : j' ≠ j := by
          rintro rfl
          exact e (by rw [h2])
        exact ⟨j', by omega, h2⟩
theorem m_few31 (hm : m ≤ 6) (hpc : ∀ k, k < m → pc k < 6) (hi : ∀ j k, j < m → k < m → pc j = pc k → j = k) {o : Int32 × (Nat → Int32) × (Nat → Int32) × (Nat → Int32)} (ho : o.1 = nI m) (hd : ∀ k, k < m → o.2.2.1 (pc k) = nI (d k)) (hd2 : ∀ k, k < m → d k ≤ 16) (hpro : ∀ k, k < m → o.2.2.2 k = nI (pc k)) (hP : LPm m s) (hs : ∀ j j', j < j' → j' < m → kap d (s j) < kap d (s j')) {j : Nat} (hj : j < m) :
    L_X10_fewest_31 o (pb (tpj pc s j) 6) fu (-1) 0 = some (nI (pc (s j))) := by
  have hT := tpj_at hi hP j (by omega)
  have neg1 : ∀ v, v < 6 → ¬ nI v = -1 := by decide +kernel
  obtain ⟨r, hr, e⟩ := up_ex (fun n i b => L_X10_fewest_31 o (pb (tpj pc s j) 6) n b i) (C := m)
    (fun x b => (b = -1 ∧ ∀ k, k < x → tpj pc s j (pc k) = true) ∨ ∃ b', b' < x ∧ b' < m ∧ tpj pc s j (pc b') = false ∧ b = nI (pc b') ∧ ∀ k, k < x → tpj pc s j (pc k) = false → kap d b' ≤ kap d k)
    (fun b => b = nI (pc (s j)))
    (fun n x b hx hI => by
      have hpx := hpc x hx
      have hdx := hd2 x hx
      have st : L_X10_fewest_31 o (pb (tpj pc s j) 6) (n + 1) b (nI x) = if b2i (tpj pc s j (pc x)) = 0 then (if b = (-1 : Int32) then (L_X10_fewest_31 o (pb (tpj pc s j) 6) n (nI (pc x)) (nI (x + 1))) else (if b < 0 ∨ 6 ≤ (b).toNatClampNeg then none else (if (o.2.2.1 (b).toNatClampNeg) ≤ nI (d x) then (L_X10_fewest_31 o (pb (tpj pc s j) 6) n b (nI (x + 1))) else (L_X10_fewest_31 o (pb (tpj pc s j) 6) n (nI (pc x)) (nI (x + 1)))))) else (L_X10_fewest_31 o (pb (tpj pc s j) 6) n b (nI (x + 1))) := by
        rw [L_X10_fewest_31, ho, if_neg (nI_ge hx (by omega)), gdI (by omega) (by omega), nI_clamp (by omega), hpro x hx, tb_get _ hpx, gdI hpx (by omega), nI_clamp (by omega), hd x hx, nI_1]
      by_cases ht : tpj pc s j (pc x) = true
      · refine ⟨b, ?_, ?_⟩
        · rcases hI with ⟨rfl, hI⟩ | ⟨b', h1, h2, h3, h4, h5⟩
          · refine Or.inl ⟨rfl, fun k hk => ?_⟩
            by_cases ek : k = x
            · subst ek; exact ht
            · exact hI k (by omega)
          · refine Or.inr ⟨b', by omega, h2, h3, h4, fun k hk q => ?_⟩
            by_cases ek : k = x
            · subst ek; rw [ht] at q; cases q
            · exact h5 k (by omega) q
        · show L_X10_fewest_31 o (pb (tpj pc s j) 6) (n + 1) b (nI x) = L_X10_fewest_31 o (pb (tpj pc s j) 6) n b (nI (x + 1))
          rw [st, ht, ifbt]
      · have ht' : tpj pc s j (pc x) = false := by simpa using ht
        rcases hI with ⟨rfl, hI⟩ | ⟨b', h1, h2, h3, rfl, h5⟩
        · refine ⟨nI (pc x), Or.inr ⟨x, by omega, hx, ht', rfl, fun k hk q => ?_⟩, ?_⟩
          · by_cases ek : k = x
            · subst ek; exact Nat.le_refl _
            · rw [hI k (by omega)] at q; cases q
          · show L_X10_fewest_31 o (pb (tpj pc s j) 6) (n + 1) (-1) (nI x) = L_X10_fewest_31 o (pb (tpj pc s j) 6) n (nI (pc x)) (nI (x + 1))
            rw [st, ht', ifbf, if_pos rfl]
        · have hpb := hpc b' h2
          have hdb := hd2 b' h2
          by_cases hle : d b' ≤ d x
          · refine ⟨nI (pc b'), Or.inr ⟨b', by omega, h2, h3, rfl, fun k hk q => ?_⟩, ?_⟩
            · by_cases ek : k = x
              · subst ek; unfold kap; omega
              · exact h5 k (by omega) q
            · show L_X10_fewest_31 o (pb (tpj pc s j) 6) (n + 1) (nI (pc b')) (nI x) = L_X10_fewest_31 o (pb (tpj pc s j) 6) n (nI (pc b')) (nI (x + 1))
              rw [st, ht', ifbf, if_neg (neg1 _ hpb), gdI hpb (by omega), nI_clamp (by omega), hd b' h2, if_pos (nI_le hle (by omega))]
          · refine ⟨nI (pc x), Or.inr ⟨x, by omega, hx, ht', rfl, fun k hk q => ?_⟩, ?_⟩
            · by_cases ek : k = x
              · subst ek; exact Nat.le_refl _
              · have := h5 k (by omega) q
                have : kap d x ≤ kap d b' := by unfold kap; omega
                omega
            · show L_X10_fewest_31 o (pb (tpj pc s j) 6) (n + 1) (nI (pc b')) (nI x) = L_X10_fewest_31 o (pb (tpj pc s j) 6) n (nI (pc x)) (nI (x + 1))
              rw [st, ht', ifbf, if_neg (neg1 _ hpb), gdI hpb (by omega), nI_clamp (by omega), hd b' h2, if_neg (nI_ge (by omega) (by omega))])
    (fun n b hI => by
      refine ⟨b, ?_, ?_⟩
      · have hsj := hP.1 j hj
        have hnt : ¬ tpj pc s j (pc (s j)) = true := fun q => by
          obtain ⟨j', h1, h2⟩ := (hT (s j) hsj).mp q
          have := hP.2 j' j (by omega) hj h2
          omega
        rcases hI with ⟨_, hI⟩ | ⟨b', h1, h2, h3, rfl, h5⟩
        · exact absurd (hI (s j) hsj) hnt
        · have hnt' : tpj pc s j (pc (s j)) = false := by simpa using hnt
          have q1 := h5 (s j) hsj hnt'
          obtain ⟨j', hj', e'⟩ := hP.onto h2
          have hjj : j ≤ j' := by
            apply Nat.le_of_not_lt
            intro q
            have := (hT b' h2).mpr ⟨j', q, e'⟩
            rw [h3] at this; cases this
          have q2 : kap d (s j) ≤ kap d b' := by
            rw [← e']
            by_cases q : j = j'
            · subst q; exact Nat.le_refl _
            · exact Nat.le_of_lt (hs j j' (by omega) hj')
          have : b' = s j := by unfold kap at q1 q2; omega
          rw [this]
      · show L_X10_fewest_31 o (pb (tpj pc s j) 6) (n + 1) b (nI m) = _
        rw [L_X10_fewest_31, ho, if_pos (nI_le (Nat.le_refl _) (by omega))])
    m fu 0 (-1) (by omega) (fu_lt (by omega)) (Or.inl ⟨rfl, fun k hk => by omega⟩)
  have e' : L_X10_fewest_31 o (pb (tpj pc s j) 6) fu (-1) 0 = some r := e
  rw [e', hr]
theorem m_fewest (hm : m ≤ 6) (hpc : ∀ k, k < m → pc k < 6) (hi : ∀ j k, j < m → k < m → pc j = pc k → j = k) {o : Int32 × (Nat → Int32) × (Nat → Int32) × (Nat → Int32)} (ho : o.1 = nI m) (hd : ∀ k, k < m → o.2.2.1 (pc k) = nI (d k)) (hd2 : ∀ k, k < m → d k ≤ 16) (hpro : ∀ k, k < m → o.2.2.2 k = nI (pc k)) (hP : LPm m s) (hs : ∀ j j', j < j' → j' < m → kap d (s j) < kap d (s j')) (row : Nat → Int64) :
    ∃ row', L_X10_fewest_18 o fu 0 0 0 row = some (nI m, row') ∧ ∀ k, k < m → row' k = (nI (pc (s k))).toInt64 := by
  obtain ⟨w, hw, hwe⟩ := up_ex (fun n i (t : Int32 × Int32 × (Nat → Int64)) => L_X10_fewest_18 o n t.1 i t.2.1 t.2.2) (C := m)
    (fun i t => t.1 = pb (tpj pc s i) 6 ∧ t.2.1 = nI i ∧ ∀ k, k < i → t.2.2 k = (nI (pc (s k))).toInt64) (fun w => w.1 = nI m ∧ ∀ k, k < m → w.2 k = (nI (pc (s k))).toInt64)
    (fun n i t hi' hI => by
      obtain ⟨t1, t2, t3⟩ := t
      obtain ⟨rfl, rfl, hI3⟩ : t1 = pb (tpj pc s i) 6 ∧ t2 = nI i ∧ ∀ k, k < i → t3 k = (nI (pc (s k))).toInt64 := hI
      refine ⟨(pb (tpj pc s (i + 1)) 6, nI (i + 1), vp_updL t3 i (nI (pc (s i))).toInt64), ⟨rfl, rfl, fun k hk => ?_⟩, ?_⟩
      · by_cases e : k = i
        · subst e; exact updL_at _ _ _
        · show vp_updL t3 i _ k = _
          rw [updL_ne _ _ e]; exact hI3 k (by omega)
      · show L_X10_fewest_18 o (n + 1) (pb (tpj pc s i) 6) (nI i) (nI i) t3 = L_X10_fewest_18 o n (pb (tpj pc s (i + 1)) 6) (nI (i + 1)) (nI (i + 1)) (vp_updL t3 i (nI (pc (s i))).toInt64)
        rw [L_X10_fewest_18, ho, if_neg (nI_ge hi' (by omega)), m_few31 hm hpc hi ho hd hd2 hpro hP hs hi', Option.bind_some, m_tell i (by omega), Option.bind_some, tb_set _ (hpc _ (hP.1 i hi')), nI_1]
        rfl)
    (fun n t hI => ⟨(t.2.1, t.2.2), ⟨hI.2.1, hI.2.2⟩, by
      show L_X10_fewest_18 o (n + 1) t.1 (nI m) t.2.1 t.2.2 = _
      rw [L_X10_fewest_18, ho, if_pos (nI_le (Nat.le_refl _) (by omega))]⟩)
    m fu 0 (0, 0, row) (by omega) (fu_lt (by omega)) ⟨rfl, rfl, fun k hk => by omega⟩
  have hwe' : L_X10_fewest_18 o fu 0 0 0 row = some w := hwe
  exact ⟨w.2, by rw [hwe', ← hw.1], hw.2⟩
end
section
variable {next size undoMany cols rows asz amany tsz typed : Int32} {kinds tags : Nat → Int32} {undos cells now nu row : Nat → Int64}
theorem op_fewest (hT : TT cols rows kinds tags cells now) (nu row : Nat → Int64) (rd rr : Nat → Int32) (rw' : Nat → Int64) (rf oc rks dis pro : Nat → Int32) :
    ∃ r q, f_X9_fewest cols rows kinds cells nu rd rr rw' rf oc = some r ∧ f_X10_fewest now row rks dis pro = some q ∧ r.1 = q.1 ∧ AX r.2.1 r.2.2.1 q.2.1 q.2.2.2.2.1 := by
  obtain ⟨R, C, kd, cl, tg, hV, hC, hM⟩ := id hT
  have h16 := hV.1
  have h6 := hV.2.1
  have hle := fb_ct_le (pr kd) C
  obtain ⟨pc, hpc⟩ := nth_pr (pr kd) C
  obtain ⟨oc', a1, a2⟩ := c_readProper hV hC oc
  obtain ⟨dis', rks', wts', isF', b1, b2⟩ := c_readAll hV hC rd rr rw' rf
  obtain ⟨many, rM, dM, pM, c1, c2, c3⟩ := m_layRanks hV hM rks dis pro
  have hk10 : ∀ k, k < fb_ct (pr kd) C → kd (pc k) ≤ 10 := fun k hk => by simpa [pr] using (hpc k hk).2.1
  have hp6 : ∀ k, k < fb_ct (pr kd) C → pc k < 6 := fun k hk => by have := (hpc k hk).1; omega
  have hinj : ∀ j k, j < fb_ct (pr kd) C → k < fb_ct (pr kd) C → pc j = pc k → j = k := fun j k hj hk e => nth_inj hpc hj hk e
  have hd2 : ∀ k, k < fb_ct (pr kd) C → (fun k => dst R cl (pc k)) k ≤ 16 := fun k hk => by have := dst_le R cl (pc k); show dst R cl (pc k) ≤ 16; omega
  obtain ⟨s, oc2, s1, s2, s3, s4⟩ := c_fewest (m := fb_ct (pr kd) C) (pc := pc) (d := fun k => dst R cl (pc k)) (by omega) hp6 (dis := dis') (fun k hk => (b2 _ (hpc k hk).1 (hk10 k hk)).1) hd2 (fun k hk => a2.at hpc hk)
  obtain ⟨nu', t1, t2⟩ := c_tellOrder (m := fb_ct (pr kd) C) (by omega) nu oc2
  obtain ⟨row', u1, u2⟩ := m_fewest (m := fb_ct (pr kd) C) (pc := pc) (d := fun k => dst R cl (pc k)) (by omega) hp6 hinj (o := (many, rM, dM, pM)) c3.1 (fun k hk => (c2 _ (hpc k hk).1 (hk10 k hk)).1) hd2 (fun k hk => c3.at hpc hk) s1 s2 row
  unfold f_X9_fewest f_X10_fewest
  rw [a1, b1, c1, Option.bind_some, Option.bind_some, Option.bind_some]
  simp only []
  rw [s4, u1, Option.bind_some, Option.bind_some, t1, Option.bind_some]
  refine ⟨_, _, rfl, rfl, c3.1.symm, fb_ct (pr kd) C, by omega, rfl, rfl, fun i hi => ?_⟩
  show nu' i = row' i
  rw [t2 i hi, u2 i hi, s3 i hi]
end
