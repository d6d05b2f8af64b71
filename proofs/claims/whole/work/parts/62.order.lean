/-! an order of columns told by a text -/
def sete (p : Nat → Bool) (c : Nat) : Nat → Bool := fun j => if j = c then true else p j
theorem tb_get0 : ∀ b0 b1 b2 b3 b4 b5 : Bool, ∀ c, c < 6 → (pb (bl6 b0 b1 b2 b3 b4 b5) 6 >>> (nI c &&& 31)) &&& 1 = b2i (bl6 b0 b1 b2 b3 b4 b5 c) := by decide +kernel
theorem tb_set0 : ∀ b0 b1 b2 b3 b4 b5 : Bool, ∀ c, c < 6 → pb (bl6 b0 b1 b2 b3 b4 b5) 6 ||| ((1 : Int32) <<< (nI c &&& 31)) = pb (sete (bl6 b0 b1 b2 b3 b4 b5) c) 6 := by decide +kernel
theorem tb_ct0 : ∀ b0 b1 b2 b3 b4 b5 : Bool, ∀ c, c < 6 → (bl6 b0 b1 b2 b3 b4 b5 c || decide (fb_ct (sete (bl6 b0 b1 b2 b3 b4 b5) c) 6 = fb_ct (bl6 b0 b1 b2 b3 b4 b5) 6 + 1)) = true := by decide +kernel
theorem bl6_all (p : Nat → Bool) : ∀ c, c < 6 → p c = bl6 (p 0) (p 1) (p 2) (p 3) (p 4) (p 5) c := bl6_of p
theorem tb_get (p : Nat → Bool) {c : Nat} (hc : c < 6) : (pb p 6 >>> (nI c &&& 31)) &&& 1 = b2i (p c) := by
  rw [pb_cong (bl6_all p), tb_get0 _ _ _ _ _ _ c hc, ← bl6_all p c hc]
theorem sete_cong {p q : Nat → Bool} (h : ∀ c, c < 6 → p c = q c) (c : Nat) : ∀ j, j < 6 → sete p c j = sete q c j := by
  intro j hj
  unfold sete
  split
  · rfl
  · exact h j hj
theorem tb_set (p : Nat → Bool) {c : Nat} (hc : c < 6) : pb p 6 ||| ((1 : Int32) <<< (nI c &&& 31)) = pb (sete p c) 6 := by
  rw [pb_cong (bl6_all p), tb_set0 _ _ _ _ _ _ c hc]
  exact pb_cong (sete_cong (fun j hj => (bl6_all p j hj).symm) c)
theorem tb_ct (p : Nat → Bool) {c : Nat} (hc : c < 6) (h : p c = false) : fb_ct (sete p c) 6 = fb_ct p 6 + 1 := by
  have := tb_ct0 (p 0) (p 1) (p 2) (p 3) (p 4) (p 5) c hc
  rw [← bl6_all p c hc, h, Bool.false_or, decide_eq_true_eq] at this
  rw [fb_ct_cong (bl6_all p), ← this]
  exact fb_ct_cong (sete_cong (fun j hj => bl6_all p j hj) c)
theorem lett_dec : ∀ C, C < 7 → ∀ v, v < 256 → ixd (nI v - 97) C = (decide (97 ≤ v) && decide (v < 97 + C)) := by decide +kernel
theorem lett_sub : ∀ v, v < 256 → 97 ≤ v → nI v - 97 = nI (v - 97) := by decide +kernel
/-- the same order of columns on both sides -/
def OD (C : Nat) (kd : Nat → Nat) (m : Nat) (od : Nat → Nat) (colsC ordM : Nat → Int32) : Prop := ∀ k, k < m → od k < C ∧ kd (od k) ≤ 10 ∧ colsC k = nI (od k) ∧ ordM k = nI (od k)
section
variable {R C : Nat} {kd : Nat → Nat} {cl : Nat → Nat → Int64} {tg : Nat → Nat} {now : Nat → Int64} {cols rows : Int32} {kinds tags : Nat → Int32} {cells : Nat → Int64}
theorem add_in (hV : VT R C kd cl tg) (hC : CT R C kd cl tg cols rows kinds tags cells) (hM : MT R C kd cl tg now) {c m : Nat} (hc : c < C) (hm : m < 6) {od : Nat → Nat} {oc om : Nat → Int32} (hO : OD C kd m od oc om) :
    ∃ (m' : Nat) (od' : Nat → Nat) (oc' om' : Nat → Int32), m' ≤ m + 1 ∧ OD C kd m' od' oc' om' ∧ f_X2_addProper (nI m) oc cols kinds (nI c) = some (nI m', oc') ∧ f_X10_addToOrder (nI m) now om (nI c) = some (nI m', om') := by
  unfold f_X2_addProper f_X10_addToOrder
  rw [c_isProper hV hC hc, m_isProper hV hM hc]
  simp only [Option.bind_some, ifbd]
  by_cases h : kd c ≤ 10
  · rw [if_pos h, if_pos h, li6, if_neg (nI_ge hm (by omega)), gdI hm (by omega), gdI hm (by omega), nI_clamp (by omega), nI_1]
    refine ⟨m + 1, fun k => if k = m then c else od k, _, _, by omega, fun k hk => ?_, rfl, rfl⟩
    by_cases e : k = m
    · subst e
      simp only [if_true]
      exact ⟨hc, h, upd_at _ _ _, upd_at _ _ _⟩
    · simp only [if_neg e]
      obtain ⟨a1, a2, a3, a4⟩ := hO k (by omega)
      exact ⟨a1, a2, by rw [upd_ne _ _ e, a3], by rw [upd_ne _ _ e, a4]⟩
  · rw [if_neg h, if_neg h]
    exact ⟨m, od, _, _, by omega, hO, rfl, rfl⟩
theorem told_in (hV : VT R C kd cl tg) (hC : CT R C kd cl tg cols rows kinds tags cells) (hM : MT R C kd cl tg now) {n : Nat} {b : Nat → Nat} {signs text : Nat → Int32} (hn : n ≤ 80) (hb : ∀ p, p < n → b p < 256 ∧ signs p = nI (b p) ∧ text p = bt (b p)) (o : Int32 × Int32 × Int32 × Int32) (ho : o.2.1 = nI n) :
    ∀ (k p f : Nat) (tp : Nat → Bool) (m : Nat) (od : Nat → Nat) (oc om : Nat → Int32), p + k = n → k + 1 < f → OD C kd m od oc om → m ≤ fb_ct tp 6 →
    (∃ (q : Nat) (s : Int32 × (Nat → Int32)) (t a m' : Int32) (om' : Nat → Int32), q < n ∧ L_X2_readTold_10 (nI n) signs cols kinds f (pb tp 6) (nI p) (nI m) oc = some (.inr (nI q, s)) ∧ L_X10_readOrder_11 now text o f (pb tp 6) (nI p) (-1) (nI m) om = some (t, a, nI q, m', om')) ∨
    (∃ (tp' : Nat → Bool) (m' : Nat) (od' : Nat → Nat) (oc' om' : Nat → Int32), OD C kd m' od' oc' om' ∧ m' ≤ fb_ct tp' 6 ∧ L_X2_readTold_10 (nI n) signs cols kinds f (pb tp 6) (nI p) (nI m) oc = some (.inl (pb tp' 6, nI m', oc')) ∧ L_X10_readOrder_11 now text o f (pb tp 6) (nI p) (-1) (nI m) om = some (pb tp' 6, nI n, -1, nI m', om')) := by
  have h6 := hV.2.1
  intro k
  induction k with
  | zero =>
    intro p f tp m od oc om hp hf hO hm
    obtain ⟨f, rfl⟩ : ∃ f', f = f' + 1 := ⟨f - 1, by omega⟩
    obtain rfl : p = n := by omega
    right
    refine ⟨tp, m, od, oc, om, hO, hm, ?_, ?_⟩
    · rw [L_X2_readTold_10, if_pos (nI_le (Nat.le_refl _) (by omega))]
    · rw [L_X10_readOrder_11, m_fine1, Option.bind_some, ifbt, ho, if_pos (nI_le (Nat.le_refl _) (by omega))]
  | succ k ih =>
    intro p f tp m od oc om hp hf hO hm
    obtain ⟨f, rfl⟩ : ∃ f', f = f' + 1 + 1 := ⟨f - 2, by omega⟩
    have hpn : p < n := by omega
    have hlt := (hb p hpn).1
    have hla : f_X7_letterAt (nI n) signs (nI p) = some (nI (b p) - 97) := by
      unfold f_X7_letterAt
      rw [@c_signAt n b signs text hn hb p (by omega), Option.bind_some, if_pos hpn]
    have hone := @m_oneOf n b signs text hn hb p 97 C (by omega) (by omega) (by omega)
    have hone' : f_X10_oneOf (nI n) (nI p) (-1) text 97 (nI C) = _ := hone
    have hix := lett_dec C (by omega) (b p) hlt
    have hbw : bw n b 97 C p = (decide (97 ≤ b p) && decide (b p < 97 + C)) := by unfold bw; simp [hpn]
    rw [hbw, ← hix] at hone'
    by_cases hx : ixd (nI (b p) - 97) C = true
    · have hq : 97 ≤ b p ∧ b p < 97 + C := by rw [hix] at hx; simpa using hx
      rw [hx, if_pos rfl] at hone'
      have hs := lett_sub (b p) hlt hq.1
      have hcc : b p - 97 < C := by omega
      by_cases ht : tp (b p - 97) = true
      · left
        refine ⟨p, (nI m, oc), pb tp 6, nI (p + 1), nI m, om, hpn, ?_, ?_⟩
        · rw [L_X2_readTold_10, if_neg (nI_ge hpn (by omega)), hla, Option.bind_some, hC.1, c_hasCol hV, hx, Option.bind_some, ifbt, hs, tb_get tp (by omega), ht, if_neg (by decide)]
        · rw [L_X10_readOrder_11, m_fine1, Option.bind_some, ifbt, ho, if_neg (nI_ge hpn (by omega)), m_cols hM, Option.bind_some, hone', Option.bind_some]
          simp only []
          rw [m_fine1, Option.bind_some, ifbt, tb_get tp (by omega), ht, if_pos (by decide), m_fault1, Option.bind_some, show nI (p + 1) - 1 = nI p by rw [← nI_add]; exact Int32.add_sub_cancel _ _]
          rw [L_X10_readOrder_11, m_fine0 (by omega), Option.bind_some, ifbf]
      · have ht' : tp (b p - 97) = false := by simpa using ht
        have hct := tb_ct tp (show b p - 97 < 6 by omega) ht'
        have hle := fb_ct_le (sete tp (b p - 97)) 6
        obtain ⟨m', od', oc', om', a1, a2, a3, a4⟩ := add_in hV hC hM hcc (show m < 6 by omega) hO
        have e1 : L_X2_readTold_10 (nI n) signs cols kinds (f + 1 + 1) (pb tp 6) (nI p) (nI m) oc = L_X2_readTold_10 (nI n) signs cols kinds (f + 1) (pb (sete tp (b p - 97)) 6) (nI (p + 1)) (nI m') oc' := by
          rw [L_X2_readTold_10, if_neg (nI_ge hpn (by omega)), hla, Option.bind_some, hC.1, c_hasCol hV, hx, Option.bind_some, ifbt, hs, tb_get tp (by omega), ht', ifbf, ← hC.1, a3, Option.bind_some, tb_set tp (by omega), nI_1]
        have e2 : L_X10_readOrder_11 now text o (f + 1 + 1) (pb tp 6) (nI p) (-1) (nI m) om = L_X10_readOrder_11 now text o (f + 1) (pb (sete tp (b p - 97)) 6) (nI (p + 1)) (-1) (nI m') om' := by
          rw [L_X10_readOrder_11, m_fine1, Option.bind_some, ifbt, ho, if_neg (nI_ge hpn (by omega)), m_cols hM, Option.bind_some, hone', Option.bind_some]
          simp only []
          rw [m_fine1, Option.bind_some, ifbt, tb_get tp (by omega), ht', if_neg (by decide), a4, Option.bind_some, tb_set tp (by omega)]
        rw [e1, e2]
        exact ih (p + 1) (f + 1) _ m' od' oc' om' (by omega) (by omega) a2 (by omega)
    · have hx' : ixd (nI (b p) - 97) C = false := by simpa using hx
      rw [hx', if_neg (by decide)] at hone'
      left
      refine ⟨p, (nI m, oc), pb tp 6, nI p, nI m, om, hpn, ?_, ?_⟩
      · rw [L_X2_readTold_10, if_neg (nI_ge hpn (by omega)), hla, Option.bind_some, hC.1, c_hasCol hV, hx', Option.bind_some, ifbf]
      · rw [L_X10_readOrder_11, m_fine1, Option.bind_some, ifbt, ho, if_neg (nI_ge hpn (by omega)), m_cols hM, Option.bind_some, hone', Option.bind_some]
        simp only []
        rw [m_fine0 (by omega), Option.bind_some, ifbf]
        rw [L_X10_readOrder_11, m_fine0 (by omega), Option.bind_some, ifbf]
theorem rest_in (hV : VT R C kd cl tg) (hC : CT R C kd cl tg cols rows kinds tags cells) (hM : MT R C kd cl tg now) (tp : Nat → Bool) (u : Int32 × Int32 × (Nat → Int32)) (hu : u.1 = pb tp 6) (w : Int32 × Int32 × Int32 × Int32 × (Nat → Int32)) (hw : w.1 = pb tp 6) :
    ∀ (k c f m : Nat) (od : Nat → Nat) (oc om : Nat → Int32), c + k = C → k < f → OD C kd m od oc om → m ≤ fb_ct (fun j => tp j || decide (j < c)) 6 →
    ∃ (m' : Nat) (od' : Nat → Nat) (oc' om' : Nat → Int32), m' ≤ 6 ∧ OD C kd m' od' oc' om' ∧ L_X2_readTold_71 cols kinds u f (nI c) (nI m) oc = some (nI m', oc') ∧ L_X10_readOrder_97 now w f (nI c) (nI m) om = some (nI m', om') := by
  have h6 := hV.2.1
  intro k
  induction k with
  | zero =>
    intro c f m od oc om hc hf hO hm
    obtain ⟨f, rfl⟩ : ∃ f', f = f' + 1 := ⟨f - 1, by omega⟩
    obtain rfl : c = C := by omega
    have hle := fb_ct_le (fun j => tp j || decide (j < c)) 6
    refine ⟨m, od, oc, om, by omega, hO, ?_, ?_⟩
    · rw [L_X2_readTold_71, hC.1, if_pos (nI_le (Nat.le_refl _) (by omega))]
    · rw [L_X10_readOrder_97, m_cols hM, Option.bind_some, if_pos (nI_le (Nat.le_refl _) (by omega))]
  | succ k ih =>
    intro c f m od oc om hc hf hO hm
    obtain ⟨f, rfl⟩ : ∃ f', f = f' + 1 := ⟨f - 1, by omega⟩
    have hcC : c < C := by omega
    by_cases ht : tp c = true
    · have e1 : L_X2_readTold_71 cols kinds u (f + 1) (nI c) (nI m) oc = L_X2_readTold_71 cols kinds u f (nI (c + 1)) (nI m) oc := by
        rw [L_X2_readTold_71, hC.1, if_neg (nI_ge hcC (by omega)), hu, tb_get tp (by omega), ht, if_neg (by decide), nI_1]
      have e2 : L_X10_readOrder_97 now w (f + 1) (nI c) (nI m) om = L_X10_readOrder_97 now w f (nI (c + 1)) (nI m) om := by
        rw [L_X10_readOrder_97, m_cols hM, Option.bind_some, if_neg (nI_ge hcC (by omega)), hw, tb_get tp (by omega), ht, if_neg (by decide), nI_1]
      rw [e1, e2]
      refine ih (c + 1) f m od oc om (by omega) (by omega) hO ?_
      rw [fb_ct_cong (q := fun j => tp j || decide (j < c)) (fun j hj => ?_)]
      · exact hm
      · by_cases e : j = c
        · subst e; simp [ht]
        · have : (j < c + 1) = (j < c) := propext ⟨fun _ => by omega, fun _ => by omega⟩
          simp only [this]
    · have ht' : tp c = false := by simpa using ht
      have hct := tb_ct (fun j => tp j || decide (j < c)) (show c < 6 by omega) (by simp [ht'])
      have hle := fb_ct_le (sete (fun j => tp j || decide (j < c)) c) 6
      obtain ⟨m', od', oc', om', a1, a2, a3, a4⟩ := add_in hV hC hM hcC (show m < 6 by omega) hO
      have e1 : L_X2_readTold_71 cols kinds u (f + 1) (nI c) (nI m) oc = L_X2_readTold_71 cols kinds u f (nI (c + 1)) (nI m') oc' := by
        rw [L_X2_readTold_71, hC.1, if_neg (nI_ge hcC (by omega)), hu, tb_get tp (by omega), ht', ifbf, ← hC.1, a3, Option.bind_some, nI_1]
      have e2 : L_X10_readOrder_97 now w (f + 1) (nI c) (nI m) om = L_X10_readOrder_97 now w f (nI (c + 1)) (nI m') om' := by
        rw [L_X10_readOrder_97, m_cols hM, Option.bind_some, if_neg (nI_ge hcC (by omega)), hw, tb_get tp (by omega), ht', ifbf, a4, Option.bind_some, nI_1]
      rw [e1, e2]
      refine ih (c + 1) f m' od' oc' om' (by omega) (by omega) a2 ?_
      rw [fb_ct_cong (q := sete (fun j => tp j || decide (j < c)) c) (fun j hj => ?_)]
      · omega
      · unfold sete
        by_cases e : j = c
        · subst e; simp
        · have : (j < c + 1) = (j < c) := propext ⟨fun _ => by omega, fun _ => by omega⟩
          simp only [this, if_neg e]
/-- an order read: both sides -/
theorem order_in (hV : VT R C kd cl tg) (hC : CT R C kd cl tg cols rows kinds tags cells) (hM : MT R C kd cl tg now) {n : Nat} {b : Nat → Nat} {signs text : Nat → Int32} (hn : n ≤ 80) (hb : ∀ p, p < n → b p < 256 ∧ signs p = nI (b p) ∧ text p = bt (b p)) (oc om : Nat → Int32) :
    (∃ (q : Nat) (s : Int32 × (Nat → Int32)) (a m' : Int32) (om' : Nat → Int32), q < n ∧ f_X2_readTold oc (nI n) signs cols kinds = some (nI q, s) ∧ f_X10_readOrder (nI n) now text om = some (false, 0, nI n, a, nI q, m', om')) ∨
    (∃ (m' : Nat) (od' : Nat → Nat) (oc' om' : Nat → Int32), m' ≤ 6 ∧ OD C kd m' od' oc' om' ∧ f_X2_readTold oc (nI n) signs cols kinds = some (-1, nI m', oc') ∧ f_X10_readOrder (nI n) now text om = some (true, 0, nI n, nI n, -1, nI m', om')) := by
  have h6 := hV.2.1
  unfold f_X2_readTold f_X10_readOrder f_X10_begin
  rw [Option.bind_some]
  simp only []
  have hz : pb (fun _ => false) 6 = 0 := by decide
  rcases told_in hV hC hM hn hb (0, nI n, 0, -1) rfl n 0 fu (fun _ => false) 0 (fun _ => 0) oc om (by omega) (by unfold fu; omega) (fun k hk => by omega) (by omega) with ⟨q, s, t, a, m', om', hq, e1, e2⟩ | ⟨tp', m', od', oc', om', hO, hm, e1, e2⟩
  · left
    rw [hz] at e1 e2
    have e1' : L_X2_readTold_10 (nI n) signs cols kinds fu 0 0 0 oc = _ := e1
    have e2' : L_X10_readOrder_11 now text (0, nI n, 0, -1) fu 0 0 (-1) 0 om = _ := e2
    rw [e1', e2', Option.bind_some, Option.bind_some]
    simp only []
    rw [m_wasRight0 (by omega), Option.bind_some, ifbf]
    exact ⟨q, s, a, m', om', hq, rfl, rfl⟩
  · right
    rw [hz] at e1 e2
    have e1' : L_X2_readTold_10 (nI n) signs cols kinds fu 0 0 0 oc = _ := e1
    have e2' : L_X10_readOrder_11 now text (0, nI n, 0, -1) fu 0 0 (-1) 0 om = _ := e2
    obtain ⟨m2, od2, oc2, om2, g0, g1, g2, g3⟩ := rest_in hV hC hM tp' (pb tp' 6, nI m', oc') rfl (pb tp' 6, nI n, -1, nI m', om') rfl C 0 fu m' od' oc' om' (by omega) (fu_lt (by omega)) hO (by
      rw [fb_ct_cong (q := tp') (fun j hj => by simp)]; exact hm)
    have g2' : L_X2_readTold_71 cols kinds (pb tp' 6, nI m', oc') fu 0 (nI m') oc' = _ := g2
    have g3' : L_X10_readOrder_97 now (pb tp' 6, nI n, -1, nI m', om') fu 0 (nI m') om' = _ := g3
    rw [e1', e2', Option.bind_some, Option.bind_some]
    simp only [sm]
    rw [m_wasRight1 hn, Option.bind_some, ifbt, g2', g3', Option.bind_some, Option.bind_some]
    exact ⟨m2, od2, oc2, om2, g0, g1, rfl, rfl⟩
end
/-- the least of two -/
theorem mmin_nI {a b : Nat} (ha : a < 2 ^ 31) (hb : b < 2 ^ 31) : mmin (nI a) (nI b) = nI (min a b) := by
  unfold mmin
  by_cases h : b < a
  · rw [if_pos (nI_lt h ha), Nat.min_eq_right (by omega)]
  · rw [if_neg (nI_nlt (by omega) (by omega)), Nat.min_eq_left (by omega)]
section
variable {R C : Nat} {kd : Nat → Nat} {cl : Nat → Nat → Int64} {tg : Nat → Nat} {now : Nat → Int64} {cols rows : Int32} {kinds tags : Nat → Int32} {cells : Nat → Int64}
theorem dst_le (R : Nat) (cl : Nat → Nat → Int64) (c : Nat) : dst R cl c ≤ R := fb_ct_le _ _
theorem dst_pos {R : Nat} (h : 0 < R) (cl : Nat → Nat → Int64) (c : Nat) : 0 < dst R cl c := by
  obtain ⟨k, rfl⟩ : ∃ k, R = k + 1 := ⟨R - 1, by omega⟩
  clear h
  unfold dst
  induction k with
  | zero => exact (by rw [fb_ct_succ]; simp [fst, fb_ct] : 0 < fb_ct (fst cl c) (0 + 1))
  | succ k ih => rw [fb_ct_succ]; omega
theorem min_step (R p d : Nat) (hd : d ≤ R) (h : 0 < R → 0 < d) : min R (min R p * d) = min R (p * d) := by
  by_cases h0 : R ≤ p
  · rw [Nat.min_eq_left h0]
    by_cases hR : R = 0
    · subst hR; simp
    · have h1 : 0 < d := h (by omega)
      have h2 : R * 1 ≤ R * d := Nat.mul_le_mul_left _ h1
      have h3 : R * d ≤ p * d := Nat.mul_le_mul_right _ h0
      rw [Nat.min_eq_left (by omega), Nat.min_eq_left (by omega)]
  · rw [show min R p = p from Nat.min_eq_right (by omega)]
theorem bound_in (hV : VT R C kd cl tg) (hM : MT R C kd cl tg now) {oC : Int32 × Int32 × (Nat → Int32)} {oM : Bool × Int32 × Int32 × Int32 × Int32 × Int32 × (Nat → Int32)} {rC : (Nat → Int32) × (Nat → Int32) × (Nat → Int64) × (Nat → Int32)} {rM : Int32 × (Nat → Int32) × (Nat → Int32) × (Nat → Int32) × (Nat → Int32)} {m : Nat} {od : Nat → Nat} (hm : m ≤ 6) (hO : OD C kd m od oC.2.2 oM.2.2.2.2.2.2) (h1 : oC.2.1 = nI m) (h2 : oM.2.2.2.2.2.1 = nI m) (hc : ∀ c, c < C → kd c ≤ 10 → RC R kd cl rC.1 rC.2.1 c) (hmR : ∀ c, c < C → kd c ≤ 10 → RC R kd cl rM.2.2.1 rM.2.1 c) :
    ∀ (k i f p s : Nat), i + k = m → k < f → p ≤ 16 ^ i → ∃ v, L_X9_bound_50 (nI R) oC rC f (nI p) (nI s) (nI i) = some v ∧ (L_X10_bound_29 now oM rM f (nI s) (nI (if i = 0 then p else min R p)) (nI i) = some v) := by
  have h16 := hV.1
  have h6 := hV.2.1
  intro k
  induction k with
  | zero =>
    intro i f p s hi hf hp
    obtain ⟨f, rfl⟩ : ∃ f', f = f' + 1 := ⟨f - 1, by omega⟩
    obtain rfl : i = m := by omega
    rw [L_X9_bound_50, h1, L_X10_bound_29, h2, if_pos (nI_le (Nat.le_refl _) (by omega)), if_pos (nI_le (Nat.le_refl _) (by omega))]
    exact ⟨_, rfl, rfl⟩
  | succ k ih =>
    intro i f p s hi hf hp
    obtain ⟨f, rfl⟩ : ∃ f', f = f' + 1 := ⟨f - 1, by omega⟩
    obtain ⟨a1, a2, a3, a4⟩ := hO i (by omega)
    have hd := dst_le R cl (od i)
    have hpd : p * dst R cl (od i) ≤ 16 ^ (i + 1) := by rw [Nat.pow_succ]; exact Nat.mul_le_mul hp (by omega)
    have hb : (16 : Nat) ^ (i + 1) ≤ 16 ^ 6 := Nat.pow_le_pow_right (by omega) (by omega)
    have hb' : (16 : Nat) ^ 6 = 16777216 := by decide
    have hs : min R ((if i = 0 then p else min R p) * dst R cl (od i)) = min R (p * dst R cl (od i)) := by
      split
      · rfl
      · exact min_step R p _ hd (fun h => dst_pos h cl _)
    have hple : (if i = 0 then p else min R p) * dst R cl (od i) ≤ 16777216 := by
      refine Nat.le_trans (Nat.mul_le_mul_right _ ?_) (show p * dst R cl (od i) ≤ 16777216 by omega)
      split
      · exact Nat.le_refl _
      · exact Nat.min_le_right _ _
    have e1 : L_X9_bound_50 (nI R) oC rC (f + 1) (nI p) (nI s) (nI i) = L_X9_bound_50 (nI R) oC rC f (nI (p * dst R cl (od i))) (nI (s + min R (p * dst R cl (od i)))) (nI (i + 1)) := by
      rw [L_X9_bound_50, h1, if_neg (nI_ge (by omega) (by omega)), gdI (by omega) (by omega), nI_clamp (by omega), a3, gdI (by omega) (by omega), nI_clamp (by omega), (hc _ a1 a2).1, pk_mul, mmin_nI (by omega) (by omega), nI_add, nI_1]
    have e2 : L_X10_bound_29 now oM rM (f + 1) (nI s) (nI (if i = 0 then p else min R p)) (nI i) = L_X10_bound_29 now oM rM f (nI (s + min R (p * dst R cl (od i)))) (nI (min R (p * dst R cl (od i)))) (nI (i + 1)) := by
      rw [L_X10_bound_29, h2, if_neg (nI_ge (by omega) (by omega)), m_rows hM, Option.bind_some, gdI (by omega) (by omega), nI_clamp (by omega), a4, gdI (by omega) (by omega), nI_clamp (by omega), (hmR _ a1 a2).1, pk_mul, mmin_nI (by omega) (by omega), hs, nI_add, nI_1]
    rw [e1, e2]
    obtain ⟨v, v1, v2⟩ := ih (i + 1) f (p * dst R cl (od i)) (s + min R (p * dst R cl (od i))) (by omega) (by omega) hpd
    rw [if_neg (by omega)] at v2
    exact ⟨v, v1, v2⟩
end
section
variable {next size undoMany cols rows asz amany tsz typed : Int32} {sk st : Nat → Nat → Int32} {sc : Nat → Nat → Int64} {scol srow kinds tags signs text : Nat → Int32} {undos cells now nu row : Nat → Int64}
theorem wrong_no : ∀ w, w < 81 → ¬ nI w = -1 := by decide +kernel
theorem op_bound (hT : TT cols rows kinds tags cells now) (hX : TX tsz signs typed text) (rd rr : Nat → Int32) (rw' : Nat → Int64) (rf oc om : Nat → Int32) (pm : Int32) (rks dis pro lm : Nat → Int32) :
    ∃ r q, f_X9_bound cols rows kinds cells tsz signs rd rr rw' rf oc = some r ∧ f_X10_bound typed pm now text rks dis pro lm om = some q ∧ r.1 = q.1 ∧ TX r.2.1 signs q.2.1 text := by
  obtain ⟨R, C, kd, cl, tg, hV, hC, hM⟩ := id hT
  obtain ⟨n, b, hn, rfl, rfl, hb⟩ := id hX
  have h16 := hV.1
  unfold f_X9_bound f_X10_bound f_X7_clear
  rcases order_in hV hC hM hn hb oc om with ⟨q, s, a, m', om', hq, e1, e2⟩ | ⟨m', od', oc', om', hm, hO, e1, e2⟩
  · rw [e1, e2, Option.bind_some, Option.bind_some, Option.bind_some, ifbf, if_neg (show ¬ (nI q, s).1 = -1 from wrong_no q (by omega))]
    exact ⟨_, _, rfl, rfl, rfl, TX.nil _ _⟩
  · obtain ⟨dis', rks', wts', isF', a1, a2⟩ := c_readAll hV hC rd rr rw' rf
    obtain ⟨many, rM, dM, pM, lM, b1, b2, b3, b4⟩ := m_layLine hV hM rks dis pro lm
    obtain ⟨v, v1, v2⟩ := bound_in hV hM (oC := (-1, nI m', oc')) (oM := (true, 0, nI n, nI n, -1, nI m', om')) (rC := (dis', rks', wts', isF')) (rM := (many, rM, dM, pM, lM)) hm hO rfl rfl a2 b2 m' 0 fu 1 0 (by omega) (fu_lt (by omega)) (by decide)
    have v1' : L_X9_bound_50 (nI R) (-1, nI m', oc') (dis', rks', wts', isF') fu 1 0 0 = some v := v1
    have v2' : L_X10_bound_29 now (true, 0, nI n, nI n, -1, nI m', om') (many, rM, dM, pM, lM) fu 0 1 0 = some v := v2
    rw [e1, e2, Option.bind_some, Option.bind_some, Option.bind_some, ifbt, if_pos rfl, a1, b1, Option.bind_some, Option.bind_some, hC.2.1, v1', v2', Option.bind_some, Option.bind_some]
    exact ⟨_, _, rfl, rfl, rfl, TX.nil _ _⟩
end
