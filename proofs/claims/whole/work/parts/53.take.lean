/-! rows lie as in the line -/
def mvd (R : Nat) (ln : Nat → Nat) : Nat := fb_ct (fun r => decide (¬ ln r = r)) R
section
variable {R C : Nat} {kd : Nat → Nat} {cl : Nat → Nat → Int64} {tg : Nat → Nat} {now : Nat → Int64} {cols rows : Int32} {kinds tags : Nat → Int32} {cells : Nat → Int64}
theorem VT.line (hV : VT R C kd cl tg) {ln : Nat → Nat} (hP : LPm R ln) : VT R C kd (fun c r => cl c (ln r)) (fun r => tg (ln r)) :=
  ⟨hV.1, hV.2.1, hV.2.2.1, fun c r hc hr => hV.2.2.2.1 c (ln r) hc (hP.1 r hr), fun r hr => hV.2.2.2.2.1 _ (hP.1 r hr), fun r r' hr hr' e => hP.2 r r' hr hr' (hV.2.2.2.2.2 _ _ (hP.1 r hr) (hP.1 r' hr') e)⟩
theorem c_carryOut (hV : VT R C kd cl tg) (hC : CT R C kd cl tg cols rows kinds tags cells) {line : Nat → Int32} {ln : Nat → Nat} (hL : LN R ln line) (hP : LPm R ln) (ltags : Nat → Int32) (lcells : Nat → Int64) :
    ∃ (lt' : Nat → Int32) (lc' : Nat → Int64) (tags' : Nat → Int32) (cells' : Nat → Int64), f_X4_carryOut (nI R) line ltags lcells cols tags cells = some (nI (mvd R ln), lt', lc', tags', cells') ∧ CT R C kd (fun c r => cl c (ln r)) (fun r => tg (ln r)) cols rows kinds tags' cells' := by
  have h16 := hV.1
  have h6 := hV.2.1
  have L18 : ∀ (c : Nat) (p1 lc : Nat → Int64), c < 6 → ∃ w, (∀ p, p < R → w p = p1 (c * 16 + ln p)) ∧ L_X4_carryOut_18 (nI R) line (nI c) p1 fu 0 lc = some w := by
    intro c p1 lc hc
    exact up_ex (L_X4_carryOut_18 (nI R) line (nI c) p1) (C := R) (fun i s => ∀ p, p < i → s p = p1 (c * 16 + ln p)) (fun w => ∀ p, p < R → w p = p1 (c * 16 + ln p))
      (fun n i s hi hI => ⟨vp_updL s i (p1 (c * 16 + ln i)), fun p hp => by
          by_cases h : p = i
          · rw [h, updL_at]
          · rw [updL_ne _ _ h]; exact hI p (by omega), by
          have := hP.1 i hi
          rw [L_X4_carryOut_18, if_neg (nI_ge hi (by omega)), gdI (by omega) (by omega), gdI (show i < 16 by omega) (by omega), nI_clamp (show i < 2 ^ 31 by omega), hL i hi, li16, pk_mul, nI_add, gdI (by omega) (by omega), nI_clamp (by omega), nI_1]⟩)
      (fun n s hI => ⟨s, hI, by rw [L_X4_carryOut_18, if_pos (nI_le (Nat.le_refl _) (by omega))]⟩) R fu 0 lc (by omega) (fu_lt (by omega)) (fun p hp => by omega)
  obtain ⟨o2, ho1, ho2⟩ := up_ex (fun n i (s : (Nat → Int64) × (Nat → Int64)) => L_X4_carryOut_2 (nI R) line cols n i s.1 s.2) (C := C)
    (fun i s => (∀ c r, c < i → r < R → s.2 (c * 16 + r) = cl c (ln r)) ∧ ∀ c r, i ≤ c → c < C → r < R → s.2 (c * 16 + r) = cl c r) (fun s => ∀ c r, c < C → r < R → s.2 (c * 16 + r) = cl c (ln r))
    (fun n i s hi hI => by
      obtain ⟨w, hw1, hw2⟩ := L18 i s.2 s.1 (by omega)
      have gd : ∀ {α : Type} {e : Option α}, (if (0 : Int32) < 0 ∨ (nI i * (16 : Int32)) < 0 ∨ nI R < 0 ∨ 16 < ((0 : Int32)).toNatClampNeg + (nI R).toNatClampNeg ∨ 96 < ((nI i * (16 : Int32))).toNatClampNeg + (nI R).toNatClampNeg then none else e) = e := by
        intro α e
        rw [li16, pk_mul, tn0, nI_clamp (show R < 2 ^ 31 by omega), nI_clamp (show i * 16 < 2 ^ 31 by omega)]
        have p1 := nI_pos (n := i * 16) (by omega)
        have p2 := nI_pos (n := R) (by omega)
        exact if_neg (fun q => by rcases q with q | q | q | q | q <;> first | exact absurd q (by decide) | exact p1 q | exact p2 q | omega)
      refine ⟨(w, va_cpy w s.2 0 (i * 16) R), ⟨fun c r hc hr => ?_, fun c r h1 hc hr => ?_⟩, ?_⟩
      · show va_cpy w s.2 0 (i * 16) R (c * 16 + r) = _
        by_cases h : c = i
        · subst h
          rw [pk_cpy_in (by omega) (by omega), show 0 + (c * 16 + r - c * 16) = r by omega, hw1 r hr]
          exact hI.2 c (ln r) (Nat.le_refl _) hi (hP.1 r hr)
        · rw [pk_cpy_out (by omega)]; exact hI.1 c r (by omega) hr
      · show va_cpy w s.2 0 (i * 16) R (c * 16 + r) = _
        rw [pk_cpy_out (by omega)]; exact hI.2 c r (by omega) hc hr
      · show L_X4_carryOut_2 (nI R) line cols (n + 1) _ _ _ = L_X4_carryOut_2 (nI R) line cols n _ _ _
        rw [L_X4_carryOut_2, hC.1, if_neg (nI_ge hi (by omega)), hw2]
        simp only [Option.bind_some, gd, nI_1]
        rw [li16, pk_mul, tn0, nI_clamp (by omega), nI_clamp (by omega)])
    (fun n s hI => ⟨s, hI.1, by
        show L_X4_carryOut_2 (nI R) line cols (n + 1) _ _ _ = _
        rw [L_X4_carryOut_2, hC.1, if_pos (nI_le (Nat.le_refl _) (by omega))]⟩) C fu 0 (lcells, cells) (by omega) (fu_lt (by omega)) ⟨fun c r hc => by omega, fun c r _ hc hr => hC.2.2.2.2 c r hc hr⟩
  obtain ⟨o3, ⟨hp1, hp2⟩, hp3⟩ := up_ex (fun n i (s : Int32 × (Nat → Int32)) => L_X4_carryOut_81 (nI R) line tags n s.1 i s.2) (C := R)
    (fun i s => s.1 = nI (fb_ct (fun r => decide (¬ ln r = r)) i) ∧ ∀ r, r < i → s.2 r = nI (tg (ln r))) (fun s => s.1 = nI (mvd R ln) ∧ ∀ r, r < R → s.2 r = nI (tg (ln r)))
    (fun n i s hi hI => by
      have hlt := hP.1 i hi
      refine ⟨(nI (fb_ct (fun r => decide (¬ ln r = r)) (i + 1)), upd s.2 i (nI (tg (ln i)))), ⟨rfl, fun r hr => ?_⟩, ?_⟩
      · show upd s.2 i (nI (tg (ln i))) r = _
        by_cases h : r = i
        · rw [h, upd_at]
        · rw [upd_ne _ _ h]; exact hI.2 r (by omega)
      · show L_X4_carryOut_81 (nI R) line tags (n + 1) _ _ _ = L_X4_carryOut_81 (nI R) line tags n _ _ _
        rw [L_X4_carryOut_81, if_neg (nI_ge hi (by omega))]
        simp only [gdI (show i < 16 by omega) (show 16 < 2 ^ 31 by omega)]
        rw [nI_clamp (show i < 2 ^ 31 by omega), hL i hi, gdI (by omega) (by omega), nI_clamp (show ln i < 2 ^ 31 by omega), hC.2.2.2.1 _ hlt, hI.1, nI_1, nI_1, fb_ct_succ]
        by_cases h : ln i = i
        · rw [if_pos (by rw [h]), if_neg (by simp [h])]; rfl
        · rw [if_neg (fun q => h ((nI_eq (by omega) (by omega)).mp q)), if_pos (by simp [h])])
    (fun n s hI => ⟨s, hI, by
        show L_X4_carryOut_81 (nI R) line tags (n + 1) _ _ _ = _
        rw [L_X4_carryOut_81, if_pos (nI_le (Nat.le_refl _) (by omega))]⟩) R fu 0 (0, ltags) (by omega) (fu_lt (by omega)) ⟨rfl, fun r hr => by omega⟩
  refine ⟨o3.2, o2.1, va_cpy o3.2 tags 0 0 R, o2.2, ?_, ⟨hC.1, hC.2.1, hC.2.2.1, fun r hr => by rw [cpy0 _ _ hr]; exact hp2 r hr, ho1⟩⟩
  have gd : ∀ {α : Type} {e : Option α}, (if (0 : Int32) < 0 ∨ (0 : Int32) < 0 ∨ nI R < 0 ∨ 16 < ((0 : Int32)).toNatClampNeg + (nI R).toNatClampNeg ∨ 16 < ((0 : Int32)).toNatClampNeg + (nI R).toNatClampNeg then none else e) = e := by
    intro α e
    rw [tn0, nI_clamp (show R < 2 ^ 31 by omega)]
    have p2 := nI_pos (n := R) (by omega)
    exact if_neg (fun q => by rcases q with q | q | q | q | q <;> first | exact absurd q (by decide) | exact p2 q | omega)
  unfold f_X4_carryOut
  have e2 : L_X4_carryOut_2 (nI R) line cols fu 0 lcells cells = _ := ho2
  have e3 : L_X4_carryOut_81 (nI R) line tags fu 0 0 ltags = _ := hp3
  rw [e2]
  simp only [Option.bind_some]
  rw [e3]
  simp only [Option.bind_some, gd]
  rw [tn0, nI_clamp (by omega), hp1]
theorem m_takeLine (hV : VT R C kd cl tg) (hM : MT R C kd cl tg now) {line : Nat → Int32} {ln : Nat → Nat} (hL : LN R ln line) (hP : LPm R ln) (thn : Nat → Int64) :
    ∃ (now' thn' : Nat → Int64), f_X10_takeLine now line thn = some (nI (mvd R ln), now', thn') ∧ MT R C kd (fun c r => cl c (ln r)) (fun r => tg (ln r)) now' := by
  have h16 := hV.1
  have h6 := hV.2.1
  obtain ⟨w, hw1, hw2⟩ := up_ex (L_X10_takeLine_2 now) (C := 120) (fun i s => ∀ j, j < i → s j = now j) (fun w => ∀ j, j < 120 → w j = now j)
    (fun n i s hi hI => ⟨vp_updL s i (now i), fun j hj => by
        by_cases h : j = i
        · rw [h, updL_at]
        · rw [updL_ne _ _ h]; exact hI j (by omega), by
        rw [L_X10_takeLine_2, li120, if_neg (nI_ge hi (by omega)), gdI hi (by omega), gdI hi (by omega), nI_clamp (by omega), nI_1]⟩)
    (fun n s hI => ⟨s, hI, by rw [L_X10_takeLine_2, li120, if_pos (nI_le (Nat.le_refl _) (by omega))]⟩) 120 fu 0 thn (by omega) (fu_lt (by omega)) (fun j hj => by omega)
  have cols_of : ∀ {s : Nat → Int64}, s 1 = lN C → f_X10_columns s = some (nI C) := by
    intro s h; unfold f_X10_columns; rw [tn1, h, lN_i]
  have rows_of : ∀ {s : Nat → Int64}, s 0 = lN R → f_X10_rows s = some (nI R) := by
    intro s h; unfold f_X10_rows; rw [tn0, h, lN_i]
  -- one row
  have L81 : ∀ (i : Nat) (s0 : Nat → Int64), i < R → s0 1 = lN C → ∃ t, ((∀ c, c < C → t (24 + 16 * c + i) = cl c (ln i)) ∧ ∀ j, (∀ c, c < C → j ≠ 24 + 16 * c + i) → t j = s0 j) ∧ L_X10_takeLine_81 line w (nI i) fu 0 s0 = some t := by
    intro i s0 hi h1
    have hlt := hP.1 i hi
    exact up_ex (L_X10_takeLine_81 line w (nI i)) (C := C) (fun k s => (∀ c, c < k → s (24 + 16 * c + i) = cl c (ln i)) ∧ ∀ j, (∀ c, c < C → j ≠ 24 + 16 * c + i) → s j = s0 j) (fun t => (∀ c, c < C → t (24 + 16 * c + i) = cl c (ln i)) ∧ ∀ j, (∀ c, c < C → j ≠ 24 + 16 * c + i) → t j = s0 j)
      (fun n k s hk hI => ⟨vp_updL s (24 + 16 * k + i) (cl k (ln i)), ⟨fun c hc => by
          by_cases h : c = k
          · rw [h, updL_at]
          · rw [updL_ne _ _ (by omega)]; exact hI.1 c (by omega), fun j hj => by rw [updL_ne _ _ (hj k hk)]; exact hI.2 j hj⟩, by
          rw [L_X10_takeLine_81, cols_of ((hI.2 1 (fun c hc => by omega)).trans h1)]
          simp only [Option.bind_some, f_X10_cellAt]
          rw [if_neg (nI_ge hk (by omega)), gdI (by omega) (by omega), nI_clamp (show i < 2 ^ 31 by omega), hL i hi, li24, li16, pk_mul, nI_add, nI_add, nI_add, gdI (by omega) (by omega), gdI (by omega) (by omega), nI_clamp (by omega), nI_clamp (by omega), hw1 _ (by omega), hM.2.2.2.2 k _ hk hlt, nI_1]⟩)
      (fun n s hI => ⟨s, hI, by
          rw [L_X10_takeLine_81, cols_of ((hI.2 1 (fun c hc => by omega)).trans h1)]
          simp only [Option.bind_some]
          rw [if_pos (nI_le (Nat.le_refl _) (by omega))]⟩) C fu 0 s0 (by omega) (fu_lt (by omega)) ⟨fun c hc => by omega, fun j hj => rfl⟩
  obtain ⟨o, ⟨q1, q2, q3, q4, q5, q6⟩, q7⟩ := up_ex (fun n i (s : Int32 × (Nat → Int64)) => L_X10_takeLine_30 line w n s.1 i s.2) (C := R)
    (fun i s => s.1 = nI (fb_ct (fun r => decide (¬ ln r = r)) i) ∧ s.2 0 = lN R ∧ s.2 1 = lN C ∧ (∀ c, c < C → s.2 (2 + c) = lN (kd c)) ∧ (∀ r, r < i → s.2 (8 + r) = lN (tg (ln r))) ∧ ∀ c r, c < C → r < i → s.2 (24 + 16 * c + r) = cl c (ln r))
    (fun s => s.1 = nI (mvd R ln) ∧ s.2 0 = lN R ∧ s.2 1 = lN C ∧ (∀ c, c < C → s.2 (2 + c) = lN (kd c)) ∧ (∀ r, r < R → s.2 (8 + r) = lN (tg (ln r))) ∧ ∀ c r, c < C → r < R → s.2 (24 + 16 * c + r) = cl c (ln r))
    (fun n i s hi hI => by
      have hlt := hP.1 i hi
      obtain ⟨i1, i2, i3, i4, i5, i6⟩ := hI
      obtain ⟨t, ⟨t1, t2⟩, t3⟩ := L81 i (vp_updL s.2 (8 + i) (lN (tg (ln i)))) hi (by rw [updL_ne _ _ (by omega)]; exact i3)
      refine ⟨(nI (fb_ct (fun r => decide (¬ ln r = r)) (i + 1)), t), ⟨rfl, ?_, ?_, ?_, ?_, ?_⟩, ?_⟩
      · show t 0 = _
        rw [t2 0 (fun c hc => by omega), updL_ne _ _ (by omega)]; exact i2
      · show t 1 = _
        rw [t2 1 (fun c hc => by omega), updL_ne _ _ (by omega)]; exact i3
      · intro c hc
        show t (2 + c) = _
        rw [t2 _ (fun c hc => by omega), updL_ne _ _ (by omega)]; exact i4 c hc
      · intro r hr
        show t (8 + r) = _
        rw [t2 _ (fun c hc => by omega)]
        by_cases h : r = i
        · rw [h, updL_at]
        · rw [updL_ne _ _ (by omega)]; exact i5 r (by omega)
      · intro c r hc hr
        show t (24 + 16 * c + r) = _
        by_cases h : r = i
        · rw [h]; exact t1 c hc
        · rw [t2 _ (fun c' hc' => by omega), updL_ne _ _ (by omega)]; exact i6 c r hc (by omega)
      · show L_X10_takeLine_30 line w (n + 1) _ _ _ = L_X10_takeLine_30 line w n _ _ _
        rw [L_X10_takeLine_30, rows_of i2]
        simp only [Option.bind_some]
        rw [if_neg (nI_ge hi (by omega)), gdI (by omega) (by omega)]
        simp only [gdI (show i < 16 by omega) (show 16 < 2 ^ 31 by omega)]
        rw [nI_clamp (show i < 2 ^ 31 by omega), hL i hi, li8, nI_add, nI_add]
        simp only [gdI (show 8 + ln i < 120 by omega) (show 120 < 2 ^ 31 by omega), gdI (show 8 + i < 120 by omega) (show 120 < 2 ^ 31 by omega)]
        rw [nI_clamp (show 8 + ln i < 2 ^ 31 by omega), nI_clamp (show 8 + i < 2 ^ 31 by omega), hw1 _ (by omega), hM.2.2.2.1 _ hlt, t3]
        simp only [Option.bind_some]
        rw [i1, nI_1, fb_ct_succ]
        by_cases h : ln i = i
        · rw [if_pos (by rw [h]), if_neg (by simp [h])]
          simp only [Option.bind_some, li0, nI_add]
        · rw [if_neg (fun q => h ((nI_eq (by omega) (by omega)).mp q)), if_pos (by simp [h])]
          simp only [Option.bind_some, nI_1])
    (fun n s hI => ⟨s, hI, by
        show L_X10_takeLine_30 line w (n + 1) _ _ _ = _
        rw [L_X10_takeLine_30, rows_of hI.2.1]
        simp only [Option.bind_some]
        rw [if_pos (nI_le (Nat.le_refl _) (by omega))]⟩) R fu 0 (0, now) (by omega) (fu_lt (by omega)) ⟨rfl, hM.1, hM.2.1, hM.2.2.1, fun r hr => by omega, fun c r hc hr => by omega⟩
  refine ⟨o.2, w, ?_, ⟨q2, q3, q4, q5, q6⟩⟩
  unfold f_X10_takeLine
  have e1 : L_X10_takeLine_2 now fu 0 thn = _ := hw2
  have e2 : L_X10_takeLine_30 line w fu 0 0 now = _ := q7
  rw [e1]
  simp only [Option.bind_some]
  rw [e2]
  simp only [Option.bind_some]
  rw [q1]
end
