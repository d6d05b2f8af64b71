/-! floats and doubles: what the machine's functions answer, in numbers -/
theorem near_ge (a d : Nat) : a / d ≤ FP.Core.nearest a d := by
  unfold FP.Core.nearest
  generalize a / d = q
  split
  · exact Nat.le_refl _
  · split <;> omega
theorem near_le (a d : Nat) : FP.Core.nearest a d ≤ a / d + 1 := by
  unfold FP.Core.nearest
  generalize a / d = q
  split
  · omega
  · split <;> omega
theorem near_1 (a : Nat) : FP.Core.nearest a 1 = a := by
  unfold FP.Core.nearest
  rw [Nat.mod_one, if_pos (by decide), Nat.div_one]
theorem near_mul (c d : Nat) (hd : 0 < d) : FP.Core.nearest (c * d) d = c := by
  unfold FP.Core.nearest
  rw [Nat.mul_mod_left, if_pos (by omega), Nat.mul_div_cancel _ hd]
theorem pow_split {a b : Nat} (h : a ≤ b) : 2 ^ b = 2 ^ a * 2 ^ (b - a) := by
  rw [← Nat.pow_add]; congr 1; omega
/-- the digits of n, P behind the first one, the nearest -/
def dgt (P n : Nat) : Nat := if n.log2 ≤ P then n * 2 ^ (P - n.log2) else FP.Core.nearest n (2 ^ (n.log2 - P))
theorem dgt_ge {P n : Nat} (h : n ≠ 0) : 2 ^ P ≤ dgt P n := by
  have h1 := Nat.log2_self_le h
  unfold dgt
  by_cases c : n.log2 ≤ P
  · rw [if_pos c, pow_split c]
    exact Nat.mul_le_mul_right _ h1
  · rw [if_neg c]
    refine Nat.le_trans ?_ (near_ge _ _)
    rw [Nat.le_div_iff_mul_le (Nat.two_pow_pos _), ← pow_split (by omega)]
    exact h1
theorem dgt_le {P n : Nat} (h : n ≠ 0) : dgt P n ≤ 2 ^ (P + 1) := by
  have h1 : n < 2 ^ (n.log2 + 1) := Nat.lt_log2_self
  unfold dgt
  by_cases c : n.log2 ≤ P
  · rw [if_pos c, pow_split (show n.log2 + 1 ≤ P + 1 by omega), show P + 1 - (n.log2 + 1) = P - n.log2 by omega]
    exact Nat.mul_le_mul_right _ (Nat.le_of_lt h1)
  · rw [if_neg c]
    have h2 : n / 2 ^ (n.log2 - P) < 2 ^ (P + 1) := by
      rw [Nat.div_lt_iff_lt_mul (Nat.two_pow_pos _), ← Nat.pow_add, show P + 1 + (n.log2 - P) = n.log2 + 1 by omega]
      exact h1
    have h3 := near_le n (2 ^ (n.log2 - P))
    omega
theorem fp_lead {n : Nat} (h : n ≠ 0) : FP.Core.leading n 1 = (n.log2 : Int) := by
  have e0 : (1 : Nat).log2 = 0 := by decide
  have e1 : ((n.log2 : Int) - ((0 : Nat) : Int)) = (n.log2 : Int) := by omega
  have e2 : ((n.log2 : Int)).toNat = n.log2 := by omega
  have e3 : (-(n.log2 : Int)).toNat = 0 := by omega
  simp only [FP.Core.leading, e0, e1, e2, e3]
  rw [if_pos]
  rw [Nat.one_mul, Nat.pow_zero, Nat.mul_one]
  exact Nat.log2_self_le h
theorem fp_leadP {P c : Nat} (h1 : 2 ^ P ≤ c) (h2 : c < 2 ^ (P + 1)) : FP.Core.leading c (2 ^ P) = 0 := by
  have hp := Nat.two_pow_pos P
  have e : c.log2 = P := (Nat.log2_eq_iff (by omega)).mpr ⟨h1, h2⟩
  have e1 : ((P : Int) - (P : Int)) = 0 := by omega
  simp only [FP.Core.leading, e, Nat.log2_two_pow, e1]
  rw [if_pos]
  show 2 ^ P * 2 ^ (0 : Int).toNat ≤ c * 2 ^ (-(0 : Int)).toNat
  simpa using h1
theorem fp_ratio {f : FP.Core.Fmt} {P n : Nat} (h : n ≠ 0) (s : Bool) (hP : f.p = P + 1) (hq : f.qmin ≤ (n.log2 : Int) - P) : FP.Core.roundRatio f s n 1 0 = FP.Core.settle f s (dgt P n) ((n.log2 : Int) - P) := by
  unfold FP.Core.roundRatio
  rw [if_neg h]
  unfold FP.Core.roundAt FP.Core.quantum
  rw [fp_lead h, hP]
  have e : max f.qmin ((n.log2 : Int) + 0 - (((P + 1 : Nat) : Int) - 1)) = (n.log2 : Int) - P := by
    rw [show (n.log2 : Int) + 0 - (((P + 1 : Nat) : Int) - 1) = (n.log2 : Int) - P by omega]
    omega
  rw [e]
  congr 1
  unfold FP.Core.unitsNum FP.Core.unitsDen dgt
  by_cases c : n.log2 ≤ P
  · rw [if_pos c, show (0 - ((n.log2 : Int) - P)).toNat = P - n.log2 by omega, show ((n.log2 : Int) - P - 0).toNat = 0 by omega, Nat.pow_zero, Nat.mul_one, near_1]
  · rw [if_neg c, show (0 - ((n.log2 : Int) - P)).toNat = 0 by omega, show ((n.log2 : Int) - P - 0).toNat = n.log2 - P by omega, Nat.pow_zero, Nat.mul_one, Nat.one_mul]
theorem fp_enc {f : FP.Core.Fmt} {P : Nat} (hP : f.p = P + 1) {s : Bool} {c : Nat} {q : Int} (h1 : 2 ^ P ≤ c) (h2 : c ≤ 2 ^ (P + 1)) (h3 : f.qmin ≤ q) (h4 : q + 1 ≤ f.qmax) :
    FP.Core.encode f (FP.Core.settle f s c q) = (s.toNat * f.exps + (q - f.qmin).toNat) * 2 ^ P + c := by
  have ht : f.tails = 2 ^ P := by unfold FP.Core.Fmt.tails; rw [hP, Nat.add_sub_cancel]
  have h2P : 2 ^ (P + 1) = 2 * 2 ^ P := by rw [Nat.pow_succ, Nat.mul_comm]
  unfold FP.Core.settle FP.Core.bound
  rw [hP]
  by_cases hc : c < 2 ^ (P + 1)
  · rw [if_pos hc, if_pos (by omega)]
    simp only [FP.Core.encode]
    rw [ht, if_neg (by omega)]
    unfold FP.Core.assemble
    rw [ht, show s.toNat * f.exps + ((q - f.qmin).toNat + 1) = (s.toNat * f.exps + (q - f.qmin).toNat) + 1 by omega, Nat.add_mul _ 1, Nat.one_mul]
    generalize (s.toNat * f.exps + (q - f.qmin).toNat) * 2 ^ P = z
    omega
  · have hc' : c = 2 ^ (P + 1) := by omega
    rw [if_neg hc, if_pos h4]
    simp only [FP.Core.encode]
    rw [if_neg (by omega)]
    unfold FP.Core.assemble
    rw [ht, hc', h2P, show (q + 1 - f.qmin).toNat = (q - f.qmin).toNat + 1 by omega, show s.toNat * f.exps + ((q - f.qmin).toNat + 1 + 1) = (s.toNat * f.exps + (q - f.qmin).toNat) + 2 by omega, Nat.add_mul _ 2]
    generalize (s.toNat * f.exps + (q - f.qmin).toNat) * 2 ^ P = z
    omega
theorem fp_dec {f : FP.Core.Fmt} {P : Nat} (hP : f.p = P + 1) {s : Bool} {E m : Nat} (hE : 0 < E) (hE2 : E < f.exps - 1) (hm : m < 2 ^ P) : FP.Core.decode f ((s.toNat * f.exps + E) * 2 ^ P + m) = .fin s (2 ^ P + m) (f.qmin + ((E : Int) - 1)) := by
  have ht : f.tails = 2 ^ P := by unfold FP.Core.Fmt.tails; rw [hP, Nat.add_sub_cancel]
  have hp := Nat.two_pow_pos P
  have d1 : ((s.toNat * f.exps + E) * 2 ^ P + m) / 2 ^ P = s.toNat * f.exps + E := by
    rw [Nat.add_comm, Nat.add_mul_div_right _ _ hp, Nat.div_eq_of_lt hm, Nat.zero_add]
  have d2 : ((s.toNat * f.exps + E) * 2 ^ P + m) % 2 ^ P = m := by
    rw [Nat.add_comm, Nat.add_mul_mod_self_right, Nat.mod_eq_of_lt hm]
  have d3 : (s.toNat * f.exps + E) % f.exps = E := by
    rw [Nat.add_comm, Nat.add_mul_mod_self_right, Nat.mod_eq_of_lt (by omega)]
  have d4 : (s.toNat * f.exps + E) / f.exps = s.toNat := by
    rw [Nat.add_comm, Nat.add_mul_div_right _ _ (by omega), Nat.div_eq_of_lt (by omega), Nat.zero_add]
  have d5 : (s.toNat % 2 == 1) = s := by cases s <;> rfl
  unfold FP.Core.decode FP.Core.fieldE FP.Core.fieldT FP.Core.fieldS
  rw [ht, d1, d2, d3, d4, d5, if_neg (by omega), if_neg (by omega)]
/-- a number that a format has, by a power of two: the exponent alone is less -/
theorem fp_quo {f : FP.Core.Fmt} {P : Nat} (hP : f.p = P + 1) {s : Bool} {c : Nat} {q : Int} {h : Nat} (h1 : 2 ^ P ≤ c) (h2 : c < 2 ^ (P + 1)) (h3 : f.qmin ≤ q - h) (h4 : q - h + 1 ≤ f.qmax) :
    FP.Core.encode f (FP.Core.quotient f (.fin s c q) (.fin false (2 ^ P) ((h : Int) - P))) = (s.toNat * f.exps + (q - h - f.qmin).toNat) * 2 ^ P + c := by
  have hp := Nat.two_pow_pos P
  have hs : (s != false) = s := by cases s <;> rfl
  simp only [FP.Core.quotient]
  rw [if_neg (by omega), hs]
  unfold FP.Core.roundRatio
  rw [if_neg (by omega)]
  unfold FP.Core.roundAt FP.Core.quantum
  rw [fp_leadP h1 h2, hP]
  have e : max f.qmin (0 + (q - ((h : Int) - P)) - (((P + 1 : Nat) : Int) - 1)) = q - h := by
    rw [show 0 + (q - ((h : Int) - P)) - (((P + 1 : Nat) : Int) - 1) = q - h by omega]
    omega
  rw [e]
  unfold FP.Core.unitsNum FP.Core.unitsDen
  rw [show (q - ((h : Int) - P) - (q - h)).toNat = P by omega, show (q - h - (q - ((h : Int) - P))).toNat = 0 by omega, Nat.pow_zero, Nat.mul_one, near_mul c _ hp]
  exact fp_enc hP h1 (Nat.le_of_lt h2) h3 h4
/-- whole numbers, by a power of two -/
theorem fp_div {f : FP.Core.Fmt} {P K h : Nat} (hP : f.p = P + 1) (hK : f.qmin = -(P : Int) - K) {i : Int} (hi : i ≠ 0) (hh : h ≤ K) (hb : i.natAbs.log2 + K + 2 < f.exps - 1) (hm : (i.natAbs.log2 : Int) - P + 2 ≤ f.qmax) {k : Nat} (hk : FP.Core.decode f k = .fin false (2 ^ P) ((h : Int) - P)) :
    FP.Core.fromInt f i = ((decide (i < 0)).toNat * f.exps + (i.natAbs.log2 + K)) * 2 ^ P + dgt P i.natAbs ∧
    FP.Core.div f (FP.Core.fromInt f i) k = ((decide (i < 0)).toNat * f.exps + (i.natAbs.log2 + K - h)) * 2 ^ P + dgt P i.natAbs := by
  have hn : i.natAbs ≠ 0 := by omega
  have g1 := dgt_ge (P := P) hn
  have g2 := dgt_le (P := P) hn
  have hp := Nat.two_pow_pos P
  have h2P : 2 ^ (P + 1) = 2 * 2 ^ P := by rw [Nat.pow_succ, Nat.mul_comm]
  have e1 : FP.Core.fromInt f i = ((decide (i < 0)).toNat * f.exps + (i.natAbs.log2 + K)) * 2 ^ P + dgt P i.natAbs := by
    show FP.Core.encode f (FP.Core.roundRatio f (decide (i < 0)) i.natAbs 1 0) = _
    rw [fp_ratio hn _ hP (by omega), fp_enc hP g1 g2 (by omega) (by omega), show ((i.natAbs.log2 : Int) - P - f.qmin).toNat = i.natAbs.log2 + K by omega]
  refine ⟨e1, ?_⟩
  unfold FP.Core.div
  rw [e1, hk]
  generalize decide (i < 0) = s at *
  generalize i.natAbs.log2 = t at *
  generalize dgt P i.natAbs = c at *
  by_cases hc : c < 2 ^ (P + 1)
  · have d := fp_dec hP (s := s) (E := t + K + 1) (m := c - 2 ^ P) (by omega) (by omega) (by omega)
    rw [show (s.toNat * f.exps + (t + K + 1)) * 2 ^ P + (c - 2 ^ P) = (s.toNat * f.exps + (t + K)) * 2 ^ P + c by
      rw [← Nat.add_assoc, Nat.add_mul _ 1, Nat.one_mul]
      generalize (s.toNat * f.exps + (t + K)) * 2 ^ P = z
      omega, show 2 ^ P + (c - 2 ^ P) = c by omega] at d
    rw [d, fp_quo hP g1 hc (by omega) (by omega)]
    rw [show (f.qmin + (((t + K + 1 : Nat) : Int) - 1) - (h : Int) - f.qmin).toNat = t + K - h by omega]
  · have hc' : c = 2 ^ (P + 1) := by omega
    have d := fp_dec hP (s := s) (E := t + K + 2) (m := 0) (by omega) (by omega) hp
    simp only [Nat.add_zero] at d
    rw [show (s.toNat * f.exps + (t + K + 2)) * 2 ^ P = (s.toNat * f.exps + (t + K)) * 2 ^ P + c by
      rw [← Nat.add_assoc, Nat.add_mul _ 2, hc', h2P]] at d
    rw [d, fp_quo hP (Nat.le_refl _) (by omega) (by omega) (by omega)]
    rw [show (f.qmin + (((t + K + 2 : Nat) : Int) - 1) - (h : Int) - f.qmin).toNat = t + K - h + 1 by omega, hc', h2P, ← Nat.add_assoc, Nat.add_mul _ 1, Nat.one_mul]
    omega
/-- a float as a double -/
theorem fp_conv {s : Bool} {E m : Nat} (hE : 0 < E) (hE2 : E < 255) (hm : m < 2 ^ 23) : FP.Core.convert FP.Core.b32 FP.Core.b64 ((s.toNat * 256 + E) * 2 ^ 23 + m) = (s.toNat * 2048 + (E + 896)) * 2 ^ 52 + m * 2 ^ 29 := by
  have d := fp_dec (f := FP.Core.b32) (P := 23) rfl (s := s) (E := E) (m := m) hE hE2 hm
  have d' : FP.Core.decode FP.Core.b32 ((s.toNat * 256 + E) * 2 ^ 23 + m) = .fin s (2 ^ 23 + m) ((-149 : Int) + ((E : Int) - 1)) := d
  unfold FP.Core.convert
  rw [d']
  have hc : (2 ^ 23 + m).log2 = 23 := (Nat.log2_eq_iff (by omega)).mpr ⟨by omega, by omega⟩
  simp only [FP.Core.round]
  unfold FP.Core.roundRatio
  rw [if_neg (by omega)]
  unfold FP.Core.roundAt FP.Core.quantum
  rw [fp_lead (by omega), hc]
  have q1 : FP.Core.Fmt.qmin FP.Core.b64 = -1074 := by decide
  have q2 : FP.Core.Fmt.qmax FP.Core.b64 = 971 := by decide
  have q3 : ((FP.Core.b64).p : Int) = 53 := by decide
  have e : max (-1074 : Int) (((23 : Nat) : Int) + (-149 + ((E : Int) - 1)) - (53 - 1)) = (E : Int) - 179 := by omega
  rw [q1, q3, e]
  unfold FP.Core.unitsNum FP.Core.unitsDen
  rw [show ((-149 : Int) + ((E : Int) - 1) - ((E : Int) - 179)).toNat = 29 by omega, show ((E : Int) - 179 - (-149 + ((E : Int) - 1))).toNat = 0 by omega, Nat.pow_zero, Nat.mul_one, near_1]
  rw [fp_enc (f := FP.Core.b64) (P := 52) rfl (by omega) (by omega) (by rw [q1]; omega) (by rw [q2]; omega), q1, show ((E : Int) - 179 - -1074).toNat = E + 895 by omega]
  show (s.toNat * 2048 + (E + 895)) * 2 ^ 52 + _ = _
  omega
/-- how far from 0 a double is -/
def mg (m : Nat) : Nat := if m = 0 then 0 else (2 ^ 52 + m % 2 ^ 52) * 2 ^ (m / 2 ^ 52 - 1)
theorem mg_mono {a b : Nat} (ha : a = 0 ∨ 1 ≤ a / 2 ^ 52) (h : a < b) : mg a < mg b := by
  unfold mg
  rw [if_neg (show b ≠ 0 by omega)]
  by_cases h0 : a = 0
  · rw [if_pos h0]
    exact Nat.mul_pos (by omega) (Nat.two_pow_pos _)
  · rw [if_neg h0]
    have ha' := ha.resolve_left h0
    by_cases he : a / 2 ^ 52 = b / 2 ^ 52
    · rw [he]
      exact Nat.mul_lt_mul_of_pos_right (by omega) (Nat.two_pow_pos _)
    · have hlt : a / 2 ^ 52 ≤ b / 2 ^ 52 - 1 := by omega
      have h1 : (2 ^ 52 + a % 2 ^ 52) * 2 ^ (a / 2 ^ 52 - 1) < 2 ^ 53 * 2 ^ (a / 2 ^ 52 - 1) := Nat.mul_lt_mul_of_pos_right (by omega) (Nat.two_pow_pos _)
      have h2 : 2 ^ 53 * 2 ^ (a / 2 ^ 52 - 1) = 2 ^ 52 * 2 ^ (a / 2 ^ 52) := by
        rw [← Nat.pow_add, ← Nat.pow_add]; congr 1; omega
      have h3 : 2 ^ 52 * 2 ^ (a / 2 ^ 52) ≤ 2 ^ 52 * 2 ^ (b / 2 ^ 52 - 1) := Nat.mul_le_mul_left _ (Nat.pow_le_pow_right (by decide) hlt)
      have h4 : 2 ^ 52 * 2 ^ (b / 2 ^ 52 - 1) ≤ (2 ^ 52 + b % 2 ^ 52) * 2 ^ (b / 2 ^ 52 - 1) := Nat.mul_le_mul_right _ (by omega)
      omega
/-- a double that is 0 or a normal one -/
def dok (n : Nat) : Prop := n = 0 ∨ (0 < n / 2 ^ 52 % 2048 ∧ n / 2 ^ 52 % 2048 < 2047)
/-- what it is worth -/
def sv (n : Nat) : Int := FP.Core.signed (decide (2 ^ 63 ≤ n)) (mg (n % 2 ^ 63))
theorem fp_dec64 {n : Nat} (hn : n < 2 ^ 64) (h : dok n) : ∃ c k, FP.Core.decode FP.Core.b64 n = .fin (decide (2 ^ 63 ≤ n)) c ((-1074 : Int) + (k : Nat)) ∧ mg (n % 2 ^ 63) = c * 2 ^ k := by
  rcases h with rfl | ⟨h1, h2⟩
  · exact ⟨0, 0, by decide +kernel, by decide⟩
  · have d := fp_dec (f := FP.Core.b64) (P := 52) rfl (s := decide (2 ^ 63 ≤ n)) (E := n / 2 ^ 52 % 2048) (m := n % 2 ^ 52) h1 h2 (by omega)
    have e : ((decide (2 ^ 63 ≤ n)).toNat * FP.Core.b64.exps + n / 2 ^ 52 % 2048) * 2 ^ 52 + n % 2 ^ 52 = n := by
      show ((decide (2 ^ 63 ≤ n)).toNat * 2048 + n / 2 ^ 52 % 2048) * 2 ^ 52 + n % 2 ^ 52 = n
      by_cases c : 2 ^ 63 ≤ n
      · rw [decide_eq_true c]
        show (1 * 2048 + n / 2 ^ 52 % 2048) * 2 ^ 52 + n % 2 ^ 52 = n
        omega
      · rw [decide_eq_false c]
        show (0 * 2048 + n / 2 ^ 52 % 2048) * 2 ^ 52 + n % 2 ^ 52 = n
        omega
    rw [e] at d
    refine ⟨2 ^ 52 + n % 2 ^ 52, n / 2 ^ 52 % 2048 - 1, ?_, ?_⟩
    · rw [d]
      show FP.Core.Datum.fin _ _ ((-1074 : Int) + _) = _
      congr 2
      omega
    · unfold mg
      rw [if_neg (by omega), show n % 2 ^ 63 % 2 ^ 52 = n % 2 ^ 52 by omega, show n % 2 ^ 63 / 2 ^ 52 = n / 2 ^ 52 % 2048 by omega]
theorem cmp_mul {a b k : Int} (h : 0 < k) : compare (a * k) (b * k) = compare a b := by
  have h1 : a * k < b * k ↔ a < b := Int.mul_lt_mul_right h
  have h2 : a * k = b * k ↔ a = b := ⟨fun e => Int.eq_of_mul_eq_mul_right (by omega) e, fun e => by rw [e]⟩
  show (if a * k < b * k then Ordering.lt else if a * k = b * k then .eq else .gt) = (if a < b then Ordering.lt else if a = b then .eq else .gt)
  simp only [h1, h2]
theorem sg_mul (s : Bool) (c k : Nat) : FP.Core.signed s c * (k : Int) = FP.Core.signed s (c * k) := by
  unfold FP.Core.signed
  cases s
  · show (c : Int) * k = _
    simp
  · show (-(c : Int)) * k = -((c * k : Nat) : Int)
    rw [Int.neg_mul, Int.natCast_mul]
theorem fp_cmp {a b : Nat} (ha : a < 2 ^ 64) (hb : b < 2 ^ 64) (ka : dok a) (kb : dok b) : FP.Core.cmp FP.Core.b64 a b = some (compare (sv a) (sv b)) := by
  obtain ⟨c, k, e1, e2⟩ := fp_dec64 ha ka
  obtain ⟨d, j, e3, e4⟩ := fp_dec64 hb kb
  unfold FP.Core.cmp sv
  rw [e1, e3, e2, e4]
  simp only [FP.Core.order]
  congr 1
  unfold FP.Core.inUnits
  rw [← cmp_mul (k := ((2 ^ (min k j) : Nat) : Int)) (by have := Nat.two_pow_pos (min k j); omega), sg_mul, sg_mul, Nat.mul_assoc, Nat.mul_assoc, ← Nat.pow_add, ← Nat.pow_add]
  rw [show ((-1074 : Int) + (k : Int) - min (-1074 + (k : Int)) (-1074 + (j : Int))).toNat + min k j = k by omega, show ((-1074 : Int) + (j : Int) - min (-1074 + (k : Int)) (-1074 + (j : Int))).toNat + min k j = j by omega]
/-- the number by which doubles are ordered -/
def sw (n : Nat) : Int := if 2 ^ 63 ≤ n then -1 - ((n % 2 ^ 63 : Nat) : Int) else ((n % 2 ^ 63 : Nat) : Int)
theorem sv_lt {a b : Nat} (ha : a < 2 ^ 64) (hb : b < 2 ^ 64) (ka : dok a) (kb : dok b) (h : sw a < sw b) : sv a < sv b := by
  have m1 : a % 2 ^ 63 = 0 ∨ 1 ≤ a % 2 ^ 63 / 2 ^ 52 := by
    rcases ka with rfl | ka
    · exact Or.inl rfl
    · exact Or.inr (by omega)
  have m2 : b % 2 ^ 63 = 0 ∨ 1 ≤ b % 2 ^ 63 / 2 ^ 52 := by
    rcases kb with rfl | kb
    · exact Or.inl rfl
    · exact Or.inr (by omega)
  have z1 : 2 ^ 63 ≤ a → 0 < mg (a % 2 ^ 63) := fun q => by
    have := mg_mono (a := 0) (b := a % 2 ^ 63) (Or.inl rfl) (by rcases ka with rfl | ka <;> omega)
    exact Nat.lt_of_le_of_lt (Nat.zero_le _) this
  unfold sw at h
  unfold sv FP.Core.signed
  by_cases ca : 2 ^ 63 ≤ a
  · rw [if_pos ca] at h
    rw [decide_eq_true ca, if_pos rfl]
    by_cases cb : 2 ^ 63 ≤ b
    · rw [if_pos cb] at h
      rw [decide_eq_true cb, if_pos rfl]
      have := mg_mono m2 (show b % 2 ^ 63 < a % 2 ^ 63 by omega)
      omega
    · rw [decide_eq_false cb, if_neg (by decide)]
      have := z1 ca
      omega
  · rw [if_neg ca] at h
    rw [decide_eq_false ca, if_neg (by decide)]
    by_cases cb : 2 ^ 63 ≤ b
    · rw [if_pos cb] at h
      omega
    · rw [if_neg cb] at h
      rw [decide_eq_false cb, if_neg (by decide)]
      have := mg_mono m1 (show a % 2 ^ 63 < b % 2 ^ 63 by omega)
      omega
theorem sw_inj {a b : Nat} (ha : a < 2 ^ 64) (hb : b < 2 ^ 64) (h : sw a = sw b) : a = b := by
  unfold sw at h
  split at h <;> split at h <;> omega
theorem fp_ord {a b : Nat} (ha : a < 2 ^ 64) (hb : b < 2 ^ 64) (ka : dok a) (kb : dok b) : FP.Core.cmp FP.Core.b64 a b = some (if sw a < sw b then .lt else if a = b then .eq else .gt) := by
  rw [fp_cmp ha hb ka kb]
  congr 1
  show (if sv a < sv b then Ordering.lt else if sv a = sv b then .eq else .gt) = _
  by_cases h1 : sw a < sw b
  · rw [if_pos h1, if_pos (sv_lt ha hb ka kb h1)]
  · rw [if_neg h1]
    by_cases h2 : a = b
    · subst h2
      rw [if_neg (by omega), if_pos rfl, if_pos rfl]
    · have h3 : sw b < sw a := by
        have : sw a ≠ sw b := fun e => h2 (sw_inj ha hb e)
        omega
      have := sv_lt hb ha kb ka h3
      rw [if_neg (by omega), if_neg (by omega), if_neg h2]
