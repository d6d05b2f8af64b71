/-! lines: two change places, one goes elsewhere, tours -/
theorem down_loop {S E : Type} (L : Nat → Int32 → S → Option E) (lo hi : Nat) (inv : Nat → S) {res : E}
    (hs : ∀ n i, lo ≤ i → i < hi → L (n + 1) (nI (i + 1)) (inv (i + 1)) = L n (nI i) (inv i)) (he : ∀ n, L (n + 1) (nI lo) (inv lo) = some res) :
    ∀ k n i, lo + k = i → i ≤ hi → k < n → L n (nI i) (inv i) = some res := by
  intro k
  induction k with
  | zero =>
    intro n i h1 h2 h3
    obtain ⟨n, rfl⟩ : ∃ n', n = n' + 1 := ⟨n - 1, by omega⟩
    obtain rfl : i = lo := by omega
    exact he n
  | succ k ih =>
    intro n i h1 h2 h3
    obtain ⟨n, rfl⟩ : ∃ n', n = n' + 1 := ⟨n - 1, by omega⟩
    obtain ⟨i, rfl⟩ : ∃ j, i = j + 1 := ⟨i - 1, by omega⟩
    rw [hs n i (by omega) (by omega)]
    exact ih n i (by omega) (by omega) (by omega)
/-- where the row at a place comes from -/
def mvI (a b r : Nat) : Nat := if a < b then (if a ≤ r ∧ r < b then r + 1 else if r = b then a else r) else (if b < r ∧ r ≤ a then r - 1 else if r = b then a else r)
def swI (a b r : Nat) : Nat := if r = b then a else if r = a then b else r
theorem mvI_inj {a b r s : Nat} (h : mvI a b r = mvI a b s) : r = s := by
  unfold mvI at h
  (repeat' split at h) <;> omega
theorem swI_inj {a b r s : Nat} (h : swI a b r = swI a b s) : r = s := by
  unfold swI at h
  (repeat' split at h) <;> omega
theorem mvI_lt {R a b r : Nat} (ha : a < R) (hb : b < R) (hr : r < R) : mvI a b r < R := by
  unfold mvI
  (repeat' split) <;> omega
theorem swI_lt {R a b r : Nat} (ha : a < R) (hb : b < R) (hr : r < R) : swI a b r < R := by
  unfold swI
  (repeat' split) <;> omega
theorem LPm.comp {R : Nat} {ln f : Nat → Nat} (h : LPm R ln) (hf : ∀ r, r < R → f r < R) (hi : ∀ r s, r < R → s < R → f r = f s → r = s) : LPm R (fun r => ln (f r)) :=
  ⟨fun r hr => h.1 _ (hf r hr), fun r s hr hs e => hi r s hr hs (h.2 _ _ (hf r hr) (hf s hs) e)⟩
theorem LPm.id (R : Nat) : LPm R id := ⟨fun _ h => h, fun _ _ _ _ e => e⟩
theorem LN.comp {R : Nat} {ln f : Nat → Nat} {line : Nat → Int32} (h : LN R ln line) (hf : ∀ r, r < R → f r < R) : LN R (fun r => ln (f r)) (fun r => line (f r)) := fun r hr => h _ (hf r hr)
theorem c_exchange (line : Nat → Int32) {a b : Nat} (ha : a < 16) (hb : b < 16) : f_X4_exchange line (nI a) (nI b) = some (fun r => line (swI a b r)) := by
  unfold f_X4_exchange
  rw [gdI ha (by omega), gdI hb (by omega), gdI ha (by omega), gdI hb (by omega), nI_clamp (by omega), nI_clamp (by omega)]
  congr 1
  funext r
  unfold upd swI
  (repeat' split) <;> first | rfl | omega | (congr 1 <;> omega)
theorem m_swap (line : Nat → Int32) {a b : Nat} (ha : a < 16) (hb : b < 16) : f_X10_swapInLine line (nI a) (nI b) = some (fun r => line (swI a b r)) := c_exchange line ha hb
theorem c_shift10 (line : Nat → Int32) {a b : Nat} (h : a ≤ b) (hb : b < 16) : L_X4_shift_10 (nI b) fu (nI a) line = some (fun r => if a ≤ r ∧ r < b then line (r + 1) else line r) := by
  have := up_from (L_X4_shift_10 (nI b)) (C := b) a (fun i => fun r => if a ≤ r ∧ r < i then line (r + 1) else line r) (res := fun r => if a ≤ r ∧ r < b then line (r + 1) else line r)
    (fun n i h1 hi => by
      rw [L_X4_shift_10, if_neg (nI_ge hi (by omega)), nI_1, gdI (by omega) (by omega), gdI (by omega) (by omega), nI_clamp (by omega), nI_clamp (by omega)]
      congr 1
      funext r
      unfold upd
      by_cases h2 : r = i
      · subst h2
        rw [if_pos rfl, if_neg (by omega), if_pos (by omega)]
      · rw [if_neg h2]
        dsimp only
        by_cases h3 : a ≤ r ∧ r < i
        · rw [if_pos h3, if_pos (by omega)]
        · rw [if_neg h3, if_neg (by omega)])
    (fun n => by rw [L_X4_shift_10, if_pos (nI_le (Nat.le_refl _) (by omega))]) (b - a) fu a (by omega) (by omega) (fu_lt (by omega))
  have e : (fun r => if a ≤ r ∧ r < a then line (r + 1) else line r) = line := funext (fun r => if_neg (by omega))
  rw [e] at this
  exact this
theorem c_shift41 (line : Nat → Int32) {a b : Nat} (h : b ≤ a) (ha : a < 16) : L_X4_shift_41 (nI b) fu (nI a) line = some (fun r => if b < r ∧ r ≤ a then line (r - 1) else line r) := by
  have := down_loop (L_X4_shift_41 (nI b)) b a (fun i => fun r => if i < r ∧ r ≤ a then line (r - 1) else line r) (res := fun r => if b < r ∧ r ≤ a then line (r - 1) else line r)
    (fun n i h1 hi => by
      rw [L_X4_shift_41, if_neg (nI_ge (by omega) (by omega)), nI_pred, gdI (by omega) (by omega), gdI (by omega) (by omega), nI_clamp (by omega), nI_clamp (by omega), pk_m1]
      congr 1
      funext r
      unfold upd
      by_cases h2 : r = i + 1
      · subst h2
        rw [if_pos rfl, if_neg (by omega), if_pos (by omega)]
        rfl
      · rw [if_neg h2]
        dsimp only
        by_cases h3 : i + 1 < r ∧ r ≤ a
        · rw [if_pos h3, if_pos (by omega)]
        · rw [if_neg h3, if_neg (by omega)])
    (fun n => by rw [L_X4_shift_41, if_pos (nI_le (Nat.le_refl _) (by omega))]) (a - b) fu a (by omega) (by omega) (fu_lt (by omega))
  have e : (fun r => if a < r ∧ r ≤ a then line (r - 1) else line r) = line := funext (fun r => if_neg (by omega))
  rw [e] at this
  exact this
theorem c_shift (line : Nat → Int32) {a b : Nat} (ha : a < 16) (hb : b < 16) : f_X4_shift line (nI a) (nI b) = some (fun r => line (mvI a b r)) := by
  unfold f_X4_shift
  rw [gdI ha (by omega)]
  by_cases h : a < b
  · rw [c_shift10 line (by omega) hb]
    simp only [Option.bind_some]
    show ((L_X4_shift_41 (nI b) (4095 + 1) (nI a) _).bind _) = _
    rw [L_X4_shift_41, if_pos (nI_le (by omega) (by omega))]
    simp only [Option.bind_some]
    rw [gdI hb (by omega), nI_clamp (by omega), nI_clamp (by omega)]
    congr 1
    funext r
    unfold upd mvI
    rw [if_pos h]
    by_cases h1 : r = b
    · subst h1; rw [if_pos rfl, if_neg (by omega), if_pos rfl]
    · rw [if_neg h1]
      dsimp only
      by_cases h2 : a ≤ r ∧ r < b
      · rw [if_pos h2, if_pos h2]
      · rw [if_neg h2, if_neg h2, if_neg h1]
  · show ((L_X4_shift_10 (nI b) (4095 + 1) (nI a) _).bind _) = _
    rw [L_X4_shift_10, if_pos (nI_le (by omega) (by omega))]
    simp only [Option.bind_some]
    rw [c_shift41 line (by omega) ha]
    simp only [Option.bind_some]
    rw [gdI hb (by omega), nI_clamp (by omega), nI_clamp (by omega)]
    congr 1
    funext r
    unfold upd mvI
    rw [if_neg h]
    by_cases h1 : r = b
    · subst h1; rw [if_pos rfl, if_neg (by omega), if_pos rfl]
    · rw [if_neg h1]
      dsimp only
      by_cases h2 : b < r ∧ r ≤ a
      · rw [if_pos h2, if_pos h2]
      · rw [if_neg h2, if_neg h2, if_neg h1]
theorem L10_eq (b : Int32) : ∀ (n : Nat) (x : Int32) (l : Nat → Int32), L_X10_moveInLine_10 b n x l = L_X4_shift_10 b n x l
  | 0, _, _ => rfl
  | n + 1, x, l => by rw [L_X10_moveInLine_10, L_X4_shift_10, L10_eq b n]
theorem L41_eq (b : Int32) : ∀ (n : Nat) (x : Int32) (l : Nat → Int32), L_X10_moveInLine_41 b n x l = L_X4_shift_41 b n x l
  | 0, _, _ => rfl
  | n + 1, x, l => by rw [L_X10_moveInLine_41, L_X4_shift_41, L41_eq b n]
theorem m_move (line : Nat → Int32) {a b : Nat} (ha : a < 16) (hb : b < 16) : f_X10_moveInLine line (nI a) (nI b) = some (fun r => line (mvI a b r)) := by
  have := c_shift line ha hb
  unfold f_X4_shift at this
  unfold f_X10_moveInLine
  simp only [L10_eq, L41_eq]
  exact this
/-- the place of the row most alike, of k .. k + j -/
def mab (u : Nat → Nat) (k : Nat) : Nat → Nat
  | 0 => k
  | j + 1 => if u (k + 1 + j) < u (mab u k j) then k + 1 + j else mab u k j
theorem mab_in (u : Nat → Nat) (k : Nat) : ∀ j, k ≤ mab u k j ∧ mab u k j ≤ k + j
  | 0 => ⟨Nat.le_refl _, by show k ≤ k + 0; omega⟩
  | j + 1 => by
    have := mab_in u k j
    unfold mab
    split <;> omega
/-- one block toured -/
def tst (C : Nat) (kd : Nat → Nat) (cl : Nat → Nat → Int64) (stop k : Nat) (l : Nat → Nat) : Nat → Nat := fun r => l (mvI (mab (fun x => unl C kd cl (l (k - 1)) (l x)) k (stop - k - 1)) k r)
def tln (C : Nat) (kd : Nat → Nat) (cl : Nat → Nat → Int64) (stop s : Nat) (ln : Nat → Nat) : Nat → (Nat → Nat)
  | 0 => ln
  | j + 1 => tst C kd cl stop (s + 1 + j) (tln C kd cl stop s ln j)
section
variable {R C : Nat} {kd : Nat → Nat} {cl : Nat → Nat → Int64} {tg : Nat → Nat} {now : Nat → Int64} {cols rows : Int32} {kinds tags : Nat → Int32} {cells : Nat → Int64}
theorem c_mostAlike (hV : VT R C kd cl tg) {line u : Nat → Int32} {ln : Nat → Nat} (hL : LN R ln line) (hP : LPm R ln) (hU : UT R C kd cl u) {k stop : Nat} (hk : 0 < k) (hks : k < stop) (hs : stop ≤ R) : f_X4_mostAlike line u (nI k) (nI stop) = some (nI (mab (fun x => unl C kd cl (ln (k - 1)) (ln x)) k (stop - k - 1))) := by
  have h16 := hV.1
  have e1 : nI k - (1 : Int32) = nI (k - 1) := by rw [li1, pk_sub (by omega)]
  have := up_from (fun n i s => L_X4_mostAlike_7 line u (nI k) (nI stop) n s i) (C := stop) (k + 1) (fun i => nI (mab (fun x => unl C kd cl (ln (k - 1)) (ln x)) k (i - k - 1))) (res := nI (mab (fun x => unl C kd cl (ln (k - 1)) (ln x)) k (stop - k - 1)))
    (fun n i h1 hi => by
      obtain ⟨j, rfl⟩ : ∃ j, i = k + 1 + j := ⟨i - (k + 1), by omega⟩
      have hm := mab_in (fun x => unl C kd cl (ln (k - 1)) (ln x)) k j
      have l1 := unl_le C kd cl (ln (k - 1)) (ln (k + 1 + j))
      have l2 := unl_le C kd cl (ln (k - 1)) (ln (mab (fun x => unl C kd cl (ln (k - 1)) (ln x)) k j))
      have h6 := hV.2.1
      show L_X4_mostAlike_7 line u (nI k) (nI stop) (n + 1) _ _ = L_X4_mostAlike_7 line u (nI k) (nI stop) n _ _
      rw [show k + 1 + j - k - 1 = j by omega, show k + 1 + j + 1 - k - 1 = j + 1 by omega, L_X4_mostAlike_7, if_neg (nI_ge hi (by omega)), e1, c_unlikeAt hV hL hP hU (by omega) (by omega) (by omega), c_unlikeAt hV hL hP hU (by omega) (by omega) (by omega)]
      simp only [Option.bind_some, nI_1]
      rw [mab]
      by_cases h : unl C kd cl (ln (k - 1)) (ln (k + 1 + j)) < unl C kd cl (ln (k - 1)) (ln (mab (fun x => unl C kd cl (ln (k - 1)) (ln x)) k j))
      · rw [if_neg (nI_ge h (by omega)), if_pos h]
      · rw [if_pos (nI_le (by omega) (by omega)), if_neg h])
    (fun n => by
      show L_X4_mostAlike_7 line u (nI k) (nI stop) (n + 1) _ _ = _
      rw [L_X4_mostAlike_7, if_pos (nI_le (Nat.le_refl _) (by omega))])
    (stop - (k + 1)) fu (k + 1) (by omega) (by omega) (fu_lt (by omega))
  unfold f_X4_mostAlike
  rw [show k + 1 - k - 1 = 0 by omega] at this
  have h0 : L_X4_mostAlike_7 line u (nI k) (nI stop) fu (nI k) (nI (k + 1)) = _ := this
  rw [nI_1, h0]
  rfl
theorem m_tour55 (hV : VT R C kd cl tg) {many : Int32} {rks dis pro line : Nat → Int32} {ln : Nat → Nat} (hRC : ∀ c, c < C → kd c ≤ 10 → RC R kd cl dis rks c) (hPL : PL C kd many pro) (hL : LN R ln line) (hP : LPm R ln) {k stop : Nat} (hk : 0 < k) (hks : k < stop) (hs : stop ≤ R) : L_X10_tour_55 many rks pro (nI stop) (nI k) line fu (nI k) (nI (k + 1)) = some (nI (mab (fun x => unl C kd cl (ln (k - 1)) (ln x)) k (stop - k - 1))) := by
  have h16 := hV.1
  have e1 : nI k - (1 : Int32) = nI (k - 1) := by rw [li1, pk_sub (by omega)]
  have := up_from (fun n i s => L_X10_tour_55 many rks pro (nI stop) (nI k) line n s i) (C := stop) (k + 1) (fun i => nI (mab (fun x => unl C kd cl (ln (k - 1)) (ln x)) k (i - k - 1))) (res := nI (mab (fun x => unl C kd cl (ln (k - 1)) (ln x)) k (stop - k - 1)))
    (fun n i h1 hi => by
      obtain ⟨j, rfl⟩ : ∃ j, i = k + 1 + j := ⟨i - (k + 1), by omega⟩
      have hm := mab_in (fun x => unl C kd cl (ln (k - 1)) (ln x)) k j
      have l1 := unl_le C kd cl (ln (k - 1)) (ln (k + 1 + j))
      have l2 := unl_le C kd cl (ln (k - 1)) (ln (mab (fun x => unl C kd cl (ln (k - 1)) (ln x)) k j))
      have h6 := hV.2.1
      show L_X10_tour_55 many rks pro (nI stop) (nI k) line (n + 1) _ _ = L_X10_tour_55 many rks pro (nI stop) (nI k) line n _ _
      rw [show k + 1 + j - k - 1 = j by omega, show k + 1 + j + 1 - k - 1 = j + 1 by omega, L_X10_tour_55, if_neg (nI_ge hi (by omega)), e1]
      simp only [gdI (show k + 1 + j < 16 by omega) (show 16 < 2 ^ 31 by omega), gdI (show k - 1 < 16 by omega) (show 16 < 2 ^ 31 by omega), gdI (show mab (fun x => unl C kd cl (ln (k - 1)) (ln x)) k j < 16 by omega) (show 16 < 2 ^ 31 by omega)]
      rw [nI_clamp (show k + 1 + j < 2 ^ 31 by omega), nI_clamp (show k - 1 < 2 ^ 31 by omega), nI_clamp (show mab (fun x => unl C kd cl (ln (k - 1)) (ln x)) k j < 2 ^ 31 by omega), hL _ (show k + 1 + j < R by omega), hL _ (show k - 1 < R by omega), hL _ (show mab (fun x => unl C kd cl (ln (k - 1)) (ln x)) k j < R by omega)]
      rw [m_unlikeOf hV hRC hPL (hP.1 _ (by omega)) (hP.1 _ (by omega)), m_unlikeOf hV hRC hPL (hP.1 _ (by omega)) (hP.1 _ (by omega))]
      simp only [Option.bind_some, nI_1]
      rw [unl_symm C kd cl (ln (k + 1 + j)), unl_symm C kd cl (ln (mab (fun x => unl C kd cl (ln (k - 1)) (ln x)) k j))]
      show _ = L_X10_tour_55 many rks pro (nI stop) (nI k) line n (nI (if _ then _ else _)) _
      by_cases h : unl C kd cl (ln (k - 1)) (ln (k + 1 + j)) < unl C kd cl (ln (k - 1)) (ln (mab (fun x => unl C kd cl (ln (k - 1)) (ln x)) k j))
      · rw [if_neg (nI_ge h (by omega)), if_pos h]
      · rw [if_pos (nI_le (by omega) (by omega)), if_neg h])
    (fun n => by
      show L_X10_tour_55 many rks pro (nI stop) (nI k) line (n + 1) _ _ = _
      rw [L_X10_tour_55, if_pos (nI_le (Nat.le_refl _) (by omega))])
    (stop - (k + 1)) fu (k + 1) (by omega) (by omega) (fu_lt (by omega))
  rw [show k + 1 - k - 1 = 0 by omega] at this
  exact this
theorem L127_eq (b : Int32) : ∀ (n : Nat) (x : Int32) (l : Nat → Int32), L_X10_tour_127 b n x l = L_X4_shift_41 b n x l
  | 0, _, _ => rfl
  | n + 1, x, l => by rw [L_X10_tour_127, L_X4_shift_41, L127_eq b n]
theorem tst_ok {stop k : Nat} {l : Nat → Nat} (hP : LPm R l) (hk : 0 < k) (hks : k < stop) (hs : stop ≤ R) : LPm R (tst C kd cl stop k l) := by
  have hm := mab_in (fun x => unl C kd cl (l (k - 1)) (l x)) k (stop - k - 1)
  exact hP.comp (fun r hr => mvI_lt (by omega) (by omega) hr) (fun r s _ _ e => mvI_inj e)
theorem tst_out {stop k : Nat} {l : Nat → Nat} (hks : k < stop) {r : Nat} (h : r < k ∨ stop ≤ r) : tst C kd cl stop k l r = l r := by
  have hm := mab_in (fun x => unl C kd cl (l (k - 1)) (l x)) k (stop - k - 1)
  unfold tst mvI
  congr 1
  (repeat' split) <;> omega
theorem tln_ok {stop s : Nat} {ln : Nat → Nat} (hP : LPm R ln) (hs : stop ≤ R) : ∀ j, s + 1 + j ≤ stop → LPm R (tln C kd cl stop s ln j)
  | 0, _ => hP
  | j + 1, h => tst_ok (tln_ok hP hs j (by omega)) (by omega) (by omega) hs
theorem tln_out {stop s : Nat} {ln : Nat → Nat} {r : Nat} (h : r < s + 1 ∨ stop ≤ r) : ∀ j, s + 1 + j ≤ stop → tln C kd cl stop s ln j r = ln r
  | 0, _ => rfl
  | j + 1, hj => by
    show tst C kd cl stop (s + 1 + j) _ r = _
    rw [tst_out (by omega) (by omega)]
    exact tln_out h j (by omega)
/-- the block's rows in their new order: the class -/
theorem c_tour26 (hV : VT R C kd cl tg) {line u : Nat → Int32} {ln : Nat → Nat} (hL : LN R ln line) (hP : LPm R ln) (hU : UT R C kd cl u) {s stop : Nat} (hss : s < stop) (hs : stop ≤ R) :
    ∃ line', LN R (tln C kd cl stop s ln (stop - s - 1)) line' ∧ L_X4_tourBlock_26 u (nI stop) fu (nI (s + 1)) line = some line' := by
  have h16 := hV.1
  have : ∀ k n i (l : Nat → Int32), s + 1 ≤ i → i + k = stop → k < n → LN R (tln C kd cl stop s ln (i - s - 1)) l → ∃ line', LN R (tln C kd cl stop s ln (stop - s - 1)) line' ∧ L_X4_tourBlock_26 u (nI stop) n (nI i) l = some line' := by
    intro k
    induction k with
    | zero =>
      intro n i l h0 h1 h2 hl
      obtain ⟨n, rfl⟩ : ∃ n', n = n' + 1 := ⟨n - 1, by omega⟩
      obtain rfl : i = stop := by omega
      exact ⟨l, hl, by rw [L_X4_tourBlock_26, if_pos (nI_le (Nat.le_refl _) (by omega))]⟩
    | succ k ih =>
      intro n i l h0 h1 h2 hl
      obtain ⟨n, rfl⟩ : ∃ n', n = n' + 1 := ⟨n - 1, by omega⟩
      obtain ⟨j, rfl⟩ : ∃ j, i = s + 1 + j := ⟨i - (s + 1), by omega⟩
      rw [show s + 1 + j - s - 1 = j by omega] at hl
      have hPj := tln_ok (C := C) (kd := kd) (cl := cl) (s := s) hP hs j (by omega)
      have hm := mab_in (fun x => unl C kd cl (tln C kd cl stop s ln j (s + 1 + j - 1)) (tln C kd cl stop s ln j x)) (s + 1 + j) (stop - (s + 1 + j) - 1)
      rw [L_X4_tourBlock_26, if_neg (nI_ge (by omega) (by omega)), c_mostAlike hV hl hPj hU (by omega) (by omega) hs]
      simp only [Option.bind_some]
      rw [c_shift _ (by omega) (by omega)]
      simp only [Option.bind_some, nI_1]
      refine ih n (s + 1 + j + 1) _ (by omega) (by omega) (by omega) ?_
      rw [show s + 1 + j + 1 - s - 1 = j + 1 by omega]
      exact hl.comp (fun r hr => mvI_lt (by omega) (by omega) hr)
  exact this (stop - (s + 1)) fu (s + 1) line (Nat.le_refl _) (by omega) (fu_lt (by omega)) (by rw [show s + 1 - s - 1 = 0 by omega]; exact hL)
/-- and the reference -/
theorem m_tour39 (hV : VT R C kd cl tg) {many : Int32} {rks dis pro line : Nat → Int32} {ln : Nat → Nat} (hRC : ∀ c, c < C → kd c ≤ 10 → RC R kd cl dis rks c) (hPL : PL C kd many pro) (hL : LN R ln line) (hP : LPm R ln) {s stop : Nat} (hss : s < stop) (hs : stop ≤ R) :
    ∃ line', LN R (tln C kd cl stop s ln (stop - s - 1)) line' ∧ L_X10_tour_39 many rks pro (nI stop) fu (nI (s + 1)) line = some line' := by
  have h16 := hV.1
  have : ∀ k n i (l : Nat → Int32), s + 1 ≤ i → i + k = stop → k < n → LN R (tln C kd cl stop s ln (i - s - 1)) l → ∃ line', LN R (tln C kd cl stop s ln (stop - s - 1)) line' ∧ L_X10_tour_39 many rks pro (nI stop) n (nI i) l = some line' := by
    intro k
    induction k with
    | zero =>
      intro n i l h0 h1 h2 hl
      obtain ⟨n, rfl⟩ : ∃ n', n = n' + 1 := ⟨n - 1, by omega⟩
      obtain rfl : i = stop := by omega
      exact ⟨l, hl, by rw [L_X10_tour_39, if_pos (nI_le (Nat.le_refl _) (by omega))]⟩
    | succ k ih =>
      intro n i l h0 h1 h2 hl
      obtain ⟨n, rfl⟩ : ∃ n', n = n' + 1 := ⟨n - 1, by omega⟩
      obtain ⟨j, rfl⟩ : ∃ j, i = s + 1 + j := ⟨i - (s + 1), by omega⟩
      rw [show s + 1 + j - s - 1 = j by omega] at hl
      have hPj := tln_ok (C := C) (kd := kd) (cl := cl) (s := s) hP hs j (by omega)
      have hm := mab_in (fun x => unl C kd cl (tln C kd cl stop s ln j (s + 1 + j - 1)) (tln C kd cl stop s ln j x)) (s + 1 + j) (stop - (s + 1 + j) - 1)
      rw [L_X10_tour_39, if_neg (nI_ge (by omega) (by omega)), nI_1, m_tour55 hV hRC hPL hl hPj (by omega) (by omega) hs]
      simp only [Option.bind_some, L127_eq]
      rw [gdI (by omega) (by omega), c_shift41 _ (by omega) (by omega)]
      simp only [Option.bind_some]
      rw [gdI (by omega) (by omega), nI_clamp (show s + 1 + j < 2 ^ 31 by omega), nI_clamp (by omega)]
      refine ih n (s + 1 + j + 1) _ (by omega) (by omega) (by omega) ?_
      rw [show s + 1 + j + 1 - s - 1 = j + 1 by omega]
      intro r hr
      show _ = nI (tln C kd cl stop s ln j (mvI _ _ r))
      rw [← hl _ (mvI_lt (by omega) (by omega) hr)]
      unfold upd mvI
      rw [if_neg (show ¬ mab (fun x => unl C kd cl (tln C kd cl stop s ln j (s + 1 + j - 1)) (tln C kd cl stop s ln j x)) (s + 1 + j) (stop - (s + 1 + j) - 1) < s + 1 + j by omega)]
      by_cases h1 : r = s + 1 + j
      · subst h1; rw [if_pos rfl, if_neg (by omega), if_pos rfl]
      · rw [if_neg h1]
        dsimp only
        by_cases h2 : s + 1 + j < r ∧ r ≤ mab (fun x => unl C kd cl (tln C kd cl stop s ln j (s + 1 + j - 1)) (tln C kd cl stop s ln j x)) (s + 1 + j) (stop - (s + 1 + j) - 1)
        · rw [if_pos h2, if_pos h2]
        · rw [if_neg h2, if_neg h2, if_neg h1]
  exact this (stop - (s + 1)) fu (s + 1) line (Nat.le_refl _) (by omega) (fu_lt (by omega)) (by rw [show s + 1 - s - 1 = 0 by omega]; exact hL)
theorem m_tour8 {x2 s stop : Nat} (hss : s ≤ stop) (hs : stop ≤ 16) (line thn : Nat → Int32) : ∃ t, (∀ r, s ≤ r → r < stop → t r = line r) ∧ L_X10_tour_8 line (nI stop) fu (nI s) thn = some t := by
  have : ∀ k n i (l : Nat → Int32), s ≤ i → i + k = stop → k < n → (∀ r, s ≤ r → r < i → l r = line r) → ∃ t, (∀ r, s ≤ r → r < stop → t r = line r) ∧ L_X10_tour_8 line (nI stop) n (nI i) l = some t := by
    intro k
    induction k with
    | zero =>
      intro n i l h0 h1 h2 hl
      obtain ⟨n, rfl⟩ : ∃ n', n = n' + 1 := ⟨n - 1, by omega⟩
      obtain rfl : i = stop := by omega
      exact ⟨l, hl, by rw [L_X10_tour_8, if_pos (nI_le (Nat.le_refl _) (by omega))]⟩
    | succ k ih =>
      intro n i l h0 h1 h2 hl
      obtain ⟨n, rfl⟩ : ∃ n', n = n' + 1 := ⟨n - 1, by omega⟩
      rw [L_X10_tour_8, if_neg (nI_ge (by omega) (by omega)), gdI (by omega) (by omega), gdI (by omega) (by omega), nI_clamp (by omega), nI_1]
      refine ih n (i + 1) _ (by omega) (by omega) (by omega) (fun r h3 h4 => ?_)
      by_cases h : r = i
      · rw [h, upd_at]
      · rw [upd_ne _ _ h]; exact hl r h3 (by omega)
  exact this (stop - s) fu s thn (Nat.le_refl _) (by omega) (fu_lt (by omega)) (fun r h1 h2 => by omega)
theorem m_tour184 {s stop : Nat} (hss : s ≤ stop) (hs : stop ≤ 16) (line thn : Nat → Int32) : ∃ t, (∀ r, s ≤ r → r < stop → t r = thn r) ∧ (∀ r, (r < s ∨ stop ≤ r) → t r = line r) ∧ L_X10_tour_184 (nI stop) thn fu (nI s) line = some t := by
  have : ∀ k n i (l : Nat → Int32), s ≤ i → i + k = stop → k < n → (∀ r, s ≤ r → r < i → l r = thn r) → (∀ r, (r < s ∨ stop ≤ r) → l r = line r) → ∃ t, (∀ r, s ≤ r → r < stop → t r = thn r) ∧ (∀ r, (r < s ∨ stop ≤ r) → t r = line r) ∧ L_X10_tour_184 (nI stop) thn n (nI i) l = some t := by
    intro k
    induction k with
    | zero =>
      intro n i l h0 h1 h2 hl hl2
      obtain ⟨n, rfl⟩ : ∃ n', n = n' + 1 := ⟨n - 1, by omega⟩
      obtain rfl : i = stop := by omega
      exact ⟨l, hl, hl2, by rw [L_X10_tour_184, if_pos (nI_le (Nat.le_refl _) (by omega))]⟩
    | succ k ih =>
      intro n i l h0 h1 h2 hl hl2
      obtain ⟨n, rfl⟩ : ∃ n', n = n' + 1 := ⟨n - 1, by omega⟩
      rw [L_X10_tour_184, if_neg (nI_ge (by omega) (by omega)), gdI (by omega) (by omega), gdI (by omega) (by omega), nI_clamp (by omega), nI_1]
      refine ih n (i + 1) _ (by omega) (by omega) (by omega) (fun r h3 h4 => ?_) (fun r h3 => by rw [upd_ne _ _ (by omega)]; exact hl2 r h3)
      by_cases h : r = i
      · rw [h, upd_at]
      · rw [upd_ne _ _ h]; exact hl r h3 (by omega)
  exact this (stop - s) fu s line (Nat.le_refl _) (by omega) (fu_lt (by omega)) (fun r h1 h2 => by omega) (fun r h => rfl)
/-- one block, both sides -/
theorem tour1 (hV : VT R C kd cl tg) (hM : MT R C kd cl tg now) {many : Int32} {rks dis pro lc lm u : Nat → Int32} {ln : Nat → Nat} (hRC : ∀ c, c < C → kd c ≤ 10 → RC R kd cl dis rks c) (hPL : PL C kd many pro) (hU : UT R C kd cl u) (hLc : LN R ln lc) (hLm : LN R ln lm) (hP : LPm R ln) (bef thn : Nat → Int32) {s stop : Nat} (hss : s < stop) (hs : stop ≤ R) :
    ∃ (b : Bool) (ln' : Nat → Nat) (lc' lm' bef' thn' : Nat → Int32), f_X4_tourBlock (nI R) (nI (fb_ct (pr kd) C)) lc bef u (nI s) (nI stop) = some (b, lc', bef') ∧ f_X10_tour many now rks pro lm thn (nI s) (nI stop) = some (b, lm', thn') ∧ LN R ln' lc' ∧ LN R ln' lm' ∧ LPm R ln' := by
  have h16 := hV.1
  obtain ⟨c1, hc1, hc2⟩ := c_tour26 hV hLc hP hU hss hs
  obtain ⟨m1, hm1, hm2⟩ := m_tour39 hV hRC hPL hLm hP hss hs
  have hPt := tln_ok (C := C) (kd := kd) (cl := cl) (s := s) hP hs (stop - s - 1) (by omega)
  obtain ⟨t1, ht1, ht2⟩ := m_tour8 (x2 := 0) (Nat.le_of_lt hss) (show stop ≤ 16 by omega) lm thn
  obtain ⟨t2, hq1, hq2, hq3⟩ := m_tour184 (Nat.le_of_lt hss) (show stop ≤ 16 by omega) m1 t1
  have e1 : nI stop - nI s = nI (stop - s) := pk_sub (by omega)
  have gd : ∀ {α : Type} {e : Option α}, (if nI s < 0 ∨ nI s < 0 ∨ (nI stop - nI s) < 0 ∨ 16 < (nI s).toNatClampNeg + (nI stop - nI s).toNatClampNeg ∨ 16 < (nI s).toNatClampNeg + (nI stop - nI s).toNatClampNeg then none else e) = e := by
    intro α e
    rw [e1, nI_clamp (show s < 2 ^ 31 by omega), nI_clamp (show stop - s < 2 ^ 31 by omega)]
    have p1 := nI_pos (n := s) (by omega)
    have p2 := nI_pos (n := stop - s) (by omega)
    exact if_neg (fun q => by rcases q with q | q | q | q | q <;> first | exact p1 q | exact p2 q | omega)
  have b1 := rl_le C kd cl ln R
  have b2 := rl_le C kd cl (tln C kd cl stop s ln (stop - s - 1)) R
  have h6 := hV.2.1
  have b3 : R * C ≤ 96 := Nat.le_trans (Nat.mul_le_mul h16 h6) (by decide)
  by_cases h : rl C kd cl (tln C kd cl stop s ln (stop - s - 1)) R < rl C kd cl ln R
  · refine ⟨true, tln C kd cl stop s ln (stop - s - 1), c1, m1, va_cpy lc bef s s (stop - s), t1, ?_, ?_, hc1, hm1, hPt⟩
    · unfold f_X4_tourBlock
      rw [c_runsOfLine hV hLc hP hU]
      simp only [Option.bind_some, gd, nI_1]
      rw [hc2]
      simp only [Option.bind_some]
      rw [c_runsOfLine hV hc1 hPt hU]
      simp only [Option.bind_some]
      rw [if_neg (nI_ge h (by omega)), e1, nI_clamp (by omega), nI_clamp (by omega)]
    · unfold f_X10_tour
      rw [m_runsOfLine hV hM hRC hPL hLm hP]
      simp only [Option.bind_some, nI_1]
      rw [ht2]
      simp only [Option.bind_some]
      rw [hm2]
      simp only [Option.bind_some]
      rw [m_runsOfLine hV hM hRC hPL hm1 hPt]
      simp only [Option.bind_some]
      rw [if_neg (nI_ge h (by omega))]
  · refine ⟨false, ln, va_cpy (va_cpy lc bef s s (stop - s)) c1 s s (stop - s), t2, va_cpy lc bef s s (stop - s), t1, ?_, ?_, ?_, ?_, hP⟩
    · unfold f_X4_tourBlock
      rw [c_runsOfLine hV hLc hP hU]
      simp only [Option.bind_some, gd, nI_1]
      rw [hc2]
      simp only [Option.bind_some]
      rw [c_runsOfLine hV hc1 hPt hU]
      simp only [Option.bind_some]
      rw [if_pos (nI_le (by omega) (by omega)), e1, nI_clamp (by omega), nI_clamp (by omega)]
    · unfold f_X10_tour
      rw [m_runsOfLine hV hM hRC hPL hLm hP]
      simp only [Option.bind_some, nI_1]
      rw [ht2]
      simp only [Option.bind_some]
      rw [hm2]
      simp only [Option.bind_some]
      rw [m_runsOfLine hV hM hRC hPL hm1 hPt]
      simp only [Option.bind_some]
      rw [if_pos (nI_le (by omega) (by omega)), hq3]
      rfl
    · intro r hr
      unfold va_cpy
      by_cases h1 : s ≤ r ∧ r < s + (stop - s)
      · rw [if_pos h1, if_pos (by omega), show s + (s + (r - s) - s) = r by omega]
        exact hLc r hr
      · rw [if_neg h1, hc1 r hr, tln_out (by omega) _ (by omega)]
    · intro r hr
      by_cases h1 : s ≤ r ∧ r < stop
      · rw [hq1 r h1.1 h1.2, ht1 r h1.1 h1.2]; exact hLm r hr
      · rw [hq2 r (by omega), hm1 r hr, tln_out (by omega) _ (by omega)]
/-- all blocks, both sides -/
theorem tourN (hV : VT R C kd cl tg) (hM : MT R C kd cl tg now) {many : Int32} {rks dis pro u : Nat → Int32} (hRC : ∀ c, c < C → kd c ≤ 10 → RC R kd cl dis rks c) (hPL : PL C kd many pro) (hU : UT R C kd cl u) {b : Nat} (hb : 2 ≤ b) (hb2 : b ≤ 16) :
    ∀ (k n s cnt : Nat) (lc lm bef thn : Nat → Int32) (ln : Nat → Nat), R ≤ s + k → s ≤ R + 16 → k < n → LN R ln lc → LN R ln lm → LPm R ln →
    ∃ (cnt' : Nat) (ln' : Nat → Nat) (lc' lm' bef' thn' : Nat → Int32), cnt' ≤ cnt + k ∧ L_X4_tourBlocks_4 (nI R) (nI (fb_ct (pr kd) C)) u (nI b) n (nI cnt) (nI s) lc bef = some (nI cnt', lc', bef') ∧ L_X10_tourAll_4 many now rks pro (nI b) n (nI cnt) (nI s) lm thn = some (nI cnt', lm', thn') ∧ LN R ln' lc' ∧ LN R ln' lm' ∧ LPm R ln' := by
  have h16 := hV.1
  intro k
  induction k with
  | zero =>
    intro n s cnt lc lm bef thn ln h1 h2 h3 hLc hLm hP
    obtain ⟨n, rfl⟩ : ∃ n', n = n' + 1 := ⟨n - 1, by omega⟩
    refine ⟨cnt, ln, lc, lm, bef, thn, by omega, ?_, ?_, hLc, hLm, hP⟩
    · rw [L_X4_tourBlocks_4, if_pos (nI_le (by omega) (by omega))]
    · rw [L_X10_tourAll_4, m_rows hM]
      simp only [Option.bind_some]
      rw [if_pos (nI_le (by omega) (by omega))]
  | succ k ih =>
    intro n s cnt lc lm bef thn ln h1 h2 h3 hLc hLm hP
    obtain ⟨n, rfl⟩ : ∃ n', n = n' + 1 := ⟨n - 1, by omega⟩
    by_cases hs : R ≤ s
    · refine ⟨cnt, ln, lc, lm, bef, thn, by omega, ?_, ?_, hLc, hLm, hP⟩
      · rw [L_X4_tourBlocks_4, if_pos (nI_le (by omega) (by omega))]
      · rw [L_X10_tourAll_4, m_rows hM]
        simp only [Option.bind_some]
        rw [if_pos (nI_le (by omega) (by omega))]
    · obtain ⟨bb, ln1, lc1, lm1, bef1, thn1, q1, q2, q3, q4, q5⟩ := tour1 hV hM hRC hPL hU hLc hLm hP bef thn (s := s) (stop := min (s + b) R) (by omega) (by omega)
      have emC : mmin (nI s + nI b) (nI R) = nI (min (s + b) R) := by
        rw [nI_add]; unfold mmin
        by_cases h : R < s + b
        · rw [if_pos (nI_lt h (by omega))]; congr 1; omega
        · rw [if_neg (nI_nlt (by omega) (by omega))]; congr 1; omega
      have emM : mmin (nI R) (nI s + nI b) = nI (min (s + b) R) := by
        rw [nI_add]; unfold mmin
        by_cases h : s + b < R
        · rw [if_pos (nI_lt h (by omega))]; congr 1; omega
        · rw [if_neg (nI_nlt (by omega) (by omega))]; congr 1; omega
      have emx : mmax (1 : Int32) (nI b) = nI b := by
        unfold mmax; rw [li1, if_pos (nI_lt (by omega) (by omega))]
      obtain ⟨cnt', ln', lc', lm', bef', thn', p0, p1, p2, p3, p4, p5⟩ := ih n (s + b) (cnt + if bb = true then 1 else 0) lc1 lm1 bef1 thn1 ln1 (by omega) (by omega) (by omega) q3 q4 q5
      refine ⟨cnt', ln', lc', lm', bef', thn', by split at p0 <;> omega, ?_, ?_, p3, p4, p5⟩
      · rw [L_X4_tourBlocks_4, if_neg (nI_ge (by omega) (by omega)), emC, q1]
        simp only [Option.bind_some, emx, nI_add, nI_1]
        rw [← p1]
        cases bb
        · rfl
        · rfl
      · rw [L_X10_tourAll_4, m_rows hM]
        simp only [Option.bind_some]
        rw [if_neg (nI_ge (by omega) (by omega)), emM, q2]
        simp only [Option.bind_some, nI_add, nI_1]
        rw [← p2]
        cases bb
        · simp only [ifbf, li0, nI_add]; rfl
        · rfl
end
