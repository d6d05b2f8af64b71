/-! the law's loop -/
theorem gt_L {L i : Nat} (hL : L ≤ 3584) (hi : i < 2 ^ 30) : (Int32.ofNat L - 7 < nI i) ↔ L < i + 7 := by
  have e : (nI L - 7).toInt = (L : Int) - 7 := pk_sub_toInt (a := L) (b := 7) (by omega) (by decide)
  have e' : (Int32.ofNat L - 7).toInt = (L : Int) - 7 := e
  rw [Int32.lt_iff_toInt_lt, e', nI_toInt (by omega)]
  omega
theorem vin_k {L i k : Nat} (h : i + k < L) (hL : L ≤ 3584) : vp_in (nI i + nI k) L := by
  rw [nI_add]
  exact nI_in h (by omega)
theorem i_k : ∀ k, k < 37 → (nI k).toInt = k := by decide +kernel
set_option maxHeartbeats 4000000 in
set_option maxRecDepth 100000 in
theorem law_loop {p : Program} {e : Env} {s : State} {m : MethodId} {below : List Frame} {meth : Method} {c : Code} (l : Launch) (hst : l.stackTraces = false) {b L : Nat} {xs : Nat → Int32} (hL : L ≤ 3584) {dC : Nat → ClassId} {dI : Nat → Nat → Nat} {cB cC cI cJ cZ cT : ClassId} {A : Nat → Prop} (CC : LCX p s m meth c b L xs dC dI cB cC cI cJ cZ cT A) (hTX : TXX A s s.heap) (hAF : ∀ q, A q → s.heap.size ≤ q) {x y z : Nat} {q r : Nat → Nat} : ∀ (n t cc9 cs9 : Nat) (H : Heap) (locs : List Loc) (ls : Array Slot), L < 7 * t + 7 * (n + 1) → 7 * t ≤ L + 7 → cc9 ≤ 1000 + t → cs9 ≤ 10000 + 6 * t → LI dC dI cB cC cI cJ cZ cT A x y z q r H → va_S A s.heap H locs → lv_has ls 8 (lawL b x y z (nI (7 * t))) → W p l e room_1 s m #[Value.ref b] below meth c H locs cc9 cs9 (lw_Z below #[Value.ref b] s) (F0 m 23 ls []) := by
  obtain ⟨⟨hx, hb, hr, hml, hown0, hts0, hXX, hbl, hlocks, hgv⟩, hK, hSX, hAA, hbA⟩ := id CC
  have hend : ∀ (t cc9 cs9 : Nat) (H : Heap) (locs : List Loc) (ls : Array Slot), 7 * t ≤ L + 7 → cc9 ≤ 1000 + t → cs9 ≤ 10000 + 6 * t → va_S A s.heap H locs → W p l e room_1 s m #[Value.ref b] below meth c H locs cc9 cs9 (lw_Z below #[Value.ref b] s) (F0 m 1367 ls []) := by
    intro t cc9 cs9 H locs ls ht hcc hcs hS
    refine lv_iconst (v := 1) hx hb dL_law_1367 (by decide) ?_
    refine va_forget (fun q hq => hAF _ (hS.2.2 q hq)) ?_
    refine W.widen (k := 601024) (n := 7293033) (by omega) (by omega) ?_
    exact W.base (lw_ret (Drawn.sameBut.refl s.drawn lw_cs) hx hb hr hlocks dL_law_1368)
  intro n
  induction n with
  | zero =>
    intro t cc9 cs9 H locs ls hn ht hcc hcs hI hS hl
    refine lv_iload hx hb dL_law_23 (lv_at hl 0 rfl) ?_
    refine lv_aload_n hx hb dL_law_25 rfl (lv_at hl 4 rfl) ?_
    refine va_slen hx hb hXX hbl hbA hS dL_law_26 ?_
    refine lv_bipush (v := 7) hx hb dL_law_27 (by decide) ?_
    refine lv_isub hx hb dL_law_29 ?_
    exact lv_icmp_gt (tgt := 1367) hx hb dL_law_30 (by decide) (fun c_0 => hend t cc9 cs9 H locs ls ht hcc hcs hS) (fun c_0 => absurd ((gt_L hL (by omega)).mpr (by omega)) c_0)
  | succ n ih =>
    intro t cc9 cs9 H locs ls hn ht hcc hcs hI hS hl
    refine lv_iload hx hb dL_law_23 (lv_at hl 0 rfl) ?_
    refine lv_aload_n hx hb dL_law_25 rfl (lv_at hl 4 rfl) ?_
    refine va_slen hx hb hXX hbl hbA hS dL_law_26 ?_
    refine lv_bipush (v := 7) hx hb dL_law_27 (by decide) ?_
    refine lv_isub hx hb dL_law_29 ?_
    refine lv_icmp_gt (tgt := 1367) hx hb dL_law_30 (by decide) (fun c_0 => hend t cc9 cs9 H locs ls ht hcc hcs hS) (fun c_0 => ?_)
    have h7 : 7 * t + 7 ≤ L := Nat.le_of_not_lt (fun q => c_0 ((gt_L hL (by omega)).mpr (by omega)))
    have nx : ∀ (cc9 cs9 : Nat) (H : Heap) (locs : List Loc) (ls : Array Slot), cc9 ≤ 1000 + (t + 1) → cs9 ≤ 10000 + 6 * (t + 1) → LI dC dI cB cC cI cJ cZ cT A x y z q r H → va_S A s.heap H locs → lv_has ls 8 (lawL b x y z (nI (7 * t))) → W p l e room_1 s m #[Value.ref b] below meth c H locs cc9 cs9 (lw_Z below #[Value.ref b] s) (F0 m 1361 ls []) := by
      intro cc9 cs9 H locs ls hcc hcs hI hS hl
      refine lv_iinc (v := nI (7 * t) + 7) (lv' := lawL b x y z (nI (7 * t) + 7)) hx hb dL_law_1361 hl (k := 0) rfl (by rfl) (by decide) rfl (fun ls hl => ?_)
      refine lv_goto (tgt := 23) hx hb dL_law_1364 (by decide) ?_
      have e7 : nI (7 * t) + 7 = nI (7 * (t + 1)) := (nI_add (7 * t) 7).trans (by rw [show 7 * t + 7 = 7 * (t + 1) by omega])
      rw [e7] at hl
      exact ih (t + 1) cc9 cs9 H locs ls (by omega) (by omega) hcc hcs hI hS hl
    refine lv_aload_n hx hb dL_law_33 rfl (lv_at hl 4 rfl) ?_
    refine lv_iload hx hb dL_law_34 (lv_at hl 0 rfl) ?_
    refine va_sld hx hb hXX hbl hbA hS (nI_in (show 7 * t < L by omega) (by omega)) dL_law_36 ?_
    refine lv_bipush (v := 63) hx hb dL_law_37 (by decide) ?_
    refine lv_iand hx hb dL_law_39 ?_
    have h1 : vp_in (nI (7 * t) + 1) L := vin_k (k := 1) (by omega) hL
    have h2 : vp_in (nI (7 * t) + 2) L := vin_k (k := 2) (by omega) hL
    have h3 : vp_in (nI (7 * t) + 3) L := vin_k (k := 3) (by omega) hL
    have h4 : vp_in (nI (7 * t) + 4) L := vin_k (k := 4) (by omega) hL
    have h5 : vp_in (nI (7 * t) + 5) L := vin_k (k := 5) (by omega) hL
    have h6 : vp_in (nI (7 * t) + 6) L := vin_k (k := 6) (by omega) hL
    have hcc0 : cc9 ≤ 601024 := by omega
    have hcs0 : cs9 ≤ 7293033 := by omega
    have hcc1 : cc9 + 1 ≤ 601024 := by omega
    have hcs1 : cs9 + 6 ≤ 7293033 := by omega
    generalize xs (nI (7 * t)).toNatClampNeg &&& 63 = v
    by_cases c_1 : v = 0
    · refine lv_tableIn (off := 164) (tgt := 204) hx hb dL_law_40 (by rw [c_1]; decide) (by rw [c_1]; decide) (by rw [c_1]; rfl) (by decide) ?_
      exact law_0 l CC hcc0 hcs0 h1 h2 h3 h4 h5 h6 hI hS hl (fun H locs ls hI hS hl => nx _ _ H locs ls (by omega) (by omega) hI hS hl)
    by_cases c_2 : v = 1
    · refine lv_tableIn (off := 189) (tgt := 229) hx hb dL_law_40 (by rw [c_2]; decide) (by rw [c_2]; decide) (by rw [c_2]; rfl) (by decide) ?_
      exact law_1 l CC hcc0 hcs0 h1 h2 h3 h4 h5 h6 hI hS hl (fun H locs ls hI hS hl => nx _ _ H locs ls (by omega) (by omega) hI hS hl)
    by_cases c_3 : v = 2
    · refine lv_tableIn (off := 214) (tgt := 254) hx hb dL_law_40 (by rw [c_3]; decide) (by rw [c_3]; decide) (by rw [c_3]; rfl) (by decide) ?_
      exact law_2 l CC hcc0 hcs0 h1 h2 h3 h4 h5 h6 hI hS hl (fun H locs ls hI hS hl => nx _ _ H locs ls (by omega) (by omega) hI hS hl)
    by_cases c_4 : v = 3
    · refine lv_tableIn (off := 227) (tgt := 267) hx hb dL_law_40 (by rw [c_4]; decide) (by rw [c_4]; decide) (by rw [c_4]; rfl) (by decide) ?_
      exact law_3 l CC hcc0 hcs0 h1 h2 h3 h4 h5 h6 hI hS hl (fun H locs ls hI hS hl => nx _ _ H locs ls (by omega) (by omega) hI hS hl)
    by_cases c_5 : v = 4
    · refine lv_tableIn (off := 314) (tgt := 354) hx hb dL_law_40 (by rw [c_5]; decide) (by rw [c_5]; decide) (by rw [c_5]; rfl) (by decide) ?_
      exact law_4 l CC hcc0 hcs0 h1 h2 h3 h4 h5 h6 hI hS hl (fun H locs ls hI hS hl => nx _ _ H locs ls (by omega) (by omega) hI hS hl)
    by_cases c_6 : v = 5
    · refine lv_tableIn (off := 375) (tgt := 415) hx hb dL_law_40 (by rw [c_6]; decide) (by rw [c_6]; decide) (by rw [c_6]; rfl) (by decide) ?_
      exact law_5 l CC hcc0 hcs0 h1 h2 h3 h4 h5 h6 hI hS hl (fun H locs ls hI hS hl => nx _ _ H locs ls (by omega) (by omega) hI hS hl)
    by_cases c_7 : v = 6
    · refine lv_tableIn (off := 424) (tgt := 464) hx hb dL_law_40 (by rw [c_7]; decide) (by rw [c_7]; decide) (by rw [c_7]; rfl) (by decide) ?_
      exact law_6 l CC hcc0 hcs0 h1 h2 h3 h4 h5 h6 hI hS hl (fun H locs ls hI hS hl => nx _ _ H locs ls (by omega) (by omega) hI hS hl)
    by_cases c_8 : v = 7
    · refine lv_tableIn (off := 449) (tgt := 489) hx hb dL_law_40 (by rw [c_8]; decide) (by rw [c_8]; decide) (by rw [c_8]; rfl) (by decide) ?_
      exact law_7 l CC hcc0 hcs0 h1 h2 h3 h4 h5 h6 hI hS hl (fun H locs ls hI hS hl => nx _ _ H locs ls (by omega) (by omega) hI hS hl)
    by_cases c_9 : v = 8
    · refine lv_tableIn (off := 474) (tgt := 514) hx hb dL_law_40 (by rw [c_9]; decide) (by rw [c_9]; decide) (by rw [c_9]; rfl) (by decide) ?_
      exact law_8 l CC hcc0 hcs0 h1 h2 h3 h4 h5 h6 hI hS hl (fun H locs ls hI hS hl => nx _ _ H locs ls (by omega) (by omega) hI hS hl)
    by_cases c_10 : v = 9
    · refine lv_tableIn (off := 511) (tgt := 551) hx hb dL_law_40 (by rw [c_10]; decide) (by rw [c_10]; decide) (by rw [c_10]; rfl) (by decide) ?_
      exact law_9 l CC hcc0 hcs0 h1 h2 h3 h4 h5 h6 hI hS hl (fun H locs ls hI hS hl => nx _ _ H locs ls (by omega) (by omega) hI hS hl)
    by_cases c_11 : v = 10
    · refine lv_tableIn (off := 584) (tgt := 624) hx hb dL_law_40 (by rw [c_11]; decide) (by rw [c_11]; decide) (by rw [c_11]; rfl) (by decide) ?_
      exact law_10 l CC hcc0 hcs0 h1 h2 h3 h4 h5 h6 hI hS hl (fun H locs ls hI hS hl => nx _ _ H locs ls (by omega) (by omega) hI hS hl)
    by_cases c_12 : v = 11
    · refine lv_tableIn (off := 609) (tgt := 649) hx hb dL_law_40 (by rw [c_12]; decide) (by rw [c_12]; decide) (by rw [c_12]; rfl) (by decide) ?_
      exact law_11 l CC hcc0 hcs0 h1 h2 h3 h4 h5 h6 hI hS hl (fun H locs ls hI hS hl => nx _ _ H locs ls (by omega) (by omega) hI hS hl)
    by_cases c_13 : v = 12
    · refine lv_tableIn (off := 646) (tgt := 686) hx hb dL_law_40 (by rw [c_13]; decide) (by rw [c_13]; decide) (by rw [c_13]; rfl) (by decide) ?_
      exact law_12 l CC hcc0 hcs0 h1 h2 h3 h4 h5 h6 hI hS hl (fun H locs ls hI hS hl => nx _ _ H locs ls (by omega) (by omega) hI hS hl)
    by_cases c_14 : v = 13
    · refine lv_tableIn (off := 671) (tgt := 711) hx hb dL_law_40 (by rw [c_14]; decide) (by rw [c_14]; decide) (by rw [c_14]; rfl) (by decide) ?_
      exact law_13 l CC hcc0 hcs0 h1 h2 h3 h4 h5 h6 hI hS hl (fun H locs ls hI hS hl => nx _ _ H locs ls (by omega) (by omega) hI hS hl)
    by_cases c_15 : v = 14
    · refine lv_tableIn (off := 684) (tgt := 724) hx hb dL_law_40 (by rw [c_15]; decide) (by rw [c_15]; decide) (by rw [c_15]; rfl) (by decide) ?_
      exact law_14 l CC hcc0 hcs0 h1 h2 h3 h4 h5 h6 hI hS hl (fun H locs ls hI hS hl => nx _ _ H locs ls (by omega) (by omega) hI hS hl)
    by_cases c_16 : v = 15
    · refine lv_tableIn (off := 721) (tgt := 761) hx hb dL_law_40 (by rw [c_16]; decide) (by rw [c_16]; decide) (by rw [c_16]; rfl) (by decide) ?_
      exact law_15 l CC hcc0 hcs0 h1 h2 h3 h4 h5 h6 hI hS hl (fun H locs ls hI hS hl => nx _ _ H locs ls (by omega) (by omega) hI hS hl)
    by_cases c_17 : v = 16
    · refine lv_tableIn (off := 758) (tgt := 798) hx hb dL_law_40 (by rw [c_17]; decide) (by rw [c_17]; decide) (by rw [c_17]; rfl) (by decide) ?_
      exact law_16 l CC hcc0 hcs0 h1 h2 h3 h4 h5 h6 hI hS hl (fun H locs ls hI hS hl => nx _ _ H locs ls (by omega) (by omega) hI hS hl)
    by_cases c_18 : v = 17
    · refine lv_tableIn (off := 771) (tgt := 811) hx hb dL_law_40 (by rw [c_18]; decide) (by rw [c_18]; decide) (by rw [c_18]; rfl) (by decide) ?_
      exact law_17 l CC hcc0 hcs0 h1 h2 h3 h4 h5 h6 hI hS hl (fun H locs ls hI hS hl => nx _ _ H locs ls (by omega) (by omega) hI hS hl)
    by_cases c_19 : v = 18
    · refine lv_tableIn (off := 784) (tgt := 824) hx hb dL_law_40 (by rw [c_19]; decide) (by rw [c_19]; decide) (by rw [c_19]; rfl) (by decide) ?_
      exact law_18 l CC hcc0 hcs0 h1 h2 h3 h4 h5 h6 hI hS hl (fun H locs ls hI hS hl => nx _ _ H locs ls (by omega) (by omega) hI hS hl)
    by_cases c_20 : v = 19
    · refine lv_tableIn (off := 809) (tgt := 849) hx hb dL_law_40 (by rw [c_20]; decide) (by rw [c_20]; decide) (by rw [c_20]; rfl) (by decide) ?_
      exact law_19 l CC hcc0 hcs0 h1 h2 h3 h4 h5 h6 hI hS hl (fun H locs ls hI hS hl => nx _ _ H locs ls (by omega) (by omega) hI hS hl)
    by_cases c_21 : v = 20
    · refine lv_tableIn (off := 846) (tgt := 886) hx hb dL_law_40 (by rw [c_21]; decide) (by rw [c_21]; decide) (by rw [c_21]; rfl) (by decide) ?_
      exact law_20 l CC hcc0 hcs0 h1 h2 h3 h4 h5 h6 hI hS hl (fun H locs ls hI hS hl => nx _ _ H locs ls (by omega) (by omega) hI hS hl)
    by_cases c_22 : v = 21
    · refine lv_tableIn (off := 887) (tgt := 927) hx hb dL_law_40 (by rw [c_22]; decide) (by rw [c_22]; decide) (by rw [c_22]; rfl) (by decide) ?_
      exact law_21 l CC hcc0 hcs0 h1 h2 h3 h4 h5 h6 hI hS hl (fun H locs ls hI hS hl => nx _ _ H locs ls (by omega) (by omega) hI hS hl)
    by_cases c_23 : v = 22
    · refine lv_tableIn (off := 900) (tgt := 940) hx hb dL_law_40 (by rw [c_23]; decide) (by rw [c_23]; decide) (by rw [c_23]; rfl) (by decide) ?_
      exact law_22 l CC hcc0 hcs0 h1 h2 h3 h4 h5 h6 hI hS hl (fun H locs ls hI hS hl => nx _ _ H locs ls (by omega) (by omega) hI hS hl)
    by_cases c_24 : v = 23
    · refine lv_tableIn (off := 941) (tgt := 981) hx hb dL_law_40 (by rw [c_24]; decide) (by rw [c_24]; decide) (by rw [c_24]; rfl) (by decide) ?_
      exact law_23 l CC hcc0 hcs0 h1 h2 h3 h4 h5 h6 hI hS hl (fun H locs ls hI hS hl => nx _ _ H locs ls (by omega) (by omega) hI hS hl)
    by_cases c_25 : v = 24
    · refine lv_tableIn (off := 966) (tgt := 1006) hx hb dL_law_40 (by rw [c_25]; decide) (by rw [c_25]; decide) (by rw [c_25]; rfl) (by decide) ?_
      exact law_24 l CC hcc0 hcs0 h1 h2 h3 h4 h5 h6 hI hS hl (fun H locs ls hI hS hl => nx _ _ H locs ls (by omega) (by omega) hI hS hl)
    by_cases c_26 : v = 25
    · refine lv_tableIn (off := 1003) (tgt := 1043) hx hb dL_law_40 (by rw [c_26]; decide) (by rw [c_26]; decide) (by rw [c_26]; rfl) (by decide) ?_
      exact law_25 l CC hcc0 hcs0 h1 h2 h3 h4 h5 h6 hI hS hl (fun H locs ls hI hS hl => nx _ _ H locs ls (by omega) (by omega) hI hS hl)
    by_cases c_27 : v = 26
    · refine lv_tableIn (off := 1040) (tgt := 1080) hx hb dL_law_40 (by rw [c_27]; decide) (by rw [c_27]; decide) (by rw [c_27]; rfl) (by decide) ?_
      exact law_26 l CC hcc0 hcs0 h1 h2 h3 h4 h5 h6 hI hS hl (fun H locs ls hI hS hl => nx _ _ H locs ls (by omega) (by omega) hI hS hl)
    by_cases c_28 : v = 27
    · refine lv_tableIn (off := 1053) (tgt := 1093) hx hb dL_law_40 (by rw [c_28]; decide) (by rw [c_28]; decide) (by rw [c_28]; rfl) (by decide) ?_
      exact law_27 l CC hcc0 hcs0 h1 h2 h3 h4 h5 h6 hI hS hl (fun H locs ls hI hS hl => nx _ _ H locs ls (by omega) (by omega) hI hS hl)
    by_cases c_29 : v = 28
    · refine lv_tableIn (off := 1078) (tgt := 1118) hx hb dL_law_40 (by rw [c_29]; decide) (by rw [c_29]; decide) (by rw [c_29]; rfl) (by decide) ?_
      exact law_28 l CC hcc0 hcs0 h1 h2 h3 h4 h5 h6 hI hS hl (fun H locs ls hI hS hl => nx _ _ H locs ls (by omega) (by omega) hI hS hl)
    by_cases c_30 : v = 29
    · refine lv_tableIn (off := 1091) (tgt := 1131) hx hb dL_law_40 (by rw [c_30]; decide) (by rw [c_30]; decide) (by rw [c_30]; rfl) (by decide) ?_
      exact law_29 l CC hcc0 hcs0 h1 h2 h3 h4 h5 h6 hI hS hl (fun H locs ls hI hS hl => nx _ _ H locs ls (by omega) (by omega) hI hS hl)
    by_cases c_31 : v = 30
    · refine lv_tableIn (off := 1116) (tgt := 1156) hx hb dL_law_40 (by rw [c_31]; decide) (by rw [c_31]; decide) (by rw [c_31]; rfl) (by decide) ?_
      exact law_30 l CC hcc0 hcs0 h1 h2 h3 h4 h5 h6 hI hS hl (fun H locs ls hI hS hl => nx _ _ H locs ls (by omega) (by omega) hI hS hl)
    by_cases c_32 : v = 31
    · refine lv_tableIn (off := 1129) (tgt := 1169) hx hb dL_law_40 (by rw [c_32]; decide) (by rw [c_32]; decide) (by rw [c_32]; rfl) (by decide) ?_
      exact law_31 l CC hcc0 hcs0 h1 h2 h3 h4 h5 h6 hI hS hl (fun H locs ls hI hS hl => nx _ _ H locs ls (by omega) (by omega) hI hS hl)
    by_cases c_33 : v = 32
    · refine lv_tableIn (off := 1142) (tgt := 1182) hx hb dL_law_40 (by rw [c_33]; decide) (by rw [c_33]; decide) (by rw [c_33]; rfl) (by decide) ?_
      exact law_32 l CC hcc0 hcs0 h1 h2 h3 h4 h5 h6 hI hS hl (fun H locs ls hI hS hl => nx _ _ H locs ls (by omega) (by omega) hI hS hl)
    by_cases c_34 : v = 33
    · refine lv_tableIn (off := 1191) (tgt := 1231) hx hb dL_law_40 (by rw [c_34]; decide) (by rw [c_34]; decide) (by rw [c_34]; rfl) (by decide) ?_
      exact law_33 l CC hcc0 hcs0 h1 h2 h3 h4 h5 h6 hI hS hl (fun H locs ls hI hS hl => nx _ _ H locs ls (by omega) (by omega) hI hS hl)
    by_cases c_35 : v = 34
    · refine lv_tableIn (off := 1216) (tgt := 1256) hx hb dL_law_40 (by rw [c_35]; decide) (by rw [c_35]; decide) (by rw [c_35]; rfl) (by decide) ?_
      exact law_34 l CC hcc0 hcs0 h1 h2 h3 h4 h5 h6 hI hS hl (fun H locs ls hI hS hl => nx _ _ H locs ls (by omega) (by omega) hI hS hl)
    by_cases c_36 : v = 35
    · refine lv_tableIn (off := 1241) (tgt := 1281) hx hb dL_law_40 (by rw [c_36]; decide) (by rw [c_36]; decide) (by rw [c_36]; rfl) (by decide) ?_
      exact law_35 l CC hcc0 hcs0 h1 h2 h3 h4 h5 h6 hI hS hl (fun H locs ls hI hS hl => nx _ _ H locs ls (by omega) (by omega) hI hS hl)
    by_cases c_37 : v = 36
    · refine lv_tableIn (off := 1266) (tgt := 1306) hx hb dL_law_40 (by rw [c_37]; decide) (by rw [c_37]; decide) (by rw [c_37]; rfl) (by decide) ?_
      exact law_36 l CC hcc1 hcs1 hst hTX h1 hI hS hl (fun H locs ls hI hS hl => nx _ _ H locs ls (by omega) (by omega) hI hS hl)
    have ct : v.toInt < 0 ∨ 36 < v.toInt := by
      have q_0 : v.toInt ≠ 0 := fun z => c_1 (Int32.toInt_inj.mp (z.trans (i_k 0 (by decide)).symm))
      have q_1 : v.toInt ≠ 1 := fun z => c_2 (Int32.toInt_inj.mp (z.trans (i_k 1 (by decide)).symm))
      have q_2 : v.toInt ≠ 2 := fun z => c_3 (Int32.toInt_inj.mp (z.trans (i_k 2 (by decide)).symm))
      have q_3 : v.toInt ≠ 3 := fun z => c_4 (Int32.toInt_inj.mp (z.trans (i_k 3 (by decide)).symm))
      have q_4 : v.toInt ≠ 4 := fun z => c_5 (Int32.toInt_inj.mp (z.trans (i_k 4 (by decide)).symm))
      have q_5 : v.toInt ≠ 5 := fun z => c_6 (Int32.toInt_inj.mp (z.trans (i_k 5 (by decide)).symm))
      have q_6 : v.toInt ≠ 6 := fun z => c_7 (Int32.toInt_inj.mp (z.trans (i_k 6 (by decide)).symm))
      have q_7 : v.toInt ≠ 7 := fun z => c_8 (Int32.toInt_inj.mp (z.trans (i_k 7 (by decide)).symm))
      have q_8 : v.toInt ≠ 8 := fun z => c_9 (Int32.toInt_inj.mp (z.trans (i_k 8 (by decide)).symm))
      have q_9 : v.toInt ≠ 9 := fun z => c_10 (Int32.toInt_inj.mp (z.trans (i_k 9 (by decide)).symm))
      have q_10 : v.toInt ≠ 10 := fun z => c_11 (Int32.toInt_inj.mp (z.trans (i_k 10 (by decide)).symm))
      have q_11 : v.toInt ≠ 11 := fun z => c_12 (Int32.toInt_inj.mp (z.trans (i_k 11 (by decide)).symm))
      have q_12 : v.toInt ≠ 12 := fun z => c_13 (Int32.toInt_inj.mp (z.trans (i_k 12 (by decide)).symm))
      have q_13 : v.toInt ≠ 13 := fun z => c_14 (Int32.toInt_inj.mp (z.trans (i_k 13 (by decide)).symm))
      have q_14 : v.toInt ≠ 14 := fun z => c_15 (Int32.toInt_inj.mp (z.trans (i_k 14 (by decide)).symm))
      have q_15 : v.toInt ≠ 15 := fun z => c_16 (Int32.toInt_inj.mp (z.trans (i_k 15 (by decide)).symm))
      have q_16 : v.toInt ≠ 16 := fun z => c_17 (Int32.toInt_inj.mp (z.trans (i_k 16 (by decide)).symm))
      have q_17 : v.toInt ≠ 17 := fun z => c_18 (Int32.toInt_inj.mp (z.trans (i_k 17 (by decide)).symm))
      have q_18 : v.toInt ≠ 18 := fun z => c_19 (Int32.toInt_inj.mp (z.trans (i_k 18 (by decide)).symm))
      have q_19 : v.toInt ≠ 19 := fun z => c_20 (Int32.toInt_inj.mp (z.trans (i_k 19 (by decide)).symm))
      have q_20 : v.toInt ≠ 20 := fun z => c_21 (Int32.toInt_inj.mp (z.trans (i_k 20 (by decide)).symm))
      have q_21 : v.toInt ≠ 21 := fun z => c_22 (Int32.toInt_inj.mp (z.trans (i_k 21 (by decide)).symm))
      have q_22 : v.toInt ≠ 22 := fun z => c_23 (Int32.toInt_inj.mp (z.trans (i_k 22 (by decide)).symm))
      have q_23 : v.toInt ≠ 23 := fun z => c_24 (Int32.toInt_inj.mp (z.trans (i_k 23 (by decide)).symm))
      have q_24 : v.toInt ≠ 24 := fun z => c_25 (Int32.toInt_inj.mp (z.trans (i_k 24 (by decide)).symm))
      have q_25 : v.toInt ≠ 25 := fun z => c_26 (Int32.toInt_inj.mp (z.trans (i_k 25 (by decide)).symm))
      have q_26 : v.toInt ≠ 26 := fun z => c_27 (Int32.toInt_inj.mp (z.trans (i_k 26 (by decide)).symm))
      have q_27 : v.toInt ≠ 27 := fun z => c_28 (Int32.toInt_inj.mp (z.trans (i_k 27 (by decide)).symm))
      have q_28 : v.toInt ≠ 28 := fun z => c_29 (Int32.toInt_inj.mp (z.trans (i_k 28 (by decide)).symm))
      have q_29 : v.toInt ≠ 29 := fun z => c_30 (Int32.toInt_inj.mp (z.trans (i_k 29 (by decide)).symm))
      have q_30 : v.toInt ≠ 30 := fun z => c_31 (Int32.toInt_inj.mp (z.trans (i_k 30 (by decide)).symm))
      have q_31 : v.toInt ≠ 31 := fun z => c_32 (Int32.toInt_inj.mp (z.trans (i_k 31 (by decide)).symm))
      have q_32 : v.toInt ≠ 32 := fun z => c_33 (Int32.toInt_inj.mp (z.trans (i_k 32 (by decide)).symm))
      have q_33 : v.toInt ≠ 33 := fun z => c_34 (Int32.toInt_inj.mp (z.trans (i_k 33 (by decide)).symm))
      have q_34 : v.toInt ≠ 34 := fun z => c_35 (Int32.toInt_inj.mp (z.trans (i_k 34 (by decide)).symm))
      have q_35 : v.toInt ≠ 35 := fun z => c_36 (Int32.toInt_inj.mp (z.trans (i_k 35 (by decide)).symm))
      have q_36 : v.toInt ≠ 36 := fun z => c_37 (Int32.toInt_inj.mp (z.trans (i_k 36 (by decide)).symm))
      omega
    refine lv_tableOut (tgt := 1361) hx hb dL_law_40 ct (by decide) ?_
    exact nx _ _ H locs ls (by omega) (by omega) hI hS hl
