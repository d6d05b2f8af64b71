/-! the words of the walks: a method's function gives 'some', or 'none' where it would not come to its end by itself -/
def b2i (b : Bool) : Int32 := if b then 1 else 0
theorem nzb (b : Bool) : narrow .boolean (.int (b2i b)) = .int (b2i b) := by cases b <;> rfl
def fu : Nat := 4096
def mmax (x y : Int32) : Int32 := if x < y then y else x
def mmin (x y : Int32) : Int32 := if y < x then y else x
abbrev tyA (cB cC cI cJ cZ cT : ClassId) : List (ClassId × FieldType) := [(cI, .int), (cJ, .long), (cB, .byte), (cZ, .boolean), (cC, .char), (cT, .object "LongRuns$Table")]
def ius (x y : Int32) : Int32 := (x.toUInt32 >>> (y.toUInt32 &&& Int32.toUInt32 31)).toInt32
def lus (x : Int64) (y : Int32) : Int64 := (x.toUInt64 >>> (y.toInt64.toUInt64 &&& Int64.toUInt64 63)).toInt64
def to_b (x : Int32) : Int32 := x.toInt8.toInt32
def to_s (x : Int32) : Int32 := x.toInt16.toInt32
def to_c (x : Int32) : Int32 := x.toUInt32.toUInt16.toUInt32.toInt32
def sm {A B : Type} (k : A → Option B) : A ⊕ B → Option B
  | .inl a => k a
  | .inr b => some b
theorem sm_l {A B : Type} {k : A → Option B} {u : A} {o : B} (h : sm k (.inl u) = some o) : k u = some o := h
theorem og {α : Type} {c : Prop} {i : Decidable c} {e : Option α} {o : α} (h : (if c then none else e) = some o) : ¬ c ∧ e = some o := by
  by_cases hc : c
  · rw [if_pos hc] at h; cases h
  · rw [if_neg hc] at h; exact ⟨hc, h⟩
theorem op {α : Type} {c : Prop} {i : Decidable c} {a b : Option α} {o : α} (hc : c) (h : (if c then a else b) = some o) : a = some o := by rw [if_pos hc] at h; exact h
theorem on {α : Type} {c : Prop} {i : Decidable c} {a b : Option α} {o : α} (hc : ¬ c) (h : (if c then a else b) = some o) : b = some o := by rw [if_neg hc] at h; exact h
theorem ob {α β : Type} {f : Option α} {k : α → Option β} {o : β} (h : f.bind k = some o) : ∃ r, f = some r ∧ k r = some o := by
  cases f with
  | none => cases h
  | some r => exact ⟨r, rfl, h⟩
theorem lt2 {j : Nat} (h : j < 2) : j = 0 ∨ j = 1 := by omega
theorem lt9 {j : Nat} (h : j < 9) : j = 0 ∨ j = 1 ∨ j = 2 ∨ j = 3 ∨ j = 4 ∨ j = 5 ∨ j = 6 ∨ j = 7 ∨ j = 8 := by omega
theorem i32_ne {x y : Int32} (h : ¬ x = y) : x.toInt ≠ y.toInt := fun e => h (Int32.toInt_inj.mp e)
theorem blR {av : List Value} {D : va_G} {cl : List vw_C} {ws : va_W} {tys : List (ClassId × FieldType)} : FrameBlind (va_Pc av (fun U => va_P D cl ws U.heap ∧ va_K D cl tys U)) := by
  intro a U g mk q
  obtain ⟨q0, qP, qK⟩ := q
  exact ⟨q0, qP, va_K.moved (u := U) (U := U.calling g mk a) (Vm.Alike.refl U.vm) qK⟩
theorem blW {av : List Value} {D : va_G} {cl : List vw_C} {ws : va_W} {tys : List (ClassId × FieldType)} {sz : Nat} {A : Nat → Prop} : FrameBlind (va_Pc av (fun U => U.heap.size = sz ∧ va_P D cl ws U.heap ∧ va_K D cl tys U ∧ va_D A ws)) := by
  intro a U g mk q
  obtain ⟨q0, q1, qP, qK, qD⟩ := q
  exact ⟨q0, q1, qP, va_K.moved (u := U) (U := U.calling g mk a) (Vm.Alike.refl U.vm) qK, qD⟩
theorem zq_of {C n d : String} {A : Nat → Prop} {U : State} {H : Heap} (h : va_Zq C n d A U H) : ∃ t : Option Nat, va_Z C n d (va_rf t) A U H := h.elim (fun q => ⟨none, q⟩) (fun ⟨t, q⟩ => ⟨some t, q⟩)
theorem blT {av : List Value} : FrameBlind (va_Pc av (fun _ => True)) := fun _ _ _ _ q => q
def wid (j : Nat) : Int32 := [1, 250, 244, 248, 240, 224, 192, 128].getD j 0
/-- the letters of the kinds -/
def ltr (j : Nat) : Int32 := [122, 98, 99, 115, 105, 106, 102, 100, 110, 116, 111, 120, 121, 119].getD j 0
/-- a String of these letters at a, its bytes at v; how Strings are held -/
def STR (a v : Nat) (A : Nat → Prop) (U : State) (H : Heap) : Prop := va_OF "java/lang/String" "value" "[B" (.ref v) a A U H ∧ va_OF "java/lang/String" "coder" "B" (.int 0) a A U H ∧ va_T .byte v 14 (fun j => .int (ltr j)) A U H ∧ va_O "java/lang/String" a A U H ∧ va_Z "java/lang/String" "COMPACT_STRINGS" "Z" (.int 1) A U H ∧ va_Zq "jdk/internal/util/Preconditions" "SIOOBE_FORMATTER" "Ljava/util/function/BiFunction;" A U H
theorem STR.go {a v : Nat} {A B : Nat → Prop} {u U : State} {H H1 : Heap} (h : STR a v A u H) (hvm : u.vm.Alike U.vm) (hk : ∀ a : Nat, a < H.size → ¬ A a → H1[a]? = H[a]?) (hAB : ∀ q, B q → A q) : STR a v B U H1 := by
  obtain ⟨h1, h2, h3, h4, h5, h6⟩ := h
  exact ⟨((h1.kept hk).moved hvm).narrow hAB, ((h2.kept hk).moved hvm).narrow hAB, ((h3.kept hk).moved hvm).narrow hAB, ((h4.kept hk).moved hvm).narrow hAB, ((h5.kept hk).moved hvm).narrow hAB, ((h6.kept hk).moved hvm).narrow hAB⟩
/-- what lies outside all worlds: the two static rows of widenings, the two Strings of letters -/
def SX (A : Nat → Prop) (U : State) (H : Heap) : Prop := (∃ t : Nat, va_Z "LongRunsModel" "WIDENS" "[I" (.ref t) A U H ∧ va_T .int t 8 (fun j => .int (wid j)) A U H) ∧ (∃ t : Nat, va_Z "LongRuns$Kinds" "WIDENINGS" "[I" (.ref t) A U H ∧ va_T .int t 8 (fun j => .int (wid j)) A U H) ∧ (∃ a v : Nat, vk_R "LongRunsModel" 126 "zbcsijfdntoxyw" a U ∧ STR a v A U H) ∧ ∃ a v : Nat, vk_R "LongRuns$Kinds" 9 "zbcsijfdntoxyw" a U ∧ STR a v A U H
theorem SX.go {A B : Nat → Prop} {u U : State} {H H1 : Heap} (h : SX A u H) (hR : ∀ own k tx a, vk_R own k tx a u → vk_R own k tx a U) (hvm : u.vm.Alike U.vm) (hk : ∀ a : Nat, a < H.size → ¬ A a → H1[a]? = H[a]?) (hAB : ∀ q, B q → A q) : SX B U H1 := by
  obtain ⟨⟨t, h1, h2⟩, ⟨t', h3, h4⟩, ⟨a, v, h5, h6⟩, a', v', h7, h8⟩ := h
  exact ⟨⟨t, ((h1.kept hk).moved hvm).narrow hAB, ((h2.kept hk).moved hvm).narrow hAB⟩, ⟨t', ((h3.kept hk).moved hvm).narrow hAB, ((h4.kept hk).moved hvm).narrow hAB⟩, ⟨a, v, hR _ _ _ _ h5, h6.go hvm hk hAB⟩, a', v', hR _ _ _ _ h7, h8.go hvm hk hAB⟩
theorem SX.use {A : Nat → Prop} {s U : State} {H : Heap} {locs : List Loc} (hW : s.WarmedH U.vm) (hS : va_S A s.heap H locs) (h : SX A s s.heap) : SX (fun _ => False) U H := h.go (fun _ _ _ _ q => vk_R.warm hW q) hW.alike hS.2.1 (fun _ q => q.elim)
theorem SX.useW {A B : Nat → Prop} {s U : State} {H : Heap} {locs : List Loc} (hW : s.WarmedH U.vm) (hS : va_S A s.heap H locs) (hF : ∀ q, B q → A q) (h : SX A s s.heap) : SX B U H := h.go (fun _ _ _ _ q => vk_R.warm hW q) hW.alike hS.2.1 hF
theorem SX.call {A : Nat → Prop} {U : State} (g : JFrame) (mk : MethodId) (a : Array Value) (h : SX A U U.heap) : SX A (U.calling g mk a) (U.calling g mk a).heap := h.go (U := U.calling g mk a) (fun _ _ _ _ q => vk_R.same rfl q) (Vm.Alike.refl U.vm) (fun _ _ _ => rfl) (fun _ z => z)
theorem blS {av : List Value} {a v : Nat} {A : Nat → Prop} : FrameBlind (va_Pc av (fun U => STR a v A U U.heap)) := fun a U g mk q => ⟨q.1, q.2.go (U := U.calling g mk a) (Vm.Alike.refl U.vm) (fun _ _ _ => rfl) (fun _ z => z)⟩
theorem blRX {av : List Value} {D : va_G} {cl : List vw_C} {ws : va_W} {tys : List (ClassId × FieldType)} {A : Nat → Prop} : FrameBlind (va_Pc av (fun U => va_P D cl ws U.heap ∧ va_K D cl tys U ∧ SX A U U.heap)) := by
  intro a U g mk q
  obtain ⟨q0, qP, qK, qX⟩ := q
  exact ⟨q0, qP, va_K.moved (u := U) (U := U.calling g mk a) (Vm.Alike.refl U.vm) qK, qX.call g mk a⟩
theorem blWX {av : List Value} {D : va_G} {cl : List vw_C} {ws : va_W} {tys : List (ClassId × FieldType)} {sz : Nat} {A A' : Nat → Prop} : FrameBlind (va_Pc av (fun U => U.heap.size = sz ∧ va_P D cl ws U.heap ∧ va_K D cl tys U ∧ va_D A ws ∧ SX A' U U.heap)) := by
  intro a U g mk q
  obtain ⟨q0, q1, qP, qK, qD, qX⟩ := q
  exact ⟨q0, q1, qP, va_K.moved (u := U) (U := U.calling g mk a) (Vm.Alike.refl U.vm) qK, qD, qX.call g mk a⟩
theorem blTX {av : List Value} {A : Nat → Prop} : FrameBlind (va_Pc av (fun U => SX A U U.heap)) := fun a U g mk q => ⟨q.1, q.2.call g mk a⟩
theorem wstart {p : Program} {l : Launch} {e : Env} {s : State} {m : MethodId} {args : Array Value} {below : List Frame} {meth : Method} {c : Code} {H : Heap} {locs : List Loc} {cells slots : Nat} {Q : State → Prop} {ws : List Cond} {rm : Room} {av : List Value} {nL : Nat} (hav : args = av.toArray) (hlen : (lg_sl av).length ≤ nL) (k : ∀ (QQ : State → Prop) (ls : Array Slot), QQ = Q → lv_has ls nL (lv_args 0 av) → W p l e rm s m args below meth c H locs cells slots QQ (F0 m 0 ls [])) : W p l e (headSpec ws rm).room s m args below meth c H locs cells slots Q (entryFrame m args nL) := by
  subst hav
  have hl := lv_entry av hlen
  rw [lg_entry_eq]
  exact k Q _ rfl hl
