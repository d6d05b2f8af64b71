/-! the words of the walks: a method's function gives 'some', or 'none' where it would not come to its end by itself -/
def b2i (b : Bool) : Int32 := if b then 1 else 0
theorem nzb (b : Bool) : narrow .boolean (.int (b2i b)) = .int (b2i b) := by cases b <;> rfl
def fu : Nat := 4096
abbrev tyA (cB cC cI cJ cZ cT : ClassId) : List (ClassId × FieldType) := [(cI, .int), (cJ, .long), (cB, .byte), (cZ, .boolean), (cC, .char), (cT, .object "LongRuns$Table")]
def ius (x y : Int32) : Int32 := (x.toUInt32 >>> (y.toUInt32 &&& Int32.toUInt32 31)).toInt32
def lus (x : Int64) (y : Int32) : Int64 := (x.toUInt64 >>> (y.toInt64.toUInt64 &&& Int64.toUInt64 63)).toInt64
def to_b (x : Int32) : Int32 := x.toInt8.toInt32
def to_s (x : Int32) : Int32 := x.toInt16.toInt32
def to_c (x : Int32) : Int32 := x.toUInt32.toUInt16.toUInt32.toInt32
def sm {A B : Type} (k : A → Option B) : A ⊕ B → Option B
  | .inl a => k a
  | .inr b => some b
theorem sm_l {A B : Type} {k : A → Option B} {u : A} {o : B} (h : sm k (.inl u) = some o) : k u = some o := h
theorem og {α : Type} {c : Prop} {i : Decidable c} {e : Option α} {o : α} (h : (if c then none else e) = some o) : ¬ c ∧ e = some o := by
  by_cases hc : c
  · rw [if_pos hc] at h; cases h
  · rw [if_neg hc] at h; exact ⟨hc, h⟩
theorem op {α : Type} {c : Prop} {i : Decidable c} {a b : Option α} {o : α} (hc : c) (h : (if c then a else b) = some o) : a = some o := by rw [if_pos hc] at h; exact h
theorem on {α : Type} {c : Prop} {i : Decidable c} {a b : Option α} {o : α} (hc : ¬ c) (h : (if c then a else b) = some o) : b = some o := by rw [if_neg hc] at h; exact h
theorem ob {α β : Type} {f : Option α} {k : α → Option β} {o : β} (h : f.bind k = some o) : ∃ r, f = some r ∧ k r = some o := by
  cases f with
  | none => cases h
  | some r => exact ⟨r, rfl, h⟩
theorem lt2 {j : Nat} (h : j < 2) : j = 0 ∨ j = 1 := by omega
theorem lt9 {j : Nat} (h : j < 9) : j = 0 ∨ j = 1 ∨ j = 2 ∨ j = 3 ∨ j = 4 ∨ j = 5 ∨ j = 6 ∨ j = 7 ∨ j = 8 := by omega
theorem i32_ne {x y : Int32} (h : ¬ x = y) : x.toInt ≠ y.toInt := fun e => h (Int32.toInt_inj.mp e)
theorem blR {av : List Value} {D : va_G} {cl : List vw_C} {ws : va_W} {tys : List (ClassId × FieldType)} : FrameBlind (va_Pc av (fun U => va_P D cl ws U.heap ∧ va_K D cl tys U)) := by
  intro a U g mk q
  obtain ⟨q0, qP, qK⟩ := q
  exact ⟨q0, qP, va_K.moved (u := U) (U := U.calling g mk a) (Vm.Alike.refl U.vm) qK⟩
theorem blW {av : List Value} {D : va_G} {cl : List vw_C} {ws : va_W} {tys : List (ClassId × FieldType)} {sz : Nat} {A : Nat → Prop} : FrameBlind (va_Pc av (fun U => U.heap.size = sz ∧ va_P D cl ws U.heap ∧ va_K D cl tys U ∧ va_D A ws)) := by
  intro a U g mk q
  obtain ⟨q0, q1, qP, qK, qD⟩ := q
  exact ⟨q0, q1, qP, va_K.moved (u := U) (U := U.calling g mk a) (Vm.Alike.refl U.vm) qK, qD⟩
theorem blT {av : List Value} : FrameBlind (va_Pc av (fun _ => True)) := fun _ _ _ _ q => q
def wid (j : Nat) : Int32 := [1, 250, 244, 248, 240, 224, 192, 128].getD j 0
/-- what lies outside all worlds: the two static rows of widenings -/
def SX (A : Nat → Prop) (U : State) (H : Heap) : Prop := (∃ t : Nat, va_Z "LongRunsModel" "WIDENS" "[I" (.ref t) A U H ∧ va_T .int t 8 (fun j => .int (wid j)) A U H) ∧ ∃ t : Nat, va_Z "LongRuns$Kinds" "WIDENINGS" "[I" (.ref t) A U H ∧ va_T .int t 8 (fun j => .int (wid j)) A U H
theorem SX.go {A B : Nat → Prop} {u U : State} {H H1 : Heap} (h : SX A u H) (hvm : u.vm.Alike U.vm) (hk : ∀ a : Nat, a < H.size → ¬ A a → H1[a]? = H[a]?) (hAB : ∀ q, B q → A q) : SX B U H1 := by
  obtain ⟨⟨t, h1, h2⟩, t', h3, h4⟩ := h
  exact ⟨⟨t, ((h1.kept hk).moved hvm).narrow hAB, ((h2.kept hk).moved hvm).narrow hAB⟩, t', ((h3.kept hk).moved hvm).narrow hAB, ((h4.kept hk).moved hvm).narrow hAB⟩
theorem SX.use {A : Nat → Prop} {s U : State} {H : Heap} {locs : List Loc} (hvm : s.vm.Alike U.vm) (hS : va_S A s.heap H locs) (h : SX A s s.heap) : SX (fun _ => False) U H := h.go hvm hS.2.1 (fun _ q => q.elim)
theorem SX.useW {A B : Nat → Prop} {s U : State} {H : Heap} {locs : List Loc} (hvm : s.vm.Alike U.vm) (hS : va_S A s.heap H locs) (hF : ∀ q, B q → A q) (h : SX A s s.heap) : SX B U H := h.go hvm hS.2.1 hF
theorem blRX {av : List Value} {D : va_G} {cl : List vw_C} {ws : va_W} {tys : List (ClassId × FieldType)} {A : Nat → Prop} : FrameBlind (va_Pc av (fun U => va_P D cl ws U.heap ∧ va_K D cl tys U ∧ SX A U U.heap)) := by
  intro a U g mk q
  obtain ⟨q0, qP, qK, qX⟩ := q
  exact ⟨q0, qP, va_K.moved (u := U) (U := U.calling g mk a) (Vm.Alike.refl U.vm) qK, qX.go (U := U.calling g mk a) (Vm.Alike.refl U.vm) (fun _ _ _ => rfl) (fun _ z => z)⟩
theorem blWX {av : List Value} {D : va_G} {cl : List vw_C} {ws : va_W} {tys : List (ClassId × FieldType)} {sz : Nat} {A A' : Nat → Prop} : FrameBlind (va_Pc av (fun U => U.heap.size = sz ∧ va_P D cl ws U.heap ∧ va_K D cl tys U ∧ va_D A ws ∧ SX A' U U.heap)) := by
  intro a U g mk q
  obtain ⟨q0, q1, qP, qK, qD, qX⟩ := q
  exact ⟨q0, q1, qP, va_K.moved (u := U) (U := U.calling g mk a) (Vm.Alike.refl U.vm) qK, qD, qX.go (U := U.calling g mk a) (Vm.Alike.refl U.vm) (fun _ _ _ => rfl) (fun _ z => z)⟩
theorem blTX {av : List Value} {A : Nat → Prop} : FrameBlind (va_Pc av (fun U => SX A U U.heap)) := fun a U g mk q => ⟨q.1, q.2.go (U := U.calling g mk a) (Vm.Alike.refl U.vm) (fun _ _ _ => rfl) (fun _ z => z)⟩
theorem wstart {p : Program} {l : Launch} {e : Env} {s : State} {m : MethodId} {args : Array Value} {below : List Frame} {meth : Method} {c : Code} {H : Heap} {locs : List Loc} {cells slots : Nat} {Q : State → Prop} {ws : List Cond} {rm : Room} {av : List Value} {nL : Nat} (hav : args = av.toArray) (hlen : (lg_sl av).length ≤ nL) (k : ∀ (QQ : State → Prop) (ls : Array Slot), QQ = Q → lv_has ls nL (lv_args 0 av) → W p l e rm s m args below meth c H locs cells slots QQ (F0 m 0 ls [])) : W p l e (headSpec ws rm).room s m args below meth c H locs cells slots Q (entryFrame m args nL) := by
  subst hav
  have hl := lv_entry av hlen
  rw [lg_entry_eq]
  exact k Q _ rfl hl
