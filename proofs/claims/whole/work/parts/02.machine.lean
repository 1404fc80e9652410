/-! ===== part 02: an abstract machine over numbered cells. A state σ gives the ints and the longs of each numbered cell; the shape of the heap is fixed ===== -/
abbrev St : Type := (Nat → Nat → Int32) × (Nat → Nat → Int64)
def sa (σ : St) (o : Nat) (g : Nat → Int32) : St := (fun a => if a = o then g else σ.1 a, σ.2)
def sL (σ : St) (o : Nat) (g : Nat → Int64) : St := (σ.1, fun a => if a = o then g else σ.2 a)
def si (σ : St) (o f : Nat) (v : Int32) : St := sa σ o (upd (σ.1 o) f v)
def sj (σ : St) (o f : Nat) (v : Int64) : St := sL σ o (vp_updL (σ.2 o) f v)
abbrev Ev : Type := (Nat → ClassId) × (Nat → Nat → Nat) × (Nat → ClassId) × (Nat → Nat)
def eD (E : Ev) : va_G := (E.1, E.2.1)
def eA (E : Ev) : Nat → ClassId := E.2.2.1
def ea (E : Ev) : Nat → Nat := E.2.2.2
def eT (E : Ev) : List (ClassId × FieldType) := [(eA E 0, .int), (eA E 1, .long), (eA E 2, .boolean), (eA E 3, .object "DreamShares$Sheet")]

def oc : Nat → Nat
  | 0 => 8
  | 1 => 7
  | 2 => 7
  | 5 => 5
  | 7 => 2
  | 12 => 0
  | 15 => 4
  | 18 => 1
  | 19 => 3
  | 21 => 6
  | 22 => 6
  | 23 => 6
  | 24 => 6
  | 35 => 9
  | _ => 99
def nf : Nat → Nat
  | 0 => 3
  | 1 => 2
  | 2 => 8
  | 3 => 1
  | 4 => 2
  | 5 => 3
  | 6 => 4
  | 7 => 2
  | 8 => 18
  | 9 => 31
  | _ => 0
def aty : Nat → Nat
  | 3 => 0
  | 4 => 0
  | 6 => 0
  | 8 => 0
  | 9 => 0
  | 10 => 0
  | 11 => 0
  | 13 => 1
  | 14 => 0
  | 16 => 0
  | 17 => 0
  | 20 => 3
  | 25 => 0
  | 26 => 0
  | 27 => 0
  | 28 => 0
  | 29 => 0
  | 30 => 0
  | 31 => 0
  | 32 => 0
  | 33 => 0
  | 34 => 1
  | 36 => 0
  | 37 => 0
  | 38 => 0
  | 39 => 0
  | 40 => 0
  | 41 => 0
  | 42 => 0
  | 43 => 0
  | 44 => 0
  | 45 => 0
  | 46 => 1
  | 47 => 1
  | 48 => 1
  | 49 => 0
  | 50 => 0
  | 51 => 2
  | 52 => 0
  | 53 => 0
  | 54 => 0
  | 55 => 0
  | _ => 9
def aln : Nat → Nat
  | 3 => 29
  | 4 => 29
  | 6 => 24
  | 8 => 6
  | 9 => 6
  | 10 => 6
  | 11 => 210
  | 13 => 210
  | 14 => 4
  | 16 => 210
  | 17 => 504
  | 20 => 4
  | 25 => 48
  | 26 => 48
  | 27 => 48
  | 28 => 48
  | 29 => 6
  | 30 => 6
  | 31 => 6
  | 32 => 6
  | 33 => 4
  | 34 => 64
  | 36 => 2
  | 37 => 58
  | 38 => 28
  | 39 => 7
  | 40 => 7
  | 41 => 7
  | 42 => 6
  | 43 => 6
  | 44 => 6
  | 45 => 16807
  | 46 => 2401
  | 47 => 2401
  | 48 => 64
  | 49 => 6
  | 50 => 3
  | 51 => 4
  | 52 => 4
  | 53 => 4
  | 54 => 192
  | 55 => 48
  | _ => 0
def lenW : Nat → Nat
  | 3 => 29
  | 4 => 29
  | 6 => 24
  | 8 => 6
  | 9 => 6
  | 10 => 6
  | 11 => 210
  | 14 => 4
  | 16 => 210
  | 17 => 504
  | 25 => 48
  | 26 => 48
  | 27 => 48
  | 28 => 48
  | 29 => 6
  | 30 => 6
  | 31 => 6
  | 32 => 6
  | 33 => 4
  | 36 => 2
  | 37 => 58
  | 38 => 28
  | 39 => 7
  | 40 => 7
  | 41 => 7
  | 42 => 6
  | 43 => 6
  | 44 => 6
  | 45 => 16807
  | 49 => 6
  | 50 => 3
  | 52 => 4
  | 53 => 4
  | 54 => 192
  | 55 => 48
  | _ => 0
def lenI : Nat → Nat
  | 3 => 29
  | 4 => 29
  | 6 => 24
  | 8 => 6
  | 9 => 6
  | 10 => 6
  | 11 => 210
  | 14 => 4
  | 16 => 210
  | 17 => 504
  | 25 => 48
  | 26 => 48
  | 27 => 48
  | 28 => 48
  | 29 => 6
  | 30 => 6
  | 31 => 6
  | 32 => 6
  | 33 => 4
  | 36 => 2
  | 37 => 58
  | 38 => 28
  | 39 => 7
  | 40 => 7
  | 41 => 7
  | 42 => 6
  | 43 => 6
  | 44 => 6
  | 45 => 16807
  | 49 => 6
  | 50 => 3
  | 52 => 4
  | 53 => 4
  | 54 => 192
  | 55 => 48
  | 60 => 8
  | _ => 0
def lenV : Nat → Nat
  | 13 => 210
  | 34 => 64
  | 46 => 2401
  | 47 => 2401
  | 48 => 64
  | _ => 0
def lenL : Nat → Nat
  | 13 => 210
  | 34 => 64
  | 46 => 2401
  | 47 => 2401
  | 48 => 64
  | 61 => 7
  | _ => 0
def lenZ : Nat → Nat
  | 51 => 4
  | _ => 0
def fcs : List (List Nat) := [[3, 4, 5], [1, 1], [3, 4, 5, 0, 0, 6, 10, 0], [0], [3, 4], [3, 0, 0], [6, 0, 0, 0], [4, 0], [3, 4, 7, 17, 9, 14, 20, 21, 22, 31, 32, 33, 34, 35, 36, 0, 0, 0], [3, 4, 0, 5, 0, 6, 7, 8, 9, 0, 0, 10, 11, 12, 13, 14, 15, 1, 16, 0, 1, 1, 17, 1, 0, 18, 19, 20, 21, 22, 0]]
def fc (ci k : Nat) : Nat := (fcs.getD ci []).getD k 0
def startf : Nat → Int32
  | 0 => 0
  | 1 => 1
  | 2 => 5
  | 3 => 15
  | 4 => 35
  | 5 => 70
  | 6 => 126
  | 7 => 210
  | _ => 0
def factf : Nat → Int64
  | 0 => 1
  | 1 => 1
  | 2 => 2
  | 3 => 6
  | 4 => 24
  | 5 => 120
  | 6 => 720
  | _ => 0
def fval (E : Ev) (σ : St) (o k : Nat) : Value := if fc (oc o) k = 0 then .int (σ.1 o k) else if fc (oc o) k = 1 then .long (σ.2 o k) else .ref (ea E (o + (fc (oc o) k - 2)))
def acont (E : Ev) (σ : St) (o : Nat) : (Nat → Int32) ⊕ (Nat → Int64) ⊕ (Nat → UInt32) ⊕ (Nat → UInt64) ⊕ (Nat → Option Nat) := if aty o = 1 then .inr (.inl (σ.2 o)) else if aty o = 3 then .inr (.inr (.inr (.inr (fun j => some (ea E (o + 1 + j)))))) else .inl (σ.1 o)
def cellOf (E : Ev) (σ : St) (o : Nat) : va_E := if oc o = 99 then .inl (eA E (aty o), aln o, acont E σ o) else .inr (oc o, (List.range (nf (oc o))).map (fval E σ o))
def cellsN (N : Nat) (E : Ev) (σ : St) : va_W := (List.range N).map (fun o => (ea E o, cellOf E σ o))
def cells (E : Ev) (σ : St) : va_W := cellsN 56 E σ
def conc (E : Ev) : Value → Value
  | .ref i => .ref (ea E i)
  | v => v
def cv (E : Ev) (q : Nat × Value) : Nat × Value := (q.1, conc E q.2)
theorem conc_cat (E : Ev) (v : Value) : (conc E v).category = v.category := by cases v <;> rfl
theorem cells_get {E : Ev} {σ : St} {o : Nat} (h : o < 56) : (cells E σ)[o]? = some (ea E o, cellOf E σ o) := by
  simp only [cells, cellsN, List.getElem?_map, List.getElem?_range h, Option.map_some]
theorem cells_set {E : Ev} {σ σ' : St} {o : Nat} {e' : va_E} (h : o < 56) (he : cellOf E σ' o = e') (ho : ∀ a, a ≠ o → cellOf E σ' a = cellOf E σ a) : (cells E σ).set o (ea E o, e') = cells E σ' := by
  apply List.ext_getElem?
  intro i
  rw [List.getElem?_set]
  by_cases hi : o = i
  · subst hi
    have hl : o < (cells E σ).length := by simp [cells, cellsN]; exact h
    simp only [if_true, hl, cells_get h, he]
  · simp only [if_neg hi]
    by_cases hk : i < 56
    · rw [cells_get hk, cells_get hk, ho i (fun x => hi x.symm)]
    · simp [cells, cellsN, hk]
theorem cellOf_other {E : Ev} {σ σ' : St} {a : Nat} (h1 : σ'.1 a = σ.1 a) (h2 : σ'.2 a = σ.2 a) : cellOf E σ' a = cellOf E σ a := by
  have hf : fval E σ' a = fval E σ a := by
    funext k
    simp only [fval, h1, h2]
  have hc : acont E σ' a = acont E σ a := by simp only [acont, h1, h2]
  simp only [cellOf, hf, hc]
theorem sa_at {σ : St} {o : Nat} {g : Nat → Int32} : (sa σ o g).1 o = g := by simp [sa]
theorem sa_ne {σ : St} {o a : Nat} {g : Nat → Int32} (h : a ≠ o) : (sa σ o g).1 a = σ.1 a := by simp [sa, h]
theorem sL_at {σ : St} {o : Nat} {g : Nat → Int64} : (sL σ o g).2 o = g := by simp [sL]
theorem sL_ne {σ : St} {o a : Nat} {g : Nat → Int64} (h : a ≠ o) : (sL σ o g).2 a = σ.2 a := by simp [sL, h]
theorem cells_D {E : Ev} {σ : St} {A : Nat → Prop} (hI : ∀ i j, i < 56 → j < 56 → ea E i = ea E j → i = j) (hA : ∀ i, i < 56 → A (ea E i)) : va_D A (cells E σ) := by
  have hk : ∀ (k : Nat) (q : Nat × va_E), (cells E σ)[k]? = some q → k < 56 ∧ q.1 = ea E k := by
    intro k q h
    by_cases hk : k < 56
    · rw [cells_get hk] at h
      cases h
      exact ⟨hk, rfl⟩
    · simp [cells, cellsN, hk] at h
  refine ⟨fun i j a b h1 h2 h => ?_, fun k q h => ?_⟩
  · obtain ⟨i1, i2⟩ := hk i a h1
    obtain ⟨j1, j2⟩ := hk j b h2
    exact hI i j i1 j1 (by rw [← i2, ← j2, h])
  · obtain ⟨i1, i2⟩ := hk k q h
    rw [i2]
    exact hA k i1
/-! words -/
def tt : List Cond := lw_tbl.filter goodWord
theorem tt_mem {w : Cond} (h : w ∈ lw_tbl) (g : goodWord w = true) : w ∈ tt := List.mem_filter.mpr ⟨h, g⟩
def nestL : List Cond := [.fieldLinkNest RX4 9 "DreamShares" "START" "[I" "DreamShares", .fieldLinkNest RX2 28 "DreamShares" "START" "[I" "DreamShares", .fieldLinkNest RX0 9 "DreamShares" "START" "[I" "DreamShares", .methodLinkNest RX5 34 yX8_isFigure "DreamShares", .methodLinkNest RX2 56 yX8_kindOfLetter "DreamShares", .methodLinkNest RX2 63 yX8_isFigure "DreamShares"]
theorem nest_warm {s U : State} (hW : s.WarmedH U.vm) (h : ∀ w ∈ nestL, va_Nw w s) : ∀ w ∈ nestL, va_Nw w U := by
  intro w hw
  have h0 := h w hw
  simp only [nestL, List.mem_cons, List.not_mem_nil, or_false] at hw
  rcases hw with rfl | rfl | rfl | rfl | rfl | rfl
  · exact va_Nw.warmF hW h0
  · exact va_Nw.warmF hW h0
  · exact va_Nw.warmF hW h0
  · exact va_Nw.warmM hW h0
  · exact va_Nw.warmM hW h0
  · exact va_Nw.warmM hW h0
theorem nest_same {s U : State} (hv : s.vm = U.vm) (h : ∀ w ∈ nestL, va_Nw w s) : ∀ w ∈ nestL, va_Nw w U := by
  intro w hw
  have h0 := h w hw
  simp only [nestL, List.mem_cons, List.not_mem_nil, or_false] at hw
  rcases hw with rfl | rfl | rfl | rfl | rfl | rfl <;> exact va_Nw.same rfl hv h0
/-! a method: its name, bytes, locals, return type, depth of calls -/
abbrev MD : Type := MethodName × ByteArray × Nat × Option FieldType × Nat
def mws (M : MD) : List Cond := Cond.code M.1 M.2.1 M.2.2.1 M.2.2.2.1 :: tt
def rmD (d : Nat) : Room := { frames := d, cells := 0, slots := 0, locals := 40 * d }
abbrev Kr : Type := Option Value → St → Prop
abbrev Kt : Type := Nat → List (Nat × Value) → List Value → St → Prop
abbrev Ins : Type := Kt → Kr → Kt
/-- the world beside its cells: the tables, the addresses, the two static rows -/
def Wd (E : Ev) (A : Nat → Prop) (U : State) : Prop := va_K (eD E) vwCl (eT E) U ∧ (∀ i j, i < 56 → j < 56 → ea E i = ea E j → i = j) ∧ (∀ i, i < 56 → A (ea E i)) ∧ va_Z "DreamShares" "START" "[I" (.ref (ea E 60)) A U U.heap ∧ va_Z "DreamShares" "FACTORIAL" "[J" (.ref (ea E 61)) A U U.heap ∧ va_T .int (ea E 60) 8 (fun j => .int (startf j)) A U U.heap ∧ va_T .long (ea E 61) 7 (fun j => .long (factf j)) A U U.heap ∧ ∀ w ∈ nestL, va_Nw w U
def eF (E : Ev) (sz : Nat) : Nat → Prop := fun q => (∃ o, o < 56 ∧ q = ea E o) ∨ sz ≤ q
def Qg (E : Ev) (K : Kr) (A : Nat → Prop) : Array Value → State → Outcome → State → Prop := fun _ st oc t => (∃ (r : Option Value) (σ' : St), oc = .returned (r.map (conc E)) ∧ K r σ' ∧ va_P (eD E) vwCl (cells E σ') t.heap) ∧ va_F A st t
/-- the method M, called with these arguments at σ, returns with K -/
def VM (M : MD) (av : List Value) (σ : St) (K : Kr) : Prop := ∀ (l : Launch) (E : Ev) (sz : Nat), Met l M.1 (mws M) (rmD M.2.2.2.2) (va_Pc (av.map (conc E)) (fun U => U.heap.size = sz ∧ va_P (eD E) vwCl (cells E σ) U.heap ∧ Wd E (eF E sz) U)) (Qg E K (eF E sz)) 0 0 (eF E sz)
/-- how a body may return -/
def Rt (M : MD) (K : Kr) (l : Launch) (E : Ev) (p : Program) (e : Env) (R : Room) (s : State) (m : MethodId) (args : Array Value) (below : List Frame) (meth : Method) (c : Code) (A : Nat → Prop) (cs sl : Nat) (Q : State → Prop) : Prop :=
  ∀ (r : Option Value) (σ' : St) (H : Heap) (locs : List Loc) (pc : Nat) (lv : Array Slot), K r σ' → va_P (eD E) vwCl (cells E σ') H → va_S A s.heap H locs →
    ((∃ (v : Int32) (ty : FieldType), r = some (.int v) ∧ M.2.2.2.1 = some ty ∧ narrow ty (.int v) = .int v ∧ decode M.2.1 pc = .ok (.ireturn, 1)) ∨ (∃ v : Int64, r = some (.long v) ∧ M.2.2.2.1 = some .long ∧ decode M.2.1 pc = .ok (.lreturn, 1)) ∨ (r = none ∧ M.2.2.2.1 = none ∧ decode M.2.1 pc = .ok (.return_, 1)) ∨ (∃ (o : Nat) (n : String), r = some (.ref o) ∧ M.2.2.2.1 = some (.object n) ∧ decode M.2.1 pc = .ok (.areturn, 1))) →
    W p l e R s m args below meth c H locs cs sl Q (F0 m pc lv (r.toList.map (conc E)))
def Cx (M : MD) (X : Ev → (Nat → Prop) → State → Prop) (K : Kr) (l : Launch) (E : Ev) (p : Program) (e : Env) (R : Room) (s : State) (m : MethodId) (args : Array Value) (below : List Frame) (meth : Method) (c : Code) (A : Nat → Prop) (cs sl : Nat) (Q : State → Prop) : Prop :=
  p.tables.exec = Jvm.exec ∧ c.code = M.2.1 ∧ c.maxLocals = M.2.2.1 ∧ s.vm.findClass M.1.cls = some m.cls ∧ (∀ w ∈ tt, w.before args s = true) ∧ Wd E A s ∧ (∀ q, s.heap.size ≤ q → A q) ∧ (M.2.2.2.2 ≤ R.frames ∧ 40 * M.2.2.2.2 ≤ R.locals) ∧ (cs ≤ R.cells ∧ sl ≤ R.slots) ∧ Rt M K l E p e R s m args below meth c A cs sl Q ∧ X E A s
/-- the body of M, at pc with these locals and this stack, at σ, comes to its return with K -/
def VW (M : MD) (X : Ev → (Nat → Prop) → State → Prop) (K : Kr) (pc : Nat) (ls : List (Nat × Value)) (st : List Value) (σ : St) : Prop :=
  ∀ (l : Launch) (E : Ev) (p : Program) (e : Env) (R : Room) (s : State) (m : MethodId) (args : Array Value) (below : List Frame) (meth : Method) (c : Code) (A : Nat → Prop) (cs sl : Nat) (Q : State → Prop),
    Cx M X K l E p e R s m args below meth c A cs sl Q → ∀ (H : Heap) (locs : List Loc) (lv : Array Slot), va_P (eD E) vwCl (cells E σ) H → va_S A s.heap H locs → lv_has lv M.2.2.1 (ls.map (cv E)) → W p l e R s m args below meth c H locs cs sl Q (F0 m pc lv (st.map (conc E)))
def Snd (M : MD) (X : Ev → (Nat → Prop) → State → Prop) (pc : Nat) (i : Ins) : Prop := ∀ (nx : Kt) (K : Kr), (∀ pc' ls st σ, nx pc' ls st σ → VW M X K pc' ls st σ) → ∀ ls st σ, i nx K pc ls st σ → VW M X K pc ls st σ
def nxt (stop : Nat → Bool) (base r : Kt) : Kt := fun pc ls st σ => if stop pc = true then base pc ls st σ else r pc ls st σ
def run (cd : Nat → Ins) (stop : Nat → Bool) (base : Kt) (K : Kr) : Nat → Kt
  | 0 => base
  | f + 1 => fun pc ls st σ => cd pc (nxt stop base (run cd stop base K f)) K pc ls st σ
theorem run_sound {M : MD} {X : Ev → (Nat → Prop) → State → Prop} {cd : Nat → Ins} (hs : ∀ pc, Snd M X pc (cd pc)) (stop : Nat → Bool) (K : Kr) : ∀ (f pc : Nat) (ls : List (Nat × Value)) (st : List Value) (σ : St), run cd stop (VW M X K) K f pc ls st σ → VW M X K pc ls st σ := by
  intro f
  induction f with
  | zero => intro pc ls st σ h; exact h
  | succ f ih =>
    intro pc ls st σ h
    refine hs pc _ K ?_ ls st σ h
    intro pc' ls' st' σ' h'
    unfold nxt at h'
    split at h'
    · exact h'
    · exact ih _ _ _ _ h'
theorem VM.mono {M : MD} {av : List Value} {σ : St} {K K' : Kr} (h : VM M av σ K) (hk : ∀ r t, K r t → K' r t) : VM M av σ K' := by
  intro l E sz
  have h0 := h l E sz
  intro p e ha hc hk' s m args below hf happ hp hkk
  obtain ⟨t, o, g1, g2, g3, ⟨⟨r, σ', e1, e2, e3⟩, hF⟩, g5⟩ := h0 p e ha hc hk' s m args below hf happ hp hkk
  exact ⟨t, o, g1, g2, g3, ⟨⟨r, σ', e1, hk r σ' e2, e3⟩, hF⟩, g5⟩
