/-! ===== the constructors' machine: worlds as lists ===== -/
abbrev Tys : Type := List (ClassId × FieldType)
abbrev Kw : Type := Option Value → Tys → va_W → Prop
def nestI : List Cond := [.methodLinkNest RX8 9 yX7_init "DreamShares", .methodLinkNest RX8 21 yX5_init "DreamShares", .methodLinkNest RX8 51 yX1_init "DreamShares", .methodLinkNest RX8 58 yX3_init "DreamShares", .methodLinkNest RX8 99 yX6_init "DreamShares"]
theorem nestI_warm {s U : State} (hW : s.WarmedH U.vm) (h : ∀ w ∈ nestI, va_Nw w s) : ∀ w ∈ nestI, va_Nw w U := by
  intro w hw
  have h0 := h w hw
  simp only [nestI, List.mem_cons, List.not_mem_nil, or_false] at hw
  rcases hw with rfl | rfl | rfl | rfl | rfl <;> exact va_Nw.warmM hW h0
theorem nestI_same {s U : State} (hv : s.vm = U.vm) (h : ∀ w ∈ nestI, va_Nw w s) : ∀ w ∈ nestI, va_Nw w U := by
  intro w hw
  have h0 := h w hw
  simp only [nestI, List.mem_cons, List.not_mem_nil, or_false] at hw
  rcases hw with rfl | rfl | rfl | rfl | rfl <;> exact va_Nw.same rfl hv h0
abbrev BG : Type := va_G × ClassId × ClassId × ClassId × Nat
def gD (B : BG) : va_G := B.1
def gI (B : BG) : ClassId := B.2.1
def gJ (B : BG) : ClassId := B.2.2.1
def gZ (B : BG) : ClassId := B.2.2.2.1
def gB (B : BG) : Nat := B.2.2.2.2
def t3 (B : BG) : Tys := [(gI B, .int), (gJ B, .long), (gZ B, .boolean)]
/-- what every constructor finds beside its cells -/
def KB (B : BG) (A : Nat → Prop) (U : State) : Prop := va_K (gD B) vwCl (t3 B) U ∧ va_Z "DreamShares" "START" "[I" (.ref (gB B)) A U U.heap ∧ va_T .int (gB B) 8 (fun j => .int (startf j)) A U U.heap ∧ (∀ w ∈ nestL, va_Nw w U) ∧ (∀ w ∈ nestI, va_Nw w U) ∧ va_AO "DreamShares$Sheet" U
theorem KB.blind {B : BG} {A : Nat → Prop} {U : State} {g : JFrame} {mk : MethodId} {a : Array Value} (h : KB B A U) : KB B A (U.calling g mk a) := by
  obtain ⟨h1, h2, h3, h4, h5, h6⟩ := h
  exact ⟨va_K.moved (u := U) (U := U.calling g mk a) (Vm.Alike.refl U.vm) h1, h2.moved (u := U) (U := U.calling g mk a) (Vm.Alike.refl U.vm), h3.moved (u := U) (U := U.calling g mk a) (Vm.Alike.refl U.vm), nest_same (s := U) (U := U.calling g mk a) rfl h4, nestI_same (s := U) (U := U.calling g mk a) rfl h5, h6.moved (u := U) (U := U.calling g mk a) (Vm.Alike.refl U.vm)⟩
theorem KB.call {B : BG} {A A1 : Nat → Prop} {s U : State} {H : Heap} {locs : List Loc} (h : KB B A s) (hS : va_S A s.heap H locs) (hn : ∀ q, A1 q → A q) (hU : U.heap = H) (hW : s.WarmedH U.vm) : KB B A1 U := by
  obtain ⟨h1, h2, h3, h4, h5, h6⟩ := h
  rw [← hU] at hS
  exact ⟨va_K.moved hW.alike h1, ((h2.kept hS.2.1).narrow hn).moved hW.alike, ((h3.kept hS.2.1).narrow hn).moved hW.alike, nest_warm hW h4, nestI_warm hW h5, h6.moved hW.alike⟩
def rmC (d mc ms : Nat) : Room := { frames := d, cells := mc, slots := ms, locals := 40 * d }
def QC (B : BG) (K : Kw) (A : Nat → Prop) : Array Value → State → Outcome → State → Prop := fun _ st oc t => (∃ (r : Option Value) (tys : Tys) (ws : va_W), oc = .returned r ∧ K r tys ws ∧ va_K (gD B) vwCl tys t ∧ va_P (gD B) vwCl ws t.heap ∧ va_D A ws) ∧ va_F A st t
/-- a method's contract over a world -/
def VK (B : BG) (M : MD) (av : List Value) (ws : va_W) (mc ms : Nat) (K : Kw) : Prop := ∀ (l : Launch) (sz : Nat), Met l M.1 (mws M) (rmC M.2.2.2.2 mc ms) (va_Pc av (fun U => U.heap.size = sz ∧ va_P (gD B) vwCl ws U.heap ∧ va_D (fun _ => True) ws ∧ KB B (va_A ws sz) U)) (QC B K (va_A ws sz)) mc ms (va_A ws sz)
def RtC (B : BG) (M : MD) (K : Kw) (mc ms : Nat) (l : Launch) (p : Program) (e : Env) (R : Room) (s : State) (m : MethodId) (args : Array Value) (below : List Frame) (meth : Method) (c : Code) (A : Nat → Prop) (Q : State → Prop) : Prop :=
  ∀ (r : Option Value) (tys : Tys) (ws : va_W) (H : Heap) (locs : List Loc) (pc : Nat) (lv : Array Slot) (cs sl : Nat), K r tys ws → va_K (gD B) vwCl tys s → va_P (gD B) vwCl ws H → va_D A ws → va_S A s.heap H locs → cs ≤ mc → sl ≤ ms →
    ((∃ v : Int32, r = some (.int v) ∧ M.2.2.2.1 = some .int ∧ decode M.2.1 pc = .ok (.ireturn, 1)) ∨ (r = none ∧ M.2.2.2.1 = none ∧ decode M.2.1 pc = .ok (.return_, 1))) → W p l e R s m args below meth c H locs cs sl Q (F0 m pc lv r.toList)
def CxC (B : BG) (M : MD) (K : Kw) (mc ms : Nat) (l : Launch) (p : Program) (e : Env) (R : Room) (s : State) (m : MethodId) (args : Array Value) (below : List Frame) (meth : Method) (c : Code) (A : Nat → Prop) (Q : State → Prop) : Prop :=
  p.tables.exec = Jvm.exec ∧ c.code = M.2.1 ∧ c.maxLocals = M.2.2.1 ∧ s.vm.findClass M.1.cls = some m.cls ∧ (∀ w ∈ tt, w.before args s = true) ∧ KB B A s ∧ (∀ q, s.heap.size ≤ q → A q) ∧ (M.2.2.2.2 ≤ R.frames ∧ 40 * M.2.2.2.2 ≤ R.locals) ∧ (mc ≤ R.cells ∧ ms ≤ R.slots) ∧ meth.name = M.1.name ∧ RtC B M K mc ms l p e R s m args below meth c A Q
def VC (B : BG) (M : MD) (mc ms : Nat) (K : Kw) (pc : Nat) (ls : List (Nat × Value)) (st : List Value) (tys : Tys) (ws : va_W) (cs sl : Nat) : Prop :=
  ∀ (l : Launch) (p : Program) (e : Env) (R : Room) (s : State) (m : MethodId) (args : Array Value) (below : List Frame) (meth : Method) (c : Code) (A : Nat → Prop) (Q : State → Prop), CxC B M K mc ms l p e R s m args below meth c A Q → va_K (gD B) vwCl tys s →
    ∀ (H : Heap) (locs : List Loc) (lv : Array Slot), va_P (gD B) vwCl ws H → va_D A ws → va_S A s.heap H locs → lv_has lv M.2.2.1 ls → W p l e R s m args below meth c H locs cs sl Q (F0 m pc lv st)
theorem vk_of {B : BG} {M : MD} {av : List Value} {ws : va_W} {mc ms : Nat} {K : Kw} (hy : plainName M.1.cls = true) (hn : (lg_sl av).length ≤ M.2.2.1) (h : VC B M mc ms K 0 (lv_args 0 av) [] (t3 B) ws 0 0) : VK B M av ws mc ms K := by
  intro l sz
  refine Met.ofW (cc := M.2.1) (maxL := M.2.2.1) (ret := M.2.2.2.1) hy rfl ?_
  intro p e s m args below meth c s₁ B0 hml hv
  obtain ⟨rfl, hsz, hP, hD0, hK⟩ := hv
  have hts := atoms_spec (ws := mws M) B0.pre
  have hown : s.vm.findClass M.1.cls = some m.cls := findClass_of_methodNamed B0.named
  have hnm : meth.name = M.1.name := (name_of_methodNamed B0.named B0.method).1
  have hlocks := B0.notSynchronized
  have hr := B0.returns
  subst hsz
  have hD := hD0.self (sz := s.heap.size)
  have hl := lv_entry av (n := M.2.2.1) hn
  rw [lg_entry_eq]
  generalize (lg_sl av ++ List.replicate (M.2.2.1 - (lg_sl av).length) Slot.unset).toArray = lv at hl ⊢
  refine h l p e (rmC M.2.2.2.2 mc ms) s m _ below meth c (va_A ws s.heap.size) _ ⟨B0.exec, B0.bytes, hml, hown, fun w hw => hts w (List.mem_cons_of_mem _ hw), hK, fun q hq => Or.inr hq, ⟨Nat.le_refl _, Nat.le_refl _⟩, ⟨Nat.le_refl _, Nat.le_refl _⟩, hnm, ?_⟩ hK.1 s.heap [] lv hP hD va_S.rf hl
  intro r tys ws' H locs pc lv' cs sl hKr hK' hP' hD' hS' hc1 hc2 hcase
  refine W.widen (k := mc) (n := ms) hc1 hc2 ?_
  rcases hcase with ⟨v, rfl, hty, hd⟩ | ⟨rfl, hty, hd⟩
  · exact W.zret (ty := .int) B0.exec B0.bytes (hr.trans hty) rfl (fun t ht hW => ⟨⟨some (.int v), tys, ws', rfl, hKr, va_K.moved hW.alike hK', by rw [ht]; exact hP', hD'⟩, hS'.F ht⟩) hS'.2.2 hd
  · exact W.vret B0.exec B0.bytes (hr.trans hty) (fun t ht hW => ⟨⟨none, tys, ws', rfl, hKr, va_K.moved hW.alike hK', by rw [ht]; exact hP', hD'⟩, hS'.F ht⟩) hS'.2.2 hd
theorem lk_hs {lv : Array Slot} {nL i : Nat} {ls : List (Nat × Value)} {v : Value} (hl : lv_has lv nL ls) (h : lk i ls = some v) : lv[i]? = some (.val v) := hl.2.2 (i, v) (lk_mem h)
section
variable {B : BG} {M : MD} {mc ms : Nat} {K : Kw} {pc : Nat} {ls : List (Nat × Value)} {st : List Value} {tys : Tys} {ws : va_W} {cs sl : Nat}
theorem VC.go {pc' : Nat} {st' : List Value} (h : VC B M mc ms K pc' ls st' tys ws cs sl) (row : ∀ (l : Launch) (p : Program) (e : Env) (R : Room) (s : State) (m : MethodId) (args : Array Value) (below : List Frame) (meth : Method) (c : Code) (Q : State → Prop) (H : Heap) (locs : List Loc) (lv : Array Slot), p.tables.exec = Jvm.exec → c.code = M.2.1 → lv_has lv M.2.2.1 ls → W p l e R s m args below meth c H locs cs sl Q (F0 m pc' lv st') → W p l e R s m args below meth c H locs cs sl Q (F0 m pc lv st)) : VC B M mc ms K pc ls st tys ws cs sl :=
  fun l p e R s m args below meth c A Q C hK H locs lv hP hD hS hl => row l p e R s m args below meth c Q H locs lv C.1 C.2.1 hl (h l p e R s m args below meth c A Q C hK H locs lv hP hD hS hl)
theorem VC.sub {ls' : List (Nat × Value)} (h : VC B M mc ms K pc ls' st tys ws cs sl) (ks : List Nat) (hs : lv_pick ls ks = ls') : VC B M mc ms K pc ls st tys ws cs sl :=
  fun l p e R s m args below meth c A Q C hK H locs lv hP hD hS hl => h l p e R s m args below meth c A Q C hK H locs lv hP hD hS (lv_sub hl ks hs)
theorem vc_iconst {n : Int} {v : Int32} (hd : decode M.2.1 pc = .ok (.iconst n, 1)) (hv : Int32.ofInt n = v) (h : VC B M mc ms K (pc + 1) ls (.int v :: st) tys ws cs sl) : VC B M mc ms K pc ls st tys ws cs sl := h.go (fun l p e R s m args below meth c Q H locs lv hx hb hl k => lv_iconst hx hb hd hv k)
theorem vc_bipush {n : Int} {v : Int32} (hd : decode M.2.1 pc = .ok (.bipush n, 2)) (hv : (Int8.ofInt n).toInt32 = v) (h : VC B M mc ms K (pc + 2) ls (.int v :: st) tys ws cs sl) : VC B M mc ms K pc ls st tys ws cs sl := h.go (fun l p e R s m args below meth c Q H locs lv hx hb hl k => lv_bipush hx hb hd hv k)
theorem vc_sipush {n : Int} {v : Int32} (hd : decode M.2.1 pc = .ok (.sipush n, 3)) (hv : (Int16.ofInt n).toInt32 = v) (h : VC B M mc ms K (pc + 3) ls (.int v :: st) tys ws cs sl) : VC B M mc ms K pc ls st tys ws cs sl := h.go (fun l p e R s m args below meth c Q H locs lv hx hb hl k => lv_sipush hx hb hd hv k)
theorem vc_lconst {n : Fin 2} {v : Int64} (hd : decode M.2.1 pc = .ok (.lconst n, 1)) (hv : Int64.ofNat (n : Nat) = v) (h : VC B M mc ms K (pc + 1) ls (.long v :: st) tys ws cs sl) : VC B M mc ms K pc ls st tys ws cs sl := h.go (fun l p e R s m args below meth c Q H locs lv hx hb hl k => lv_lconst hx hb hd hv k)
theorem vc_iload_n {i : Nat} {k : Fin 4} {v : Int32} (hd : decode M.2.1 pc = .ok (.iload_n k, 1)) (hi : (k : Nat) = i) (hv : lk i ls = some (.int v)) (h : VC B M mc ms K (pc + 1) ls (.int v :: st) tys ws cs sl) : VC B M mc ms K pc ls st tys ws cs sl := h.go (fun l p e R s m args below meth c Q H locs lv hx hb hl k => lv_iload_n hx hb hd hi (lk_hs hl hv) k)
theorem vc_iload {i : Nat} {v : Int32} (hd : decode M.2.1 pc = .ok (.iload i, 2)) (hv : lk i ls = some (.int v)) (h : VC B M mc ms K (pc + 2) ls (.int v :: st) tys ws cs sl) : VC B M mc ms K pc ls st tys ws cs sl := h.go (fun l p e R s m args below meth c Q H locs lv hx hb hl k => lv_iload hx hb hd (lk_hs hl hv) k)
theorem vc_aload_n {i a : Nat} {k : Fin 4} (hd : decode M.2.1 pc = .ok (.aload_n k, 1)) (hi : (k : Nat) = i) (hv : lk i ls = some (.ref a)) (h : VC B M mc ms K (pc + 1) ls (.ref a :: st) tys ws cs sl) : VC B M mc ms K pc ls st tys ws cs sl := h.go (fun l p e R s m args below meth c Q H locs lv hx hb hl k => lv_aload_n hx hb hd hi (lk_hs hl hv) k)
theorem vc_istore_n {i : Nat} {k : Fin 4} {x : Int32} {ls' : List (Nat × Value)} (hd : decode M.2.1 pc = .ok (.istore_n k, 1)) (hi : (k : Nat) = i) (hn : i < M.2.2.1) (hls : (i, Value.int x) :: ls.filter (fun q => !(q.1 == i) && !(q.1 + 1 == i && q.2.category == 2)) = ls') (h : VC B M mc ms K (pc + 1) ls' st tys ws cs sl) : VC B M mc ms K pc ls (.int x :: st) tys ws cs sl :=
  fun l p e R s m args below meth c A Q C hK H locs lv hP hD hS hl => lv_istore_n C.1 C.2.1 hd hi hl hn hls (fun lv' hl' => h l p e R s m args below meth c A Q C hK H locs lv' hP hD hS hl')
theorem vc_istore {i : Nat} {x : Int32} {ls' : List (Nat × Value)} (hd : decode M.2.1 pc = .ok (.istore i, 2)) (hn : i < M.2.2.1) (hls : (i, Value.int x) :: ls.filter (fun q => !(q.1 == i) && !(q.1 + 1 == i && q.2.category == 2)) = ls') (h : VC B M mc ms K (pc + 2) ls' st tys ws cs sl) : VC B M mc ms K pc ls (.int x :: st) tys ws cs sl :=
  fun l p e R s m args below meth c A Q C hK H locs lv hP hD hS hl => lv_istore C.1 C.2.1 hd hl hn hls (fun lv' hl' => h l p e R s m args below meth c A Q C hK H locs lv' hP hD hS hl')
theorem vc_astore_n {i x : Nat} {k : Fin 4} {ls' : List (Nat × Value)} (hd : decode M.2.1 pc = .ok (.astore_n k, 1)) (hi : (k : Nat) = i) (hn : i < M.2.2.1) (hls : (i, Value.ref x) :: ls.filter (fun q => !(q.1 == i) && !(q.1 + 1 == i && q.2.category == 2)) = ls') (h : VC B M mc ms K (pc + 1) ls' st tys ws cs sl) : VC B M mc ms K pc ls (.ref x :: st) tys ws cs sl :=
  fun l p e R s m args below meth c A Q C hK H locs lv hP hD hS hl => lv_astore_n C.1 C.2.1 hd hi hl hn hls (fun lv' hl' => h l p e R s m args below meth c A Q C hK H locs lv' hP hD hS hl')
theorem vc_iinc {i k : Nat} {n : Int} {x v : Int32} {ls' : List (Nat × Value)} (hd : decode M.2.1 pc = .ok (.iinc i n, 3)) (hk : ls[k]? = some (i, .int x)) (hv : x + Int32.ofInt n = v) (hn : i < M.2.2.1) (hls : (i, Value.int v) :: ls.filter (fun q => !(q.1 == i) && !(q.1 + 1 == i && q.2.category == 2)) = ls') (h : VC B M mc ms K (pc + 3) ls' st tys ws cs sl) : VC B M mc ms K pc ls st tys ws cs sl :=
  fun l p e R s m args below meth c A Q C hK H locs lv hP hD hS hl => lv_iinc C.1 C.2.1 hd hl hk hv hn hls (fun lv' hl' => h l p e R s m args below meth c A Q C hK H locs lv' hP hD hS hl')
theorem vc_iadd {x y : Int32} (hd : decode M.2.1 pc = .ok (.iadd, 1)) (h : VC B M mc ms K (pc + 1) ls (.int (x + y) :: st) tys ws cs sl) : VC B M mc ms K pc ls (.int y :: .int x :: st) tys ws cs sl := h.go (fun l p e R s m args below meth c Q H locs lv hx hb hl k => lv_iadd hx hb hd k)
theorem vc_isub {x y : Int32} (hd : decode M.2.1 pc = .ok (.isub, 1)) (h : VC B M mc ms K (pc + 1) ls (.int (x - y) :: st) tys ws cs sl) : VC B M mc ms K pc ls (.int y :: .int x :: st) tys ws cs sl := h.go (fun l p e R s m args below meth c Q H locs lv hx hb hl k => lv_isub hx hb hd k)
theorem vc_imul {x y : Int32} (hd : decode M.2.1 pc = .ok (.imul, 1)) (h : VC B M mc ms K (pc + 1) ls (.int (x * y) :: st) tys ws cs sl) : VC B M mc ms K pc ls (.int y :: .int x :: st) tys ws cs sl := h.go (fun l p e R s m args below meth c Q H locs lv hx hb hl k => lv_imul hx hb hd k)
theorem vc_idiv {x y : Int32} (hd : decode M.2.1 pc = .ok (.idiv, 1)) (hy : ¬ y = 0) (h : VC B M mc ms K (pc + 1) ls (.int (x / y) :: st) tys ws cs sl) : VC B M mc ms K pc ls (.int y :: .int x :: st) tys ws cs sl := h.go (fun l p e R s m args below meth c Q H locs lv hx hb hl k => lv_idiv hx hb hd hy k)
theorem vc_dup {v : Value} (hd : decode M.2.1 pc = .ok (.dup, 1)) (hv : v.category = 1) (h : VC B M mc ms K (pc + 1) ls (v :: v :: st) tys ws cs sl) : VC B M mc ms K pc ls (v :: st) tys ws cs sl := h.go (fun l p e R s m args below meth c Q H locs lv hx hb hl k => lv_dup hx hb hd hv k)
theorem vc_goto {off : Int} {tgt : Nat} (hd : decode M.2.1 pc = .ok (.goto off, 3)) (ht : (pc : Int) + off = (tgt : Int)) (h : VC B M mc ms K tgt ls st tys ws cs sl) : VC B M mc ms K pc ls st tys ws cs sl := h.go (fun l p e R s m args below meth c Q H locs lv hx hb hl k => lv_goto hx hb hd ht k)
theorem vc_cgt {x y : Int32} {off : Int} {tgt : Nat} (hd : decode M.2.1 pc = .ok (.if_icmp .gt off, 3)) (ht : (pc : Int) + off = (tgt : Int)) (h1 : y < x → VC B M mc ms K tgt ls st tys ws cs sl) (h2 : ¬ y < x → VC B M mc ms K (pc + 3) ls st tys ws cs sl) : VC B M mc ms K pc ls (.int y :: .int x :: st) tys ws cs sl :=
  fun l p e R s m args below meth c A Q C hK H locs lv hP hD hS hl => lv_icmp_gt C.1 C.2.1 hd ht (fun q => h1 q l p e R s m args below meth c A Q C hK H locs lv hP hD hS hl) (fun q => h2 q l p e R s m args below meth c A Q C hK H locs lv hP hD hS hl)
theorem vc_cge {x y : Int32} {off : Int} {tgt : Nat} (hd : decode M.2.1 pc = .ok (.if_icmp .ge off, 3)) (ht : (pc : Int) + off = (tgt : Int)) (h1 : y ≤ x → VC B M mc ms K tgt ls st tys ws cs sl) (h2 : ¬ y ≤ x → VC B M mc ms K (pc + 3) ls st tys ws cs sl) : VC B M mc ms K pc ls (.int y :: .int x :: st) tys ws cs sl :=
  fun l p e R s m args below meth c A Q C hK H locs lv hP hD hS hl => lv_icmp_ge C.1 C.2.1 hd ht (fun q => h1 q l p e R s m args below meth c A Q C hK H locs lv hP hD hS hl) (fun q => h2 q l p e R s m args below meth c A Q C hK H locs lv hP hD hS hl)
/-! cells -/
theorem vc_objInit {idx a : Nat} (hd : decode M.2.1 pc = .ok (.invokespecial idx, 3)) (h1 : Cond.methodLink M.1.cls idx Lib.objectInit ∈ lw_tbl) (h2 : Cond.instanceMethod Lib.objectInit ∈ lw_tbl) (h3 : Cond.code Lib.objectInit ⟨#[0xb1]⟩ 1 none ∈ lw_tbl) (hM : 1 ≤ M.2.2.2.2) (hst : wsum st ≤ 8) (h : VC B M mc ms K (pc + 3) ls st tys ws cs sl) : VC B M mc ms K pc ls (.ref a :: st) tys ws cs sl := by
  intro l p e R s m args below meth c A Q C hK H locs lv hP hD hS hl
  have hr := C.2.2.2.2.2.2.2.1
  have hws : (st.map fun v => v.category).sum = wsum st := by
    clear h hst
    induction st with
    | nil => rfl
    | cons v r ih => simp only [List.map_cons, List.sum_cons, wsum, ih]
  refine W.objInit C.1 C.2.1 C.2.2.2.1 (C.2.2.2.2.1 _ (tt_mem h1 rfl)) (C.2.2.2.2.1 _ (tt_mem h2 rfl)) (C.2.2.2.2.1 _ (tt_mem h3 rfl)) rfl (by rw [C.2.2.1]; exact hl.1) rfl hd (by omega) ?_ ?_
  · show 2 * 0 + _ + 12 ≤ R.locals
    rw [hws]
    omega
  · exact W.eq (g2 := F0 m (pc + 3) lv st) rfl (h l p e R s m args below meth c A Q C hK H locs lv hP hD hS hl)
/-- a new row of ints, longs, bools: its class is known -/
theorem vc_newa {atype : ArrayType} {ty : FieldType} {cT : ClassId} {t0 N' : Nat} {n : Int32} {a0 : vp_A} (hty : newarray.typeOf atype = ty) (hw : Cond.arrayClass (newarray.typeOf atype) ∈ lw_tbl) (ht : (t3 B)[t0]? = some (cT, ty)) (hp : ∀ (U : State) (cA : ClassId), va_RA U cA ty ↔ U.vm.findClass ("[" ++ ty.toString) = some cA) (ha : ∀ cA : ClassId, vp_cell cA a0 = arrV cA N' (fun _ => defaultValue ty)) (hn : ¬ n < 0) (hN : n.toNatClampNeg = N') (hb : N' * componentBytes ty ≤ 536870912) (hc1 : cs + 1 ≤ mc) (hc2 : sl + N' ≤ ms) (hd : decode M.2.1 pc = .ok (.newarray atype, 2))
    (h : ∀ q : Nat, VC B M mc ms K (pc + 2) ls (.ref q :: st) tys (ws ++ [(q, .inl (cT, a0))]) (cs + 1) (sl + N')) : VC B M mc ms K pc ls (.int n :: st) tys ws cs sl := by
  intro l p e R s m args below meth c A Q C hK H locs lv hP hD hS hl
  have hr := C.2.2.2.2.2.2.2.2.1
  refine va_newa (tys := tys) C.1 C.2.1 (C.2.2.2.2.1 _ (tt_mem hw rfl)) hty hK hP hD hS C.2.2.2.2.2.2.1 ha hn hN hb (by omega) (by omega) hd (fun q cA H1 hK1 hP1 hD1 hS1 => ?_)
  have e1 := (hp s cA).mp (hK1.2 tys.length (cA, ty) (by rw [List.getElem?_append_right (Nat.le_refl _), Nat.sub_self]; rfl)).2
  have e2 := (hp s cT).mp (C.2.2.2.2.2.1.1.2 t0 (cT, ty) ht).2
  have e3 : cA = cT := Option.some.inj (e1.symm.trans e2)
  subst e3
  exact h q l p e R s m args below meth c A Q C hK H1 locs lv hP1 hD1 hS1 hl
theorem vc_newq {index N' : Nat} {n : Int32} (hw : Cond.classLink M.1.cls index "DreamShares$Sheet" ∈ lw_tbl) (hn : ¬ n < 0) (hN : n.toNatClampNeg = N') (hb : N' * 4 ≤ 536870912) (hc1 : cs + 1 ≤ mc) (hc2 : sl + N' ≤ ms) (hd : decode M.2.1 pc = .ok (.anewarray index, 3))
    (h : ∀ (q : Nat) (cA : ClassId), VC B M mc ms K (pc + 3) ls (.ref q :: st) (tys ++ [(cA, .object "DreamShares$Sheet")]) (ws ++ [(q, .inl (cA, N', .inr (.inr (.inr (.inr (fun _ => none))))))]) (cs + 1) (sl + N')) : VC B M mc ms K pc ls (.int n :: st) tys ws cs sl := by
  intro l p e R s m args below meth c A Q C hK H locs lv hP hD hS hl
  have hr := C.2.2.2.2.2.2.2.2.1
  refine va_newq (tys := tys) C.1 C.2.1 C.2.2.2.1 (C.2.2.2.2.1 _ (tt_mem hw rfl)) C.2.2.2.2.2.1.2.2.2.2.2 hK hP hD hS C.2.2.2.2.2.2.1 hn hN hb (by omega) (by omega) hd (fun q cA H1 hK1 hP1 hD1 hS1 => ?_)
  exact h q cA l p e R s m args below meth c A Q C hK1 H1 locs lv hP1 hD1 hS1 hl
theorem vc_new {index ci N : Nat} {Cn : String} {T : u_T} {ty : Nat → FieldType} {fs : List Value} (hin : ∀ w ∈ u_ws Cn T N, w ∈ tt) (hty : ∀ k, k < N → parseFieldDescriptor (T k).2.2.1 = some (ty k)) (hw : Cond.classLink M.1.cls index Cn ∈ lw_tbl) (hw2 : Cond.instantiable Cn N ∈ lw_tbl) (hw3 : Cond.initialized Cn ∈ lw_tbl) (hc : vwCl[ci]? = some (Cn, T, N)) (hfs : ∀ j, j < N → defaultValue (ty j) = vp_V fs j) (hc1 : cs + 1 ≤ mc) (hc2 : sl + N ≤ ms) (hd : decode M.2.1 pc = .ok (.new index, 3))
    (h : ∀ q : Nat, VC B M mc ms K (pc + 3) ls (.ref q :: st) tys (ws ++ [(q, .inr (ci, fs))]) (cs + 1) (sl + N)) : VC B M mc ms K pc ls st tys ws cs sl := by
  intro l p e R s m args below meth c A Q C hK H locs lv hP hD hS hl
  have hr := C.2.2.2.2.2.2.2.2.1
  refine va_new C.1 C.2.1 C.2.2.2.2.1 hin ty hty C.2.2.2.1 (C.2.2.2.2.1 _ (tt_mem hw rfl)) (C.2.2.2.2.1 _ (tt_mem hw2 rfl)) (C.2.2.2.2.1 _ (tt_mem hw3 rfl)) hK hP hD hS C.2.2.2.2.2.2.1 hc hfs (by omega) (by omega) hd (fun q H1 hP1 hD1 hS1 => ?_)
  exact h q l p e R s m args below meth c A Q C hK H1 locs lv hP1 hD1 hS1 hl
theorem vc_put {index ci N k q0 a : Nat} {Cn : String} {T : u_T} {ty0 : Nat → FieldType} {ty : FieldType} {fs : List Value} {v : Value} (hin : ∀ w ∈ u_ws Cn T N, w ∈ tt) (hty : ∀ k, k < N → parseFieldDescriptor (T k).2.2.1 = some (ty0 k)) (hnm : ∀ a, a < N → ∀ b, b < N → a ≠ b → (T a).2.1 ≠ (T b).2.1) (he : ws[q0]? = some (a, .inr (ci, fs))) (hc : vwCl[ci]? = some (Cn, T, N)) (hk : k < N) (hw : Cond.fieldLink M.1.cls index (T k).1 (T k).2.1 (T k).2.2.1 ∈ lw_tbl) (hf : (T k).2.2.2 = false ∨ ((T k).2.2.2 = true ∧ M.1.name = "<init>" ∧ (T k).1 = M.1.cls)) (hdd : parseFieldDescriptor (T k).2.2.1 = some ty) (hn : narrow ty v = v) (hfit : fits ty v = true) (hl0 : k < fs.length) (hd : decode M.2.1 pc = .ok (.putfield index, 3))
    (h : VC B M mc ms K (pc + 3) ls st tys (ws.set q0 (a, .inr (ci, fs.set k v))) cs sl) : VC B M mc ms K pc ls (v :: .ref a :: st) tys ws cs sl := by
  intro l p e R s m args below meth c A Q C hK H locs lv hP hD hS hl
  rcases hf with hf | ⟨hf, hi, ho⟩
  · exact va_put C.1 C.2.1 C.2.2.2.2.1 hin ty0 hty hnm C.2.2.2.1 hK hP hD hS q0 he hc k hk (C.2.2.2.2.1 _ (tt_mem hw rfl)) (fun _ q => q) hf hdd hn hfit hl0 hd (fun H1 locs1 hP1 hD1 hS1 => h l p e R s m args below meth c A Q C hK H1 locs1 lv hP1 hD1 hS1 hl)
  · exact va_putF C.1 C.2.1 C.2.2.2.2.1 hin ty0 hty hnm C.2.2.2.1 hK hP hD hS q0 he hc k hk (C.2.2.2.2.1 _ (tt_mem hw rfl)) (fun _ q => q) hf (C.2.2.2.2.2.2.2.2.2.1.trans hi) ho hdd hn hfit hl0 hd (fun H1 locs1 hP1 hD1 hS1 => h l p e R s m args below meth c A Q C hK H1 locs1 lv hP1 hD1 hS1 hl)
theorem vcc_get {index ci N k q0 a : Nat} {Cn : String} {T : u_T} {fs : List Value} {v : Value} (hin : ∀ w ∈ u_ws Cn T N, w ∈ tt) (he : ws[q0]? = some (a, .inr (ci, fs))) (hc : vwCl[ci]? = some (Cn, T, N)) (hk : k < N) (hw : Cond.fieldLink M.1.cls index (T k).1 (T k).2.1 (T k).2.2.1 ∈ lw_tbl) (hv : fs[k]? = some v) (hd : decode M.2.1 pc = .ok (.getfield index, 3))
    (h : VC B M mc ms K (pc + 3) ls (v :: st) tys ws cs sl) : VC B M mc ms K pc ls (.ref a :: st) tys ws cs sl :=
  fun l p e R s m args below meth c A Q C hK H locs lv hP hD hS hl => va_get C.1 C.2.1 C.2.2.2.2.1 hin C.2.2.2.1 hK hP q0 he hc k hk (C.2.2.2.2.1 _ (tt_mem hw rfl)) (fun _ q => q) hv hd (h l p e R s m args below meth c A Q C hK H locs lv hP hD hS hl)
theorem vc_iast {q0 a n : Nat} {f : Nat → Int32} {i x : Int32} (he : ws[q0]? = some (a, .inl (gI B, n, .inl f))) (hin : vp_in i n) (hd : decode M.2.1 pc = .ok (.iastore, 1))
    (h : VC B M mc ms K (pc + 1) ls st tys (ws.set q0 (a, .inl (gI B, n, .inl (upd f i.toNatClampNeg x)))) cs sl) : VC B M mc ms K pc ls (.int x :: .int i :: .ref a :: st) tys ws cs sl :=
  fun l p e R s m args below meth c A Q C hK H locs lv hP hD hS hl => va_iast (tys := t3 B) C.1 C.2.1 C.2.2.2.2.2.1.1 hP hD hS q0 0 he rfl hin hd (fun H1 locs1 hP1 hD1 hS1 => h l p e R s m args below meth c A Q C hK H1 locs1 lv hP1 hD1 hS1 hl)
theorem vc_aast {q0 t0 qk ci a n v : Nat} {cA : ClassId} {r : vw_C} {vs : List Value} {f : Nat → Option Nat} {i : Int32} (he : ws[q0]? = some (a, .inl (cA, n, .inr (.inr (.inr (.inr f)))))) (ht : tys[t0]? = some (cA, .object r.1)) (hv : ws[qk]? = some (v, .inr (ci, vs))) (hc : vwCl[ci]? = some r) (hin : vp_in i n) (hd : decode M.2.1 pc = .ok (.aastore, 1))
    (h : VC B M mc ms K (pc + 1) ls st tys (ws.set q0 (a, .inl (cA, n, .inr (.inr (.inr (.inr (va_up f i.toNatClampNeg (some v)))))))) cs sl) : VC B M mc ms K pc ls (.ref v :: .int i :: .ref a :: st) tys ws cs sl :=
  fun l p e R s m args below meth c A Q C hK H locs lv hP hD hS hl => va_astq (tys := tys) C.1 C.2.1 hK hP hD hS q0 t0 qk ci he ht hv hc hin hd (fun H1 locs1 hP1 hD1 hS1 => h l p e R s m args below meth c A Q C hK H1 locs1 lv hP1 hD1 hS1 hl)
theorem vc_gstN {index : Nat} (hd : decode M.2.1 pc = .ok (.getstatic index, 3)) (hw : Cond.fieldLinkNest M.1.cls index "DreamShares" "START" "[I" "DreamShares" ∈ nestL) (h : VC B M mc ms K (pc + 3) ls (.ref (gB B) :: st) tys ws cs sl) : VC B M mc ms K pc ls st tys ws cs sl :=
  fun l p e R s m args below meth c A Q C hK H locs lv hP hD hS hl => va_getsN C.1 C.2.1 C.2.2.2.2.2.1.2.1 hS C.2.2.2.1 (va_Nw.use rfl (C.2.2.2.2.2.1.2.2.2.1 _ hw)) (fun _ q => q) hd (h l p e R s m args below meth c A Q C hK H locs lv hP hD hS hl)
theorem vc_sald {i : Int32} (hin : vp_in i 8) (hd : decode M.2.1 pc = .ok (.iaload, 1)) (h : VC B M mc ms K (pc + 1) ls (.int (startf i.toNatClampNeg) :: st) tys ws cs sl) : VC B M mc ms K pc ls (.int i :: .ref (gB B) :: st) tys ws cs sl :=
  fun l p e R s m args below meth c A Q C hK H locs lv hP hD hS hl => va_ti C.1 C.2.1 C.2.2.2.2.2.1.2.2.1 hS hin rfl hd (h l p e R s m args below meth c A Q C hK H locs lv hP hD hS hl)
theorem vc_vret (hd : decode M.2.1 pc = .ok (.return_, 1)) (hr : M.2.2.2.1 = none) (hc1 : cs ≤ mc) (hc2 : sl ≤ ms) (h : K none tys ws) : VC B M mc ms K pc ls [] tys ws cs sl :=
  fun l p e R s m args below meth c A Q C hK H locs lv hP hD hS hl => C.2.2.2.2.2.2.2.2.2.2 none tys ws H locs pc lv cs sl h hK hP hD hS hc1 hc2 (Or.inr ⟨rfl, hr, hd⟩)
theorem vc_iret {v : Int32} (hd : decode M.2.1 pc = .ok (.ireturn, 1)) (hr : M.2.2.2.1 = some .int) (hc1 : cs ≤ mc) (hc2 : sl ≤ ms) (h : K (some (.int v)) tys ws) : VC B M mc ms K pc ls [.int v] tys ws cs sl :=
  fun l p e R s m args below meth c A Q C hK H locs lv hP hD hS hl => C.2.2.2.2.2.2.2.2.2.2 (some (.int v)) tys ws H locs pc lv cs sl h hK hP hD hS hc1 hc2 (Or.inl ⟨v, rfl, hr, hd⟩)
end
