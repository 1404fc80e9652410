/-! ===== part 03: the steps, each with its row of the kit ===== -/
def lk (i : Nat) : List (Nat × Value) → Option Value
  | [] => none
  | (j, v) :: r => if i = j then some v else lk i r
theorem lk_mem {i : Nat} {v : Value} : ∀ {ls : List (Nat × Value)}, lk i ls = some v → (i, v) ∈ ls := by
  intro ls
  induction ls with
  | nil => intro h; cases h
  | cons q r ih =>
    intro h
    obtain ⟨j, u⟩ := q
    unfold lk at h
    split at h
    · rename_i e
      cases h
      subst e
      exact List.mem_cons_self
    · exact List.mem_cons_of_mem _ (ih h)
theorem lk_has {E : Ev} {lv : Array Slot} {nL i : Nat} {ls : List (Nat × Value)} {v : Value} (hl : lv_has lv nL (ls.map (cv E))) (h : lk i ls = some v) : lv[i]? = some (.val (conc E v)) := hl.2.2 (i, conc E v) (List.mem_map.mpr ⟨(i, v), lk_mem h, rfl⟩)
def rm1 (i : Nat) : List (Nat × Value) → List (Nat × Value)
  | [] => []
  | (j, v) :: r => if j = i then rm1 i r else if j + 1 = i then (if v.category = 2 then rm1 i r else (j, v) :: rm1 i r) else (j, v) :: rm1 i r
def rm2 (i : Nat) : List (Nat × Value) → List (Nat × Value)
  | [] => []
  | (j, v) :: r => if j = i then rm2 i r else if j = i + 1 then rm2 i r else if j + 1 = i then (if v.category = 2 then rm2 i r else (j, v) :: rm2 i r) else (j, v) :: rm2 i r
def st1 (i : Nat) (v : Value) (ls : List (Nat × Value)) : List (Nat × Value) := (i, v) :: rm1 i ls
def st2 (i : Nat) (v : Value) (ls : List (Nat × Value)) : List (Nat × Value) := (i, v) :: rm2 i ls
theorem rm1_eq (E : Ev) (i : Nat) : ∀ ls : List (Nat × Value), (ls.map (cv E)).filter (fun q => !(q.1 == i) && !(q.1 + 1 == i && q.2.category == 2)) = (rm1 i ls).map (cv E) := by
  intro ls
  induction ls with
  | nil => rfl
  | cons q r ih =>
    obtain ⟨j, v⟩ := q
    unfold rm1
    simp only [List.map_cons, List.filter_cons, cv, conc_cat]
    rw [ih]
    by_cases h1 : j = i
    · simp [h1]
    · by_cases h2 : j + 1 = i
      · by_cases h3 : v.category = 2
        · simp [h1, h2, h3]
        · simp [h1, h2, h3, cv]
      · simp [h1, h2, cv]
theorem rm2_eq (E : Ev) (i : Nat) : ∀ ls : List (Nat × Value), (ls.map (cv E)).filter (fun q => !(q.1 == i) && (!(q.1 == i + 1) && !(q.1 + 1 == i && q.2.category == 2))) = (rm2 i ls).map (cv E) := by
  intro ls
  induction ls with
  | nil => rfl
  | cons q r ih =>
    obtain ⟨j, v⟩ := q
    unfold rm2
    simp only [List.map_cons, List.filter_cons, cv, conc_cat]
    rw [ih]
    by_cases h1 : j = i
    · simp [h1]
    · by_cases h0 : j = i + 1
      · simp [h0]
      · by_cases h2 : j + 1 = i
        · by_cases h3 : v.category = 2
          · simp [h0, h1, h2, h3]
          · simp [h0, h1, h2, h3, cv]
        · simp [h0, h1, h2, cv]
section
variable {M : MD} {X : Ev → (Nat → Prop) → State → Prop} {pc : Nat}
theorem snd_bad : Snd M X pc (fun _ _ _ _ _ _ => False) := fun _ _ _ _ _ _ h => h.elim
def bad : Ins := fun _ _ _ _ _ _ => False
theorem snd_node {k : Nat} {a b : Ins} (ha : Snd M X pc a) (hb : Snd M X pc b) : Snd M X pc (if pc < k then a else b) := by
  split
  · exact ha
  · exact hb
theorem snd_leaf {k : Nat} {a : Ins} (h : Snd M X k a) : Snd M X pc (if pc = k then a else bad) := by
  split
  · rename_i e
    rw [e]
    exact h
  · exact snd_bad
/-- what a step needs of the context -/
theorem VW.go1 {K : Kr} {pc pc' : Nat} {ls : List (Nat × Value)} {st st' : List Value} {σ : St} (h : VW M X K pc' ls st' σ)
    (t : ∀ (l : Launch) (E : Ev) (p : Program) (e : Env) (R : Room) (s : State) (m : MethodId) (args : Array Value) (below : List Frame) (meth : Method) (c : Code) (cs sl : Nat) (Q : State → Prop) (H : Heap) (locs : List Loc) (lv : Array Slot), p.tables.exec = Jvm.exec → c.code = M.2.1 → W p l e R s m args below meth c H locs cs sl Q (F0 m pc' lv (st'.map (conc E))) → W p l e R s m args below meth c H locs cs sl Q (F0 m pc lv (st.map (conc E)))) : VW M X K pc ls st σ :=
  fun l E p e R s m args below meth c A cs sl Q C H locs lv hP hS hl => t l E p e R s m args below meth c cs sl Q H locs lv C.1 C.2.1 (h l E p e R s m args below meth c A cs sl Q C H locs lv hP hS hl)
theorem VW.go2 {K : Kr} {pc pc1 pc2 : Nat} {c1 c2 : Prop} {ls : List (Nat × Value)} {st st1 st2 : List Value} {σ : St} (h1 : c1 → VW M X K pc1 ls st1 σ) (h2 : c2 → VW M X K pc2 ls st2 σ)
    (t : ∀ (l : Launch) (E : Ev) (p : Program) (e : Env) (R : Room) (s : State) (m : MethodId) (args : Array Value) (below : List Frame) (meth : Method) (c : Code) (cs sl : Nat) (Q : State → Prop) (H : Heap) (locs : List Loc) (lv : Array Slot), p.tables.exec = Jvm.exec → c.code = M.2.1 → (c1 → W p l e R s m args below meth c H locs cs sl Q (F0 m pc1 lv (st1.map (conc E)))) → (c2 → W p l e R s m args below meth c H locs cs sl Q (F0 m pc2 lv (st2.map (conc E)))) → W p l e R s m args below meth c H locs cs sl Q (F0 m pc lv (st.map (conc E)))) : VW M X K pc ls st σ :=
  fun l E p e R s m args below meth c A cs sl Q C H locs lv hP hS hl => t l E p e R s m args below meth c cs sl Q H locs lv C.1 C.2.1 (fun q => h1 q l E p e R s m args below meth c A cs sl Q C H locs lv hP hS hl) (fun q => h2 q l E p e R s m args below meth c A cs sl Q C H locs lv hP hS hl)

def i_const (v : Int32) (n : Nat) : Ins := fun nx _ pc ls st σ => nx (pc + n) ls (.int v :: st) σ
def i_lconst (v : Int64) (n : Nat) : Ins := fun nx _ pc ls st σ => nx (pc + n) ls (.long v :: st) σ
theorem snd_iconst {n : Int} {v : Int32} (hd : decode M.2.1 pc = .ok (.iconst n, 1)) (hv : Int32.ofInt n = v) : Snd M X pc (i_const v 1) := fun nx K hn ls st σ h => VW.go1 (hn _ _ _ _ h) (fun l E p e R s m args below meth c cs sl Q H locs lv hx hb k => lv_iconst hx hb hd hv k)
theorem snd_bipush {n : Int} {v : Int32} (hd : decode M.2.1 pc = .ok (.bipush n, 2)) (hv : (Int8.ofInt n).toInt32 = v) : Snd M X pc (i_const v 2) := fun nx K hn ls st σ h => VW.go1 (hn _ _ _ _ h) (fun l E p e R s m args below meth c cs sl Q H locs lv hx hb k => lv_bipush hx hb hd hv k)
theorem snd_sipush {n : Int} {v : Int32} (hd : decode M.2.1 pc = .ok (.sipush n, 3)) (hv : (Int16.ofInt n).toInt32 = v) : Snd M X pc (i_const v 3) := fun nx K hn ls st σ h => VW.go1 (hn _ _ _ _ h) (fun l E p e R s m args below meth c cs sl Q H locs lv hx hb k => lv_sipush hx hb hd hv k)
theorem snd_lconst {n : Fin 2} {v : Int64} (hd : decode M.2.1 pc = .ok (.lconst n, 1)) (hv : Int64.ofNat (n : Nat) = v) : Snd M X pc (i_lconst v 1) := fun nx K hn ls st σ h => VW.go1 (hn _ _ _ _ h) (fun l E p e R s m args below meth c cs sl Q H locs lv hx hb k => lv_lconst hx hb hd hv k)
theorem snd_ldc {v : Int32} {index : Nat} (hd : decode M.2.1 pc = .ok (.ldc index, 2)) (hw : Cond.constant M.1.cls index v ∈ lw_tbl) : Snd M X pc (i_const v 2) :=
  fun nx K hn ls st σ h l E p e R s m args below meth c A cs sl Q C H locs lv hP hS hl => lv_ldc C.1 C.2.1 C.2.2.2.1 (C.2.2.2.2.1 _ (tt_mem hw rfl)) hd (hn _ _ _ _ h l E p e R s m args below meth c A cs sl Q C H locs lv hP hS hl)
theorem snd_ldc_w {v : Int32} {index : Nat} (hd : decode M.2.1 pc = .ok (.ldc_w index, 3)) (hw : Cond.constant M.1.cls index v ∈ lw_tbl) : Snd M X pc (i_const v 3) :=
  fun nx K hn ls st σ h l E p e R s m args below meth c A cs sl Q C H locs lv hP hS hl => lv_ldcw C.1 C.2.1 C.2.2.2.1 (C.2.2.2.2.1 _ (tt_mem hw rfl)) hd (hn _ _ _ _ h l E p e R s m args below meth c A cs sl Q C H locs lv hP hS hl)
theorem snd_ldc2_w {v : Int64} {index : Nat} (hd : decode M.2.1 pc = .ok (.ldc2_w index, 3)) (hw : Cond.constantLong M.1.cls index v ∈ lw_tbl) : Snd M X pc (i_lconst v 3) :=
  fun nx K hn ls st σ h l E p e R s m args below meth c A cs sl Q C H locs lv hP hS hl => lv_ldc2 C.1 C.2.1 C.2.2.2.1 (C.2.2.2.2.1 _ (tt_mem hw rfl)) hd (hn _ _ _ _ h l E p e R s m args below meth c A cs sl Q C H locs lv hP hS hl)
def i_ild (i n : Nat) : Ins := fun nx _ pc ls st σ => match lk i ls with
  | some (.int x) => nx (pc + n) ls (.int x :: st) σ
  | _ => False
theorem snd_iload_n {i : Nat} {k : Fin 4} (hd : decode M.2.1 pc = .ok (.iload_n k, 1)) (hi : (k : Nat) = i) : Snd M X pc (i_ild i 1) := by
  intro nx K hn ls st σ h
  unfold i_ild at h
  split at h
  · rename_i x e
    intro l E p e' R s m args below meth c A cs sl Q C H locs lv hP hS hl
    exact lv_iload_n C.1 C.2.1 hd hi (lk_has hl e) (hn _ _ _ _ h l E p e' R s m args below meth c A cs sl Q C H locs lv hP hS hl)
  · exact h.elim
theorem snd_iload {i : Nat} (hd : decode M.2.1 pc = .ok (.iload i, 2)) : Snd M X pc (i_ild i 2) := by
  intro nx K hn ls st σ h
  unfold i_ild at h
  split at h
  · rename_i x e
    intro l E p e' R s m args below meth c A cs sl Q C H locs lv hP hS hl
    exact lv_iload C.1 C.2.1 hd (lk_has hl e) (hn _ _ _ _ h l E p e' R s m args below meth c A cs sl Q C H locs lv hP hS hl)
  · exact h.elim
def i_lld (i n : Nat) : Ins := fun nx _ pc ls st σ => match lk i ls with
  | some (.long x) => nx (pc + n) ls (.long x :: st) σ
  | _ => False
theorem snd_lload_n {i : Nat} {k : Fin 4} (hd : decode M.2.1 pc = .ok (.lload_n k, 1)) (hi : (k : Nat) = i) : Snd M X pc (i_lld i 1) := by
  intro nx K hn ls st σ h
  unfold i_lld at h
  split at h
  · rename_i x e
    intro l E p e' R s m args below meth c A cs sl Q C H locs lv hP hS hl
    exact lv_lload_n C.1 C.2.1 hd hi (lk_has hl e) (hn _ _ _ _ h l E p e' R s m args below meth c A cs sl Q C H locs lv hP hS hl)
  · exact h.elim
theorem snd_lload {i : Nat} (hd : decode M.2.1 pc = .ok (.lload i, 2)) : Snd M X pc (i_lld i 2) := by
  intro nx K hn ls st σ h
  unfold i_lld at h
  split at h
  · rename_i x e
    intro l E p e' R s m args below meth c A cs sl Q C H locs lv hP hS hl
    exact lv_lload C.1 C.2.1 hd (lk_has hl e) (hn _ _ _ _ h l E p e' R s m args below meth c A cs sl Q C H locs lv hP hS hl)
  · exact h.elim
def i_ald (i n : Nat) : Ins := fun nx _ pc ls st σ => match lk i ls with
  | some (.ref x) => nx (pc + n) ls (.ref x :: st) σ
  | _ => False
theorem snd_aload_n {i : Nat} {k : Fin 4} (hd : decode M.2.1 pc = .ok (.aload_n k, 1)) (hi : (k : Nat) = i) : Snd M X pc (i_ald i 1) := by
  intro nx K hn ls st σ h
  unfold i_ald at h
  split at h
  · rename_i x e
    intro l E p e' R s m args below meth c A cs sl Q C H locs lv hP hS hl
    exact lv_aload_n C.1 C.2.1 hd hi (lk_has hl e) (hn _ _ _ _ h l E p e' R s m args below meth c A cs sl Q C H locs lv hP hS hl)
  · exact h.elim
theorem snd_aload {i : Nat} (hd : decode M.2.1 pc = .ok (.aload i, 2)) : Snd M X pc (i_ald i 2) := by
  intro nx K hn ls st σ h
  unfold i_ald at h
  split at h
  · rename_i x e
    intro l E p e' R s m args below meth c A cs sl Q C H locs lv hP hS hl
    exact lv_aload C.1 C.2.1 hd (lk_has hl e) (hn _ _ _ _ h l E p e' R s m args below meth c A cs sl Q C H locs lv hP hS hl)
  · exact h.elim
def i_ist (i n : Nat) : Ins := fun nx _ pc ls st σ => match st with
  | .int x :: r => nx (pc + n) (st1 i (.int x) ls) r σ
  | _ => False
theorem snd_istore_n {i : Nat} {k : Fin 4} (hd : decode M.2.1 pc = .ok (.istore_n k, 1)) (hi : (k : Nat) = i) (hb : i < M.2.2.1) : Snd M X pc (i_ist i 1) := by
  intro nx K hn ls st σ h
  unfold i_ist at h
  split at h
  · rename_i x r
    intro l E p e' R s m args below meth c A cs sl Q C H locs lv hP hS hl
    refine lv_istore_n C.1 C.2.1 hd hi hl hb (lv' := (st1 i (.int x) ls).map (cv E)) (by rw [rm1_eq]; rfl) (fun lv' hl' => ?_)
    exact hn _ _ _ _ h l E p e' R s m args below meth c A cs sl Q C H locs lv' hP hS hl'
  · exact h.elim
theorem snd_istore {i : Nat} (hd : decode M.2.1 pc = .ok (.istore i, 2)) (hb : i < M.2.2.1) : Snd M X pc (i_ist i 2) := by
  intro nx K hn ls st σ h
  unfold i_ist at h
  split at h
  · rename_i x r
    intro l E p e' R s m args below meth c A cs sl Q C H locs lv hP hS hl
    refine lv_istore C.1 C.2.1 hd hl hb (lv' := (st1 i (.int x) ls).map (cv E)) (by rw [rm1_eq]; rfl) (fun lv' hl' => ?_)
    exact hn _ _ _ _ h l E p e' R s m args below meth c A cs sl Q C H locs lv' hP hS hl'
  · exact h.elim
def i_lst (i n : Nat) : Ins := fun nx _ pc ls st σ => match st with
  | .long x :: r => nx (pc + n) (st2 i (.long x) ls) r σ
  | _ => False
theorem snd_lstore_n {i : Nat} {k : Fin 4} (hd : decode M.2.1 pc = .ok (.lstore_n k, 1)) (hi : (k : Nat) = i) (hb : i + 1 < M.2.2.1) : Snd M X pc (i_lst i 1) := by
  intro nx K hn ls st σ h
  unfold i_lst at h
  split at h
  · rename_i x r
    intro l E p e' R s m args below meth c A cs sl Q C H locs lv hP hS hl
    refine lv_lstore_n C.1 C.2.1 hd hi hl hb (lv' := (st2 i (.long x) ls).map (cv E)) (by rw [rm2_eq]; rfl) (fun lv' hl' => ?_)
    exact hn _ _ _ _ h l E p e' R s m args below meth c A cs sl Q C H locs lv' hP hS hl'
  · exact h.elim
theorem snd_lstore {i : Nat} (hd : decode M.2.1 pc = .ok (.lstore i, 2)) (hb : i + 1 < M.2.2.1) : Snd M X pc (i_lst i 2) := by
  intro nx K hn ls st σ h
  unfold i_lst at h
  split at h
  · rename_i x r
    intro l E p e' R s m args below meth c A cs sl Q C H locs lv hP hS hl
    refine lv_lstore C.1 C.2.1 hd hl hb (lv' := (st2 i (.long x) ls).map (cv E)) (by rw [rm2_eq]; rfl) (fun lv' hl' => ?_)
    exact hn _ _ _ _ h l E p e' R s m args below meth c A cs sl Q C H locs lv' hP hS hl'
  · exact h.elim
def i_ast (i n : Nat) : Ins := fun nx _ pc ls st σ => match st with
  | .ref x :: r => nx (pc + n) (st1 i (.ref x) ls) r σ
  | _ => False
theorem snd_astore_n {i : Nat} {k : Fin 4} (hd : decode M.2.1 pc = .ok (.astore_n k, 1)) (hi : (k : Nat) = i) (hb : i < M.2.2.1) : Snd M X pc (i_ast i 1) := by
  intro nx K hn ls st σ h
  unfold i_ast at h
  split at h
  · rename_i x r
    intro l E p e' R s m args below meth c A cs sl Q C H locs lv hP hS hl
    refine lv_astore_n C.1 C.2.1 hd hi hl hb (lv' := (st1 i (.ref x) ls).map (cv E)) (by rw [rm1_eq]; rfl) (fun lv' hl' => ?_)
    exact hn _ _ _ _ h l E p e' R s m args below meth c A cs sl Q C H locs lv' hP hS hl'
  · exact h.elim
theorem snd_astore {i : Nat} (hd : decode M.2.1 pc = .ok (.astore i, 2)) (hb : i < M.2.2.1) : Snd M X pc (i_ast i 2) := by
  intro nx K hn ls st σ h
  unfold i_ast at h
  split at h
  · rename_i x r
    intro l E p e' R s m args below meth c A cs sl Q C H locs lv hP hS hl
    refine lv_astore C.1 C.2.1 hd hl hb (lv' := (st1 i (.ref x) ls).map (cv E)) (by rw [rm1_eq]; rfl) (fun lv' hl' => ?_)
    exact hn _ _ _ _ h l E p e' R s m args below meth c A cs sl Q C H locs lv' hP hS hl'
  · exact h.elim
def i_iinc (i : Nat) (d : Int32) : Ins := fun nx _ pc ls st σ => match lk i ls with
  | some (.int x) => nx (pc + 3) (st1 i (.int (x + d)) ls) st σ
  | _ => False
theorem snd_iinc {i : Nat} {n : Int} {d : Int32} (hd : decode M.2.1 pc = .ok (.iinc i n, 3)) (hv : Int32.ofInt n = d) (hb : i < M.2.2.1) : Snd M X pc (i_iinc i d) := by
  intro nx K hn ls st σ h
  unfold i_iinc at h
  split at h
  · rename_i x e
    intro l E p e' R s m args below meth c A cs sl Q C H locs lv hP hS hl
    obtain ⟨k, hk⟩ := List.getElem?_of_mem (List.mem_map.mpr ⟨(i, .int x), lk_mem e, rfl⟩ : cv E (i, Value.int x) ∈ ls.map (cv E))
    refine lv_iinc (v := x + d) (lv' := (st1 i (.int (x + d)) ls).map (cv E)) C.1 C.2.1 hd hl (k := k) hk (by rw [hv]) hb (by rw [rm1_eq]; rfl) (fun lv' hl' => ?_)
    exact hn _ _ _ _ h l E p e' R s m args below meth c A cs sl Q C H locs lv' hP hS hl'
  · exact h.elim
def i_iadd : Ins := fun nx _ pc ls st σ => match st with
  | .int y :: .int x :: r => nx (pc + 1) ls (.int (x + y) :: r) σ
  | _ => False
theorem snd_iadd (hd : decode M.2.1 pc = .ok (.iadd, 1)) : Snd M X pc (i_iadd) := by
  intro nx K hn ls st σ h
  unfold i_iadd at h
  split at h
  · rename_i y x r
    exact VW.go1 (hn _ _ _ _ h) (fun l E p e R s m args below meth c cs sl Q H locs lv hx hb k => lv_iadd hx hb hd k)
  · exact h.elim
def i_isub : Ins := fun nx _ pc ls st σ => match st with
  | .int y :: .int x :: r => nx (pc + 1) ls (.int (x - y) :: r) σ
  | _ => False
theorem snd_isub (hd : decode M.2.1 pc = .ok (.isub, 1)) : Snd M X pc (i_isub) := by
  intro nx K hn ls st σ h
  unfold i_isub at h
  split at h
  · rename_i y x r
    exact VW.go1 (hn _ _ _ _ h) (fun l E p e R s m args below meth c cs sl Q H locs lv hx hb k => lv_isub hx hb hd k)
  · exact h.elim
def i_imul : Ins := fun nx _ pc ls st σ => match st with
  | .int y :: .int x :: r => nx (pc + 1) ls (.int (x * y) :: r) σ
  | _ => False
theorem snd_imul (hd : decode M.2.1 pc = .ok (.imul, 1)) : Snd M X pc (i_imul) := by
  intro nx K hn ls st σ h
  unfold i_imul at h
  split at h
  · rename_i y x r
    exact VW.go1 (hn _ _ _ _ h) (fun l E p e R s m args below meth c cs sl Q H locs lv hx hb k => lv_imul hx hb hd k)
  · exact h.elim
def i_iand : Ins := fun nx _ pc ls st σ => match st with
  | .int y :: .int x :: r => nx (pc + 1) ls (.int (x &&& y) :: r) σ
  | _ => False
theorem snd_iand (hd : decode M.2.1 pc = .ok (.iand, 1)) : Snd M X pc (i_iand) := by
  intro nx K hn ls st σ h
  unfold i_iand at h
  split at h
  · rename_i y x r
    exact VW.go1 (hn _ _ _ _ h) (fun l E p e R s m args below meth c cs sl Q H locs lv hx hb k => lv_iand hx hb hd k)
  · exact h.elim
def i_ior : Ins := fun nx _ pc ls st σ => match st with
  | .int y :: .int x :: r => nx (pc + 1) ls (.int (x ||| y) :: r) σ
  | _ => False
theorem snd_ior (hd : decode M.2.1 pc = .ok (.ior, 1)) : Snd M X pc (i_ior) := by
  intro nx K hn ls st σ h
  unfold i_ior at h
  split at h
  · rename_i y x r
    exact VW.go1 (hn _ _ _ _ h) (fun l E p e R s m args below meth c cs sl Q H locs lv hx hb k => lv_ior hx hb hd k)
  · exact h.elim
def i_ixor : Ins := fun nx _ pc ls st σ => match st with
  | .int y :: .int x :: r => nx (pc + 1) ls (.int (x ^^^ y) :: r) σ
  | _ => False
theorem snd_ixor (hd : decode M.2.1 pc = .ok (.ixor, 1)) : Snd M X pc (i_ixor) := by
  intro nx K hn ls st σ h
  unfold i_ixor at h
  split at h
  · rename_i y x r
    exact VW.go1 (hn _ _ _ _ h) (fun l E p e R s m args below meth c cs sl Q H locs lv hx hb k => lv_ixor hx hb hd k)
  · exact h.elim
def i_ishl : Ins := fun nx _ pc ls st σ => match st with
  | .int y :: .int x :: r => nx (pc + 1) ls (.int (x <<< (y &&& 31)) :: r) σ
  | _ => False
theorem snd_ishl (hd : decode M.2.1 pc = .ok (.ishl, 1)) : Snd M X pc (i_ishl) := by
  intro nx K hn ls st σ h
  unfold i_ishl at h
  split at h
  · rename_i y x r
    exact VW.go1 (hn _ _ _ _ h) (fun l E p e R s m args below meth c cs sl Q H locs lv hx hb k => lv_ishl hx hb hd k)
  · exact h.elim
def i_ishr : Ins := fun nx _ pc ls st σ => match st with
  | .int y :: .int x :: r => nx (pc + 1) ls (.int (x >>> (y &&& 31)) :: r) σ
  | _ => False
theorem snd_ishr (hd : decode M.2.1 pc = .ok (.ishr, 1)) : Snd M X pc (i_ishr) := by
  intro nx K hn ls st σ h
  unfold i_ishr at h
  split at h
  · rename_i y x r
    exact VW.go1 (hn _ _ _ _ h) (fun l E p e R s m args below meth c cs sl Q H locs lv hx hb k => lv_ishr hx hb hd k)
  · exact h.elim
def i_iushr : Ins := fun nx _ pc ls st σ => match st with
  | .int y :: .int x :: r => nx (pc + 1) ls (.int (x.toUInt32 >>> (y.toUInt32 &&& Int32.toUInt32 31)).toInt32 :: r) σ
  | _ => False
theorem snd_iushr (hd : decode M.2.1 pc = .ok (.iushr, 1)) : Snd M X pc (i_iushr) := by
  intro nx K hn ls st σ h
  unfold i_iushr at h
  split at h
  · rename_i y x r
    exact VW.go1 (hn _ _ _ _ h) (fun l E p e R s m args below meth c cs sl Q H locs lv hx hb k => lv_iushr hx hb hd rfl k)
  · exact h.elim
def i_idiv : Ins := fun nx _ pc ls st σ => match st with
  | .int y :: .int x :: r => ¬ y = 0 ∧ nx (pc + 1) ls (.int (x / y) :: r) σ
  | _ => False
theorem snd_idiv (hd : decode M.2.1 pc = .ok (.idiv, 1)) : Snd M X pc (i_idiv) := by
  intro nx K hn ls st σ h
  unfold i_idiv at h
  split at h
  · rename_i y x r
    exact VW.go1 (hn _ _ _ _ h.2) (fun l E p e R s m args below meth c cs sl Q H locs lv hx hb k => lv_idiv hx hb hd h.1 k)
  · exact h.elim
def i_irem : Ins := fun nx _ pc ls st σ => match st with
  | .int y :: .int x :: r => ¬ y = 0 ∧ nx (pc + 1) ls (.int (x - x / y * y) :: r) σ
  | _ => False
theorem snd_irem (hd : decode M.2.1 pc = .ok (.irem, 1)) : Snd M X pc (i_irem) := by
  intro nx K hn ls st σ h
  unfold i_irem at h
  split at h
  · rename_i y x r
    exact VW.go1 (hn _ _ _ _ h.2) (fun l E p e R s m args below meth c cs sl Q H locs lv hx hb k => lv_irem hx hb hd h.1 k)
  · exact h.elim
def i_ineg : Ins := fun nx _ pc ls st σ => match st with
  | .int x :: r => nx (pc + 1) ls (.int (-x) :: r) σ
  | _ => False
theorem snd_ineg (hd : decode M.2.1 pc = .ok (.ineg, 1)) : Snd M X pc (i_ineg) := by
  intro nx K hn ls st σ h
  unfold i_ineg at h
  split at h
  · rename_i x r
    exact VW.go1 (hn _ _ _ _ h) (fun l E p e R s m args below meth c cs sl Q H locs lv hx hb k => lv_ineg hx hb hd k)
  · exact h.elim
def i_ladd : Ins := fun nx _ pc ls st σ => match st with
  | .long y :: .long x :: r => nx (pc + 1) ls (.long (x + y) :: r) σ
  | _ => False
theorem snd_ladd (hd : decode M.2.1 pc = .ok (.ladd, 1)) : Snd M X pc (i_ladd) := by
  intro nx K hn ls st σ h
  unfold i_ladd at h
  split at h
  · rename_i y x r
    exact VW.go1 (hn _ _ _ _ h) (fun l E p e R s m args below meth c cs sl Q H locs lv hx hb k => lv_ladd hx hb hd k)
  · exact h.elim
def i_lsub : Ins := fun nx _ pc ls st σ => match st with
  | .long y :: .long x :: r => nx (pc + 1) ls (.long (x - y) :: r) σ
  | _ => False
theorem snd_lsub (hd : decode M.2.1 pc = .ok (.lsub, 1)) : Snd M X pc (i_lsub) := by
  intro nx K hn ls st σ h
  unfold i_lsub at h
  split at h
  · rename_i y x r
    exact VW.go1 (hn _ _ _ _ h) (fun l E p e R s m args below meth c cs sl Q H locs lv hx hb k => lv_lsub hx hb hd k)
  · exact h.elim
def i_lmul : Ins := fun nx _ pc ls st σ => match st with
  | .long y :: .long x :: r => nx (pc + 1) ls (.long (x * y) :: r) σ
  | _ => False
theorem snd_lmul (hd : decode M.2.1 pc = .ok (.lmul, 1)) : Snd M X pc (i_lmul) := by
  intro nx K hn ls st σ h
  unfold i_lmul at h
  split at h
  · rename_i y x r
    exact VW.go1 (hn _ _ _ _ h) (fun l E p e R s m args below meth c cs sl Q H locs lv hx hb k => lv_lmul hx hb hd k)
  · exact h.elim
def i_ldiv : Ins := fun nx _ pc ls st σ => match st with
  | .long y :: .long x :: r => ¬ y = 0 ∧ nx (pc + 1) ls (.long (x / y) :: r) σ
  | _ => False
theorem snd_ldiv (hd : decode M.2.1 pc = .ok (.ldiv, 1)) : Snd M X pc (i_ldiv) := by
  intro nx K hn ls st σ h
  unfold i_ldiv at h
  split at h
  · rename_i y x r
    exact VW.go1 (hn _ _ _ _ h.2) (fun l E p e R s m args below meth c cs sl Q H locs lv hx hb k => lv_ldiv hx hb hd h.1 k)
  · exact h.elim
def i_lrem : Ins := fun nx _ pc ls st σ => match st with
  | .long y :: .long x :: r => ¬ y = 0 ∧ nx (pc + 1) ls (.long (x - x / y * y) :: r) σ
  | _ => False
theorem snd_lrem (hd : decode M.2.1 pc = .ok (.lrem, 1)) : Snd M X pc (i_lrem) := by
  intro nx K hn ls st σ h
  unfold i_lrem at h
  split at h
  · rename_i y x r
    exact VW.go1 (hn _ _ _ _ h.2) (fun l E p e R s m args below meth c cs sl Q H locs lv hx hb k => lv_lrem hx hb hd h.1 k)
  · exact h.elim
def i_lneg : Ins := fun nx _ pc ls st σ => match st with
  | .long x :: r => nx (pc + 1) ls (.long (-x) :: r) σ
  | _ => False
theorem snd_lneg (hd : decode M.2.1 pc = .ok (.lneg, 1)) : Snd M X pc (i_lneg) := by
  intro nx K hn ls st σ h
  unfold i_lneg at h
  split at h
  · rename_i x r
    exact VW.go1 (hn _ _ _ _ h) (fun l E p e R s m args below meth c cs sl Q H locs lv hx hb k => lv_lneg hx hb hd k)
  · exact h.elim
def i_lcmp : Ins := fun nx _ pc ls st σ => match st with
  | .long y :: .long x :: r => nx (pc + 1) ls (.int (lg_cmp x y) :: r) σ
  | _ => False
theorem snd_lcmp (hd : decode M.2.1 pc = .ok (.lcmp, 1)) : Snd M X pc (i_lcmp) := by
  intro nx K hn ls st σ h
  unfold i_lcmp at h
  split at h
  · rename_i y x r
    exact VW.go1 (hn _ _ _ _ h) (fun l E p e R s m args below meth c cs sl Q H locs lv hx hb k => W.lcmp hx hb hd k)
  · exact h.elim
def i_i2l : Ins := fun nx _ pc ls st σ => match st with
  | .int x :: r => nx (pc + 1) ls (.long x.toInt64 :: r) σ
  | _ => False
theorem snd_i2l (hd : decode M.2.1 pc = .ok (.i2l, 1)) : Snd M X pc (i_i2l) := by
  intro nx K hn ls st σ h
  unfold i_i2l at h
  split at h
  · rename_i x r
    exact VW.go1 (hn _ _ _ _ h) (fun l E p e R s m args below meth c cs sl Q H locs lv hx hb k => lv_i2l hx hb hd rfl k)
  · exact h.elim
def i_l2i : Ins := fun nx _ pc ls st σ => match st with
  | .long x :: r => nx (pc + 1) ls (.int x.toInt32 :: r) σ
  | _ => False
theorem snd_l2i (hd : decode M.2.1 pc = .ok (.l2i, 1)) : Snd M X pc (i_l2i) := by
  intro nx K hn ls st σ h
  unfold i_l2i at h
  split at h
  · rename_i x r
    exact VW.go1 (hn _ _ _ _ h) (fun l E p e R s m args below meth c cs sl Q H locs lv hx hb k => lv_l2i hx hb hd rfl k)
  · exact h.elim
def i_i2b : Ins := fun nx _ pc ls st σ => match st with
  | .int x :: r => nx (pc + 1) ls (.int x.toInt8.toInt32 :: r) σ
  | _ => False
theorem snd_i2b (hd : decode M.2.1 pc = .ok (.i2b, 1)) : Snd M X pc (i_i2b) := by
  intro nx K hn ls st σ h
  unfold i_i2b at h
  split at h
  · rename_i x r
    exact VW.go1 (hn _ _ _ _ h) (fun l E p e R s m args below meth c cs sl Q H locs lv hx hb k => lv_i2b hx hb hd rfl k)
  · exact h.elim
def i_i2s : Ins := fun nx _ pc ls st σ => match st with
  | .int x :: r => nx (pc + 1) ls (.int x.toInt16.toInt32 :: r) σ
  | _ => False
theorem snd_i2s (hd : decode M.2.1 pc = .ok (.i2s, 1)) : Snd M X pc (i_i2s) := by
  intro nx K hn ls st σ h
  unfold i_i2s at h
  split at h
  · rename_i x r
    exact VW.go1 (hn _ _ _ _ h) (fun l E p e R s m args below meth c cs sl Q H locs lv hx hb k => lv_i2s hx hb hd rfl k)
  · exact h.elim
def i_dup : Ins := fun nx _ pc ls st σ => match st with
  | x :: r => x.category = 1 ∧ nx (pc + 1) ls (x :: x :: r) σ
  | _ => False
theorem snd_dup (hd : decode M.2.1 pc = .ok (.dup, 1)) : Snd M X pc (i_dup) := by
  intro nx K hn ls st σ h
  unfold i_dup at h
  split at h
  · rename_i x r
    exact VW.go1 (hn _ _ _ _ h.2) (fun l E p e R s m args below meth c cs sl Q H locs lv hx hb k => lv_dup hx hb hd ((conc_cat E x).trans h.1) k)
  · exact h.elim
def i_pop : Ins := fun nx _ pc ls st σ => match st with
  | x :: r => x.category = 1 ∧ nx (pc + 1) ls (r) σ
  | _ => False
theorem snd_pop (hd : decode M.2.1 pc = .ok (.pop, 1)) : Snd M X pc (i_pop) := by
  intro nx K hn ls st σ h
  unfold i_pop at h
  split at h
  · rename_i x r
    exact VW.go1 (hn _ _ _ _ h.2) (fun l E p e R s m args below meth c cs sl Q H locs lv hx hb k => lv_pop hx hb hd ((conc_cat E x).trans h.1) k)
  · exact h.elim
def i_dup2 : Ins := fun nx _ pc ls st σ => match st with
  | x :: y :: r => (x.category = 1 ∧ y.category = 1) ∧ nx (pc + 1) ls (x :: y :: x :: y :: r) σ
  | _ => False
theorem snd_dup2 (hd : decode M.2.1 pc = .ok (.dup2, 1)) : Snd M X pc (i_dup2) := by
  intro nx K hn ls st σ h
  unfold i_dup2 at h
  split at h
  · rename_i x y r
    exact VW.go1 (hn _ _ _ _ h.2) (fun l E p e R s m args below meth c cs sl Q H locs lv hx hb k => lv_dup2_11 hx hb hd ((conc_cat E x).trans h.1.1) ((conc_cat E y).trans h.1.2) k)
  · exact h.elim
def i_dup2L : Ins := fun nx _ pc ls st σ => match st with
  | x :: r => x.category = 2 ∧ nx (pc + 1) ls (x :: x :: r) σ
  | _ => False
theorem snd_dup2L (hd : decode M.2.1 pc = .ok (.dup2, 1)) : Snd M X pc (i_dup2L) := by
  intro nx K hn ls st σ h
  unfold i_dup2L at h
  split at h
  · rename_i x r
    exact VW.go1 (hn _ _ _ _ h.2) (fun l E p e R s m args below meth c cs sl Q H locs lv hx hb k => lv_dup2_2 hx hb hd ((conc_cat E x).trans h.1) k)
  · exact h.elim
def i_ceq (tgt : Nat) : Ins := fun nx _ pc ls st σ => match st with
  | .int y :: .int x :: r => (x = y → nx tgt ls r σ) ∧ (¬ x = y → nx (pc + 3) ls r σ)
  | _ => False
theorem snd_ceq {off : Int} {tgt : Nat} (hd : decode M.2.1 pc = .ok (.if_icmp .eq off, 3)) (ht : (pc : Int) + off = (tgt : Int)) : Snd M X pc (i_ceq tgt) := by
  intro nx K hn ls st σ h
  unfold i_ceq at h
  split at h
  · rename_i y x r
    exact VW.go2 (fun q => hn _ _ _ _ (h.1 q)) (fun q => hn _ _ _ _ (h.2 q)) (fun l E p e R s m args below meth c cs sl Q H locs lv hx hb k k2 => lv_icmp_eq hx hb hd ht k k2)
  · exact h.elim
def i_cne (tgt : Nat) : Ins := fun nx _ pc ls st σ => match st with
  | .int y :: .int x :: r => (¬ x = y → nx tgt ls r σ) ∧ (x = y → nx (pc + 3) ls r σ)
  | _ => False
theorem snd_cne {off : Int} {tgt : Nat} (hd : decode M.2.1 pc = .ok (.if_icmp .ne off, 3)) (ht : (pc : Int) + off = (tgt : Int)) : Snd M X pc (i_cne tgt) := by
  intro nx K hn ls st σ h
  unfold i_cne at h
  split at h
  · rename_i y x r
    exact VW.go2 (fun q => hn _ _ _ _ (h.1 q)) (fun q => hn _ _ _ _ (h.2 q)) (fun l E p e R s m args below meth c cs sl Q H locs lv hx hb k k2 => lv_icmp_ne hx hb hd ht k k2)
  · exact h.elim
def i_clt (tgt : Nat) : Ins := fun nx _ pc ls st σ => match st with
  | .int y :: .int x :: r => (x < y → nx tgt ls r σ) ∧ (¬ x < y → nx (pc + 3) ls r σ)
  | _ => False
theorem snd_clt {off : Int} {tgt : Nat} (hd : decode M.2.1 pc = .ok (.if_icmp .lt off, 3)) (ht : (pc : Int) + off = (tgt : Int)) : Snd M X pc (i_clt tgt) := by
  intro nx K hn ls st σ h
  unfold i_clt at h
  split at h
  · rename_i y x r
    exact VW.go2 (fun q => hn _ _ _ _ (h.1 q)) (fun q => hn _ _ _ _ (h.2 q)) (fun l E p e R s m args below meth c cs sl Q H locs lv hx hb k k2 => lv_icmp_lt hx hb hd ht k k2)
  · exact h.elim
def i_cge (tgt : Nat) : Ins := fun nx _ pc ls st σ => match st with
  | .int y :: .int x :: r => (y ≤ x → nx tgt ls r σ) ∧ (¬ y ≤ x → nx (pc + 3) ls r σ)
  | _ => False
theorem snd_cge {off : Int} {tgt : Nat} (hd : decode M.2.1 pc = .ok (.if_icmp .ge off, 3)) (ht : (pc : Int) + off = (tgt : Int)) : Snd M X pc (i_cge tgt) := by
  intro nx K hn ls st σ h
  unfold i_cge at h
  split at h
  · rename_i y x r
    exact VW.go2 (fun q => hn _ _ _ _ (h.1 q)) (fun q => hn _ _ _ _ (h.2 q)) (fun l E p e R s m args below meth c cs sl Q H locs lv hx hb k k2 => lv_icmp_ge hx hb hd ht k k2)
  · exact h.elim
def i_cgt (tgt : Nat) : Ins := fun nx _ pc ls st σ => match st with
  | .int y :: .int x :: r => (y < x → nx tgt ls r σ) ∧ (¬ y < x → nx (pc + 3) ls r σ)
  | _ => False
theorem snd_cgt {off : Int} {tgt : Nat} (hd : decode M.2.1 pc = .ok (.if_icmp .gt off, 3)) (ht : (pc : Int) + off = (tgt : Int)) : Snd M X pc (i_cgt tgt) := by
  intro nx K hn ls st σ h
  unfold i_cgt at h
  split at h
  · rename_i y x r
    exact VW.go2 (fun q => hn _ _ _ _ (h.1 q)) (fun q => hn _ _ _ _ (h.2 q)) (fun l E p e R s m args below meth c cs sl Q H locs lv hx hb k k2 => lv_icmp_gt hx hb hd ht k k2)
  · exact h.elim
def i_cle (tgt : Nat) : Ins := fun nx _ pc ls st σ => match st with
  | .int y :: .int x :: r => (x ≤ y → nx tgt ls r σ) ∧ (¬ x ≤ y → nx (pc + 3) ls r σ)
  | _ => False
theorem snd_cle {off : Int} {tgt : Nat} (hd : decode M.2.1 pc = .ok (.if_icmp .le off, 3)) (ht : (pc : Int) + off = (tgt : Int)) : Snd M X pc (i_cle tgt) := by
  intro nx K hn ls st σ h
  unfold i_cle at h
  split at h
  · rename_i y x r
    exact VW.go2 (fun q => hn _ _ _ _ (h.1 q)) (fun q => hn _ _ _ _ (h.2 q)) (fun l E p e R s m args below meth c cs sl Q H locs lv hx hb k k2 => lv_icmp_le hx hb hd ht k k2)
  · exact h.elim
def i_zeq (tgt : Nat) : Ins := fun nx _ pc ls st σ => match st with
  | .int x :: r => (x = 0 → nx tgt ls r σ) ∧ (¬ x = 0 → nx (pc + 3) ls r σ)
  | _ => False
theorem snd_zeq {off : Int} {tgt : Nat} (hd : decode M.2.1 pc = .ok (.ifCond .eq off, 3)) (ht : (pc : Int) + off = (tgt : Int)) : Snd M X pc (i_zeq tgt) := by
  intro nx K hn ls st σ h
  unfold i_zeq at h
  split at h
  · rename_i x r
    exact VW.go2 (fun q => hn _ _ _ _ (h.1 q)) (fun q => hn _ _ _ _ (h.2 q)) (fun l E p e R s m args below meth c cs sl Q H locs lv hx hb k k2 => lv_if_eq hx hb hd ht k k2)
  · exact h.elim
def i_zne (tgt : Nat) : Ins := fun nx _ pc ls st σ => match st with
  | .int x :: r => (¬ x = 0 → nx tgt ls r σ) ∧ (x = 0 → nx (pc + 3) ls r σ)
  | _ => False
theorem snd_zne {off : Int} {tgt : Nat} (hd : decode M.2.1 pc = .ok (.ifCond .ne off, 3)) (ht : (pc : Int) + off = (tgt : Int)) : Snd M X pc (i_zne tgt) := by
  intro nx K hn ls st σ h
  unfold i_zne at h
  split at h
  · rename_i x r
    exact VW.go2 (fun q => hn _ _ _ _ (h.1 q)) (fun q => hn _ _ _ _ (h.2 q)) (fun l E p e R s m args below meth c cs sl Q H locs lv hx hb k k2 => lv_if_ne hx hb hd ht k k2)
  · exact h.elim
def i_zlt (tgt : Nat) : Ins := fun nx _ pc ls st σ => match st with
  | .int x :: r => (x < 0 → nx tgt ls r σ) ∧ (¬ x < 0 → nx (pc + 3) ls r σ)
  | _ => False
theorem snd_zlt {off : Int} {tgt : Nat} (hd : decode M.2.1 pc = .ok (.ifCond .lt off, 3)) (ht : (pc : Int) + off = (tgt : Int)) : Snd M X pc (i_zlt tgt) := by
  intro nx K hn ls st σ h
  unfold i_zlt at h
  split at h
  · rename_i x r
    exact VW.go2 (fun q => hn _ _ _ _ (h.1 q)) (fun q => hn _ _ _ _ (h.2 q)) (fun l E p e R s m args below meth c cs sl Q H locs lv hx hb k k2 => lv_if_lt hx hb hd ht k k2)
  · exact h.elim
def i_zge (tgt : Nat) : Ins := fun nx _ pc ls st σ => match st with
  | .int x :: r => (0 ≤ x → nx tgt ls r σ) ∧ (¬ 0 ≤ x → nx (pc + 3) ls r σ)
  | _ => False
theorem snd_zge {off : Int} {tgt : Nat} (hd : decode M.2.1 pc = .ok (.ifCond .ge off, 3)) (ht : (pc : Int) + off = (tgt : Int)) : Snd M X pc (i_zge tgt) := by
  intro nx K hn ls st σ h
  unfold i_zge at h
  split at h
  · rename_i x r
    exact VW.go2 (fun q => hn _ _ _ _ (h.1 q)) (fun q => hn _ _ _ _ (h.2 q)) (fun l E p e R s m args below meth c cs sl Q H locs lv hx hb k k2 => lv_if_ge hx hb hd ht k k2)
  · exact h.elim
def i_zgt (tgt : Nat) : Ins := fun nx _ pc ls st σ => match st with
  | .int x :: r => (0 < x → nx tgt ls r σ) ∧ (¬ 0 < x → nx (pc + 3) ls r σ)
  | _ => False
theorem snd_zgt {off : Int} {tgt : Nat} (hd : decode M.2.1 pc = .ok (.ifCond .gt off, 3)) (ht : (pc : Int) + off = (tgt : Int)) : Snd M X pc (i_zgt tgt) := by
  intro nx K hn ls st σ h
  unfold i_zgt at h
  split at h
  · rename_i x r
    exact VW.go2 (fun q => hn _ _ _ _ (h.1 q)) (fun q => hn _ _ _ _ (h.2 q)) (fun l E p e R s m args below meth c cs sl Q H locs lv hx hb k k2 => lv_if_gt hx hb hd ht k k2)
  · exact h.elim
def i_zle (tgt : Nat) : Ins := fun nx _ pc ls st σ => match st with
  | .int x :: r => (x ≤ 0 → nx tgt ls r σ) ∧ (¬ x ≤ 0 → nx (pc + 3) ls r σ)
  | _ => False
theorem snd_zle {off : Int} {tgt : Nat} (hd : decode M.2.1 pc = .ok (.ifCond .le off, 3)) (ht : (pc : Int) + off = (tgt : Int)) : Snd M X pc (i_zle tgt) := by
  intro nx K hn ls st σ h
  unfold i_zle at h
  split at h
  · rename_i x r
    exact VW.go2 (fun q => hn _ _ _ _ (h.1 q)) (fun q => hn _ _ _ _ (h.2 q)) (fun l E p e R s m args below meth c cs sl Q H locs lv hx hb k k2 => lv_if_le hx hb hd ht k k2)
  · exact h.elim
def i_goto (tgt : Nat) : Ins := fun nx _ _ ls st σ => nx tgt ls st σ
theorem snd_goto {off : Int} {tgt : Nat} (hd : decode M.2.1 pc = .ok (.goto off, 3)) (ht : (pc : Int) + off = (tgt : Int)) : Snd M X pc (i_goto tgt) := fun nx K hn ls st σ h => VW.go1 (hn _ _ _ _ h) (fun l E p e R s m args below meth c cs sl Q H locs lv hx hb k => lv_goto hx hb hd ht k)

end
