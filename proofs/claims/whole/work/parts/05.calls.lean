/-! ===== part 05: rows, statics, returns, calls ===== -/
section
variable {M : MD} {X : Ev → (Nat → Prop) → State → Prop} {pc : Nat}
def i_iald : Ins := fun nx _ pc ls st σ => match st with
  | .int i :: .ref o :: r => vp_in i (lenI o) ∧ nx (pc + 1) ls (.int (if o = 60 then startf i.toNatClampNeg else σ.1 o i.toNatClampNeg) :: r) σ
  | _ => False
theorem snd_iald (hd : decode M.2.1 pc = .ok (.iaload, 1)) : Snd M X pc i_iald := by
  intro nx K hn ls st σ h
  unfold i_iald at h
  split at h
  · rename_i i o r
    intro l E p e R s m args below meth c A cs sl Q C H locs lv hP hS hl
    by_cases h6 : o = 60
    · subst h6
      exact va_ti C.1 C.2.1 C.2.2.2.2.2.1.2.2.2.2.2.1 hS h.1 rfl hd (hn _ _ _ _ h.2 l E p e R s m args below meth c A cs sl Q C H locs lv hP hS hl)
    · have h2 := h.2
      rw [if_neg h6] at h2
      exact va_iald (tys := eT E) C.1 C.2.1 C.2.2.2.2.2.1.1 hP o 0 (cell_ints (lenI_spec (vp_in_pos h.1) h6) (by decide) (by decide)) rfl h.1 hd (hn _ _ _ _ h2 l E p e R s m args below meth c A cs sl Q C H locs lv hP hS hl)
  · exact h.elim
def i_lald : Ins := fun nx _ pc ls st σ => match st with
  | .int i :: .ref o :: r => vp_in i (lenL o) ∧ nx (pc + 1) ls (.long (if o = 61 then factf i.toNatClampNeg else σ.2 o i.toNatClampNeg) :: r) σ
  | _ => False
theorem snd_lald (hd : decode M.2.1 pc = .ok (.laload, 1)) : Snd M X pc i_lald := by
  intro nx K hn ls st σ h
  unfold i_lald at h
  split at h
  · rename_i i o r
    intro l E p e R s m args below meth c A cs sl Q C H locs lv hP hS hl
    by_cases h6 : o = 61
    · subst h6
      exact va_tl C.1 C.2.1 C.2.2.2.2.2.1.2.2.2.2.2.2.1 hS h.1 rfl hd (hn _ _ _ _ h.2 l E p e R s m args below meth c A cs sl Q C H locs lv hP hS hl)
    · have h2 := h.2
      rw [if_neg h6] at h2
      exact va_lald (tys := eT E) C.1 C.2.1 C.2.2.2.2.2.1.1 hP o 1 (cell_longs (lenL_spec (vp_in_pos h.1) h6)) rfl h.1 hd (hn _ _ _ _ h2 l E p e R s m args below meth c A cs sl Q C H locs lv hP hS hl)
  · exact h.elim
def i_bald : Ins := fun nx _ pc ls st σ => match st with
  | .int i :: .ref o :: r => vp_in i (lenZ o) ∧ nx (pc + 1) ls (.int (σ.1 o i.toNatClampNeg) :: r) σ
  | _ => False
theorem snd_bald (hd : decode M.2.1 pc = .ok (.baload, 1)) : Snd M X pc i_bald := by
  intro nx K hn ls st σ h
  unfold i_bald at h
  split at h
  · rename_i i o r
    intro l E p e R s m args below meth c A cs sl Q C H locs lv hP hS hl
    exact va_zald (tys := eT E) C.1 C.2.1 C.2.2.2.2.2.1.1 hP o 2 (cell_ints (lenZ_spec (vp_in_pos h.1)) (by decide) (by decide)) rfl h.1 hd (hn _ _ _ _ h.2 l E p e R s m args below meth c A cs sl Q C H locs lv hP hS hl)
  · exact h.elim
def i_aald : Ins := fun nx _ pc ls st σ => match st with
  | .int i :: .ref o :: r => o = 20 ∧ vp_in i 4 ∧ nx (pc + 1) ls (.ref (21 + i.toNatClampNeg) :: r) σ
  | _ => False
theorem snd_aald (hd : decode M.2.1 pc = .ok (.aaload, 1)) : Snd M X pc i_aald := by
  intro nx K hn ls st σ h
  unfold i_aald at h
  split at h
  · rename_i i o r
    obtain ⟨rfl, h1, h2⟩ := h
    intro l E p e R s m args below meth c A cs sl Q C H locs lv hP hS hl
    have hc : (cells E σ)[20]? = some (ea E 20, .inl (eA E 3, 4, .inr (.inr (.inr (.inr (fun j => some (ea E (20 + 1 + j)))))))) := by
      rw [cells_get (by decide)]
      rfl
    exact va_aldq (tys := eT E) C.1 C.2.1 C.2.2.2.2.2.1.1 hP 20 3 hc rfl h1 hd (hn _ _ _ _ h2 l E p e R s m args below meth c A cs sl Q C H locs lv hP hS hl)
  · exact h.elim
def i_iast : Ins := fun nx _ pc ls st σ => match st with
  | .int x :: .int i :: .ref o :: r => vp_in i (lenW o) ∧ nx (pc + 1) ls r (si σ o i.toNatClampNeg x)
  | _ => False
theorem snd_iast (hd : decode M.2.1 pc = .ok (.iastore, 1)) : Snd M X pc i_iast := by
  intro nx K hn ls st σ h
  unfold i_iast at h
  split at h
  · rename_i x i o r
    intro l E p e R s m args below meth c A cs sl Q C H locs lv hP hS hl
    have hs := lenW_spec (vp_in_pos h.1)
    have hD : va_D A (cells E σ) := cells_D C.2.2.2.2.2.1.2.1 C.2.2.2.2.2.1.2.2.1
    refine va_iast (tys := eT E) C.1 C.2.1 C.2.2.2.2.2.1.1 hP hD hS o 0 (cell_ints hs (by decide) (by decide)) rfl h.1 hd (fun H1 locs1 hP1 hD1 hS1 => ?_)
    rw [set_ints hs (by decide) (by decide)] at hP1
    exact hn _ _ _ _ h.2 l E p e R s m args below meth c A cs sl Q C H1 locs1 lv hP1 hS1 hl
  · exact h.elim
def i_last : Ins := fun nx _ pc ls st σ => match st with
  | .long x :: .int i :: .ref o :: r => vp_in i (lenV o) ∧ nx (pc + 1) ls r (sj σ o i.toNatClampNeg x)
  | _ => False
theorem snd_last (hd : decode M.2.1 pc = .ok (.lastore, 1)) : Snd M X pc i_last := by
  intro nx K hn ls st σ h
  unfold i_last at h
  split at h
  · rename_i x i o r
    intro l E p e R s m args below meth c A cs sl Q C H locs lv hP hS hl
    have hs := lenV_spec (vp_in_pos h.1)
    have hD : va_D A (cells E σ) := cells_D C.2.2.2.2.2.1.2.1 C.2.2.2.2.2.1.2.2.1
    refine va_last (tys := eT E) C.1 C.2.1 C.2.2.2.2.2.1.1 hP hD hS o 1 (cell_longs hs) rfl h.1 hd (fun H1 locs1 hP1 hD1 hS1 => ?_)
    rw [set_longs hs] at hP1
    exact hn _ _ _ _ h.2 l E p e R s m args below meth c A cs sl Q C H1 locs1 lv hP1 hS1 hl
  · exact h.elim
def i_bast : Ins := fun nx _ pc ls st σ => match st with
  | .int x :: .int i :: .ref o :: r => vp_in i (lenZ o) ∧ nx (pc + 1) ls r (si σ o i.toNatClampNeg (vp_nar .boolean x))
  | _ => False
theorem snd_bast (hd : decode M.2.1 pc = .ok (.bastore, 1)) : Snd M X pc i_bast := by
  intro nx K hn ls st σ h
  unfold i_bast at h
  split at h
  · rename_i x i o r
    intro l E p e R s m args below meth c A cs sl Q C H locs lv hP hS hl
    have hs := lenZ_spec (vp_in_pos h.1)
    have hD : va_D A (cells E σ) := cells_D C.2.2.2.2.2.1.2.1 C.2.2.2.2.2.1.2.2.1
    refine va_zast (tys := eT E) C.1 C.2.1 C.2.2.2.2.2.1.1 hP hD hS o 2 (cell_ints hs (by decide) (by decide)) rfl h.1 hd (fun H1 locs1 hP1 hD1 hS1 => ?_)
    rw [set_ints hs (by decide) (by decide)] at hP1
    exact hn _ _ _ _ h.2 l E p e R s m args below meth c A cs sl Q C H1 locs1 lv hP1 hS1 hl
  · exact h.elim
def i_alen : Ins := fun nx _ pc ls st σ => match st with
  | .ref o :: r => 0 < lenW o ∧ nx (pc + 1) ls (.int (Int32.ofNat (lenW o)) :: r) σ
  | _ => False
theorem snd_alen (hd : decode M.2.1 pc = .ok (.arraylength, 1)) : Snd M X pc i_alen := by
  intro nx K hn ls st σ h
  unfold i_alen at h
  split at h
  · rename_i o r
    intro l E p e R s m args below meth c A cs sl Q C H locs lv hP hS hl
    exact va_alen (tys := eT E) C.1 C.2.1 C.2.2.2.2.2.1.1 hP o 0 (cell_ints (lenW_spec h.1) (by decide) (by decide)) rfl rfl hd (hn _ _ _ _ h.2 l E p e R s m args below meth c A cs sl Q C H locs lv hP hS hl)
  · exact h.elim
/-! the two static rows -/
def i_gst (o : Nat) : Ins := fun nx _ pc ls st σ => nx (pc + 3) ls (.ref o :: st) σ
theorem snd_gstS {index : Nat} (hd : decode M.2.1 pc = .ok (.getstatic index, 3)) (hw : Cond.fieldLink M.1.cls index "DreamShares" "START" "[I" ∈ lw_tbl) : Snd M X pc (i_gst 60) := by
  intro nx K hn ls st σ h l E p e R s m args below meth c A cs sl Q C H locs lv hP hS hl
  exact va_gets C.1 C.2.1 C.2.2.2.2.2.1.2.2.2.1 hS C.2.2.2.1 (C.2.2.2.2.1 _ (tt_mem hw rfl)) (fun _ q => q) hd (hn _ _ _ _ h l E p e R s m args below meth c A cs sl Q C H locs lv hP hS hl)
theorem snd_gstF {index : Nat} (hd : decode M.2.1 pc = .ok (.getstatic index, 3)) (hw : Cond.fieldLink M.1.cls index "DreamShares" "FACTORIAL" "[J" ∈ lw_tbl) : Snd M X pc (i_gst 61) := by
  intro nx K hn ls st σ h l E p e R s m args below meth c A cs sl Q C H locs lv hP hS hl
  exact va_gets C.1 C.2.1 C.2.2.2.2.2.1.2.2.2.2.1 hS C.2.2.2.1 (C.2.2.2.2.1 _ (tt_mem hw rfl)) (fun _ q => q) hd (hn _ _ _ _ h l E p e R s m args below meth c A cs sl Q C H locs lv hP hS hl)
theorem snd_gstN {index : Nat} (hd : decode M.2.1 pc = .ok (.getstatic index, 3)) (hw : Cond.fieldLinkNest M.1.cls index "DreamShares" "START" "[I" "DreamShares" ∈ nestL) : Snd M X pc (i_gst 60) := by
  intro nx K hn ls st σ h l E p e R s m args below meth c A cs sl Q C H locs lv hP hS hl
  exact va_getsN C.1 C.2.1 C.2.2.2.2.2.1.2.2.2.1 hS C.2.2.2.1 (va_Nw.use rfl (C.2.2.2.2.2.1.2.2.2.2.2.2.2 _ hw)) (fun _ q => q) hd (hn _ _ _ _ h l E p e R s m args below meth c A cs sl Q C H locs lv hP hS hl)
/-! returns -/
def i_iret : Ins := fun _ K _ _ st σ => match st with
  | [.int v] => K (some (.int v)) σ
  | _ => False
def i_zret : Ins := fun _ K _ _ st σ => match st with
  | [.int v] => (v = 0 ∨ v = 1) ∧ K (some (.int v)) σ
  | _ => False
def i_lret : Ins := fun _ K _ _ st σ => match st with
  | [.long v] => K (some (.long v)) σ
  | _ => False
def i_vret : Ins := fun _ K _ _ st σ => match st with
  | [] => K none σ
  | _ => False
def i_aret : Ins := fun _ K _ _ st σ => match st with
  | [.ref v] => K (some (.ref v)) σ
  | _ => False
theorem snd_iret (hd : decode M.2.1 pc = .ok (.ireturn, 1)) (hr : M.2.2.2.1 = some .int) : Snd M X pc i_iret := by
  intro nx K hn ls st σ h
  unfold i_iret at h
  split at h
  · rename_i v
    intro l E p e R s m args below meth c A cs sl Q C H locs lv hP hS hl
    exact C.2.2.2.2.2.2.2.2.2.1 _ σ H locs pc lv h hP hS (Or.inl ⟨v, .int, rfl, hr, rfl, hd⟩)
  · exact h.elim
theorem snd_zret (hd : decode M.2.1 pc = .ok (.ireturn, 1)) (hr : M.2.2.2.1 = some .boolean) : Snd M X pc i_zret := by
  intro nx K hn ls st σ h
  unfold i_zret at h
  split at h
  · rename_i v
    intro l E p e R s m args below meth c A cs sl Q C H locs lv hP hS hl
    exact C.2.2.2.2.2.2.2.2.2.1 _ σ H locs pc lv h.2 hP hS (Or.inl ⟨v, .boolean, rfl, hr, by rcases h.1 with q | q <;> subst q <;> rfl, hd⟩)
  · exact h.elim
theorem snd_lret (hd : decode M.2.1 pc = .ok (.lreturn, 1)) (hr : M.2.2.2.1 = some .long) : Snd M X pc i_lret := by
  intro nx K hn ls st σ h
  unfold i_lret at h
  split at h
  · rename_i v
    intro l E p e R s m args below meth c A cs sl Q C H locs lv hP hS hl
    exact C.2.2.2.2.2.2.2.2.2.1 _ σ H locs pc lv h hP hS (Or.inr (Or.inl ⟨v, rfl, hr, hd⟩))
  · exact h.elim
theorem snd_vret (hd : decode M.2.1 pc = .ok (.return_, 1)) (hr : M.2.2.2.1 = none) : Snd M X pc i_vret := by
  intro nx K hn ls st σ h
  unfold i_vret at h
  split at h
  · intro l E p e R s m args below meth c A cs sl Q C H locs lv hP hS hl
    exact C.2.2.2.2.2.2.2.2.2.1 _ σ H locs pc lv h hP hS (Or.inr (Or.inr (Or.inl ⟨rfl, hr, hd⟩)))
  · exact h.elim
theorem snd_aret {n : String} (hd : decode M.2.1 pc = .ok (.areturn, 1)) (hr : M.2.2.2.1 = some (.object n)) : Snd M X pc i_aret := by
  intro nx K hn ls st σ h
  unfold i_aret at h
  split at h
  · rename_i v
    intro l E p e R s m args below meth c A cs sl Q C H locs lv hP hS hl
    exact C.2.2.2.2.2.2.2.2.2.1 _ σ H locs pc lv h hP hS (Or.inr (Or.inr (Or.inr ⟨v, n, rfl, hr, hd⟩)))
  · exact h.elim
/-! calls -/
def ctn (nx : Kt) (pc : Nat) (ls : List (Nat × Value)) (rest : List Value) : Kr := fun r σ => nx pc ls (r.toList ++ rest) σ
theorem ctn_some {nx : Kt} {pc : Nat} {ls : List (Nat × Value)} {rest : List Value} {v : Value} {σ : St} : ctn nx pc ls rest (some v) σ = nx pc ls (v :: rest) σ := rfl
theorem ctn_none {nx : Kt} {pc : Nat} {ls : List (Nat × Value)} {rest : List Value} {σ : St} : ctn nx pc ls rest none σ = nx pc ls rest σ := rfl
def pops : Nat → List Value → List Value → (List Value → List Value → Prop) → Prop
  | 0, acc, st, k => k acc st
  | _ + 1, _, [], _ => False
  | n + 1, acc, v :: st, k => pops n (v :: acc) st k
theorem pops_spec {k : List Value → List Value → Prop} : ∀ {n : Nat} {acc st : List Value}, pops n acc st k → ∃ t rest, st = t ++ rest ∧ t.length = n ∧ k (t.reverse ++ acc) rest := by
  intro n
  induction n with
  | zero => intro acc st h; exact ⟨[], st, rfl, rfl, h⟩
  | succ n ih =>
    intro acc st h
    cases st with
    | nil => exact h.elim
    | cons v st =>
      obtain ⟨t, rest, h1, h2, h3⟩ := ih (acc := v :: acc) (st := st) h
      exact ⟨v :: t, rest, by rw [h1]; rfl, by simp [h2], by simpa using h3⟩
def wsum : List Value → Nat
  | [] => 0
  | v :: r => v.category + wsum r
theorem wsum_eq (E : Ev) : ∀ r : List Value, ((r.map (conc E)).map fun v => v.category).sum = wsum r := by
  intro r
  induction r with
  | nil => rfl
  | cons v r ih => simp only [List.map_cons, List.sum_cons, conc_cat, wsum, ih]
theorem call_go {K' : Kr} {E : Ev} {A A1 : Nat → Prop} {a : Array Value} {free : Addr → Prop} {p : Program} {l : Launch} {e : Env} {R : Room} {s : State} {m : MethodId} {args : Array Value} {below : List Frame} {meth : Method} {c : Code} {H : Heap} {locs : List Loc} {cs sl : Nat} {Q : State → Prop} {lv : Array Slot} {st0 rest : List Value} (hr : va_Run p l e R s m args below meth c H locs cs sl 0 0 (F0 m pc lv st0) rest (Qg E K' A1 a) free) (hS : va_S A s.heap H locs) (hA : ∀ q, A1 q → A q) (hf : ∀ q, free q → A q)
    (kk : ∀ (r : Option Value) (σ' : St) (H1 : Heap) (locs1 : List Loc), K' r σ' → va_P (eD E) vwCl (cells E σ') H1 → va_S A s.heap H1 locs1 → W p l e R s m args below meth c H1 locs1 cs sl Q (F0 m (pc + 3) lv ((r.toList.map (conc E)) ++ rest))) : W p l e R s m args below meth c H locs cs sl Q (F0 m pc lv st0) := by
  intro T hT X'
  obtain ⟨v, st₀, t, T', L, h0, X', hL, e1, e2, ⟨⟨r, σ', hv, hp, hb⟩, hz, hk⟩, st⟩ := hr T hT X'
  have hv : v = r.map (conc E) := by injection hv
  rw [h0] at hz hk
  obtain ⟨t2, a1, b1⟩ := kk r σ' T'.heap (locs ++ L) hp (by rw [e1]; exact hb)
    ⟨Nat.le_trans hS.1 (by rw [e1]; exact hz), fun q h1 h2 => by rw [e1, hk q (Nat.lt_of_lt_of_le h1 hS.1) (fun z => h2 (hA q z))]; exact hS.2.1 q h1 h2, fun q hq => by
      rcases List.mem_append.mp hq with h | h
      · exact hS.2.2 q h
      · exact hf _ (hL q h)⟩ T' rfl X'
  subst hv
  refine ⟨t2, st t2 ?_, b1⟩
  have hh : (r.toList.map (conc E)) ++ rest = (r.map (conc E)).toList ++ rest := by cases r <;> rfl
  rw [hh] at a1
  exact a1
/-- what the callee asks of the world, out of the caller's -/
theorem Wd.call {E : Ev} {A : Nat → Prop} {s U : State} {H : Heap} {locs : List Loc} (h : Wd E A s) (hA : ∀ q, s.heap.size ≤ q → A q) (hS : va_S A s.heap H locs) (hU : U.heap = H) (hW : s.WarmedH U.vm) : Wd E (eF E H.size) U := by
  obtain ⟨h1, h2, h3, h4, h5, h6, h7, h8⟩ := h
  have hn : ∀ q, eF E H.size q → A q := by
    intro q hq
    rcases hq with ⟨o, ho, rfl⟩ | hq
    · exact h3 o ho
    · exact hA q (Nat.le_trans hS.1 hq)
  rw [← hU] at hS hn
  rw [← hU]
  exact ⟨va_K.moved hW.alike h1, h2, fun i hi => Or.inl ⟨i, hi, rfl⟩, ((h4.kept hS.2.1).narrow hn).moved hW.alike, ((h5.kept hS.2.1).narrow hn).moved hW.alike, ((h6.kept hS.2.1).narrow hn).moved hW.alike, ((h7.kept hS.2.1).narrow hn).moved hW.alike, nest_warm hW h8⟩
theorem Wd.blind {E : Ev} {A : Nat → Prop} {U : State} {g : JFrame} {mk : MethodId} {a : Array Value} (h : Wd E A U) : Wd E A (U.calling g mk a) := by
  obtain ⟨h1, h2, h3, h4, h5, h6, h7, h8⟩ := h
  exact ⟨va_K.moved (u := U) (U := U.calling g mk a) (Vm.Alike.refl U.vm) h1, h2, h3, h4.moved (u := U) (U := U.calling g mk a) (Vm.Alike.refl U.vm), h5.moved (u := U) (U := U.calling g mk a) (Vm.Alike.refl U.vm), h6.moved (u := U) (U := U.calling g mk a) (Vm.Alike.refl U.vm), h7.moved (u := U) (U := U.calling g mk a) (Vm.Alike.refl U.vm), nest_same (s := U) (U := U.calling g mk a) rfl h8⟩
theorem eF_sub {E : Ev} {A : Nat → Prop} {s : State} {H : Heap} {locs : List Loc} (h : Wd E A s) (hA : ∀ q, s.heap.size ≤ q → A q) (hS : va_S A s.heap H locs) : ∀ q, eF E H.size q → A q := by
  intro q hq
  rcases hq with ⟨o, ho, rfl⟩ | hq
  · exact h.2.2.1 o ho
  · exact hA q (Nat.le_trans hS.1 hq)
theorem goodTT (M' : MD) (hcd : Cond.code M'.1 M'.2.1 M'.2.2.1 M'.2.2.2.1 ∈ lw_tbl) : GoodIn tt (mws M') := by
  intro w hw
  rcases List.mem_cons.mp hw with q | q
  · subst q
    exact ⟨tt_mem hcd rfl, Or.inl rfl⟩
  · exact ⟨q, good_of_word (List.mem_filter.mp q).2⟩
def i_invS (M' : MD) (n : Nat) : Ins := fun nx _ pc ls st σ => pops n [] st (fun as rest => wsum rest ≤ 8 ∧ VM M' as σ (ctn nx (pc + 3) ls rest))
def i_invV (M' : MD) (ci n : Nat) : Ins := fun nx _ pc ls st σ => pops (n + 1) [] st (fun as rest => match as with
  | .ref o :: as' => oc o = ci ∧ wsum rest ≤ 8 ∧ VM M' (.ref o :: as') σ (ctn nx (pc + 3) ls rest)
  | _ => False)
theorem snd_invV {M' : MD} {ci n index N : Nat} {T : u_T} (hd : decode M.2.1 pc = .ok (.invokevirtual index, 3)) (hlink : Cond.methodLink M.1.cls index M'.1 ∈ lw_tbl) (hinst : Cond.instanceMethod M'.1 ∈ lw_tbl) (hsel : Cond.selects M'.1.cls M'.1 M'.1 ∈ lw_tbl) (hini : Cond.initialized M'.1.cls ∈ lw_tbl) (hcd : Cond.code M'.1 M'.2.1 M'.2.2.1 M'.2.2.2.1 ∈ lw_tbl) (hc : vwCl[ci]? = some (M'.1.cls, T, N)) (h9 : ci ≠ 99)
    (hdd : M'.1.cls ≠ "java/lang/invoke/MethodHandle" ∧ M'.1.cls ≠ "java/lang/invoke/VarHandle" ∧ (parseMethodDescriptor M'.1.desc).map (fun d => d.parameters.length) = some n) (hR : M'.2.2.2.2 + 1 ≤ M.2.2.2.2 ∧ 19 + M'.2.2.1 + 40 * M'.2.2.2.2 ≤ 40 * M.2.2.2.2) : Snd M X pc (i_invV M' ci n) := by
  intro nx K hn ls st σ h
  unfold i_invV at h
  obtain ⟨t, rest, rfl, ht, h⟩ := pops_spec h
  rw [List.append_nil] at h
  split at h
  · rename_i o as' has
    obtain ⟨ho, hw8, hV⟩ := h
    have hta : t = as'.reverse ++ [.ref o] := by
      rw [← List.reverse_reverse t, has]
      simp
    subst hta
    intro l E p e R s m args below meth c A cs sl Q C H locs lv hP hS hl
    have hG := goodTT M' hcd
    have cw : CallW R s args M.1.cls M'.1.cls index M'.1 M'.2.1 M'.2.2.1 M'.2.2.2.1 (mws M') (rmD M'.2.2.2.2) 0 0 n :=
      ⟨callB_of n C.2.2.2.2.1 hG rfl rfl rfl (C.2.2.2.2.1 _ (tt_mem hini rfl)) (C.2.2.2.2.1 _ (tt_mem hlink rfl)) hdd ⟨Nat.le_trans hR.1 C.2.2.2.2.2.2.2.1.1, by have h1 := hR.2; have h2 := C.2.2.2.2.2.2.2.1.2; show 8 + (M'.2.2.1 + 11) + 40 * M'.2.2.2.2 ≤ R.locals; omega⟩, C.2.2.2.2.1 _ (tt_mem hinst rfl), C.2.2.2.2.1 _ (tt_mem hsel rfl)⟩
    have hWd := C.2.2.2.2.2.1
    have hsub := eF_sub hWd C.2.2.2.2.2.2.1 hS
    refine call_go (rest := rest.map (conc E)) (va_runV (As := as'.map (conc E)) (b := ea E o) ⟨C.1, C.2.1, C.2.2.1, C.2.2.2.1, C.2.2.2.2.1⟩ (hV l E H.size) cw ⟨?_, va_recv hWd.1 hP hc (cell_obj ho h9), ?_⟩ rfl ?_ hl.1 ?_ ?_ hd ⟨C.2.2.2.2.2.2.2.2.1.1, C.2.2.2.2.2.2.2.2.1.2⟩) hS hsub hsub ?_
    · intro a U g mk hq
      exact ⟨hq.1, hq.2.1, hq.2.2.1, hq.2.2.2.blind⟩
    · intro U hU hW
      exact ⟨rfl, by rw [hU], by rw [hU]; exact hP, hWd.call C.2.2.2.2.2.2.1 hS hU hW⟩
    · simp only [List.length_append, List.length_reverse, List.length_singleton] at ht
      rw [List.length_map]
      omega
    · simp only [List.map_append, List.map_reverse, List.map_cons, List.map_nil, List.append_assoc, List.cons_append, List.nil_append, conc]
    · exact lv_room (by rw [wsum_eq]; exact hw8)
    · intro r σ' H1 locs1 hk hP1 hS1
      have := hn _ _ _ _ hk l E p e R s m args below meth c A cs sl Q C H1 locs1 lv hP1 hS1 hl
      rw [List.map_append] at this
      exact this
  · exact h.elim
theorem snd_invS {M' : MD} {n index : Nat} (hd : decode M.2.1 pc = .ok (.invokestatic index, 3)) (hlink : Cond.methodLink M.1.cls index M'.1 ∈ lw_tbl) (hst : Cond.static M'.1 ∈ lw_tbl) (hini : Cond.initialized M'.1.cls ∈ lw_tbl) (hcd : Cond.code M'.1 M'.2.1 M'.2.2.1 M'.2.2.2.1 ∈ lw_tbl)
    (hdd : M'.1.cls ≠ "java/lang/invoke/MethodHandle" ∧ M'.1.cls ≠ "java/lang/invoke/VarHandle" ∧ (parseMethodDescriptor M'.1.desc).map (fun d => d.parameters.length) = some n) (hR : M'.2.2.2.2 + 1 ≤ M.2.2.2.2 ∧ 19 + M'.2.2.1 + 40 * M'.2.2.2.2 ≤ 40 * M.2.2.2.2) : Snd M X pc (i_invS M' n) := by
  intro nx K hn ls st σ h
  unfold i_invS at h
  obtain ⟨t, rest, rfl, ht, hw8, hV⟩ := pops_spec h
  rw [List.append_nil] at hV
  intro l E p e R s m args below meth c A cs sl Q C H locs lv hP hS hl
  have hG := goodTT M' hcd
  have cb : CallB R s args M.1.cls index M'.1 M'.2.1 M'.2.2.1 M'.2.2.2.1 (mws M') (rmD M'.2.2.2.2) 0 0 n :=
    callB_of n C.2.2.2.2.1 hG rfl rfl rfl (C.2.2.2.2.1 _ (tt_mem hini rfl)) (C.2.2.2.2.1 _ (tt_mem hlink rfl)) hdd ⟨Nat.le_trans hR.1 C.2.2.2.2.2.2.2.1.1, by have h1 := hR.2; have h2 := C.2.2.2.2.2.2.2.1.2; show 8 + (M'.2.2.1 + 11) + 40 * M'.2.2.2.2 ≤ R.locals; omega⟩
  have hWd := C.2.2.2.2.2.1
  have hsub := eF_sub hWd C.2.2.2.2.2.2.1 hS
  refine call_go (rest := rest.map (conc E)) (va_runS (As := t.reverse.map (conc E)) ⟨C.1, C.2.1, C.2.2.1, C.2.2.2.1, C.2.2.2.2.1⟩ (hV l E H.size) ⟨cb, C.2.2.2.2.1 _ (tt_mem hst rfl)⟩ ⟨?_, ?_⟩ rfl ?_ hl.1 ?_ ?_ hd ⟨C.2.2.2.2.2.2.2.2.1.1, C.2.2.2.2.2.2.2.2.1.2⟩) hS hsub hsub ?_
  · intro a U g mk hq
    exact ⟨hq.1, hq.2.1, hq.2.2.1, hq.2.2.2.blind⟩
  · intro U hU hW
    exact ⟨rfl, by rw [hU], by rw [hU]; exact hP, hWd.call C.2.2.2.2.2.2.1 hS hU hW⟩
  · rw [List.length_map, List.length_reverse]
    exact ht
  · simp only [List.map_append, List.map_reverse, List.reverse_reverse]
  · exact lv_room (by rw [wsum_eq]; exact hw8)
  · intro r σ' H1 locs1 hk hP1 hS1
    have := hn _ _ _ _ hk l E p e R s m args below meth c A cs sl Q C H1 locs1 lv hP1 hS1 hl
    rw [List.map_append] at this
    exact this
theorem snd_invSN {M' : MD} {n index : Nat} (hd : decode M.2.1 pc = .ok (.invokestatic index, 3)) (hlink : Cond.methodLinkNest M.1.cls index M'.1 "DreamShares" ∈ nestL) (hst : Cond.static M'.1 ∈ lw_tbl) (hini : Cond.initialized M'.1.cls ∈ lw_tbl) (hcd : Cond.code M'.1 M'.2.1 M'.2.2.1 M'.2.2.2.1 ∈ lw_tbl)
    (hdd : M'.1.cls ≠ "java/lang/invoke/MethodHandle" ∧ M'.1.cls ≠ "java/lang/invoke/VarHandle" ∧ (parseMethodDescriptor M'.1.desc).map (fun d => d.parameters.length) = some n) (hR : M'.2.2.2.2 + 1 ≤ M.2.2.2.2 ∧ 19 + M'.2.2.1 + 40 * M'.2.2.2.2 ≤ 40 * M.2.2.2.2) : Snd M X pc (i_invS M' n) := by
  intro nx K hn ls st σ h
  unfold i_invS at h
  obtain ⟨t, rest, rfl, ht, hw8, hV⟩ := pops_spec h
  rw [List.append_nil] at hV
  intro l E p e R s m args below meth c A cs sl Q C H locs lv hP hS hl
  have hG := goodTT M' hcd
  have hWd := C.2.2.2.2.2.1
  have cb : va_CN R s args M.1.cls index M'.1 "DreamShares" M'.2.1 M'.2.2.1 M'.2.2.2.1 (mws M') (rmD M'.2.2.2.2) 0 0 n :=
    va_cnB n C.2.2.2.2.1 hG rfl rfl rfl (hWd.2.2.2.2.2.2.2 _ hlink) (C.2.2.2.2.1 _ (tt_mem hini rfl)) hdd ⟨Nat.le_trans hR.1 C.2.2.2.2.2.2.2.1.1, by have h1 := hR.2; have h2 := C.2.2.2.2.2.2.2.1.2; show 8 + (M'.2.2.1 + 11) + 40 * M'.2.2.2.2 ≤ R.locals; omega⟩
  have hsub := eF_sub hWd C.2.2.2.2.2.2.1 hS
  refine call_go (rest := rest.map (conc E)) (va_runSN (As := t.reverse.map (conc E)) ⟨C.1, C.2.1, C.2.2.1, C.2.2.2.1, C.2.2.2.2.1⟩ (hV l E H.size) ⟨cb, C.2.2.2.2.1 _ (tt_mem hst rfl), trivial⟩ ⟨?_, ?_⟩ rfl ?_ hl.1 ?_ ?_ hd ⟨C.2.2.2.2.2.2.2.2.1.1, C.2.2.2.2.2.2.2.2.1.2⟩) hS hsub hsub ?_
  · intro a U g mk hq
    exact ⟨hq.1, hq.2.1, hq.2.2.1, hq.2.2.2.blind⟩
  · intro U hU hW
    exact ⟨rfl, by rw [hU], by rw [hU]; exact hP, hWd.call C.2.2.2.2.2.2.1 hS hU hW⟩
  · rw [List.length_map, List.length_reverse]
    exact ht
  · simp only [List.map_append, List.map_reverse, List.reverse_reverse]
  · exact lv_room (by rw [wsum_eq]; exact hw8)
  · intro r σ' H1 locs1 hk hP1 hS1
    have := hn _ _ _ _ hk l E p e R s m args below meth c A cs sl Q C H1 locs1 lv hP1 hS1 hl
    rw [List.map_append] at this
    exact this
/-! Math.max, Math.abs of longs, System.arraycopy of ints -/
def i_lmax : Ins := fun nx _ pc ls st σ => match st with
  | .long y :: .long x :: r => wsum r ≤ 8 ∧ nx (pc + 3) ls (.long (if y < x then x else y) :: r) σ
  | _ => False
theorem snd_lmax {index : Nat} (hd : decode M.2.1 pc = .ok (.invokestatic index, 3)) (hlink : Cond.methodLink M.1.cls index Lib.MathLoose.max_long.x ∈ lw_tbl) (hst : Cond.static Lib.MathLoose.max_long.x ∈ lw_tbl) (hini : Cond.initialized "java/lang/Math" ∈ lw_tbl) (hcd : Cond.code Lib.MathLoose.max_long.x Lib.MathLoose.max_long.code 4 (some .long) ∈ lw_tbl) (hR : 1 ≤ M.2.2.2.2) : Snd M X pc i_lmax := by
  intro nx K hn ls st σ h
  unfold i_lmax at h
  split at h
  · rename_i y x r
    intro l E p e R s m args below meth c A cs sl Q C H locs lv hP hS hl
    exact va_mmax_long C.1 C.2.1 (by rw [C.2.2.1]; exact hl.1.symm) C.2.2.2.1 (C.2.2.2.2.1 _ (tt_mem hlink rfl)) (C.2.2.2.2.1 _ (tt_mem hst rfl)) (C.2.2.2.2.1 _ (tt_mem hini rfl)) (C.2.2.2.2.1 _ (tt_mem hcd rfl)) (Nat.le_trans hR C.2.2.2.2.2.2.2.1.1) (by rw [wsum_eq]; have h1 := h.1; have h2 := C.2.2.2.2.2.2.2.1.2; omega) C.2.2.2.2.2.2.2.2.1.1 C.2.2.2.2.2.2.2.2.1.2 hd (hn _ _ _ _ h.2 l E p e R s m args below meth c A cs sl Q C H locs lv hP hS hl)
  · exact h.elim
def i_labs : Ins := fun nx _ pc ls st σ => match st with
  | .long x :: r => wsum r ≤ 8 ∧ nx (pc + 3) ls (.long (if 0 < x then x else -x) :: r) σ
  | _ => False
theorem snd_labs {index : Nat} (hd : decode M.2.1 pc = .ok (.invokestatic index, 3)) (hlink : Cond.methodLink M.1.cls index Lib.MathLoose.abs_long.x ∈ lw_tbl) (hst : Cond.static Lib.MathLoose.abs_long.x ∈ lw_tbl) (hini : Cond.initialized "java/lang/Math" ∈ lw_tbl) (hcd : Cond.code Lib.MathLoose.abs_long.x Lib.MathLoose.abs_long.code 2 (some .long) ∈ lw_tbl) (hR : 1 ≤ M.2.2.2.2) : Snd M X pc i_labs := by
  intro nx K hn ls st σ h
  unfold i_labs at h
  split at h
  · rename_i x r
    intro l E p e R s m args below meth c A cs sl Q C H locs lv hP hS hl
    exact va_mabs_long C.1 C.2.1 (by rw [C.2.2.1]; exact hl.1.symm) C.2.2.2.1 (C.2.2.2.2.1 _ (tt_mem hlink rfl)) (C.2.2.2.2.1 _ (tt_mem hst rfl)) (C.2.2.2.2.1 _ (tt_mem hini rfl)) (C.2.2.2.2.1 _ (tt_mem hcd rfl)) (Nat.le_trans hR C.2.2.2.2.2.2.2.1.1) (by rw [wsum_eq]; have h1 := h.1; have h2 := C.2.2.2.2.2.2.2.1.2; omega) C.2.2.2.2.2.2.2.2.1.1 C.2.2.2.2.2.2.2.2.1.2 hd (hn _ _ _ _ h.2 l E p e R s m args below meth c A cs sl Q C H locs lv hP hS hl)
  · exact h.elim
def i_acopy : Ins := fun nx _ pc ls st σ => match st with
  | .int n :: .int dp :: .ref o1 :: .int sp :: .ref o0 :: r => (0 < lenW o0 ∧ 0 < lenW o1 ∧ ¬ sp < 0 ∧ ¬ dp < 0 ∧ ¬ n < 0 ∧ sp.toNatClampNeg + n.toNatClampNeg ≤ lenW o0 ∧ dp.toNatClampNeg + n.toNatClampNeg ≤ lenW o1 ∧ wsum r ≤ 8) ∧ nx (pc + 3) ls r (sa σ o1 (va_cpy (σ.1 o0) (σ.1 o1) sp.toNatClampNeg dp.toNatClampNeg n.toNatClampNeg))
  | _ => False
theorem snd_acopy {index : Nat} (hd : decode M.2.1 pc = .ok (.invokestatic index, 3)) (hlink : Cond.methodLink M.1.cls index arraycopyName ∈ lw_tbl) (hnat : Cond.native arraycopyName ∈ lw_tbl) (hst : Cond.static arraycopyName ∈ lw_tbl) (hini : Cond.initialized "java/lang/System" ∈ lw_tbl) (hR : 1 ≤ M.2.2.2.2) : Snd M X pc i_acopy := by
  intro nx K hn ls st σ h
  unfold i_acopy at h
  split at h
  · rename_i n dp o1 sp o0 r
    obtain ⟨⟨h1, h2, h3, h4, h5, h6, h7, h8⟩, hk⟩ := h
    intro l E p e R s m args below meth c A cs sl Q C H locs lv hP hS hl
    have hs0 := lenW_spec h1
    have hs1 := lenW_spec h2
    have hD : va_D A (cells E σ) := cells_D C.2.2.2.2.2.1.2.1 C.2.2.2.2.2.1.2.2.1
    have h9 : nativeFrameWords "java/lang/System" "arraycopy" 5 ≤ 20 := by decide +kernel
    refine va_copyi (tys := eT E) (ty := .int) C.1 C.2.1 (by rw [C.2.2.1]; exact hl.1.symm) C.2.2.2.1 (C.2.2.2.2.1 _ (tt_mem hlink rfl)) (C.2.2.2.2.1 _ (tt_mem hnat rfl)) (C.2.2.2.2.1 _ (tt_mem hst rfl)) (C.2.2.2.2.1 _ (tt_mem hini rfl)) C.2.2.2.2.2.1.1 hP hD hS o0 o1 0 0 (cell_ints hs0 (by decide) (by decide)) (cell_ints hs1 (by decide) (by decide)) rfl rfl rfl h3 h4 h5 h6 h7 (fun _ _ => rfl) (Nat.le_trans hR C.2.2.2.2.2.2.2.1.1) (by rw [wsum_eq]; have h2 := C.2.2.2.2.2.2.2.1.2; omega) hd (fun H1 locs1 hP1 hD1 hS1 => ?_)
    rw [set_ints hs1 (by decide) (by decide)] at hP1
    exact hn _ _ _ _ hk l E p e R s m args below meth c A cs sl Q C H1 locs1 lv hP1 hS1 hl
  · exact h.elim
end
/-! a body makes a contract -/
theorem lv_args_map (E : Ev) : ∀ (vs : List Value) (i : Nat), lv_args i (vs.map (conc E)) = (lv_args i vs).map (cv E) := by
  intro vs
  induction vs with
  | nil => intro i; rfl
  | cons v r ih =>
    intro i
    simp only [List.map_cons, lv_args, conc_cat, ih]
    rfl
def Xt : Ev → (Nat → Prop) → State → Prop := fun _ _ _ => True
theorem vm_of {M : MD} {av : List Value} {σ : St} {K : Kr} (hy : plainName M.1.cls = true) (hn : ∀ E : Ev, (lg_sl (av.map (conc E))).length ≤ M.2.2.1) (h : VW M Xt K 0 (lv_args 0 av) [] σ) : VM M av σ K := by
  intro l E sz
  refine Met.ofW (cc := M.2.1) (maxL := M.2.2.1) (ret := M.2.2.2.1) hy rfl ?_
  intro p e s m args below meth c s₁ B hml hv
  obtain ⟨rfl, hsz, hP, hWd⟩ := hv
  have hts := atoms_spec (ws := mws M) B.pre
  have hown : s.vm.findClass M.1.cls = some m.cls := findClass_of_methodNamed B.named
  have hlocks := B.notSynchronized
  have hr := B.returns
  subst hsz
  have hl := lv_entry (av.map (conc E)) (n := M.2.2.1) (hn E)
  rw [lg_entry_eq]
  generalize (lg_sl (av.map (conc E)) ++ List.replicate (M.2.2.1 - (lg_sl (av.map (conc E))).length) Slot.unset).toArray = lv at hl ⊢
  rw [lv_args_map] at hl
  refine h l E p e (rmD M.2.2.2.2) s m _ below meth c (eF E s.heap.size) 0 0 _ ⟨B.exec, B.bytes, hml, hown, fun w hw => hts w (List.mem_cons_of_mem _ hw), hWd, fun q hq => Or.inr hq, ⟨Nat.le_refl _, Nat.le_refl _⟩, ⟨Nat.le_refl _, Nat.le_refl _⟩, ?_, trivial⟩ s.heap [] lv hP va_S.rf hl
  intro r σ' H locs pc lv' hK hP' hS' hcase
  rcases hcase with ⟨v, ty, rfl, hty, hnar, hd⟩ | ⟨v, rfl, hty, hd⟩ | ⟨rfl, hty, hd⟩ | ⟨o, n, rfl, hty, hd⟩
  · exact W.zret (ty := ty) B.exec B.bytes (hr.trans hty) hnar (fun t ht hW => ⟨⟨some (.int v), σ', rfl, hK, by rw [ht]; exact hP'⟩, hS'.F ht⟩) hS'.2.2 hd
  · exact W.lret B.exec B.bytes (hr.trans hty) (fun t ht hW => ⟨⟨some (.long v), σ', rfl, hK, by rw [ht]; exact hP'⟩, hS'.F ht⟩) hS'.2.2 hd
  · exact W.vret B.exec B.bytes (hr.trans hty) (fun t ht hW => ⟨⟨none, σ', rfl, hK, by rw [ht]; exact hP'⟩, hS'.F ht⟩) hS'.2.2 hd
  · exact W.aret (rt := .object n) B.exec B.bytes (hr.trans hty) (Or.inl ⟨n, rfl⟩) (Or.inr ⟨_, rfl⟩) (fun t ht hW => ⟨⟨some (.ref o), σ', rfl, hK, by rw [ht]; exact hP'⟩, hS'.F ht⟩) hS'.2.2 hd
/-- a contract out of a run -/
theorem vm_run {M : MD} {cd : Nat → Ins} (hs : ∀ pc, Snd M Xt pc (cd pc)) (hy : plainName M.1.cls = true) (stop : Nat → Bool) (f : Nat) {av : List Value} {σ : St} {K : Kr} (hn : ∀ E : Ev, (lg_sl (av.map (conc E))).length ≤ M.2.2.1) (h : run cd stop (VW M Xt K) K f 0 (lv_args 0 av) [] σ) : VM M av σ K := vm_of hy hn (run_sound hs stop K f 0 _ _ _ h)
