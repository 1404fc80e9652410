/-! ===== part 04: switches, fields, arrays, statics, returns, calls ===== -/
theorem oc_lt {o : Nat} (h : oc o ≠ 99) : o < 56 := by
  rcases Nat.lt_or_ge o 56 with q | q
  · exact q
  · exact absurd (by unfold oc; split <;> first | rfl | omega) h
theorem lenI_big {o : Nat} (h : 64 ≤ o) : lenI o = 0 := by unfold lenI; split <;> first | rfl | omega
theorem lenW_big {o : Nat} (h : 64 ≤ o) : lenW o = 0 := by unfold lenW; split <;> first | rfl | omega
theorem lenL_big {o : Nat} (h : 64 ≤ o) : lenL o = 0 := by unfold lenL; split <;> first | rfl | omega
theorem lenV_big {o : Nat} (h : 64 ≤ o) : lenV o = 0 := by unfold lenV; split <;> first | rfl | omega
theorem lenZ_big {o : Nat} (h : 64 ≤ o) : lenZ o = 0 := by unfold lenZ; split <;> first | rfl | omega
theorem lenI_spec {o : Nat} (h : 0 < lenI o) (h6 : o ≠ 60) : o < 56 ∧ oc o = 99 ∧ aty o = 0 ∧ aln o = lenI o := by
  have hl : o < 64 := by
    rcases Nat.lt_or_ge o 64 with q | q
    · exact q
    · rw [lenI_big q] at h; omega
  have := (by decide +kernel : ∀ o : Fin 64, 0 < lenI o.val → o.val ≠ 60 → o.val < 56 ∧ oc o.val = 99 ∧ aty o.val = 0 ∧ aln o.val = lenI o.val) ⟨o, hl⟩
  exact this h h6
theorem lenW_spec {o : Nat} (h : 0 < lenW o) : o < 56 ∧ oc o = 99 ∧ aty o = 0 ∧ aln o = lenW o := by
  have hl : o < 64 := by
    rcases Nat.lt_or_ge o 64 with q | q
    · exact q
    · rw [lenW_big q] at h; omega
  have := (by decide +kernel : ∀ o : Fin 64, 0 < lenW o.val → o.val < 56 ∧ oc o.val = 99 ∧ aty o.val = 0 ∧ aln o.val = lenW o.val) ⟨o, hl⟩
  exact this h
theorem lenL_spec {o : Nat} (h : 0 < lenL o) (h6 : o ≠ 61) : o < 56 ∧ oc o = 99 ∧ aty o = 1 ∧ aln o = lenL o := by
  have hl : o < 64 := by
    rcases Nat.lt_or_ge o 64 with q | q
    · exact q
    · rw [lenL_big q] at h; omega
  have := (by decide +kernel : ∀ o : Fin 64, 0 < lenL o.val → o.val ≠ 61 → o.val < 56 ∧ oc o.val = 99 ∧ aty o.val = 1 ∧ aln o.val = lenL o.val) ⟨o, hl⟩
  exact this h h6
theorem lenV_spec {o : Nat} (h : 0 < lenV o) : o < 56 ∧ oc o = 99 ∧ aty o = 1 ∧ aln o = lenV o := by
  have hl : o < 64 := by
    rcases Nat.lt_or_ge o 64 with q | q
    · exact q
    · rw [lenV_big q] at h; omega
  have := (by decide +kernel : ∀ o : Fin 64, 0 < lenV o.val → o.val < 56 ∧ oc o.val = 99 ∧ aty o.val = 1 ∧ aln o.val = lenV o.val) ⟨o, hl⟩
  exact this h
theorem lenZ_spec {o : Nat} (h : 0 < lenZ o) : o < 56 ∧ oc o = 99 ∧ aty o = 2 ∧ aln o = lenZ o := by
  have hl : o < 64 := by
    rcases Nat.lt_or_ge o 64 with q | q
    · exact q
    · rw [lenZ_big q] at h; omega
  have := (by decide +kernel : ∀ o : Fin 64, 0 < lenZ o.val → o.val < 56 ∧ oc o.val = 99 ∧ aty o.val = 2 ∧ aln o.val = lenZ o.val) ⟨o, hl⟩
  exact this h
theorem vp_in_pos {i : Int32} {n : Nat} (h : vp_in i n) : 0 < n := by
  rcases Nat.eq_zero_or_pos n with q | q
  · subst q
    exact absurd (Or.inr (Nat.zero_le _)) h
  · exact q
/-- the cell of a row of ints (or bools), of longs -/
theorem cell_ints {E : Ev} {σ : St} {o n t : Nat} (h : o < 56 ∧ oc o = 99 ∧ aty o = t ∧ aln o = n) (ht1 : t ≠ 1) (ht3 : t ≠ 3) : (cells E σ)[o]? = some (ea E o, .inl (eA E t, n, .inl (σ.1 o))) := by
  obtain ⟨h1, h2, h3, h4⟩ := h
  rw [cells_get h1]
  simp only [cellOf, h2, if_true, h3, h4, acont, if_neg ht1, if_neg ht3]
theorem cell_longs {E : Ev} {σ : St} {o n : Nat} (h : o < 56 ∧ oc o = 99 ∧ aty o = 1 ∧ aln o = n) : (cells E σ)[o]? = some (ea E o, .inl (eA E 1, n, .inr (.inl (σ.2 o)))) := by
  obtain ⟨h1, h2, h3, h4⟩ := h
  rw [cells_get h1]
  simp only [cellOf, h2, if_true, h3, h4, acont]
theorem set_ints {E : Ev} {σ : St} {o n t : Nat} {g : Nat → Int32} (h : o < 56 ∧ oc o = 99 ∧ aty o = t ∧ aln o = n) (ht1 : t ≠ 1) (ht3 : t ≠ 3) : (cells E σ).set o (ea E o, .inl (eA E t, n, .inl g)) = cells E (sa σ o g) := by
  obtain ⟨h1, h2, h3, h4⟩ := h
  refine cells_set h1 ?_ (fun a ha => cellOf_other (sa_ne ha) rfl)
  simp only [cellOf, h2, if_true, h3, h4, acont, if_neg ht1, if_neg ht3, sa_at]
theorem set_longs {E : Ev} {σ : St} {o n : Nat} {g : Nat → Int64} (h : o < 56 ∧ oc o = 99 ∧ aty o = 1 ∧ aln o = n) : (cells E σ).set o (ea E o, .inl (eA E 1, n, .inr (.inl g))) = cells E (sL σ o g) := by
  obtain ⟨h1, h2, h3, h4⟩ := h
  refine cells_set h1 ?_ (fun a ha => cellOf_other rfl (sL_ne ha))
  simp only [cellOf, h2, if_true, h3, h4, acont, sL_at]
theorem cell_obj {E : Ev} {σ : St} {o ci : Nat} (h : oc o = ci) (hc : ci ≠ 99) : (cells E σ)[o]? = some (ea E o, .inr (ci, (List.range (nf ci)).map (fval E σ o))) := by
  rw [cells_get (oc_lt (by rw [h]; exact hc))]
  simp only [cellOf, h, if_neg hc]
theorem set_fldI {E : Ev} {σ : St} {o ci k : Nat} {v : Int32} (h : oc o = ci) (hc : ci ≠ 99) (hk : fc ci k = 0) : (cells E σ).set o (ea E o, .inr (ci, ((List.range (nf ci)).map (fval E σ o)).set k (.int v))) = cells E (si σ o k v) := by
  refine cells_set (oc_lt (by rw [h]; exact hc)) ?_ (fun a ha => cellOf_other (sa_ne ha) rfl)
  simp only [cellOf, h, if_neg hc]
  congr 2
  apply List.ext_getElem?
  intro i
  rw [List.getElem?_set]
  by_cases hi : k = i
  · subst hi
    by_cases hl : k < nf ci
    · simp [hl, fval, h, hk, si, sa, upd]
    · simp [hl]
  · simp only [if_neg hi, List.getElem?_map]
    by_cases hl : i < nf ci
    · simp only [List.getElem?_range hl, Option.map_some, fval, h, si, sa_at, upd, if_neg (fun x : i = k => hi x.symm)]
      rfl
    · simp [hl]
theorem set_fldJ {E : Ev} {σ : St} {o ci k : Nat} {v : Int64} (h : oc o = ci) (hc : ci ≠ 99) (hk : fc ci k = 1) : (cells E σ).set o (ea E o, .inr (ci, ((List.range (nf ci)).map (fval E σ o)).set k (.long v))) = cells E (sj σ o k v) := by
  refine cells_set (oc_lt (by rw [h]; exact hc)) ?_ (fun a ha => cellOf_other rfl (sL_ne ha))
  simp only [cellOf, h, if_neg hc]
  congr 2
  apply List.ext_getElem?
  intro i
  rw [List.getElem?_set]
  by_cases hi : k = i
  · subst hi
    by_cases hl : k < nf ci
    · simp [hl, fval, h, hk, sj, sL, vp_updL]
    · simp [hl]
  · simp only [if_neg hi, List.getElem?_map]
    by_cases hl : i < nf ci
    · simp only [List.getElem?_range hl, Option.map_some, fval, h, sj, sL_at, vp_updL, if_neg (fun x : i = k => hi x.symm)]
      rfl
    · simp [hl]
section
variable {M : MD} {X : Ev → (Nat → Prop) → State → Prop} {pc : Nat}
/-! switches -/
def tsw (nx : Nat → Prop) (x : Int32) : Nat → List Nat → Prop
  | _, [] => True
  | k, t :: ts => (x = Int32.ofNat k → nx t) ∧ tsw nx x (k + 1) ts
theorem tsw_at {nx : Nat → Prop} {x : Int32} : ∀ {ts : List Nat} {k j t : Nat}, tsw nx x k ts → ts[j]? = some t → x = Int32.ofNat (k + j) → nx t := by
  intro ts
  induction ts with
  | nil => intro k j t _ h; simp at h
  | cons a r ih =>
    intro k j t h hj hx
    cases j with
    | zero => simp at hj; subst hj; exact h.1 hx
    | succ j => exact ih h.2 (by simpa using hj) (by rw [hx]; congr 1; omega)
def i_tsw (dflt : Nat) (ts : List Nat) : Ins := fun nx _ _ ls st σ => match st with
  | .int x :: r => tsw (fun t => nx t ls r σ) x 0 ts ∧ ((x < 0 ∨ Int32.ofNat ts.length ≤ x) → nx dflt ls r σ)
  | _ => False
theorem snd_tsw {d hi : Int} {offs : Array Int} {len dflt : Nat} {ts : List Nat} (hd : decode M.2.1 pc = .ok (.tableswitch d 0 hi offs, len)) (h0 : (pc : Int) + d = (dflt : Int)) (h1 : hi = (ts.length : Int) - 1) (h2 : offs.toList.map (fun o => (pc : Int) + o) = ts.map (fun t : Nat => (t : Int))) (h3 : ts.length < 1000) : Snd M X pc (i_tsw dflt ts) := by
  intro nx K hn ls st σ h
  unfold i_tsw at h
  split at h
  · rename_i x r
    obtain ⟨ha, hb⟩ := h
    intro l E p e R s m args below meth c A cs sl Q C H locs lv hP hS hl
    by_cases hx : x < 0 ∨ Int32.ofNat ts.length ≤ x
    · refine lv_tableOut C.1 C.2.1 hd ?_ h0 (hn _ _ _ _ (hb hx) l E p e R s m args below meth c A cs sl Q C H locs lv hP hS hl)
      rcases hx with q | q
      · exact Or.inl (by simpa [Int32.lt_iff_toInt_lt] using q)
      · right
        have := Int32.le_iff_toInt_le.mp q
        rw [Int32.toInt_ofNat_of_lt (by omega)] at this
        omega
    · have hx1 : ¬ x < 0 := fun q => hx (Or.inl q)
      obtain ⟨j, hj, rfl⟩ := nI_of hx1
      have hj2 : j < ts.length := by
        rcases Nat.lt_or_ge j ts.length with q | q
        · exact q
        · exact absurd (Or.inr (nI_le q hj)) hx
      have hj3 := nI_toInt hj
      have hlen : offs.size = ts.length := by
        have := congrArg List.length h2
        simpa using this
      have hoj : offs[j]? = some offs[j] := Array.getElem?_eq_getElem (by omega)
      have hoe : (pc : Int) + offs[j] = ((ts[j] : Nat) : Int) := by
        have := congrArg (fun l => l[j]?) h2
        simp only [List.getElem?_map, Array.getElem?_toList, hoj, Option.map_some, List.getElem?_eq_getElem hj2] at this
        exact Option.some.inj this
      refine lv_tableIn C.1 C.2.1 hd (by rw [hj3]; omega) (by rw [hj3, h1]; omega) (off := offs[j]) (by rw [hj3]; simpa using hoj) hoe ?_
      exact hn _ _ _ _ (tsw_at ha (List.getElem?_eq_getElem hj2) (by rw [Nat.zero_add]; rfl)) l E p e R s m args below meth c A cs sl Q C H locs lv hP hS hl
  · exact h.elim
def lsw (nx : Nat → Prop) (x : Int32) (d : Nat) : List (Int32 × Nat) → Prop
  | [] => nx d
  | (k, t) :: r => (x = k → nx t) ∧ (¬ x = k → lsw nx x d r)
def i_lsw (dflt : Nat) (ps : List (Int32 × Nat)) : Ins := fun nx _ _ ls st σ => match st with
  | .int x :: r => lsw (fun t => nx t ls r σ) x dflt ps
  | _ => False
theorem lsw_at {nx : Nat → Prop} {x : Int32} {d : Nat} {dd : Int} (h0 : (pc : Int) + dd = (d : Int)) : ∀ {ps : List (Int32 × Nat)} {qs : List (Int × Int)}, qs.map (fun q => (q.1, (pc : Int) + q.2)) = ps.map (fun q => (q.1.toInt, (q.2 : Int))) → lsw nx x d ps → ∃ t : Nat, nx t ∧ (pc : Int) + Op.lookupswitch.offset qs dd x.toInt = (t : Int) := by
  intro ps
  induction ps with
  | nil =>
    intro qs hq h
    have : qs = [] := by simpa using hq
    subst this
    exact ⟨d, h, h0⟩
  | cons a r ih =>
    intro qs hq h
    obtain ⟨k, t⟩ := a
    cases qs with
    | nil => simp at hq
    | cons b rs =>
      obtain ⟨b1, b2⟩ := b
      simp only [List.map_cons, List.cons.injEq, Prod.mk.injEq] at hq
      obtain ⟨⟨hb1, hb2⟩, hr⟩ := hq
      by_cases hx : x = k
      · refine ⟨t, h.1 hx, ?_⟩
        rw [Op.lookupswitch.offset_cons, if_pos (by rw [hb1, hx])]
        exact hb2
      · obtain ⟨t2, g1, g2⟩ := ih hr (h.2 hx)
        refine ⟨t2, g1, ?_⟩
        rw [lv_osw hx hb1.symm]
        exact g2
theorem snd_lsw {d : Int} {qs : Array (Int × Int)} {len dflt : Nat} {ps : List (Int32 × Nat)} (hd : decode M.2.1 pc = .ok (.lookupswitch d qs, len)) (hs : (qs.toList.zip (qs.toList.drop 1)).all (fun (a, next) => a.1 < next.1) = true) (h0 : (pc : Int) + d = (dflt : Int)) (h2 : qs.toList.map (fun q => (q.1, (pc : Int) + q.2)) = ps.map (fun q => (q.1.toInt, (q.2 : Int)))) : Snd M X pc (i_lsw dflt ps) := by
  intro nx K hn ls st σ h
  unfold i_lsw at h
  split at h
  · rename_i x r
    intro l E p e R s m args below meth c A cs sl Q C H locs lv hP hS hl
    obtain ⟨t, g1, g2⟩ := lsw_at h0 h2 h
    exact lv_lookup C.1 C.2.1 hd hs rfl g2 (hn _ _ _ _ g1 l E p e R s m args below meth c A cs sl Q C H locs lv hP hS hl)
  · exact h.elim
/-! fields -/
def i_getI (ci k : Nat) : Ins := fun nx _ pc ls st σ => match st with
  | .ref o :: r => oc o = ci ∧ nx (pc + 3) ls (.int (σ.1 o k) :: r) σ
  | _ => False
def i_getJ (ci k : Nat) : Ins := fun nx _ pc ls st σ => match st with
  | .ref o :: r => oc o = ci ∧ nx (pc + 3) ls (.long (σ.2 o k) :: r) σ
  | _ => False
def i_getR (ci d : Nat) : Ins := fun nx _ pc ls st σ => match st with
  | .ref o :: r => oc o = ci ∧ nx (pc + 3) ls (.ref (o + d) :: r) σ
  | _ => False
theorem get_row {K : Kr} {ls : List (Nat × Value)} {r : List Value} {σ : St} {o ci k index N : Nat} {C : String} {T : u_T} {v : Value} (ho : oc o = ci) (h9 : ci ≠ 99) (hc : vwCl[ci]? = some (C, T, N)) (hin : ∀ w ∈ u_ws C T N, w ∈ tt) (hk : k < N) (hnf : nf ci = N) (hv : ∀ E, conc E v = fval E σ o k) (hd : decode M.2.1 pc = .ok (.getfield index, 3)) (hw : Cond.fieldLink M.1.cls index (T k).1 (T k).2.1 (T k).2.2.1 ∈ lw_tbl)
    (h : VW M X K (pc + 3) ls (v :: r) σ) : VW M X K pc ls (.ref o :: r) σ := by
  intro l E p e R s m args below meth c A cs sl Q C H locs lv hP hS hl
  refine va_get (D := eD E) (ci := ci) (v := conc E v) (N := N) C.1 C.2.1 C.2.2.2.2.1 hin C.2.2.2.1 C.2.2.2.2.2.1.1 hP o (cell_obj ho h9) hc k hk (C.2.2.2.2.1 _ (tt_mem hw rfl)) (fun _ q => q) ?_ hd (h l E p e R s m args below meth c A cs sl Q C H locs lv hP hS hl)
  rw [List.getElem?_map, List.getElem?_range (by omega), hv]
  rfl
theorem snd_getI {ci k index N : Nat} {C : String} {T : u_T} (hd : decode M.2.1 pc = .ok (.getfield index, 3)) (hw : Cond.fieldLink M.1.cls index (T k).1 (T k).2.1 (T k).2.2.1 ∈ lw_tbl) (hc : vwCl[ci]? = some (C, T, N)) (hin : ∀ w ∈ u_ws C T N, w ∈ tt) (hk : k < N) (hnf : nf ci = N) (h9 : ci ≠ 99) (hf : fc ci k = 0) : Snd M X pc (i_getI ci k) := by
  intro nx K hn ls st σ h
  unfold i_getI at h
  split at h
  · rename_i o r
    exact get_row h.1 h9 hc hin hk hnf (fun E => by simp [fval, h.1, hf, conc]) hd hw (hn _ _ _ _ h.2)
  · exact h.elim
theorem snd_getJ {ci k index N : Nat} {C : String} {T : u_T} (hd : decode M.2.1 pc = .ok (.getfield index, 3)) (hw : Cond.fieldLink M.1.cls index (T k).1 (T k).2.1 (T k).2.2.1 ∈ lw_tbl) (hc : vwCl[ci]? = some (C, T, N)) (hin : ∀ w ∈ u_ws C T N, w ∈ tt) (hk : k < N) (hnf : nf ci = N) (h9 : ci ≠ 99) (hf : fc ci k = 1) : Snd M X pc (i_getJ ci k) := by
  intro nx K hn ls st σ h
  unfold i_getJ at h
  split at h
  · rename_i o r
    exact get_row h.1 h9 hc hin hk hnf (fun E => by simp [fval, h.1, hf, conc]) hd hw (hn _ _ _ _ h.2)
  · exact h.elim
theorem snd_getR {ci k d index N : Nat} {C : String} {T : u_T} (hd : decode M.2.1 pc = .ok (.getfield index, 3)) (hw : Cond.fieldLink M.1.cls index (T k).1 (T k).2.1 (T k).2.2.1 ∈ lw_tbl) (hc : vwCl[ci]? = some (C, T, N)) (hin : ∀ w ∈ u_ws C T N, w ∈ tt) (hk : k < N) (hnf : nf ci = N) (h9 : ci ≠ 99) (hf : fc ci k = d + 2) : Snd M X pc (i_getR ci d) := by
  intro nx K hn ls st σ h
  unfold i_getR at h
  split at h
  · rename_i o r
    exact get_row h.1 h9 hc hin hk hnf (fun E => by simp [fval, h.1, hf, conc]) hd hw (hn _ _ _ _ h.2)
  · exact h.elim
def i_putI (ci k : Nat) : Ins := fun nx _ pc ls st σ => match st with
  | .int v :: .ref o :: r => oc o = ci ∧ nx (pc + 3) ls r (si σ o k v)
  | _ => False
def i_putZ (ci k : Nat) : Ins := fun nx _ pc ls st σ => match st with
  | .int v :: .ref o :: r => oc o = ci ∧ (v = 0 ∨ v = 1) ∧ nx (pc + 3) ls r (si σ o k v)
  | _ => False
def i_putJ (ci k : Nat) : Ins := fun nx _ pc ls st σ => match st with
  | .long v :: .ref o :: r => oc o = ci ∧ nx (pc + 3) ls r (sj σ o k v)
  | _ => False
theorem put_row {K : Kr} {ls : List (Nat × Value)} {r : List Value} {σ σ' : St} {o ci k index N : Nat} {C : String} {T : u_T} {ty0 : Nat → FieldType} {ty : FieldType} {v : Value} (ho : oc o = ci) (h9 : ci ≠ 99) (hc : vwCl[ci]? = some (C, T, N)) (hin : ∀ w ∈ u_ws C T N, w ∈ tt) (hk : k < N) (hnf : nf ci = N) (hty : ∀ k, k < N → parseFieldDescriptor (T k).2.2.1 = some (ty0 k)) (hnm : ∀ a, a < N → ∀ b, b < N → a ≠ b → (T a).2.1 ≠ (T b).2.1) (hfin : (T k).2.2.2 = false) (hdd : parseFieldDescriptor (T k).2.2.1 = some ty) (hnar : narrow ty v = v) (hfit : fits ty v = true)
    (hset : ∀ E, conc E v = v ∧ (cells E σ).set o (ea E o, .inr (ci, ((List.range (nf ci)).map (fval E σ o)).set k v)) = cells E σ') (hd : decode M.2.1 pc = .ok (.putfield index, 3)) (hw : Cond.fieldLink M.1.cls index (T k).1 (T k).2.1 (T k).2.2.1 ∈ lw_tbl)
    (h : VW M X K (pc + 3) ls r σ') : VW M X K pc ls (v :: .ref o :: r) σ := by
  intro l E p e R s m args below meth c A cs sl Q C H locs lv hP hS hl
  have hD : va_D A (cells E σ) := cells_D C.2.2.2.2.2.1.2.1 C.2.2.2.2.2.1.2.2.1
  have hv := (hset E).1
  show W p l e R s m args below meth c H locs cs sl Q (F0 m pc lv (conc E v :: .ref (ea E o) :: r.map (conc E)))
  rw [hv]
  refine va_put (D := eD E) (ci := ci) (v := v) (ty := ty) (N := N) C.1 C.2.1 C.2.2.2.2.1 hin ty0 hty hnm C.2.2.2.1 C.2.2.2.2.2.1.1 hP hD hS o (cell_obj ho h9) hc k hk (C.2.2.2.2.1 _ (tt_mem hw rfl)) (fun _ q => q) hfin hdd hnar hfit ?_ hd (fun H1 locs1 hP1 hD1 hS1 => ?_)
  · rw [List.length_map, List.length_range]; omega
  · rw [(hset E).2] at hP1
    exact h l E p e R s m args below meth c A cs sl Q C H1 locs1 lv hP1 hS1 hl
theorem snd_putI {ci k index N : Nat} {C : String} {T : u_T} {ty0 : Nat → FieldType} (hd : decode M.2.1 pc = .ok (.putfield index, 3)) (hw : Cond.fieldLink M.1.cls index (T k).1 (T k).2.1 (T k).2.2.1 ∈ lw_tbl) (hc : vwCl[ci]? = some (C, T, N)) (hin : ∀ w ∈ u_ws C T N, w ∈ tt) (hk : k < N) (hnf : nf ci = N) (h9 : ci ≠ 99) (hf : fc ci k = 0) (hty : ∀ k, k < N → parseFieldDescriptor (T k).2.2.1 = some (ty0 k)) (hnm : ∀ a, a < N → ∀ b, b < N → a ≠ b → (T a).2.1 ≠ (T b).2.1) (hfin : (T k).2.2.2 = false) (hdd : parseFieldDescriptor (T k).2.2.1 = some .int) : Snd M X pc (i_putI ci k) := by
  intro nx K hn ls st σ h
  unfold i_putI at h
  split at h
  · rename_i v o r
    exact put_row h.1 h9 hc hin hk hnf hty hnm hfin hdd rfl rfl (fun E => ⟨rfl, set_fldI h.1 h9 hf⟩) hd hw (hn _ _ _ _ h.2)
  · exact h.elim
theorem snd_putZ {ci k index N : Nat} {C : String} {T : u_T} {ty0 : Nat → FieldType} (hd : decode M.2.1 pc = .ok (.putfield index, 3)) (hw : Cond.fieldLink M.1.cls index (T k).1 (T k).2.1 (T k).2.2.1 ∈ lw_tbl) (hc : vwCl[ci]? = some (C, T, N)) (hin : ∀ w ∈ u_ws C T N, w ∈ tt) (hk : k < N) (hnf : nf ci = N) (h9 : ci ≠ 99) (hf : fc ci k = 0) (hty : ∀ k, k < N → parseFieldDescriptor (T k).2.2.1 = some (ty0 k)) (hnm : ∀ a, a < N → ∀ b, b < N → a ≠ b → (T a).2.1 ≠ (T b).2.1) (hfin : (T k).2.2.2 = false) (hdd : parseFieldDescriptor (T k).2.2.1 = some .boolean) : Snd M X pc (i_putZ ci k) := by
  intro nx K hn ls st σ h
  unfold i_putZ at h
  split at h
  · rename_i v o r
    exact put_row h.1 h9 hc hin hk hnf hty hnm hfin hdd (by rcases h.2.1 with q | q <;> subst q <;> rfl) (by rcases h.2.1 with q | q <;> subst q <;> rfl) (fun E => ⟨rfl, set_fldI h.1 h9 hf⟩) hd hw (hn _ _ _ _ h.2.2)
  · exact h.elim
theorem snd_putJ {ci k index N : Nat} {C : String} {T : u_T} {ty0 : Nat → FieldType} (hd : decode M.2.1 pc = .ok (.putfield index, 3)) (hw : Cond.fieldLink M.1.cls index (T k).1 (T k).2.1 (T k).2.2.1 ∈ lw_tbl) (hc : vwCl[ci]? = some (C, T, N)) (hin : ∀ w ∈ u_ws C T N, w ∈ tt) (hk : k < N) (hnf : nf ci = N) (h9 : ci ≠ 99) (hf : fc ci k = 1) (hty : ∀ k, k < N → parseFieldDescriptor (T k).2.2.1 = some (ty0 k)) (hnm : ∀ a, a < N → ∀ b, b < N → a ≠ b → (T a).2.1 ≠ (T b).2.1) (hfin : (T k).2.2.2 = false) (hdd : parseFieldDescriptor (T k).2.2.1 = some .long) : Snd M X pc (i_putJ ci k) := by
  intro nx K hn ls st σ h
  unfold i_putJ at h
  split at h
  · rename_i v o r
    exact put_row h.1 h9 hc hin hk hnf hty hnm hfin hdd rfl rfl (fun E => ⟨rfl, set_fldJ h.1 h9 hf⟩) hd hw (hn _ _ _ _ h.2)
  · exact h.elim
end
