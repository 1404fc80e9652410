/-! ===== calls of the constructors' machine ===== -/
theorem fm_of {ws w : va_W} {is : List Nat} (hs : is.map (fun i => ws[i]?) = w.map some) : is.filterMap (fun i => ws[i]?) = w := by
  have : is.filterMap (fun i => ws[i]?) = (is.map (fun i => ws[i]?)).filterMap id := by rw [List.filterMap_map]; rfl
  rw [this, hs, List.filterMap_map]
  exact List.filterMap_some
section
variable {B : BG} {M : MD} {mc ms : Nat} {K : Kw} {pc : Nat} {ls : List (Nat × Value)} {st : List Value} {tys : Tys} {ws : va_W} {cs sl : Nat}
theorem VC.tsub {tys' : Tys} (h : VC B M mc ms K pc ls st tys' ws cs sl) (is : List Nat) (hs : is.filterMap (fun i => tys[i]?) = tys') : VC B M mc ms K pc ls st tys ws cs sl :=
  fun l p e R s m args below meth c A Q C hK H locs lv hP hD hS hl => h l p e R s m args below meth c A Q C (hK.sub is hs) H locs lv hP hD hS hl
theorem VC.wsub {ws' : va_W} (h : VC B M mc ms K pc ls st tys ws' cs sl) (is : List Nat) (hn : va_nd is = true) (hs : is.map (fun i => ws[i]?) = ws'.map some) : VC B M mc ms K pc ls st tys ws cs sl :=
  fun l p e R s m args below meth c A Q C hK H locs lv hP hD hS hl => h l p e R s m args below meth c A Q C hK H locs lv (hP.sub is (fm_of hs)) (hD.sub is hn hs) hS hl
theorem vc_join {K' : Kw} {mc' ms' : Nat} {wc wr : va_W} {isC isR : List Nat} {rest st0 : List Value} {aa : Array Value} (hC : isC.map (fun i => ws[i]?) = wc.map some) (hR : isR.map (fun i => ws[i]?) = wr.map some) (hnC : va_nd isC = true) (hn : va_nd isR = true) (hdis : ∀ i ∈ isR, i ∉ isC)
    (run : ∀ (l : Launch) (p : Program) (e : Env) (R : Room) (s : State) (m : MethodId) (args : Array Value) (below : List Frame) (meth : Method) (c : Code) (A : Nat → Prop) (Q : State → Prop), CxC B M K mc ms l p e R s m args below meth c A Q → ∀ (H : Heap) (locs : List Loc) (lv : Array Slot), lv_has lv M.2.2.1 ls → va_P (gD B) vwCl wc H → va_D A wc → va_K (gD B) vwCl (t3 B) s → (∀ U : State, U.heap = H → s.WarmedH U.vm → KB B (va_A wc H.size) U) → va_Run p l e R s m args below meth c H locs cs sl mc' ms' (F0 m pc lv st0) rest (QC B K' (va_A wc H.size) aa) (va_A wc H.size))
    (h : ∀ r tys' ws', K' r tys' ws' → VC B M mc ms K (pc + 3) ls (r.toList ++ rest) (tys ++ tys') (wr ++ ws') (cs + mc') (sl + ms')) : VC B M mc ms K pc ls st0 tys ws cs sl := by
  intro l p e R s m args below meth c A Q C hK H locs lv hP hD hS hl
  have hFc := va_free (wc := wc) hD hS C.2.2.2.2.2.2.1 isC hC
  have hr := run l p e R s m args below meth c A Q C H locs lv hl (hP.sub isC (fm_of hC)) (hD.sub isC hnC hC) C.2.2.2.2.2.1.1 (fun U hU hW => C.2.2.2.2.2.1.call hS hFc hU hW)
  intro T hT X'
  obtain ⟨v, st₀, t, T', L, h0, X', hL, e1, e2, ⟨⟨r, tys', ws', hv, hp, hK1, hP1, hD1⟩, hz, hk⟩, st⟩ := hr T hT X'
  have hv : v = r := by injection hv
  subst hv
  rw [h0] at hz hk
  obtain ⟨hP2, hD2⟩ := va_join (wr := wr) (w1 := ws') (H1 := t.heap) hP hD isC isR hC hR hn hdis hk hFc hP1 hD1
  have hA : s.vm.Alike t.vm := by rw [← e2]; exact X'.warmed.alike
  obtain ⟨t2, a1, b1⟩ := h v tys' ws' hp l p e R s m args below meth c A Q C (hK.app (va_K.moved hA.symm hK1)) T'.heap (locs ++ L) lv (by rw [e1]; exact hP2) hD2
    ⟨Nat.le_trans hS.1 (by rw [e1]; exact hz), fun q h1 h2 => by rw [e1, hk q (Nat.lt_of_lt_of_le h1 hS.1) (fun z => h2 (hFc q z))]; exact hS.2.1 q h1 h2, fun q hq => by
      rcases List.mem_append.mp hq with h | h
      · exact hS.2.2 q h
      · exact hFc _ (hL q h)⟩ hl T' rfl X'
  exact ⟨t2, st t2 a1, b1⟩
theorem pc_blind {M' : MD} {av : List Value} {wc : va_W} {sz : Nat} : FrameBlind (va_Pc av (fun U => U.heap.size = sz ∧ va_P (gD B) vwCl wc U.heap ∧ va_D (fun _ => True) wc ∧ KB B (va_A wc sz) U)) := by
  intro a U g mk hq
  exact ⟨hq.1, hq.2.1, hq.2.2.1, hq.2.2.2.1, hq.2.2.2.2.blind⟩
theorem cat_sum (r : List Value) : (r.map fun v => v.category).sum = wsum r := by
  induction r with
  | nil => rfl
  | cons v r ih => simp only [List.map_cons, List.sum_cons, wsum, ih]
theorem vc_invI {M' : MD} {K' : Kw} {mc' ms' n index b : Nat} {wc wr : va_W} {isC isR : List Nat} {As rest : List Value} (hV : VK B M' (.ref b :: As) wc mc' ms' K') (hd : decode M.2.1 pc = .ok (.invokespecial index, 3)) (hlink : Cond.methodLink M.1.cls index M'.1 ∈ lw_tbl) (hinst : Cond.instanceMethod M'.1 ∈ lw_tbl) (hini : Cond.initialized M'.1.cls ∈ lw_tbl) (hcd : Cond.code M'.1 M'.2.1 M'.2.2.1 none ∈ lw_tbl) (hret : M'.2.2.2.1 = none) (hnm : M'.1.name = "<init>") (hdd : M'.1.cls ≠ "java/lang/invoke/MethodHandle" ∧ M'.1.cls ≠ "java/lang/invoke/VarHandle" ∧ (parseMethodDescriptor M'.1.desc).map (fun d => d.parameters.length) = some n) (hAs : As.length = n) (hR0 : M'.2.2.2.2 + 1 ≤ M.2.2.2.2 ∧ 19 + M'.2.2.1 + 40 * M'.2.2.2.2 ≤ 40 * M.2.2.2.2) (hw8 : wsum rest ≤ 8) (hc1 : cs + mc' ≤ mc) (hc2 : sl + ms' ≤ ms)
    (hC : isC.map (fun i => ws[i]?) = wc.map some) (hR : isR.map (fun i => ws[i]?) = wr.map some) (hnC : va_nd isC = true) (hn : va_nd isR = true) (hdis : ∀ i ∈ isR, i ∉ isC)
    (h : ∀ r tys' ws', K' r tys' ws' → VC B M mc ms K (pc + 3) ls (r.toList ++ rest) (tys ++ tys') (wr ++ ws') (cs + mc') (sl + ms')) : VC B M mc ms K pc ls (As.reverse ++ .ref b :: rest) tys ws cs sl := by
  refine vc_join (aa := (Value.ref b :: As).toArray) hC hR hnC hn hdis ?_ h
  intro l p e R s m args below meth c A Q C H locs lv hl hPc hDc hK3 hKB
  have hcd' : Cond.code M'.1 M'.2.1 M'.2.2.1 M'.2.2.2.1 ∈ lw_tbl := by rw [hret]; exact hcd
  have hr1 := C.2.2.2.2.2.2.2.1
  have hr2 := C.2.2.2.2.2.2.2.2.1
  have cw := cwI (R := R) (s := s) (args := args) (own := M.1.cls) (index := index) (y := M'.1) (bytes := M'.2.1) (maxL := M'.2.2.1) (ws := mws M') (ws' := tt) (rm := rmC M'.2.2.2.2 mc' ms') (mc := mc') (ms := ms') n C.2.2.2.2.1 (goodTT M' hcd') (by unfold mws; rw [hret]) rfl rfl (C.2.2.2.2.1 _ (tt_mem hini rfl)) (C.2.2.2.2.1 _ (tt_mem hlink rfl)) (C.2.2.2.2.1 _ (tt_mem hinst rfl)) hnm hdd ⟨by show M'.2.2.2.2 + 1 ≤ R.frames; omega, by show 8 + (M'.2.2.1 + 11) + 40 * M'.2.2.2.2 ≤ R.locals; omega⟩
  exact va_runI ⟨C.1, C.2.1, C.2.2.1, C.2.2.2.1, C.2.2.2.2.1⟩ (hV l H.size) cw ⟨pc_blind (M' := M'), fun U hU hW => ⟨rfl, by rw [hU], by rw [hU]; exact hPc, hDc.weaken (fun _ _ _ _ => trivial), hKB U hU hW⟩⟩ rfl hAs hl.1 rfl (lv_room (by rw [cat_sum]; exact hw8)) hd ⟨by omega, by omega⟩
theorem vc_invIN {M' : MD} {K' : Kw} {mc' ms' n index b : Nat} {wc wr : va_W} {isC isR : List Nat} {As rest : List Value} (hV : VK B M' (.ref b :: As) wc mc' ms' K') (hd : decode M.2.1 pc = .ok (.invokespecial index, 3)) (hlink : Cond.methodLinkNest M.1.cls index M'.1 "DreamShares" ∈ nestI) (hinst : Cond.instanceMethod M'.1 ∈ lw_tbl) (hini : Cond.initialized M'.1.cls ∈ lw_tbl) (hcd : Cond.code M'.1 M'.2.1 M'.2.2.1 none ∈ lw_tbl) (hret : M'.2.2.2.1 = none) (hnm : M'.1.name = "<init>") (hdd : M'.1.cls ≠ "java/lang/invoke/MethodHandle" ∧ M'.1.cls ≠ "java/lang/invoke/VarHandle" ∧ (parseMethodDescriptor M'.1.desc).map (fun d => d.parameters.length) = some n) (hAs : As.length = n) (hR0 : M'.2.2.2.2 + 1 ≤ M.2.2.2.2 ∧ 19 + M'.2.2.1 + 40 * M'.2.2.2.2 ≤ 40 * M.2.2.2.2) (hw8 : wsum rest ≤ 8) (hc1 : cs + mc' ≤ mc) (hc2 : sl + ms' ≤ ms)
    (hC : isC.map (fun i => ws[i]?) = wc.map some) (hR : isR.map (fun i => ws[i]?) = wr.map some) (hnC : va_nd isC = true) (hn : va_nd isR = true) (hdis : ∀ i ∈ isR, i ∉ isC)
    (h : ∀ r tys' ws', K' r tys' ws' → VC B M mc ms K (pc + 3) ls (r.toList ++ rest) (tys ++ tys') (wr ++ ws') (cs + mc') (sl + ms')) : VC B M mc ms K pc ls (As.reverse ++ .ref b :: rest) tys ws cs sl := by
  refine vc_join (aa := (Value.ref b :: As).toArray) hC hR hnC hn hdis ?_ h
  intro l p e R s m args below meth c A Q C H locs lv hl hPc hDc hK3 hKB
  have hcd' : Cond.code M'.1 M'.2.1 M'.2.2.1 M'.2.2.2.1 ∈ lw_tbl := by rw [hret]; exact hcd
  have hr1 := C.2.2.2.2.2.2.2.1
  have hr2 := C.2.2.2.2.2.2.2.2.1
  have cw : va_CN R s args M.1.cls index M'.1 "DreamShares" M'.2.1 M'.2.2.1 none (mws M') (rmC M'.2.2.2.2 mc' ms') mc' ms' n := va_cnB (ws' := tt) n C.2.2.2.2.1 (goodTT M' hcd') (by unfold mws; rw [hret]) rfl rfl (C.2.2.2.2.2.1.2.2.2.2.1 _ hlink) (C.2.2.2.2.1 _ (tt_mem hini rfl)) hdd ⟨by show M'.2.2.2.2 + 1 ≤ R.frames; omega, by show 8 + (M'.2.2.1 + 11) + 40 * M'.2.2.2.2 ≤ R.locals; omega⟩
  exact va_runIN ⟨C.1, C.2.1, C.2.2.1, C.2.2.2.1, C.2.2.2.2.1⟩ (hV l H.size) ⟨cw, hnm, C.2.2.2.2.1 _ (tt_mem hinst rfl)⟩ ⟨pc_blind (M' := M'), fun U hU hW => ⟨rfl, by rw [hU], by rw [hU]; exact hPc, hDc.weaken (fun _ _ _ _ => trivial), hKB U hU hW⟩⟩ rfl hAs hl.1 rfl (lv_room (by rw [cat_sum]; exact hw8)) hd ⟨by omega, by omega⟩
theorem vc_invV {M' : MD} {K' : Kw} {mc' ms' n index b ci N q0 : Nat} {T : u_T} {fs : List Value} {wc wr : va_W} {isC isR : List Nat} {As rest : List Value} (hV : VK B M' (.ref b :: As) wc mc' ms' K') (hd : decode M.2.1 pc = .ok (.invokevirtual index, 3)) (hlink : Cond.methodLink M.1.cls index M'.1 ∈ lw_tbl) (hinst : Cond.instanceMethod M'.1 ∈ lw_tbl) (hsel : Cond.selects M'.1.cls M'.1 M'.1 ∈ lw_tbl) (hini : Cond.initialized M'.1.cls ∈ lw_tbl) (hcd : Cond.code M'.1 M'.2.1 M'.2.2.1 M'.2.2.2.1 ∈ lw_tbl) (hc : vwCl[ci]? = some (M'.1.cls, T, N)) (hb : wc[q0]? = some (b, .inr (ci, fs))) (hdd : M'.1.cls ≠ "java/lang/invoke/MethodHandle" ∧ M'.1.cls ≠ "java/lang/invoke/VarHandle" ∧ (parseMethodDescriptor M'.1.desc).map (fun d => d.parameters.length) = some n) (hAs : As.length = n) (hR0 : M'.2.2.2.2 + 1 ≤ M.2.2.2.2 ∧ 19 + M'.2.2.1 + 40 * M'.2.2.2.2 ≤ 40 * M.2.2.2.2) (hw8 : wsum rest ≤ 8) (hc1 : cs + mc' ≤ mc) (hc2 : sl + ms' ≤ ms)
    (hC : isC.map (fun i => ws[i]?) = wc.map some) (hR : isR.map (fun i => ws[i]?) = wr.map some) (hnC : va_nd isC = true) (hn : va_nd isR = true) (hdis : ∀ i ∈ isR, i ∉ isC)
    (h : ∀ r tys' ws', K' r tys' ws' → VC B M mc ms K (pc + 3) ls (r.toList ++ rest) (tys ++ tys') (wr ++ ws') (cs + mc') (sl + ms')) : VC B M mc ms K pc ls (As.reverse ++ .ref b :: rest) tys ws cs sl := by
  refine vc_join (aa := (Value.ref b :: As).toArray) hC hR hnC hn hdis ?_ h
  intro l p e R s m args below meth c A Q C H locs lv hl hPc hDc hK3 hKB
  have hr1 := C.2.2.2.2.2.2.2.1
  have hr2 := C.2.2.2.2.2.2.2.2.1
  have cw : CallW R s args M.1.cls M'.1.cls index M'.1 M'.2.1 M'.2.2.1 M'.2.2.2.1 (mws M') (rmC M'.2.2.2.2 mc' ms') mc' ms' n :=
    ⟨callB_of (ws' := tt) n C.2.2.2.2.1 (goodTT M' hcd) rfl rfl rfl (C.2.2.2.2.1 _ (tt_mem hini rfl)) (C.2.2.2.2.1 _ (tt_mem hlink rfl)) hdd ⟨by show M'.2.2.2.2 + 1 ≤ R.frames; omega, by show 8 + (M'.2.2.1 + 11) + 40 * M'.2.2.2.2 ≤ R.locals; omega⟩, C.2.2.2.2.1 _ (tt_mem hinst rfl), C.2.2.2.2.1 _ (tt_mem hsel rfl)⟩
  exact va_runV ⟨C.1, C.2.1, C.2.2.1, C.2.2.2.1, C.2.2.2.2.1⟩ (hV l H.size) cw ⟨pc_blind (M' := M'), va_recv hK3 hPc hc hb, fun U hU hW => ⟨rfl, by rw [hU], by rw [hU]; exact hPc, hDc.weaken (fun _ _ _ _ => trivial), hKB U hU hW⟩⟩ rfl hAs hl.1 rfl (lv_room (by rw [cat_sum]; exact hw8)) hd ⟨by omega, by omega⟩
end
