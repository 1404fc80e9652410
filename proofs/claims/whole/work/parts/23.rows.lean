/-! ===== part 23: rows, may, likeliest, worth ===== -/
def cd4 (f w g h : Nat) : Nat := f + 7 * w + 49 * g + 343 * h
def plX (a b c d : Int32) : Int32 := (a + (b + (c + d))) * (a + (b + (c + d)) + 1) * (a + (b + (c + d)) + 2) * (a + (b + (c + d)) + 3) / 24 + (b + (c + d)) * (b + (c + d) + 1) * (b + (c + d) + 2) / 6 + (c + d) * (c + d + 1) / 2 + d
theorem cd4_b : (List.range 7).all (fun f => (List.range 7).all (fun w => (List.range 7).all (fun g => (List.range 7).all (fun h => decide (cd4 f w g h < 2401) && decide (dg (cd4 f w g h) 0 = f) && decide (dg (cd4 f w g h) 1 = w) && decide (dg (cd4 f w g h) 2 = g) && decide (dg (cd4 f w g h) 3 = h) && (!decide (f + w + g + h ≤ 6) || decide (plX (nI f) (nI w) (nI g) (nI h) = nI (pl (cd4 f w g h)))))))) = true := by decide +kernel
theorem cd4_spec {f w g h : Nat} (hf : f ≤ 6) (hw : w ≤ 6) (hg : g ≤ 6) (hh : h ≤ 6) : cd4 f w g h < 2401 ∧ dg (cd4 f w g h) 0 = f ∧ dg (cd4 f w g h) 1 = w ∧ dg (cd4 f w g h) 2 = g ∧ dg (cd4 f w g h) 3 = h ∧ (f + w + g + h ≤ 6 → plX (nI f) (nI w) (nI g) (nI h) = nI (pl (cd4 f w g h))) := by
  have h1 := all_lt (all_lt (all_lt (all_lt cd4_b (show f < 7 by omega)) (show w < 7 by omega)) (show g < 7 by omega)) (show h < 7 by omega)
  simp only [Bool.and_eq_true, decide_eq_true_eq, Bool.or_eq_true, Bool.not_eq_true', decide_eq_false_iff_not] at h1
  obtain ⟨⟨⟨⟨⟨a, b⟩, c⟩, d⟩, e⟩, k⟩ := h1
  refine ⟨a, b, c, d, e, fun q => ?_⟩
  rcases k with k | k
  · exact absurd q k
  · exact k
theorem cd4_sz {f w g h : Nat} (hf : f ≤ 6) (hw : w ≤ 6) (hg : g ≤ 6) (hh : h ≤ 6) : sz (cd4 f w g h) = f + w + g + h := by
  obtain ⟨-, a, b, c, d, -⟩ := cd4_spec hf hw hg hh
  unfold sz
  rw [a, b, c, d]
theorem v4_placeN {f w g h : Nat} {σ : St} {K : Kr} (hs : f + w + g + h ≤ 6) (hK : K (some (.int (nI (pl (cd4 f w g h))))) σ) : VM M4_place [.ref 15, .int (nI f), .int (nI w), .int (nI g), .int (nI h)] σ K := by
  refine v4_place ?_
  have e := (cd4_spec (f := f) (w := w) (g := g) (h := h) (by omega) (by omega) (by omega) (by omega)).2.2.2.2.2 hs
  unfold plX at e
  rw [e]
  exact hK
def dl (t c : Nat) : Int := if c = t then 1 else 0
theorem dl01 (t : Nat) : V01 (dl t) := fun c _ _ => by unfold dl; split <;> decide
theorem lay_dl {σ : St} {n t : Nat} (hn : n ≤ 6) (ht : t < 2401) (hts : sz t = n) : ∀ c, c < 2401 → sz c = n → (sL σ 13 (fun i => if sS n ≤ i ∧ i < sS (n + 1) then (if i = pl t then 1 else 0) else σ.2 13 i)).2 13 (pl c) = Int64.ofInt (dl t c) := by
  intro c hc hcs
  obtain ⟨u1, -, u3, u4⟩ := pl_spec hc (by omega)
  obtain ⟨t1, -, -, -⟩ := pl_spec ht (by omega)
  rw [hcs] at u3 u4
  rw [sL_2, if_pos rfl, if_pos ⟨u3, u4⟩]
  unfold dl
  by_cases e : c = t
  · subst e
    rw [if_pos rfl, if_pos rfl]
    rfl
  · have : ¬ pl c = pl t := fun q => e (by rw [← u1, q, t1])
    rw [if_neg this, if_neg e]
    rfl
theorem pool6 {f w g h : Nat} (hf : f ≤ 6) (hw : w ≤ 6) (hg : g ≤ 6) (hh : h ≤ 6) : ((0 : Int32) ≤ nI f ∧ nI f ≤ 6) ∧ ((0 : Int32) ≤ nI w ∧ nI w ≤ 6) ∧ ((0 : Int32) ≤ nI g ∧ nI g ≤ 6) ∧ (0 : Int32) ≤ nI h ∧ nI h ≤ 6 := by
  have k : ∀ x, x ≤ 6 → (0 : Int32) ≤ nI x ∧ nI x ≤ 6 := by decide
  exact ⟨k f hf, k w hw, k g hg, k h hh⟩
theorem pool_of {x y z t : Int32} (h : (0 ≤ x ∧ x ≤ 6) ∧ (0 ≤ y ∧ y ≤ 6) ∧ (0 ≤ z ∧ z ≤ 6) ∧ 0 ≤ t ∧ t ≤ 6) : ∃ f w g h : Nat, f ≤ 6 ∧ w ≤ 6 ∧ g ≤ 6 ∧ h ≤ 6 ∧ x = nI f ∧ y = nI w ∧ z = nI g ∧ t = nI h := by
  have k : ∀ x : Int32, 0 ≤ x ∧ x ≤ 6 → ∃ j : Nat, j ≤ 6 ∧ x = nI j := fun x hx => nI_of2 (M := 6) (n := 6) rfl (by have := hx.1; grind) hx.2
  obtain ⟨f, f1, f2⟩ := k x h.1
  obtain ⟨w, w1, w2⟩ := k y h.2.1
  obtain ⟨g, g1, g2⟩ := k z h.2.2.1
  obtain ⟨j, j1, j2⟩ := k t h.2.2.2
  exact ⟨f, w, g, j, f1, w1, g1, j1, f2, w2, g2, j2⟩
theorem sum4 (f w g h : Nat) : nI f + nI w + nI g + nI h = nI (f + w + g + h) := by rw [nI_add, nI_add, nI_add]
/-! rows -/
def rowsS (w : Nat → Nat → Nat) (n c : Nat) : Int := if sz c = n then F (w1 w) (dl c) (Tm (al n) 0 n) 0 else 0
theorem al_len : ∀ n, n < 7 → (Tm (al n) 0 n).length = n := by decide +kernel
theorem i64_i32 (x : Int) : (Int64.ofInt x).toInt32 = Int32.ofInt x := Int64.toInt32_ofInt
theorem v8_rows_bad {σ : St} {K : Kr} {x y z t : Int32} (hb : ¬ ((0 ≤ x ∧ x ≤ 6) ∧ (0 ≤ y ∧ y ≤ 6) ∧ (0 ≤ z ∧ z ≤ 6) ∧ 0 ≤ t ∧ t ≤ 6)) (h : K (some (.int (-2))) σ) : VM M8_rows [.ref 0, .int x, .int y, .int z, .int t] σ K := by
  refine vm_run s8_rows n8_rows (fun _ => false) 1000 (fun E => Nat.le_of_ble_eq_true rfl) ?_
  set_option maxRecDepth 100000 in simp (decide := true) only [c8_rows, run_s, nxt_e, ap_const, ap_lconst, ap_ild, ap_lld, ap_ald, ap_ist, ap_lst, ap_ast, ap_iinc, ap_iadd, ap_isub, ap_imul, ap_iand, ap_ior, ap_ixor, ap_ishl, ap_ishr, ap_iushr, ap_idiv, ap_irem, ap_ineg, ap_ladd, ap_lsub, ap_lmul, ap_ldiv, ap_lrem, ap_lneg, ap_lcmp, ap_i2l, ap_l2i, ap_i2b, ap_i2s, ap_dup_int, ap_pop_int, ap_dup_ref, ap_pop_ref, ap_dup2, ap_ceq, ap_cne, ap_clt, ap_cge, ap_cgt, ap_cle, ap_zeq, ap_zne, ap_zlt, ap_zge, ap_zgt, ap_zle, ap_goto, ap_tsw, ap_lsw, ap_getI, ap_getJ, ap_getR, ap_putI, ap_putZ, ap_putJ, ap_iald, ap_lald, ap_bald, ap_aald, ap_iast, ap_last, ap_bast, ap_alen, ap_gst, ap_iret, ap_zret, ap_lret, ap_vret, ap_aret, ap_lmax, ap_labs, ap_acopy, ap_invV0, ap_invS0, ap_invV1, ap_invS1, ap_invV2, ap_invS2, ap_invV3, ap_invS3, ap_invV4, ap_invS4, ap_invV5, ap_invS5, tcnT, ocT, lenIT, lenWT, lenLT, lenVT, lenZT, startfT, vpL, sa_1, sa_2, sL_1, sL_2, si_1, si_2, sj_1, sj_2, ldI_e, ldL_e, ldA_e, inC_e, lk, st1, st2, rm1, rm2, Value.category, ctn_some, ctn_none, wsum, lv_args, Int32.reduceAdd, Int32.reduceSub, Int32.reduceMul, Nat.reduceAdd, Nat.reduceLT, Nat.reduceLeDiff, Nat.reduceEqDiff, Nat.reduceBEq, ↓reduceIte, true_and, and_true, Bool.false_eq_true, true_implies, false_implies, not_true_eq_false, not_false_eq_true, Bool.or_true, Bool.or_false, Bool.true_or, Bool.false_or]
  refine v8_isPool ?_
  rw [bI_f hb]
  set_option maxRecDepth 100000 in simp (decide := true) only [c8_rows, run_s, nxt_e, ap_const, ap_lconst, ap_ild, ap_lld, ap_ald, ap_ist, ap_lst, ap_ast, ap_iinc, ap_iadd, ap_isub, ap_imul, ap_iand, ap_ior, ap_ixor, ap_ishl, ap_ishr, ap_iushr, ap_idiv, ap_irem, ap_ineg, ap_ladd, ap_lsub, ap_lmul, ap_ldiv, ap_lrem, ap_lneg, ap_lcmp, ap_i2l, ap_l2i, ap_i2b, ap_i2s, ap_dup_int, ap_pop_int, ap_dup_ref, ap_pop_ref, ap_dup2, ap_ceq, ap_cne, ap_clt, ap_cge, ap_cgt, ap_cle, ap_zeq, ap_zne, ap_zlt, ap_zge, ap_zgt, ap_zle, ap_goto, ap_tsw, ap_lsw, ap_getI, ap_getJ, ap_getR, ap_putI, ap_putZ, ap_putJ, ap_iald, ap_lald, ap_bald, ap_aald, ap_iast, ap_last, ap_bast, ap_alen, ap_gst, ap_iret, ap_zret, ap_lret, ap_vret, ap_aret, ap_lmax, ap_labs, ap_acopy, ap_invV0, ap_invS0, ap_invV1, ap_invS1, ap_invV2, ap_invS2, ap_invV3, ap_invS3, ap_invV4, ap_invS4, ap_invV5, ap_invS5, tcnT, ocT, lenIT, lenWT, lenLT, lenVT, lenZT, startfT, vpL, sa_1, sa_2, sL_1, sL_2, si_1, si_2, sj_1, sj_2, ldI_e, ldL_e, ldA_e, inC_e, lk, st1, st2, rm1, rm2, Value.category, ctn_some, ctn_none, wsum, lv_args, Int32.reduceAdd, Int32.reduceSub, Int32.reduceMul, Nat.reduceAdd, Nat.reduceLT, Nat.reduceLeDiff, Nat.reduceEqDiff, Nat.reduceBEq, ↓reduceIte, true_and, and_true, Bool.false_eq_true, true_implies, false_implies, not_true_eq_false, not_false_eq_true, Bool.or_true, Bool.or_false, Bool.true_or, Bool.false_or]
  exact h
theorem v8_rowsN {σ : St} {K : Kr} {n f w g h : Nat} (hv : CV σ n) (hf : f ≤ 6) (hw : w ≤ 6) (hg : g ≤ 6) (hh : h ≤ 6) (hK : ∀ σ', sm [13, 14] σ σ' → K (some (.int (Int32.ofInt (rowsS (ww σ) n (cd4 f w g h))))) σ') : VM M8_rows [.ref 0, .int (nI f), .int (nI w), .int (nI g), .int (nI h)] σ K := by
  have hn := hv.1.1
  have ha := al_lt n (by omega)
  have hsz := cd4_sz hf hw hg hh
  obtain ⟨hc, -⟩ := cd4_spec hf hw hg hh
  refine vm_run s8_rows n8_rows (fun _ => false) 1000 (fun E => Nat.le_of_ble_eq_true rfl) ?_
  set_option maxRecDepth 100000 in simp (decide := true) only [c8_rows, run_s, nxt_e, ap_const, ap_lconst, ap_ild, ap_lld, ap_ald, ap_ist, ap_lst, ap_ast, ap_iinc, ap_iadd, ap_isub, ap_imul, ap_iand, ap_ior, ap_ixor, ap_ishl, ap_ishr, ap_iushr, ap_idiv, ap_irem, ap_ineg, ap_ladd, ap_lsub, ap_lmul, ap_ldiv, ap_lrem, ap_lneg, ap_lcmp, ap_i2l, ap_l2i, ap_i2b, ap_i2s, ap_dup_int, ap_pop_int, ap_dup_ref, ap_pop_ref, ap_dup2, ap_ceq, ap_cne, ap_clt, ap_cge, ap_cgt, ap_cle, ap_zeq, ap_zne, ap_zlt, ap_zge, ap_zgt, ap_zle, ap_goto, ap_tsw, ap_lsw, ap_getI, ap_getJ, ap_getR, ap_putI, ap_putZ, ap_putJ, ap_iald, ap_lald, ap_bald, ap_aald, ap_iast, ap_last, ap_bast, ap_alen, ap_gst, ap_iret, ap_zret, ap_lret, ap_vret, ap_aret, ap_lmax, ap_labs, ap_acopy, ap_invV0, ap_invS0, ap_invV1, ap_invS1, ap_invV2, ap_invS2, ap_invV3, ap_invS3, ap_invV4, ap_invS4, ap_invV5, ap_invS5, tcnT, ocT, lenIT, lenWT, lenLT, lenVT, lenZT, startfT, vpL, sa_1, sa_2, sL_1, sL_2, si_1, si_2, sj_1, sj_2, ldI_e, ldL_e, ldA_e, inC_e, lk, st1, st2, rm1, rm2, Value.category, ctn_some, ctn_none, wsum, lv_args, Int32.reduceAdd, Int32.reduceSub, Int32.reduceMul, Nat.reduceAdd, Nat.reduceLT, Nat.reduceLeDiff, Nat.reduceEqDiff, Nat.reduceBEq, ↓reduceIte, true_and, and_true, Bool.false_eq_true, true_implies, false_implies, not_true_eq_false, not_false_eq_true, Bool.or_true, Bool.or_false, Bool.true_or, Bool.false_or]
  refine v8_isPool ?_
  rw [bI_t (pool6 hf hw hg hh)]
  set_option maxRecDepth 100000 in simp (decide := true) only [c8_rows, run_s, nxt_e, ap_const, ap_lconst, ap_ild, ap_lld, ap_ald, ap_ist, ap_lst, ap_ast, ap_iinc, ap_iadd, ap_isub, ap_imul, ap_iand, ap_ior, ap_ixor, ap_ishl, ap_ishr, ap_iushr, ap_idiv, ap_irem, ap_ineg, ap_ladd, ap_lsub, ap_lmul, ap_ldiv, ap_lrem, ap_lneg, ap_lcmp, ap_i2l, ap_l2i, ap_i2b, ap_i2s, ap_dup_int, ap_pop_int, ap_dup_ref, ap_pop_ref, ap_dup2, ap_ceq, ap_cne, ap_clt, ap_cge, ap_cgt, ap_cle, ap_zeq, ap_zne, ap_zlt, ap_zge, ap_zgt, ap_zle, ap_goto, ap_tsw, ap_lsw, ap_getI, ap_getJ, ap_getR, ap_putI, ap_putZ, ap_putJ, ap_iald, ap_lald, ap_bald, ap_aald, ap_iast, ap_last, ap_bast, ap_alen, ap_gst, ap_iret, ap_zret, ap_lret, ap_vret, ap_aret, ap_lmax, ap_labs, ap_acopy, ap_invV0, ap_invS0, ap_invV1, ap_invS1, ap_invV2, ap_invS2, ap_invV3, ap_invS3, ap_invV4, ap_invS4, ap_invV5, ap_invS5, tcnT, ocT, lenIT, lenWT, lenLT, lenVT, lenZT, startfT, vpL, sa_1, sa_2, sL_1, sL_2, si_1, si_2, sj_1, sj_2, ldI_e, ldL_e, ldA_e, inC_e, lk, st1, st2, rm1, rm2, Value.category, ctn_some, ctn_none, wsum, lv_args, Int32.reduceAdd, Int32.reduceSub, Int32.reduceMul, Nat.reduceAdd, Nat.reduceLT, Nat.reduceLeDiff, Nat.reduceEqDiff, Nat.reduceBEq, ↓reduceIte, true_and, and_true, Bool.false_eq_true, true_implies, false_implies, not_true_eq_false, not_false_eq_true, Bool.or_true, Bool.or_false, Bool.true_or, Bool.false_or, sum4, hv.1.2.1, nI_eq (show f + w + g + h < 2 ^ 31 by omega) (show n < 2 ^ 31 by omega)]
  refine ⟨fun q => ?_, fun q => ?_⟩
  · refine v4_placeN (by omega) ?_
    have hp := pl_spec hc (by omega)
    set_option maxRecDepth 100000 in simp (decide := true) only [c8_rows, run_s, nxt_e, ap_const, ap_lconst, ap_ild, ap_lld, ap_ald, ap_ist, ap_lst, ap_ast, ap_iinc, ap_iadd, ap_isub, ap_imul, ap_iand, ap_ior, ap_ixor, ap_ishl, ap_ishr, ap_iushr, ap_idiv, ap_irem, ap_ineg, ap_ladd, ap_lsub, ap_lmul, ap_ldiv, ap_lrem, ap_lneg, ap_lcmp, ap_i2l, ap_l2i, ap_i2b, ap_i2s, ap_dup_int, ap_pop_int, ap_dup_ref, ap_pop_ref, ap_dup2, ap_ceq, ap_cne, ap_clt, ap_cge, ap_cgt, ap_cle, ap_zeq, ap_zne, ap_zlt, ap_zge, ap_zgt, ap_zle, ap_goto, ap_tsw, ap_lsw, ap_getI, ap_getJ, ap_getR, ap_putI, ap_putZ, ap_putJ, ap_iald, ap_lald, ap_bald, ap_aald, ap_iast, ap_last, ap_bast, ap_alen, ap_gst, ap_iret, ap_zret, ap_lret, ap_vret, ap_aret, ap_lmax, ap_labs, ap_acopy, ap_invV0, ap_invS0, ap_invV1, ap_invS1, ap_invV2, ap_invS2, ap_invV3, ap_invS3, ap_invV4, ap_invS4, ap_invV5, ap_invS5, tcnT, ocT, lenIT, lenWT, lenLT, lenVT, lenZT, startfT, vpL, sa_1, sa_2, sL_1, sL_2, si_1, si_2, sj_1, sj_2, ldI_e, ldL_e, ldA_e, inC_e, lk, st1, st2, rm1, rm2, Value.category, ctn_some, ctn_none, wsum, lv_args, Int32.reduceAdd, Int32.reduceSub, Int32.reduceMul, Nat.reduceAdd, Nat.reduceLT, Nat.reduceLeDiff, Nat.reduceEqDiff, Nat.reduceBEq, ↓reduceIte, true_and, and_true, Bool.false_eq_true, true_implies, false_implies, not_true_eq_false, not_false_eq_true, Bool.or_true, Bool.or_false, Bool.true_or, Bool.false_or]
    refine v0_layOne (by omega) (by omega) ?_
    have hs1 : sm [13, 14] σ (sL σ 13 (fun i => if sS n ≤ i ∧ i < sS (n + 1) then (if i = pl (cd4 f w g h) then 1 else 0) else σ.2 13 i)) := sm.rfl'.sL (by decide)
    have hl := lay_dl (σ := σ) hn hc (by omega)
    generalize (sL σ 13 (fun i => if sS n ≤ i ∧ i < sS (n + 1) then (if i = pl (cd4 f w g h) then 1 else 0) else σ.2 13 i)) = σ1 at hs1 hl ⊢
    have hv1 := hv.sm hs1 (by decide) (by decide) (by decide) (by decide) (by decide) (by decide)
    set_option maxRecDepth 100000 in simp (decide := true) only [c8_rows, run_s, nxt_e, ap_const, ap_lconst, ap_ild, ap_lld, ap_ald, ap_ist, ap_lst, ap_ast, ap_iinc, ap_iadd, ap_isub, ap_imul, ap_iand, ap_ior, ap_ixor, ap_ishl, ap_ishr, ap_iushr, ap_idiv, ap_irem, ap_ineg, ap_ladd, ap_lsub, ap_lmul, ap_ldiv, ap_lrem, ap_lneg, ap_lcmp, ap_i2l, ap_l2i, ap_i2b, ap_i2s, ap_dup_int, ap_pop_int, ap_dup_ref, ap_pop_ref, ap_dup2, ap_ceq, ap_cne, ap_clt, ap_cge, ap_cgt, ap_cle, ap_zeq, ap_zne, ap_zlt, ap_zge, ap_zgt, ap_zle, ap_goto, ap_tsw, ap_lsw, ap_getI, ap_getJ, ap_getR, ap_putI, ap_putZ, ap_putJ, ap_iald, ap_lald, ap_bald, ap_aald, ap_iast, ap_last, ap_bast, ap_alen, ap_gst, ap_iret, ap_zret, ap_lret, ap_vret, ap_aret, ap_lmax, ap_labs, ap_acopy, ap_invV0, ap_invS0, ap_invV1, ap_invS1, ap_invV2, ap_invS2, ap_invV3, ap_invS3, ap_invV4, ap_invS4, ap_invV5, ap_invS5, tcnT, ocT, lenIT, lenWT, lenLT, lenVT, lenZT, startfT, vpL, sa_1, sa_2, sL_1, sL_2, si_1, si_2, sj_1, sj_2, ldI_e, ldL_e, ldA_e, inC_e, lk, st1, st2, rm1, rm2, Value.category, ctn_some, ctn_none, wsum, lv_args, Int32.reduceAdd, Int32.reduceSub, Int32.reduceMul, Nat.reduceAdd, Nat.reduceLT, Nat.reduceLeDiff, Nat.reduceEqDiff, Nat.reduceBEq, ↓reduceIte, true_and, and_true, Bool.false_eq_true, true_implies, false_implies, not_true_eq_false, not_false_eq_true, Bool.or_true, Bool.or_false, Bool.true_or, Bool.false_or]
    refine v8_all hv1.1 ?_
    set_option maxRecDepth 100000 in simp (decide := true) only [c8_rows, run_s, nxt_e, ap_const, ap_lconst, ap_ild, ap_lld, ap_ald, ap_ist, ap_lst, ap_ast, ap_iinc, ap_iadd, ap_isub, ap_imul, ap_iand, ap_ior, ap_ixor, ap_ishl, ap_ishr, ap_iushr, ap_idiv, ap_irem, ap_ineg, ap_ladd, ap_lsub, ap_lmul, ap_ldiv, ap_lrem, ap_lneg, ap_lcmp, ap_i2l, ap_l2i, ap_i2b, ap_i2s, ap_dup_int, ap_pop_int, ap_dup_ref, ap_pop_ref, ap_dup2, ap_ceq, ap_cne, ap_clt, ap_cge, ap_cgt, ap_cle, ap_zeq, ap_zne, ap_zlt, ap_zge, ap_zgt, ap_zle, ap_goto, ap_tsw, ap_lsw, ap_getI, ap_getJ, ap_getR, ap_putI, ap_putZ, ap_putJ, ap_iald, ap_lald, ap_bald, ap_aald, ap_iast, ap_last, ap_bast, ap_alen, ap_gst, ap_iret, ap_zret, ap_lret, ap_vret, ap_aret, ap_lmax, ap_labs, ap_acopy, ap_invV0, ap_invS0, ap_invV1, ap_invS1, ap_invV2, ap_invS2, ap_invV3, ap_invS3, ap_invV4, ap_invS4, ap_invV5, ap_invS5, tcnT, ocT, lenIT, lenWT, lenLT, lenVT, lenZT, startfT, vpL, sa_1, sa_2, sL_1, sL_2, si_1, si_2, sj_1, sj_2, ldI_e, ldL_e, ldA_e, inC_e, lk, st1, st2, rm1, rm2, Value.category, ctn_some, ctn_none, wsum, lv_args, Int32.reduceAdd, Int32.reduceSub, Int32.reduceMul, Nat.reduceAdd, Nat.reduceLT, Nat.reduceLeDiff, Nat.reduceEqDiff, Nat.reduceBEq, ↓reduceIte, true_and, and_true, Bool.false_eq_true, true_implies, false_implies, not_true_eq_false, not_false_eq_true, Bool.or_true, Bool.or_false, Bool.true_or, Bool.false_or, hv1.1.2.1]
    refine v8_foldWays (dl (cd4 f w g h)) hv1.1 hv1.2.1 ha.1 hn (Tm_len _ _ _) hl ?_
    intro σ2 hs2 hF
    have hln := al_len n (by omega)
    have hF0 := hF 0 (by decide) (by have : sz 0 = 0 := rfl; omega)
    rw [pl0, ww_sm hs1 (by decide) (by decide) (by decide)] at hF0
    set_option maxRecDepth 100000 in simp (decide := true) only [c8_rows, run_s, nxt_e, ap_const, ap_lconst, ap_ild, ap_lld, ap_ald, ap_ist, ap_lst, ap_ast, ap_iinc, ap_iadd, ap_isub, ap_imul, ap_iand, ap_ior, ap_ixor, ap_ishl, ap_ishr, ap_iushr, ap_idiv, ap_irem, ap_ineg, ap_ladd, ap_lsub, ap_lmul, ap_ldiv, ap_lrem, ap_lneg, ap_lcmp, ap_i2l, ap_l2i, ap_i2b, ap_i2s, ap_dup_int, ap_pop_int, ap_dup_ref, ap_pop_ref, ap_dup2, ap_ceq, ap_cne, ap_clt, ap_cge, ap_cgt, ap_cle, ap_zeq, ap_zne, ap_zlt, ap_zge, ap_zgt, ap_zle, ap_goto, ap_tsw, ap_lsw, ap_getI, ap_getJ, ap_getR, ap_putI, ap_putZ, ap_putJ, ap_iald, ap_lald, ap_bald, ap_aald, ap_iast, ap_last, ap_bast, ap_alen, ap_gst, ap_iret, ap_zret, ap_lret, ap_vret, ap_aret, ap_lmax, ap_labs, ap_acopy, ap_invV0, ap_invS0, ap_invV1, ap_invS1, ap_invV2, ap_invS2, ap_invV3, ap_invS3, ap_invV4, ap_invS4, ap_invV5, ap_invS5, tcnT, ocT, lenIT, lenWT, lenLT, lenVT, lenZT, startfT, vpL, sa_1, sa_2, sL_1, sL_2, si_1, si_2, sj_1, sj_2, ldI_e, ldL_e, ldA_e, inC_e, lk, st1, st2, rm1, rm2, Value.category, ctn_some, ctn_none, wsum, lv_args, Int32.reduceAdd, Int32.reduceSub, Int32.reduceMul, Nat.reduceAdd, Nat.reduceLT, Nat.reduceLeDiff, Nat.reduceEqDiff, Nat.reduceBEq, ↓reduceIte, true_and, and_true, Bool.false_eq_true, true_implies, false_implies, not_true_eq_false, not_false_eq_true, Bool.or_true, Bool.or_false, Bool.true_or, Bool.false_or, hF0, i64_i32]
    have e : F (w1 (ww σ)) (dl (cd4 f w g h)) (Tm (al n) 0 n) 0 = rowsS (ww σ) n (cd4 f w g h) := by unfold rowsS; rw [if_pos (by omega)]
    rw [e]
    exact hK σ2 (hs1.trans hs2)
  · have e : rowsS (ww σ) n (cd4 f w g h) = 0 := by unfold rowsS; rw [if_neg (by omega)]
    rw [e] at hK
    exact hK σ sm.rfl'
/-! may -/
def mbs (p : Nat → Bool) : Nat → Nat
  | 0 => 0
  | k + 1 => mbs p k ||| (if p k then 2 ^ k else 0)
def mayP (w : Nat → Nat → Nat) (n c m k : Nat) : Bool := decide (0 < w m k) && decide (0 < F (w1 w) (dl c) (oth n m) (pw k))
def mayS (w : Nat → Nat → Nat) (n c m : Nat) : Nat := if sz c = n then mbs (mayP w n c m) 4 else 0
theorem mbs_lt (p : Nat → Bool) : ∀ k, k ≤ 4 → mbs p k < 16 := by
  intro k
  induction k with
  | zero => intro _; exact (by decide : 0 < 16)
  | succ k ih =>
    intro hk
    simp only [mbs]
    exact Nat.or_lt_two_pow (n := 4) (ih (by omega)) (by split; exact (Nat.pow_lt_pow_right (by decide) (by omega)); decide)
theorem L8_may {σ : St} {K : Kr} {n m c : Nat} {l : List (Nat × Value)} {z : Value} (hv : CV σ n) (hm : m < n) (hval : ∀ k, k < 4 → σ.2 13 (pl (pw k)) = Int64.ofInt (F (w1 (ww σ)) (dl c) (oth n m) (pw k))) (hb : ∀ k, k < 4 → -2 ^ 62 < F (w1 (ww σ)) (dl c) (oth n m) (pw k) ∧ F (w1 (ww σ)) (dl c) (oth n m) (pw k) < 2 ^ 62)
    (h : K (some (.int (nI (mbs (mayP (ww σ) n c m) 4)))) σ) : ∀ (d k : Nat), k + d = 4 → VW M8_may Xt K 97 [(7, .int (nI k)), (6, .int (nI (mbs (mayP (ww σ) n c m) k))), (0, .ref 0), (5, .int (nI m))] [] σ := by
  have hn := hv.1.1
  have hm6 : m < 6 := by omega
  intro d
  induction d with
  | zero =>
    intro k hk
    have : k = 4 := by omega
    subst this
    refine run_sound s8_may (fun pc => pc == 97) _ 1000 _ _ _ _ ?_
    set_option maxRecDepth 100000 in simp (decide := true) only [c8_may, run_s, nxt_e, ap_const, ap_lconst, ap_ild, ap_lld, ap_ald, ap_ist, ap_lst, ap_ast, ap_iinc, ap_iadd, ap_isub, ap_imul, ap_iand, ap_ior, ap_ixor, ap_ishl, ap_ishr, ap_iushr, ap_idiv, ap_irem, ap_ineg, ap_ladd, ap_lsub, ap_lmul, ap_ldiv, ap_lrem, ap_lneg, ap_lcmp, ap_i2l, ap_l2i, ap_i2b, ap_i2s, ap_dup_int, ap_pop_int, ap_dup_ref, ap_pop_ref, ap_dup2, ap_ceq, ap_cne, ap_clt, ap_cge, ap_cgt, ap_cle, ap_zeq, ap_zne, ap_zlt, ap_zge, ap_zgt, ap_zle, ap_goto, ap_tsw, ap_lsw, ap_getI, ap_getJ, ap_getR, ap_putI, ap_putZ, ap_putJ, ap_iald, ap_lald, ap_bald, ap_aald, ap_iast, ap_last, ap_bast, ap_alen, ap_gst, ap_iret, ap_zret, ap_lret, ap_vret, ap_aret, ap_lmax, ap_labs, ap_acopy, ap_invV0, ap_invS0, ap_invV1, ap_invS1, ap_invV2, ap_invS2, ap_invV3, ap_invS3, ap_invV4, ap_invS4, ap_invV5, ap_invS5, tcnT, ocT, lenIT, lenWT, lenLT, lenVT, lenZT, startfT, vpL, sa_1, sa_2, sL_1, sL_2, si_1, si_2, sj_1, sj_2, ldI_e, ldL_e, ldA_e, inC_e, lk, st1, st2, rm1, rm2, Value.category, ctn_some, ctn_none, wsum, lv_args, Int32.reduceAdd, Int32.reduceSub, Int32.reduceMul, Nat.reduceAdd, Nat.reduceLT, Nat.reduceLeDiff, Nat.reduceEqDiff, Nat.reduceBEq, ↓reduceIte, true_and, and_true, Bool.false_eq_true, true_implies, false_implies, not_true_eq_false, not_false_eq_true, Bool.or_true, Bool.or_false, Bool.true_or, Bool.false_or, eq_true (show (4 : Int32) ≤ nI 4 by decide)]
    exact h
  | succ d ih =>
    intro k hk
    have hk4 : k < 4 := by omega
    have hii := ih (k + 1) (by omega)
    have hle := hv.1.wd_le (d := σ.1 29 m) hm6 hk4
    have hc : (nI (wd σ m k (σ.1 29 m)) ≤ 0) ↔ ¬ 0 < ww σ m k := by
      rw [show (0 : Int32) = nI 0 from rfl, nI_leI (by omega) (by decide)]
      have : ww σ m k = wd σ m k (σ.1 29 m) := rfl
      omega
    have hz := sz_pw k hk4
    have e0 : up 0 + pw k = pw k := by rw [up0, Nat.zero_add]
    have hcv : (Int64.ofInt (F (w1 (ww σ)) (dl c) (oth n m) (pw k)) ≤ 0) ↔ ¬ 0 < F (w1 (ww σ)) (dl c) (oth n m) (pw k) := by
      have hbk := hb k hk4
      rw [show (0 : Int64) = Int64.ofInt 0 from rfl, cmpI (by omega) (by omega)]
      omega
    have hml := mbs_lt (mayP (ww σ) n c m) k (by omega)
    refine run_sound s8_may (fun pc => pc == 97) _ 1000 _ _ _ _ ?_
    set_option maxRecDepth 100000 in simp (decide := true) only [c8_may, run_s, nxt_e, ap_const, ap_lconst, ap_ild, ap_lld, ap_ald, ap_ist, ap_lst, ap_ast, ap_iinc, ap_iadd, ap_isub, ap_imul, ap_iand, ap_ior, ap_ixor, ap_ishl, ap_ishr, ap_iushr, ap_idiv, ap_irem, ap_ineg, ap_ladd, ap_lsub, ap_lmul, ap_ldiv, ap_lrem, ap_lneg, ap_lcmp, ap_i2l, ap_l2i, ap_i2b, ap_i2s, ap_dup_int, ap_pop_int, ap_dup_ref, ap_pop_ref, ap_dup2, ap_ceq, ap_cne, ap_clt, ap_cge, ap_cgt, ap_cle, ap_zeq, ap_zne, ap_zlt, ap_zge, ap_zgt, ap_zle, ap_goto, ap_tsw, ap_lsw, ap_getI, ap_getJ, ap_getR, ap_putI, ap_putZ, ap_putJ, ap_iald, ap_lald, ap_bald, ap_aald, ap_iast, ap_last, ap_bast, ap_alen, ap_gst, ap_iret, ap_zret, ap_lret, ap_vret, ap_aret, ap_lmax, ap_labs, ap_acopy, ap_invV0, ap_invS0, ap_invV1, ap_invS1, ap_invV2, ap_invS2, ap_invV3, ap_invS3, ap_invV4, ap_invS4, ap_invV5, ap_invS5, tcnT, ocT, lenIT, lenWT, lenLT, lenVT, lenZT, startfT, vpL, sa_1, sa_2, sL_1, sL_2, si_1, si_2, sj_1, sj_2, ldI_e, ldL_e, ldA_e, inC_e, lk, st1, st2, rm1, rm2, Value.category, ctn_some, ctn_none, wsum, lv_args, Int32.reduceAdd, Int32.reduceSub, Int32.reduceMul, Nat.reduceAdd, Nat.reduceLT, Nat.reduceLeDiff, Nat.reduceEqDiff, Nat.reduceBEq, ↓reduceIte, true_and, and_true, Bool.false_eq_true, true_implies, false_implies, not_true_eq_false, not_false_eq_true, Bool.or_true, Bool.or_false, Bool.true_or, Bool.false_or, eq_false (show ¬ (4 : Int32) ≤ nI k from nI_ge hk4 (by decide)), vin hm6 (by decide), nIc (show m < 2 ^ 31 by omega)]
    refine v8_weightN hv.1 hm6 hk4 ?_
    set_option maxRecDepth 100000 in simp (decide := true) only [c8_may, run_s, nxt_e, ap_const, ap_lconst, ap_ild, ap_lld, ap_ald, ap_ist, ap_lst, ap_ast, ap_iinc, ap_iadd, ap_isub, ap_imul, ap_iand, ap_ior, ap_ixor, ap_ishl, ap_ishr, ap_iushr, ap_idiv, ap_irem, ap_ineg, ap_ladd, ap_lsub, ap_lmul, ap_ldiv, ap_lrem, ap_lneg, ap_lcmp, ap_i2l, ap_l2i, ap_i2b, ap_i2s, ap_dup_int, ap_pop_int, ap_dup_ref, ap_pop_ref, ap_dup2, ap_ceq, ap_cne, ap_clt, ap_cge, ap_cgt, ap_cle, ap_zeq, ap_zne, ap_zlt, ap_zge, ap_zgt, ap_zle, ap_goto, ap_tsw, ap_lsw, ap_getI, ap_getJ, ap_getR, ap_putI, ap_putZ, ap_putJ, ap_iald, ap_lald, ap_bald, ap_aald, ap_iast, ap_last, ap_bast, ap_alen, ap_gst, ap_iret, ap_zret, ap_lret, ap_vret, ap_aret, ap_lmax, ap_labs, ap_acopy, ap_invV0, ap_invS0, ap_invV1, ap_invS1, ap_invV2, ap_invS2, ap_invV3, ap_invS3, ap_invV4, ap_invS4, ap_invV5, ap_invS5, tcnT, ocT, lenIT, lenWT, lenLT, lenVT, lenZT, startfT, vpL, sa_1, sa_2, sL_1, sL_2, si_1, si_2, sj_1, sj_2, ldI_e, ldL_e, ldA_e, inC_e, lk, st1, st2, rm1, rm2, Value.category, ctn_some, ctn_none, wsum, lv_args, Int32.reduceAdd, Int32.reduceSub, Int32.reduceMul, Nat.reduceAdd, Nat.reduceLT, Nat.reduceLeDiff, Nat.reduceEqDiff, Nat.reduceBEq, ↓reduceIte, true_and, and_true, Bool.false_eq_true, true_implies, false_implies, not_true_eq_false, not_false_eq_true, Bool.or_true, Bool.or_false, Bool.true_or, Bool.false_or, hc, nI_1]
    have hstep : mbs (mayP (ww σ) n c m) (k + 1) = mbs (mayP (ww σ) n c m) k ||| (if mayP (ww σ) n c m k then 2 ^ k else 0) := rfl
    refine ⟨fun q => ?_, fun q => ?_⟩
    · have e : mayP (ww σ) n c m k = false := by unfold mayP; simp [q]
      rw [e] at hstep
      simp only [Bool.false_eq_true, if_false, Nat.or_zero] at hstep
      rw [hstep] at hii
      exact hii.sub [0, 1, 2, 3] rfl
    · refine v4_withN (i := 0) hv.2.1 (by decide) hk4 ?_
      set_option maxRecDepth 100000 in simp (decide := true) only [c8_may, run_s, nxt_e, ap_const, ap_lconst, ap_ild, ap_lld, ap_ald, ap_ist, ap_lst, ap_ast, ap_iinc, ap_iadd, ap_isub, ap_imul, ap_iand, ap_ior, ap_ixor, ap_ishl, ap_ishr, ap_iushr, ap_idiv, ap_irem, ap_ineg, ap_ladd, ap_lsub, ap_lmul, ap_ldiv, ap_lrem, ap_lneg, ap_lcmp, ap_i2l, ap_l2i, ap_i2b, ap_i2s, ap_dup_int, ap_pop_int, ap_dup_ref, ap_pop_ref, ap_dup2, ap_ceq, ap_cne, ap_clt, ap_cge, ap_cgt, ap_cle, ap_zeq, ap_zne, ap_zlt, ap_zge, ap_zgt, ap_zle, ap_goto, ap_tsw, ap_lsw, ap_getI, ap_getJ, ap_getR, ap_putI, ap_putZ, ap_putJ, ap_iald, ap_lald, ap_bald, ap_aald, ap_iast, ap_last, ap_bast, ap_alen, ap_gst, ap_iret, ap_zret, ap_lret, ap_vret, ap_aret, ap_lmax, ap_labs, ap_acopy, ap_invV0, ap_invS0, ap_invV1, ap_invS1, ap_invV2, ap_invS2, ap_invV3, ap_invS3, ap_invV4, ap_invS4, ap_invV5, ap_invS5, tcnT, ocT, lenIT, lenWT, lenLT, lenVT, lenZT, startfT, vpL, sa_1, sa_2, sL_1, sL_2, si_1, si_2, sj_1, sj_2, ldI_e, ldL_e, ldA_e, inC_e, lk, st1, st2, rm1, rm2, Value.category, ctn_some, ctn_none, wsum, lv_args, Int32.reduceAdd, Int32.reduceSub, Int32.reduceMul, Nat.reduceAdd, Nat.reduceLT, Nat.reduceLeDiff, Nat.reduceEqDiff, Nat.reduceBEq, ↓reduceIte, true_and, and_true, Bool.false_eq_true, true_implies, false_implies, not_true_eq_false, not_false_eq_true, Bool.or_true, Bool.or_false, Bool.true_or, Bool.false_or, e0, vin hz.2.2 (by decide), nIc (Nat.lt_trans hz.2.2 (by decide)), hval k hk4, lg_cmp_le, hcv, shl_c k (by omega), (or_c (mbs (mayP (ww σ) n c m) k) (by omega) k (by omega)).1, nI_1]
      refine ⟨fun q2 => ?_, fun q2 => ?_⟩
      · have e : mayP (ww σ) n c m k = false := by unfold mayP; simp [q2]
        rw [e] at hstep
        simp only [Bool.false_eq_true, if_false, Nat.or_zero] at hstep
        rw [hstep] at hii
        exact hii.sub [0, 1, 2, 3] rfl
      · have e : mayP (ww σ) n c m k = true := by
          unfold mayP
          rw [decide_eq_true (Classical.not_not.mp q), decide_eq_true (Classical.not_not.mp q2)]
          rfl
        rw [e] at hstep
        simp only [if_true] at hstep
        rw [hstep] at hii
        exact hii.sub [0, 1, 2, 3] rfl
