/-! ===== part 25: lots, nights, weeks; kept ===== -/
def nxs (s : Int32) : Int32 := 1103515245 * s + 12345
def lt16 (s : Int32) : Nat := s.toBitVec.toNat / 65536
theorem ush16 (x : Int32) : (x.toUInt32 >>> (Int32.toUInt32 16 &&& Int32.toUInt32 31)).toInt32 = nI (lt16 x) := by
  have h := pk_ushr x 16 16 (by decide)
  have hb : (nI (lt16 x)).toBitVec.toNat = lt16 x := pk_tn (by
    unfold lt16
    have := x.toBitVec.isLt
    omega)
  apply Int32.toBitVec_inj.mp
  apply BitVec.eq_of_toNat_eq
  rw [hb, h]
  rfl
theorem lt16_lt (x : Int32) : lt16 x < 65536 := by
  unfold lt16
  have := x.toBitVec.isLt
  omega
theorem v3_draw {σ : St} {K : Kr} {M : Nat} (hM : 0 < M) (hM2 : M < 2 ^ 31) (h : K (some (.int (nI (lt16 (nxs (σ.1 19 0)) % M)))) (si σ 19 0 (nxs (σ.1 19 0)))) : VM M3_draw [.ref 19, .int (nI M)] σ K := by
  have hl := lt16_lt (nxs (σ.1 19 0))
  refine vm_run s3_draw n3_draw (fun _ => false) 1000 (fun E => Nat.le_of_ble_eq_true rfl) ?_
  set_option maxRecDepth 100000 in simp (decide := true) only [c3_draw, run_s, nxt_e, ap_const, ap_lconst, ap_ild, ap_lld, ap_ald, ap_ist, ap_lst, ap_ast, ap_iinc, ap_iadd, ap_isub, ap_imul, ap_iand, ap_ior, ap_ixor, ap_ishl, ap_ishr, ap_iushr, ap_idiv, ap_irem, ap_ineg, ap_ladd, ap_lsub, ap_lmul, ap_ldiv, ap_lrem, ap_lneg, ap_lcmp, ap_i2l, ap_l2i, ap_i2b, ap_i2s, ap_dup_int, ap_pop_int, ap_dup_ref, ap_pop_ref, ap_dup2, ap_ceq, ap_cne, ap_clt, ap_cge, ap_cgt, ap_cle, ap_zeq, ap_zne, ap_zlt, ap_zge, ap_zgt, ap_zle, ap_goto, ap_tsw, ap_lsw, ap_getI, ap_getJ, ap_getR, ap_putI, ap_putZ, ap_putJ, ap_iald, ap_lald, ap_bald, ap_aald, ap_iast, ap_last, ap_bast, ap_alen, ap_gst, ap_iret, ap_zret, ap_lret, ap_vret, ap_aret, ap_lmax, ap_labs, ap_acopy, ap_invV0, ap_invS0, ap_invV1, ap_invS1, ap_invV2, ap_invS2, ap_invV3, ap_invS3, ap_invV4, ap_invS4, ap_invV5, ap_invS5, tcnT, ocT, lenIT, lenWT, lenLT, lenVT, lenZT, startfT, vpL, sa_1, sa_2, sL_1, sL_2, si_1, si_2, sj_1, sj_2, ldI_e, ldL_e, ldA_e, inC_e, lk, st1, st2, rm1, rm2, Value.category, ctn_some, ctn_none, wsum, lv_args, Int32.reduceAdd, Int32.reduceSub, Int32.reduceMul, Nat.reduceAdd, Nat.reduceLT, Nat.reduceLeDiff, Nat.reduceEqDiff, Nat.reduceBEq, ↓reduceIte, true_and, and_true, Bool.false_eq_true, true_implies, false_implies, not_true_eq_false, not_false_eq_true, Bool.or_true, Bool.or_false, Bool.true_or, Bool.false_or, eq_false (nI_nle hM hM2), upd]
  have e : (nI M = 0) = False := eq_false (nI_ne0 hM hM2)
  rw [e]
  refine ⟨fun q => q, ?_⟩
  show K (some (.int (((nxs (σ.1 19 0)).toUInt32 >>> (Int32.toUInt32 16 &&& Int32.toUInt32 31)).toInt32 - ((nxs (σ.1 19 0)).toUInt32 >>> (Int32.toUInt32 16 &&& Int32.toUInt32 31)).toInt32 / nI M * nI M))) _
  rw [ush16, pk_rem (by omega) hM hM2]
  exact h
def kb (w : Nat → Nat → Nat) (m x : Nat) : Nat := if x < w m 0 then 0 else if x < w m 0 + w m 1 then 1 else if x < w m 0 + w m 1 + w m 2 then 2 else 3
theorem kb_lt (w : Nat → Nat → Nat) (m x : Nat) : kb w m x < 4 := by
  unfold kb
  split
  · decide
  · split
    · decide
    · split <;> decide
theorem v8_kindByLot {σ : St} {K : Kr} {n m : Nat} (hv : CV σ n) (hm : m < n) (h : K (some (.int (nI (kb (ww σ) m (lt16 (nxs (σ.1 19 0)) % ws4 (ww σ) m))))) (si σ 19 0 (nxs (σ.1 19 0)))) : VM M8_kindByLot [.ref 0, .int (nI m)] σ K := by
  have hn := hv.1.1
  have hm6 : m < 6 := by omega
  have hw := hv.wsw m hm
  have hb := fun k (hk : k < 4) => hv.1.wd_le (d := σ.1 29 m) hm6 hk
  have b0 := hb 0 (by decide)
  have b1 := hb 1 (by decide)
  have b2 := hb 2 (by decide)
  have hx : lt16 (nxs (σ.1 19 0)) % ws4 (ww σ) m < 72 := by have := Nat.mod_lt (lt16 (nxs (σ.1 19 0))) hw.1; omega
  refine vm_run s8_kindByLot n8_kindByLot (fun _ => false) 1000 (fun E => Nat.le_of_ble_eq_true rfl) ?_
  set_option maxRecDepth 100000 in simp (decide := true) only [c8_kindByLot, run_s, nxt_e, ap_const, ap_lconst, ap_ild, ap_lld, ap_ald, ap_ist, ap_lst, ap_ast, ap_iinc, ap_iadd, ap_isub, ap_imul, ap_iand, ap_ior, ap_ixor, ap_ishl, ap_ishr, ap_iushr, ap_idiv, ap_irem, ap_ineg, ap_ladd, ap_lsub, ap_lmul, ap_ldiv, ap_lrem, ap_lneg, ap_lcmp, ap_i2l, ap_l2i, ap_i2b, ap_i2s, ap_dup_int, ap_pop_int, ap_dup_ref, ap_pop_ref, ap_dup2, ap_ceq, ap_cne, ap_clt, ap_cge, ap_cgt, ap_cle, ap_zeq, ap_zne, ap_zlt, ap_zge, ap_zgt, ap_zle, ap_goto, ap_tsw, ap_lsw, ap_getI, ap_getJ, ap_getR, ap_putI, ap_putZ, ap_putJ, ap_iald, ap_lald, ap_bald, ap_aald, ap_iast, ap_last, ap_bast, ap_alen, ap_gst, ap_iret, ap_zret, ap_lret, ap_vret, ap_aret, ap_lmax, ap_labs, ap_acopy, ap_invV0, ap_invS0, ap_invV1, ap_invS1, ap_invV2, ap_invS2, ap_invV3, ap_invS3, ap_invV4, ap_invS4, ap_invV5, ap_invS5, tcnT, ocT, lenIT, lenWT, lenLT, lenVT, lenZT, startfT, vpL, sa_1, sa_2, sL_1, sL_2, si_1, si_2, sj_1, sj_2, ldI_e, ldL_e, ldA_e, inC_e, lk, st1, st2, rm1, rm2, Value.category, ctn_some, ctn_none, wsum, lv_args, Int32.reduceAdd, Int32.reduceSub, Int32.reduceMul, Nat.reduceAdd, Nat.reduceLT, Nat.reduceLeDiff, Nat.reduceEqDiff, Nat.reduceBEq, ↓reduceIte, true_and, and_true, Bool.false_eq_true, true_implies, false_implies, not_true_eq_false, not_false_eq_true, Bool.or_true, Bool.or_false, Bool.true_or, Bool.false_or, vin hm6 (by decide), nIc (show m < 2 ^ 31 by omega)]
  refine v8_weights hv.1 hm6 ?_
  set_option maxRecDepth 100000 in simp (decide := true) only [c8_kindByLot, run_s, nxt_e, ap_const, ap_lconst, ap_ild, ap_lld, ap_ald, ap_ist, ap_lst, ap_ast, ap_iinc, ap_iadd, ap_isub, ap_imul, ap_iand, ap_ior, ap_ixor, ap_ishl, ap_ishr, ap_iushr, ap_idiv, ap_irem, ap_ineg, ap_ladd, ap_lsub, ap_lmul, ap_ldiv, ap_lrem, ap_lneg, ap_lcmp, ap_i2l, ap_l2i, ap_i2b, ap_i2s, ap_dup_int, ap_pop_int, ap_dup_ref, ap_pop_ref, ap_dup2, ap_ceq, ap_cne, ap_clt, ap_cge, ap_cgt, ap_cle, ap_zeq, ap_zne, ap_zlt, ap_zge, ap_zgt, ap_zle, ap_goto, ap_tsw, ap_lsw, ap_getI, ap_getJ, ap_getR, ap_putI, ap_putZ, ap_putJ, ap_iald, ap_lald, ap_bald, ap_aald, ap_iast, ap_last, ap_bast, ap_alen, ap_gst, ap_iret, ap_zret, ap_lret, ap_vret, ap_aret, ap_lmax, ap_labs, ap_acopy, ap_invV0, ap_invS0, ap_invV1, ap_invS1, ap_invV2, ap_invS2, ap_invV3, ap_invS3, ap_invV4, ap_invS4, ap_invV5, ap_invS5, tcnT, ocT, lenIT, lenWT, lenLT, lenVT, lenZT, startfT, vpL, sa_1, sa_2, sL_1, sL_2, si_1, si_2, sj_1, sj_2, ldI_e, ldL_e, ldA_e, inC_e, lk, st1, st2, rm1, rm2, Value.category, ctn_some, ctn_none, wsum, lv_args, Int32.reduceAdd, Int32.reduceSub, Int32.reduceMul, Nat.reduceAdd, Nat.reduceLT, Nat.reduceLeDiff, Nat.reduceEqDiff, Nat.reduceBEq, ↓reduceIte, true_and, and_true, Bool.false_eq_true, true_implies, false_implies, not_true_eq_false, not_false_eq_true, Bool.or_true, Bool.or_false, Bool.true_or, Bool.false_or]
  show VM M3_draw [.ref 19, .int (nI (ws4 (ww σ) m))] σ _
  refine v3_draw hw.1 (by omega) ?_
  generalize lt16 (nxs (σ.1 19 0)) % ws4 (ww σ) m = x at h hx ⊢
  set_option maxRecDepth 100000 in simp (decide := true) only [c8_kindByLot, run_s, nxt_e, ap_const, ap_lconst, ap_ild, ap_lld, ap_ald, ap_ist, ap_lst, ap_ast, ap_iinc, ap_iadd, ap_isub, ap_imul, ap_iand, ap_ior, ap_ixor, ap_ishl, ap_ishr, ap_iushr, ap_idiv, ap_irem, ap_ineg, ap_ladd, ap_lsub, ap_lmul, ap_ldiv, ap_lrem, ap_lneg, ap_lcmp, ap_i2l, ap_l2i, ap_i2b, ap_i2s, ap_dup_int, ap_pop_int, ap_dup_ref, ap_pop_ref, ap_dup2, ap_ceq, ap_cne, ap_clt, ap_cge, ap_cgt, ap_cle, ap_zeq, ap_zne, ap_zlt, ap_zge, ap_zgt, ap_zle, ap_goto, ap_tsw, ap_lsw, ap_getI, ap_getJ, ap_getR, ap_putI, ap_putZ, ap_putJ, ap_iald, ap_lald, ap_bald, ap_aald, ap_iast, ap_last, ap_bast, ap_alen, ap_gst, ap_iret, ap_zret, ap_lret, ap_vret, ap_aret, ap_lmax, ap_labs, ap_acopy, ap_invV0, ap_invS0, ap_invV1, ap_invS1, ap_invV2, ap_invS2, ap_invV3, ap_invS3, ap_invV4, ap_invS4, ap_invV5, ap_invS5, tcnT, ocT, lenIT, lenWT, lenLT, lenVT, lenZT, startfT, vpL, sa_1, sa_2, sL_1, sL_2, si_1, si_2, sj_1, sj_2, ldI_e, ldL_e, ldA_e, inC_e, lk, st1, st2, rm1, rm2, Value.category, ctn_some, ctn_none, wsum, lv_args, Int32.reduceAdd, Int32.reduceSub, Int32.reduceMul, Nat.reduceAdd, Nat.reduceLT, Nat.reduceLeDiff, Nat.reduceEqDiff, Nat.reduceBEq, ↓reduceIte, true_and, and_true, Bool.false_eq_true, true_implies, false_implies, not_true_eq_false, not_false_eq_true, Bool.or_true, Bool.or_false, Bool.true_or, Bool.false_or, vin hm6 (by decide), nIc (show m < 2 ^ 31 by omega)]
  have hv1 : MV (si σ 19 0 (nxs (σ.1 19 0))) n := hv.1
  have ew : ∀ k, wd (si σ 19 0 (nxs (σ.1 19 0))) m k (σ.1 29 m) = ww σ m k := fun k => rfl
  have e0 : ww σ m 0 = wd σ m 0 (σ.1 29 m) := rfl
  have e1 : ww σ m 1 = wd σ m 1 (σ.1 29 m) := rfl
  have e2 : ww σ m 2 = wd σ m 2 (σ.1 29 m) := rfl
  unfold kb at h
  refine v8_weightN (k := 0) hv1 hm6 (by decide) ?_
  set_option maxRecDepth 100000 in simp (decide := true) only [c8_kindByLot, run_s, nxt_e, ap_const, ap_lconst, ap_ild, ap_lld, ap_ald, ap_ist, ap_lst, ap_ast, ap_iinc, ap_iadd, ap_isub, ap_imul, ap_iand, ap_ior, ap_ixor, ap_ishl, ap_ishr, ap_iushr, ap_idiv, ap_irem, ap_ineg, ap_ladd, ap_lsub, ap_lmul, ap_ldiv, ap_lrem, ap_lneg, ap_lcmp, ap_i2l, ap_l2i, ap_i2b, ap_i2s, ap_dup_int, ap_pop_int, ap_dup_ref, ap_pop_ref, ap_dup2, ap_ceq, ap_cne, ap_clt, ap_cge, ap_cgt, ap_cle, ap_zeq, ap_zne, ap_zlt, ap_zge, ap_zgt, ap_zle, ap_goto, ap_tsw, ap_lsw, ap_getI, ap_getJ, ap_getR, ap_putI, ap_putZ, ap_putJ, ap_iald, ap_lald, ap_bald, ap_aald, ap_iast, ap_last, ap_bast, ap_alen, ap_gst, ap_iret, ap_zret, ap_lret, ap_vret, ap_aret, ap_lmax, ap_labs, ap_acopy, ap_invV0, ap_invS0, ap_invV1, ap_invS1, ap_invV2, ap_invS2, ap_invV3, ap_invS3, ap_invV4, ap_invS4, ap_invV5, ap_invS5, tcnT, ocT, lenIT, lenWT, lenLT, lenVT, lenZT, startfT, vpL, sa_1, sa_2, sL_1, sL_2, si_1, si_2, sj_1, sj_2, ldI_e, ldL_e, ldA_e, inC_e, lk, st1, st2, rm1, rm2, Value.category, ctn_some, ctn_none, wsum, lv_args, Int32.reduceAdd, Int32.reduceSub, Int32.reduceMul, Nat.reduceAdd, Nat.reduceLT, Nat.reduceLeDiff, Nat.reduceEqDiff, Nat.reduceBEq, ↓reduceIte, true_and, and_true, Bool.false_eq_true, true_implies, false_implies, not_true_eq_false, not_false_eq_true, Bool.or_true, Bool.or_false, Bool.true_or, Bool.false_or, vin hm6 (by decide), nIc (show m < 2 ^ 31 by omega), ew, nI_ltI (show x < 2 ^ 31 by omega) (show ww σ m 0 < 2 ^ 31 by omega)]
  refine ⟨fun q => by rw [if_pos q] at h; exact h, fun q0 => ?_⟩
  rw [if_neg q0] at h
  refine v8_weightN (k := 0) hv1 hm6 (by decide) ?_
  set_option maxRecDepth 100000 in simp (decide := true) only [c8_kindByLot, run_s, nxt_e, ap_const, ap_lconst, ap_ild, ap_lld, ap_ald, ap_ist, ap_lst, ap_ast, ap_iinc, ap_iadd, ap_isub, ap_imul, ap_iand, ap_ior, ap_ixor, ap_ishl, ap_ishr, ap_iushr, ap_idiv, ap_irem, ap_ineg, ap_ladd, ap_lsub, ap_lmul, ap_ldiv, ap_lrem, ap_lneg, ap_lcmp, ap_i2l, ap_l2i, ap_i2b, ap_i2s, ap_dup_int, ap_pop_int, ap_dup_ref, ap_pop_ref, ap_dup2, ap_ceq, ap_cne, ap_clt, ap_cge, ap_cgt, ap_cle, ap_zeq, ap_zne, ap_zlt, ap_zge, ap_zgt, ap_zle, ap_goto, ap_tsw, ap_lsw, ap_getI, ap_getJ, ap_getR, ap_putI, ap_putZ, ap_putJ, ap_iald, ap_lald, ap_bald, ap_aald, ap_iast, ap_last, ap_bast, ap_alen, ap_gst, ap_iret, ap_zret, ap_lret, ap_vret, ap_aret, ap_lmax, ap_labs, ap_acopy, ap_invV0, ap_invS0, ap_invV1, ap_invS1, ap_invV2, ap_invS2, ap_invV3, ap_invS3, ap_invV4, ap_invS4, ap_invV5, ap_invS5, tcnT, ocT, lenIT, lenWT, lenLT, lenVT, lenZT, startfT, vpL, sa_1, sa_2, sL_1, sL_2, si_1, si_2, sj_1, sj_2, ldI_e, ldL_e, ldA_e, inC_e, lk, st1, st2, rm1, rm2, Value.category, ctn_some, ctn_none, wsum, lv_args, Int32.reduceAdd, Int32.reduceSub, Int32.reduceMul, Nat.reduceAdd, Nat.reduceLT, Nat.reduceLeDiff, Nat.reduceEqDiff, Nat.reduceBEq, ↓reduceIte, true_and, and_true, Bool.false_eq_true, true_implies, false_implies, not_true_eq_false, not_false_eq_true, Bool.or_true, Bool.or_false, Bool.true_or, Bool.false_or, vin hm6 (by decide), nIc (show m < 2 ^ 31 by omega), ew, pk_sub (Nat.not_lt.mp q0)]
  refine v8_weightN (k := 1) hv1 hm6 (by decide) ?_
  set_option maxRecDepth 100000 in simp (decide := true) only [c8_kindByLot, run_s, nxt_e, ap_const, ap_lconst, ap_ild, ap_lld, ap_ald, ap_ist, ap_lst, ap_ast, ap_iinc, ap_iadd, ap_isub, ap_imul, ap_iand, ap_ior, ap_ixor, ap_ishl, ap_ishr, ap_iushr, ap_idiv, ap_irem, ap_ineg, ap_ladd, ap_lsub, ap_lmul, ap_ldiv, ap_lrem, ap_lneg, ap_lcmp, ap_i2l, ap_l2i, ap_i2b, ap_i2s, ap_dup_int, ap_pop_int, ap_dup_ref, ap_pop_ref, ap_dup2, ap_ceq, ap_cne, ap_clt, ap_cge, ap_cgt, ap_cle, ap_zeq, ap_zne, ap_zlt, ap_zge, ap_zgt, ap_zle, ap_goto, ap_tsw, ap_lsw, ap_getI, ap_getJ, ap_getR, ap_putI, ap_putZ, ap_putJ, ap_iald, ap_lald, ap_bald, ap_aald, ap_iast, ap_last, ap_bast, ap_alen, ap_gst, ap_iret, ap_zret, ap_lret, ap_vret, ap_aret, ap_lmax, ap_labs, ap_acopy, ap_invV0, ap_invS0, ap_invV1, ap_invS1, ap_invV2, ap_invS2, ap_invV3, ap_invS3, ap_invV4, ap_invS4, ap_invV5, ap_invS5, tcnT, ocT, lenIT, lenWT, lenLT, lenVT, lenZT, startfT, vpL, sa_1, sa_2, sL_1, sL_2, si_1, si_2, sj_1, sj_2, ldI_e, ldL_e, ldA_e, inC_e, lk, st1, st2, rm1, rm2, Value.category, ctn_some, ctn_none, wsum, lv_args, Int32.reduceAdd, Int32.reduceSub, Int32.reduceMul, Nat.reduceAdd, Nat.reduceLT, Nat.reduceLeDiff, Nat.reduceEqDiff, Nat.reduceBEq, ↓reduceIte, true_and, and_true, Bool.false_eq_true, true_implies, false_implies, not_true_eq_false, not_false_eq_true, Bool.or_true, Bool.or_false, Bool.true_or, Bool.false_or, vin hm6 (by decide), nIc (show m < 2 ^ 31 by omega), ew, nI_ltI (show x - ww σ m 0 < 2 ^ 31 by omega) (show ww σ m 1 < 2 ^ 31 by omega)]
  refine ⟨fun q => by rw [if_pos (by omega)] at h; exact h, fun q1 => ?_⟩
  rw [if_neg (by omega)] at h
  refine v8_weightN (k := 1) hv1 hm6 (by decide) ?_
  set_option maxRecDepth 100000 in simp (decide := true) only [c8_kindByLot, run_s, nxt_e, ap_const, ap_lconst, ap_ild, ap_lld, ap_ald, ap_ist, ap_lst, ap_ast, ap_iinc, ap_iadd, ap_isub, ap_imul, ap_iand, ap_ior, ap_ixor, ap_ishl, ap_ishr, ap_iushr, ap_idiv, ap_irem, ap_ineg, ap_ladd, ap_lsub, ap_lmul, ap_ldiv, ap_lrem, ap_lneg, ap_lcmp, ap_i2l, ap_l2i, ap_i2b, ap_i2s, ap_dup_int, ap_pop_int, ap_dup_ref, ap_pop_ref, ap_dup2, ap_ceq, ap_cne, ap_clt, ap_cge, ap_cgt, ap_cle, ap_zeq, ap_zne, ap_zlt, ap_zge, ap_zgt, ap_zle, ap_goto, ap_tsw, ap_lsw, ap_getI, ap_getJ, ap_getR, ap_putI, ap_putZ, ap_putJ, ap_iald, ap_lald, ap_bald, ap_aald, ap_iast, ap_last, ap_bast, ap_alen, ap_gst, ap_iret, ap_zret, ap_lret, ap_vret, ap_aret, ap_lmax, ap_labs, ap_acopy, ap_invV0, ap_invS0, ap_invV1, ap_invS1, ap_invV2, ap_invS2, ap_invV3, ap_invS3, ap_invV4, ap_invS4, ap_invV5, ap_invS5, tcnT, ocT, lenIT, lenWT, lenLT, lenVT, lenZT, startfT, vpL, sa_1, sa_2, sL_1, sL_2, si_1, si_2, sj_1, sj_2, ldI_e, ldL_e, ldA_e, inC_e, lk, st1, st2, rm1, rm2, Value.category, ctn_some, ctn_none, wsum, lv_args, Int32.reduceAdd, Int32.reduceSub, Int32.reduceMul, Nat.reduceAdd, Nat.reduceLT, Nat.reduceLeDiff, Nat.reduceEqDiff, Nat.reduceBEq, ↓reduceIte, true_and, and_true, Bool.false_eq_true, true_implies, false_implies, not_true_eq_false, not_false_eq_true, Bool.or_true, Bool.or_false, Bool.true_or, Bool.false_or, vin hm6 (by decide), nIc (show m < 2 ^ 31 by omega), ew, pk_sub (Nat.not_lt.mp q1)]
  refine v8_weightN (k := 2) hv1 hm6 (by decide) ?_
  set_option maxRecDepth 100000 in simp (decide := true) only [c8_kindByLot, run_s, nxt_e, ap_const, ap_lconst, ap_ild, ap_lld, ap_ald, ap_ist, ap_lst, ap_ast, ap_iinc, ap_iadd, ap_isub, ap_imul, ap_iand, ap_ior, ap_ixor, ap_ishl, ap_ishr, ap_iushr, ap_idiv, ap_irem, ap_ineg, ap_ladd, ap_lsub, ap_lmul, ap_ldiv, ap_lrem, ap_lneg, ap_lcmp, ap_i2l, ap_l2i, ap_i2b, ap_i2s, ap_dup_int, ap_pop_int, ap_dup_ref, ap_pop_ref, ap_dup2, ap_ceq, ap_cne, ap_clt, ap_cge, ap_cgt, ap_cle, ap_zeq, ap_zne, ap_zlt, ap_zge, ap_zgt, ap_zle, ap_goto, ap_tsw, ap_lsw, ap_getI, ap_getJ, ap_getR, ap_putI, ap_putZ, ap_putJ, ap_iald, ap_lald, ap_bald, ap_aald, ap_iast, ap_last, ap_bast, ap_alen, ap_gst, ap_iret, ap_zret, ap_lret, ap_vret, ap_aret, ap_lmax, ap_labs, ap_acopy, ap_invV0, ap_invS0, ap_invV1, ap_invS1, ap_invV2, ap_invS2, ap_invV3, ap_invS3, ap_invV4, ap_invS4, ap_invV5, ap_invS5, tcnT, ocT, lenIT, lenWT, lenLT, lenVT, lenZT, startfT, vpL, sa_1, sa_2, sL_1, sL_2, si_1, si_2, sj_1, sj_2, ldI_e, ldL_e, ldA_e, inC_e, lk, st1, st2, rm1, rm2, Value.category, ctn_some, ctn_none, wsum, lv_args, Int32.reduceAdd, Int32.reduceSub, Int32.reduceMul, Nat.reduceAdd, Nat.reduceLT, Nat.reduceLeDiff, Nat.reduceEqDiff, Nat.reduceBEq, ↓reduceIte, true_and, and_true, Bool.false_eq_true, true_implies, false_implies, not_true_eq_false, not_false_eq_true, Bool.or_true, Bool.or_false, Bool.true_or, Bool.false_or, vin hm6 (by decide), nIc (show m < 2 ^ 31 by omega), ew, nI_ltI (show x - ww σ m 0 - ww σ m 1 < 2 ^ 31 by omega) (show ww σ m 2 < 2 ^ 31 by omega)]
  refine ⟨fun q => by rw [if_pos (by omega)] at h; exact h, fun q2 => ?_⟩
  rw [if_neg (by omega)] at h
  refine v8_weightN (k := 2) hv1 hm6 (by decide) ?_
  set_option maxRecDepth 100000 in simp (decide := true) only [c8_kindByLot, run_s, nxt_e, ap_const, ap_lconst, ap_ild, ap_lld, ap_ald, ap_ist, ap_lst, ap_ast, ap_iinc, ap_iadd, ap_isub, ap_imul, ap_iand, ap_ior, ap_ixor, ap_ishl, ap_ishr, ap_iushr, ap_idiv, ap_irem, ap_ineg, ap_ladd, ap_lsub, ap_lmul, ap_ldiv, ap_lrem, ap_lneg, ap_lcmp, ap_i2l, ap_l2i, ap_i2b, ap_i2s, ap_dup_int, ap_pop_int, ap_dup_ref, ap_pop_ref, ap_dup2, ap_ceq, ap_cne, ap_clt, ap_cge, ap_cgt, ap_cle, ap_zeq, ap_zne, ap_zlt, ap_zge, ap_zgt, ap_zle, ap_goto, ap_tsw, ap_lsw, ap_getI, ap_getJ, ap_getR, ap_putI, ap_putZ, ap_putJ, ap_iald, ap_lald, ap_bald, ap_aald, ap_iast, ap_last, ap_bast, ap_alen, ap_gst, ap_iret, ap_zret, ap_lret, ap_vret, ap_aret, ap_lmax, ap_labs, ap_acopy, ap_invV0, ap_invS0, ap_invV1, ap_invS1, ap_invV2, ap_invS2, ap_invV3, ap_invS3, ap_invV4, ap_invS4, ap_invV5, ap_invS5, tcnT, ocT, lenIT, lenWT, lenLT, lenVT, lenZT, startfT, vpL, sa_1, sa_2, sL_1, sL_2, si_1, si_2, sj_1, sj_2, ldI_e, ldL_e, ldA_e, inC_e, lk, st1, st2, rm1, rm2, Value.category, ctn_some, ctn_none, wsum, lv_args, Int32.reduceAdd, Int32.reduceSub, Int32.reduceMul, Nat.reduceAdd, Nat.reduceLT, Nat.reduceLeDiff, Nat.reduceEqDiff, Nat.reduceBEq, ↓reduceIte, true_and, and_true, Bool.false_eq_true, true_implies, false_implies, not_true_eq_false, not_false_eq_true, Bool.or_true, Bool.or_false, Bool.true_or, Bool.false_or, vin hm6 (by decide), nIc (show m < 2 ^ 31 by omega), ew]
  exact h
/-! a night -/
def nst (w : Nat → Nat → Nat) (s : Int32) : Nat → Int32 × Nat
  | 0 => (s, 0)
  | j + 1 => (nxs (nst w s j).1, (nst w s j).2 + pw (kb w j (lt16 (nxs (nst w s j).1) % ws4 w j)))
theorem nst_spec {w : Nat → Nat → Nat} {s : Int32} : ∀ j, j ≤ 6 → (nst w s j).2 < 2401 ∧ sz (nst w s j).2 = j := by
  intro j
  induction j with
  | zero => intro _; exact ⟨(by decide : 0 < 2401), (by decide : sz 0 = 0)⟩
  | succ j ih =>
    intro hj
    obtain ⟨h1, h2⟩ := ih (by omega)
    obtain ⟨i1, i2, -⟩ := inc_spec h1 (by omega) (kb_lt w j (lt16 (nxs (nst w s j).1) % ws4 w j))
    exact ⟨i1, by simp only [nst]; omega⟩
theorem L8_night {σ : St} {K : Kr} {n : Nat} (hv : CV σ n) (h : ∀ σ', sm [19] σ σ' → σ'.1 19 0 = (nst (ww σ) (σ.1 19 0) n).1 → K (some (.int (Int32.ofInt (wv σ (nst (ww σ) (σ.1 19 0) n).2)))) σ') :
    ∀ (d j : Nat), j + d = n → ∀ σ1, sm [19] σ σ1 → σ1.1 19 0 = (nst (ww σ) (σ.1 19 0) j).1 → VW M8_worthOfNight Xt K 4 [(2, .int (nI j)), (1, .int (nI (pl (nst (ww σ) (σ.1 19 0) j).2))), (0, .ref 0)] [] σ1 := by
  have hn := hv.1.1
  intro d
  induction d with
  | zero =>
    intro j hj σ1 hs h19
    have : j = n := by omega
    subst this
    have hv1 := hv.sm hs (by decide) (by decide) (by decide) (by decide) (by decide) (by decide)
    obtain ⟨s1, s2⟩ := nst_spec (w := ww σ) (s := σ.1 19 0) j (by omega)
    have hp := pl_spec s1 (by omega)
    refine run_sound s8_worthOfNight (fun pc => pc == 4) _ 1000 _ _ _ _ ?_
    set_option maxRecDepth 100000 in simp (decide := true) only [c8_worthOfNight, run_s, nxt_e, ap_const, ap_lconst, ap_ild, ap_lld, ap_ald, ap_ist, ap_lst, ap_ast, ap_iinc, ap_iadd, ap_isub, ap_imul, ap_iand, ap_ior, ap_ixor, ap_ishl, ap_ishr, ap_iushr, ap_idiv, ap_irem, ap_ineg, ap_ladd, ap_lsub, ap_lmul, ap_ldiv, ap_lrem, ap_lneg, ap_lcmp, ap_i2l, ap_l2i, ap_i2b, ap_i2s, ap_dup_int, ap_pop_int, ap_dup_ref, ap_pop_ref, ap_dup2, ap_ceq, ap_cne, ap_clt, ap_cge, ap_cgt, ap_cle, ap_zeq, ap_zne, ap_zlt, ap_zge, ap_zgt, ap_zle, ap_goto, ap_tsw, ap_lsw, ap_getI, ap_getJ, ap_getR, ap_putI, ap_putZ, ap_putJ, ap_iald, ap_lald, ap_bald, ap_aald, ap_iast, ap_last, ap_bast, ap_alen, ap_gst, ap_iret, ap_zret, ap_lret, ap_vret, ap_aret, ap_lmax, ap_labs, ap_acopy, ap_invV0, ap_invS0, ap_invV1, ap_invS1, ap_invV2, ap_invS2, ap_invV3, ap_invS3, ap_invV4, ap_invS4, ap_invV5, ap_invS5, tcnT, ocT, lenIT, lenWT, lenLT, lenVT, lenZT, startfT, vpL, sa_1, sa_2, sL_1, sL_2, si_1, si_2, sj_1, sj_2, ldI_e, ldL_e, ldA_e, inC_e, lk, st1, st2, rm1, rm2, Value.category, ctn_some, ctn_none, wsum, lv_args, Int32.reduceAdd, Int32.reduceSub, Int32.reduceMul, Nat.reduceAdd, Nat.reduceLT, Nat.reduceLeDiff, Nat.reduceEqDiff, Nat.reduceBEq, ↓reduceIte, true_and, and_true, Bool.false_eq_true, true_implies, false_implies, not_true_eq_false, not_false_eq_true, Bool.or_true, Bool.or_false, Bool.true_or, Bool.false_or, hv1.1.2.1, eq_true (nI_le (Nat.le_refl j) (by omega))]
    refine v8_worthOf (vp_in_nI hp.2.1 (by decide)) ?_
    obtain ⟨v, e1, e2, -, -⟩ := worth_eq hv1.2.2.1 hv1.2.1 s1 (by omega)
    set_option maxRecDepth 100000 in simp (decide := true) only [c8_worthOfNight, run_s, nxt_e, ap_const, ap_lconst, ap_ild, ap_lld, ap_ald, ap_ist, ap_lst, ap_ast, ap_iinc, ap_iadd, ap_isub, ap_imul, ap_iand, ap_ior, ap_ixor, ap_ishl, ap_ishr, ap_iushr, ap_idiv, ap_irem, ap_ineg, ap_ladd, ap_lsub, ap_lmul, ap_ldiv, ap_lrem, ap_lneg, ap_lcmp, ap_i2l, ap_l2i, ap_i2b, ap_i2s, ap_dup_int, ap_pop_int, ap_dup_ref, ap_pop_ref, ap_dup2, ap_ceq, ap_cne, ap_clt, ap_cge, ap_cgt, ap_cle, ap_zeq, ap_zne, ap_zlt, ap_zge, ap_zgt, ap_zle, ap_goto, ap_tsw, ap_lsw, ap_getI, ap_getJ, ap_getR, ap_putI, ap_putZ, ap_putJ, ap_iald, ap_lald, ap_bald, ap_aald, ap_iast, ap_last, ap_bast, ap_alen, ap_gst, ap_iret, ap_zret, ap_lret, ap_vret, ap_aret, ap_lmax, ap_labs, ap_acopy, ap_invV0, ap_invS0, ap_invV1, ap_invS1, ap_invV2, ap_invS2, ap_invV3, ap_invS3, ap_invV4, ap_invS4, ap_invV5, ap_invS5, tcnT, ocT, lenIT, lenWT, lenLT, lenVT, lenZT, startfT, vpL, sa_1, sa_2, sL_1, sL_2, si_1, si_2, sj_1, sj_2, ldI_e, ldL_e, ldA_e, inC_e, lk, st1, st2, rm1, rm2, Value.category, ctn_some, ctn_none, wsum, lv_args, Int32.reduceAdd, Int32.reduceSub, Int32.reduceMul, Nat.reduceAdd, Nat.reduceLT, Nat.reduceLeDiff, Nat.reduceEqDiff, Nat.reduceBEq, ↓reduceIte, true_and, and_true, Bool.false_eq_true, true_implies, false_implies, not_true_eq_false, not_false_eq_true, Bool.or_true, Bool.or_false, Bool.true_or, Bool.false_or, nIc (show pl (nst (ww σ) (σ.1 19 0) j).2 < 2 ^ 31 by omega)]
    rw [e1]
    have hk := h σ1 hs h19
    rw [← wv_sm hs (by decide) (by decide), ← e2, Int32.ofInt_toInt] at hk
    exact hk
  | succ d ih =>
    intro j hj σ1 hs h19
    have hv1 := hv.sm hs (by decide) (by decide) (by decide) (by decide) (by decide) (by decide)
    obtain ⟨s1, s2⟩ := nst_spec (w := ww σ) (s := σ.1 19 0) j (by omega)
    have hp := pl_spec s1 (by omega)
    have hp126 : pl (nst (ww σ) (σ.1 19 0) j).2 < 126 := by
      have := sS_mono (show sz (nst (ww σ) (σ.1 19 0) j).2 + 1 ≤ 6 by omega)
      have e6 : sS 6 = 126 := rfl
      omega
    refine run_sound s8_worthOfNight (fun pc => pc == 4) _ 1000 _ _ _ _ ?_
    set_option maxRecDepth 100000 in simp (decide := true) only [c8_worthOfNight, run_s, nxt_e, ap_const, ap_lconst, ap_ild, ap_lld, ap_ald, ap_ist, ap_lst, ap_ast, ap_iinc, ap_iadd, ap_isub, ap_imul, ap_iand, ap_ior, ap_ixor, ap_ishl, ap_ishr, ap_iushr, ap_idiv, ap_irem, ap_ineg, ap_ladd, ap_lsub, ap_lmul, ap_ldiv, ap_lrem, ap_lneg, ap_lcmp, ap_i2l, ap_l2i, ap_i2b, ap_i2s, ap_dup_int, ap_pop_int, ap_dup_ref, ap_pop_ref, ap_dup2, ap_ceq, ap_cne, ap_clt, ap_cge, ap_cgt, ap_cle, ap_zeq, ap_zne, ap_zlt, ap_zge, ap_zgt, ap_zle, ap_goto, ap_tsw, ap_lsw, ap_getI, ap_getJ, ap_getR, ap_putI, ap_putZ, ap_putJ, ap_iald, ap_lald, ap_bald, ap_aald, ap_iast, ap_last, ap_bast, ap_alen, ap_gst, ap_iret, ap_zret, ap_lret, ap_vret, ap_aret, ap_lmax, ap_labs, ap_acopy, ap_invV0, ap_invS0, ap_invV1, ap_invS1, ap_invV2, ap_invS2, ap_invV3, ap_invS3, ap_invV4, ap_invS4, ap_invV5, ap_invS5, tcnT, ocT, lenIT, lenWT, lenLT, lenVT, lenZT, startfT, vpL, sa_1, sa_2, sL_1, sL_2, si_1, si_2, sj_1, sj_2, ldI_e, ldL_e, ldA_e, inC_e, lk, st1, st2, rm1, rm2, Value.category, ctn_some, ctn_none, wsum, lv_args, Int32.reduceAdd, Int32.reduceSub, Int32.reduceMul, Nat.reduceAdd, Nat.reduceLT, Nat.reduceLeDiff, Nat.reduceEqDiff, Nat.reduceBEq, ↓reduceIte, true_and, and_true, Bool.false_eq_true, true_implies, false_implies, not_true_eq_false, not_false_eq_true, Bool.or_true, Bool.or_false, Bool.true_or, Bool.false_or, hv1.1.2.1, eq_false (nI_ge (show j < n by omega) (by omega))]
    refine v8_kindByLot hv1 (by omega) ?_
    rw [ww_sm hs (by decide) (by decide) (by decide), h19]
    set_option maxRecDepth 100000 in simp (decide := true) only [c8_worthOfNight, run_s, nxt_e, ap_const, ap_lconst, ap_ild, ap_lld, ap_ald, ap_ist, ap_lst, ap_ast, ap_iinc, ap_iadd, ap_isub, ap_imul, ap_iand, ap_ior, ap_ixor, ap_ishl, ap_ishr, ap_iushr, ap_idiv, ap_irem, ap_ineg, ap_ladd, ap_lsub, ap_lmul, ap_ldiv, ap_lrem, ap_lneg, ap_lcmp, ap_i2l, ap_l2i, ap_i2b, ap_i2s, ap_dup_int, ap_pop_int, ap_dup_ref, ap_pop_ref, ap_dup2, ap_ceq, ap_cne, ap_clt, ap_cge, ap_cgt, ap_cle, ap_zeq, ap_zne, ap_zlt, ap_zge, ap_zgt, ap_zle, ap_goto, ap_tsw, ap_lsw, ap_getI, ap_getJ, ap_getR, ap_putI, ap_putZ, ap_putJ, ap_iald, ap_lald, ap_bald, ap_aald, ap_iast, ap_last, ap_bast, ap_alen, ap_gst, ap_iret, ap_zret, ap_lret, ap_vret, ap_aret, ap_lmax, ap_labs, ap_acopy, ap_invV0, ap_invS0, ap_invV1, ap_invS1, ap_invV2, ap_invS2, ap_invV3, ap_invS3, ap_invV4, ap_invS4, ap_invV5, ap_invS5, tcnT, ocT, lenIT, lenWT, lenLT, lenVT, lenZT, startfT, vpL, sa_1, sa_2, sL_1, sL_2, si_1, si_2, sj_1, sj_2, ldI_e, ldL_e, ldA_e, inC_e, lk, st1, st2, rm1, rm2, Value.category, ctn_some, ctn_none, wsum, lv_args, Int32.reduceAdd, Int32.reduceSub, Int32.reduceMul, Nat.reduceAdd, Nat.reduceLT, Nat.reduceLeDiff, Nat.reduceEqDiff, Nat.reduceBEq, ↓reduceIte, true_and, and_true, Bool.false_eq_true, true_implies, false_implies, not_true_eq_false, not_false_eq_true, Bool.or_true, Bool.or_false, Bool.true_or, Bool.false_or]
    refine v4_withN (σ := si σ1 19 0 (nxs (nst (ww σ) (σ.1 19 0) j).1)) hv1.2.1 hp126 (kb_lt _ _ _) ?_
    rw [hp.1]
    set_option maxRecDepth 100000 in simp (decide := true) only [c8_worthOfNight, run_s, nxt_e, ap_const, ap_lconst, ap_ild, ap_lld, ap_ald, ap_ist, ap_lst, ap_ast, ap_iinc, ap_iadd, ap_isub, ap_imul, ap_iand, ap_ior, ap_ixor, ap_ishl, ap_ishr, ap_iushr, ap_idiv, ap_irem, ap_ineg, ap_ladd, ap_lsub, ap_lmul, ap_ldiv, ap_lrem, ap_lneg, ap_lcmp, ap_i2l, ap_l2i, ap_i2b, ap_i2s, ap_dup_int, ap_pop_int, ap_dup_ref, ap_pop_ref, ap_dup2, ap_ceq, ap_cne, ap_clt, ap_cge, ap_cgt, ap_cle, ap_zeq, ap_zne, ap_zlt, ap_zge, ap_zgt, ap_zle, ap_goto, ap_tsw, ap_lsw, ap_getI, ap_getJ, ap_getR, ap_putI, ap_putZ, ap_putJ, ap_iald, ap_lald, ap_bald, ap_aald, ap_iast, ap_last, ap_bast, ap_alen, ap_gst, ap_iret, ap_zret, ap_lret, ap_vret, ap_aret, ap_lmax, ap_labs, ap_acopy, ap_invV0, ap_invS0, ap_invV1, ap_invS1, ap_invV2, ap_invS2, ap_invV3, ap_invS3, ap_invV4, ap_invS4, ap_invV5, ap_invS5, tcnT, ocT, lenIT, lenWT, lenLT, lenVT, lenZT, startfT, vpL, sa_1, sa_2, sL_1, sL_2, si_1, si_2, sj_1, sj_2, ldI_e, ldL_e, ldA_e, inC_e, lk, st1, st2, rm1, rm2, Value.category, ctn_some, ctn_none, wsum, lv_args, Int32.reduceAdd, Int32.reduceSub, Int32.reduceMul, Nat.reduceAdd, Nat.reduceLT, Nat.reduceLeDiff, Nat.reduceEqDiff, Nat.reduceBEq, ↓reduceIte, true_and, and_true, Bool.false_eq_true, true_implies, false_implies, not_true_eq_false, not_false_eq_true, Bool.or_true, Bool.or_false, Bool.true_or, Bool.false_or, nI_1]
    exact (ih (j + 1) (by omega) (si σ1 19 0 (nxs (nst (ww σ) (σ.1 19 0) j).1)) (hs.si (by decide)) (by rw [si_1, if_pos rfl]; rfl)).sub [0, 1, 2] rfl
theorem v8_night {σ : St} {K : Kr} {n : Nat} (hv : CV σ n) (h : ∀ σ', sm [19] σ σ' → σ'.1 19 0 = (nst (ww σ) (σ.1 19 0) n).1 → K (some (.int (Int32.ofInt (wv σ (nst (ww σ) (σ.1 19 0) n).2)))) σ') : VM M8_worthOfNight [.ref 0] σ K := by
  refine vm_run s8_worthOfNight n8_worthOfNight (fun pc => pc == 4) 1000 (fun E => Nat.le_of_ble_eq_true rfl) ?_
  set_option maxRecDepth 100000 in simp (decide := true) only [c8_worthOfNight, run_s, nxt_e, ap_const, ap_lconst, ap_ild, ap_lld, ap_ald, ap_ist, ap_lst, ap_ast, ap_iinc, ap_iadd, ap_isub, ap_imul, ap_iand, ap_ior, ap_ixor, ap_ishl, ap_ishr, ap_iushr, ap_idiv, ap_irem, ap_ineg, ap_ladd, ap_lsub, ap_lmul, ap_ldiv, ap_lrem, ap_lneg, ap_lcmp, ap_i2l, ap_l2i, ap_i2b, ap_i2s, ap_dup_int, ap_pop_int, ap_dup_ref, ap_pop_ref, ap_dup2, ap_ceq, ap_cne, ap_clt, ap_cge, ap_cgt, ap_cle, ap_zeq, ap_zne, ap_zlt, ap_zge, ap_zgt, ap_zle, ap_goto, ap_tsw, ap_lsw, ap_getI, ap_getJ, ap_getR, ap_putI, ap_putZ, ap_putJ, ap_iald, ap_lald, ap_bald, ap_aald, ap_iast, ap_last, ap_bast, ap_alen, ap_gst, ap_iret, ap_zret, ap_lret, ap_vret, ap_aret, ap_lmax, ap_labs, ap_acopy, ap_invV0, ap_invS0, ap_invV1, ap_invS1, ap_invV2, ap_invS2, ap_invV3, ap_invS3, ap_invV4, ap_invS4, ap_invV5, ap_invS5, tcnT, ocT, lenIT, lenWT, lenLT, lenVT, lenZT, startfT, vpL, sa_1, sa_2, sL_1, sL_2, si_1, si_2, sj_1, sj_2, ldI_e, ldL_e, ldA_e, inC_e, lk, st1, st2, rm1, rm2, Value.category, ctn_some, ctn_none, wsum, lv_args, Int32.reduceAdd, Int32.reduceSub, Int32.reduceMul, Nat.reduceAdd, Nat.reduceLT, Nat.reduceLeDiff, Nat.reduceEqDiff, Nat.reduceBEq, ↓reduceIte, true_and, and_true, Bool.false_eq_true, true_implies, false_implies, not_true_eq_false, not_false_eq_true, Bool.or_true, Bool.or_false, Bool.true_or, Bool.false_or]
  have := L8_night hv h n 0 (by omega) σ sm.rfl' rfl
  have e : (nst (ww σ) (σ.1 19 0) 0).2 = 0 := rfl
  rw [e, pl0] at this
  exact this.sub [0, 1, 2] rfl
/-! a week -/
def wks (w : Nat → Nat → Nat) (val : Nat → Int) (n : Nat) (s : Int32) : Nat → Int32
  | 0 => s
  | i + 1 => (nst w (wks w val n s i) n).1
def wkv (w : Nat → Nat → Nat) (val : Nat → Int) (n : Nat) (s : Int32) (i : Nat) : Int := val (nst w (wks w val n s i) n).2
def wkS (w : Nat → Nat → Nat) (val : Nat → Int) (n : Nat) (s : Int32) : Nat → Int
  | 0 => 0
  | i + 1 => wkS w val n s i + wkv w val n s i
def wkL (w : Nat → Nat → Nat) (val : Nat → Int) (n : Nat) (s : Int32) : Nat → Option Nat
  | 0 => none
  | i + 1 => match wkL w val n s i with
    | some j => some j
    | none => if wkv w val n s i < 0 then some i else none
theorem wkL_lt {w : Nat → Nat → Nat} {val : Nat → Int} {n : Nat} {s : Int32} : ∀ {i j : Nat}, wkL w val n s i = some j → j < i := by
  intro i
  induction i with
  | zero => intro j h; cases h
  | succ i ih =>
    intro j h
    simp only [wkL] at h
    split at h
    · rename_i b hb
      cases h
      have := ih hb
      omega
    · split at h
      · cases h; omega
      · cases h
theorem L8_week {σ : St} {K : Kr} {n N : Nat} {sd wh : Int32} (hv : CV σ n) (hN : N ≤ 60) (hs0 : σ.1 19 0 = sd) (h : ∀ σ', sm [19] σ σ' → K (some (.int (if wh = 0 then Int32.ofInt (wkS (ww σ) (wv σ) n sd N) else oI (wkL (ww σ) (wv σ) n sd N)))) σ') :
    ∀ (d i : Nat), i + d = N → ∀ σ1, sm [19] σ σ1 → σ1.1 19 0 = wks (ww σ) (wv σ) n sd i → VW M8_week Xt K 41 [(6, .int (nI i)), (5, .int (oI (wkL (ww σ) (wv σ) n sd i))), (4, .int (Int32.ofInt (wkS (ww σ) (wv σ) n sd i))), (0, .ref 0), (1, .int sd), (2, .int (nI N)), (3, .int wh)] [] σ1 := by
  have hn := hv.1.1
  intro d
  induction d with
  | zero =>
    intro i hi σ1 hs h19
    have : i = N := by omega
    subst this
    refine run_sound s8_week (fun pc => pc == 41) _ 1000 _ _ _ _ ?_
    set_option maxRecDepth 100000 in simp (decide := true) only [c8_week, run_s, nxt_e, ap_const, ap_lconst, ap_ild, ap_lld, ap_ald, ap_ist, ap_lst, ap_ast, ap_iinc, ap_iadd, ap_isub, ap_imul, ap_iand, ap_ior, ap_ixor, ap_ishl, ap_ishr, ap_iushr, ap_idiv, ap_irem, ap_ineg, ap_ladd, ap_lsub, ap_lmul, ap_ldiv, ap_lrem, ap_lneg, ap_lcmp, ap_i2l, ap_l2i, ap_i2b, ap_i2s, ap_dup_int, ap_pop_int, ap_dup_ref, ap_pop_ref, ap_dup2, ap_ceq, ap_cne, ap_clt, ap_cge, ap_cgt, ap_cle, ap_zeq, ap_zne, ap_zlt, ap_zge, ap_zgt, ap_zle, ap_goto, ap_tsw, ap_lsw, ap_getI, ap_getJ, ap_getR, ap_putI, ap_putZ, ap_putJ, ap_iald, ap_lald, ap_bald, ap_aald, ap_iast, ap_last, ap_bast, ap_alen, ap_gst, ap_iret, ap_zret, ap_lret, ap_vret, ap_aret, ap_lmax, ap_labs, ap_acopy, ap_invV0, ap_invS0, ap_invV1, ap_invS1, ap_invV2, ap_invS2, ap_invV3, ap_invS3, ap_invV4, ap_invS4, ap_invV5, ap_invS5, tcnT, ocT, lenIT, lenWT, lenLT, lenVT, lenZT, startfT, vpL, sa_1, sa_2, sL_1, sL_2, si_1, si_2, sj_1, sj_2, ldI_e, ldL_e, ldA_e, inC_e, lk, st1, st2, rm1, rm2, Value.category, ctn_some, ctn_none, wsum, lv_args, Int32.reduceAdd, Int32.reduceSub, Int32.reduceMul, Nat.reduceAdd, Nat.reduceLT, Nat.reduceLeDiff, Nat.reduceEqDiff, Nat.reduceBEq, ↓reduceIte, true_and, and_true, Bool.false_eq_true, true_implies, false_implies, not_true_eq_false, not_false_eq_true, Bool.or_true, Bool.or_false, Bool.true_or, Bool.false_or, eq_true (nI_le (Nat.le_refl i) (by omega))]
    have hk := h σ1 hs
    refine ⟨fun q => ?_, fun q => ?_⟩
    · rw [if_neg q] at hk; exact hk
    · rw [if_pos q] at hk; exact hk
  | succ d ih =>
    intro i hi σ1 hs h19
    have hv1 := hv.sm hs (by decide) (by decide) (by decide) (by decide) (by decide) (by decide)
    refine run_sound s8_week (fun pc => pc == 41) _ 1000 _ _ _ _ ?_
    set_option maxRecDepth 100000 in simp (decide := true) only [c8_week, run_s, nxt_e, ap_const, ap_lconst, ap_ild, ap_lld, ap_ald, ap_ist, ap_lst, ap_ast, ap_iinc, ap_iadd, ap_isub, ap_imul, ap_iand, ap_ior, ap_ixor, ap_ishl, ap_ishr, ap_iushr, ap_idiv, ap_irem, ap_ineg, ap_ladd, ap_lsub, ap_lmul, ap_ldiv, ap_lrem, ap_lneg, ap_lcmp, ap_i2l, ap_l2i, ap_i2b, ap_i2s, ap_dup_int, ap_pop_int, ap_dup_ref, ap_pop_ref, ap_dup2, ap_ceq, ap_cne, ap_clt, ap_cge, ap_cgt, ap_cle, ap_zeq, ap_zne, ap_zlt, ap_zge, ap_zgt, ap_zle, ap_goto, ap_tsw, ap_lsw, ap_getI, ap_getJ, ap_getR, ap_putI, ap_putZ, ap_putJ, ap_iald, ap_lald, ap_bald, ap_aald, ap_iast, ap_last, ap_bast, ap_alen, ap_gst, ap_iret, ap_zret, ap_lret, ap_vret, ap_aret, ap_lmax, ap_labs, ap_acopy, ap_invV0, ap_invS0, ap_invV1, ap_invS1, ap_invV2, ap_invS2, ap_invV3, ap_invS3, ap_invV4, ap_invS4, ap_invV5, ap_invS5, tcnT, ocT, lenIT, lenWT, lenLT, lenVT, lenZT, startfT, vpL, sa_1, sa_2, sL_1, sL_2, si_1, si_2, sj_1, sj_2, ldI_e, ldL_e, ldA_e, inC_e, lk, st1, st2, rm1, rm2, Value.category, ctn_some, ctn_none, wsum, lv_args, Int32.reduceAdd, Int32.reduceSub, Int32.reduceMul, Nat.reduceAdd, Nat.reduceLT, Nat.reduceLeDiff, Nat.reduceEqDiff, Nat.reduceBEq, ↓reduceIte, true_and, and_true, Bool.false_eq_true, true_implies, false_implies, not_true_eq_false, not_false_eq_true, Bool.or_true, Bool.or_false, Bool.true_or, Bool.false_or, eq_false (nI_ge (show i < N by omega) (by omega))]
    refine v8_night hv1 ?_
    intro σ2 hs2 h2
    rw [ww_sm hs (by decide) (by decide) (by decide), h19] at h2
    rw [ww_sm hs (by decide) (by decide) (by decide), h19, wv_sm hs (by decide) (by decide)]
    have hii := ih (i + 1) (by omega) σ2 (hs.trans hs2) h2
    have eS : Int32.ofInt (wkS (ww σ) (wv σ) n sd i) + Int32.ofInt (wv σ (nst (ww σ) (wks (ww σ) (wv σ) n sd i) n).2) = Int32.ofInt (wkS (ww σ) (wv σ) n sd (i + 1)) := (Int32.ofInt_add _ _).symm
    have hb := hv.v54 _ (nst_spec (w := ww σ) (s := wks (ww σ) (wv σ) n sd i) n hn).1 (by rw [(nst_spec (w := ww σ) (s := wks (ww σ) (wv σ) n sd i) n hn).2]; exact hn)
    have hc : ((0 : Int32) ≤ Int32.ofInt (wv σ (nst (ww σ) (wks (ww σ) (wv σ) n sd i) n).2)) ↔ ¬ wkv (ww σ) (wv σ) n sd i < 0 := by
      rw [Int32.le_iff_toInt_le, Int32.toInt_ofInt_of_le (by omega) (by omega)]
      unfold wkv
      have : (0 : Int32).toInt = 0 := rfl
      omega
    cases hl : wkL (ww σ) (wv σ) n sd i with
    | some j =>
      have hj := wkL_lt hl
      have eL : wkL (ww σ) (wv σ) n sd (i + 1) = some j := by simp only [wkL, hl]
      rw [eL] at hii
      set_option maxRecDepth 100000 in simp (decide := true) only [c8_week, run_s, nxt_e, ap_const, ap_lconst, ap_ild, ap_lld, ap_ald, ap_ist, ap_lst, ap_ast, ap_iinc, ap_iadd, ap_isub, ap_imul, ap_iand, ap_ior, ap_ixor, ap_ishl, ap_ishr, ap_iushr, ap_idiv, ap_irem, ap_ineg, ap_ladd, ap_lsub, ap_lmul, ap_ldiv, ap_lrem, ap_lneg, ap_lcmp, ap_i2l, ap_l2i, ap_i2b, ap_i2s, ap_dup_int, ap_pop_int, ap_dup_ref, ap_pop_ref, ap_dup2, ap_ceq, ap_cne, ap_clt, ap_cge, ap_cgt, ap_cle, ap_zeq, ap_zne, ap_zlt, ap_zge, ap_zgt, ap_zle, ap_goto, ap_tsw, ap_lsw, ap_getI, ap_getJ, ap_getR, ap_putI, ap_putZ, ap_putJ, ap_iald, ap_lald, ap_bald, ap_aald, ap_iast, ap_last, ap_bast, ap_alen, ap_gst, ap_iret, ap_zret, ap_lret, ap_vret, ap_aret, ap_lmax, ap_labs, ap_acopy, ap_invV0, ap_invS0, ap_invV1, ap_invS1, ap_invV2, ap_invS2, ap_invV3, ap_invS3, ap_invV4, ap_invS4, ap_invV5, ap_invS5, tcnT, ocT, lenIT, lenWT, lenLT, lenVT, lenZT, startfT, vpL, sa_1, sa_2, sL_1, sL_2, si_1, si_2, sj_1, sj_2, ldI_e, ldL_e, ldA_e, inC_e, lk, st1, st2, rm1, rm2, Value.category, ctn_some, ctn_none, wsum, lv_args, Int32.reduceAdd, Int32.reduceSub, Int32.reduceMul, Nat.reduceAdd, Nat.reduceLT, Nat.reduceLeDiff, Nat.reduceEqDiff, Nat.reduceBEq, ↓reduceIte, true_and, and_true, Bool.false_eq_true, true_implies, false_implies, not_true_eq_false, not_false_eq_true, Bool.or_true, Bool.or_false, Bool.true_or, Bool.false_or, eS, hc, nI_1, oI, nIm1 j (by omega)]
      refine ⟨fun q => ?_, fun q => ?_⟩
      · exact hii.sub [0, 3, 1, 4, 5, 6, 7] rfl
      · exact hii.sub [0, 3, 1, 4, 5, 6, 7] rfl
    | none =>
      set_option maxRecDepth 100000 in simp (decide := true) only [c8_week, run_s, nxt_e, ap_const, ap_lconst, ap_ild, ap_lld, ap_ald, ap_ist, ap_lst, ap_ast, ap_iinc, ap_iadd, ap_isub, ap_imul, ap_iand, ap_ior, ap_ixor, ap_ishl, ap_ishr, ap_iushr, ap_idiv, ap_irem, ap_ineg, ap_ladd, ap_lsub, ap_lmul, ap_ldiv, ap_lrem, ap_lneg, ap_lcmp, ap_i2l, ap_l2i, ap_i2b, ap_i2s, ap_dup_int, ap_pop_int, ap_dup_ref, ap_pop_ref, ap_dup2, ap_ceq, ap_cne, ap_clt, ap_cge, ap_cgt, ap_cle, ap_zeq, ap_zne, ap_zlt, ap_zge, ap_zgt, ap_zle, ap_goto, ap_tsw, ap_lsw, ap_getI, ap_getJ, ap_getR, ap_putI, ap_putZ, ap_putJ, ap_iald, ap_lald, ap_bald, ap_aald, ap_iast, ap_last, ap_bast, ap_alen, ap_gst, ap_iret, ap_zret, ap_lret, ap_vret, ap_aret, ap_lmax, ap_labs, ap_acopy, ap_invV0, ap_invS0, ap_invV1, ap_invS1, ap_invV2, ap_invS2, ap_invV3, ap_invS3, ap_invV4, ap_invS4, ap_invV5, ap_invS5, tcnT, ocT, lenIT, lenWT, lenLT, lenVT, lenZT, startfT, vpL, sa_1, sa_2, sL_1, sL_2, si_1, si_2, sj_1, sj_2, ldI_e, ldL_e, ldA_e, inC_e, lk, st1, st2, rm1, rm2, Value.category, ctn_some, ctn_none, wsum, lv_args, Int32.reduceAdd, Int32.reduceSub, Int32.reduceMul, Nat.reduceAdd, Nat.reduceLT, Nat.reduceLeDiff, Nat.reduceEqDiff, Nat.reduceBEq, ↓reduceIte, true_and, and_true, Bool.false_eq_true, true_implies, false_implies, not_true_eq_false, not_false_eq_true, Bool.or_true, Bool.or_false, Bool.true_or, Bool.false_or, eS, hc, nI_1, oI]
      refine ⟨fun q => ?_, fun q => ?_⟩
      · have eL : wkL (ww σ) (wv σ) n sd (i + 1) = none := by simp only [wkL, hl]; rw [if_neg q]
        rw [eL] at hii
        exact hii.sub [0, 3, 1, 4, 5, 6, 7] rfl
      · have eL : wkL (ww σ) (wv σ) n sd (i + 1) = some i := by simp only [wkL, hl]; rw [if_pos (Classical.not_not.mp q)]
        rw [eL] at hii
        exact hii.sub [0, 1, 2, 4, 5, 6, 7] rfl
theorem v8_week_bad {σ : St} {K : Kr} {sd x y : Int32} (hb : ¬ ((1 ≤ x ∧ x ≤ 60) ∧ 0 ≤ y ∧ y ≤ 1)) (h : K (some (.int (-10002))) σ) : VM M8_week [.ref 0, .int sd, .int x, .int y] σ K := by
  refine vm_run s8_week n8_week (fun pc => pc == 41) 1000 (fun E => Nat.le_of_ble_eq_true rfl) ?_
  set_option maxRecDepth 100000 in simp (decide := true) only [c8_week, run_s, nxt_e, ap_const, ap_lconst, ap_ild, ap_lld, ap_ald, ap_ist, ap_lst, ap_ast, ap_iinc, ap_iadd, ap_isub, ap_imul, ap_iand, ap_ior, ap_ixor, ap_ishl, ap_ishr, ap_iushr, ap_idiv, ap_irem, ap_ineg, ap_ladd, ap_lsub, ap_lmul, ap_ldiv, ap_lrem, ap_lneg, ap_lcmp, ap_i2l, ap_l2i, ap_i2b, ap_i2s, ap_dup_int, ap_pop_int, ap_dup_ref, ap_pop_ref, ap_dup2, ap_ceq, ap_cne, ap_clt, ap_cge, ap_cgt, ap_cle, ap_zeq, ap_zne, ap_zlt, ap_zge, ap_zgt, ap_zle, ap_goto, ap_tsw, ap_lsw, ap_getI, ap_getJ, ap_getR, ap_putI, ap_putZ, ap_putJ, ap_iald, ap_lald, ap_bald, ap_aald, ap_iast, ap_last, ap_bast, ap_alen, ap_gst, ap_iret, ap_zret, ap_lret, ap_vret, ap_aret, ap_lmax, ap_labs, ap_acopy, ap_invV0, ap_invS0, ap_invV1, ap_invS1, ap_invV2, ap_invS2, ap_invV3, ap_invS3, ap_invV4, ap_invS4, ap_invV5, ap_invS5, tcnT, ocT, lenIT, lenWT, lenLT, lenVT, lenZT, startfT, vpL, sa_1, sa_2, sL_1, sL_2, si_1, si_2, sj_1, sj_2, ldI_e, ldL_e, ldA_e, inC_e, lk, st1, st2, rm1, rm2, Value.category, ctn_some, ctn_none, wsum, lv_args, Int32.reduceAdd, Int32.reduceSub, Int32.reduceMul, Nat.reduceAdd, Nat.reduceLT, Nat.reduceLeDiff, Nat.reduceEqDiff, Nat.reduceBEq, ↓reduceIte, true_and, and_true, Bool.false_eq_true, true_implies, false_implies, not_true_eq_false, not_false_eq_true, Bool.or_true, Bool.or_false, Bool.true_or, Bool.false_or]
  refine ⟨fun _ => h, fun a => ⟨fun _ => h, fun b => ⟨fun _ => h, fun c => ⟨fun d => absurd ?_ hb, fun _ => h⟩⟩⟩⟩
  clear h
  grind
theorem v8_weekN {σ : St} {K : Kr} {n N : Nat} {sd wh : Int32} (hv : CV σ n) (hN : 1 ≤ N ∧ N ≤ 60) (hw : 0 ≤ wh ∧ wh ≤ 1) (h : ∀ σ', sm [19] σ σ' → K (some (.int (if wh = 0 then Int32.ofInt (wkS (ww σ) (wv σ) n sd N) else oI (wkL (ww σ) (wv σ) n sd N)))) σ') : VM M8_week [.ref 0, .int sd, .int (nI N), .int wh] σ K := by
  refine vm_run s8_week n8_week (fun pc => pc == 41) 1000 (fun E => Nat.le_of_ble_eq_true rfl) ?_
  have h1 : ¬ nI N < 1 := nI_nlt hN.1 (by omega)
  have h2 : ¬ 60 < nI N := nI_nlt hN.2 (by decide)
  have h3 : ¬ wh < 0 := by have := hw.1; clear h; grind
  set_option maxRecDepth 100000 in simp (decide := true) only [c8_week, run_s, nxt_e, ap_const, ap_lconst, ap_ild, ap_lld, ap_ald, ap_ist, ap_lst, ap_ast, ap_iinc, ap_iadd, ap_isub, ap_imul, ap_iand, ap_ior, ap_ixor, ap_ishl, ap_ishr, ap_iushr, ap_idiv, ap_irem, ap_ineg, ap_ladd, ap_lsub, ap_lmul, ap_ldiv, ap_lrem, ap_lneg, ap_lcmp, ap_i2l, ap_l2i, ap_i2b, ap_i2s, ap_dup_int, ap_pop_int, ap_dup_ref, ap_pop_ref, ap_dup2, ap_ceq, ap_cne, ap_clt, ap_cge, ap_cgt, ap_cle, ap_zeq, ap_zne, ap_zlt, ap_zge, ap_zgt, ap_zle, ap_goto, ap_tsw, ap_lsw, ap_getI, ap_getJ, ap_getR, ap_putI, ap_putZ, ap_putJ, ap_iald, ap_lald, ap_bald, ap_aald, ap_iast, ap_last, ap_bast, ap_alen, ap_gst, ap_iret, ap_zret, ap_lret, ap_vret, ap_aret, ap_lmax, ap_labs, ap_acopy, ap_invV0, ap_invS0, ap_invV1, ap_invS1, ap_invV2, ap_invS2, ap_invV3, ap_invS3, ap_invV4, ap_invS4, ap_invV5, ap_invS5, tcnT, ocT, lenIT, lenWT, lenLT, lenVT, lenZT, startfT, vpL, sa_1, sa_2, sL_1, sL_2, si_1, si_2, sj_1, sj_2, ldI_e, ldL_e, ldA_e, inC_e, lk, st1, st2, rm1, rm2, Value.category, ctn_some, ctn_none, wsum, lv_args, Int32.reduceAdd, Int32.reduceSub, Int32.reduceMul, Nat.reduceAdd, Nat.reduceLT, Nat.reduceLeDiff, Nat.reduceEqDiff, Nat.reduceBEq, ↓reduceIte, true_and, and_true, Bool.false_eq_true, true_implies, false_implies, not_true_eq_false, not_false_eq_true, Bool.or_true, Bool.or_false, Bool.true_or, Bool.false_or, h1, h2, h3, hw.2]
  have hv1 : CV (si σ 19 0 sd) n := hv.sm (sm.rfl'.si (l := [19]) (by decide)) (by decide) (by decide) (by decide) (by decide) (by decide) (by decide)
  exact (L8_week (σ := si σ 19 0 sd) (sd := sd) hv1 hN.2 rfl (fun σ' hs => h σ' ((sm.rfl'.si (l := [19]) (by decide)).trans hs)) N 0 (by omega) _ sm.rfl' rfl).sub [0, 1, 2, 3, 4, 5, 6] rfl
/-! kept -/
def NV (σ : St) : Prop := ∀ m, m < 6 → σ.1 32 m = -1 ∨ ∃ k, k < 4 ∧ σ.1 32 m = nI k
theorem NV.sm {σ σ' : St} {l : List Nat} (h : NV σ) (hs : sm l σ σ') (h32 : 32 ∉ l) : NV σ' := by
  unfold NV at h ⊢
  rw [(hs 32 h32).1]
  exact h
/-- how many of the first members noted a kind -/
def cnt (nt : Nat → Int32) (k : Nat) : Nat → Nat
  | 0 => 0
  | j + 1 => cnt nt k j + if nt j = nI k then 1 else 0
theorem cnt_le (nt : Nat → Int32) (k : Nat) : ∀ j, cnt nt k j ≤ j := by
  intro j
  induction j with
  | zero => exact Nat.le_refl _
  | succ j ih => simp only [cnt]; split <;> omega
def kpP (nt : Nat → Int32) (n c m : Nat) : Bool := decide (nt m ≠ -1) && (List.range 4).all (fun k => decide (cnt nt k n = dg c k + if nt m = nI k then 1 else 0))
def kpS (nt : Nat → Int32) (n c : Nat) : Nat → Nat
  | 0 => 0
  | m + 1 => kpS nt n c m ||| (if kpP nt n c m then 2 ^ m else 0)
theorem kpS_lt {nt : Nat → Int32} {n c : Nat} : ∀ m, m ≤ 6 → kpS nt n c m < 64 := by
  intro m
  induction m with
  | zero => intro _; exact (by decide : 0 < 64)
  | succ m ih =>
    intro hm
    simp only [kpS]
    exact Nat.or_lt_two_pow (n := 6) (ih (by omega)) (by split; exact (Nat.pow_lt_pow_right (by decide) (by omega)); decide)
theorem subE {a f e : Nat} (ha : a ≤ 6) (hf : f ≤ 6) (he : e ≤ 1) : (nI a - nI f = nI e) ↔ a = f + e := by
  rw [← Int32.toInt_inj, pk_sub_toInt (by omega) (by omega), nI_toInt (by omega)]
  omega
theorem nI_lit : nI 0 = 0 ∧ nI 1 = 1 ∧ nI 2 = 2 ∧ nI 3 = 3 := ⟨rfl, rfl, rfl, rfl⟩
def jst (a f : Nat → Nat) (q : Nat) : Prop := a 0 = (f 0 + if 0 = q then 1 else 0) ∧ a 1 = (f 1 + if 1 = q then 1 else 0) ∧ a 2 = (f 2 + if 2 = q then 1 else 0) ∧ a 3 = (f 3 + if 3 = q then 1 else 0)
theorem v8_just {σ : St} {K : Kr} {a f : Nat → Nat} {q : Nat} (hq : q < 4) (ha : ∀ k, k < 4 → a k ≤ 6 ∧ f k ≤ 6 ∧ σ.1 33 k = nI (a k) - nI (f k)) (hT : jst a f q → K (some (.int 1)) σ) (hF : ¬ jst a f q → K (some (.int 0)) σ) : VM M8_isJustOneTooMany [.ref 0, .int (nI q)] σ K := by
  have z : ∀ k, k < 4 → ((σ.1 33 k = 0) ↔ a k = f k) := fun k hk => by
    obtain ⟨h1, h2, h3⟩ := ha k hk
    rw [h3]
    exact subE h1 h2 (show 0 ≤ 1 by decide)
  have o : ∀ k, k < 4 → ((σ.1 33 k = 1) ↔ a k = f k + 1) := fun k hk => by
    obtain ⟨h1, h2, h3⟩ := ha k hk
    rw [h3]
    exact subE h1 h2 (show 1 ≤ 1 by decide)
  refine vm_run s8_isJustOneTooMany n8_isJustOneTooMany (fun _ => false) 1000 (fun E => Nat.le_of_ble_eq_true rfl) ?_
  unfold jst at hT hF
  rcases (show q = 0 ∨ q = 1 ∨ q = 2 ∨ q = 3 by omega) with rfl | rfl | rfl | rfl
  all_goals
    set_option maxRecDepth 100000 in simp (decide := true) only [c8_isJustOneTooMany, run_s, nxt_e, ap_const, ap_lconst, ap_ild, ap_lld, ap_ald, ap_ist, ap_lst, ap_ast, ap_iinc, ap_iadd, ap_isub, ap_imul, ap_iand, ap_ior, ap_ixor, ap_ishl, ap_ishr, ap_iushr, ap_idiv, ap_irem, ap_ineg, ap_ladd, ap_lsub, ap_lmul, ap_ldiv, ap_lrem, ap_lneg, ap_lcmp, ap_i2l, ap_l2i, ap_i2b, ap_i2s, ap_dup_int, ap_pop_int, ap_dup_ref, ap_pop_ref, ap_dup2, ap_goto, ap_tsw, ap_lsw, ap_getI, ap_getJ, ap_getR, ap_putI, ap_putZ, ap_putJ, ap_iald, ap_lald, ap_bald, ap_aald, ap_iast, ap_last, ap_bast, ap_alen, ap_gst, ap_iret, ap_zret, ap_lret, ap_vret, ap_aret, ap_lmax, ap_labs, ap_acopy, ap_invV0, ap_invS0, ap_invV1, ap_invS1, ap_invV2, ap_invS2, ap_invV3, ap_invS3, ap_invV4, ap_invS4, ap_invV5, ap_invS5, tcnT, ocT, lenIT, lenWT, lenLT, lenVT, lenZT, startfT, vpL, sa_1, sa_2, sL_1, sL_2, si_1, si_2, sj_1, sj_2, ldI_e, ldL_e, ldA_e, inC_e, lk, st1, st2, rm1, rm2, Value.category, ctn_some, ctn_none, wsum, lv_args, Int32.reduceAdd, Int32.reduceSub, Int32.reduceMul, Nat.reduceAdd, Nat.reduceLT, Nat.reduceLeDiff, Nat.reduceEqDiff, Nat.reduceBEq, ↓reduceIte, true_and, and_true, Bool.false_eq_true, true_implies, false_implies, not_true_eq_false, not_false_eq_true, Bool.or_true, Bool.or_false, Bool.true_or, Bool.false_or, bx_ceq, bx_clt, bx_cge, bx_cgt, bx_cle, bx_cne, bx_zeq, bx_zlt, bx_zge, bx_zgt, bx_zle, bx_zne, iteP, nI_lit, z 0 (by decide), z 1 (by decide), z 2 (by decide), z 3 (by decide), o 0 (by decide), o 1 (by decide), o 2 (by decide), o 3 (by decide)]
    simp (decide := true) only [if_true, if_false, Nat.add_zero] at hT hF
    refine ⟨fun q0 => ⟨fun q1 => ⟨fun q2 => ⟨fun q3 => hT ⟨q0, q1, q2, q3⟩, fun q3 => hF (fun x => q3 x.2.2.2)⟩, fun q2 => hF (fun x => q2 x.2.2.1)⟩, fun q1 => hF (fun x => q1 x.2.1)⟩, fun q0 => hF (fun x => q0 x.1)⟩
