/-! ===== part 22: foldGreatest, the kinds on the greatest row ===== -/
def rg : Nat → Nat → List Nat
  | _, 0 => []
  | r, d + 1 => r :: rg (r + 1) d
theorem rg_len : ∀ (d r : Nat), (rg r d).length = d := by
  intro d
  induction d with
  | zero => intro r; rfl
  | succ d ih => intro r; simp [rg, ih]
theorem rg_pw {w : Nat → Nat → Nat} {n : Nat} (h : WS w n) : ∀ (d r : Nat), r + d ≤ n → 0 < PW w (rg r d) ∧ PW w (rg r d) ≤ 72 ^ d := by
  intro d
  induction d with
  | zero => intro r _; exact ⟨Nat.zero_lt_one, Nat.le_refl 1⟩
  | succ d ih =>
    intro r hr
    have h1 := ih (r + 1) (by omega)
    have h2 := h r (by omega)
    have e : 72 ^ (d + 1) = 72 * 72 ^ d := by rw [Nat.pow_succ, Nat.mul_comm]
    simp only [rg, PW]
    rw [e]
    exact ⟨Nat.mul_pos h2.1 h1.1, Nat.mul_le_mul h2.2 h1.2⟩
theorem rg_pw6 {w : Nat → Nat → Nat} {n d r : Nat} (h : WS w n) (hn : n ≤ 6) (hd : r + d ≤ n) : PW w (rg r d) ≤ 139314069504 := by
  have := (rg_pw h d r hd).2
  have h2 : 72 ^ d ≤ 72 ^ 6 := Nat.pow_le_pow_right (by decide) (by omega)
  rw [pow726] at h2
  omega
def gv (w : Nat → Nat → Nat) (val : Nat → Int) (n j c : Nat) : Int := G w val (rg j (n - j)) c
def V01 (val : Nat → Int) : Prop := ∀ c, c < 2401 → sz c ≤ 6 → 0 ≤ val c ∧ val c ≤ 1
theorem L8_great_in {σ : St} {K : Kr} {n r : Nat} (hv : MV σ n) (hr : r < 6) {V : Nat → Int64}
    (hk : ∀ σ', sm [13, 14] σ σ' → (∀ j, j < 4 → σ'.1 14 j = nI (ww σ r j)) → σ'.2 13 = V → VW M8_foldGreatest Xt K 48 [(1, .int (nI r)), (0, .ref 0)] [] σ') : ∀ σ1, sm [13, 14] σ σ1 → σ1.2 13 = V → VW M8_foldGreatest Xt K 14 [(1, .int (nI r)), (0, .ref 0)] [] σ1 := by
  intro σ1 hs hV
  have hv1 := hv.sm hs (by decide) (by decide) (by decide)
  have e : ∀ k, wd σ1 r k (σ1.1 29 r) = ww σ r k := fun k => by unfold ww; rw [wd_sm hs (by decide) (by decide), (hs 29 (by decide)).1]
  refine run_sound s8_foldGreatest (fun pc => pc == 10 || pc == 48) _ 1000 _ _ _ _ ?_
  set_option maxRecDepth 100000 in simp (decide := true) only [c8_foldGreatest, run_s, nxt_e, ap_const, ap_lconst, ap_ild, ap_lld, ap_ald, ap_ist, ap_lst, ap_ast, ap_iinc, ap_iadd, ap_isub, ap_imul, ap_iand, ap_ior, ap_ixor, ap_ishl, ap_ishr, ap_iushr, ap_idiv, ap_irem, ap_ineg, ap_ladd, ap_lsub, ap_lmul, ap_ldiv, ap_lrem, ap_lneg, ap_lcmp, ap_i2l, ap_l2i, ap_i2b, ap_i2s, ap_dup_int, ap_pop_int, ap_dup_ref, ap_pop_ref, ap_dup2, ap_ceq, ap_cne, ap_clt, ap_cge, ap_cgt, ap_cle, ap_zeq, ap_zne, ap_zlt, ap_zge, ap_zgt, ap_zle, ap_goto, ap_tsw, ap_lsw, ap_getI, ap_getJ, ap_getR, ap_putI, ap_putZ, ap_putJ, ap_iald, ap_lald, ap_bald, ap_aald, ap_iast, ap_last, ap_bast, ap_alen, ap_gst, ap_iret, ap_zret, ap_lret, ap_vret, ap_aret, ap_lmax, ap_labs, ap_acopy, ap_invV0, ap_invS0, ap_invV1, ap_invS1, ap_invV2, ap_invS2, ap_invV3, ap_invS3, ap_invV4, ap_invS4, ap_invV5, ap_invS5, tcnT, ocT, lenIT, lenWT, lenLT, lenVT, lenZT, startfT, vpL, sa_1, sa_2, sL_1, sL_2, si_1, si_2, sj_1, sj_2, ldI_e, ldL_e, ldA_e, inC_e, lk, st1, st2, rm1, rm2, Value.category, ctn_some, ctn_none, wsum, lv_args, Int32.reduceAdd, Int32.reduceSub, Int32.reduceMul, Nat.reduceAdd, Nat.reduceLT, Nat.reduceLeDiff, Nat.reduceEqDiff, Nat.reduceBEq, ↓reduceIte, true_and, and_true, Bool.false_eq_true, true_implies, false_implies, not_true_eq_false, not_false_eq_true, Bool.or_true, Bool.or_false, Bool.true_or, Bool.false_or, vin hr (by decide), nIc (show r < 2 ^ 31 by omega)]
  refine v8_weightN (k := 0) hv1 hr (by decide) ?_
  set_option maxRecDepth 100000 in simp (decide := true) only [c8_foldGreatest, run_s, nxt_e, ap_const, ap_lconst, ap_ild, ap_lld, ap_ald, ap_ist, ap_lst, ap_ast, ap_iinc, ap_iadd, ap_isub, ap_imul, ap_iand, ap_ior, ap_ixor, ap_ishl, ap_ishr, ap_iushr, ap_idiv, ap_irem, ap_ineg, ap_ladd, ap_lsub, ap_lmul, ap_ldiv, ap_lrem, ap_lneg, ap_lcmp, ap_i2l, ap_l2i, ap_i2b, ap_i2s, ap_dup_int, ap_pop_int, ap_dup_ref, ap_pop_ref, ap_dup2, ap_ceq, ap_cne, ap_clt, ap_cge, ap_cgt, ap_cle, ap_zeq, ap_zne, ap_zlt, ap_zge, ap_zgt, ap_zle, ap_goto, ap_tsw, ap_lsw, ap_getI, ap_getJ, ap_getR, ap_putI, ap_putZ, ap_putJ, ap_iald, ap_lald, ap_bald, ap_aald, ap_iast, ap_last, ap_bast, ap_alen, ap_gst, ap_iret, ap_zret, ap_lret, ap_vret, ap_aret, ap_lmax, ap_labs, ap_acopy, ap_invV0, ap_invS0, ap_invV1, ap_invS1, ap_invV2, ap_invS2, ap_invV3, ap_invS3, ap_invV4, ap_invS4, ap_invV5, ap_invS5, tcnT, ocT, lenIT, lenWT, lenLT, lenVT, lenZT, startfT, vpL, sa_1, sa_2, sL_1, sL_2, si_1, si_2, sj_1, sj_2, ldI_e, ldL_e, ldA_e, inC_e, lk, st1, st2, rm1, rm2, Value.category, ctn_some, ctn_none, wsum, lv_args, Int32.reduceAdd, Int32.reduceSub, Int32.reduceMul, Nat.reduceAdd, Nat.reduceLT, Nat.reduceLeDiff, Nat.reduceEqDiff, Nat.reduceBEq, ↓reduceIte, true_and, and_true, Bool.false_eq_true, true_implies, false_implies, not_true_eq_false, not_false_eq_true, Bool.or_true, Bool.or_false, Bool.true_or, Bool.false_or, vin hr (by decide), nIc (show r < 2 ^ 31 by omega), e, wd_si]
  refine v8_weightN (k := 1) (n := n) hv1 hr (by decide) ?_
  set_option maxRecDepth 100000 in simp (decide := true) only [c8_foldGreatest, run_s, nxt_e, ap_const, ap_lconst, ap_ild, ap_lld, ap_ald, ap_ist, ap_lst, ap_ast, ap_iinc, ap_iadd, ap_isub, ap_imul, ap_iand, ap_ior, ap_ixor, ap_ishl, ap_ishr, ap_iushr, ap_idiv, ap_irem, ap_ineg, ap_ladd, ap_lsub, ap_lmul, ap_ldiv, ap_lrem, ap_lneg, ap_lcmp, ap_i2l, ap_l2i, ap_i2b, ap_i2s, ap_dup_int, ap_pop_int, ap_dup_ref, ap_pop_ref, ap_dup2, ap_ceq, ap_cne, ap_clt, ap_cge, ap_cgt, ap_cle, ap_zeq, ap_zne, ap_zlt, ap_zge, ap_zgt, ap_zle, ap_goto, ap_tsw, ap_lsw, ap_getI, ap_getJ, ap_getR, ap_putI, ap_putZ, ap_putJ, ap_iald, ap_lald, ap_bald, ap_aald, ap_iast, ap_last, ap_bast, ap_alen, ap_gst, ap_iret, ap_zret, ap_lret, ap_vret, ap_aret, ap_lmax, ap_labs, ap_acopy, ap_invV0, ap_invS0, ap_invV1, ap_invS1, ap_invV2, ap_invS2, ap_invV3, ap_invS3, ap_invV4, ap_invS4, ap_invV5, ap_invS5, tcnT, ocT, lenIT, lenWT, lenLT, lenVT, lenZT, startfT, vpL, sa_1, sa_2, sL_1, sL_2, si_1, si_2, sj_1, sj_2, ldI_e, ldL_e, ldA_e, inC_e, lk, st1, st2, rm1, rm2, Value.category, ctn_some, ctn_none, wsum, lv_args, Int32.reduceAdd, Int32.reduceSub, Int32.reduceMul, Nat.reduceAdd, Nat.reduceLT, Nat.reduceLeDiff, Nat.reduceEqDiff, Nat.reduceBEq, ↓reduceIte, true_and, and_true, Bool.false_eq_true, true_implies, false_implies, not_true_eq_false, not_false_eq_true, Bool.or_true, Bool.or_false, Bool.true_or, Bool.false_or, vin hr (by decide), nIc (show r < 2 ^ 31 by omega), e, wd_si]
  refine v8_weightN (k := 2) (n := n) hv1 hr (by decide) ?_
  set_option maxRecDepth 100000 in simp (decide := true) only [c8_foldGreatest, run_s, nxt_e, ap_const, ap_lconst, ap_ild, ap_lld, ap_ald, ap_ist, ap_lst, ap_ast, ap_iinc, ap_iadd, ap_isub, ap_imul, ap_iand, ap_ior, ap_ixor, ap_ishl, ap_ishr, ap_iushr, ap_idiv, ap_irem, ap_ineg, ap_ladd, ap_lsub, ap_lmul, ap_ldiv, ap_lrem, ap_lneg, ap_lcmp, ap_i2l, ap_l2i, ap_i2b, ap_i2s, ap_dup_int, ap_pop_int, ap_dup_ref, ap_pop_ref, ap_dup2, ap_ceq, ap_cne, ap_clt, ap_cge, ap_cgt, ap_cle, ap_zeq, ap_zne, ap_zlt, ap_zge, ap_zgt, ap_zle, ap_goto, ap_tsw, ap_lsw, ap_getI, ap_getJ, ap_getR, ap_putI, ap_putZ, ap_putJ, ap_iald, ap_lald, ap_bald, ap_aald, ap_iast, ap_last, ap_bast, ap_alen, ap_gst, ap_iret, ap_zret, ap_lret, ap_vret, ap_aret, ap_lmax, ap_labs, ap_acopy, ap_invV0, ap_invS0, ap_invV1, ap_invS1, ap_invV2, ap_invS2, ap_invV3, ap_invS3, ap_invV4, ap_invS4, ap_invV5, ap_invS5, tcnT, ocT, lenIT, lenWT, lenLT, lenVT, lenZT, startfT, vpL, sa_1, sa_2, sL_1, sL_2, si_1, si_2, sj_1, sj_2, ldI_e, ldL_e, ldA_e, inC_e, lk, st1, st2, rm1, rm2, Value.category, ctn_some, ctn_none, wsum, lv_args, Int32.reduceAdd, Int32.reduceSub, Int32.reduceMul, Nat.reduceAdd, Nat.reduceLT, Nat.reduceLeDiff, Nat.reduceEqDiff, Nat.reduceBEq, ↓reduceIte, true_and, and_true, Bool.false_eq_true, true_implies, false_implies, not_true_eq_false, not_false_eq_true, Bool.or_true, Bool.or_false, Bool.true_or, Bool.false_or, vin hr (by decide), nIc (show r < 2 ^ 31 by omega), e, wd_si]
  refine v8_weightN (k := 3) (n := n) hv1 hr (by decide) ?_
  set_option maxRecDepth 100000 in simp (decide := true) only [c8_foldGreatest, run_s, nxt_e, ap_const, ap_lconst, ap_ild, ap_lld, ap_ald, ap_ist, ap_lst, ap_ast, ap_iinc, ap_iadd, ap_isub, ap_imul, ap_iand, ap_ior, ap_ixor, ap_ishl, ap_ishr, ap_iushr, ap_idiv, ap_irem, ap_ineg, ap_ladd, ap_lsub, ap_lmul, ap_ldiv, ap_lrem, ap_lneg, ap_lcmp, ap_i2l, ap_l2i, ap_i2b, ap_i2s, ap_dup_int, ap_pop_int, ap_dup_ref, ap_pop_ref, ap_dup2, ap_ceq, ap_cne, ap_clt, ap_cge, ap_cgt, ap_cle, ap_zeq, ap_zne, ap_zlt, ap_zge, ap_zgt, ap_zle, ap_goto, ap_tsw, ap_lsw, ap_getI, ap_getJ, ap_getR, ap_putI, ap_putZ, ap_putJ, ap_iald, ap_lald, ap_bald, ap_aald, ap_iast, ap_last, ap_bast, ap_alen, ap_gst, ap_iret, ap_zret, ap_lret, ap_vret, ap_aret, ap_lmax, ap_labs, ap_acopy, ap_invV0, ap_invS0, ap_invV1, ap_invS1, ap_invV2, ap_invS2, ap_invV3, ap_invS3, ap_invV4, ap_invS4, ap_invV5, ap_invS5, tcnT, ocT, lenIT, lenWT, lenLT, lenVT, lenZT, startfT, vpL, sa_1, sa_2, sL_1, sL_2, si_1, si_2, sj_1, sj_2, ldI_e, ldL_e, ldA_e, inC_e, lk, st1, st2, rm1, rm2, Value.category, ctn_some, ctn_none, wsum, lv_args, Int32.reduceAdd, Int32.reduceSub, Int32.reduceMul, Nat.reduceAdd, Nat.reduceLT, Nat.reduceLeDiff, Nat.reduceEqDiff, Nat.reduceBEq, ↓reduceIte, true_and, and_true, Bool.false_eq_true, true_implies, false_implies, not_true_eq_false, not_false_eq_true, Bool.or_true, Bool.or_false, Bool.true_or, Bool.false_or, vin hr (by decide), nIc (show r < 2 ^ 31 by omega), e, wd_si]
  refine (hk _ ((((hs.si (by decide)).si (by decide)).si (by decide)).si (by decide)) ?_ hV).sub [1, 2] rfl
  intro k hk
  rcases (show k = 0 ∨ k = 1 ∨ k = 2 ∨ k = 3 by omega) with rfl | rfl | rfl | rfl <;> rfl
theorem L8_foldGreatest {σ : St} {K : Kr} {n : Nat} {val : Nat → Int} (hv : CV σ n) (hB : V01 val)
    (h : ∀ σ', sm [13, 14] σ σ' → (∀ j c, j ≤ n → c < 2401 → sz c = j → σ'.2 13 (pl c) = Int64.ofInt (gv (ww σ) val n j c)) → K none σ') :
    ∀ (r d : Nat), r + d = n → ∀ σ1, sm [13, 14] σ σ1 → (∀ j c, r ≤ j → j ≤ n → c < 2401 → sz c = j → σ1.2 13 (pl c) = Int64.ofInt (gv (ww σ) val n j c)) → VW M8_foldGreatest Xt K 10 [(1, .int (nI r - 1)), (0, .ref 0)] [] σ1 := by
  have hn6 := hv.1.1
  intro r
  induction r with
  | zero =>
    intro d hd σ1 hsm hval
    refine run_sound s8_foldGreatest (fun pc => pc == 10 || pc == 48) _ 1000 _ _ _ _ ?_
    set_option maxRecDepth 100000 in simp (decide := true) only [c8_foldGreatest, run_s, nxt_e, ap_const, ap_lconst, ap_ild, ap_lld, ap_ald, ap_ist, ap_lst, ap_ast, ap_iinc, ap_iadd, ap_isub, ap_imul, ap_iand, ap_ior, ap_ixor, ap_ishl, ap_ishr, ap_iushr, ap_idiv, ap_irem, ap_ineg, ap_ladd, ap_lsub, ap_lmul, ap_ldiv, ap_lrem, ap_lneg, ap_lcmp, ap_i2l, ap_l2i, ap_i2b, ap_i2s, ap_dup_int, ap_pop_int, ap_dup_ref, ap_pop_ref, ap_dup2, ap_ceq, ap_cne, ap_clt, ap_cge, ap_cgt, ap_cle, ap_zeq, ap_zne, ap_zlt, ap_zge, ap_zgt, ap_zle, ap_goto, ap_tsw, ap_lsw, ap_getI, ap_getJ, ap_getR, ap_putI, ap_putZ, ap_putJ, ap_iald, ap_lald, ap_bald, ap_aald, ap_iast, ap_last, ap_bast, ap_alen, ap_gst, ap_iret, ap_zret, ap_lret, ap_vret, ap_aret, ap_lmax, ap_labs, ap_acopy, ap_invV0, ap_invS0, ap_invV1, ap_invS1, ap_invV2, ap_invS2, ap_invV3, ap_invS3, ap_invV4, ap_invS4, ap_invV5, ap_invS5, tcnT, ocT, lenIT, lenWT, lenLT, lenVT, lenZT, startfT, vpL, sa_1, sa_2, sL_1, sL_2, si_1, si_2, sj_1, sj_2, ldI_e, ldL_e, ldA_e, inC_e, lk, st1, st2, rm1, rm2, Value.category, ctn_some, ctn_none, wsum, lv_args, Int32.reduceAdd, Int32.reduceSub, Int32.reduceMul, Nat.reduceAdd, Nat.reduceLT, Nat.reduceLeDiff, Nat.reduceEqDiff, Nat.reduceBEq, ↓reduceIte, true_and, and_true, Bool.false_eq_true, true_implies, false_implies, not_true_eq_false, not_false_eq_true, Bool.or_true, Bool.or_false, Bool.true_or, Bool.false_or, m1lt]
    exact h σ1 hsm (fun j c hj hc hs => hval j c (Nat.zero_le _) hj hc hs)
  | succ r ih =>
    intro d hd σ1 hsm hval
    have hr6 : r < 6 := by omega
    refine run_sound s8_foldGreatest (fun pc => pc == 10 || pc == 14 || pc == 48) _ 1000 _ _ _ _ ?_
    set_option maxRecDepth 100000 in simp (decide := true) only [c8_foldGreatest, run_s, nxt_e, ap_const, ap_lconst, ap_ild, ap_lld, ap_ald, ap_ist, ap_lst, ap_ast, ap_iinc, ap_iadd, ap_isub, ap_imul, ap_iand, ap_ior, ap_ixor, ap_ishl, ap_ishr, ap_iushr, ap_idiv, ap_irem, ap_ineg, ap_ladd, ap_lsub, ap_lmul, ap_ldiv, ap_lrem, ap_lneg, ap_lcmp, ap_i2l, ap_l2i, ap_i2b, ap_i2s, ap_dup_int, ap_pop_int, ap_dup_ref, ap_pop_ref, ap_dup2, ap_ceq, ap_cne, ap_clt, ap_cge, ap_cgt, ap_cle, ap_zeq, ap_zne, ap_zlt, ap_zge, ap_zgt, ap_zle, ap_goto, ap_tsw, ap_lsw, ap_getI, ap_getJ, ap_getR, ap_putI, ap_putZ, ap_putJ, ap_iald, ap_lald, ap_bald, ap_aald, ap_iast, ap_last, ap_bast, ap_alen, ap_gst, ap_iret, ap_zret, ap_lret, ap_vret, ap_aret, ap_lmax, ap_labs, ap_acopy, ap_invV0, ap_invS0, ap_invV1, ap_invS1, ap_invV2, ap_invS2, ap_invV3, ap_invS3, ap_invV4, ap_invS4, ap_invV5, ap_invS5, tcnT, ocT, lenIT, lenWT, lenLT, lenVT, lenZT, startfT, vpL, sa_1, sa_2, sL_1, sL_2, si_1, si_2, sj_1, sj_2, ldI_e, ldL_e, ldA_e, inC_e, lk, st1, st2, rm1, rm2, Value.category, ctn_some, ctn_none, wsum, lv_args, Int32.reduceAdd, Int32.reduceSub, Int32.reduceMul, Nat.reduceAdd, Nat.reduceLT, Nat.reduceLeDiff, Nat.reduceEqDiff, Nat.reduceBEq, ↓reduceIte, true_and, and_true, Bool.false_eq_true, true_implies, false_implies, not_true_eq_false, not_false_eq_true, Bool.or_true, Bool.or_false, Bool.true_or, Bool.false_or, nI_pr, eq_false (nI_pos (show r < 2 ^ 31 by omega))]
    refine L8_great_in (V := σ1.2 13) hv.1 hr6 ?_ σ1 hsm rfl
    intro σ2 hsm2 h14 h13
    refine run_sound s8_foldGreatest (fun pc => pc == 10 || pc == 48) _ 1000 _ _ _ _ ?_
    set_option maxRecDepth 100000 in simp (decide := true) only [c8_foldGreatest, run_s, nxt_e, ap_const, ap_lconst, ap_ild, ap_lld, ap_ald, ap_ist, ap_lst, ap_ast, ap_iinc, ap_iadd, ap_isub, ap_imul, ap_iand, ap_ior, ap_ixor, ap_ishl, ap_ishr, ap_iushr, ap_idiv, ap_irem, ap_ineg, ap_ladd, ap_lsub, ap_lmul, ap_ldiv, ap_lrem, ap_lneg, ap_lcmp, ap_i2l, ap_l2i, ap_i2b, ap_i2s, ap_dup_int, ap_pop_int, ap_dup_ref, ap_pop_ref, ap_dup2, ap_ceq, ap_cne, ap_clt, ap_cge, ap_cgt, ap_cle, ap_zeq, ap_zne, ap_zlt, ap_zge, ap_zgt, ap_zle, ap_goto, ap_tsw, ap_lsw, ap_getI, ap_getJ, ap_getR, ap_putI, ap_putZ, ap_putJ, ap_iald, ap_lald, ap_bald, ap_aald, ap_iast, ap_last, ap_bast, ap_alen, ap_gst, ap_iret, ap_zret, ap_lret, ap_vret, ap_aret, ap_lmax, ap_labs, ap_acopy, ap_invV0, ap_invS0, ap_invV1, ap_invS1, ap_invV2, ap_invS2, ap_invV3, ap_invS3, ap_invV4, ap_invS4, ap_invV5, ap_invS5, tcnT, ocT, lenIT, lenWT, lenLT, lenVT, lenZT, startfT, vpL, sa_1, sa_2, sL_1, sL_2, si_1, si_2, sj_1, sj_2, ldI_e, ldL_e, ldA_e, inC_e, lk, st1, st2, rm1, rm2, Value.category, ctn_some, ctn_none, wsum, lv_args, Int32.reduceAdd, Int32.reduceSub, Int32.reduceMul, Nat.reduceAdd, Nat.reduceLT, Nat.reduceLeDiff, Nat.reduceEqDiff, Nat.reduceBEq, ↓reduceIte, true_and, and_true, Bool.false_eq_true, true_implies, false_implies, not_true_eq_false, not_false_eq_true, Bool.or_true, Bool.or_false, Bool.true_or, Bool.false_or]
    have hp2 : PT σ2 := hv.2.1.sm hsm2 (by decide) (by decide)
    refine v0_greatestAt (s := r) (by omega) hp2 ?_
    set_option maxRecDepth 100000 in simp (decide := true) only [c8_foldGreatest, run_s, nxt_e, ap_const, ap_lconst, ap_ild, ap_lld, ap_ald, ap_ist, ap_lst, ap_ast, ap_iinc, ap_iadd, ap_isub, ap_imul, ap_iand, ap_ior, ap_ixor, ap_ishl, ap_ishr, ap_iushr, ap_idiv, ap_irem, ap_ineg, ap_ladd, ap_lsub, ap_lmul, ap_ldiv, ap_lrem, ap_lneg, ap_lcmp, ap_i2l, ap_l2i, ap_i2b, ap_i2s, ap_dup_int, ap_pop_int, ap_dup_ref, ap_pop_ref, ap_dup2, ap_ceq, ap_cne, ap_clt, ap_cge, ap_cgt, ap_cle, ap_zeq, ap_zne, ap_zlt, ap_zge, ap_zgt, ap_zle, ap_goto, ap_tsw, ap_lsw, ap_getI, ap_getJ, ap_getR, ap_putI, ap_putZ, ap_putJ, ap_iald, ap_lald, ap_bald, ap_aald, ap_iast, ap_last, ap_bast, ap_alen, ap_gst, ap_iret, ap_zret, ap_lret, ap_vret, ap_aret, ap_lmax, ap_labs, ap_acopy, ap_invV0, ap_invS0, ap_invV1, ap_invS1, ap_invV2, ap_invS2, ap_invV3, ap_invS3, ap_invV4, ap_invS4, ap_invV5, ap_invS5, tcnT, ocT, lenIT, lenWT, lenLT, lenVT, lenZT, startfT, vpL, sa_1, sa_2, sL_1, sL_2, si_1, si_2, sj_1, sj_2, ldI_e, ldL_e, ldA_e, inC_e, lk, st1, st2, rm1, rm2, Value.category, ctn_some, ctn_none, wsum, lv_args, Int32.reduceAdd, Int32.reduceSub, Int32.reduceMul, Nat.reduceAdd, Nat.reduceLT, Nat.reduceLeDiff, Nat.reduceEqDiff, Nat.reduceBEq, ↓reduceIte, true_and, and_true, Bool.false_eq_true, true_implies, false_implies, not_true_eq_false, not_false_eq_true, Bool.or_true, Bool.or_false, Bool.true_or, Bool.false_or, addm1]
    refine (ih (d + 1) (by omega) _ (hsm2.sL (by decide)) ?_).sub [0, 1] rfl
    intro j c hj hjn hc hcs
    rw [sL_2, if_pos rfl]
    obtain ⟨-, q2, q3, q4⟩ := pl_spec hc (by omega)
    rw [hcs] at q3 q4
    by_cases e : j = r
    · subst e
      rw [if_pos ⟨q3, q4⟩]
      unfold gv
      rw [show n - j = d + 1 by omega]
      refine gS_G (w := ww σ) (lft := j) hB (fun k hk => hv.1.wd_le hr6 hk) (rg_pw6 hv.wsw hn6 (by omega)) (by rw [rg_len]; omega) h14 ?_ hc hcs
      intro c' hc' hcs'
      rw [h13, hval (j + 1) c' (by omega) (by omega) hc' hcs']
      unfold gv
      rw [show n - (j + 1) = d by omega]
    · have := sS_mono (show r + 1 ≤ j by omega)
      rw [if_neg (by omega), h13]
      exact hval j c (by omega) hjn hc hcs
theorem v8_foldGreatest {σ : St} {K : Kr} {n : Nat} (val : Nat → Int) (hv : CV σ n) (hB : V01 val) (hval : ∀ c, c < 2401 → sz c = n → σ.2 13 (pl c) = Int64.ofInt (val c))
    (h : ∀ σ', sm [13, 14] σ σ' → (∀ j c, j ≤ n → c < 2401 → sz c = j → σ'.2 13 (pl c) = Int64.ofInt (gv (ww σ) val n j c)) → K none σ') : VM M8_foldGreatest [.ref 0] σ K := by
  refine vm_run s8_foldGreatest n8_foldGreatest (fun pc => pc == 10 || pc == 48) 1000 (fun E => Nat.le_of_ble_eq_true rfl) ?_
  set_option maxRecDepth 100000 in simp (decide := true) only [c8_foldGreatest, run_s, nxt_e, ap_const, ap_lconst, ap_ild, ap_lld, ap_ald, ap_ist, ap_lst, ap_ast, ap_iinc, ap_iadd, ap_isub, ap_imul, ap_iand, ap_ior, ap_ixor, ap_ishl, ap_ishr, ap_iushr, ap_idiv, ap_irem, ap_ineg, ap_ladd, ap_lsub, ap_lmul, ap_ldiv, ap_lrem, ap_lneg, ap_lcmp, ap_i2l, ap_l2i, ap_i2b, ap_i2s, ap_dup_int, ap_pop_int, ap_dup_ref, ap_pop_ref, ap_dup2, ap_ceq, ap_cne, ap_clt, ap_cge, ap_cgt, ap_cle, ap_zeq, ap_zne, ap_zlt, ap_zge, ap_zgt, ap_zle, ap_goto, ap_tsw, ap_lsw, ap_getI, ap_getJ, ap_getR, ap_putI, ap_putZ, ap_putJ, ap_iald, ap_lald, ap_bald, ap_aald, ap_iast, ap_last, ap_bast, ap_alen, ap_gst, ap_iret, ap_zret, ap_lret, ap_vret, ap_aret, ap_lmax, ap_labs, ap_acopy, ap_invV0, ap_invS0, ap_invV1, ap_invS1, ap_invV2, ap_invS2, ap_invV3, ap_invS3, ap_invV4, ap_invS4, ap_invV5, ap_invS5, tcnT, ocT, lenIT, lenWT, lenLT, lenVT, lenZT, startfT, vpL, sa_1, sa_2, sL_1, sL_2, si_1, si_2, sj_1, sj_2, ldI_e, ldL_e, ldA_e, inC_e, lk, st1, st2, rm1, rm2, Value.category, ctn_some, ctn_none, wsum, lv_args, Int32.reduceAdd, Int32.reduceSub, Int32.reduceMul, Nat.reduceAdd, Nat.reduceLT, Nat.reduceLeDiff, Nat.reduceEqDiff, Nat.reduceBEq, ↓reduceIte, true_and, and_true, Bool.false_eq_true, true_implies, false_implies, not_true_eq_false, not_false_eq_true, Bool.or_true, Bool.or_false, Bool.true_or, Bool.false_or, hv.1.2.1]
  refine (L8_foldGreatest hv hB h n 0 rfl σ sm.rfl' (fun j c hj hjn hc hs => ?_)).sub [0, 1] rfl
  have : j = n := by omega
  subst this
  rw [hval c hc hs]
  unfold gv
  rw [Nat.sub_self]
  rfl
def kd (w : Nat → Nat → Nat) (val : Nat → Int) (n j c : Nat) : Nat :=
  if (w j 0 : Int) * gv w val n (j + 1) (c + pw 0) = gv w val n j c then 0
  else if (w j 1 : Int) * gv w val n (j + 1) (c + pw 1) = gv w val n j c then 1
  else if (w j 2 : Int) * gv w val n (j + 1) (c + pw 2) = gv w val n j c then 2
  else if (w j 3 : Int) * gv w val n (j + 1) (c + pw 3) = gv w val n j c then 3 else 4
def gp (w : Nat → Nat → Nat) (val : Nat → Int) (n : Nat) : Nat → Nat
  | 0 => 0
  | j + 1 => gp w val n j + pw (kd w val n j (gp w val n j))
theorem gv_step {w : Nat → Nat → Nat} {val : Nat → Int} {n j c : Nat} (hj : j < n) : gv w val n j c = mx (mx (mx (mx 0 ((w j 0 : Int) * gv w val n (j + 1) (c + pw 0))) ((w j 1 : Int) * gv w val n (j + 1) (c + pw 1))) ((w j 2 : Int) * gv w val n (j + 1) (c + pw 2))) ((w j 3 : Int) * gv w val n (j + 1) (c + pw 3)) := by
  unfold gv
  rw [show n - j = (n - (j + 1)) + 1 by omega]
  rfl
theorem kd_spec {w : Nat → Nat → Nat} {val : Nat → Int} {n j c : Nat} (hj : j < n) (h : 0 < gv w val n j c) : kd w val n j c < 4 ∧ (w j (kd w val n j c) : Int) * gv w val n (j + 1) (c + pw (kd w val n j c)) = gv w val n j c := by
  have e := gv_step (w := w) (val := val) (n := n) (j := j) (c := c) hj
  unfold kd
  by_cases h0 : (w j 0 : Int) * gv w val n (j + 1) (c + pw 0) = gv w val n j c
  · rw [if_pos h0]; exact ⟨by decide, h0⟩
  · rw [if_neg h0]
    by_cases h1 : (w j 1 : Int) * gv w val n (j + 1) (c + pw 1) = gv w val n j c
    · rw [if_pos h1]; exact ⟨by decide, h1⟩
    · rw [if_neg h1]
      by_cases h2 : (w j 2 : Int) * gv w val n (j + 1) (c + pw 2) = gv w val n j c
      · rw [if_pos h2]; exact ⟨by decide, h2⟩
      · rw [if_neg h2]
        by_cases h3 : (w j 3 : Int) * gv w val n (j + 1) (c + pw 3) = gv w val n j c
        · rw [if_pos h3]; exact ⟨by decide, h3⟩
        · exfalso
          generalize (w j 0 : Int) * gv w val n (j + 1) (c + pw 0) = x0 at e h0
          generalize (w j 1 : Int) * gv w val n (j + 1) (c + pw 1) = x1 at e h1
          generalize (w j 2 : Int) * gv w val n (j + 1) (c + pw 2) = x2 at e h2
          generalize (w j 3 : Int) * gv w val n (j + 1) (c + pw 3) = x3 at e h3
          have mc : ∀ x y : Int, mx x y = x ∨ mx x y = y := fun x y => by unfold mx; split <;> simp
          rcases mc (mx (mx (mx 0 x0) x1) x2) x3 with q | q
          · rw [q] at e
            rcases mc (mx (mx 0 x0) x1) x2 with q | q
            · rw [q] at e
              rcases mc (mx 0 x0) x1 with q | q
              · rw [q] at e
                rcases mc 0 x0 with q | q
                · rw [q] at e; omega
                · rw [q] at e; exact h0 e.symm
              · rw [q] at e; exact h1 e.symm
            · rw [q] at e; exact h2 e.symm
          · rw [q] at e; exact h3 e.symm
theorem gp_spec {w : Nat → Nat → Nat} {val : Nat → Int} {n : Nat} (hn : n ≤ 6) (h : 0 < gv w val n 0 0) : ∀ j, j ≤ n → gp w val n j < 2401 ∧ sz (gp w val n j) = j ∧ 0 < gv w val n j (gp w val n j) := by
  intro j
  induction j with
  | zero =>
    intro _
    have e : gp w val n 0 = 0 := rfl
    rw [e]
    exact ⟨by decide, rfl, h⟩
  | succ j ih =>
    intro hj
    obtain ⟨h1, h2, h3⟩ := ih (by omega)
    obtain ⟨k1, k2⟩ := kd_spec (by omega) h3
    obtain ⟨i1, i2, -⟩ := inc_spec h1 (by omega) k1
    refine ⟨i1, by simp only [gp]; omega, ?_⟩
    simp only [gp]
    rw [← k2] at h3
    by_cases q : 0 < gv w val n (j + 1) (gp w val n j + pw (kd w val n j (gp w val n j)))
    · exact q
    · have := Int.mul_le_mul_of_nonneg_left (Int.not_lt.mp q) (Int.natCast_nonneg (w j (kd w val n j (gp w val n j))))
      rw [Int.mul_zero] at this
      omega
theorem gv_b {w : Nat → Nat → Nat} {val : Nat → Int} {n j c : Nat} (h : WS w n) (hn : n ≤ 6) (hB : V01 val) (hj : j ≤ n) (hc : c < 2401) (hs : sz c = j) : 0 ≤ gv w val n j c ∧ gv w val n j c ≤ 139314069504 := by
  have := G_bound (w := w) hB (rg j (n - j)) c hc (by rw [rg_len]; omega)
  have h2 := rg_pw6 (w := w) (d := n - j) (r := j) h hn (by omega)
  unfold gv
  omega
theorem eqI {x y : Int} (hx : -2 ^ 63 ≤ x ∧ x < 2 ^ 63) (hy : -2 ^ 63 ≤ y ∧ y < 2 ^ 63) : (Int64.ofInt x = Int64.ofInt y) ↔ x = y := by
  rw [← Int64.toInt_inj, ofI_b hx.1 hx.2, ofI_b hy.1 hy.2]
theorem L8_kogr {σ : St} {K : Kr} {n m : Nat} {val : Nat → Int} (hv : CV σ n) (hB : V01 val) (hm : m < n) (hg : 0 < gv (ww σ) val n 0 0) (hval : ∀ j c, j ≤ n → c < 2401 → sz c = j → σ.2 13 (pl c) = Int64.ofInt (gv (ww σ) val n j c))
    (h : K (some (.int (nI (kd (ww σ) val n m (gp (ww σ) val n m))))) σ) : ∀ (d j : Nat), j + d = m + 1 → ∀ t : Int32, (j = m + 1 → t = nI (kd (ww σ) val n m (gp (ww σ) val n m))) → VW M8_kindOnGreatestRow Xt K 7 [(4, .int (nI j)), (2, .int (nI (pl (gp (ww σ) val n j)))), (3, .int t), (0, .ref 0), (1, .int (nI m))] [] σ := by
  have hn := hv.1.1
  intro d
  induction d with
  | zero =>
    intro j hj t ht
    have : j = m + 1 := by omega
    subst this
    refine run_sound s8_kindOnGreatestRow (fun pc => pc == 7) _ 1000 _ _ _ _ ?_
    set_option maxRecDepth 100000 in simp (decide := true) only [c8_kindOnGreatestRow, run_s, nxt_e, ap_const, ap_lconst, ap_ild, ap_lld, ap_ald, ap_ist, ap_lst, ap_ast, ap_iinc, ap_iadd, ap_isub, ap_imul, ap_iand, ap_ior, ap_ixor, ap_ishl, ap_ishr, ap_iushr, ap_idiv, ap_irem, ap_ineg, ap_ladd, ap_lsub, ap_lmul, ap_ldiv, ap_lrem, ap_lneg, ap_lcmp, ap_i2l, ap_l2i, ap_i2b, ap_i2s, ap_dup_int, ap_pop_int, ap_dup_ref, ap_pop_ref, ap_dup2, ap_ceq, ap_cne, ap_clt, ap_cge, ap_cgt, ap_cle, ap_zeq, ap_zne, ap_zlt, ap_zge, ap_zgt, ap_zle, ap_goto, ap_tsw, ap_lsw, ap_getI, ap_getJ, ap_getR, ap_putI, ap_putZ, ap_putJ, ap_iald, ap_lald, ap_bald, ap_aald, ap_iast, ap_last, ap_bast, ap_alen, ap_gst, ap_iret, ap_zret, ap_lret, ap_vret, ap_aret, ap_lmax, ap_labs, ap_acopy, ap_invV0, ap_invS0, ap_invV1, ap_invS1, ap_invV2, ap_invS2, ap_invV3, ap_invS3, ap_invV4, ap_invS4, ap_invV5, ap_invS5, tcnT, ocT, lenIT, lenWT, lenLT, lenVT, lenZT, startfT, vpL, sa_1, sa_2, sL_1, sL_2, si_1, si_2, sj_1, sj_2, ldI_e, ldL_e, ldA_e, inC_e, lk, st1, st2, rm1, rm2, Value.category, ctn_some, ctn_none, wsum, lv_args, Int32.reduceAdd, Int32.reduceSub, Int32.reduceMul, Nat.reduceAdd, Nat.reduceLT, Nat.reduceLeDiff, Nat.reduceEqDiff, Nat.reduceBEq, ↓reduceIte, true_and, and_true, Bool.false_eq_true, true_implies, false_implies, not_true_eq_false, not_false_eq_true, Bool.or_true, Bool.or_false, Bool.true_or, Bool.false_or, eq_true (nI_lt (show m < m + 1 by omega) (by omega))]
    rw [ht rfl]
    exact h
  | succ d ih =>
    intro j hj t ht
    have hj6 : j < 6 := by omega
    obtain ⟨g1, g2, g3⟩ := gp_spec (w := ww σ) (val := val) hn hg j (by omega)
    obtain ⟨k1, k2⟩ := kd_spec (w := ww σ) (val := val) (n := n) (j := j) (by omega) g3
    obtain ⟨p1, p2, p3, p4⟩ := pl_spec g1 (by omega)
    have hp126 : pl (gp (ww σ) val n j) < 126 := by
      have := sS_mono (show sz (gp (ww σ) val n j) + 1 ≤ 6 by omega)
      have e6 : sS 6 = 126 := rfl
      omega
    have gb := gv_b (w := ww σ) hv.wsw hn hB (show j ≤ n by omega) g1 g2
    have hinc := fun k (hk : k < 4) => inc_spec g1 (by omega : sz (gp (ww σ) val n j) < 6) hk
    have hpl := fun k (hk : k < 4) => (pl_spec (hinc k hk).1 (by have := (hinc k hk).2.1; omega)).2.1
    have hvk := fun k (hk : k < 4) => hval (j + 1) (gp (ww σ) val n j + pw k) (by omega) (hinc k hk).1 (by have := (hinc k hk).2.1; omega)
    have hwk := fun k (hk : k < 4) => hv.1.wd_le (d := σ.1 29 j) hj6 hk
    have hgk := fun k (hk : k < 4) => gv_b (w := ww σ) hv.wsw hn hB (show j + 1 ≤ n by omega) (hinc k hk).1 (by have := (hinc k hk).2.1; omega)
    have hprod : ∀ k, k < 4 → ((Int64.ofInt ((wd σ j k (σ.1 29 j) : Int) * gv (ww σ) val n (j + 1) (gp (ww σ) val n j + pw k)) = Int64.ofInt (gv (ww σ) val n j (gp (ww σ) val n j))) ↔ (ww σ j k : Int) * gv (ww σ) val n (j + 1) (gp (ww σ) val n j + pw k) = gv (ww σ) val n j (gp (ww σ) val n j)) := by
      intro k hk
      have h1 := hgk k hk
      have h2 := hwk k hk
      have g := Int.mul_le_mul (show (wd σ j k (σ.1 29 j) : Int) ≤ 18 by omega) h1.2 h1.1 (by omega)
      have g0 := Int.mul_nonneg (Int.natCast_nonneg (wd σ j k (σ.1 29 j))) h1.1
      refine eqI ⟨by omega, by omega⟩ ⟨by omega, by omega⟩
    have hV0 := hval j (gp (ww σ) val n j) (by omega) g1 g2
    refine run_sound s8_kindOnGreatestRow (fun pc => pc == 7) _ 1000 _ _ _ _ ?_
    set_option maxRecDepth 100000 in simp (decide := true) only [c8_kindOnGreatestRow, run_s, nxt_e, ap_const, ap_lconst, ap_ild, ap_lld, ap_ald, ap_ist, ap_lst, ap_ast, ap_iinc, ap_iadd, ap_isub, ap_imul, ap_iand, ap_ior, ap_ixor, ap_ishl, ap_ishr, ap_iushr, ap_idiv, ap_irem, ap_ineg, ap_ladd, ap_lsub, ap_lmul, ap_ldiv, ap_lrem, ap_lneg, ap_lcmp, ap_i2l, ap_l2i, ap_i2b, ap_i2s, ap_dup_int, ap_pop_int, ap_dup_ref, ap_pop_ref, ap_dup2, ap_ceq, ap_cne, ap_clt, ap_cge, ap_cgt, ap_cle, ap_zeq, ap_zne, ap_zlt, ap_zge, ap_zgt, ap_zle, ap_goto, ap_tsw, ap_lsw, ap_getI, ap_getJ, ap_getR, ap_putI, ap_putZ, ap_putJ, ap_iald, ap_lald, ap_bald, ap_aald, ap_iast, ap_last, ap_bast, ap_alen, ap_gst, ap_iret, ap_zret, ap_lret, ap_vret, ap_aret, ap_lmax, ap_labs, ap_acopy, ap_invV0, ap_invS0, ap_invV1, ap_invS1, ap_invV2, ap_invS2, ap_invV3, ap_invS3, ap_invV4, ap_invS4, ap_invV5, ap_invS5, tcnT, ocT, lenIT, lenWT, lenLT, lenVT, lenZT, startfT, vpL, sa_1, sa_2, sL_1, sL_2, si_1, si_2, sj_1, sj_2, ldI_e, ldL_e, ldA_e, inC_e, lk, st1, st2, rm1, rm2, Value.category, ctn_some, ctn_none, wsum, lv_args, Int32.reduceAdd, Int32.reduceSub, Int32.reduceMul, Nat.reduceAdd, Nat.reduceLT, Nat.reduceLeDiff, Nat.reduceEqDiff, Nat.reduceBEq, ↓reduceIte, true_and, and_true, Bool.false_eq_true, true_implies, false_implies, not_true_eq_false, not_false_eq_true, Bool.or_true, Bool.or_false, Bool.true_or, Bool.false_or, eq_false (nI_nlt (show j ≤ m by omega) (by omega)), vin hj6 (by decide), nIc (show j < 2 ^ 31 by omega)]
    refine v8_weightN (k := 0) hv.1 hj6 (by decide) ?_
    set_option maxRecDepth 100000 in simp (decide := true) only [c8_kindOnGreatestRow, run_s, nxt_e, ap_const, ap_lconst, ap_ild, ap_lld, ap_ald, ap_ist, ap_lst, ap_ast, ap_iinc, ap_iadd, ap_isub, ap_imul, ap_iand, ap_ior, ap_ixor, ap_ishl, ap_ishr, ap_iushr, ap_idiv, ap_irem, ap_ineg, ap_ladd, ap_lsub, ap_lmul, ap_ldiv, ap_lrem, ap_lneg, ap_lcmp, ap_i2l, ap_l2i, ap_i2b, ap_i2s, ap_dup_int, ap_pop_int, ap_dup_ref, ap_pop_ref, ap_dup2, ap_ceq, ap_cne, ap_clt, ap_cge, ap_cgt, ap_cle, ap_zeq, ap_zne, ap_zlt, ap_zge, ap_zgt, ap_zle, ap_goto, ap_tsw, ap_lsw, ap_getI, ap_getJ, ap_getR, ap_putI, ap_putZ, ap_putJ, ap_iald, ap_lald, ap_bald, ap_aald, ap_iast, ap_last, ap_bast, ap_alen, ap_gst, ap_iret, ap_zret, ap_lret, ap_vret, ap_aret, ap_lmax, ap_labs, ap_acopy, ap_invV0, ap_invS0, ap_invV1, ap_invS1, ap_invV2, ap_invS2, ap_invV3, ap_invS3, ap_invV4, ap_invS4, ap_invV5, ap_invS5, tcnT, ocT, lenIT, lenWT, lenLT, lenVT, lenZT, startfT, vpL, sa_1, sa_2, sL_1, sL_2, si_1, si_2, sj_1, sj_2, ldI_e, ldL_e, ldA_e, inC_e, lk, st1, st2, rm1, rm2, Value.category, ctn_some, ctn_none, wsum, lv_args, Int32.reduceAdd, Int32.reduceSub, Int32.reduceMul, Nat.reduceAdd, Nat.reduceLT, Nat.reduceLeDiff, Nat.reduceEqDiff, Nat.reduceBEq, ↓reduceIte, true_and, and_true, Bool.false_eq_true, true_implies, false_implies, not_true_eq_false, not_false_eq_true, Bool.or_true, Bool.or_false, Bool.true_or, Bool.false_or, vin hj6 (by decide), nIc (show j < 2 ^ 31 by omega)]
    refine v4_withN (i := pl (gp (ww σ) val n j)) (k := 0) hv.2.1 hp126 (by decide) ?_
    set_option maxRecDepth 100000 in simp (decide := true) only [c8_kindOnGreatestRow, run_s, nxt_e, ap_const, ap_lconst, ap_ild, ap_lld, ap_ald, ap_ist, ap_lst, ap_ast, ap_iinc, ap_iadd, ap_isub, ap_imul, ap_iand, ap_ior, ap_ixor, ap_ishl, ap_ishr, ap_iushr, ap_idiv, ap_irem, ap_ineg, ap_ladd, ap_lsub, ap_lmul, ap_ldiv, ap_lrem, ap_lneg, ap_lcmp, ap_i2l, ap_l2i, ap_i2b, ap_i2s, ap_dup_int, ap_pop_int, ap_dup_ref, ap_pop_ref, ap_dup2, ap_ceq, ap_cne, ap_clt, ap_cge, ap_cgt, ap_cle, ap_zeq, ap_zne, ap_zlt, ap_zge, ap_zgt, ap_zle, ap_goto, ap_tsw, ap_lsw, ap_getI, ap_getJ, ap_getR, ap_putI, ap_putZ, ap_putJ, ap_iald, ap_lald, ap_bald, ap_aald, ap_iast, ap_last, ap_bast, ap_alen, ap_gst, ap_iret, ap_zret, ap_lret, ap_vret, ap_aret, ap_lmax, ap_labs, ap_acopy, ap_invV0, ap_invS0, ap_invV1, ap_invS1, ap_invV2, ap_invS2, ap_invV3, ap_invS3, ap_invV4, ap_invS4, ap_invV5, ap_invS5, tcnT, ocT, lenIT, lenWT, lenLT, lenVT, lenZT, startfT, vpL, sa_1, sa_2, sL_1, sL_2, si_1, si_2, sj_1, sj_2, ldI_e, ldL_e, ldA_e, inC_e, lk, st1, st2, rm1, rm2, Value.category, ctn_some, ctn_none, wsum, lv_args, Int32.reduceAdd, Int32.reduceSub, Int32.reduceMul, Nat.reduceAdd, Nat.reduceLT, Nat.reduceLeDiff, Nat.reduceEqDiff, Nat.reduceBEq, ↓reduceIte, true_and, and_true, Bool.false_eq_true, true_implies, false_implies, not_true_eq_false, not_false_eq_true, Bool.or_true, Bool.or_false, Bool.true_or, Bool.false_or, p1, vin (hpl 0 (by decide)) (by decide), nIc (Nat.lt_trans (hpl 0 (by decide)) (by decide)), vin p2 (by decide), nIc (Nat.lt_trans p2 (by decide)), hvk 0 (by decide), hV0, toL (wd σ j 0 (σ.1 29 j)) (by have := hwk 0 (by decide); omega), lg_cmp_eq, hprod 0 (by decide), vin hj6 (by decide), nIc (show j < 2 ^ 31 by omega)]
    refine ⟨fun q0 => ?_, fun q0 => ?_⟩
    rotate_left
    · have ek : kd (ww σ) val n j (gp (ww σ) val n j) = 0 := by unfold kd; rw [if_pos q0]
      refine v4_withN (i := pl (gp (ww σ) val n j)) (k := 0) hv.2.1 hp126 (by decide) ?_
      set_option maxRecDepth 100000 in simp (decide := true) only [c8_kindOnGreatestRow, run_s, nxt_e, ap_const, ap_lconst, ap_ild, ap_lld, ap_ald, ap_ist, ap_lst, ap_ast, ap_iinc, ap_iadd, ap_isub, ap_imul, ap_iand, ap_ior, ap_ixor, ap_ishl, ap_ishr, ap_iushr, ap_idiv, ap_irem, ap_ineg, ap_ladd, ap_lsub, ap_lmul, ap_ldiv, ap_lrem, ap_lneg, ap_lcmp, ap_i2l, ap_l2i, ap_i2b, ap_i2s, ap_dup_int, ap_pop_int, ap_dup_ref, ap_pop_ref, ap_dup2, ap_ceq, ap_cne, ap_clt, ap_cge, ap_cgt, ap_cle, ap_zeq, ap_zne, ap_zlt, ap_zge, ap_zgt, ap_zle, ap_goto, ap_tsw, ap_lsw, ap_getI, ap_getJ, ap_getR, ap_putI, ap_putZ, ap_putJ, ap_iald, ap_lald, ap_bald, ap_aald, ap_iast, ap_last, ap_bast, ap_alen, ap_gst, ap_iret, ap_zret, ap_lret, ap_vret, ap_aret, ap_lmax, ap_labs, ap_acopy, ap_invV0, ap_invS0, ap_invV1, ap_invS1, ap_invV2, ap_invS2, ap_invV3, ap_invS3, ap_invV4, ap_invS4, ap_invV5, ap_invS5, tcnT, ocT, lenIT, lenWT, lenLT, lenVT, lenZT, startfT, vpL, sa_1, sa_2, sL_1, sL_2, si_1, si_2, sj_1, sj_2, ldI_e, ldL_e, ldA_e, inC_e, lk, st1, st2, rm1, rm2, Value.category, ctn_some, ctn_none, wsum, lv_args, Int32.reduceAdd, Int32.reduceSub, Int32.reduceMul, Nat.reduceAdd, Nat.reduceLT, Nat.reduceLeDiff, Nat.reduceEqDiff, Nat.reduceBEq, ↓reduceIte, true_and, and_true, Bool.false_eq_true, true_implies, false_implies, not_true_eq_false, not_false_eq_true, Bool.or_true, Bool.or_false, Bool.true_or, Bool.false_or, p1, nI_1]
      have ht2 : j + 1 = m + 1 → nI 0 = nI (kd (ww σ) val n m (gp (ww σ) val n m)) := fun e => by rw [show m = j by omega, ek]
      have hii := ih (j + 1) (by omega) (nI 0) ht2
      have eg : gp (ww σ) val n (j + 1) = gp (ww σ) val n j + pw 0 := by simp only [gp]; rw [ek]
      rw [eg] at hii
      exact hii.sub [0, 1, 3, 4, 5] rfl
    refine v8_weightN (k := 1) hv.1 hj6 (by decide) ?_
    set_option maxRecDepth 100000 in simp (decide := true) only [c8_kindOnGreatestRow, run_s, nxt_e, ap_const, ap_lconst, ap_ild, ap_lld, ap_ald, ap_ist, ap_lst, ap_ast, ap_iinc, ap_iadd, ap_isub, ap_imul, ap_iand, ap_ior, ap_ixor, ap_ishl, ap_ishr, ap_iushr, ap_idiv, ap_irem, ap_ineg, ap_ladd, ap_lsub, ap_lmul, ap_ldiv, ap_lrem, ap_lneg, ap_lcmp, ap_i2l, ap_l2i, ap_i2b, ap_i2s, ap_dup_int, ap_pop_int, ap_dup_ref, ap_pop_ref, ap_dup2, ap_ceq, ap_cne, ap_clt, ap_cge, ap_cgt, ap_cle, ap_zeq, ap_zne, ap_zlt, ap_zge, ap_zgt, ap_zle, ap_goto, ap_tsw, ap_lsw, ap_getI, ap_getJ, ap_getR, ap_putI, ap_putZ, ap_putJ, ap_iald, ap_lald, ap_bald, ap_aald, ap_iast, ap_last, ap_bast, ap_alen, ap_gst, ap_iret, ap_zret, ap_lret, ap_vret, ap_aret, ap_lmax, ap_labs, ap_acopy, ap_invV0, ap_invS0, ap_invV1, ap_invS1, ap_invV2, ap_invS2, ap_invV3, ap_invS3, ap_invV4, ap_invS4, ap_invV5, ap_invS5, tcnT, ocT, lenIT, lenWT, lenLT, lenVT, lenZT, startfT, vpL, sa_1, sa_2, sL_1, sL_2, si_1, si_2, sj_1, sj_2, ldI_e, ldL_e, ldA_e, inC_e, lk, st1, st2, rm1, rm2, Value.category, ctn_some, ctn_none, wsum, lv_args, Int32.reduceAdd, Int32.reduceSub, Int32.reduceMul, Nat.reduceAdd, Nat.reduceLT, Nat.reduceLeDiff, Nat.reduceEqDiff, Nat.reduceBEq, ↓reduceIte, true_and, and_true, Bool.false_eq_true, true_implies, false_implies, not_true_eq_false, not_false_eq_true, Bool.or_true, Bool.or_false, Bool.true_or, Bool.false_or, vin hj6 (by decide), nIc (show j < 2 ^ 31 by omega)]
    refine v4_withN (i := pl (gp (ww σ) val n j)) (k := 1) hv.2.1 hp126 (by decide) ?_
    set_option maxRecDepth 100000 in simp (decide := true) only [c8_kindOnGreatestRow, run_s, nxt_e, ap_const, ap_lconst, ap_ild, ap_lld, ap_ald, ap_ist, ap_lst, ap_ast, ap_iinc, ap_iadd, ap_isub, ap_imul, ap_iand, ap_ior, ap_ixor, ap_ishl, ap_ishr, ap_iushr, ap_idiv, ap_irem, ap_ineg, ap_ladd, ap_lsub, ap_lmul, ap_ldiv, ap_lrem, ap_lneg, ap_lcmp, ap_i2l, ap_l2i, ap_i2b, ap_i2s, ap_dup_int, ap_pop_int, ap_dup_ref, ap_pop_ref, ap_dup2, ap_ceq, ap_cne, ap_clt, ap_cge, ap_cgt, ap_cle, ap_zeq, ap_zne, ap_zlt, ap_zge, ap_zgt, ap_zle, ap_goto, ap_tsw, ap_lsw, ap_getI, ap_getJ, ap_getR, ap_putI, ap_putZ, ap_putJ, ap_iald, ap_lald, ap_bald, ap_aald, ap_iast, ap_last, ap_bast, ap_alen, ap_gst, ap_iret, ap_zret, ap_lret, ap_vret, ap_aret, ap_lmax, ap_labs, ap_acopy, ap_invV0, ap_invS0, ap_invV1, ap_invS1, ap_invV2, ap_invS2, ap_invV3, ap_invS3, ap_invV4, ap_invS4, ap_invV5, ap_invS5, tcnT, ocT, lenIT, lenWT, lenLT, lenVT, lenZT, startfT, vpL, sa_1, sa_2, sL_1, sL_2, si_1, si_2, sj_1, sj_2, ldI_e, ldL_e, ldA_e, inC_e, lk, st1, st2, rm1, rm2, Value.category, ctn_some, ctn_none, wsum, lv_args, Int32.reduceAdd, Int32.reduceSub, Int32.reduceMul, Nat.reduceAdd, Nat.reduceLT, Nat.reduceLeDiff, Nat.reduceEqDiff, Nat.reduceBEq, ↓reduceIte, true_and, and_true, Bool.false_eq_true, true_implies, false_implies, not_true_eq_false, not_false_eq_true, Bool.or_true, Bool.or_false, Bool.true_or, Bool.false_or, p1, vin (hpl 1 (by decide)) (by decide), nIc (Nat.lt_trans (hpl 1 (by decide)) (by decide)), vin p2 (by decide), nIc (Nat.lt_trans p2 (by decide)), hvk 1 (by decide), hV0, toL (wd σ j 1 (σ.1 29 j)) (by have := hwk 1 (by decide); omega), lg_cmp_eq, hprod 1 (by decide), vin hj6 (by decide), nIc (show j < 2 ^ 31 by omega)]
    refine ⟨fun q1 => ?_, fun q1 => ?_⟩
    rotate_left
    · have ek : kd (ww σ) val n j (gp (ww σ) val n j) = 1 := by unfold kd; rw [if_neg q0, if_pos q1]
      refine v4_withN (i := pl (gp (ww σ) val n j)) (k := 1) hv.2.1 hp126 (by decide) ?_
      set_option maxRecDepth 100000 in simp (decide := true) only [c8_kindOnGreatestRow, run_s, nxt_e, ap_const, ap_lconst, ap_ild, ap_lld, ap_ald, ap_ist, ap_lst, ap_ast, ap_iinc, ap_iadd, ap_isub, ap_imul, ap_iand, ap_ior, ap_ixor, ap_ishl, ap_ishr, ap_iushr, ap_idiv, ap_irem, ap_ineg, ap_ladd, ap_lsub, ap_lmul, ap_ldiv, ap_lrem, ap_lneg, ap_lcmp, ap_i2l, ap_l2i, ap_i2b, ap_i2s, ap_dup_int, ap_pop_int, ap_dup_ref, ap_pop_ref, ap_dup2, ap_ceq, ap_cne, ap_clt, ap_cge, ap_cgt, ap_cle, ap_zeq, ap_zne, ap_zlt, ap_zge, ap_zgt, ap_zle, ap_goto, ap_tsw, ap_lsw, ap_getI, ap_getJ, ap_getR, ap_putI, ap_putZ, ap_putJ, ap_iald, ap_lald, ap_bald, ap_aald, ap_iast, ap_last, ap_bast, ap_alen, ap_gst, ap_iret, ap_zret, ap_lret, ap_vret, ap_aret, ap_lmax, ap_labs, ap_acopy, ap_invV0, ap_invS0, ap_invV1, ap_invS1, ap_invV2, ap_invS2, ap_invV3, ap_invS3, ap_invV4, ap_invS4, ap_invV5, ap_invS5, tcnT, ocT, lenIT, lenWT, lenLT, lenVT, lenZT, startfT, vpL, sa_1, sa_2, sL_1, sL_2, si_1, si_2, sj_1, sj_2, ldI_e, ldL_e, ldA_e, inC_e, lk, st1, st2, rm1, rm2, Value.category, ctn_some, ctn_none, wsum, lv_args, Int32.reduceAdd, Int32.reduceSub, Int32.reduceMul, Nat.reduceAdd, Nat.reduceLT, Nat.reduceLeDiff, Nat.reduceEqDiff, Nat.reduceBEq, ↓reduceIte, true_and, and_true, Bool.false_eq_true, true_implies, false_implies, not_true_eq_false, not_false_eq_true, Bool.or_true, Bool.or_false, Bool.true_or, Bool.false_or, p1, nI_1]
      have ht2 : j + 1 = m + 1 → nI 1 = nI (kd (ww σ) val n m (gp (ww σ) val n m)) := fun e => by rw [show m = j by omega, ek]
      have hii := ih (j + 1) (by omega) (nI 1) ht2
      have eg : gp (ww σ) val n (j + 1) = gp (ww σ) val n j + pw 1 := by simp only [gp]; rw [ek]
      rw [eg] at hii
      exact hii.sub [0, 1, 3, 4, 5] rfl
    refine v8_weightN (k := 2) hv.1 hj6 (by decide) ?_
    set_option maxRecDepth 100000 in simp (decide := true) only [c8_kindOnGreatestRow, run_s, nxt_e, ap_const, ap_lconst, ap_ild, ap_lld, ap_ald, ap_ist, ap_lst, ap_ast, ap_iinc, ap_iadd, ap_isub, ap_imul, ap_iand, ap_ior, ap_ixor, ap_ishl, ap_ishr, ap_iushr, ap_idiv, ap_irem, ap_ineg, ap_ladd, ap_lsub, ap_lmul, ap_ldiv, ap_lrem, ap_lneg, ap_lcmp, ap_i2l, ap_l2i, ap_i2b, ap_i2s, ap_dup_int, ap_pop_int, ap_dup_ref, ap_pop_ref, ap_dup2, ap_ceq, ap_cne, ap_clt, ap_cge, ap_cgt, ap_cle, ap_zeq, ap_zne, ap_zlt, ap_zge, ap_zgt, ap_zle, ap_goto, ap_tsw, ap_lsw, ap_getI, ap_getJ, ap_getR, ap_putI, ap_putZ, ap_putJ, ap_iald, ap_lald, ap_bald, ap_aald, ap_iast, ap_last, ap_bast, ap_alen, ap_gst, ap_iret, ap_zret, ap_lret, ap_vret, ap_aret, ap_lmax, ap_labs, ap_acopy, ap_invV0, ap_invS0, ap_invV1, ap_invS1, ap_invV2, ap_invS2, ap_invV3, ap_invS3, ap_invV4, ap_invS4, ap_invV5, ap_invS5, tcnT, ocT, lenIT, lenWT, lenLT, lenVT, lenZT, startfT, vpL, sa_1, sa_2, sL_1, sL_2, si_1, si_2, sj_1, sj_2, ldI_e, ldL_e, ldA_e, inC_e, lk, st1, st2, rm1, rm2, Value.category, ctn_some, ctn_none, wsum, lv_args, Int32.reduceAdd, Int32.reduceSub, Int32.reduceMul, Nat.reduceAdd, Nat.reduceLT, Nat.reduceLeDiff, Nat.reduceEqDiff, Nat.reduceBEq, ↓reduceIte, true_and, and_true, Bool.false_eq_true, true_implies, false_implies, not_true_eq_false, not_false_eq_true, Bool.or_true, Bool.or_false, Bool.true_or, Bool.false_or, vin hj6 (by decide), nIc (show j < 2 ^ 31 by omega)]
    refine v4_withN (i := pl (gp (ww σ) val n j)) (k := 2) hv.2.1 hp126 (by decide) ?_
    set_option maxRecDepth 100000 in simp (decide := true) only [c8_kindOnGreatestRow, run_s, nxt_e, ap_const, ap_lconst, ap_ild, ap_lld, ap_ald, ap_ist, ap_lst, ap_ast, ap_iinc, ap_iadd, ap_isub, ap_imul, ap_iand, ap_ior, ap_ixor, ap_ishl, ap_ishr, ap_iushr, ap_idiv, ap_irem, ap_ineg, ap_ladd, ap_lsub, ap_lmul, ap_ldiv, ap_lrem, ap_lneg, ap_lcmp, ap_i2l, ap_l2i, ap_i2b, ap_i2s, ap_dup_int, ap_pop_int, ap_dup_ref, ap_pop_ref, ap_dup2, ap_ceq, ap_cne, ap_clt, ap_cge, ap_cgt, ap_cle, ap_zeq, ap_zne, ap_zlt, ap_zge, ap_zgt, ap_zle, ap_goto, ap_tsw, ap_lsw, ap_getI, ap_getJ, ap_getR, ap_putI, ap_putZ, ap_putJ, ap_iald, ap_lald, ap_bald, ap_aald, ap_iast, ap_last, ap_bast, ap_alen, ap_gst, ap_iret, ap_zret, ap_lret, ap_vret, ap_aret, ap_lmax, ap_labs, ap_acopy, ap_invV0, ap_invS0, ap_invV1, ap_invS1, ap_invV2, ap_invS2, ap_invV3, ap_invS3, ap_invV4, ap_invS4, ap_invV5, ap_invS5, tcnT, ocT, lenIT, lenWT, lenLT, lenVT, lenZT, startfT, vpL, sa_1, sa_2, sL_1, sL_2, si_1, si_2, sj_1, sj_2, ldI_e, ldL_e, ldA_e, inC_e, lk, st1, st2, rm1, rm2, Value.category, ctn_some, ctn_none, wsum, lv_args, Int32.reduceAdd, Int32.reduceSub, Int32.reduceMul, Nat.reduceAdd, Nat.reduceLT, Nat.reduceLeDiff, Nat.reduceEqDiff, Nat.reduceBEq, ↓reduceIte, true_and, and_true, Bool.false_eq_true, true_implies, false_implies, not_true_eq_false, not_false_eq_true, Bool.or_true, Bool.or_false, Bool.true_or, Bool.false_or, p1, vin (hpl 2 (by decide)) (by decide), nIc (Nat.lt_trans (hpl 2 (by decide)) (by decide)), vin p2 (by decide), nIc (Nat.lt_trans p2 (by decide)), hvk 2 (by decide), hV0, toL (wd σ j 2 (σ.1 29 j)) (by have := hwk 2 (by decide); omega), lg_cmp_eq, hprod 2 (by decide), vin hj6 (by decide), nIc (show j < 2 ^ 31 by omega)]
    refine ⟨fun q2 => ?_, fun q2 => ?_⟩
    rotate_left
    · have ek : kd (ww σ) val n j (gp (ww σ) val n j) = 2 := by unfold kd; rw [if_neg q0, if_neg q1, if_pos q2]
      refine v4_withN (i := pl (gp (ww σ) val n j)) (k := 2) hv.2.1 hp126 (by decide) ?_
      set_option maxRecDepth 100000 in simp (decide := true) only [c8_kindOnGreatestRow, run_s, nxt_e, ap_const, ap_lconst, ap_ild, ap_lld, ap_ald, ap_ist, ap_lst, ap_ast, ap_iinc, ap_iadd, ap_isub, ap_imul, ap_iand, ap_ior, ap_ixor, ap_ishl, ap_ishr, ap_iushr, ap_idiv, ap_irem, ap_ineg, ap_ladd, ap_lsub, ap_lmul, ap_ldiv, ap_lrem, ap_lneg, ap_lcmp, ap_i2l, ap_l2i, ap_i2b, ap_i2s, ap_dup_int, ap_pop_int, ap_dup_ref, ap_pop_ref, ap_dup2, ap_ceq, ap_cne, ap_clt, ap_cge, ap_cgt, ap_cle, ap_zeq, ap_zne, ap_zlt, ap_zge, ap_zgt, ap_zle, ap_goto, ap_tsw, ap_lsw, ap_getI, ap_getJ, ap_getR, ap_putI, ap_putZ, ap_putJ, ap_iald, ap_lald, ap_bald, ap_aald, ap_iast, ap_last, ap_bast, ap_alen, ap_gst, ap_iret, ap_zret, ap_lret, ap_vret, ap_aret, ap_lmax, ap_labs, ap_acopy, ap_invV0, ap_invS0, ap_invV1, ap_invS1, ap_invV2, ap_invS2, ap_invV3, ap_invS3, ap_invV4, ap_invS4, ap_invV5, ap_invS5, tcnT, ocT, lenIT, lenWT, lenLT, lenVT, lenZT, startfT, vpL, sa_1, sa_2, sL_1, sL_2, si_1, si_2, sj_1, sj_2, ldI_e, ldL_e, ldA_e, inC_e, lk, st1, st2, rm1, rm2, Value.category, ctn_some, ctn_none, wsum, lv_args, Int32.reduceAdd, Int32.reduceSub, Int32.reduceMul, Nat.reduceAdd, Nat.reduceLT, Nat.reduceLeDiff, Nat.reduceEqDiff, Nat.reduceBEq, ↓reduceIte, true_and, and_true, Bool.false_eq_true, true_implies, false_implies, not_true_eq_false, not_false_eq_true, Bool.or_true, Bool.or_false, Bool.true_or, Bool.false_or, p1, nI_1]
      have ht2 : j + 1 = m + 1 → nI 2 = nI (kd (ww σ) val n m (gp (ww σ) val n m)) := fun e => by rw [show m = j by omega, ek]
      have hii := ih (j + 1) (by omega) (nI 2) ht2
      have eg : gp (ww σ) val n (j + 1) = gp (ww σ) val n j + pw 2 := by simp only [gp]; rw [ek]
      rw [eg] at hii
      exact hii.sub [0, 1, 3, 4, 5] rfl
    refine v8_weightN (k := 3) hv.1 hj6 (by decide) ?_
    set_option maxRecDepth 100000 in simp (decide := true) only [c8_kindOnGreatestRow, run_s, nxt_e, ap_const, ap_lconst, ap_ild, ap_lld, ap_ald, ap_ist, ap_lst, ap_ast, ap_iinc, ap_iadd, ap_isub, ap_imul, ap_iand, ap_ior, ap_ixor, ap_ishl, ap_ishr, ap_iushr, ap_idiv, ap_irem, ap_ineg, ap_ladd, ap_lsub, ap_lmul, ap_ldiv, ap_lrem, ap_lneg, ap_lcmp, ap_i2l, ap_l2i, ap_i2b, ap_i2s, ap_dup_int, ap_pop_int, ap_dup_ref, ap_pop_ref, ap_dup2, ap_ceq, ap_cne, ap_clt, ap_cge, ap_cgt, ap_cle, ap_zeq, ap_zne, ap_zlt, ap_zge, ap_zgt, ap_zle, ap_goto, ap_tsw, ap_lsw, ap_getI, ap_getJ, ap_getR, ap_putI, ap_putZ, ap_putJ, ap_iald, ap_lald, ap_bald, ap_aald, ap_iast, ap_last, ap_bast, ap_alen, ap_gst, ap_iret, ap_zret, ap_lret, ap_vret, ap_aret, ap_lmax, ap_labs, ap_acopy, ap_invV0, ap_invS0, ap_invV1, ap_invS1, ap_invV2, ap_invS2, ap_invV3, ap_invS3, ap_invV4, ap_invS4, ap_invV5, ap_invS5, tcnT, ocT, lenIT, lenWT, lenLT, lenVT, lenZT, startfT, vpL, sa_1, sa_2, sL_1, sL_2, si_1, si_2, sj_1, sj_2, ldI_e, ldL_e, ldA_e, inC_e, lk, st1, st2, rm1, rm2, Value.category, ctn_some, ctn_none, wsum, lv_args, Int32.reduceAdd, Int32.reduceSub, Int32.reduceMul, Nat.reduceAdd, Nat.reduceLT, Nat.reduceLeDiff, Nat.reduceEqDiff, Nat.reduceBEq, ↓reduceIte, true_and, and_true, Bool.false_eq_true, true_implies, false_implies, not_true_eq_false, not_false_eq_true, Bool.or_true, Bool.or_false, Bool.true_or, Bool.false_or, vin hj6 (by decide), nIc (show j < 2 ^ 31 by omega)]
    refine v4_withN (i := pl (gp (ww σ) val n j)) (k := 3) hv.2.1 hp126 (by decide) ?_
    set_option maxRecDepth 100000 in simp (decide := true) only [c8_kindOnGreatestRow, run_s, nxt_e, ap_const, ap_lconst, ap_ild, ap_lld, ap_ald, ap_ist, ap_lst, ap_ast, ap_iinc, ap_iadd, ap_isub, ap_imul, ap_iand, ap_ior, ap_ixor, ap_ishl, ap_ishr, ap_iushr, ap_idiv, ap_irem, ap_ineg, ap_ladd, ap_lsub, ap_lmul, ap_ldiv, ap_lrem, ap_lneg, ap_lcmp, ap_i2l, ap_l2i, ap_i2b, ap_i2s, ap_dup_int, ap_pop_int, ap_dup_ref, ap_pop_ref, ap_dup2, ap_ceq, ap_cne, ap_clt, ap_cge, ap_cgt, ap_cle, ap_zeq, ap_zne, ap_zlt, ap_zge, ap_zgt, ap_zle, ap_goto, ap_tsw, ap_lsw, ap_getI, ap_getJ, ap_getR, ap_putI, ap_putZ, ap_putJ, ap_iald, ap_lald, ap_bald, ap_aald, ap_iast, ap_last, ap_bast, ap_alen, ap_gst, ap_iret, ap_zret, ap_lret, ap_vret, ap_aret, ap_lmax, ap_labs, ap_acopy, ap_invV0, ap_invS0, ap_invV1, ap_invS1, ap_invV2, ap_invS2, ap_invV3, ap_invS3, ap_invV4, ap_invS4, ap_invV5, ap_invS5, tcnT, ocT, lenIT, lenWT, lenLT, lenVT, lenZT, startfT, vpL, sa_1, sa_2, sL_1, sL_2, si_1, si_2, sj_1, sj_2, ldI_e, ldL_e, ldA_e, inC_e, lk, st1, st2, rm1, rm2, Value.category, ctn_some, ctn_none, wsum, lv_args, Int32.reduceAdd, Int32.reduceSub, Int32.reduceMul, Nat.reduceAdd, Nat.reduceLT, Nat.reduceLeDiff, Nat.reduceEqDiff, Nat.reduceBEq, ↓reduceIte, true_and, and_true, Bool.false_eq_true, true_implies, false_implies, not_true_eq_false, not_false_eq_true, Bool.or_true, Bool.or_false, Bool.true_or, Bool.false_or, p1, vin (hpl 3 (by decide)) (by decide), nIc (Nat.lt_trans (hpl 3 (by decide)) (by decide)), vin p2 (by decide), nIc (Nat.lt_trans p2 (by decide)), hvk 3 (by decide), hV0, toL (wd σ j 3 (σ.1 29 j)) (by have := hwk 3 (by decide); omega), lg_cmp_eq, hprod 3 (by decide), vin hj6 (by decide), nIc (show j < 2 ^ 31 by omega)]
    refine ⟨fun q3 => ?_, fun q3 => ?_⟩
    · exact absurd (by unfold kd; rw [if_neg q0, if_neg q1, if_neg q2, if_neg q3]) (Nat.ne_of_lt k1)
    · have ek : kd (ww σ) val n j (gp (ww σ) val n j) = 3 := by unfold kd; rw [if_neg q0, if_neg q1, if_neg q2, if_pos q3]
      refine v4_withN (i := pl (gp (ww σ) val n j)) (k := 3) hv.2.1 hp126 (by decide) ?_
      set_option maxRecDepth 100000 in simp (decide := true) only [c8_kindOnGreatestRow, run_s, nxt_e, ap_const, ap_lconst, ap_ild, ap_lld, ap_ald, ap_ist, ap_lst, ap_ast, ap_iinc, ap_iadd, ap_isub, ap_imul, ap_iand, ap_ior, ap_ixor, ap_ishl, ap_ishr, ap_iushr, ap_idiv, ap_irem, ap_ineg, ap_ladd, ap_lsub, ap_lmul, ap_ldiv, ap_lrem, ap_lneg, ap_lcmp, ap_i2l, ap_l2i, ap_i2b, ap_i2s, ap_dup_int, ap_pop_int, ap_dup_ref, ap_pop_ref, ap_dup2, ap_ceq, ap_cne, ap_clt, ap_cge, ap_cgt, ap_cle, ap_zeq, ap_zne, ap_zlt, ap_zge, ap_zgt, ap_zle, ap_goto, ap_tsw, ap_lsw, ap_getI, ap_getJ, ap_getR, ap_putI, ap_putZ, ap_putJ, ap_iald, ap_lald, ap_bald, ap_aald, ap_iast, ap_last, ap_bast, ap_alen, ap_gst, ap_iret, ap_zret, ap_lret, ap_vret, ap_aret, ap_lmax, ap_labs, ap_acopy, ap_invV0, ap_invS0, ap_invV1, ap_invS1, ap_invV2, ap_invS2, ap_invV3, ap_invS3, ap_invV4, ap_invS4, ap_invV5, ap_invS5, tcnT, ocT, lenIT, lenWT, lenLT, lenVT, lenZT, startfT, vpL, sa_1, sa_2, sL_1, sL_2, si_1, si_2, sj_1, sj_2, ldI_e, ldL_e, ldA_e, inC_e, lk, st1, st2, rm1, rm2, Value.category, ctn_some, ctn_none, wsum, lv_args, Int32.reduceAdd, Int32.reduceSub, Int32.reduceMul, Nat.reduceAdd, Nat.reduceLT, Nat.reduceLeDiff, Nat.reduceEqDiff, Nat.reduceBEq, ↓reduceIte, true_and, and_true, Bool.false_eq_true, true_implies, false_implies, not_true_eq_false, not_false_eq_true, Bool.or_true, Bool.or_false, Bool.true_or, Bool.false_or, p1, nI_1]
      have ht2 : j + 1 = m + 1 → nI 3 = nI (kd (ww σ) val n m (gp (ww σ) val n m)) := fun e => by rw [show m = j by omega, ek]
      have hii := ih (j + 1) (by omega) (nI 3) ht2
      have eg : gp (ww σ) val n (j + 1) = gp (ww σ) val n j + pw 3 := by simp only [gp]; rw [ek]
      rw [eg] at hii
      exact hii.sub [0, 1, 3, 4, 5] rfl
theorem v8_kogr {σ : St} {K : Kr} {n m : Nat} {val : Nat → Int} (hv : CV σ n) (hB : V01 val) (hm : m < n) (hg : 0 < gv (ww σ) val n 0 0) (hval : ∀ j c, j ≤ n → c < 2401 → sz c = j → σ.2 13 (pl c) = Int64.ofInt (gv (ww σ) val n j c))
    (h : K (some (.int (nI (kd (ww σ) val n m (gp (ww σ) val n m))))) σ) : VM M8_kindOnGreatestRow [.ref 0, .int (nI m)] σ K := by
  refine vm_run s8_kindOnGreatestRow n8_kindOnGreatestRow (fun pc => pc == 7) 1000 (fun E => Nat.le_of_ble_eq_true rfl) ?_
  set_option maxRecDepth 100000 in simp (decide := true) only [c8_kindOnGreatestRow, run_s, nxt_e, ap_const, ap_lconst, ap_ild, ap_lld, ap_ald, ap_ist, ap_lst, ap_ast, ap_iinc, ap_iadd, ap_isub, ap_imul, ap_iand, ap_ior, ap_ixor, ap_ishl, ap_ishr, ap_iushr, ap_idiv, ap_irem, ap_ineg, ap_ladd, ap_lsub, ap_lmul, ap_ldiv, ap_lrem, ap_lneg, ap_lcmp, ap_i2l, ap_l2i, ap_i2b, ap_i2s, ap_dup_int, ap_pop_int, ap_dup_ref, ap_pop_ref, ap_dup2, ap_ceq, ap_cne, ap_clt, ap_cge, ap_cgt, ap_cle, ap_zeq, ap_zne, ap_zlt, ap_zge, ap_zgt, ap_zle, ap_goto, ap_tsw, ap_lsw, ap_getI, ap_getJ, ap_getR, ap_putI, ap_putZ, ap_putJ, ap_iald, ap_lald, ap_bald, ap_aald, ap_iast, ap_last, ap_bast, ap_alen, ap_gst, ap_iret, ap_zret, ap_lret, ap_vret, ap_aret, ap_lmax, ap_labs, ap_acopy, ap_invV0, ap_invS0, ap_invV1, ap_invS1, ap_invV2, ap_invS2, ap_invV3, ap_invS3, ap_invV4, ap_invS4, ap_invV5, ap_invS5, tcnT, ocT, lenIT, lenWT, lenLT, lenVT, lenZT, startfT, vpL, sa_1, sa_2, sL_1, sL_2, si_1, si_2, sj_1, sj_2, ldI_e, ldL_e, ldA_e, inC_e, lk, st1, st2, rm1, rm2, Value.category, ctn_some, ctn_none, wsum, lv_args, Int32.reduceAdd, Int32.reduceSub, Int32.reduceMul, Nat.reduceAdd, Nat.reduceLT, Nat.reduceLeDiff, Nat.reduceEqDiff, Nat.reduceBEq, ↓reduceIte, true_and, and_true, Bool.false_eq_true, true_implies, false_implies, not_true_eq_false, not_false_eq_true, Bool.or_true, Bool.or_false, Bool.true_or, Bool.false_or]
  have hh := L8_kogr hv hB hm hg hval h (m + 1) 0 (by omega) (-1) (fun e => by omega)
  have e : gp (ww σ) val n 0 = 0 := rfl
  rw [e, pl0] at hh
  exact hh.sub [0, 2, 1, 3, 4] rfl
