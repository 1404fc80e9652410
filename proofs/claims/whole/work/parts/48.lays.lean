/-! the model's table of bests -/
def LL (σ : St) (r j c : Nat) : Nat := L (rfn σ) (rsn σ) (rpn σ) r j c
def BL (σ σ1 : St) (r j : Nat) : Prop := ∀ i, j ≤ i → i ≤ r → ∀ c, c < 2401 → σ1.1 45 (2401 * i + c) = nI (LL σ r i c)
theorem LL_sq {σ σ' : St} {r j c : Nat} {l fl : List Nat} (hs : sq l fl σ σ') (hl : ∀ o, o ∈ cls → o ∉ l) : LL σ' r j c = LL σ r j c := by
  unfold LL
  rw [rfn_sm hs.sm (nin hl (by decide) (by decide)), rsn_sm hs.sm (nin hl (by decide) (by decide)), rpn_sm hs.sm (nin hl (by decide) (by decide))]
theorem lvr_sq {σ σ' : St} {j c : Nat} {l fl : List Nat} (hs : sq l fl σ σ') (hl : ∀ o, o ∈ cls → o ∉ l) : lvr (rfn σ' j) (rsn σ' j) c = lvr (rfn σ j) (rsn σ j) c := by
  rw [rfn_sm hs.sm (nin hl (by decide) (by decide)), rsn_sm hs.sm (nin hl (by decide) (by decide))]
theorem ix45 (j c : Nat) : (2401 : Int32) * nI j + nI c = nI (2401 * j + c) := by rw [show (2401 : Int32) * nI j = nI (2401 * j) from pk_mul 2401 j, nI_add]
theorem L9_lays_in {σ : St} {K : Kr} {n r j : Nat} (hk : KV σ r) (hR : MR σ n r) (hj : j < r) (h : ∀ σ', sq [45] [] σ σ' → BL σ σ' r j → VW M9_laysBests Xt K 140 [(1, .int (nI j)), (0, .ref 35)] [] σ') :
    ∀ (d p : Nat), p + d = 2401 → ∀ σ1, sq [45] [] σ σ1 → BL σ σ1 r (j + 1) → (∀ c, c < p → σ1.1 45 (2401 * j + c) = nI (LL σ r j c)) → VW M9_laysBests Xt K 48 [(2, .int (nI p)), (1, .int (nI j)), (0, .ref 35)] [] σ1 := by
  have hr := hk.1
  have hv := hk.rv
  have hrj := hv.2 j hj
  intro d
  induction d with
  | zero =>
    intro p hp σ1 g1 g2 g3
    have : p = 2401 := by omega
    subst this
    refine run_sound s9_laysBests (fun pc => pc == 140) _ 1000 _ _ _ _ ?_
    set_option maxRecDepth 100000 in simp (decide := true) only [c9_laysBests, run_s, nxt_e, ap_const, ap_lconst, ap_ild, ap_lld, ap_ald, ap_ist, ap_lst, ap_ast, ap_iinc, ap_iadd, ap_isub, ap_imul, ap_iand, ap_ior, ap_ixor, ap_ishl, ap_ishr, ap_iushr, ap_idiv, ap_irem, ap_ineg, ap_ladd, ap_lsub, ap_lmul, ap_ldiv, ap_lrem, ap_lneg, ap_lcmp, ap_i2l, ap_l2i, ap_i2b, ap_i2s, ap_dup_int, ap_pop_int, ap_dup_ref, ap_pop_ref, ap_dup2, ap_goto, ap_tsw, ap_lsw, ap_getI, ap_getJ, ap_getR, ap_putI, ap_putZ, ap_putJ, ap_iald, ap_lald, ap_bald, ap_aald, ap_iast, ap_last, ap_bast, ap_alen, ap_gst, ap_iret, ap_zret, ap_lret, ap_vret, ap_aret, ap_lmax, ap_labs, ap_acopy, ap_invV0, ap_invS0, ap_invV1, ap_invS1, ap_invV2, ap_invS2, ap_invV3, ap_invS3, ap_invV4, ap_invS4, ap_invV5, ap_invS5, tcnT, ocT, lenIT, lenWT, lenLT, lenVT, lenZT, startfT, vpL, sa_1, sa_2, sL_1, sL_2, si_1, si_2, sj_1, sj_2, ldI_e, ldL_e, ldA_e, inC_e, lk, st1, st2, rm1, rm2, Value.category, ctn_some, ctn_none, wsum, lv_args, Int32.reduceAdd, Int32.reduceSub, Int32.reduceMul, Nat.reduceAdd, Nat.reduceLT, Nat.reduceLeDiff, Nat.reduceEqDiff, Nat.reduceBEq, ↓reduceIte, true_and, and_true, Bool.false_eq_true, true_implies, false_implies, not_true_eq_false, not_false_eq_true, Bool.or_true, Bool.or_false, Bool.true_or, Bool.false_or, bx_ceq, bx_clt, bx_cge, bx_cgt, bx_cle, bx_cne, bx_zeq, bx_zlt, bx_zge, bx_zgt, bx_zle, bx_zne, iteP, eq_true (show (2401 : Int32) ≤ nI 2401 by decide)]
    refine (h σ1 g1 (fun i h1 h2 c hc => ?_)).sub [1, 2] rfl
    rcases Nat.lt_or_ge j i with w | w
    · exact g2 i w h2 c hc
    · have : i = j := by omega
      subst this
      exact g3 c hc
  | succ d ih =>
    intro p hp σ1 g1 g2 g3
    have hk1 := KV_sq hk g1 (by decide)
    have hR1 := hR.sq g1 (by decide) (by decide) (by decide) (by decide) (by decide)
    have hL := L_eq (j := j) (c := p) hv hj (by omega)
    have hL1 := L_b (j := j + 1) (c := p) hv (by omega) (by omega)
    have step : ∀ v, v = LL σ r j p → VW M9_laysBests Xt K 48 [(2, .int (nI (p + 1))), (1, .int (nI j)), (0, .ref 35)] [] (si σ1 45 (2401 * j + p) (nI v)) := by
      intro v hv'
      refine ih (p + 1) (by omega) _ (g1.si (by decide) (by decide)) (fun i h1 h2 c hc => ?_) (fun c hc => ?_)
      · rw [si_1, if_pos rfl]; unfold upd; rw [if_neg (by omega)]; exact g2 i h1 h2 c hc
      · rw [si_1, if_pos rfl]
        unfold upd
        by_cases e : c = p
        · subst e; rw [if_pos rfl, hv']
        · rw [if_neg (by omega)]; exact g3 c (by omega)
    refine run_sound s9_laysBests (fun pc => pc == 48) _ 1000 _ _ _ _ ?_
    set_option maxRecDepth 100000 in simp (decide := true) only [c9_laysBests, run_s, nxt_e, ap_const, ap_lconst, ap_ild, ap_lld, ap_ald, ap_ist, ap_lst, ap_ast, ap_iinc, ap_iadd, ap_isub, ap_imul, ap_iand, ap_ior, ap_ixor, ap_ishl, ap_ishr, ap_iushr, ap_idiv, ap_irem, ap_ineg, ap_ladd, ap_lsub, ap_lmul, ap_ldiv, ap_lrem, ap_lneg, ap_lcmp, ap_i2l, ap_l2i, ap_i2b, ap_i2s, ap_dup_int, ap_pop_int, ap_dup_ref, ap_pop_ref, ap_dup2, ap_goto, ap_tsw, ap_lsw, ap_getI, ap_getJ, ap_getR, ap_putI, ap_putZ, ap_putJ, ap_iald, ap_lald, ap_bald, ap_aald, ap_iast, ap_last, ap_bast, ap_alen, ap_gst, ap_iret, ap_zret, ap_lret, ap_vret, ap_aret, ap_lmax, ap_labs, ap_acopy, ap_invV0, ap_invS0, ap_invV1, ap_invS1, ap_invV2, ap_invS2, ap_invV3, ap_invS3, ap_invV4, ap_invS4, ap_invV5, ap_invS5, tcnT, ocT, lenIT, lenWT, lenLT, lenVT, lenZT, startfT, vpL, sa_1, sa_2, sL_1, sL_2, si_1, si_2, sj_1, sj_2, ldI_e, ldL_e, ldA_e, inC_e, lk, st1, st2, rm1, rm2, Value.category, ctn_some, ctn_none, wsum, lv_args, Int32.reduceAdd, Int32.reduceSub, Int32.reduceMul, Nat.reduceAdd, Nat.reduceLT, Nat.reduceLeDiff, Nat.reduceEqDiff, Nat.reduceBEq, ↓reduceIte, true_and, and_true, Bool.false_eq_true, true_implies, false_implies, not_true_eq_false, not_false_eq_true, Bool.or_true, Bool.or_false, Bool.true_or, Bool.false_or, bx_ceq, bx_clt, bx_cge, bx_cgt, bx_cle, bx_cne, bx_zeq, bx_zlt, bx_zge, bx_zgt, bx_zle, bx_zne, iteP, eq_false (show ¬ 2401 ≤ nI p from nI_ge (b := 2401) (by omega) (by decide)), nI_1, ix45, vin (show 2401 * (j + 1) + p < 16807 by omega) (by decide), nIc (show 2401 * (j + 1) + p < 2 ^ 31 by omega), g2 (j + 1) (by omega) (by omega) p (by omega)]
    refine v9_leaves hk1 hR1 (by omega) hj ?_
    rw [lvr_sq g1 (by decide)]
    cases hl : lvr (rfn σ j) (rsn σ j) p with
    | none =>
      rw [hl] at hL
      have e : LL σ r (j + 1) p = LL σ r j p := by unfold LL; rw [hL]; exact (Nat.max_eq_left (Nat.zero_le _)).symm
      have st := step _ e
      set_option maxRecDepth 100000 in simp (decide := true) only [c9_laysBests, run_s, nxt_e, ap_const, ap_lconst, ap_ild, ap_lld, ap_ald, ap_ist, ap_lst, ap_ast, ap_iinc, ap_iadd, ap_isub, ap_imul, ap_iand, ap_ior, ap_ixor, ap_ishl, ap_ishr, ap_iushr, ap_idiv, ap_irem, ap_ineg, ap_ladd, ap_lsub, ap_lmul, ap_ldiv, ap_lrem, ap_lneg, ap_lcmp, ap_i2l, ap_l2i, ap_i2b, ap_i2s, ap_dup_int, ap_pop_int, ap_dup_ref, ap_pop_ref, ap_dup2, ap_goto, ap_tsw, ap_lsw, ap_getI, ap_getJ, ap_getR, ap_putI, ap_putZ, ap_putJ, ap_iald, ap_lald, ap_bald, ap_aald, ap_iast, ap_last, ap_bast, ap_alen, ap_gst, ap_iret, ap_zret, ap_lret, ap_vret, ap_aret, ap_lmax, ap_labs, ap_acopy, ap_invV0, ap_invS0, ap_invV1, ap_invS1, ap_invV2, ap_invS2, ap_invV3, ap_invS3, ap_invV4, ap_invS4, ap_invV5, ap_invS5, tcnT, ocT, lenIT, lenWT, lenLT, lenVT, lenZT, startfT, vpL, sa_1, sa_2, sL_1, sL_2, si_1, si_2, sj_1, sj_2, ldI_e, ldL_e, ldA_e, inC_e, lk, st1, st2, rm1, rm2, Value.category, ctn_some, ctn_none, wsum, lv_args, Int32.reduceAdd, Int32.reduceSub, Int32.reduceMul, Nat.reduceAdd, Nat.reduceLT, Nat.reduceLeDiff, Nat.reduceEqDiff, Nat.reduceBEq, ↓reduceIte, true_and, and_true, Bool.false_eq_true, true_implies, false_implies, not_true_eq_false, not_false_eq_true, Bool.or_true, Bool.or_false, Bool.true_or, Bool.false_or, bx_ceq, bx_clt, bx_cge, bx_cgt, bx_cle, bx_cne, bx_zeq, bx_zlt, bx_zge, bx_zgt, bx_zle, bx_zne, iteP, oI, ix45, eq_true (show (0 : Int32) ≤ nI (LL σ r (j + 1) p) from nI_le (Nat.zero_le _) (by unfold LL; omega)), vin (show 2401 * j + p < 16807 by omega) (by decide), nIc (show 2401 * j + p < 2 ^ 31 by omega), nI_1]
      exact st.sub [0, 4, 5] rfl
    | some x =>
      rw [hl] at hL
      have hx := lvr_lt (show p < 2401 by omega) hrj.1 hrj.2.1 hl
      have hLx := L_b (j := j) (c := x) hv (by omega) (by omega)
      have pr : σ1.1 41 j = nI (rpn σ j) := by
        rw [(hR1.2.2.2.1 j hj).2.2, (g1.1 10 (by decide) (by decide)).1]
        exact (hk.at hj).2.2.1
      have hpr := (hk.at hj).2.2.2
      set_option maxRecDepth 100000 in simp (decide := true) only [c9_laysBests, run_s, nxt_e, ap_const, ap_lconst, ap_ild, ap_lld, ap_ald, ap_ist, ap_lst, ap_ast, ap_iinc, ap_iadd, ap_isub, ap_imul, ap_iand, ap_ior, ap_ixor, ap_ishl, ap_ishr, ap_iushr, ap_idiv, ap_irem, ap_ineg, ap_ladd, ap_lsub, ap_lmul, ap_ldiv, ap_lrem, ap_lneg, ap_lcmp, ap_i2l, ap_l2i, ap_i2b, ap_i2s, ap_dup_int, ap_pop_int, ap_dup_ref, ap_pop_ref, ap_dup2, ap_goto, ap_tsw, ap_lsw, ap_getI, ap_getJ, ap_getR, ap_putI, ap_putZ, ap_putJ, ap_iald, ap_lald, ap_bald, ap_aald, ap_iast, ap_last, ap_bast, ap_alen, ap_gst, ap_iret, ap_zret, ap_lret, ap_vret, ap_aret, ap_lmax, ap_labs, ap_acopy, ap_invV0, ap_invS0, ap_invV1, ap_invS1, ap_invV2, ap_invS2, ap_invV3, ap_invS3, ap_invV4, ap_invS4, ap_invV5, ap_invS5, tcnT, ocT, lenIT, lenWT, lenLT, lenVT, lenZT, startfT, vpL, sa_1, sa_2, sL_1, sL_2, si_1, si_2, sj_1, sj_2, ldI_e, ldL_e, ldA_e, inC_e, lk, st1, st2, rm1, rm2, Value.category, ctn_some, ctn_none, wsum, lv_args, Int32.reduceAdd, Int32.reduceSub, Int32.reduceMul, Nat.reduceAdd, Nat.reduceLT, Nat.reduceLeDiff, Nat.reduceEqDiff, Nat.reduceBEq, ↓reduceIte, true_and, and_true, Bool.false_eq_true, true_implies, false_implies, not_true_eq_false, not_false_eq_true, Bool.or_true, Bool.or_false, Bool.true_or, Bool.false_or, bx_ceq, bx_clt, bx_cge, bx_cgt, bx_cle, bx_cne, bx_zeq, bx_zlt, bx_zge, bx_zgt, bx_zle, bx_zne, iteP, oI, nIm1' (show x < 2 ^ 31 by omega), vin (show j < 7 by omega) (by decide), nIc (show j < 2 ^ 31 by omega), pr, ix45, vin (show 2401 * j + x < 16807 by omega) (by decide), nIc (show 2401 * j + x < 2 ^ 31 by omega), g3 x hx, nI_add, vin (show 2401 * j + p < 16807 by omega) (by decide), nIc (show 2401 * j + p < 2 ^ 31 by omega), nI_1]
      refine ⟨fun q => ?_, fun q => ?_⟩
      · rw [nI_leI (by unfold LL; omega) (by unfold LL; omega)] at q
        exact (step (LL σ r (j + 1) p) (by unfold LL at q ⊢; rw [hL]; exact (Nat.max_eq_left q).symm)).sub [0, 4, 5] rfl
      · rw [nI_leI (by unfold LL; omega) (by unfold LL; omega)] at q
        exact (step (rpn σ j + LL σ r j x) (by unfold LL at q ⊢; rw [hL]; exact (Nat.max_eq_right (by omega)).symm)).sub [0, 4, 5] rfl
theorem m1r (r : Nat) : nI (r + 1) - 1 = nI r := nI_pred r
theorem L9_lays_out {σ : St} {K : Kr} {n r : Nat} (hk : KV σ r) (hR : MR σ n r) (h : ∀ σ', sq [45] [] σ σ' → BL σ σ' r 0 → K none σ') :
    ∀ (j : Nat), j ≤ r → ∀ σ1, sq [45] [] σ σ1 → BL σ σ1 r j → VW M9_laysBests Xt K 42 [(1, .int (nI j - 1)), (0, .ref 35)] [] σ1 := by
  have hr := hk.1
  intro j
  induction j with
  | zero =>
    intro _ σ1 g1 g2
    refine run_sound s9_laysBests (fun pc => false) _ 1000 _ _ _ _ ?_
    set_option maxRecDepth 100000 in simp (decide := true) only [c9_laysBests, run_s, nxt_e, ap_const, ap_lconst, ap_ild, ap_lld, ap_ald, ap_ist, ap_lst, ap_ast, ap_iinc, ap_iadd, ap_isub, ap_imul, ap_iand, ap_ior, ap_ixor, ap_ishl, ap_ishr, ap_iushr, ap_idiv, ap_irem, ap_ineg, ap_ladd, ap_lsub, ap_lmul, ap_ldiv, ap_lrem, ap_lneg, ap_lcmp, ap_i2l, ap_l2i, ap_i2b, ap_i2s, ap_dup_int, ap_pop_int, ap_dup_ref, ap_pop_ref, ap_dup2, ap_goto, ap_tsw, ap_lsw, ap_getI, ap_getJ, ap_getR, ap_putI, ap_putZ, ap_putJ, ap_iald, ap_lald, ap_bald, ap_aald, ap_iast, ap_last, ap_bast, ap_alen, ap_gst, ap_iret, ap_zret, ap_lret, ap_vret, ap_aret, ap_lmax, ap_labs, ap_acopy, ap_invV0, ap_invS0, ap_invV1, ap_invS1, ap_invV2, ap_invS2, ap_invV3, ap_invS3, ap_invV4, ap_invS4, ap_invV5, ap_invS5, tcnT, ocT, lenIT, lenWT, lenLT, lenVT, lenZT, startfT, vpL, sa_1, sa_2, sL_1, sL_2, si_1, si_2, sj_1, sj_2, ldI_e, ldL_e, ldA_e, inC_e, lk, st1, st2, rm1, rm2, Value.category, ctn_some, ctn_none, wsum, lv_args, Int32.reduceAdd, Int32.reduceSub, Int32.reduceMul, Nat.reduceAdd, Nat.reduceLT, Nat.reduceLeDiff, Nat.reduceEqDiff, Nat.reduceBEq, ↓reduceIte, true_and, and_true, Bool.false_eq_true, true_implies, false_implies, not_true_eq_false, not_false_eq_true, Bool.or_true, Bool.or_false, Bool.true_or, Bool.false_or, bx_ceq, bx_clt, bx_cge, bx_cgt, bx_cle, bx_cne, bx_zeq, bx_zlt, bx_zge, bx_zgt, bx_zle, bx_zne, iteP, eq_true (show nI 0 - 1 < (0 : Int32) by decide)]
    exact h σ1 g1 g2
  | succ j ih =>
    intro hj σ1 g1 g2
    rw [m1r]
    refine run_sound s9_laysBests (fun pc => pc == 48) _ 1000 _ _ _ _ ?_
    set_option maxRecDepth 100000 in simp (decide := true) only [c9_laysBests, run_s, nxt_e, ap_const, ap_lconst, ap_ild, ap_lld, ap_ald, ap_ist, ap_lst, ap_ast, ap_iinc, ap_iadd, ap_isub, ap_imul, ap_iand, ap_ior, ap_ixor, ap_ishl, ap_ishr, ap_iushr, ap_idiv, ap_irem, ap_ineg, ap_ladd, ap_lsub, ap_lmul, ap_ldiv, ap_lrem, ap_lneg, ap_lcmp, ap_i2l, ap_l2i, ap_i2b, ap_i2s, ap_dup_int, ap_pop_int, ap_dup_ref, ap_pop_ref, ap_dup2, ap_goto, ap_tsw, ap_lsw, ap_getI, ap_getJ, ap_getR, ap_putI, ap_putZ, ap_putJ, ap_iald, ap_lald, ap_bald, ap_aald, ap_iast, ap_last, ap_bast, ap_alen, ap_gst, ap_iret, ap_zret, ap_lret, ap_vret, ap_aret, ap_lmax, ap_labs, ap_acopy, ap_invV0, ap_invS0, ap_invV1, ap_invS1, ap_invV2, ap_invS2, ap_invV3, ap_invS3, ap_invV4, ap_invS4, ap_invV5, ap_invS5, tcnT, ocT, lenIT, lenWT, lenLT, lenVT, lenZT, startfT, vpL, sa_1, sa_2, sL_1, sL_2, si_1, si_2, sj_1, sj_2, ldI_e, ldL_e, ldA_e, inC_e, lk, st1, st2, rm1, rm2, Value.category, ctn_some, ctn_none, wsum, lv_args, Int32.reduceAdd, Int32.reduceSub, Int32.reduceMul, Nat.reduceAdd, Nat.reduceLT, Nat.reduceLeDiff, Nat.reduceEqDiff, Nat.reduceBEq, ↓reduceIte, true_and, and_true, Bool.false_eq_true, true_implies, false_implies, not_true_eq_false, not_false_eq_true, Bool.or_true, Bool.or_false, Bool.true_or, Bool.false_or, bx_ceq, bx_clt, bx_cge, bx_cgt, bx_cle, bx_cne, bx_zeq, bx_zlt, bx_zge, bx_zgt, bx_zle, bx_zne, iteP, eq_false (show ¬ nI j < 0 from nI_nlt (Nat.zero_le j) (by omega))]
    refine (L9_lays_in hk hR (by omega) (fun σ2 q1 q2 => ?_) 2401 0 rfl σ1 g1 g2 (fun c hc => by omega)).sub [0, 1, 2] rfl
    refine run_sound s9_laysBests (fun pc => pc == 42) _ 1000 _ _ _ _ ?_
    set_option maxRecDepth 100000 in simp (decide := true) only [c9_laysBests, run_s, nxt_e, ap_const, ap_lconst, ap_ild, ap_lld, ap_ald, ap_ist, ap_lst, ap_ast, ap_iinc, ap_iadd, ap_isub, ap_imul, ap_iand, ap_ior, ap_ixor, ap_ishl, ap_ishr, ap_iushr, ap_idiv, ap_irem, ap_ineg, ap_ladd, ap_lsub, ap_lmul, ap_ldiv, ap_lrem, ap_lneg, ap_lcmp, ap_i2l, ap_l2i, ap_i2b, ap_i2s, ap_dup_int, ap_pop_int, ap_dup_ref, ap_pop_ref, ap_dup2, ap_goto, ap_tsw, ap_lsw, ap_getI, ap_getJ, ap_getR, ap_putI, ap_putZ, ap_putJ, ap_iald, ap_lald, ap_bald, ap_aald, ap_iast, ap_last, ap_bast, ap_alen, ap_gst, ap_iret, ap_zret, ap_lret, ap_vret, ap_aret, ap_lmax, ap_labs, ap_acopy, ap_invV0, ap_invS0, ap_invV1, ap_invS1, ap_invV2, ap_invS2, ap_invV3, ap_invS3, ap_invV4, ap_invS4, ap_invV5, ap_invS5, tcnT, ocT, lenIT, lenWT, lenLT, lenVT, lenZT, startfT, vpL, sa_1, sa_2, sL_1, sL_2, si_1, si_2, sj_1, sj_2, ldI_e, ldL_e, ldA_e, inC_e, lk, st1, st2, rm1, rm2, Value.category, ctn_some, ctn_none, wsum, lv_args, Int32.reduceAdd, Int32.reduceSub, Int32.reduceMul, Nat.reduceAdd, Nat.reduceLT, Nat.reduceLeDiff, Nat.reduceEqDiff, Nat.reduceBEq, ↓reduceIte, true_and, and_true, Bool.false_eq_true, true_implies, false_implies, not_true_eq_false, not_false_eq_true, Bool.or_true, Bool.or_false, Bool.true_or, Bool.false_or, bx_ceq, bx_clt, bx_cge, bx_cgt, bx_cle, bx_cne, bx_zeq, bx_zlt, bx_zge, bx_zgt, bx_zle, bx_zne, iteP, addm1]
    exact (ih (by omega) σ2 q1 q2).sub [0, 1] rfl
theorem L9_lays_0 {σ : St} {K : Kr} {n r : Nat} (hk : KV σ r) (hR : MR σ n r) (h : ∀ σ', sq [45] [] σ σ' → BL σ σ' r r → VW M9_laysBests Xt K 35 [(0, .ref 35)] [] σ') :
    ∀ (d p : Nat), p + d = 2401 → ∀ σ1, sq [45] [] σ σ1 → (∀ c, c < p → σ1.1 45 (2401 * r + c) = 0) → VW M9_laysBests Xt K 6 [(1, .int (nI p)), (0, .ref 35)] [] σ1 := by
  have hr := hk.1
  intro d
  induction d with
  | zero =>
    intro p hp σ1 g1 g2
    have : p = 2401 := by omega
    subst this
    refine run_sound s9_laysBests (fun pc => pc == 35) _ 1000 _ _ _ _ ?_
    set_option maxRecDepth 100000 in simp (decide := true) only [c9_laysBests, run_s, nxt_e, ap_const, ap_lconst, ap_ild, ap_lld, ap_ald, ap_ist, ap_lst, ap_ast, ap_iinc, ap_iadd, ap_isub, ap_imul, ap_iand, ap_ior, ap_ixor, ap_ishl, ap_ishr, ap_iushr, ap_idiv, ap_irem, ap_ineg, ap_ladd, ap_lsub, ap_lmul, ap_ldiv, ap_lrem, ap_lneg, ap_lcmp, ap_i2l, ap_l2i, ap_i2b, ap_i2s, ap_dup_int, ap_pop_int, ap_dup_ref, ap_pop_ref, ap_dup2, ap_goto, ap_tsw, ap_lsw, ap_getI, ap_getJ, ap_getR, ap_putI, ap_putZ, ap_putJ, ap_iald, ap_lald, ap_bald, ap_aald, ap_iast, ap_last, ap_bast, ap_alen, ap_gst, ap_iret, ap_zret, ap_lret, ap_vret, ap_aret, ap_lmax, ap_labs, ap_acopy, ap_invV0, ap_invS0, ap_invV1, ap_invS1, ap_invV2, ap_invS2, ap_invV3, ap_invS3, ap_invV4, ap_invS4, ap_invV5, ap_invS5, tcnT, ocT, lenIT, lenWT, lenLT, lenVT, lenZT, startfT, vpL, sa_1, sa_2, sL_1, sL_2, si_1, si_2, sj_1, sj_2, ldI_e, ldL_e, ldA_e, inC_e, lk, st1, st2, rm1, rm2, Value.category, ctn_some, ctn_none, wsum, lv_args, Int32.reduceAdd, Int32.reduceSub, Int32.reduceMul, Nat.reduceAdd, Nat.reduceLT, Nat.reduceLeDiff, Nat.reduceEqDiff, Nat.reduceBEq, ↓reduceIte, true_and, and_true, Bool.false_eq_true, true_implies, false_implies, not_true_eq_false, not_false_eq_true, Bool.or_true, Bool.or_false, Bool.true_or, Bool.false_or, bx_ceq, bx_clt, bx_cge, bx_cgt, bx_cle, bx_cne, bx_zeq, bx_zlt, bx_zge, bx_zgt, bx_zle, bx_zne, iteP, eq_true (show (2401 : Int32) ≤ nI 2401 by decide)]
    refine (h σ1 g1 (fun i h1 h2 c hc => ?_)).sub [1] rfl
    have : i = r := by omega
    subst this
    unfold LL
    rw [L_end, g2 c hc]
    rfl
  | succ d ih =>
    intro p hp σ1 g1 g2
    have hR1 := hR.sq g1 (by decide) (by decide) (by decide) (by decide) (by decide)
    refine run_sound s9_laysBests (fun pc => pc == 6) _ 1000 _ _ _ _ ?_
    set_option maxRecDepth 100000 in simp (decide := true) only [c9_laysBests, run_s, nxt_e, ap_const, ap_lconst, ap_ild, ap_lld, ap_ald, ap_ist, ap_lst, ap_ast, ap_iinc, ap_iadd, ap_isub, ap_imul, ap_iand, ap_ior, ap_ixor, ap_ishl, ap_ishr, ap_iushr, ap_idiv, ap_irem, ap_ineg, ap_ladd, ap_lsub, ap_lmul, ap_ldiv, ap_lrem, ap_lneg, ap_lcmp, ap_i2l, ap_l2i, ap_i2b, ap_i2s, ap_dup_int, ap_pop_int, ap_dup_ref, ap_pop_ref, ap_dup2, ap_goto, ap_tsw, ap_lsw, ap_getI, ap_getJ, ap_getR, ap_putI, ap_putZ, ap_putJ, ap_iald, ap_lald, ap_bald, ap_aald, ap_iast, ap_last, ap_bast, ap_alen, ap_gst, ap_iret, ap_zret, ap_lret, ap_vret, ap_aret, ap_lmax, ap_labs, ap_acopy, ap_invV0, ap_invS0, ap_invV1, ap_invS1, ap_invV2, ap_invS2, ap_invV3, ap_invS3, ap_invV4, ap_invS4, ap_invV5, ap_invS5, tcnT, ocT, lenIT, lenWT, lenLT, lenVT, lenZT, startfT, vpL, sa_1, sa_2, sL_1, sL_2, si_1, si_2, sj_1, sj_2, ldI_e, ldL_e, ldA_e, inC_e, lk, st1, st2, rm1, rm2, Value.category, ctn_some, ctn_none, wsum, lv_args, Int32.reduceAdd, Int32.reduceSub, Int32.reduceMul, Nat.reduceAdd, Nat.reduceLT, Nat.reduceLeDiff, Nat.reduceEqDiff, Nat.reduceBEq, ↓reduceIte, true_and, and_true, Bool.false_eq_true, true_implies, false_implies, not_true_eq_false, not_false_eq_true, Bool.or_true, Bool.or_false, Bool.true_or, Bool.false_or, bx_ceq, bx_clt, bx_cge, bx_cgt, bx_cle, bx_cne, bx_zeq, bx_zlt, bx_zge, bx_zgt, bx_zle, bx_zne, iteP, eq_false (show ¬ 2401 ≤ nI p from nI_ge (b := 2401) (by omega) (by decide)), nI_1, hR1.2.1, ix45, vin (show 2401 * r + p < 16807 by omega) (by decide), nIc (show 2401 * r + p < 2 ^ 31 by omega)]
    refine (ih (p + 1) (by omega) _ (g1.si (by decide) (by decide)) (fun c hc => ?_)).sub [0, 1] rfl
    rw [si_1, if_pos rfl]
    unfold upd
    by_cases e : c = p
    · subst e; rw [if_pos rfl]
    · rw [if_neg (by omega)]; exact g2 c (by omega)
def lbl : List Nat := [38, 39, 40, 41, 45]
/-- after laysBests -/
def LB (σ : St) (n r : Nat) : Prop := CV σ n ∧ KV σ r ∧ BK σ r ∧ MR σ n r ∧ BL σ σ r 0
theorem BL_sq {σ σ' : St} {r j : Nat} {l fl : List Nat} (h : BL σ σ r j) (hs : sq l fl σ σ') (hl : ∀ o, o ∈ cls → o ∉ l) (h45 : 45 ∉ l) : BL σ' σ' r j := by
  intro i h1 h2 c hc
  rw [(hs.1 45 h45 (by decide)).1, LL_sq hs hl]
  exact h i h1 h2 c hc
theorem LB.sq {σ σ' : St} {n r : Nat} {l fl : List Nat} (h : LB σ n r) (hs : sq l fl σ σ') (hl : ∀ o, o ∈ cls → o ∉ l) (h45 : 45 ∉ l) (h2 : 2 ∉ fl) (h4 : 4 ∉ fl) (h9 : 9 ∉ fl) (h10 : 10 ∉ fl) : LB σ' n r :=
  ⟨CV_sq h.1 hs hl, KV_sq h.2.1 hs hl, BK_sq h.2.2.1 hs hl, h.2.2.2.1.sq hs hl h2 h4 h9 h10, BL_sq h.2.2.2.2 hs hl h45⟩
theorem CV_rd {σ σ' : St} {n : Nat} (h : CV σ n) (hs : sq rdl rdf σ σ') : CV σ' n := h.sm hs.sm (by decide) (by decide) (by decide) (by decide) (by decide) (by decide)
theorem v9_laysBests {σ : St} {K : Kr} {n r : Nat} (hJ : JI σ n r) (h : ∀ σ', sq lbl rdf σ σ' → LB σ' n r → K none σ') : VM M9_laysBests [.ref 35] σ K := by
  refine vm_run s9_laysBests n9_laysBests (fun pc => pc == 6) 1000 (fun E => Nat.le_of_ble_eq_true rfl) ?_
  set_option maxRecDepth 100000 in simp (decide := true) only [c9_laysBests, run_s, nxt_e, ap_const, ap_lconst, ap_ild, ap_lld, ap_ald, ap_ist, ap_lst, ap_ast, ap_iinc, ap_iadd, ap_isub, ap_imul, ap_iand, ap_ior, ap_ixor, ap_ishl, ap_ishr, ap_iushr, ap_idiv, ap_irem, ap_ineg, ap_ladd, ap_lsub, ap_lmul, ap_ldiv, ap_lrem, ap_lneg, ap_lcmp, ap_i2l, ap_l2i, ap_i2b, ap_i2s, ap_dup_int, ap_pop_int, ap_dup_ref, ap_pop_ref, ap_dup2, ap_goto, ap_tsw, ap_lsw, ap_getI, ap_getJ, ap_getR, ap_putI, ap_putZ, ap_putJ, ap_iald, ap_lald, ap_bald, ap_aald, ap_iast, ap_last, ap_bast, ap_alen, ap_gst, ap_iret, ap_zret, ap_lret, ap_vret, ap_aret, ap_lmax, ap_labs, ap_acopy, ap_invV0, ap_invS0, ap_invV1, ap_invS1, ap_invV2, ap_invS2, ap_invV3, ap_invS3, ap_invV4, ap_invS4, ap_invV5, ap_invS5, tcnT, ocT, lenIT, lenWT, lenLT, lenVT, lenZT, startfT, vpL, sa_1, sa_2, sL_1, sL_2, si_1, si_2, sj_1, sj_2, ldI_e, ldL_e, ldA_e, inC_e, lk, st1, st2, rm1, rm2, Value.category, ctn_some, ctn_none, wsum, lv_args, Int32.reduceAdd, Int32.reduceSub, Int32.reduceMul, Nat.reduceAdd, Nat.reduceLT, Nat.reduceLeDiff, Nat.reduceEqDiff, Nat.reduceBEq, ↓reduceIte, true_and, and_true, Bool.false_eq_true, true_implies, false_implies, not_true_eq_false, not_false_eq_true, Bool.or_true, Bool.or_false, Bool.true_or, Bool.false_or, bx_ceq, bx_clt, bx_cge, bx_cgt, bx_cle, bx_cne, bx_zeq, bx_zlt, bx_zge, bx_zgt, bx_zle, bx_zne, iteP]
  refine v9_reads hJ (fun σ1 g1 g2 => ?_)
  set_option maxRecDepth 100000 in simp (decide := true) only [c9_laysBests, run_s, nxt_e, ap_const, ap_lconst, ap_ild, ap_lld, ap_ald, ap_ist, ap_lst, ap_ast, ap_iinc, ap_iadd, ap_isub, ap_imul, ap_iand, ap_ior, ap_ixor, ap_ishl, ap_ishr, ap_iushr, ap_idiv, ap_irem, ap_ineg, ap_ladd, ap_lsub, ap_lmul, ap_ldiv, ap_lrem, ap_lneg, ap_lcmp, ap_i2l, ap_l2i, ap_i2b, ap_i2s, ap_dup_int, ap_pop_int, ap_dup_ref, ap_pop_ref, ap_dup2, ap_goto, ap_tsw, ap_lsw, ap_getI, ap_getJ, ap_getR, ap_putI, ap_putZ, ap_putJ, ap_iald, ap_lald, ap_bald, ap_aald, ap_iast, ap_last, ap_bast, ap_alen, ap_gst, ap_iret, ap_zret, ap_lret, ap_vret, ap_aret, ap_lmax, ap_labs, ap_acopy, ap_invV0, ap_invS0, ap_invV1, ap_invS1, ap_invV2, ap_invS2, ap_invV3, ap_invS3, ap_invV4, ap_invS4, ap_invV5, ap_invS5, tcnT, ocT, lenIT, lenWT, lenLT, lenVT, lenZT, startfT, vpL, sa_1, sa_2, sL_1, sL_2, si_1, si_2, sj_1, sj_2, ldI_e, ldL_e, ldA_e, inC_e, lk, st1, st2, rm1, rm2, Value.category, ctn_some, ctn_none, wsum, lv_args, Int32.reduceAdd, Int32.reduceSub, Int32.reduceMul, Nat.reduceAdd, Nat.reduceLT, Nat.reduceLeDiff, Nat.reduceEqDiff, Nat.reduceBEq, ↓reduceIte, true_and, and_true, Bool.false_eq_true, true_implies, false_implies, not_true_eq_false, not_false_eq_true, Bool.or_true, Bool.or_false, Bool.true_or, Bool.false_or, bx_ceq, bx_clt, bx_cge, bx_cgt, bx_cle, bx_cne, bx_zeq, bx_zlt, bx_zge, bx_zgt, bx_zle, bx_zne, iteP]
  have hk1 : KV σ1 r := hJ.kv.sm g1.sm (by decide) (by decide) (by decide) (by decide)
  have hb1 : BK σ1 r := hJ.bk.sm g1.sm (by decide) (by decide) (by decide) (by decide)
  refine (L9_lays_0 hk1 g2 (fun σ2 q1 q2 => ?_) 2401 0 rfl σ1 sq.rfl' (fun c hc => by omega)).sub [0, 1] rfl
  have hR2 := g2.sq q1 (by decide) (by decide) (by decide) (by decide) (by decide)
  refine run_sound s9_laysBests (fun pc => pc == 42) _ 1000 _ _ _ _ ?_
  set_option maxRecDepth 100000 in simp (decide := true) only [c9_laysBests, run_s, nxt_e, ap_const, ap_lconst, ap_ild, ap_lld, ap_ald, ap_ist, ap_lst, ap_ast, ap_iinc, ap_iadd, ap_isub, ap_imul, ap_iand, ap_ior, ap_ixor, ap_ishl, ap_ishr, ap_iushr, ap_idiv, ap_irem, ap_ineg, ap_ladd, ap_lsub, ap_lmul, ap_ldiv, ap_lrem, ap_lneg, ap_lcmp, ap_i2l, ap_l2i, ap_i2b, ap_i2s, ap_dup_int, ap_pop_int, ap_dup_ref, ap_pop_ref, ap_dup2, ap_goto, ap_tsw, ap_lsw, ap_getI, ap_getJ, ap_getR, ap_putI, ap_putZ, ap_putJ, ap_iald, ap_lald, ap_bald, ap_aald, ap_iast, ap_last, ap_bast, ap_alen, ap_gst, ap_iret, ap_zret, ap_lret, ap_vret, ap_aret, ap_lmax, ap_labs, ap_acopy, ap_invV0, ap_invS0, ap_invV1, ap_invS1, ap_invV2, ap_invS2, ap_invV3, ap_invS3, ap_invV4, ap_invS4, ap_invV5, ap_invS5, tcnT, ocT, lenIT, lenWT, lenLT, lenVT, lenZT, startfT, vpL, sa_1, sa_2, sL_1, sL_2, si_1, si_2, sj_1, sj_2, ldI_e, ldL_e, ldA_e, inC_e, lk, st1, st2, rm1, rm2, Value.category, ctn_some, ctn_none, wsum, lv_args, Int32.reduceAdd, Int32.reduceSub, Int32.reduceMul, Nat.reduceAdd, Nat.reduceLT, Nat.reduceLeDiff, Nat.reduceEqDiff, Nat.reduceBEq, ↓reduceIte, true_and, and_true, Bool.false_eq_true, true_implies, false_implies, not_true_eq_false, not_false_eq_true, Bool.or_true, Bool.or_false, Bool.true_or, Bool.false_or, bx_ceq, bx_clt, bx_cge, bx_cgt, bx_cle, bx_cne, bx_zeq, bx_zlt, bx_zge, bx_zgt, bx_zle, bx_zne, iteP, hR2.2.1]
  refine (L9_lays_out hk1 g2 (fun σ3 w1 w2 => ?_) r (Nat.le_refl _) σ2 q1 q2).sub [0, 1] rfl
  have s3 : sq lbl rdf σ σ3 := (g1.mono (by decide) (by decide)).trans (w1.mono (by decide) (by decide))
  refine h σ3 s3 ⟨hJ.cv.sm s3.sm (by decide) (by decide) (by decide) (by decide) (by decide) (by decide), KV_sq hk1 w1 (by decide), BK_sq hb1 w1 (by decide), g2.sq w1 (by decide) (by decide) (by decide) (by decide) (by decide), ?_⟩
  intro i h1 h2 c hc
  rw [LL_sq w1 (by decide)]
  exact w2 i h1 h2 c hc
theorem LB.best {σ : St} {n r c : Nat} (h : LB σ n r) (hc : c < 2401) : σ.1 45 c = nI (BS σ r c) := by
  have := h.2.2.2.2 0 (Nat.le_refl _) (Nat.zero_le _) c hc
  rw [show 2401 * 0 + c = c by omega] at this
  rw [this]
  unfold LL BS
  rw [L_BB h.2.1.rv hc]
theorem v9_worthBy {σ : St} {K : Kr} {n r c : Nat} (hL : LB σ n r) (hc : c < 2401) (h6 : sz c ≤ 6) (h : K (some (.int (Int32.ofInt (wv σ c)))) σ) : VM M9_worthBy [.ref 35, .int (nI c)] σ K := by
  have hv := hL.1
  obtain ⟨v, e1, e2, -, -⟩ := worth_eq hv.2.2.1 hv.2.1 hc h6
  have hb := hL.2.2.1 c hc h6
  obtain ⟨u1, u2, -, -⟩ := pl_spec hc h6
  have hp := hv.2.1.1 (pl c) u2
  rw [u1] at hp
  have e3 : Int32.ofInt (wv σ c) = v := by rw [← e2]; exact Int32.ofInt_toInt v
  rw [hb, hp] at e1
  refine vm_run s9_worthBy n9_worthBy (fun _ => false) 1000 (fun E => Nat.le_of_ble_eq_true rfl) ?_
  set_option maxRecDepth 100000 in simp (decide := true) only [c9_worthBy, run_s, nxt_e, ap_const, ap_lconst, ap_ild, ap_lld, ap_ald, ap_ist, ap_lst, ap_ast, ap_iinc, ap_iadd, ap_isub, ap_imul, ap_iand, ap_ior, ap_ixor, ap_ishl, ap_ishr, ap_iushr, ap_idiv, ap_irem, ap_ineg, ap_ladd, ap_lsub, ap_lmul, ap_ldiv, ap_lrem, ap_lneg, ap_lcmp, ap_i2l, ap_l2i, ap_i2b, ap_i2s, ap_dup_int, ap_pop_int, ap_dup_ref, ap_pop_ref, ap_dup2, ap_goto, ap_tsw, ap_lsw, ap_getI, ap_getJ, ap_getR, ap_putI, ap_putZ, ap_putJ, ap_iald, ap_lald, ap_bald, ap_aald, ap_iast, ap_last, ap_bast, ap_alen, ap_gst, ap_iret, ap_zret, ap_lret, ap_vret, ap_aret, ap_lmax, ap_labs, ap_acopy, ap_invV0, ap_invS0, ap_invV1, ap_invS1, ap_invV2, ap_invS2, ap_invV3, ap_invS3, ap_invV4, ap_invS4, ap_invV5, ap_invS5, tcnT, ocT, lenIT, lenWT, lenLT, lenVT, lenZT, startfT, vpL, sa_1, sa_2, sL_1, sL_2, si_1, si_2, sj_1, sj_2, ldI_e, ldL_e, ldA_e, inC_e, lk, st1, st2, rm1, rm2, Value.category, ctn_some, ctn_none, wsum, lv_args, Int32.reduceAdd, Int32.reduceSub, Int32.reduceMul, Nat.reduceAdd, Nat.reduceLT, Nat.reduceLeDiff, Nat.reduceEqDiff, Nat.reduceBEq, ↓reduceIte, true_and, and_true, Bool.false_eq_true, true_implies, false_implies, not_true_eq_false, not_false_eq_true, Bool.or_true, Bool.or_false, Bool.true_or, Bool.false_or, bx_ceq, bx_clt, bx_cge, bx_cgt, bx_cle, bx_cne, bx_zeq, bx_zlt, bx_zge, bx_zgt, bx_zle, bx_zne, iteP, vin (show c < 16807 by omega) (by decide), nIc (show c < 2 ^ 31 by omega), hL.best hc, hL.2.2.2.1.2.2.2.2.2]
  refine v9_digit (k := 3) (by omega) (by decide) ?_
  set_option maxRecDepth 100000 in simp (decide := true) only [c9_worthBy, run_s, nxt_e, ap_const, ap_lconst, ap_ild, ap_lld, ap_ald, ap_ist, ap_lst, ap_ast, ap_iinc, ap_iadd, ap_isub, ap_imul, ap_iand, ap_ior, ap_ixor, ap_ishl, ap_ishr, ap_iushr, ap_idiv, ap_irem, ap_ineg, ap_ladd, ap_lsub, ap_lmul, ap_ldiv, ap_lrem, ap_lneg, ap_lcmp, ap_i2l, ap_l2i, ap_i2b, ap_i2s, ap_dup_int, ap_pop_int, ap_dup_ref, ap_pop_ref, ap_dup2, ap_goto, ap_tsw, ap_lsw, ap_getI, ap_getJ, ap_getR, ap_putI, ap_putZ, ap_putJ, ap_iald, ap_lald, ap_bald, ap_aald, ap_iast, ap_last, ap_bast, ap_alen, ap_gst, ap_iret, ap_zret, ap_lret, ap_vret, ap_aret, ap_lmax, ap_labs, ap_acopy, ap_invV0, ap_invS0, ap_invV1, ap_invS1, ap_invV2, ap_invS2, ap_invV3, ap_invS3, ap_invV4, ap_invS4, ap_invV5, ap_invS5, tcnT, ocT, lenIT, lenWT, lenLT, lenVT, lenZT, startfT, vpL, sa_1, sa_2, sL_1, sL_2, si_1, si_2, sj_1, sj_2, ldI_e, ldL_e, ldA_e, inC_e, lk, st1, st2, rm1, rm2, Value.category, ctn_some, ctn_none, wsum, lv_args, Int32.reduceAdd, Int32.reduceSub, Int32.reduceMul, Nat.reduceAdd, Nat.reduceLT, Nat.reduceLeDiff, Nat.reduceEqDiff, Nat.reduceBEq, ↓reduceIte, true_and, and_true, Bool.false_eq_true, true_implies, false_implies, not_true_eq_false, not_false_eq_true, Bool.or_true, Bool.or_false, Bool.true_or, Bool.false_or, bx_ceq, bx_clt, bx_cge, bx_cgt, bx_cle, bx_cne, bx_zeq, bx_zlt, bx_zge, bx_zgt, bx_zle, bx_zne, iteP]
  rw [e1, ← e3]
  exact h
