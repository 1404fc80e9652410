/-! the model reads both texts -/
def RM1 (σ σ' : St) (b : Nat → Int32) (N : Nat) : Prop := sq [39, 40, 41] [4] σ σ' ∧ σ'.1 35 4 = nI (num1 b N) ∧ ∀ j, j < num1 b N → σ'.1 39 j = fA b z0 N j ∧ σ'.1 40 j = sA b z0 N j ∧ σ'.1 41 j = pA b z0 N j
theorem neg1 : ∀ i, i < 3 → (-(-nI i - 1) - 1 = nI i ∧ (-nI i - 1 < 0)) := by decide
theorem L9_readsText1 {σ : St} {K : Kr} {N : Nat} {b : Nat → Int32} (hT : TXT σ 1 N b) (h : ∀ σ', RM1 σ σ' b N → K (some (.int (oI (fault1 b N)))) σ') :
    ∀ (d a n : Nat), N < a + d → a ≤ N → rm b a = some (0, n) → ∀ σ1, sq [39, 40, 41] [4] σ σ1 → σ1.1 35 4 = 0 → (∀ j, j < n → σ1.1 39 j = fA b z0 a j ∧ σ1.1 40 j = sA b z0 a j ∧ σ1.1 41 j = pA b z0 a j) →
    VW M9_readsText Xt K 21 [(3, .int (nI a)), (2, .int (nI n)), (0, .ref 35), (1, .int 1)] [] σ1 := by
  have hN := hT.2.1
  intro d
  induction d with
  | zero => intro a n hd h1; omega
  | succ d ih =>
    intro a n hd h1 h2 σ1 g1 g2 g3
    have hT1 := hT.sq g1 (by decide) (by decide)
    have t3 : σ1.1 36 1 = nI N := hT1.2.2.1
    have n6 := (rm_lt h2).2.1
    simp only at n6
    have bad : ∀ i σ', fault1 b N = some i → sq [39, 40, 41] [4] σ σ' → σ'.1 35 4 = 0 → K (some (.int (nI i))) σ' := by
      intro i σ' e q1 q2
      have := h σ' ⟨q1, by rw [num1_bad e]; exact q2, fun j hj => by rw [num1_bad e] at hj; omega⟩
      rw [e] at this
      exact this
    by_cases z0' : N = 0
    · have a0 : a = 0 := by omega
      subst a0
      subst z0'
      have e := fl1_none h2 (Or.inl rfl)
      have n0 : n = 0 := by have : rm b 0 = some (0, 0) := rfl; rw [this] at h2; cases h2; rfl
      subst n0
      refine run_sound s9_readsText (fun pc => pc == 21) _ 1000 _ _ _ _ ?_
      set_option maxRecDepth 100000 in simp (decide := true) only [c9_readsText, run_s, nxt_e, ap_const, ap_lconst, ap_ild, ap_lld, ap_ald, ap_ist, ap_lst, ap_ast, ap_iinc, ap_iadd, ap_isub, ap_imul, ap_iand, ap_ior, ap_ixor, ap_ishl, ap_ishr, ap_iushr, ap_idiv, ap_irem, ap_ineg, ap_ladd, ap_lsub, ap_lmul, ap_ldiv, ap_lrem, ap_lneg, ap_lcmp, ap_i2l, ap_l2i, ap_i2b, ap_i2s, ap_dup_int, ap_pop_int, ap_dup_ref, ap_pop_ref, ap_dup2, ap_goto, ap_tsw, ap_lsw, ap_getI, ap_getJ, ap_getR, ap_putI, ap_putZ, ap_putJ, ap_iald, ap_lald, ap_bald, ap_aald, ap_iast, ap_last, ap_bast, ap_alen, ap_gst, ap_iret, ap_zret, ap_lret, ap_vret, ap_aret, ap_lmax, ap_labs, ap_acopy, ap_invV0, ap_invS0, ap_invV1, ap_invS1, ap_invV2, ap_invS2, ap_invV3, ap_invS3, ap_invV4, ap_invS4, ap_invV5, ap_invS5, tcnT, ocT, lenIT, lenWT, lenLT, lenVT, lenZT, startfT, vpL, sa_1, sa_2, sL_1, sL_2, si_1, si_2, sj_1, sj_2, ldI_e, ldL_e, ldA_e, inC_e, lk, st1, st2, rm1, rm2, Value.category, ctn_some, ctn_none, wsum, lv_args, Int32.reduceAdd, Int32.reduceSub, Int32.reduceMul, Nat.reduceAdd, Nat.reduceLT, Nat.reduceLeDiff, Nat.reduceEqDiff, Nat.reduceBEq, ↓reduceIte, true_and, and_true, Bool.false_eq_true, true_implies, false_implies, not_true_eq_false, not_false_eq_true, Bool.or_true, Bool.or_false, Bool.true_or, Bool.false_or, bx_ceq, bx_clt, bx_cge, bx_cgt, bx_cle, bx_cne, bx_zeq, bx_zlt, bx_zge, bx_zgt, bx_zle, bx_zne, iteP, vin (show 1 < 2 by decide) (by decide), nI_lit5.1, t3]
      have := h σ1 ⟨g1, by rw [e.2]; exact g2, fun j hj => by rw [e.2] at hj; omega⟩
      rw [e.1] at this
      exact this
    · have body : VW M9_readsText Xt K 35 [(3, .int (nI a)), (2, .int (nI n)), (0, .ref 35), (1, .int 1)] [] σ1 := by
        refine run_sound s9_readsText (fun pc => pc == 21) _ 1000 _ _ _ _ ?_
        by_cases q6 : n = 6
        · set_option maxRecDepth 100000 in simp (decide := true) only [c9_readsText, run_s, nxt_e, ap_const, ap_lconst, ap_ild, ap_lld, ap_ald, ap_ist, ap_lst, ap_ast, ap_iinc, ap_iadd, ap_isub, ap_imul, ap_iand, ap_ior, ap_ixor, ap_ishl, ap_ishr, ap_iushr, ap_idiv, ap_irem, ap_ineg, ap_ladd, ap_lsub, ap_lmul, ap_ldiv, ap_lrem, ap_lneg, ap_lcmp, ap_i2l, ap_l2i, ap_i2b, ap_i2s, ap_dup_int, ap_pop_int, ap_dup_ref, ap_pop_ref, ap_dup2, ap_goto, ap_tsw, ap_lsw, ap_getI, ap_getJ, ap_getR, ap_putI, ap_putZ, ap_putJ, ap_iald, ap_lald, ap_bald, ap_aald, ap_iast, ap_last, ap_bast, ap_alen, ap_gst, ap_iret, ap_zret, ap_lret, ap_vret, ap_aret, ap_lmax, ap_labs, ap_acopy, ap_invV0, ap_invS0, ap_invV1, ap_invS1, ap_invV2, ap_invS2, ap_invV3, ap_invS3, ap_invV4, ap_invS4, ap_invV5, ap_invS5, tcnT, ocT, lenIT, lenWT, lenLT, lenVT, lenZT, startfT, vpL, sa_1, sa_2, sL_1, sL_2, si_1, si_2, sj_1, sj_2, ldI_e, ldL_e, ldA_e, inC_e, lk, st1, st2, rm1, rm2, Value.category, ctn_some, ctn_none, wsum, lv_args, Int32.reduceAdd, Int32.reduceSub, Int32.reduceMul, Nat.reduceAdd, Nat.reduceLT, Nat.reduceLeDiff, Nat.reduceEqDiff, Nat.reduceBEq, ↓reduceIte, true_and, and_true, Bool.false_eq_true, true_implies, false_implies, not_true_eq_false, not_false_eq_true, Bool.or_true, Bool.or_false, Bool.true_or, Bool.false_or, bx_ceq, bx_clt, bx_cge, bx_cgt, bx_cle, bx_cne, bx_zeq, bx_zlt, bx_zge, bx_zgt, bx_zle, bx_zne, iteP, eq_true (show nI n = 6 by rw [q6]; rfl)]
          refine bad a σ1 ?_ g1 g2
          refine RB_flt ⟨(0, n), h2, (show (0 : Nat) ≠ 3 by decide), h1, ?_⟩ z0'
          right
          rw [rm_s h2]
          unfold stp
          rw [if_neg (by decide), if_pos rfl, if_neg (by omega)]
        · set_option maxRecDepth 100000 in simp (decide := true) only [c9_readsText, run_s, nxt_e, ap_const, ap_lconst, ap_ild, ap_lld, ap_ald, ap_ist, ap_lst, ap_ast, ap_iinc, ap_iadd, ap_isub, ap_imul, ap_iand, ap_ior, ap_ixor, ap_ishl, ap_ishr, ap_iushr, ap_idiv, ap_irem, ap_ineg, ap_ladd, ap_lsub, ap_lmul, ap_ldiv, ap_lrem, ap_lneg, ap_lcmp, ap_i2l, ap_l2i, ap_i2b, ap_i2s, ap_dup_int, ap_pop_int, ap_dup_ref, ap_pop_ref, ap_dup2, ap_goto, ap_tsw, ap_lsw, ap_getI, ap_getJ, ap_getR, ap_putI, ap_putZ, ap_putJ, ap_iald, ap_lald, ap_bald, ap_aald, ap_iast, ap_last, ap_bast, ap_alen, ap_gst, ap_iret, ap_zret, ap_lret, ap_vret, ap_aret, ap_lmax, ap_labs, ap_acopy, ap_invV0, ap_invS0, ap_invV1, ap_invS1, ap_invV2, ap_invS2, ap_invV3, ap_invS3, ap_invV4, ap_invS4, ap_invV5, ap_invS5, tcnT, ocT, lenIT, lenWT, lenLT, lenVT, lenZT, startfT, vpL, sa_1, sa_2, sL_1, sL_2, si_1, si_2, sj_1, sj_2, ldI_e, ldL_e, ldA_e, inC_e, lk, st1, st2, rm1, rm2, Value.category, ctn_some, ctn_none, wsum, lv_args, Int32.reduceAdd, Int32.reduceSub, Int32.reduceMul, Nat.reduceAdd, Nat.reduceLT, Nat.reduceLeDiff, Nat.reduceEqDiff, Nat.reduceBEq, ↓reduceIte, true_and, and_true, Bool.false_eq_true, true_implies, false_implies, not_true_eq_false, not_false_eq_true, Bool.or_true, Bool.or_false, Bool.true_or, Bool.false_or, bx_ceq, bx_clt, bx_cge, bx_cgt, bx_cle, bx_cne, bx_zeq, bx_zlt, bx_zge, bx_zgt, bx_zle, bx_zne, iteP, eq_false (show ¬ nI n = 6 from fun e => q6 ((nI_eq (b := 6) (by omega) (by decide)).mp e))]
          refine v9_readsRecipe (by omega) hT1 h2 h1 (fun i hi hB => ?_) (fun z hz r1 r2 r3 => ?_)
          · set_option maxRecDepth 100000 in simp (decide := true) only [c9_readsText, run_s, nxt_e, ap_const, ap_lconst, ap_ild, ap_lld, ap_ald, ap_ist, ap_lst, ap_ast, ap_iinc, ap_iadd, ap_isub, ap_imul, ap_iand, ap_ior, ap_ixor, ap_ishl, ap_ishr, ap_iushr, ap_idiv, ap_irem, ap_ineg, ap_ladd, ap_lsub, ap_lmul, ap_ldiv, ap_lrem, ap_lneg, ap_lcmp, ap_i2l, ap_l2i, ap_i2b, ap_i2s, ap_dup_int, ap_pop_int, ap_dup_ref, ap_pop_ref, ap_dup2, ap_goto, ap_tsw, ap_lsw, ap_getI, ap_getJ, ap_getR, ap_putI, ap_putZ, ap_putJ, ap_iald, ap_lald, ap_bald, ap_aald, ap_iast, ap_last, ap_bast, ap_alen, ap_gst, ap_iret, ap_zret, ap_lret, ap_vret, ap_aret, ap_lmax, ap_labs, ap_acopy, ap_invV0, ap_invS0, ap_invV1, ap_invS1, ap_invV2, ap_invS2, ap_invV3, ap_invS3, ap_invV4, ap_invS4, ap_invV5, ap_invS5, tcnT, ocT, lenIT, lenWT, lenLT, lenVT, lenZT, startfT, vpL, sa_1, sa_2, sL_1, sL_2, si_1, si_2, sj_1, sj_2, ldI_e, ldL_e, ldA_e, inC_e, lk, st1, st2, rm1, rm2, Value.category, ctn_some, ctn_none, wsum, lv_args, Int32.reduceAdd, Int32.reduceSub, Int32.reduceMul, Nat.reduceAdd, Nat.reduceLT, Nat.reduceLeDiff, Nat.reduceEqDiff, Nat.reduceBEq, ↓reduceIte, true_and, and_true, Bool.false_eq_true, true_implies, false_implies, not_true_eq_false, not_false_eq_true, Bool.or_true, Bool.or_false, Bool.true_or, Bool.false_or, bx_ceq, bx_clt, bx_cge, bx_cgt, bx_cle, bx_cne, bx_zeq, bx_zlt, bx_zge, bx_zgt, bx_zle, bx_zne, iteP, eq_true (neg1 i hi).2, eq_false (show ¬ (0 : Int32) ≤ -nI i - 1 from by have := (neg1 i hi).2; clear hB h bad ih; grind), (neg1 i hi).1, nI_add]
            exact bad _ σ1 (RB_flt hB z0') g1 g2
          · have ez := nI_le (show 0 ≤ z by omega) (show z < 2 ^ 31 by omega)
            have hsq : sq [39, 40, 41] [4] σ (si (si (si σ1 39 n (fA b z0 (a + z) n)) 40 n (sA b z0 (a + z) n)) 41 n (pA b z0 (a + z) n)) := ((g1.si (by decide) (by decide)).si (by decide) (by decide)).si (by decide) (by decide)
            have hf : ∀ j, j < n + 1 → (si (si (si σ1 39 n (fA b z0 (a + z) n)) 40 n (sA b z0 (a + z) n)) 41 n (pA b z0 (a + z) n)).1 39 j = fA b z0 (a + z) j ∧ (si (si (si σ1 39 n (fA b z0 (a + z) n)) 40 n (sA b z0 (a + z) n)) 41 n (pA b z0 (a + z) n)).1 40 j = sA b z0 (a + z) j ∧ (si (si (si σ1 39 n (fA b z0 (a + z) n)) 40 n (sA b z0 (a + z) n)) 41 n (pA b z0 (a + z) n)).1 41 j = pA b z0 (a + z) j := by
              intro j hj
              by_cases e : j = n
              · subst e; simp [si_1, upd]
              · have := g3 j (by omega)
                have := r3 j (by omega)
                simp only [si_1, upd, e, if_false, Nat.reduceEqDiff, if_true]
                grind
            have f4 : (si (si (si σ1 39 n (fA b z0 (a + z) n)) 40 n (sA b z0 (a + z) n)) 41 n (pA b z0 (a + z) n)).1 35 4 = 0 := g2
            have t4 : (si (si (si σ1 39 n (fA b z0 (a + z) n)) 40 n (sA b z0 (a + z) n)) 41 n (pA b z0 (a + z) n)).1 36 1 = nI N := t3
            generalize si (si (si σ1 39 n (fA b z0 (a + z) n)) 40 n (sA b z0 (a + z) n)) 41 n (pA b z0 (a + z) n) = σ2 at hsq hf f4 t4 ⊢
            by_cases w : a + z = N
            · set_option maxRecDepth 100000 in simp (decide := true) only [c9_readsText, run_s, nxt_e, ap_const, ap_lconst, ap_ild, ap_lld, ap_ald, ap_ist, ap_lst, ap_ast, ap_iinc, ap_iadd, ap_isub, ap_imul, ap_iand, ap_ior, ap_ixor, ap_ishl, ap_ishr, ap_iushr, ap_idiv, ap_irem, ap_ineg, ap_ladd, ap_lsub, ap_lmul, ap_ldiv, ap_lrem, ap_lneg, ap_lcmp, ap_i2l, ap_l2i, ap_i2b, ap_i2s, ap_dup_int, ap_pop_int, ap_dup_ref, ap_pop_ref, ap_dup2, ap_goto, ap_tsw, ap_lsw, ap_getI, ap_getJ, ap_getR, ap_putI, ap_putZ, ap_putJ, ap_iald, ap_lald, ap_bald, ap_aald, ap_iast, ap_last, ap_bast, ap_alen, ap_gst, ap_iret, ap_zret, ap_lret, ap_vret, ap_aret, ap_lmax, ap_labs, ap_acopy, ap_invV0, ap_invS0, ap_invV1, ap_invS1, ap_invV2, ap_invS2, ap_invV3, ap_invS3, ap_invV4, ap_invS4, ap_invV5, ap_invS5, tcnT, ocT, lenIT, lenWT, lenLT, lenVT, lenZT, startfT, vpL, sa_1, sa_2, sL_1, sL_2, si_1, si_2, sj_1, sj_2, ldI_e, ldL_e, ldA_e, inC_e, lk, st1, st2, rm1, rm2, Value.category, ctn_some, ctn_none, wsum, lv_args, Int32.reduceAdd, Int32.reduceSub, Int32.reduceMul, Nat.reduceAdd, Nat.reduceLT, Nat.reduceLeDiff, Nat.reduceEqDiff, Nat.reduceBEq, ↓reduceIte, true_and, and_true, Bool.false_eq_true, true_implies, false_implies, not_true_eq_false, not_false_eq_true, Bool.or_true, Bool.or_false, Bool.true_or, Bool.false_or, bx_ceq, bx_clt, bx_cge, bx_cgt, bx_cle, bx_cne, bx_zeq, bx_zlt, bx_zge, bx_zgt, bx_zle, bx_zne, iteP, eq_true ez, eq_true (show (0 : Int32) ≤ nI z from ez), eq_false (show ¬ nI z < 0 from nI_nlt (Nat.zero_le z) (by omega)), nI_add, t4, vin (show 1 < 2 by decide) (by decide), nI_lit5.2.1, w, nI_1]
              rw [w] at r1 hf
              have e := fl1_none r1 (Or.inr rfl)
              have hs4 : si σ2 35 2 (σ2.1 35 2) = σ2 := si_self rfl
              rw [hs4]
              have hh := h (si σ2 35 4 (nI (n + 1))) ⟨hsq.fi (by decide), ?_, ?_⟩
              · rw [e.1] at hh; exact hh
              · rw [e.2]; simp [si_1, upd]
              · intro j hj
                rw [e.2] at hj
                rw [si_1, if_neg (by decide), si_1, if_neg (by decide), si_1, if_neg (by decide)]
                exact hf j hj
            · set_option maxRecDepth 100000 in simp (decide := true) only [c9_readsText, run_s, nxt_e, ap_const, ap_lconst, ap_ild, ap_lld, ap_ald, ap_ist, ap_lst, ap_ast, ap_iinc, ap_iadd, ap_isub, ap_imul, ap_iand, ap_ior, ap_ixor, ap_ishl, ap_ishr, ap_iushr, ap_idiv, ap_irem, ap_ineg, ap_ladd, ap_lsub, ap_lmul, ap_ldiv, ap_lrem, ap_lneg, ap_lcmp, ap_i2l, ap_l2i, ap_i2b, ap_i2s, ap_dup_int, ap_pop_int, ap_dup_ref, ap_pop_ref, ap_dup2, ap_goto, ap_tsw, ap_lsw, ap_getI, ap_getJ, ap_getR, ap_putI, ap_putZ, ap_putJ, ap_iald, ap_lald, ap_bald, ap_aald, ap_iast, ap_last, ap_bast, ap_alen, ap_gst, ap_iret, ap_zret, ap_lret, ap_vret, ap_aret, ap_lmax, ap_labs, ap_acopy, ap_invV0, ap_invS0, ap_invV1, ap_invS1, ap_invV2, ap_invS2, ap_invV3, ap_invS3, ap_invV4, ap_invS4, ap_invV5, ap_invS5, tcnT, ocT, lenIT, lenWT, lenLT, lenVT, lenZT, startfT, vpL, sa_1, sa_2, sL_1, sL_2, si_1, si_2, sj_1, sj_2, ldI_e, ldL_e, ldA_e, inC_e, lk, st1, st2, rm1, rm2, Value.category, ctn_some, ctn_none, wsum, lv_args, Int32.reduceAdd, Int32.reduceSub, Int32.reduceMul, Nat.reduceAdd, Nat.reduceLT, Nat.reduceLeDiff, Nat.reduceEqDiff, Nat.reduceBEq, ↓reduceIte, true_and, and_true, Bool.false_eq_true, true_implies, false_implies, not_true_eq_false, not_false_eq_true, Bool.or_true, Bool.or_false, Bool.true_or, Bool.false_or, bx_ceq, bx_clt, bx_cge, bx_cgt, bx_cle, bx_cne, bx_zeq, bx_zlt, bx_zge, bx_zgt, bx_zle, bx_zne, iteP, eq_true ez, eq_true (show (0 : Int32) ≤ nI z from ez), eq_false (show ¬ nI z < 0 from nI_nlt (Nat.zero_le z) (by omega)), nI_add, t4, vin (show 1 < 2 by decide) (by decide), nI_lit5.2.1, eq_false (show ¬ nI (a + z) = nI N from fun e => w ((nI_eq (by omega) (by omega)).mp e)), nI_1]
              refine v9_byteAt (t := 1) (hT.sq hsq (by decide) (by decide)) (by omega) ?_
              have eb : bz b N (a + z) = b (a + z) := if_pos (by omega)
              rw [eb]
              set_option maxRecDepth 100000 in simp (decide := true) only [c9_readsText, run_s, nxt_e, ap_const, ap_lconst, ap_ild, ap_lld, ap_ald, ap_ist, ap_lst, ap_ast, ap_iinc, ap_iadd, ap_isub, ap_imul, ap_iand, ap_ior, ap_ixor, ap_ishl, ap_ishr, ap_iushr, ap_idiv, ap_irem, ap_ineg, ap_ladd, ap_lsub, ap_lmul, ap_ldiv, ap_lrem, ap_lneg, ap_lcmp, ap_i2l, ap_l2i, ap_i2b, ap_i2s, ap_dup_int, ap_pop_int, ap_dup_ref, ap_pop_ref, ap_dup2, ap_goto, ap_tsw, ap_lsw, ap_getI, ap_getJ, ap_getR, ap_putI, ap_putZ, ap_putJ, ap_iald, ap_lald, ap_bald, ap_aald, ap_iast, ap_last, ap_bast, ap_alen, ap_gst, ap_iret, ap_zret, ap_lret, ap_vret, ap_aret, ap_lmax, ap_labs, ap_acopy, ap_invV0, ap_invS0, ap_invV1, ap_invS1, ap_invV2, ap_invS2, ap_invV3, ap_invS3, ap_invV4, ap_invS4, ap_invV5, ap_invS5, tcnT, ocT, lenIT, lenWT, lenLT, lenVT, lenZT, startfT, vpL, sa_1, sa_2, sL_1, sL_2, si_1, si_2, sj_1, sj_2, ldI_e, ldL_e, ldA_e, inC_e, lk, st1, st2, rm1, rm2, Value.category, ctn_some, ctn_none, wsum, lv_args, Int32.reduceAdd, Int32.reduceSub, Int32.reduceMul, Nat.reduceAdd, Nat.reduceLT, Nat.reduceLeDiff, Nat.reduceEqDiff, Nat.reduceBEq, ↓reduceIte, true_and, and_true, Bool.false_eq_true, true_implies, false_implies, not_true_eq_false, not_false_eq_true, Bool.or_true, Bool.or_false, Bool.true_or, Bool.false_or, bx_ceq, bx_clt, bx_cge, bx_cgt, bx_cle, bx_cne, bx_zeq, bx_zlt, bx_zge, bx_zgt, bx_zle, bx_zne, iteP, nI_1]
              refine ⟨fun e => ?_, fun e => ?_⟩
              · have r4 : rm b (a + z + 1) = some (0, n + 1) := by rw [rm_s r1]; unfold stp; rw [if_pos rfl, if_pos e]
                refine (ih (a + z + 1) (n + 1) (by omega) (by omega) r4 σ2 hsq f4 (fun j hj => ?_)).sub [0, 1, 3, 4] rfl
                have e1 : fA b z0 (a + z + 1) = fA b z0 (a + z) := by rw [fA_s r1]; rfl
                have e2 : sA b z0 (a + z + 1) = sA b z0 (a + z) := by rw [sA_s r1]; unfold sA'; rw [if_neg (by decide), if_neg (fun z => absurd z.1 (by decide))]
                have e3 : pA b z0 (a + z + 1) = pA b z0 (a + z) := by rw [pA_s r1]; unfold pA'; rw [if_neg (by simp)]
                rw [e1, e2, e3]
                exact hf j hj
              · refine bad _ σ2 (fl1_bad r1 (by omega) ?_) hsq f4
                rw [rm_s r1]
                unfold stp
                rw [if_pos rfl, if_neg e]
      refine run_sound s9_readsText (fun pc => pc == 35) _ 1000 _ _ _ _ ?_
      set_option maxRecDepth 100000 in simp (decide := true) only [c9_readsText, run_s, nxt_e, ap_const, ap_lconst, ap_ild, ap_lld, ap_ald, ap_ist, ap_lst, ap_ast, ap_iinc, ap_iadd, ap_isub, ap_imul, ap_iand, ap_ior, ap_ixor, ap_ishl, ap_ishr, ap_iushr, ap_idiv, ap_irem, ap_ineg, ap_ladd, ap_lsub, ap_lmul, ap_ldiv, ap_lrem, ap_lneg, ap_lcmp, ap_i2l, ap_l2i, ap_i2b, ap_i2s, ap_dup_int, ap_pop_int, ap_dup_ref, ap_pop_ref, ap_dup2, ap_goto, ap_tsw, ap_lsw, ap_getI, ap_getJ, ap_getR, ap_putI, ap_putZ, ap_putJ, ap_iald, ap_lald, ap_bald, ap_aald, ap_iast, ap_last, ap_bast, ap_alen, ap_gst, ap_iret, ap_zret, ap_lret, ap_vret, ap_aret, ap_lmax, ap_labs, ap_acopy, ap_invV0, ap_invS0, ap_invV1, ap_invS1, ap_invV2, ap_invS2, ap_invV3, ap_invS3, ap_invV4, ap_invS4, ap_invV5, ap_invS5, tcnT, ocT, lenIT, lenWT, lenLT, lenVT, lenZT, startfT, vpL, sa_1, sa_2, sL_1, sL_2, si_1, si_2, sj_1, sj_2, ldI_e, ldL_e, ldA_e, inC_e, lk, st1, st2, rm1, rm2, Value.category, ctn_some, ctn_none, wsum, lv_args, Int32.reduceAdd, Int32.reduceSub, Int32.reduceMul, Nat.reduceAdd, Nat.reduceLT, Nat.reduceLeDiff, Nat.reduceEqDiff, Nat.reduceBEq, ↓reduceIte, true_and, and_true, Bool.false_eq_true, true_implies, false_implies, not_true_eq_false, not_false_eq_true, Bool.or_true, Bool.or_false, Bool.true_or, Bool.false_or, bx_ceq, bx_clt, bx_cge, bx_cgt, bx_cle, bx_cne, bx_zeq, bx_zlt, bx_zge, bx_zgt, bx_zle, bx_zne, iteP, vin (show 1 < 2 by decide) (by decide), nI_lit5.2.1, t3]
      refine ⟨fun _ => body.sub [0, 1, 2, 3] rfl, fun q => ⟨fun q2 => ?_, fun _ => body.sub [0, 1, 2, 3] rfl⟩⟩
      exact absurd q2 (nI_ge (a := 0) (by
        rcases Nat.lt_or_ge a N with w | w
        · exact absurd (nI_lt w (by omega)) q
        · omega) (by omega))
theorem v9_readsText1 {σ : St} {K : Kr} {N : Nat} {b : Nat → Int32} (hT : TXT σ 1 N b) (h : ∀ σ', RM1 σ σ' b N → K (some (.int (oI (fault1 b N)))) σ') : VM M9_readsText [.ref 35, .int 1] σ K := by
  refine vm_run s9_readsText n9_readsText (fun pc => pc == 21) 1000 (fun E => Nat.le_of_ble_eq_true rfl) ?_
  set_option maxRecDepth 100000 in simp (decide := true) only [c9_readsText, run_s, nxt_e, ap_const, ap_lconst, ap_ild, ap_lld, ap_ald, ap_ist, ap_lst, ap_ast, ap_iinc, ap_iadd, ap_isub, ap_imul, ap_iand, ap_ior, ap_ixor, ap_ishl, ap_ishr, ap_iushr, ap_idiv, ap_irem, ap_ineg, ap_ladd, ap_lsub, ap_lmul, ap_ldiv, ap_lrem, ap_lneg, ap_lcmp, ap_i2l, ap_l2i, ap_i2b, ap_i2s, ap_dup_int, ap_pop_int, ap_dup_ref, ap_pop_ref, ap_dup2, ap_goto, ap_tsw, ap_lsw, ap_getI, ap_getJ, ap_getR, ap_putI, ap_putZ, ap_putJ, ap_iald, ap_lald, ap_bald, ap_aald, ap_iast, ap_last, ap_bast, ap_alen, ap_gst, ap_iret, ap_zret, ap_lret, ap_vret, ap_aret, ap_lmax, ap_labs, ap_acopy, ap_invV0, ap_invS0, ap_invV1, ap_invS1, ap_invV2, ap_invS2, ap_invV3, ap_invS3, ap_invV4, ap_invS4, ap_invV5, ap_invS5, tcnT, ocT, lenIT, lenWT, lenLT, lenVT, lenZT, startfT, vpL, sa_1, sa_2, sL_1, sL_2, si_1, si_2, sj_1, sj_2, ldI_e, ldL_e, ldA_e, inC_e, lk, st1, st2, rm1, rm2, Value.category, ctn_some, ctn_none, wsum, lv_args, Int32.reduceAdd, Int32.reduceSub, Int32.reduceMul, Nat.reduceAdd, Nat.reduceLT, Nat.reduceLeDiff, Nat.reduceEqDiff, Nat.reduceBEq, ↓reduceIte, true_and, and_true, Bool.false_eq_true, true_implies, false_implies, not_true_eq_false, not_false_eq_true, Bool.or_true, Bool.or_false, Bool.true_or, Bool.false_or, bx_ceq, bx_clt, bx_cge, bx_cgt, bx_cle, bx_cne, bx_zeq, bx_zlt, bx_zge, bx_zgt, bx_zle, bx_zne, iteP]
  exact (L9_readsText1 hT h (N + 1) 0 0 (by omega) (by omega) rfl _ (sq.rfl'.fi (by decide)) (by simp [si_1, upd]) (fun j hj => by omega)).sub [0, 1, 2, 3] rfl
