/-! ===== part 20: ways, the greatest chance ===== -/
def w1 (w : Nat → Nat → Nat) (m k : Nat) : Nat := if 0 < w m k then 1 else 0
theorem L8_ways_in {σ : St} {K : Kr} {n r S s : Nat} {lf : Int32} (hv : MV σ n) (hr : r < 6) {V : Nat → Int64}
    (hk : ∀ σ', sm [13, 14] σ σ' → (∀ j, j < 4 → σ'.1 14 j = nI (w1 (ww σ) r j)) → σ'.2 13 = V → VW M8_foldWays Xt K 78 [(3, .int lf), (4, .int (nI r)), (0, .ref 0), (1, .int (nI S)), (2, .int (nI s))] [] σ') :
    ∀ (d k : Nat), k + d = 4 → ∀ σ1, sm [13, 14] σ σ1 → (∀ j, j < k → σ1.1 14 j = nI (w1 (ww σ) r j)) → σ1.2 13 = V → VW M8_foldWays Xt K 33 [(5, .int (nI k)), (3, .int lf), (4, .int (nI r)), (0, .ref 0), (1, .int (nI S)), (2, .int (nI s))] [] σ1 := by
  intro d
  induction d with
  | zero =>
    intro k hk4 σ1 hs ho hV
    have : k = 4 := by omega
    subst this
    refine run_sound s8_foldWays (fun pc => pc == 33 || pc == 13 || pc == 78) _ 1000 _ _ _ _ ?_
    set_option maxRecDepth 100000 in simp (decide := true) only [c8_foldWays, run_s, nxt_e, ap_const, ap_lconst, ap_ild, ap_lld, ap_ald, ap_ist, ap_lst, ap_ast, ap_iinc, ap_iadd, ap_isub, ap_imul, ap_iand, ap_ior, ap_ixor, ap_ishl, ap_ishr, ap_iushr, ap_idiv, ap_irem, ap_ineg, ap_ladd, ap_lsub, ap_lmul, ap_ldiv, ap_lrem, ap_lneg, ap_lcmp, ap_i2l, ap_l2i, ap_i2b, ap_i2s, ap_dup_int, ap_pop_int, ap_dup_ref, ap_pop_ref, ap_dup2, ap_ceq, ap_cne, ap_clt, ap_cge, ap_cgt, ap_cle, ap_zeq, ap_zne, ap_zlt, ap_zge, ap_zgt, ap_zle, ap_goto, ap_tsw, ap_lsw, ap_getI, ap_getJ, ap_getR, ap_putI, ap_putZ, ap_putJ, ap_iald, ap_lald, ap_bald, ap_aald, ap_iast, ap_last, ap_bast, ap_alen, ap_gst, ap_iret, ap_zret, ap_lret, ap_vret, ap_aret, ap_lmax, ap_labs, ap_acopy, ap_invV0, ap_invS0, ap_invV1, ap_invS1, ap_invV2, ap_invS2, ap_invV3, ap_invS3, ap_invV4, ap_invS4, ap_invV5, ap_invS5, tcnT, ocT, lenIT, lenWT, lenLT, lenVT, lenZT, startfT, vpL, sa_1, sa_2, sL_1, sL_2, si_1, si_2, sj_1, sj_2, ldI_e, ldL_e, ldA_e, inC_e, lk, st1, st2, rm1, rm2, Value.category, ctn_some, ctn_none, wsum, lv_args, Int32.reduceAdd, Int32.reduceSub, Int32.reduceMul, Nat.reduceAdd, Nat.reduceLT, Nat.reduceLeDiff, Nat.reduceEqDiff, Nat.reduceBEq, ↓reduceIte, true_and, and_true, Bool.false_eq_true, true_implies, false_implies, not_true_eq_false, not_false_eq_true, Bool.or_true, Bool.or_false, Bool.true_or, Bool.false_or, eq_true (show (4 : Int32) ≤ nI 4 by decide)]
    exact (hk σ1 hs ho hV).sub [1, 2, 3, 4, 5] rfl
  | succ d ih =>
    intro k hk4 σ1 hs ho hV
    have hk5 : k < 4 := by omega
    have hv1 := hv.sm hs (by decide) (by decide) (by decide)
    refine run_sound s8_foldWays (fun pc => pc == 33 || pc == 13 || pc == 78) _ 1000 _ _ _ _ ?_
    set_option maxRecDepth 100000 in simp (decide := true) only [c8_foldWays, run_s, nxt_e, ap_const, ap_lconst, ap_ild, ap_lld, ap_ald, ap_ist, ap_lst, ap_ast, ap_iinc, ap_iadd, ap_isub, ap_imul, ap_iand, ap_ior, ap_ixor, ap_ishl, ap_ishr, ap_iushr, ap_idiv, ap_irem, ap_ineg, ap_ladd, ap_lsub, ap_lmul, ap_ldiv, ap_lrem, ap_lneg, ap_lcmp, ap_i2l, ap_l2i, ap_i2b, ap_i2s, ap_dup_int, ap_pop_int, ap_dup_ref, ap_pop_ref, ap_dup2, ap_ceq, ap_cne, ap_clt, ap_cge, ap_cgt, ap_cle, ap_zeq, ap_zne, ap_zlt, ap_zge, ap_zgt, ap_zle, ap_goto, ap_tsw, ap_lsw, ap_getI, ap_getJ, ap_getR, ap_putI, ap_putZ, ap_putJ, ap_iald, ap_lald, ap_bald, ap_aald, ap_iast, ap_last, ap_bast, ap_alen, ap_gst, ap_iret, ap_zret, ap_lret, ap_vret, ap_aret, ap_lmax, ap_labs, ap_acopy, ap_invV0, ap_invS0, ap_invV1, ap_invS1, ap_invV2, ap_invS2, ap_invV3, ap_invS3, ap_invV4, ap_invS4, ap_invV5, ap_invS5, tcnT, ocT, lenIT, lenWT, lenLT, lenVT, lenZT, startfT, vpL, sa_1, sa_2, sL_1, sL_2, si_1, si_2, sj_1, sj_2, ldI_e, ldL_e, ldA_e, inC_e, lk, st1, st2, rm1, rm2, Value.category, ctn_some, ctn_none, wsum, lv_args, Int32.reduceAdd, Int32.reduceSub, Int32.reduceMul, Nat.reduceAdd, Nat.reduceLT, Nat.reduceLeDiff, Nat.reduceEqDiff, Nat.reduceBEq, ↓reduceIte, true_and, and_true, Bool.false_eq_true, true_implies, false_implies, not_true_eq_false, not_false_eq_true, Bool.or_true, Bool.or_false, Bool.true_or, Bool.false_or, eq_false (show ¬ (4 : Int32) ≤ nI k from nI_ge hk5 (by decide)), vin hr (by decide), nIc (show r < 2 ^ 31 by omega)]
    refine v8_weightN hv1 hr hk5 ?_
    have e : wd σ1 r k (σ1.1 29 r) = ww σ r k := by unfold ww; rw [wd_sm hs (by decide) (by decide), (hs 29 (by decide)).1]
    have hle := hv.wd_le (d := σ.1 29 r) hr hk5
    have hc : (nI (ww σ r k) ≤ 0) ↔ ww σ r k = 0 := by
      rw [show (0 : Int32) = nI 0 from rfl, nI_leI (by have : ww σ r k = wd σ r k (σ.1 29 r) := rfl; omega) (by decide)]
      omega
    rw [e]
    set_option maxRecDepth 100000 in simp (decide := true) only [c8_foldWays, run_s, nxt_e, ap_const, ap_lconst, ap_ild, ap_lld, ap_ald, ap_ist, ap_lst, ap_ast, ap_iinc, ap_iadd, ap_isub, ap_imul, ap_iand, ap_ior, ap_ixor, ap_ishl, ap_ishr, ap_iushr, ap_idiv, ap_irem, ap_ineg, ap_ladd, ap_lsub, ap_lmul, ap_ldiv, ap_lrem, ap_lneg, ap_lcmp, ap_i2l, ap_l2i, ap_i2b, ap_i2s, ap_dup_int, ap_pop_int, ap_dup_ref, ap_pop_ref, ap_dup2, ap_ceq, ap_cne, ap_clt, ap_cge, ap_cgt, ap_cle, ap_zeq, ap_zne, ap_zlt, ap_zge, ap_zgt, ap_zle, ap_goto, ap_tsw, ap_lsw, ap_getI, ap_getJ, ap_getR, ap_putI, ap_putZ, ap_putJ, ap_iald, ap_lald, ap_bald, ap_aald, ap_iast, ap_last, ap_bast, ap_alen, ap_gst, ap_iret, ap_zret, ap_lret, ap_vret, ap_aret, ap_lmax, ap_labs, ap_acopy, ap_invV0, ap_invS0, ap_invV1, ap_invS1, ap_invV2, ap_invS2, ap_invV3, ap_invS3, ap_invV4, ap_invS4, ap_invV5, ap_invS5, tcnT, ocT, lenIT, lenWT, lenLT, lenVT, lenZT, startfT, vpL, sa_1, sa_2, sL_1, sL_2, si_1, si_2, sj_1, sj_2, ldI_e, ldL_e, ldA_e, inC_e, lk, st1, st2, rm1, rm2, Value.category, ctn_some, ctn_none, wsum, lv_args, Int32.reduceAdd, Int32.reduceSub, Int32.reduceMul, Nat.reduceAdd, Nat.reduceLT, Nat.reduceLeDiff, Nat.reduceEqDiff, Nat.reduceBEq, ↓reduceIte, true_and, and_true, Bool.false_eq_true, true_implies, false_implies, not_true_eq_false, not_false_eq_true, Bool.or_true, Bool.or_false, Bool.true_or, Bool.false_or, hc, vin hk5 (by decide), nIc (show k < 2 ^ 31 by omega), nI_1]
    refine ⟨fun q => ?_, fun q => ?_⟩
    · refine (ih (k + 1) (by omega) _ (hs.si (by decide)) ?_ hV).sub [0, 1, 2, 3, 4, 5] rfl
      intro j hj
      rw [si_1, if_pos rfl]
      unfold upd
      by_cases ej : j = k
      · subst ej
        rw [if_pos rfl]
        unfold w1
        rw [if_neg (by omega)]
        rfl
      · rw [if_neg ej]
        exact ho j (by omega)
    · refine (ih (k + 1) (by omega) _ (hs.si (by decide)) ?_ hV).sub [0, 1, 2, 3, 4, 5] rfl
      intro j hj
      rw [si_1, if_pos rfl]
      unfold upd
      by_cases ej : j = k
      · subst ej
        rw [if_pos rfl]
        unfold w1
        rw [if_pos (by omega)]
        rfl
      · rw [if_neg ej]
        exact ho j (by omega)
theorem L8_foldWays {σ : St} {K : Kr} {n S s : Nat} {val : Nat → Int} (hv : MV σ n) (hp : PT σ) (hS : S < 64) (hs : s ≤ 6)
    (h : ∀ σ', sm [13, 14] σ σ' → (∀ c, c < 2401 → sz c + (Tm S 0 n).length = s → σ'.2 13 (pl c) = Int64.ofInt (F (w1 (ww σ)) val (Tm S 0 n) c)) → K none σ') :
    ∀ (r d : Nat), r + d = n → ∀ (lft : Nat) (σ1 : St), lft + (Tm S r d).length = s → (Tm S 0 r).length ≤ lft → sm [13, 14] σ σ1 → (∀ c, c < 2401 → sz c = lft → σ1.2 13 (pl c) = Int64.ofInt (F (w1 (ww σ)) val (Tm S r d) c)) →
      VW M8_foldWays Xt K 13 [(4, .int (nI r - 1)), (3, .int (nI lft)), (0, .ref 0), (1, .int (nI S)), (2, .int (nI s))] [] σ1 := by
  have hn6 := hv.1
  intro r
  induction r with
  | zero =>
    intro d hd lft σ1 hl hl0 hsm hval
    refine run_sound s8_foldWays (fun pc => pc == 33 || pc == 13 || pc == 78) _ 1000 _ _ _ _ ?_
    set_option maxRecDepth 100000 in simp (decide := true) only [c8_foldWays, run_s, nxt_e, ap_const, ap_lconst, ap_ild, ap_lld, ap_ald, ap_ist, ap_lst, ap_ast, ap_iinc, ap_iadd, ap_isub, ap_imul, ap_iand, ap_ior, ap_ixor, ap_ishl, ap_ishr, ap_iushr, ap_idiv, ap_irem, ap_ineg, ap_ladd, ap_lsub, ap_lmul, ap_ldiv, ap_lrem, ap_lneg, ap_lcmp, ap_i2l, ap_l2i, ap_i2b, ap_i2s, ap_dup_int, ap_pop_int, ap_dup_ref, ap_pop_ref, ap_dup2, ap_ceq, ap_cne, ap_clt, ap_cge, ap_cgt, ap_cle, ap_zeq, ap_zne, ap_zlt, ap_zge, ap_zgt, ap_zle, ap_goto, ap_tsw, ap_lsw, ap_getI, ap_getJ, ap_getR, ap_putI, ap_putZ, ap_putJ, ap_iald, ap_lald, ap_bald, ap_aald, ap_iast, ap_last, ap_bast, ap_alen, ap_gst, ap_iret, ap_zret, ap_lret, ap_vret, ap_aret, ap_lmax, ap_labs, ap_acopy, ap_invV0, ap_invS0, ap_invV1, ap_invS1, ap_invV2, ap_invS2, ap_invV3, ap_invS3, ap_invV4, ap_invS4, ap_invV5, ap_invS5, tcnT, ocT, lenIT, lenWT, lenLT, lenVT, lenZT, startfT, vpL, sa_1, sa_2, sL_1, sL_2, si_1, si_2, sj_1, sj_2, ldI_e, ldL_e, ldA_e, inC_e, lk, st1, st2, rm1, rm2, Value.category, ctn_some, ctn_none, wsum, lv_args, Int32.reduceAdd, Int32.reduceSub, Int32.reduceMul, Nat.reduceAdd, Nat.reduceLT, Nat.reduceLeDiff, Nat.reduceEqDiff, Nat.reduceBEq, ↓reduceIte, true_and, and_true, Bool.false_eq_true, true_implies, false_implies, not_true_eq_false, not_false_eq_true, Bool.or_true, Bool.or_false, Bool.true_or, Bool.false_or, m1lt]
    have : d = n := by omega
    subst this
    exact h σ1 hsm (fun c hc hcs => hval c hc (by omega))
  | succ r ih =>
    intro d hd lft σ1 hl hl0 hsm hval
    have hr6 : r < 6 := by omega
    have hTd : Tm S r (d + 1) = if S.testBit r then r :: Tm S (r + 1) d else Tm S (r + 1) d := rfl
    have hT0 : Tm S 0 (r + 1) = Tm S 0 r ++ Tm S (0 + r) 1 := Tm_app S r 0 1
    rw [Nat.zero_add] at hT0
    have hT1 : Tm S r 1 = if S.testBit r then [r] else [] := rfl
    refine run_sound s8_foldWays (fun pc => pc == 33 || pc == 13 || pc == 78) _ 1000 _ _ _ _ ?_
    set_option maxRecDepth 100000 in simp (decide := true) only [c8_foldWays, run_s, nxt_e, ap_const, ap_lconst, ap_ild, ap_lld, ap_ald, ap_ist, ap_lst, ap_ast, ap_iinc, ap_iadd, ap_isub, ap_imul, ap_iand, ap_ior, ap_ixor, ap_ishl, ap_ishr, ap_iushr, ap_idiv, ap_irem, ap_ineg, ap_ladd, ap_lsub, ap_lmul, ap_ldiv, ap_lrem, ap_lneg, ap_lcmp, ap_i2l, ap_l2i, ap_i2b, ap_i2s, ap_dup_int, ap_pop_int, ap_dup_ref, ap_pop_ref, ap_dup2, ap_ceq, ap_cne, ap_clt, ap_cge, ap_cgt, ap_cle, ap_zeq, ap_zne, ap_zlt, ap_zge, ap_zgt, ap_zle, ap_goto, ap_tsw, ap_lsw, ap_getI, ap_getJ, ap_getR, ap_putI, ap_putZ, ap_putJ, ap_iald, ap_lald, ap_bald, ap_aald, ap_iast, ap_last, ap_bast, ap_alen, ap_gst, ap_iret, ap_zret, ap_lret, ap_vret, ap_aret, ap_lmax, ap_labs, ap_acopy, ap_invV0, ap_invS0, ap_invV1, ap_invS1, ap_invV2, ap_invS2, ap_invV3, ap_invS3, ap_invV4, ap_invS4, ap_invV5, ap_invS5, tcnT, ocT, lenIT, lenWT, lenLT, lenVT, lenZT, startfT, vpL, sa_1, sa_2, sL_1, sL_2, si_1, si_2, sj_1, sj_2, ldI_e, ldL_e, ldA_e, inC_e, lk, st1, st2, rm1, rm2, Value.category, ctn_some, ctn_none, wsum, lv_args, Int32.reduceAdd, Int32.reduceSub, Int32.reduceMul, Nat.reduceAdd, Nat.reduceLT, Nat.reduceLeDiff, Nat.reduceEqDiff, Nat.reduceBEq, ↓reduceIte, true_and, and_true, Bool.false_eq_true, true_implies, false_implies, not_true_eq_false, not_false_eq_true, Bool.or_true, Bool.or_false, Bool.true_or, Bool.false_or, nI_pr, eq_false (nI_pos (show r < 2 ^ 31 by omega)), bit_c S hS r hr6, addm1]
    cases hb : S.testBit r with
    | false =>
      rw [hb] at hTd hT1
      refine ⟨fun _ => ?_, fun q => absurd rfl q⟩
      refine (ih (d + 1) (by omega) lft σ1 ?_ ?_ hsm ?_).sub [0, 1, 2, 3, 4] rfl
      · rw [hTd]; exact hl
      · have := congrArg List.length hT0
        rw [hT1] at this
        simp at this
        omega
      · intro c hc hcs
        rw [hTd]
        exact hval c hc hcs
    | true =>
      rw [hb] at hTd hT1
      have hl1 : 0 < lft := by
        have := congrArg List.length hT0
        rw [hT1] at this
        simp at this
        omega
      obtain ⟨l1, rfl⟩ : ∃ l1, lft = l1 + 1 := ⟨lft - 1, by omega⟩
      have e1 : nI (l1 + 1) - 1 = nI l1 := nI_pred l1
      refine ⟨fun q => absurd q (by decide), fun _ => ?_⟩
      rw [e1]
      refine (L8_ways_in (V := σ1.2 13) hv hr6 ?_ 4 0 (by decide) σ1 hsm (fun j hj => by omega) rfl).sub [0, 1, 2, 3, 4, 5] rfl
      intro σ2 hsm2 h14 h13
      refine run_sound s8_foldWays (fun pc => pc == 33 || pc == 13 || pc == 78) _ 1000 _ _ _ _ ?_
      set_option maxRecDepth 100000 in simp (decide := true) only [c8_foldWays, run_s, nxt_e, ap_const, ap_lconst, ap_ild, ap_lld, ap_ald, ap_ist, ap_lst, ap_ast, ap_iinc, ap_iadd, ap_isub, ap_imul, ap_iand, ap_ior, ap_ixor, ap_ishl, ap_ishr, ap_iushr, ap_idiv, ap_irem, ap_ineg, ap_ladd, ap_lsub, ap_lmul, ap_ldiv, ap_lrem, ap_lneg, ap_lcmp, ap_i2l, ap_l2i, ap_i2b, ap_i2s, ap_dup_int, ap_pop_int, ap_dup_ref, ap_pop_ref, ap_dup2, ap_ceq, ap_cne, ap_clt, ap_cge, ap_cgt, ap_cle, ap_zeq, ap_zne, ap_zlt, ap_zge, ap_zgt, ap_zle, ap_goto, ap_tsw, ap_lsw, ap_getI, ap_getJ, ap_getR, ap_putI, ap_putZ, ap_putJ, ap_iald, ap_lald, ap_bald, ap_aald, ap_iast, ap_last, ap_bast, ap_alen, ap_gst, ap_iret, ap_zret, ap_lret, ap_vret, ap_aret, ap_lmax, ap_labs, ap_acopy, ap_invV0, ap_invS0, ap_invV1, ap_invS1, ap_invV2, ap_invS2, ap_invV3, ap_invS3, ap_invV4, ap_invS4, ap_invV5, ap_invS5, tcnT, ocT, lenIT, lenWT, lenLT, lenVT, lenZT, startfT, vpL, sa_1, sa_2, sL_1, sL_2, si_1, si_2, sj_1, sj_2, ldI_e, ldL_e, ldA_e, inC_e, lk, st1, st2, rm1, rm2, Value.category, ctn_some, ctn_none, wsum, lv_args, Int32.reduceAdd, Int32.reduceSub, Int32.reduceMul, Nat.reduceAdd, Nat.reduceLT, Nat.reduceLeDiff, Nat.reduceEqDiff, Nat.reduceBEq, ↓reduceIte, true_and, and_true, Bool.false_eq_true, true_implies, false_implies, not_true_eq_false, not_false_eq_true, Bool.or_true, Bool.or_false, Bool.true_or, Bool.false_or]
      have hp2 : PT σ2 := hp.sm hsm2 (by decide) (by decide)
      refine v0_sumAt (s := l1) (by omega) hp2 ?_
      set_option maxRecDepth 100000 in simp (decide := true) only [c8_foldWays, run_s, nxt_e, ap_const, ap_lconst, ap_ild, ap_lld, ap_ald, ap_ist, ap_lst, ap_ast, ap_iinc, ap_iadd, ap_isub, ap_imul, ap_iand, ap_ior, ap_ixor, ap_ishl, ap_ishr, ap_iushr, ap_idiv, ap_irem, ap_ineg, ap_ladd, ap_lsub, ap_lmul, ap_ldiv, ap_lrem, ap_lneg, ap_lcmp, ap_i2l, ap_l2i, ap_i2b, ap_i2s, ap_dup_int, ap_pop_int, ap_dup_ref, ap_pop_ref, ap_dup2, ap_ceq, ap_cne, ap_clt, ap_cge, ap_cgt, ap_cle, ap_zeq, ap_zne, ap_zlt, ap_zge, ap_zgt, ap_zle, ap_goto, ap_tsw, ap_lsw, ap_getI, ap_getJ, ap_getR, ap_putI, ap_putZ, ap_putJ, ap_iald, ap_lald, ap_bald, ap_aald, ap_iast, ap_last, ap_bast, ap_alen, ap_gst, ap_iret, ap_zret, ap_lret, ap_vret, ap_aret, ap_lmax, ap_labs, ap_acopy, ap_invV0, ap_invS0, ap_invV1, ap_invS1, ap_invV2, ap_invS2, ap_invV3, ap_invS3, ap_invV4, ap_invS4, ap_invV5, ap_invS5, tcnT, ocT, lenIT, lenWT, lenLT, lenVT, lenZT, startfT, vpL, sa_1, sa_2, sL_1, sL_2, si_1, si_2, sj_1, sj_2, ldI_e, ldL_e, ldA_e, inC_e, lk, st1, st2, rm1, rm2, Value.category, ctn_some, ctn_none, wsum, lv_args, Int32.reduceAdd, Int32.reduceSub, Int32.reduceMul, Nat.reduceAdd, Nat.reduceLT, Nat.reduceLeDiff, Nat.reduceEqDiff, Nat.reduceBEq, ↓reduceIte, true_and, and_true, Bool.false_eq_true, true_implies, false_implies, not_true_eq_false, not_false_eq_true, Bool.or_true, Bool.or_false, Bool.true_or, Bool.false_or, addm1]
      refine (ih (d + 1) (by omega) l1 _ ?_ ?_ (hsm2.sL (by decide)) ?_).sub [0, 1, 2, 3, 4] rfl
      · rw [hTd]; simp only [if_true, List.length_cons]; omega
      · have := congrArg List.length hT0
        rw [hT1] at this
        simp at this
        omega
      · intro c hc hcs
        obtain ⟨-, q2, q3, q4⟩ := pl_spec hc (by omega)
        rw [hcs] at q3 q4
        rw [sL_2, if_pos rfl, if_pos ⟨q3, q4⟩, hTd]
        refine fS_F (w := w1 (ww σ)) (fun k hk => ?_) h14 ?_ hc hcs (by omega)
        · unfold w1; split <;> decide
        · intro c' hc' hcs'
          rw [h13]
          exact hval c' hc' (by omega)
theorem v8_foldWays {σ : St} {K : Kr} {n S s : Nat} (val : Nat → Int) (hv : MV σ n) (hp : PT σ) (hS : S < 64) (hs : s ≤ 6) (hl : (Tm S 0 n).length ≤ s) (hval : ∀ c, c < 2401 → sz c = s → σ.2 13 (pl c) = Int64.ofInt (val c))
    (h : ∀ σ', sm [13, 14] σ σ' → (∀ c, c < 2401 → sz c + (Tm S 0 n).length = s → σ'.2 13 (pl c) = Int64.ofInt (F (w1 (ww σ)) val (Tm S 0 n) c)) → K none σ') : VM M8_foldWays [.ref 0, .int (nI S), .int (nI s)] σ K := by
  refine vm_run s8_foldWays n8_foldWays (fun pc => pc == 33 || pc == 13 || pc == 78) 1000 (fun E => Nat.le_of_ble_eq_true rfl) ?_
  set_option maxRecDepth 100000 in simp (decide := true) only [c8_foldWays, run_s, nxt_e, ap_const, ap_lconst, ap_ild, ap_lld, ap_ald, ap_ist, ap_lst, ap_ast, ap_iinc, ap_iadd, ap_isub, ap_imul, ap_iand, ap_ior, ap_ixor, ap_ishl, ap_ishr, ap_iushr, ap_idiv, ap_irem, ap_ineg, ap_ladd, ap_lsub, ap_lmul, ap_ldiv, ap_lrem, ap_lneg, ap_lcmp, ap_i2l, ap_l2i, ap_i2b, ap_i2s, ap_dup_int, ap_pop_int, ap_dup_ref, ap_pop_ref, ap_dup2, ap_ceq, ap_cne, ap_clt, ap_cge, ap_cgt, ap_cle, ap_zeq, ap_zne, ap_zlt, ap_zge, ap_zgt, ap_zle, ap_goto, ap_tsw, ap_lsw, ap_getI, ap_getJ, ap_getR, ap_putI, ap_putZ, ap_putJ, ap_iald, ap_lald, ap_bald, ap_aald, ap_iast, ap_last, ap_bast, ap_alen, ap_gst, ap_iret, ap_zret, ap_lret, ap_vret, ap_aret, ap_lmax, ap_labs, ap_acopy, ap_invV0, ap_invS0, ap_invV1, ap_invS1, ap_invV2, ap_invS2, ap_invV3, ap_invS3, ap_invV4, ap_invS4, ap_invV5, ap_invS5, tcnT, ocT, lenIT, lenWT, lenLT, lenVT, lenZT, startfT, vpL, sa_1, sa_2, sL_1, sL_2, si_1, si_2, sj_1, sj_2, ldI_e, ldL_e, ldA_e, inC_e, lk, st1, st2, rm1, rm2, Value.category, ctn_some, ctn_none, wsum, lv_args, Int32.reduceAdd, Int32.reduceSub, Int32.reduceMul, Nat.reduceAdd, Nat.reduceLT, Nat.reduceLeDiff, Nat.reduceEqDiff, Nat.reduceBEq, ↓reduceIte, true_and, and_true, Bool.false_eq_true, true_implies, false_implies, not_true_eq_false, not_false_eq_true, Bool.or_true, Bool.or_false, Bool.true_or, Bool.false_or, hv.2.1]
  exact (L8_foldWays hv hp hS hs h n 0 rfl s σ rfl hl sm.rfl' hval).sub [0, 1, 2, 3, 4] rfl
/-! the greatest -/
def mx (x y : Int) : Int := if y < x then x else y
def G (w : Nat → Nat → Nat) (val : Nat → Int) : List Nat → Nat → Int
  | [], c => val c
  | m :: ms, c => mx (mx (mx (mx 0 ((w m 0 : Int) * G w val ms (c + pw 0))) ((w m 1 : Int) * G w val ms (c + pw 1))) ((w m 2 : Int) * G w val ms (c + pw 2))) ((w m 3 : Int) * G w val ms (c + pw 3))
theorem mx_b {x y M : Int} (hx : 0 ≤ x ∧ x ≤ M) (hy : 0 ≤ y ∧ y ≤ M) : 0 ≤ mx x y ∧ mx x y ≤ M := by
  unfold mx
  split
  · exact hx
  · exact hy
theorem G_bound {w : Nat → Nat → Nat} {val : Nat → Int} (hB : ∀ c, c < 2401 → sz c ≤ 6 → 0 ≤ val c ∧ val c ≤ 1) : ∀ (ms : List Nat) (c : Nat), c < 2401 → sz c + ms.length ≤ 6 → 0 ≤ G w val ms c ∧ G w val ms c ≤ ((PW w ms : Nat) : Int) := by
  intro ms
  induction ms with
  | nil =>
    intro c hc hs
    simp only [PW, G]
    exact hB c hc (by simpa using hs)
  | cons m r ih =>
    intro c hc hs
    simp only [List.length_cons] at hs
    have hk := fun k (h4 : k < 4) => inc_spec hc (by omega : sz c < 6) h4
    have h0 := ih (c + pw 0) (hk 0 (by decide)).1 (by have := (hk 0 (by decide)).2.1; omega)
    have h1 := ih (c + pw 1) (hk 1 (by decide)).1 (by have := (hk 1 (by decide)).2.1; omega)
    have h2 := ih (c + pw 2) (hk 2 (by decide)).1 (by have := (hk 2 (by decide)).2.1; omega)
    have h3 := ih (c + pw 3) (hk 3 (by decide)).1 (by have := (hk 3 (by decide)).2.1; omega)
    have mul : ∀ (a : Nat) (x : Int) (y : Nat), 0 ≤ x ∧ x ≤ y → 0 ≤ (a : Int) * x ∧ (a : Int) * x ≤ ((a * y : Nat) : Int) := by
      intro a x y hxy
      have g2 := Int.mul_le_mul_of_nonneg_left hxy.2 (Int.natCast_nonneg a)
      rw [Int.natCast_mul]
      exact ⟨Int.mul_nonneg (Int.natCast_nonneg a) hxy.1, g2⟩
    have m0 := mul (w m 0) _ _ h0
    have m1 := mul (w m 1) _ _ h1
    have m2 := mul (w m 2) _ _ h2
    have m3 := mul (w m 3) _ _ h3
    have e : PW w (m :: r) = w m 0 * PW w r + w m 1 * PW w r + w m 2 * PW w r + w m 3 * PW w r := by
      simp only [PW, ws4]
      rw [← Nat.add_mul, ← Nat.add_mul, ← Nat.add_mul]
    have hM : ∀ k, k < 4 → w m k * PW w r ≤ PW w (m :: r) := fun k hk => by
      rw [e]
      rcases (show k = 0 ∨ k = 1 ∨ k = 2 ∨ k = 3 by omega) with rfl | rfl | rfl | rfl <;> omega
    have n0 := hM 0 (by decide)
    have n1 := hM 1 (by decide)
    have n2 := hM 2 (by decide)
    have n3 := hM 3 (by decide)
    simp only [G]
    exact mx_b (mx_b (mx_b (mx_b ⟨Int.le_refl _, Int.natCast_nonneg _⟩ ⟨m0.1, by omega⟩) ⟨m1.1, by omega⟩) ⟨m2.1, by omega⟩) ⟨m3.1, by omega⟩
def mL (x y : Int64) : Int64 := if y < x then x else y
def m4 (a b c d : Int64) : Int64 := mL (mL (mL (mL 0 a) b) c) d
def gS (σ : St) (i : Nat) : Int64 := m4 ((σ.1 14 0).toInt64 * σ.2 13 (pl (up i + pw 0))) ((σ.1 14 1).toInt64 * σ.2 13 (pl (up i + pw 1))) ((σ.1 14 2).toInt64 * σ.2 13 (pl (up i + pw 2))) ((σ.1 14 3).toInt64 * σ.2 13 (pl (up i + pw 3)))
theorem L0_greatestAt {σ : St} {K : Kr} {s : Nat} (hs : s < 6) (hp : PT σ) (h : K none (sL σ 13 (fun i => if sS s ≤ i ∧ i < sS (s + 1) then gS σ i else σ.2 13 i))) : ∀ (d i : Nat), i + d = sS (s + 1) → sS s ≤ i → VW M0_greatestAt Xt K 17 [(2, .int (nI i)), (0, .ref 12), (1, .int (nI s))] [] (sL σ 13 (fun j => if sS s ≤ j ∧ j < i then gS σ j else σ.2 13 j)) := by
  have h126 := sS_126 hs
  intro d
  induction d with
  | zero =>
    intro i hi hsi
    refine run_sound s0_greatestAt (fun pc => pc == 17) _ 1000 _ _ _ _ ?_
    set_option maxRecDepth 100000 in simp (decide := true) only [c0_greatestAt, run_s, nxt_e, ap_const, ap_lconst, ap_ild, ap_lld, ap_ald, ap_ist, ap_lst, ap_ast, ap_iinc, ap_iadd, ap_isub, ap_imul, ap_iand, ap_ior, ap_ixor, ap_ishl, ap_ishr, ap_iushr, ap_idiv, ap_irem, ap_ineg, ap_ladd, ap_lsub, ap_lmul, ap_ldiv, ap_lrem, ap_lneg, ap_lcmp, ap_i2l, ap_l2i, ap_i2b, ap_i2s, ap_dup_int, ap_pop_int, ap_dup_ref, ap_pop_ref, ap_dup2, ap_ceq, ap_cne, ap_clt, ap_cge, ap_cgt, ap_cle, ap_zeq, ap_zne, ap_zlt, ap_zge, ap_zgt, ap_zle, ap_goto, ap_tsw, ap_lsw, ap_getI, ap_getJ, ap_getR, ap_putI, ap_putZ, ap_putJ, ap_iald, ap_lald, ap_bald, ap_aald, ap_iast, ap_last, ap_bast, ap_alen, ap_gst, ap_iret, ap_zret, ap_lret, ap_vret, ap_aret, ap_lmax, ap_labs, ap_acopy, ap_invV0, ap_invS0, ap_invV1, ap_invS1, ap_invV2, ap_invS2, ap_invV3, ap_invS3, ap_invV4, ap_invS4, ap_invV5, ap_invS5, tcnT, ocT, lenIT, lenWT, lenLT, lenVT, lenZT, startfT, vpL, sa_1, sa_2, sL_1, sL_2, si_1, si_2, sj_1, sj_2, ldI_e, ldL_e, ldA_e, inC_e, lk, st1, st2, rm1, rm2, Value.category, ctn_some, ctn_none, wsum, lv_args, Int32.reduceAdd, Int32.reduceSub, Int32.reduceMul, Nat.reduceAdd, Nat.reduceLT, Nat.reduceLeDiff, Nat.reduceEqDiff, Nat.reduceBEq, ↓reduceIte, true_and, and_true, Bool.false_eq_true, true_implies, false_implies, not_true_eq_false, not_false_eq_true, Bool.or_true, Bool.or_false, Bool.true_or, Bool.false_or, nI_1, vin (show s + 1 < 8 by omega) (by decide), nIc (show s + 1 < 2 ^ 31 by omega), startf_nI (s + 1) (by omega), eq_true (nI_le (show sS (s + 1) ≤ i by omega) (by omega))]
    have e : i = sS (s + 1) := by omega
    subst e
    exact h
  | succ d ih =>
    intro i hi hsi
    have hi1 : i < 126 := by omega
    have hn : ∀ k, k < 4 → ¬ (sS s ≤ pl (up i + pw k) ∧ pl (up i + pw k) < i) := fun k hk q => by
      have := nx_ge hi1 hk ⟨hsi, (show i < sS (s + 1) by omega)⟩
      omega
    have e0 : nI (i * 4) + 0 = nI (i * 4) := nI_add (i * 4) 0
    have hL := fun k (hk : k < 4) => nIc (Nat.lt_trans (nx_lt (k := k) hi1 hk) (by decide))
    have hV := fun k (hk : k < 4) => vin (nx_lt (k := k) hi1 hk) (by decide)
    refine run_sound s0_greatestAt (fun pc => pc == 17) _ 1000 _ _ _ _ ?_
    set_option maxRecDepth 100000 in simp (decide := true) only [c0_greatestAt, run_s, nxt_e, ap_const, ap_lconst, ap_ild, ap_lld, ap_ald, ap_ist, ap_lst, ap_ast, ap_iinc, ap_iadd, ap_isub, ap_imul, ap_iand, ap_ior, ap_ixor, ap_ishl, ap_ishr, ap_iushr, ap_idiv, ap_irem, ap_ineg, ap_ladd, ap_lsub, ap_lmul, ap_ldiv, ap_lrem, ap_lneg, ap_lcmp, ap_i2l, ap_l2i, ap_i2b, ap_i2s, ap_dup_int, ap_pop_int, ap_dup_ref, ap_pop_ref, ap_dup2, ap_ceq, ap_cne, ap_clt, ap_cge, ap_cgt, ap_cle, ap_zeq, ap_zne, ap_zlt, ap_zge, ap_zgt, ap_zle, ap_goto, ap_tsw, ap_lsw, ap_getI, ap_getJ, ap_getR, ap_putI, ap_putZ, ap_putJ, ap_iald, ap_lald, ap_bald, ap_aald, ap_iast, ap_last, ap_bast, ap_alen, ap_gst, ap_iret, ap_zret, ap_lret, ap_vret, ap_aret, ap_lmax, ap_labs, ap_acopy, ap_invV0, ap_invS0, ap_invV1, ap_invS1, ap_invV2, ap_invS2, ap_invV3, ap_invS3, ap_invV4, ap_invS4, ap_invV5, ap_invS5, tcnT, ocT, lenIT, lenWT, lenLT, lenVT, lenZT, startfT, vpL, sa_1, sa_2, sL_1, sL_2, si_1, si_2, sj_1, sj_2, ldI_e, ldL_e, ldA_e, inC_e, lk, st1, st2, rm1, rm2, Value.category, ctn_some, ctn_none, wsum, lv_args, Int32.reduceAdd, Int32.reduceSub, Int32.reduceMul, Nat.reduceAdd, Nat.reduceLT, Nat.reduceLeDiff, Nat.reduceEqDiff, Nat.reduceBEq, ↓reduceIte, true_and, and_true, Bool.false_eq_true, true_implies, false_implies, not_true_eq_false, not_false_eq_true, Bool.or_true, Bool.or_false, Bool.true_or, Bool.false_or, nI_1, vin (show s + 1 < 8 by omega) (by decide), nIc (show s + 1 < 2 ^ 31 by omega), startf_nI (s + 1) (by omega), eq_false (nI_ge (show i < sS (s + 1) by omega) (by omega)), nI_x4, nI_p2, nI_p3, e0, nIc (show i < 2 ^ 31 by omega), nIc (show i * 4 < 2 ^ 31 by omega), nIc (show i * 4 + 1 < 2 ^ 31 by omega), nIc (show i * 4 + 2 < 2 ^ 31 by omega), nIc (show i * 4 + 3 < 2 ^ 31 by omega), vin (show i * 4 < 504 by omega) (by decide), vin (show i * 4 + 1 < 504 by omega) (by decide), vin (show i * 4 + 2 < 504 by omega) (by decide), vin (show i * 4 + 3 < 504 by omega) (by decide), vin (show i < 210 by omega) (by decide), (show σ.1 17 (i * 4) = nI (pl (up i + pw 0)) from hp.2 i 0 hi1 (by decide)), hp.2 i 1 hi1 (by decide), hp.2 i 2 hi1 (by decide), hp.2 i 3 hi1 (by decide), hL 0 (by decide), hL 1 (by decide), hL 2 (by decide), hL 3 (by decide), hV 0 (by decide), hV 1 (by decide), hV 2 (by decide), hV 3 (by decide), sj_sL, if_neg (hn 0 (by decide)), if_neg (hn 1 (by decide)), if_neg (hn 2 (by decide)), if_neg (hn 3 (by decide))]
    show VW M0_greatestAt Xt K 17 _ [] (sL σ 13 (vp_updL (fun j => if sS s ≤ j ∧ j < i then gS σ j else σ.2 13 j) i (gS σ i)))
    rw [updL_step hsi]
    exact (ih (i + 1) (by omega) (by omega)).sub [0, 3, 4] rfl
theorem v0_greatestAt {σ : St} {K : Kr} {s : Nat} (hs : s < 6) (hp : PT σ) (h : K none (sL σ 13 (fun i => if sS s ≤ i ∧ i < sS (s + 1) then gS σ i else σ.2 13 i))) : VM M0_greatestAt [.ref 12, .int (nI s)] σ K := by
  refine vm_run s0_greatestAt n0_greatestAt (fun pc => pc == 17) 1000 (fun E => Nat.le_of_ble_eq_true rfl) ?_
  set_option maxRecDepth 100000 in simp (decide := true) only [c0_greatestAt, run_s, nxt_e, ap_const, ap_lconst, ap_ild, ap_lld, ap_ald, ap_ist, ap_lst, ap_ast, ap_iinc, ap_iadd, ap_isub, ap_imul, ap_iand, ap_ior, ap_ixor, ap_ishl, ap_ishr, ap_iushr, ap_idiv, ap_irem, ap_ineg, ap_ladd, ap_lsub, ap_lmul, ap_ldiv, ap_lrem, ap_lneg, ap_lcmp, ap_i2l, ap_l2i, ap_i2b, ap_i2s, ap_dup_int, ap_pop_int, ap_dup_ref, ap_pop_ref, ap_dup2, ap_ceq, ap_cne, ap_clt, ap_cge, ap_cgt, ap_cle, ap_zeq, ap_zne, ap_zlt, ap_zge, ap_zgt, ap_zle, ap_goto, ap_tsw, ap_lsw, ap_getI, ap_getJ, ap_getR, ap_putI, ap_putZ, ap_putJ, ap_iald, ap_lald, ap_bald, ap_aald, ap_iast, ap_last, ap_bast, ap_alen, ap_gst, ap_iret, ap_zret, ap_lret, ap_vret, ap_aret, ap_lmax, ap_labs, ap_acopy, ap_invV0, ap_invS0, ap_invV1, ap_invS1, ap_invV2, ap_invS2, ap_invV3, ap_invS3, ap_invV4, ap_invS4, ap_invV5, ap_invS5, tcnT, ocT, lenIT, lenWT, lenLT, lenVT, lenZT, startfT, vpL, sa_1, sa_2, sL_1, sL_2, si_1, si_2, sj_1, sj_2, ldI_e, ldL_e, ldA_e, inC_e, lk, st1, st2, rm1, rm2, Value.category, ctn_some, ctn_none, wsum, lv_args, Int32.reduceAdd, Int32.reduceSub, Int32.reduceMul, Nat.reduceAdd, Nat.reduceLT, Nat.reduceLeDiff, Nat.reduceEqDiff, Nat.reduceBEq, ↓reduceIte, true_and, and_true, Bool.false_eq_true, true_implies, false_implies, not_true_eq_false, not_false_eq_true, Bool.or_true, Bool.or_false, Bool.true_or, Bool.false_or, eq_false (nI_pos (show s < 2 ^ 31 by omega)), eq_true (show nI s < 6 from nI_lt hs (by decide)), vin (show s < 8 by omega) (by decide), nIc (show s < 2 ^ 31 by omega), startf_nI s (by omega)]
  have hm := sS_mono (show s ≤ s + 1 by omega)
  have := L0_greatestAt hs hp h (sS (s + 1) - sS s) (sS s) (by omega) (Nat.le_refl _)
  have e : (fun j => if sS s ≤ j ∧ j < sS s then gS σ j else σ.2 13 j) = σ.2 13 := by
    funext j
    rw [if_neg (by omega)]
  rw [e, sL_self] at this
  exact this
