/-! ===== part 13: foldMembers, foldWorth, productOfWeights ===== -/
theorem nI_pr (r : Nat) : nI (r + 1) - 1 = nI r := nI_pred r
theorem m1lt : (nI 0 - 1 < 0) = True := by decide
theorem pl0 : pl 0 = 0 := rfl
/-- the fold by one member more: what sumAt makes of values that are right at the level above -/
theorem fS_F {σ : St} {w : Nat → Nat → Nat} {val : Nat → Int} {m : Nat} {ms : List Nat} {lft : Nat} (hw : ∀ k, k < 4 → w m k < 2 ^ 31) (ho : ∀ k, k < 4 → σ.1 14 k = nI (w m k)) (hv : ∀ c, c < 2401 → sz c = lft + 1 → σ.2 13 (pl c) = Int64.ofInt (F w val ms c)) {c : Nat} (hc : c < 2401) (hs : sz c = lft) (h6 : lft < 6) : fS σ (pl c) = Int64.ofInt (F w val (m :: ms) c) := by
  have hu := (pl_spec hc (by omega)).1
  have hi := fun k (hk : k < 4) => inc_spec hc (by omega : sz c < 6) hk
  unfold fS
  rw [hu, ho 0 (by decide), ho 1 (by decide), ho 2 (by decide), ho 3 (by decide), hv _ (hi 0 (by decide)).1 (by have := (hi 0 (by decide)).2.1; omega), hv _ (hi 1 (by decide)).1 (by have := (hi 1 (by decide)).2.1; omega), hv _ (hi 2 (by decide)).1 (by have := (hi 2 (by decide)).2.1; omega), hv _ (hi 3 (by decide)).1 (by have := (hi 3 (by decide)).2.1; omega)]
  rw [toL _ (hw 0 (by decide)), toL _ (hw 1 (by decide)), toL _ (hw 2 (by decide)), toL _ (hw 3 (by decide)), ← Int64.ofInt_add, ← Int64.ofInt_add, ← Int64.ofInt_add]
  rfl
theorem L8_foldMembers {σ : St} {K : Kr} {n S s o : Nat} {val : Nat → Int} (hv : MV σ n) (hp : PT σ) (ho : o = 29 ∨ o = 30) (hS : S < 64) (hs : s ≤ 6)
    (h : ∀ σ', sm [13, 14] σ σ' → (∀ i, sS s ≤ i → σ'.2 13 i = σ.2 13 i) → (∀ c, c < 2401 → sz c + (Tm S 0 n).length = s → σ'.2 13 (pl c) = Int64.ofInt (F (fun m k => wd σ m k (σ.1 o m)) val (Tm S 0 n) c)) → K none σ') :
    ∀ (r d : Nat), r + d = n → ∀ (lft : Nat) (σ1 : St), lft + (Tm S r d).length = s → (Tm S 0 r).length ≤ lft → sm [13, 14] σ σ1 → (∀ i, sS s ≤ i → σ1.2 13 i = σ.2 13 i) → (∀ c, c < 2401 → sz c = lft → σ1.2 13 (pl c) = Int64.ofInt (F (fun m k => wd σ m k (σ.1 o m)) val (Tm S r d) c)) →
      VW M8_foldMembers Xt K 14 [(5, .int (nI r - 1)), (4, .int (nI lft)), (0, .ref 0), (1, .int (nI S)), (2, .int (nI s)), (3, .ref o)] [] σ1 := by
  have ho56 : lenI o = 6 := by rcases ho with rfl | rfl <;> rfl
  have ho60 : o ≠ 60 := by rcases ho with rfl | rfl <;> decide
  have hol : o ∉ [13, 14] := by rcases ho with rfl | rfl <;> decide
  have ho14 : o ≠ 14 := by rcases ho with rfl | rfl <;> decide
  have hn6 := hv.1
  intro r
  induction r with
  | zero =>
    intro d hd lft σ1 hl hl0 hsm hup hval
    refine run_sound s8_foldMembers (fun pc => pc == 14) _ 1000 _ _ _ _ ?_
    simp (decide := true) only [c8_foldMembers, run_s, nxt_e, ap_const, ap_lconst, ap_ild, ap_lld, ap_ald, ap_ist, ap_lst, ap_ast, ap_iinc, ap_iadd, ap_isub, ap_imul, ap_iand, ap_ior, ap_ixor, ap_ishl, ap_ishr, ap_iushr, ap_idiv, ap_irem, ap_ineg, ap_ladd, ap_lsub, ap_lmul, ap_ldiv, ap_lrem, ap_lneg, ap_lcmp, ap_i2l, ap_l2i, ap_i2b, ap_i2s, ap_dup_int, ap_pop_int, ap_dup_ref, ap_pop_ref, ap_dup2, ap_ceq, ap_cne, ap_clt, ap_cge, ap_cgt, ap_cle, ap_zeq, ap_zne, ap_zlt, ap_zge, ap_zgt, ap_zle, ap_goto, ap_tsw, ap_lsw, ap_getI, ap_getJ, ap_getR, ap_putI, ap_putZ, ap_putJ, ap_iald, ap_lald, ap_bald, ap_aald, ap_iast, ap_last, ap_bast, ap_alen, ap_gst, ap_iret, ap_zret, ap_lret, ap_vret, ap_aret, ap_lmax, ap_labs, ap_acopy, ap_invV0, ap_invS0, ap_invV1, ap_invS1, ap_invV2, ap_invS2, ap_invV3, ap_invS3, ap_invV4, ap_invS4, ap_invV5, ap_invS5, tcnT, ocT, lenIT, lenWT, lenLT, lenVT, lenZT, startfT, vpL, sa_1, sa_2, sL_1, sL_2, si_1, si_2, sj_1, sj_2, ldI_e, ldL_e, ldA_e, inC_e, lk, st1, st2, rm1, rm2, Value.category, ctn_some, ctn_none, wsum, lv_args, Int32.reduceAdd, Int32.reduceSub, Int32.reduceMul, Nat.reduceAdd, Nat.reduceLT, Nat.reduceLeDiff, Nat.reduceEqDiff, Nat.reduceBEq, ↓reduceIte, true_and, and_true, Bool.false_eq_true, true_implies, false_implies, not_true_eq_false, not_false_eq_true, m1lt]
    have : d = n := by omega
    subst this
    exact h σ1 hsm hup (fun c hc hcs => hval c hc (by omega))
  | succ r ih =>
    intro d hd lft σ1 hl hl0 hsm hup hval
    have hr6 : r < 6 := by omega
    have hTd : Tm S r (d + 1) = if S.testBit r then r :: Tm S (r + 1) d else Tm S (r + 1) d := rfl
    have hT0 : Tm S 0 (r + 1) = Tm S 0 r ++ Tm S (0 + r) 1 := Tm_app S r 0 1
    rw [Nat.zero_add] at hT0
    have hT1 : Tm S r 1 = if S.testBit r then [r] else [] := rfl
    have hv1 := hv.sm hsm (by decide) (by decide) (by decide)
    have hp1 := hp.sm hsm (by decide) (by decide)
    refine run_sound s8_foldMembers (fun pc => pc == 14) _ 1000 _ _ _ _ ?_
    simp (decide := true) only [c8_foldMembers, run_s, nxt_e, ap_const, ap_lconst, ap_ild, ap_lld, ap_ald, ap_ist, ap_lst, ap_ast, ap_iinc, ap_iadd, ap_isub, ap_imul, ap_iand, ap_ior, ap_ixor, ap_ishl, ap_ishr, ap_iushr, ap_idiv, ap_irem, ap_ineg, ap_ladd, ap_lsub, ap_lmul, ap_ldiv, ap_lrem, ap_lneg, ap_lcmp, ap_i2l, ap_l2i, ap_i2b, ap_i2s, ap_dup_int, ap_pop_int, ap_dup_ref, ap_pop_ref, ap_dup2, ap_ceq, ap_cne, ap_clt, ap_cge, ap_cgt, ap_cle, ap_zeq, ap_zne, ap_zlt, ap_zge, ap_zgt, ap_zle, ap_goto, ap_tsw, ap_lsw, ap_getI, ap_getJ, ap_getR, ap_putI, ap_putZ, ap_putJ, ap_iald, ap_lald, ap_bald, ap_aald, ap_iast, ap_last, ap_bast, ap_alen, ap_gst, ap_iret, ap_zret, ap_lret, ap_vret, ap_aret, ap_lmax, ap_labs, ap_acopy, ap_invV0, ap_invS0, ap_invV1, ap_invS1, ap_invV2, ap_invS2, ap_invV3, ap_invS3, ap_invV4, ap_invS4, ap_invV5, ap_invS5, tcnT, ocT, lenIT, lenWT, lenLT, lenVT, lenZT, startfT, vpL, sa_1, sa_2, sL_1, sL_2, si_1, si_2, sj_1, sj_2, ldI_e, ldL_e, ldA_e, inC_e, lk, st1, st2, rm1, rm2, Value.category, ctn_some, ctn_none, wsum, lv_args, Int32.reduceAdd, Int32.reduceSub, Int32.reduceMul, Nat.reduceAdd, Nat.reduceLT, Nat.reduceLeDiff, Nat.reduceEqDiff, Nat.reduceBEq, ↓reduceIte, true_and, and_true, Bool.false_eq_true, true_implies, false_implies, not_true_eq_false, not_false_eq_true, nI_pr, eq_false (nI_pos (show r < 2 ^ 31 by omega)), bit_c S hS r hr6, addm1, ho56, ho60]
    cases hb : S.testBit r with
    | false =>
      rw [hb] at hTd hT1
      refine ⟨fun _ => ?_, fun q => absurd rfl q⟩
      refine (ih (d + 1) (by omega) lft σ1 ?_ ?_ hsm hup ?_).sub [0, 1, 2, 3, 4, 5] rfl
      · rw [hTd]; exact hl
      · have := congrArg List.length hT0
        rw [hT1] at this
        simp at this
        omega
      · intro c hc hcs
        rw [hTd]
        exact hval c hc hcs
    | true =>
      rw [hb] at hTd hT1
      have hl1 : 0 < lft := by
        have := congrArg List.length hT0
        rw [hT1] at this
        simp at this
        omega
      obtain ⟨l1, rfl⟩ : ∃ l1, lft = l1 + 1 := ⟨lft - 1, by omega⟩
      have e1 : nI (l1 + 1) - 1 = nI l1 := nI_pred l1
      refine ⟨fun q => absurd q (by decide), fun _ => ⟨vp_in_nI hr6 (by decide), ?_⟩⟩
      rw [e1]
      refine v8_weightN (k := 0) hv1 hr6 (by decide) ?_
      simp (decide := true) only [c8_foldMembers, run_s, nxt_e, ap_const, ap_lconst, ap_ild, ap_lld, ap_ald, ap_ist, ap_lst, ap_ast, ap_iinc, ap_iadd, ap_isub, ap_imul, ap_iand, ap_ior, ap_ixor, ap_ishl, ap_ishr, ap_iushr, ap_idiv, ap_irem, ap_ineg, ap_ladd, ap_lsub, ap_lmul, ap_ldiv, ap_lrem, ap_lneg, ap_lcmp, ap_i2l, ap_l2i, ap_i2b, ap_i2s, ap_dup_int, ap_pop_int, ap_dup_ref, ap_pop_ref, ap_dup2, ap_ceq, ap_cne, ap_clt, ap_cge, ap_cgt, ap_cle, ap_zeq, ap_zne, ap_zlt, ap_zge, ap_zgt, ap_zle, ap_goto, ap_tsw, ap_lsw, ap_getI, ap_getJ, ap_getR, ap_putI, ap_putZ, ap_putJ, ap_iald, ap_lald, ap_bald, ap_aald, ap_iast, ap_last, ap_bast, ap_alen, ap_gst, ap_iret, ap_zret, ap_lret, ap_vret, ap_aret, ap_lmax, ap_labs, ap_acopy, ap_invV0, ap_invS0, ap_invV1, ap_invS1, ap_invV2, ap_invS2, ap_invV3, ap_invS3, ap_invV4, ap_invS4, ap_invV5, ap_invS5, tcnT, ocT, lenIT, lenWT, lenLT, lenVT, lenZT, startfT, vpL, sa_1, sa_2, sL_1, sL_2, si_1, si_2, sj_1, sj_2, ldI_e, ldL_e, ldA_e, inC_e, lk, st1, st2, rm1, rm2, Value.category, ctn_some, ctn_none, wsum, lv_args, Int32.reduceAdd, Int32.reduceSub, Int32.reduceMul, Nat.reduceAdd, Nat.reduceLT, Nat.reduceLeDiff, Nat.reduceEqDiff, Nat.reduceBEq, ↓reduceIte, true_and, and_true, Bool.false_eq_true, true_implies, false_implies, not_true_eq_false, not_false_eq_true, nIc (show r < 2 ^ 31 by omega), ho56, ho60, vin hr6 (by decide), ho14, wd_si]
      refine v8_weightN (k := 1) (n := n) hv1 hr6 (by decide) ?_
      simp (decide := true) only [c8_foldMembers, run_s, nxt_e, ap_const, ap_lconst, ap_ild, ap_lld, ap_ald, ap_ist, ap_lst, ap_ast, ap_iinc, ap_iadd, ap_isub, ap_imul, ap_iand, ap_ior, ap_ixor, ap_ishl, ap_ishr, ap_iushr, ap_idiv, ap_irem, ap_ineg, ap_ladd, ap_lsub, ap_lmul, ap_ldiv, ap_lrem, ap_lneg, ap_lcmp, ap_i2l, ap_l2i, ap_i2b, ap_i2s, ap_dup_int, ap_pop_int, ap_dup_ref, ap_pop_ref, ap_dup2, ap_ceq, ap_cne, ap_clt, ap_cge, ap_cgt, ap_cle, ap_zeq, ap_zne, ap_zlt, ap_zge, ap_zgt, ap_zle, ap_goto, ap_tsw, ap_lsw, ap_getI, ap_getJ, ap_getR, ap_putI, ap_putZ, ap_putJ, ap_iald, ap_lald, ap_bald, ap_aald, ap_iast, ap_last, ap_bast, ap_alen, ap_gst, ap_iret, ap_zret, ap_lret, ap_vret, ap_aret, ap_lmax, ap_labs, ap_acopy, ap_invV0, ap_invS0, ap_invV1, ap_invS1, ap_invV2, ap_invS2, ap_invV3, ap_invS3, ap_invV4, ap_invS4, ap_invV5, ap_invS5, tcnT, ocT, lenIT, lenWT, lenLT, lenVT, lenZT, startfT, vpL, sa_1, sa_2, sL_1, sL_2, si_1, si_2, sj_1, sj_2, ldI_e, ldL_e, ldA_e, inC_e, lk, st1, st2, rm1, rm2, Value.category, ctn_some, ctn_none, wsum, lv_args, Int32.reduceAdd, Int32.reduceSub, Int32.reduceMul, Nat.reduceAdd, Nat.reduceLT, Nat.reduceLeDiff, Nat.reduceEqDiff, Nat.reduceBEq, ↓reduceIte, true_and, and_true, Bool.false_eq_true, true_implies, false_implies, not_true_eq_false, not_false_eq_true, nIc (show r < 2 ^ 31 by omega), ho56, ho60, vin hr6 (by decide), ho14, wd_si]
      refine v8_weightN (k := 2) (n := n) hv1 hr6 (by decide) ?_
      simp (decide := true) only [c8_foldMembers, run_s, nxt_e, ap_const, ap_lconst, ap_ild, ap_lld, ap_ald, ap_ist, ap_lst, ap_ast, ap_iinc, ap_iadd, ap_isub, ap_imul, ap_iand, ap_ior, ap_ixor, ap_ishl, ap_ishr, ap_iushr, ap_idiv, ap_irem, ap_ineg, ap_ladd, ap_lsub, ap_lmul, ap_ldiv, ap_lrem, ap_lneg, ap_lcmp, ap_i2l, ap_l2i, ap_i2b, ap_i2s, ap_dup_int, ap_pop_int, ap_dup_ref, ap_pop_ref, ap_dup2, ap_ceq, ap_cne, ap_clt, ap_cge, ap_cgt, ap_cle, ap_zeq, ap_zne, ap_zlt, ap_zge, ap_zgt, ap_zle, ap_goto, ap_tsw, ap_lsw, ap_getI, ap_getJ, ap_getR, ap_putI, ap_putZ, ap_putJ, ap_iald, ap_lald, ap_bald, ap_aald, ap_iast, ap_last, ap_bast, ap_alen, ap_gst, ap_iret, ap_zret, ap_lret, ap_vret, ap_aret, ap_lmax, ap_labs, ap_acopy, ap_invV0, ap_invS0, ap_invV1, ap_invS1, ap_invV2, ap_invS2, ap_invV3, ap_invS3, ap_invV4, ap_invS4, ap_invV5, ap_invS5, tcnT, ocT, lenIT, lenWT, lenLT, lenVT, lenZT, startfT, vpL, sa_1, sa_2, sL_1, sL_2, si_1, si_2, sj_1, sj_2, ldI_e, ldL_e, ldA_e, inC_e, lk, st1, st2, rm1, rm2, Value.category, ctn_some, ctn_none, wsum, lv_args, Int32.reduceAdd, Int32.reduceSub, Int32.reduceMul, Nat.reduceAdd, Nat.reduceLT, Nat.reduceLeDiff, Nat.reduceEqDiff, Nat.reduceBEq, ↓reduceIte, true_and, and_true, Bool.false_eq_true, true_implies, false_implies, not_true_eq_false, not_false_eq_true, nIc (show r < 2 ^ 31 by omega), ho56, ho60, vin hr6 (by decide), ho14, wd_si]
      refine v8_weightN (k := 3) (n := n) hv1 hr6 (by decide) ?_
      simp (decide := true) only [c8_foldMembers, run_s, nxt_e, ap_const, ap_lconst, ap_ild, ap_lld, ap_ald, ap_ist, ap_lst, ap_ast, ap_iinc, ap_iadd, ap_isub, ap_imul, ap_iand, ap_ior, ap_ixor, ap_ishl, ap_ishr, ap_iushr, ap_idiv, ap_irem, ap_ineg, ap_ladd, ap_lsub, ap_lmul, ap_ldiv, ap_lrem, ap_lneg, ap_lcmp, ap_i2l, ap_l2i, ap_i2b, ap_i2s, ap_dup_int, ap_pop_int, ap_dup_ref, ap_pop_ref, ap_dup2, ap_ceq, ap_cne, ap_clt, ap_cge, ap_cgt, ap_cle, ap_zeq, ap_zne, ap_zlt, ap_zge, ap_zgt, ap_zle, ap_goto, ap_tsw, ap_lsw, ap_getI, ap_getJ, ap_getR, ap_putI, ap_putZ, ap_putJ, ap_iald, ap_lald, ap_bald, ap_aald, ap_iast, ap_last, ap_bast, ap_alen, ap_gst, ap_iret, ap_zret, ap_lret, ap_vret, ap_aret, ap_lmax, ap_labs, ap_acopy, ap_invV0, ap_invS0, ap_invV1, ap_invS1, ap_invV2, ap_invS2, ap_invV3, ap_invS3, ap_invV4, ap_invS4, ap_invV5, ap_invS5, tcnT, ocT, lenIT, lenWT, lenLT, lenVT, lenZT, startfT, vpL, sa_1, sa_2, sL_1, sL_2, si_1, si_2, sj_1, sj_2, ldI_e, ldL_e, ldA_e, inC_e, lk, st1, st2, rm1, rm2, Value.category, ctn_some, ctn_none, wsum, lv_args, Int32.reduceAdd, Int32.reduceSub, Int32.reduceMul, Nat.reduceAdd, Nat.reduceLT, Nat.reduceLeDiff, Nat.reduceEqDiff, Nat.reduceBEq, ↓reduceIte, true_and, and_true, Bool.false_eq_true, true_implies, false_implies, not_true_eq_false, not_false_eq_true, nIc (show r < 2 ^ 31 by omega), ho56, ho60, vin hr6 (by decide), ho14, wd_si]
      obtain ⟨σ2, hσ2⟩ : ∃ σ2, σ2 = si (si (si (si σ1 14 0 (nI (wd σ1 r 0 (σ1.1 o r)))) 14 1 (nI (wd σ1 r 1 (σ1.1 o r)))) 14 2 (nI (wd σ1 r 2 (σ1.1 o r)))) 14 3 (nI (wd σ1 r 3 (σ1.1 o r))) := ⟨_, rfl⟩
      rw [← hσ2]
      have hsm2 : sm [13, 14] σ σ2 := by rw [hσ2]; exact (((hsm.si (by decide)).si (by decide)).si (by decide)).si (by decide)
      have hw1 : ∀ k, wd σ1 r k (σ1.1 o r) = wd σ r k (σ.1 o r) := fun k => by rw [wd_sm hsm (by decide) (by decide), (hsm o hol).1]
      have h14 : ∀ k, k < 4 → σ2.1 14 k = nI (wd σ r k (σ.1 o r)) := by
        intro k hk
        rw [hσ2, ← hw1 k]
        rcases (show k = 0 ∨ k = 1 ∨ k = 2 ∨ k = 3 by omega) with rfl | rfl | rfl | rfl <;> rfl
      have h13 : σ2.2 13 = σ1.2 13 := by rw [hσ2]; rfl
      have hp2 : PT σ2 := hp.sm hsm2 (by decide) (by decide)
      refine v0_sumAt (s := l1) (by omega) hp2 ?_
      simp (decide := true) only [c8_foldMembers, run_s, nxt_e, ap_const, ap_lconst, ap_ild, ap_lld, ap_ald, ap_ist, ap_lst, ap_ast, ap_iinc, ap_iadd, ap_isub, ap_imul, ap_iand, ap_ior, ap_ixor, ap_ishl, ap_ishr, ap_iushr, ap_idiv, ap_irem, ap_ineg, ap_ladd, ap_lsub, ap_lmul, ap_ldiv, ap_lrem, ap_lneg, ap_lcmp, ap_i2l, ap_l2i, ap_i2b, ap_i2s, ap_dup_int, ap_pop_int, ap_dup_ref, ap_pop_ref, ap_dup2, ap_ceq, ap_cne, ap_clt, ap_cge, ap_cgt, ap_cle, ap_zeq, ap_zne, ap_zlt, ap_zge, ap_zgt, ap_zle, ap_goto, ap_tsw, ap_lsw, ap_getI, ap_getJ, ap_getR, ap_putI, ap_putZ, ap_putJ, ap_iald, ap_lald, ap_bald, ap_aald, ap_iast, ap_last, ap_bast, ap_alen, ap_gst, ap_iret, ap_zret, ap_lret, ap_vret, ap_aret, ap_lmax, ap_labs, ap_acopy, ap_invV0, ap_invS0, ap_invV1, ap_invS1, ap_invV2, ap_invS2, ap_invV3, ap_invS3, ap_invV4, ap_invS4, ap_invV5, ap_invS5, tcnT, ocT, lenIT, lenWT, lenLT, lenVT, lenZT, startfT, vpL, sa_1, sa_2, sL_1, sL_2, si_1, si_2, sj_1, sj_2, ldI_e, ldL_e, ldA_e, inC_e, lk, st1, st2, rm1, rm2, Value.category, ctn_some, ctn_none, wsum, lv_args, Int32.reduceAdd, Int32.reduceSub, Int32.reduceMul, Nat.reduceAdd, Nat.reduceLT, Nat.reduceLeDiff, Nat.reduceEqDiff, Nat.reduceBEq, ↓reduceIte, true_and, and_true, Bool.false_eq_true, true_implies, false_implies, not_true_eq_false, not_false_eq_true, addm1]
      refine (ih (d + 1) (by omega) l1 _ ?_ ?_ (hsm2.sL (by decide)) ?_ ?_).sub [0, 2, 3, 4, 5, 6] rfl
      · rw [hTd]; simp only [if_true, List.length_cons]; omega
      · have := congrArg List.length hT0
        rw [hT1] at this
        simp at this
        omega
      · intro i hi
        have hm := sS_mono (show l1 + 1 ≤ s by omega)
        rw [sL_2, if_pos rfl, if_neg (by omega), h13]
        exact hup i hi
      · intro c hc hcs
        obtain ⟨-, q2, q3, q4⟩ := pl_spec hc (by omega)
        rw [hcs] at q3 q4
        rw [sL_2, if_pos rfl, if_pos ⟨q3, q4⟩, hTd]
        refine fS_F (w := fun m k => wd σ m k (σ.1 o m)) (fun k hk => ?_) h14 ?_ hc hcs (by omega)
        · have := hv.wd_le (d := σ.1 o r) hr6 hk
          show wd σ r k (σ.1 o r) < 2 ^ 31
          omega
        · intro c' hc' hcs'
          rw [h13]
          exact hval c' hc' (by omega)
theorem v8_foldMembers {σ : St} {K : Kr} {n S s o : Nat} (val : Nat → Int) (hv : MV σ n) (hp : PT σ) (ho : o = 29 ∨ o = 30) (hS : S < 64) (hs : s ≤ 6) (hl : (Tm S 0 n).length ≤ s) (hval : ∀ c, c < 2401 → sz c = s → σ.2 13 (pl c) = Int64.ofInt (val c))
    (h : ∀ σ', sm [13, 14] σ σ' → (∀ i, sS s ≤ i → σ'.2 13 i = σ.2 13 i) → (∀ c, c < 2401 → sz c + (Tm S 0 n).length = s → σ'.2 13 (pl c) = Int64.ofInt (F (fun m k => wd σ m k (σ.1 o m)) val (Tm S 0 n) c)) → K none σ') : VM M8_foldMembers [.ref 0, .int (nI S), .int (nI s), .ref o] σ K := by
  refine vm_run s8_foldMembers n8_foldMembers (fun pc => pc == 14) 1000 (fun E => Nat.le_of_ble_eq_true rfl) ?_
  simp (decide := true) only [c8_foldMembers, run_s, nxt_e, ap_const, ap_lconst, ap_ild, ap_lld, ap_ald, ap_ist, ap_lst, ap_ast, ap_iinc, ap_iadd, ap_isub, ap_imul, ap_iand, ap_ior, ap_ixor, ap_ishl, ap_ishr, ap_iushr, ap_idiv, ap_irem, ap_ineg, ap_ladd, ap_lsub, ap_lmul, ap_ldiv, ap_lrem, ap_lneg, ap_lcmp, ap_i2l, ap_l2i, ap_i2b, ap_i2s, ap_dup_int, ap_pop_int, ap_dup_ref, ap_pop_ref, ap_dup2, ap_ceq, ap_cne, ap_clt, ap_cge, ap_cgt, ap_cle, ap_zeq, ap_zne, ap_zlt, ap_zge, ap_zgt, ap_zle, ap_goto, ap_tsw, ap_lsw, ap_getI, ap_getJ, ap_getR, ap_putI, ap_putZ, ap_putJ, ap_iald, ap_lald, ap_bald, ap_aald, ap_iast, ap_last, ap_bast, ap_alen, ap_gst, ap_iret, ap_zret, ap_lret, ap_vret, ap_aret, ap_lmax, ap_labs, ap_acopy, ap_invV0, ap_invS0, ap_invV1, ap_invS1, ap_invV2, ap_invS2, ap_invV3, ap_invS3, ap_invV4, ap_invS4, ap_invV5, ap_invS5, tcnT, ocT, lenIT, lenWT, lenLT, lenVT, lenZT, startfT, vpL, sa_1, sa_2, sL_1, sL_2, si_1, si_2, sj_1, sj_2, ldI_e, ldL_e, ldA_e, inC_e, lk, st1, st2, rm1, rm2, Value.category, ctn_some, ctn_none, wsum, lv_args, Int32.reduceAdd, Int32.reduceSub, Int32.reduceMul, Nat.reduceAdd, Nat.reduceLT, Nat.reduceLeDiff, Nat.reduceEqDiff, Nat.reduceBEq, ↓reduceIte, true_and, and_true, Bool.false_eq_true, true_implies, false_implies, not_true_eq_false, not_false_eq_true, hv.2.1]
  exact (L8_foldMembers hv hp ho hS hs h n 0 rfl s σ rfl hl sm.rfl' (fun _ _ => rfl) hval).sub [0, 1, 2, 3, 4, 5] rfl
/-! worth of the pools of s dreams, then the fold -/
def wv (σ : St) (c : Nat) : Int := (σ.1 11 (pl c)).toInt - (σ.1 0 16).toInt * (dg c 3 : Int)
/-- the prices' table and the loss are small -/
def BV (σ : St) : Prop := (∀ i, i < 210 → ∃ b, b ≤ 54 ∧ σ.1 11 i = nI b) ∧ ∃ z, z ≤ 9 ∧ σ.1 0 16 = nI z
theorem BV.sm {σ σ' : St} {l : List Nat} (h : BV σ) (hs : sm l σ σ') (h0 : 0 ∉ l) (h5 : 11 ∉ l) : BV σ' := by
  unfold BV at h ⊢
  rw [(hs 0 h0).1, (hs 11 h5).1]
  exact h
theorem wv_sm {σ σ' : St} {l : List Nat} {c : Nat} (hs : sm l σ σ') (h0 : 0 ∉ l) (h5 : 11 ∉ l) : wv σ' c = wv σ c := by
  unfold wv
  rw [(hs 0 h0).1, (hs 11 h5).1]
theorem dg_lt (c k : Nat) : dg c k < 7 := Nat.mod_lt _ (by decide)
theorem worth_eq {σ : St} {c : Nat} (hb : BV σ) (hp : PT σ) (hc : c < 2401) (h6 : sz c ≤ 6) : ∃ v : Int32, σ.1 11 (pl c) - σ.1 0 16 * σ.1 16 (pl c) = v ∧ v.toInt = wv σ c ∧ v.toInt64 = Int64.ofInt (wv σ c) ∧ -54 ≤ wv σ c ∧ wv σ c ≤ 54 := by
  obtain ⟨h1, h2, -, -⟩ := pl_spec hc h6
  obtain ⟨b, hb1, hb2⟩ := hb.1 (pl c) h2
  obtain ⟨z, hz1, hz2⟩ := hb.2
  have hd := dg_lt c 3
  have hn := hp.1 (pl c) h2
  rw [h1] at hn
  refine ⟨_, rfl, ?_⟩
  have hw : wv σ c = (b : Int) - (z : Int) * (dg c 3 : Int) := by
    unfold wv
    rw [hb2, hz2, nI_toInt (by omega), nI_toInt (by omega)]
  have hzd : z * dg c 3 ≤ 54 := by
    have : z * dg c 3 ≤ 9 * 6 := Nat.mul_le_mul hz1 (by omega)
    omega
  have hv : (σ.1 11 (pl c) - σ.1 0 16 * σ.1 16 (pl c)).toInt = wv σ c := by
    rw [hn, hb2, hz2, pk_mul, pk_sub_toInt (by omega) (by omega), hw]
    push_cast
    rfl
  have hbnd : -54 ≤ wv σ c ∧ wv σ c ≤ 54 := by
    rw [hw]
    have : (z : Int) * (dg c 3 : Int) = ((z * dg c 3 : Nat) : Int) := by push_cast; rfl
    rw [this]
    omega
  refine ⟨hv, ?_, hbnd⟩
  rw [← hv]
  exact (Int64.ofInt_int32ToInt _).symm
