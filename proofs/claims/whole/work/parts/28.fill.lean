/-! ===== part 28: the kitchen's table ===== -/
def rfn (σ : St) (j : Nat) : Nat := (σ.1 8 j).toNatClampNeg
def rsn (σ : St) (j : Nat) : Nat := if σ.1 9 j = -1 then 4 else (σ.1 9 j).toNatClampNeg
def rpn (σ : St) (j : Nat) : Nat := (σ.1 10 j).toNatClampNeg
def KV (σ : St) (r : Nat) : Prop := r ≤ 6 ∧ σ.1 7 3 = nI r ∧ ∀ j, j < r → (∃ k, k < 4 ∧ σ.1 8 j = nI k) ∧ (σ.1 9 j = -1 ∨ ∃ k, k < 4 ∧ σ.1 9 j = nI k) ∧ ∃ p, 1 ≤ p ∧ p ≤ 9 ∧ σ.1 10 j = nI p
theorem KV.at {σ : St} {r j : Nat} (h : KV σ r) (hj : j < r) : (σ.1 8 j = nI (rfn σ j) ∧ rfn σ j < 4) ∧ ((rsn σ j = 4 ∧ σ.1 9 j = -1) ∨ (rsn σ j < 4 ∧ σ.1 9 j = nI (rsn σ j))) ∧ σ.1 10 j = nI (rpn σ j) ∧ 1 ≤ rpn σ j ∧ rpn σ j ≤ 9 := by
  obtain ⟨⟨k, k1, k2⟩, hs, ⟨p, p1, p2, p3⟩⟩ := h.2.2 j hj
  have e1 : rfn σ j = k := by unfold rfn; rw [k2]; exact nIc (by omega)
  have e3 : rpn σ j = p := by unfold rpn; rw [p3]; exact nIc (by omega)
  rw [e1, e3]
  refine ⟨⟨k2, k1⟩, ?_, p3, p1, p2⟩
  rcases hs with q | ⟨q, q1, q2⟩
  · exact Or.inl ⟨if_pos q, q⟩
  · have e2 : rsn σ j = q := by
      unfold rsn
      rw [if_neg (by rw [q2]; exact nIm1 q (by omega)), q2]
      exact nIc (by omega)
    rw [e2]
    exact Or.inr ⟨q1, q2⟩
theorem KV.rv {σ : St} {r : Nat} (h : KV σ r) : RV (rfn σ) (rsn σ) (rpn σ) r := by
  refine ⟨h.1, fun j hj => ?_⟩
  obtain ⟨h1, h2, h3, h4, h5⟩ := h.at hj
  refine ⟨h1.2, ?_, h4, h5⟩
  rcases h2 with q | q <;> omega
theorem KV.sm {σ σ' : St} {r : Nat} {l : List Nat} (h : KV σ r) (hs : sm l σ σ') (h7 : 7 ∉ l) (h8 : 8 ∉ l) (h9 : 9 ∉ l) (h10 : 10 ∉ l) : KV σ' r := by
  unfold KV at h ⊢
  rw [(hs 7 h7).1, (hs 8 h8).1, (hs 9 h9).1, (hs 10 h10).1]
  exact h
theorem rfn_sm {σ σ' : St} {l : List Nat} (hs : sm l σ σ') (h8 : 8 ∉ l) : rfn σ' = rfn σ := by funext j; unfold rfn; rw [(hs 8 h8).1]
theorem rsn_sm {σ σ' : St} {l : List Nat} (hs : sm l σ σ') (h9 : 9 ∉ l) : rsn σ' = rsn σ := by funext j; unfold rsn; rw [(hs 9 h9).1]
theorem rpn_sm {σ σ' : St} {l : List Nat} (hs : sm l σ σ') (h10 : 10 ∉ l) : rpn σ' = rpn σ := by funext j; unfold rpn; rw [(hs 10 h10).1]
def BS (σ : St) (r c : Nat) : Nat := BB (rfn σ) (rsn σ) (rpn σ) r c
/-- the place behind a recipe -/
def wrc (σ : St) (i j : Nat) : Option Nat := if rsn σ j = 4 then some (pl (up i + pw (rfn σ j))) else if sz (up i) < 5 then some (pl (up i + pw (rfn σ j) + pw (rsn σ j))) else none
theorem v4_with_no {i : Nat} {k : Int32} {σ : St} {K : Kr} (hi : 126 ≤ i) (hi2 : i < 2 ^ 31) (h : K (some (.int (-1))) σ) : VM M4_with [.ref 15, .int (nI i), .int k] σ K := by
  have h2 : ¬ nI i < 126 := nI_nlt hi hi2
  refine v4_with (fun _ q => absurd q h2) ?_
  rw [if_neg (fun q => h2 q.2)]
  exact h
theorem v2_withRecipe {σ : St} {K : Kr} {r i j : Nat} (hk : KV σ r) (hp : PT σ) (hi : i < 126) (hj : j < r) (h : K (some (.int (oI (wrc σ i j)))) σ) : VM M2_withRecipe [.ref 7, .int (nI i), .int (nI j)] σ K := by
  have hr := hk.1
  have hj6 : j < 6 := by omega
  obtain ⟨⟨h1, h2⟩, h3, -⟩ := hk.at hj
  obtain ⟨-, u2, -⟩ := up_spec (show i < 210 by omega)
  have hz := up_lt126 hi
  obtain ⟨i1, i2, -⟩ := inc_spec u2 hz h2
  obtain ⟨p1, p2, p3, p4⟩ := pl_spec i1 (by omega)
  unfold wrc at h
  refine vm_run s2_withRecipe n2_withRecipe (fun _ => false) 1000 (fun E => Nat.le_of_ble_eq_true rfl) ?_
  set_option maxRecDepth 100000 in simp (decide := true) only [c2_withRecipe, run_s, nxt_e, ap_const, ap_lconst, ap_ild, ap_lld, ap_ald, ap_ist, ap_lst, ap_ast, ap_iinc, ap_iadd, ap_isub, ap_imul, ap_iand, ap_ior, ap_ixor, ap_ishl, ap_ishr, ap_iushr, ap_idiv, ap_irem, ap_ineg, ap_ladd, ap_lsub, ap_lmul, ap_ldiv, ap_lrem, ap_lneg, ap_lcmp, ap_i2l, ap_l2i, ap_i2b, ap_i2s, ap_dup_int, ap_pop_int, ap_dup_ref, ap_pop_ref, ap_dup2, ap_goto, ap_tsw, ap_lsw, ap_getI, ap_getJ, ap_getR, ap_putI, ap_putZ, ap_putJ, ap_iald, ap_lald, ap_bald, ap_aald, ap_iast, ap_last, ap_bast, ap_alen, ap_gst, ap_iret, ap_zret, ap_lret, ap_vret, ap_aret, ap_lmax, ap_labs, ap_acopy, ap_invV0, ap_invS0, ap_invV1, ap_invS1, ap_invV2, ap_invS2, ap_invV3, ap_invS3, ap_invV4, ap_invS4, ap_invV5, ap_invS5, tcnT, ocT, lenIT, lenWT, lenLT, lenVT, lenZT, startfT, vpL, sa_1, sa_2, sL_1, sL_2, si_1, si_2, sj_1, sj_2, ldI_e, ldL_e, ldA_e, inC_e, lk, st1, st2, rm1, rm2, Value.category, ctn_some, ctn_none, wsum, lv_args, Int32.reduceAdd, Int32.reduceSub, Int32.reduceMul, Nat.reduceAdd, Nat.reduceLT, Nat.reduceLeDiff, Nat.reduceEqDiff, Nat.reduceBEq, ↓reduceIte, true_and, and_true, Bool.false_eq_true, true_implies, false_implies, not_true_eq_false, not_false_eq_true, Bool.or_true, Bool.or_false, Bool.true_or, Bool.false_or, bx_ceq, bx_clt, bx_cge, bx_cgt, bx_cle, bx_cne, bx_zeq, bx_zlt, bx_zge, bx_zgt, bx_zle, bx_zne, iteP, vin hj6 (by decide), nIc (show j < 2 ^ 31 by omega), h1]
  refine v4_withN hp hi h2 ?_
  rcases h3 with ⟨q1, q2⟩ | ⟨q1, q2⟩
  · rw [if_pos q1] at h
    set_option maxRecDepth 100000 in simp (decide := true) only [c2_withRecipe, run_s, nxt_e, ap_const, ap_lconst, ap_ild, ap_lld, ap_ald, ap_ist, ap_lst, ap_ast, ap_iinc, ap_iadd, ap_isub, ap_imul, ap_iand, ap_ior, ap_ixor, ap_ishl, ap_ishr, ap_iushr, ap_idiv, ap_irem, ap_ineg, ap_ladd, ap_lsub, ap_lmul, ap_ldiv, ap_lrem, ap_lneg, ap_lcmp, ap_i2l, ap_l2i, ap_i2b, ap_i2s, ap_dup_int, ap_pop_int, ap_dup_ref, ap_pop_ref, ap_dup2, ap_goto, ap_tsw, ap_lsw, ap_getI, ap_getJ, ap_getR, ap_putI, ap_putZ, ap_putJ, ap_iald, ap_lald, ap_bald, ap_aald, ap_iast, ap_last, ap_bast, ap_alen, ap_gst, ap_iret, ap_zret, ap_lret, ap_vret, ap_aret, ap_lmax, ap_labs, ap_acopy, ap_invV0, ap_invS0, ap_invV1, ap_invS1, ap_invV2, ap_invS2, ap_invV3, ap_invS3, ap_invV4, ap_invS4, ap_invV5, ap_invS5, tcnT, ocT, lenIT, lenWT, lenLT, lenVT, lenZT, startfT, vpL, sa_1, sa_2, sL_1, sL_2, si_1, si_2, sj_1, sj_2, ldI_e, ldL_e, ldA_e, inC_e, lk, st1, st2, rm1, rm2, Value.category, ctn_some, ctn_none, wsum, lv_args, Int32.reduceAdd, Int32.reduceSub, Int32.reduceMul, Nat.reduceAdd, Nat.reduceLT, Nat.reduceLeDiff, Nat.reduceEqDiff, Nat.reduceBEq, ↓reduceIte, true_and, and_true, Bool.false_eq_true, true_implies, false_implies, not_true_eq_false, not_false_eq_true, Bool.or_true, Bool.or_false, Bool.true_or, Bool.false_or, bx_ceq, bx_clt, bx_cge, bx_cgt, bx_cle, bx_cne, bx_zeq, bx_zlt, bx_zge, bx_zgt, bx_zle, bx_zne, iteP, vin hj6 (by decide), nIc (show j < 2 ^ 31 by omega), q2]
    exact h
  · rw [if_neg (by omega)] at h
    set_option maxRecDepth 100000 in simp (decide := true) only [c2_withRecipe, run_s, nxt_e, ap_const, ap_lconst, ap_ild, ap_lld, ap_ald, ap_ist, ap_lst, ap_ast, ap_iinc, ap_iadd, ap_isub, ap_imul, ap_iand, ap_ior, ap_ixor, ap_ishl, ap_ishr, ap_iushr, ap_idiv, ap_irem, ap_ineg, ap_ladd, ap_lsub, ap_lmul, ap_ldiv, ap_lrem, ap_lneg, ap_lcmp, ap_i2l, ap_l2i, ap_i2b, ap_i2s, ap_dup_int, ap_pop_int, ap_dup_ref, ap_pop_ref, ap_dup2, ap_goto, ap_tsw, ap_lsw, ap_getI, ap_getJ, ap_getR, ap_putI, ap_putZ, ap_putJ, ap_iald, ap_lald, ap_bald, ap_aald, ap_iast, ap_last, ap_bast, ap_alen, ap_gst, ap_iret, ap_zret, ap_lret, ap_vret, ap_aret, ap_lmax, ap_labs, ap_acopy, ap_invV0, ap_invS0, ap_invV1, ap_invS1, ap_invV2, ap_invS2, ap_invV3, ap_invS3, ap_invV4, ap_invS4, ap_invV5, ap_invS5, tcnT, ocT, lenIT, lenWT, lenLT, lenVT, lenZT, startfT, vpL, sa_1, sa_2, sL_1, sL_2, si_1, si_2, sj_1, sj_2, ldI_e, ldL_e, ldA_e, inC_e, lk, st1, st2, rm1, rm2, Value.category, ctn_some, ctn_none, wsum, lv_args, Int32.reduceAdd, Int32.reduceSub, Int32.reduceMul, Nat.reduceAdd, Nat.reduceLT, Nat.reduceLeDiff, Nat.reduceEqDiff, Nat.reduceBEq, ↓reduceIte, true_and, and_true, Bool.false_eq_true, true_implies, false_implies, not_true_eq_false, not_false_eq_true, Bool.or_true, Bool.or_false, Bool.true_or, Bool.false_or, bx_ceq, bx_clt, bx_cge, bx_cgt, bx_cle, bx_cne, bx_zeq, bx_zlt, bx_zge, bx_zgt, bx_zle, bx_zne, iteP, vin hj6 (by decide), nIc (show j < 2 ^ 31 by omega), q2, nIm1 (rsn σ j) (by omega)]
    by_cases h5 : sz (up i) < 5
    · rw [if_pos h5] at h
      have hp126 : pl (up i + pw (rfn σ j)) < 126 := by
        have := sS_mono (show sz (up i + pw (rfn σ j)) + 1 ≤ 6 by omega)
        have e6 : sS 6 = 126 := rfl
        omega
      refine v4_withN hp hp126 q1 ?_
      rw [p1]
      set_option maxRecDepth 100000 in simp (decide := true) only [c2_withRecipe, run_s, nxt_e, ap_const, ap_lconst, ap_ild, ap_lld, ap_ald, ap_ist, ap_lst, ap_ast, ap_iinc, ap_iadd, ap_isub, ap_imul, ap_iand, ap_ior, ap_ixor, ap_ishl, ap_ishr, ap_iushr, ap_idiv, ap_irem, ap_ineg, ap_ladd, ap_lsub, ap_lmul, ap_ldiv, ap_lrem, ap_lneg, ap_lcmp, ap_i2l, ap_l2i, ap_i2b, ap_i2s, ap_dup_int, ap_pop_int, ap_dup_ref, ap_pop_ref, ap_dup2, ap_goto, ap_tsw, ap_lsw, ap_getI, ap_getJ, ap_getR, ap_putI, ap_putZ, ap_putJ, ap_iald, ap_lald, ap_bald, ap_aald, ap_iast, ap_last, ap_bast, ap_alen, ap_gst, ap_iret, ap_zret, ap_lret, ap_vret, ap_aret, ap_lmax, ap_labs, ap_acopy, ap_invV0, ap_invS0, ap_invV1, ap_invS1, ap_invV2, ap_invS2, ap_invV3, ap_invS3, ap_invV4, ap_invS4, ap_invV5, ap_invS5, tcnT, ocT, lenIT, lenWT, lenLT, lenVT, lenZT, startfT, vpL, sa_1, sa_2, sL_1, sL_2, si_1, si_2, sj_1, sj_2, ldI_e, ldL_e, ldA_e, inC_e, lk, st1, st2, rm1, rm2, Value.category, ctn_some, ctn_none, wsum, lv_args, Int32.reduceAdd, Int32.reduceSub, Int32.reduceMul, Nat.reduceAdd, Nat.reduceLT, Nat.reduceLeDiff, Nat.reduceEqDiff, Nat.reduceBEq, ↓reduceIte, true_and, and_true, Bool.false_eq_true, true_implies, false_implies, not_true_eq_false, not_false_eq_true, Bool.or_true, Bool.or_false, Bool.true_or, Bool.false_or, bx_ceq, bx_clt, bx_cge, bx_cgt, bx_cle, bx_cne, bx_zeq, bx_zlt, bx_zge, bx_zgt, bx_zle, bx_zne, iteP]
      exact h
    · rw [if_neg h5] at h
      have hp126 : 126 ≤ pl (up i + pw (rfn σ j)) := by
        have := sS_mono (show 6 ≤ sz (up i + pw (rfn σ j)) by omega)
        have e6 : sS 6 = 126 := rfl
        omega
      refine v4_with_no hp126 (by omega) ?_
      set_option maxRecDepth 100000 in simp (decide := true) only [c2_withRecipe, run_s, nxt_e, ap_const, ap_lconst, ap_ild, ap_lld, ap_ald, ap_ist, ap_lst, ap_ast, ap_iinc, ap_iadd, ap_isub, ap_imul, ap_iand, ap_ior, ap_ixor, ap_ishl, ap_ishr, ap_iushr, ap_idiv, ap_irem, ap_ineg, ap_ladd, ap_lsub, ap_lmul, ap_ldiv, ap_lrem, ap_lneg, ap_lcmp, ap_i2l, ap_l2i, ap_i2b, ap_i2s, ap_dup_int, ap_pop_int, ap_dup_ref, ap_pop_ref, ap_dup2, ap_goto, ap_tsw, ap_lsw, ap_getI, ap_getJ, ap_getR, ap_putI, ap_putZ, ap_putJ, ap_iald, ap_lald, ap_bald, ap_aald, ap_iast, ap_last, ap_bast, ap_alen, ap_gst, ap_iret, ap_zret, ap_lret, ap_vret, ap_aret, ap_lmax, ap_labs, ap_acopy, ap_invV0, ap_invS0, ap_invV1, ap_invS1, ap_invV2, ap_invS2, ap_invV3, ap_invS3, ap_invV4, ap_invS4, ap_invV5, ap_invS5, tcnT, ocT, lenIT, lenWT, lenLT, lenVT, lenZT, startfT, vpL, sa_1, sa_2, sL_1, sL_2, si_1, si_2, sj_1, sj_2, ldI_e, ldL_e, ldA_e, inC_e, lk, st1, st2, rm1, rm2, Value.category, ctn_some, ctn_none, wsum, lv_args, Int32.reduceAdd, Int32.reduceSub, Int32.reduceMul, Nat.reduceAdd, Nat.reduceLT, Nat.reduceLeDiff, Nat.reduceEqDiff, Nat.reduceBEq, ↓reduceIte, true_and, and_true, Bool.false_eq_true, true_implies, false_implies, not_true_eq_false, not_false_eq_true, Bool.or_true, Bool.or_false, Bool.true_or, Bool.false_or, bx_ceq, bx_clt, bx_cge, bx_cgt, bx_cle, bx_cne, bx_zeq, bx_zlt, bx_zge, bx_zgt, bx_zle, bx_zne, iteP]
      exact h
theorem v2_raise {σ : St} {K : Kr} {o : Option Nat} {v a : Nat} (hv : v < 2 ^ 31) (ha : ∀ q, o = some q → q < 210 ∧ ∃ b, b < 2 ^ 31 ∧ σ.1 11 q = nI b) (h0 : (∀ q, o = some q → ∀ b, b < 2 ^ 31 → σ.1 11 q = nI b → v ≤ b) → K none σ) (h1 : ∀ q, o = some q → (∀ b, b < 2 ^ 31 → σ.1 11 q = nI b → b < v) → K none (si σ 11 q (nI v))) : VM M2_raise [.ref 7, .int (oI o), .int (nI v)] σ K := by
  refine vm_run s2_raise n2_raise (fun _ => false) 1000 (fun E => Nat.le_of_ble_eq_true rfl) ?_
  cases o with
  | none =>
    set_option maxRecDepth 100000 in simp (decide := true) only [c2_raise, run_s, nxt_e, ap_const, ap_lconst, ap_ild, ap_lld, ap_ald, ap_ist, ap_lst, ap_ast, ap_iinc, ap_iadd, ap_isub, ap_imul, ap_iand, ap_ior, ap_ixor, ap_ishl, ap_ishr, ap_iushr, ap_idiv, ap_irem, ap_ineg, ap_ladd, ap_lsub, ap_lmul, ap_ldiv, ap_lrem, ap_lneg, ap_lcmp, ap_i2l, ap_l2i, ap_i2b, ap_i2s, ap_dup_int, ap_pop_int, ap_dup_ref, ap_pop_ref, ap_dup2, ap_goto, ap_tsw, ap_lsw, ap_getI, ap_getJ, ap_getR, ap_putI, ap_putZ, ap_putJ, ap_iald, ap_lald, ap_bald, ap_aald, ap_iast, ap_last, ap_bast, ap_alen, ap_gst, ap_iret, ap_zret, ap_lret, ap_vret, ap_aret, ap_lmax, ap_labs, ap_acopy, ap_invV0, ap_invS0, ap_invV1, ap_invS1, ap_invV2, ap_invS2, ap_invV3, ap_invS3, ap_invV4, ap_invS4, ap_invV5, ap_invS5, tcnT, ocT, lenIT, lenWT, lenLT, lenVT, lenZT, startfT, vpL, sa_1, sa_2, sL_1, sL_2, si_1, si_2, sj_1, sj_2, ldI_e, ldL_e, ldA_e, inC_e, lk, st1, st2, rm1, rm2, Value.category, ctn_some, ctn_none, wsum, lv_args, Int32.reduceAdd, Int32.reduceSub, Int32.reduceMul, Nat.reduceAdd, Nat.reduceLT, Nat.reduceLeDiff, Nat.reduceEqDiff, Nat.reduceBEq, ↓reduceIte, true_and, and_true, Bool.false_eq_true, true_implies, false_implies, not_true_eq_false, not_false_eq_true, Bool.or_true, Bool.or_false, Bool.true_or, Bool.false_or, bx_ceq, bx_clt, bx_cge, bx_cgt, bx_cle, bx_cne, bx_zeq, bx_zlt, bx_zge, bx_zgt, bx_zle, bx_zne, iteP, oI]
    exact h0 (fun q hq => by cases hq)
  | some q =>
    obtain ⟨q1, b, b1, b2⟩ := ha q rfl
    have hne : ¬ nI q = -1 := fun e => by
      have := congrArg Int32.toInt e
      rw [nI_toInt (by omega)] at this
      have e2 : (-1 : Int32).toInt = -1 := rfl
      omega
    have hu : ∀ b', b' < 2 ^ 31 → σ.1 11 q = nI b' → b' = b := fun b' h1 h2 => (nI_eq h1 b1).mp (h2.symm.trans b2)
    set_option maxRecDepth 100000 in simp (decide := true) only [c2_raise, run_s, nxt_e, ap_const, ap_lconst, ap_ild, ap_lld, ap_ald, ap_ist, ap_lst, ap_ast, ap_iinc, ap_iadd, ap_isub, ap_imul, ap_iand, ap_ior, ap_ixor, ap_ishl, ap_ishr, ap_iushr, ap_idiv, ap_irem, ap_ineg, ap_ladd, ap_lsub, ap_lmul, ap_ldiv, ap_lrem, ap_lneg, ap_lcmp, ap_i2l, ap_l2i, ap_i2b, ap_i2s, ap_dup_int, ap_pop_int, ap_dup_ref, ap_pop_ref, ap_dup2, ap_goto, ap_tsw, ap_lsw, ap_getI, ap_getJ, ap_getR, ap_putI, ap_putZ, ap_putJ, ap_iald, ap_lald, ap_bald, ap_aald, ap_iast, ap_last, ap_bast, ap_alen, ap_gst, ap_iret, ap_zret, ap_lret, ap_vret, ap_aret, ap_lmax, ap_labs, ap_acopy, ap_invV0, ap_invS0, ap_invV1, ap_invS1, ap_invV2, ap_invS2, ap_invV3, ap_invS3, ap_invV4, ap_invS4, ap_invV5, ap_invS5, tcnT, ocT, lenIT, lenWT, lenLT, lenVT, lenZT, startfT, vpL, sa_1, sa_2, sL_1, sL_2, si_1, si_2, sj_1, sj_2, ldI_e, ldL_e, ldA_e, inC_e, lk, st1, st2, rm1, rm2, Value.category, ctn_some, ctn_none, wsum, lv_args, Int32.reduceAdd, Int32.reduceSub, Int32.reduceMul, Nat.reduceAdd, Nat.reduceLT, Nat.reduceLeDiff, Nat.reduceEqDiff, Nat.reduceBEq, ↓reduceIte, true_and, and_true, Bool.false_eq_true, true_implies, false_implies, not_true_eq_false, not_false_eq_true, Bool.or_true, Bool.or_false, Bool.true_or, Bool.false_or, bx_ceq, bx_clt, bx_cge, bx_cgt, bx_cle, bx_cne, bx_zeq, bx_zlt, bx_zge, bx_zgt, bx_zle, bx_zne, iteP, oI, hne, vin q1 (by decide), nIc (show q < 2 ^ 31 by omega), b2, nI_leI hv b1]
    refine ⟨fun g => h0 (fun q' hq' b' hb' he => ?_), fun g => h1 q rfl (fun b' hb' he => ?_)⟩
    · cases hq'
      rw [hu b' hb' he]
      exact g
    · rw [hu b' hb' he]
      omega
/-! relaxing -/
def mxc (rf rs rp : Nat → Nat) (g : Nat → Nat) (P : Nat → Nat → Bool) (c : Nat) : Nat → Nat
  | 0 => 0
  | j + 1 => max (mxc rf rs rp g P c j) (match lvr (rf j) (rs j) c with | some x => if P j x then rp j + g x else 0 | none => 0)
theorem mxc_le {rf rs rp : Nat → Nat} {g : Nat → Nat} {P : Nat → Nat → Bool} {c : Nat} : ∀ n, mxc rf rs rp g P c n ≤ mxo rf rs rp g c n := by
  intro n
  induction n with
  | zero => exact Nat.le_refl _
  | succ n ih =>
    simp only [mxc, mxo]
    refine Nat.max_le.mpr ⟨Nat.le_trans ih (Nat.le_max_left _ _), Nat.le_trans ?_ (Nat.le_max_right _ _)⟩
    cases lvr (rf n) (rs n) c with
    | none => exact Nat.le_refl _
    | some x => show (if P n x then rp n + g x else 0) ≤ rp n + g x; split <;> omega
theorem mxc_same {rf rs rp : Nat → Nat} {g : Nat → Nat} {P P' : Nat → Nat → Bool} {c : Nat} : ∀ n, (∀ j x, j < n → lvr (rf j) (rs j) c = some x → P j x = P' j x) → mxc rf rs rp g P c n = mxc rf rs rp g P' c n := by
  intro n
  induction n with
  | zero => intro _; rfl
  | succ n ih =>
    intro h
    simp only [mxc]
    rw [ih (fun j x hj hx => h j x (by omega) hx)]
    cases hl : lvr (rf n) (rs n) c with
    | none => rfl
    | some x => simp only [h n x (by omega) hl]
theorem mxc_all {rf rs rp : Nat → Nat} {g : Nat → Nat} {P : Nat → Nat → Bool} {c : Nat} : ∀ n, (∀ j x, j < n → lvr (rf j) (rs j) c = some x → P j x = true) → mxc rf rs rp g P c n = mxo rf rs rp g c n := by
  intro n
  induction n with
  | zero => intro _; rfl
  | succ n ih =>
    intro h
    simp only [mxc, mxo]
    rw [ih (fun j x hj hx => h j x (by omega) hx)]
    cases hl : lvr (rf n) (rs n) c with
    | none => rfl
    | some x => simp only [h n x (by omega) hl, if_true]
theorem mxc_none {rf rs rp : Nat → Nat} {g : Nat → Nat} {P : Nat → Nat → Bool} {c : Nat} : ∀ n, (∀ j x, j < n → lvr (rf j) (rs j) c = some x → P j x = false) → mxc rf rs rp g P c n = 0 := by
  intro n
  induction n with
  | zero => intro _; rfl
  | succ n ih =>
    intro h
    simp only [mxc]
    rw [ih (fun j x hj hx => h j x (by omega) hx)]
    cases hl : lvr (rf n) (rs n) c with
    | none => rfl
    | some x => simp [h n x (by omega) hl]
theorem mxc_add {rf rs rp : Nat → Nat} {g : Nat → Nat} {P P' : Nat → Nat → Bool} {c jj x0 : Nat} (hx : lvr (rf jj) (rs jj) c = some x0) (h1 : P jj x0 = false) (h2 : P' jj x0 = true) : ∀ n, jj < n → (∀ j x, j < n → j ≠ jj → lvr (rf j) (rs j) c = some x → P j x = P' j x) → mxc rf rs rp g P' c n = max (mxc rf rs rp g P c n) (rp jj + g x0) := by
  intro n
  induction n with
  | zero => intro h; omega
  | succ n ih =>
    intro hj h
    simp only [mxc]
    by_cases e : n = jj
    · subst e
      rw [hx]
      simp only [h1, h2, if_true, Bool.false_eq_true, if_false]
      rw [← mxc_same (P := P) (P' := P') n (fun j x hj' hl => h j x (by omega) (by omega) hl)]
      omega
    · rw [ih (by omega) (fun j x hj' hne hl => h j x (by omega) hne hl)]
      cases hl : lvr (rf n) (rs n) c with
      | none => simp only; omega
      | some x =>
        simp only [h n x (by omega) e hl]
        omega
def PP (i jj : Nat) (j x : Nat) : Bool := decide (pl x < i ∨ (pl x = i ∧ j < jj))
/-- the table in the midst of the work -/
def TT (σ σ1 : St) (r i jj : Nat) : Prop := ∀ c, c < 2401 → sz c ≤ 6 → σ1.1 11 (pl c) = nI (mxc (rfn σ) (rsn σ) (rpn σ) (BS σ r) (PP i jj) c r)
theorem pl_mono {x c : Nat} (hx : x < 2401) (hc : c < 2401) (h6 : sz c ≤ 6) (h : sz x < sz c) : pl x < pl c := by
  obtain ⟨-, -, -, a⟩ := pl_spec hx (by omega)
  obtain ⟨-, -, b, -⟩ := pl_spec hc h6
  have := sS_mono (show sz x + 1 ≤ sz c by omega)
  omega
theorem TT_at {σ σ1 : St} {r i jj : Nat} (hk : KV σ r) (hT : TT σ σ1 r i jj) (hi : i < 126) : σ1.1 11 i = nI (BS σ r (up i)) ∧ BS σ r (up i) ≤ 54 := by
  obtain ⟨u1, u2, u3, -⟩ := up_spec (show i < 210 by omega)
  have h := hT (up i) u2 u3
  rw [u1] at h
  have hb := BB_le hk.rv 6 (up i) u2 u3
  refine ⟨?_, by unfold BS; omega⟩
  rw [h, mxc_all r (fun j x hj hl => ?_)]
  · unfold BS
    rw [BB_eq hk.rv u2]
  · have := hk.rv.2 j hj
    obtain ⟨a, b, -⟩ := lvr_spec u2 this.1 this.2.1 hl
    have := pl_mono a u2 u3 b
    rw [u1] at this
    exact decide_eq_true (Or.inl this)
theorem mxc_54 {σ : St} {r i jj c : Nat} (hk : KV σ r) (hc : c < 2401) (h6 : sz c ≤ 6) : mxc (rfn σ) (rsn σ) (rpn σ) (BS σ r) (PP i jj) c r ≤ 54 := by
  have h1 := mxc_le (rf := rfn σ) (rs := rsn σ) (rp := rpn σ) (g := BS σ r) (P := PP i jj) (c := c) r
  have h2 := BB_le hk.rv 6 c hc h6
  rw [BB_eq hk.rv hc] at h2
  have : mxo (rfn σ) (rsn σ) (rpn σ) (BB (rfn σ) (rsn σ) (rpn σ) r) c r = mxo (rfn σ) (rsn σ) (rpn σ) (BS σ r) c r := rfl
  omega
