/-! reading, writing, counting -/
def ipay (x : Int32) : Bool := decide (0 ≤ x ∧ x ≤ 99)
/-- how many pays are read, from i on -/
def rdk (it : Nat → Int32) (z : Nat) : Nat → Nat → Nat
  | 0, i => i
  | d + 1, i => if i < z ∧ ipay (it i) = true then rdk it z d (i + 1) else i
theorem rdk_ge {it : Nat → Int32} {z : Nat} : ∀ d i, i ≤ rdk it z d i ∧ rdk it z d i ≤ i + d := by
  intro d
  induction d with
  | zero => intro i; exact ⟨Nat.le_refl _, Nat.le_refl _⟩
  | succ d ih =>
    intro i
    unfold rdk
    split
    · have := ih (i + 1); omega
    · omega
def rdp (it p : Nat → Int32) (k : Nat) : Nat → Int32 := fun j => if j < k then it j else p j
theorem rdp_step (it p : Nat → Int32) (i : Nat) : upd (rdp it p i) i (it i) = rdp it p (i + 1) := by
  funext j
  unfold upd rdp
  by_cases e : j = i
  · subst e; rw [if_pos rfl, if_pos (by omega)]
  · rw [if_neg e]
    by_cases q : j < i
    · rw [if_pos q, if_pos (by omega)]
    · rw [if_neg q, if_neg (by omega)]
theorem L8_read {σ : St} {K : Kr} {s z : Nat} {a : Int32} (hs : s < 4) (hz : σ.1 (21 + s) 2 = nI z) (hz2 : z ≤ 48) :
    ∀ (d i : Nat), i + d = 6 → K (some (.int (nI (rdk (σ.1 (25 + s)) z d i)))) (sa σ 31 (rdp (σ.1 (25 + s)) (σ.1 31) (rdk (σ.1 (25 + s)) z d i))) → VW M8_read Xt K 32 [(3, .int (nI i)), (2, .ref (21 + s)), (0, .ref 0), (1, .int a)] [] (sa σ 31 (rdp (σ.1 (25 + s)) (σ.1 31) i)) := by
  intro d
  induction d with
  | zero =>
    intro i hi h
    have : i = 6 := by omega
    subst this
    refine run_sound s8_read (fun pc => false) _ 1000 _ _ _ _ ?_
    set_option maxRecDepth 100000 in simp (decide := true) only [c8_read, run_s, nxt_e, ap_const, ap_lconst, ap_ild, ap_lld, ap_ald, ap_ist, ap_lst, ap_ast, ap_iinc, ap_iadd, ap_isub, ap_imul, ap_iand, ap_ior, ap_ixor, ap_ishl, ap_ishr, ap_iushr, ap_idiv, ap_irem, ap_ineg, ap_ladd, ap_lsub, ap_lmul, ap_ldiv, ap_lrem, ap_lneg, ap_lcmp, ap_i2l, ap_l2i, ap_i2b, ap_i2s, ap_dup_int, ap_pop_int, ap_dup_ref, ap_pop_ref, ap_dup2, ap_goto, ap_tsw, ap_lsw, ap_getI, ap_getJ, ap_getR, ap_putI, ap_putZ, ap_putJ, ap_iald, ap_lald, ap_bald, ap_aald, ap_iast, ap_last, ap_bast, ap_alen, ap_gst, ap_iret, ap_zret, ap_lret, ap_vret, ap_aret, ap_lmax, ap_labs, ap_acopy, ap_invV0, ap_invS0, ap_invV1, ap_invS1, ap_invV2, ap_invS2, ap_invV3, ap_invS3, ap_invV4, ap_invS4, ap_invV5, ap_invS5, tcnT, ocT, lenIT, lenWT, lenLT, lenVT, lenZT, startfT, vpL, sa_1, sa_2, sL_1, sL_2, si_1, si_2, sj_1, sj_2, ldI_e, ldL_e, ldA_e, inC_e, lk, st1, st2, rm1, rm2, Value.category, ctn_some, ctn_none, wsum, lv_args, Int32.reduceAdd, Int32.reduceSub, Int32.reduceMul, Nat.reduceAdd, Nat.reduceLT, Nat.reduceLeDiff, Nat.reduceEqDiff, Nat.reduceBEq, ↓reduceIte, true_and, and_true, Bool.false_eq_true, true_implies, false_implies, not_true_eq_false, not_false_eq_true, Bool.or_true, Bool.or_false, Bool.true_or, Bool.false_or, bx_ceq, bx_clt, bx_cge, bx_cgt, bx_cle, bx_cne, bx_zeq, bx_zlt, bx_zge, bx_zgt, bx_zle, bx_zne, iteP, eq_true (show (6 : Int32) ≤ nI 6 by decide)]
    exact h
  | succ d ih =>
    intro i hi h
    have e4 : 21 + s + 4 = 25 + s := by omega
    have w2 := lI6 hs
    have w3 := n60 hs
    rw [e4] at w2 w3
    have q1 : (21 + s = 31) = False := eq_false (by omega)
    have q2 : (25 + s = 31) = False := eq_false (by omega)
    have q3 : (21 + s = 27) = False := eq_false (by omega)
    refine run_sound s8_read (fun pc => pc == 32) _ 1000 _ _ _ _ ?_
    unfold rdk at h
    by_cases iz : i < z
    · set_option maxRecDepth 100000 in simp (decide := true) only [c8_read, run_s, nxt_e, ap_const, ap_lconst, ap_ild, ap_lld, ap_ald, ap_ist, ap_lst, ap_ast, ap_iinc, ap_iadd, ap_isub, ap_imul, ap_iand, ap_ior, ap_ixor, ap_ishl, ap_ishr, ap_iushr, ap_idiv, ap_irem, ap_ineg, ap_ladd, ap_lsub, ap_lmul, ap_ldiv, ap_lrem, ap_lneg, ap_lcmp, ap_i2l, ap_l2i, ap_i2b, ap_i2s, ap_dup_int, ap_pop_int, ap_dup_ref, ap_pop_ref, ap_dup2, ap_goto, ap_tsw, ap_lsw, ap_getI, ap_getJ, ap_getR, ap_putI, ap_putZ, ap_putJ, ap_iald, ap_lald, ap_bald, ap_aald, ap_iast, ap_last, ap_bast, ap_alen, ap_gst, ap_iret, ap_zret, ap_lret, ap_vret, ap_aret, ap_lmax, ap_labs, ap_acopy, ap_invV0, ap_invS0, ap_invV1, ap_invS1, ap_invV2, ap_invS2, ap_invV3, ap_invS3, ap_invV4, ap_invS4, ap_invV5, ap_invS5, tcnT, ocT, lenIT, lenWT, lenLT, lenVT, lenZT, startfT, vpL, sa_1, sa_2, sL_1, sL_2, si_1, si_2, sj_1, sj_2, ldI_e, ldL_e, ldA_e, inC_e, lk, st1, st2, rm1, rm2, Value.category, ctn_some, ctn_none, wsum, lv_args, Int32.reduceAdd, Int32.reduceSub, Int32.reduceMul, Nat.reduceAdd, Nat.reduceLT, Nat.reduceLeDiff, Nat.reduceEqDiff, Nat.reduceBEq, ↓reduceIte, true_and, and_true, Bool.false_eq_true, true_implies, false_implies, not_true_eq_false, not_false_eq_true, Bool.or_true, Bool.or_false, Bool.true_or, Bool.false_or, bx_ceq, bx_clt, bx_cge, bx_cgt, bx_cle, bx_cne, bx_zeq, bx_zlt, bx_zge, bx_zgt, bx_zle, bx_zne, iteP, eq_false (show ¬ 6 ≤ nI i from nI_ge (b := 6) (show i < 6 by omega) (by decide)), oc6 hs, q1, q2, q3, hz, eq_false (nI_ge iz (by omega)), e4, w2, w3, vin (show i < 48 by omega) (by decide), nIc (show i < 2 ^ 31 by omega)]
      refine v8_isPay ?_
      by_cases ip : ipay (σ.1 (25 + s) i) = true
      · rw [if_pos ⟨iz, ip⟩] at h
        simp only [ipay, decide_eq_true_eq] at ip
        rw [bI_t ip]
        set_option maxRecDepth 100000 in simp (decide := true) only [c8_read, run_s, nxt_e, ap_const, ap_lconst, ap_ild, ap_lld, ap_ald, ap_ist, ap_lst, ap_ast, ap_iinc, ap_iadd, ap_isub, ap_imul, ap_iand, ap_ior, ap_ixor, ap_ishl, ap_ishr, ap_iushr, ap_idiv, ap_irem, ap_ineg, ap_ladd, ap_lsub, ap_lmul, ap_ldiv, ap_lrem, ap_lneg, ap_lcmp, ap_i2l, ap_l2i, ap_i2b, ap_i2s, ap_dup_int, ap_pop_int, ap_dup_ref, ap_pop_ref, ap_dup2, ap_goto, ap_tsw, ap_lsw, ap_getI, ap_getJ, ap_getR, ap_putI, ap_putZ, ap_putJ, ap_iald, ap_lald, ap_bald, ap_aald, ap_iast, ap_last, ap_bast, ap_alen, ap_gst, ap_iret, ap_zret, ap_lret, ap_vret, ap_aret, ap_lmax, ap_labs, ap_acopy, ap_invV0, ap_invS0, ap_invV1, ap_invS1, ap_invV2, ap_invS2, ap_invV3, ap_invS3, ap_invV4, ap_invS4, ap_invV5, ap_invS5, tcnT, ocT, lenIT, lenWT, lenLT, lenVT, lenZT, startfT, vpL, sa_1, sa_2, sL_1, sL_2, si_1, si_2, sj_1, sj_2, ldI_e, ldL_e, ldA_e, inC_e, lk, st1, st2, rm1, rm2, Value.category, ctn_some, ctn_none, wsum, lv_args, Int32.reduceAdd, Int32.reduceSub, Int32.reduceMul, Nat.reduceAdd, Nat.reduceLT, Nat.reduceLeDiff, Nat.reduceEqDiff, Nat.reduceBEq, ↓reduceIte, true_and, and_true, Bool.false_eq_true, true_implies, false_implies, not_true_eq_false, not_false_eq_true, Bool.or_true, Bool.or_false, Bool.true_or, Bool.false_or, bx_ceq, bx_clt, bx_cge, bx_cgt, bx_cle, bx_cne, bx_zeq, bx_zlt, bx_zge, bx_zgt, bx_zle, bx_zne, iteP, oc6 hs, q1, q2, q3, e4, w2, w3, vin (show i < 48 by omega) (by decide), vin (show i < 6 by omega) (by decide), nIc (show i < 2 ^ 31 by omega), nI_1]
        have h2 := ih (i + 1) (by omega) h
        have e : si (sa σ 31 (rdp (σ.1 (25 + s)) (σ.1 31) i)) 31 i (σ.1 (25 + s) i) = sa σ 31 (rdp (σ.1 (25 + s)) (σ.1 31) (i + 1)) := by
          rw [← rdp_step]
          exact sa_sa
        rw [e]
        exact h2.sub [0, 1, 2, 3] rfl
      · rw [if_neg (fun z => ip z.2)] at h
        simp only [ipay, decide_eq_true_eq] at ip
        rw [bI_f ip]
        set_option maxRecDepth 100000 in simp (decide := true) only [c8_read, run_s, nxt_e, ap_const, ap_lconst, ap_ild, ap_lld, ap_ald, ap_ist, ap_lst, ap_ast, ap_iinc, ap_iadd, ap_isub, ap_imul, ap_iand, ap_ior, ap_ixor, ap_ishl, ap_ishr, ap_iushr, ap_idiv, ap_irem, ap_ineg, ap_ladd, ap_lsub, ap_lmul, ap_ldiv, ap_lrem, ap_lneg, ap_lcmp, ap_i2l, ap_l2i, ap_i2b, ap_i2s, ap_dup_int, ap_pop_int, ap_dup_ref, ap_pop_ref, ap_dup2, ap_goto, ap_tsw, ap_lsw, ap_getI, ap_getJ, ap_getR, ap_putI, ap_putZ, ap_putJ, ap_iald, ap_lald, ap_bald, ap_aald, ap_iast, ap_last, ap_bast, ap_alen, ap_gst, ap_iret, ap_zret, ap_lret, ap_vret, ap_aret, ap_lmax, ap_labs, ap_acopy, ap_invV0, ap_invS0, ap_invV1, ap_invS1, ap_invV2, ap_invS2, ap_invV3, ap_invS3, ap_invV4, ap_invS4, ap_invV5, ap_invS5, tcnT, ocT, lenIT, lenWT, lenLT, lenVT, lenZT, startfT, vpL, sa_1, sa_2, sL_1, sL_2, si_1, si_2, sj_1, sj_2, ldI_e, ldL_e, ldA_e, inC_e, lk, st1, st2, rm1, rm2, Value.category, ctn_some, ctn_none, wsum, lv_args, Int32.reduceAdd, Int32.reduceSub, Int32.reduceMul, Nat.reduceAdd, Nat.reduceLT, Nat.reduceLeDiff, Nat.reduceEqDiff, Nat.reduceBEq, ↓reduceIte, true_and, and_true, Bool.false_eq_true, true_implies, false_implies, not_true_eq_false, not_false_eq_true, Bool.or_true, Bool.or_false, Bool.true_or, Bool.false_or, bx_ceq, bx_clt, bx_cge, bx_cgt, bx_cle, bx_cne, bx_zeq, bx_zlt, bx_zge, bx_zgt, bx_zle, bx_zne, iteP]
        exact h
    · rw [if_neg (fun z => iz z.1)] at h
      set_option maxRecDepth 100000 in simp (decide := true) only [c8_read, run_s, nxt_e, ap_const, ap_lconst, ap_ild, ap_lld, ap_ald, ap_ist, ap_lst, ap_ast, ap_iinc, ap_iadd, ap_isub, ap_imul, ap_iand, ap_ior, ap_ixor, ap_ishl, ap_ishr, ap_iushr, ap_idiv, ap_irem, ap_ineg, ap_ladd, ap_lsub, ap_lmul, ap_ldiv, ap_lrem, ap_lneg, ap_lcmp, ap_i2l, ap_l2i, ap_i2b, ap_i2s, ap_dup_int, ap_pop_int, ap_dup_ref, ap_pop_ref, ap_dup2, ap_goto, ap_tsw, ap_lsw, ap_getI, ap_getJ, ap_getR, ap_putI, ap_putZ, ap_putJ, ap_iald, ap_lald, ap_bald, ap_aald, ap_iast, ap_last, ap_bast, ap_alen, ap_gst, ap_iret, ap_zret, ap_lret, ap_vret, ap_aret, ap_lmax, ap_labs, ap_acopy, ap_invV0, ap_invS0, ap_invV1, ap_invS1, ap_invV2, ap_invS2, ap_invV3, ap_invS3, ap_invV4, ap_invS4, ap_invV5, ap_invS5, tcnT, ocT, lenIT, lenWT, lenLT, lenVT, lenZT, startfT, vpL, sa_1, sa_2, sL_1, sL_2, si_1, si_2, sj_1, sj_2, ldI_e, ldL_e, ldA_e, inC_e, lk, st1, st2, rm1, rm2, Value.category, ctn_some, ctn_none, wsum, lv_args, Int32.reduceAdd, Int32.reduceSub, Int32.reduceMul, Nat.reduceAdd, Nat.reduceLT, Nat.reduceLeDiff, Nat.reduceEqDiff, Nat.reduceBEq, ↓reduceIte, true_and, and_true, Bool.false_eq_true, true_implies, false_implies, not_true_eq_false, not_false_eq_true, Bool.or_true, Bool.or_false, Bool.true_or, Bool.false_or, bx_ceq, bx_clt, bx_cge, bx_cgt, bx_cle, bx_cne, bx_zeq, bx_zlt, bx_zge, bx_zgt, bx_zle, bx_zne, iteP, eq_false (show ¬ 6 ≤ nI i from nI_ge (b := 6) (show i < 6 by omega) (by decide)), oc6 hs, q1, q2, q3, hz, eq_true (nI_le (show z ≤ i by omega) (by omega))]
      exact h
theorem v8_read_bad {σ : St} {K : Kr} {t : Int32} (hb : ¬ (0 ≤ t ∧ t < 4)) (h : K (some (.int (-2))) σ) : VM M8_read [.ref 0, .int t] σ K := by
  refine vm_run s8_read n8_read (fun pc => pc == 32) 1000 (fun E => Nat.le_of_ble_eq_true rfl) ?_
  set_option maxRecDepth 100000 in simp (decide := true) only [c8_read, run_s, nxt_e, ap_const, ap_lconst, ap_ild, ap_lld, ap_ald, ap_ist, ap_lst, ap_ast, ap_iinc, ap_iadd, ap_isub, ap_imul, ap_iand, ap_ior, ap_ixor, ap_ishl, ap_ishr, ap_iushr, ap_idiv, ap_irem, ap_ineg, ap_ladd, ap_lsub, ap_lmul, ap_ldiv, ap_lrem, ap_lneg, ap_lcmp, ap_i2l, ap_l2i, ap_i2b, ap_i2s, ap_dup_int, ap_pop_int, ap_dup_ref, ap_pop_ref, ap_dup2, ap_goto, ap_tsw, ap_lsw, ap_getI, ap_getJ, ap_getR, ap_putI, ap_putZ, ap_putJ, ap_iald, ap_lald, ap_bald, ap_aald, ap_iast, ap_last, ap_bast, ap_alen, ap_gst, ap_iret, ap_zret, ap_lret, ap_vret, ap_aret, ap_lmax, ap_labs, ap_acopy, ap_invV0, ap_invS0, ap_invV1, ap_invS1, ap_invV2, ap_invS2, ap_invV3, ap_invS3, ap_invV4, ap_invS4, ap_invV5, ap_invS5, tcnT, ocT, lenIT, lenWT, lenLT, lenVT, lenZT, startfT, vpL, sa_1, sa_2, sL_1, sL_2, si_1, si_2, sj_1, sj_2, ldI_e, ldL_e, ldA_e, inC_e, lk, st1, st2, rm1, rm2, Value.category, ctn_some, ctn_none, wsum, lv_args, Int32.reduceAdd, Int32.reduceSub, Int32.reduceMul, Nat.reduceAdd, Nat.reduceLT, Nat.reduceLeDiff, Nat.reduceEqDiff, Nat.reduceBEq, ↓reduceIte, true_and, and_true, Bool.false_eq_true, true_implies, false_implies, not_true_eq_false, not_false_eq_true, Bool.or_true, Bool.or_false, Bool.true_or, Bool.false_or, bx_ceq, bx_clt, bx_cge, bx_cgt, bx_cle, bx_cne, bx_zeq, bx_zlt, bx_zge, bx_zgt, bx_zle, bx_zne, iteP]
  refine v8_isSheet ?_
  rw [bI_f hb]
  set_option maxRecDepth 100000 in simp (decide := true) only [c8_read, run_s, nxt_e, ap_const, ap_lconst, ap_ild, ap_lld, ap_ald, ap_ist, ap_lst, ap_ast, ap_iinc, ap_iadd, ap_isub, ap_imul, ap_iand, ap_ior, ap_ixor, ap_ishl, ap_ishr, ap_iushr, ap_idiv, ap_irem, ap_ineg, ap_ladd, ap_lsub, ap_lmul, ap_ldiv, ap_lrem, ap_lneg, ap_lcmp, ap_i2l, ap_l2i, ap_i2b, ap_i2s, ap_dup_int, ap_pop_int, ap_dup_ref, ap_pop_ref, ap_dup2, ap_goto, ap_tsw, ap_lsw, ap_getI, ap_getJ, ap_getR, ap_putI, ap_putZ, ap_putJ, ap_iald, ap_lald, ap_bald, ap_aald, ap_iast, ap_last, ap_bast, ap_alen, ap_gst, ap_iret, ap_zret, ap_lret, ap_vret, ap_aret, ap_lmax, ap_labs, ap_acopy, ap_invV0, ap_invS0, ap_invV1, ap_invS1, ap_invV2, ap_invS2, ap_invV3, ap_invS3, ap_invV4, ap_invS4, ap_invV5, ap_invS5, tcnT, ocT, lenIT, lenWT, lenLT, lenVT, lenZT, startfT, vpL, sa_1, sa_2, sL_1, sL_2, si_1, si_2, sj_1, sj_2, ldI_e, ldL_e, ldA_e, inC_e, lk, st1, st2, rm1, rm2, Value.category, ctn_some, ctn_none, wsum, lv_args, Int32.reduceAdd, Int32.reduceSub, Int32.reduceMul, Nat.reduceAdd, Nat.reduceLT, Nat.reduceLeDiff, Nat.reduceEqDiff, Nat.reduceBEq, ↓reduceIte, true_and, and_true, Bool.false_eq_true, true_implies, false_implies, not_true_eq_false, not_false_eq_true, Bool.or_true, Bool.or_false, Bool.true_or, Bool.false_or, bx_ceq, bx_clt, bx_cge, bx_cgt, bx_cle, bx_cne, bx_zeq, bx_zlt, bx_zge, bx_zgt, bx_zle, bx_zne, iteP]
  exact h
theorem v8_readN {σ : St} {K : Kr} {s z : Nat} (hs : s < 4) (hz : σ.1 (21 + s) 2 = nI z) (hz2 : z ≤ 48) (hL : ¬ σ.1 (21 + s) 3 = 0 → K (some (.int (-11))) (si σ 0 17 1))
    (h : σ.1 (21 + s) 3 = 0 → K (some (.int (nI (rdk (σ.1 (25 + s)) z 6 0)))) (sa σ 31 (rdp (σ.1 (25 + s)) (σ.1 31) (rdk (σ.1 (25 + s)) z 6 0)))) : VM M8_read [.ref 0, .int (nI s)] σ K := by
  refine vm_run s8_read n8_read (fun pc => pc == 32) 1000 (fun E => Nat.le_of_ble_eq_true rfl) ?_
  set_option maxRecDepth 100000 in simp (decide := true) only [c8_read, run_s, nxt_e, ap_const, ap_lconst, ap_ild, ap_lld, ap_ald, ap_ist, ap_lst, ap_ast, ap_iinc, ap_iadd, ap_isub, ap_imul, ap_iand, ap_ior, ap_ixor, ap_ishl, ap_ishr, ap_iushr, ap_idiv, ap_irem, ap_ineg, ap_ladd, ap_lsub, ap_lmul, ap_ldiv, ap_lrem, ap_lneg, ap_lcmp, ap_i2l, ap_l2i, ap_i2b, ap_i2s, ap_dup_int, ap_pop_int, ap_dup_ref, ap_pop_ref, ap_dup2, ap_goto, ap_tsw, ap_lsw, ap_getI, ap_getJ, ap_getR, ap_putI, ap_putZ, ap_putJ, ap_iald, ap_lald, ap_bald, ap_aald, ap_iast, ap_last, ap_bast, ap_alen, ap_gst, ap_iret, ap_zret, ap_lret, ap_vret, ap_aret, ap_lmax, ap_labs, ap_acopy, ap_invV0, ap_invS0, ap_invV1, ap_invS1, ap_invV2, ap_invS2, ap_invV3, ap_invS3, ap_invV4, ap_invS4, ap_invV5, ap_invS5, tcnT, ocT, lenIT, lenWT, lenLT, lenVT, lenZT, startfT, vpL, sa_1, sa_2, sL_1, sL_2, si_1, si_2, sj_1, sj_2, ldI_e, ldL_e, ldA_e, inC_e, lk, st1, st2, rm1, rm2, Value.category, ctn_some, ctn_none, wsum, lv_args, Int32.reduceAdd, Int32.reduceSub, Int32.reduceMul, Nat.reduceAdd, Nat.reduceLT, Nat.reduceLeDiff, Nat.reduceEqDiff, Nat.reduceBEq, ↓reduceIte, true_and, and_true, Bool.false_eq_true, true_implies, false_implies, not_true_eq_false, not_false_eq_true, Bool.or_true, Bool.or_false, Bool.true_or, Bool.false_or, bx_ceq, bx_clt, bx_cge, bx_cgt, bx_cle, bx_cne, bx_zeq, bx_zlt, bx_zge, bx_zgt, bx_zle, bx_zne, iteP]
  refine v8_isSheet ?_
  rw [bI_t (sht s hs)]
  set_option maxRecDepth 100000 in simp (decide := true) only [c8_read, run_s, nxt_e, ap_const, ap_lconst, ap_ild, ap_lld, ap_ald, ap_ist, ap_lst, ap_ast, ap_iinc, ap_iadd, ap_isub, ap_imul, ap_iand, ap_ior, ap_ixor, ap_ishl, ap_ishr, ap_iushr, ap_idiv, ap_irem, ap_ineg, ap_ladd, ap_lsub, ap_lmul, ap_ldiv, ap_lrem, ap_lneg, ap_lcmp, ap_i2l, ap_l2i, ap_i2b, ap_i2s, ap_dup_int, ap_pop_int, ap_dup_ref, ap_pop_ref, ap_dup2, ap_goto, ap_tsw, ap_lsw, ap_getI, ap_getJ, ap_getR, ap_putI, ap_putZ, ap_putJ, ap_iald, ap_lald, ap_bald, ap_aald, ap_iast, ap_last, ap_bast, ap_alen, ap_gst, ap_iret, ap_zret, ap_lret, ap_vret, ap_aret, ap_lmax, ap_labs, ap_acopy, ap_invV0, ap_invS0, ap_invV1, ap_invS1, ap_invV2, ap_invS2, ap_invV3, ap_invS3, ap_invV4, ap_invS4, ap_invV5, ap_invS5, tcnT, ocT, lenIT, lenWT, lenLT, lenVT, lenZT, startfT, vpL, sa_1, sa_2, sL_1, sL_2, si_1, si_2, sj_1, sj_2, ldI_e, ldL_e, ldA_e, inC_e, lk, st1, st2, rm1, rm2, Value.category, ctn_some, ctn_none, wsum, lv_args, Int32.reduceAdd, Int32.reduceSub, Int32.reduceMul, Nat.reduceAdd, Nat.reduceLT, Nat.reduceLeDiff, Nat.reduceEqDiff, Nat.reduceBEq, ↓reduceIte, true_and, and_true, Bool.false_eq_true, true_implies, false_implies, not_true_eq_false, not_false_eq_true, Bool.or_true, Bool.or_false, Bool.true_or, Bool.false_or, bx_ceq, bx_clt, bx_cge, bx_cgt, bx_cle, bx_cne, bx_zeq, bx_zlt, bx_zge, bx_zgt, bx_zle, bx_zne, iteP, vin hs (by decide), nIc (show s < 2 ^ 31 by omega), oc6 hs]
  refine ⟨fun q => ?_, fun q => v8_found (hL q)⟩
  have h2 := L8_read (a := nI s) hs hz hz2 6 0 rfl (h q)
  have e : sa σ 31 (rdp (σ.1 (25 + s)) (σ.1 31) 0) = σ := by
    have : rdp (σ.1 (25 + s)) (σ.1 31) 0 = σ.1 31 := by funext j; exact if_neg (by omega)
    rw [this]
    exact sa_self
  rw [e] at h2
  exact h2.sub [0, 1, 2, 3] rfl
def spn (f : Nat → Int32) : Nat → Nat
  | 0 => 0
  | j + 1 => spn f j + if f j = -1 then 0 else 1
theorem spn_le (f : Nat → Int32) : ∀ j, spn f j ≤ j := by
  intro j
  induction j with
  | zero => exact Nat.le_refl _
  | succ j ih => unfold spn; split <;> omega
theorem L8_mws {σ : St} {K : Kr} {n : Nat} (hv : MV σ n) (h : K (some (.int (nI (spn (σ.1 29) n)))) σ) : ∀ (d i : Nat), i + d = n → VW M8_membersWithSupper Xt K 4 [(2, .int (nI i)), (1, .int (nI (spn (σ.1 29) i))), (0, .ref 0)] [] σ := by
  have hn := hv.1
  intro d
  induction d with
  | zero =>
    intro i hi
    have : i = n := by omega
    subst this
    refine run_sound s8_membersWithSupper (fun pc => false) _ 1000 _ _ _ _ ?_
    set_option maxRecDepth 100000 in simp (decide := true) only [c8_membersWithSupper, run_s, nxt_e, ap_const, ap_lconst, ap_ild, ap_lld, ap_ald, ap_ist, ap_lst, ap_ast, ap_iinc, ap_iadd, ap_isub, ap_imul, ap_iand, ap_ior, ap_ixor, ap_ishl, ap_ishr, ap_iushr, ap_idiv, ap_irem, ap_ineg, ap_ladd, ap_lsub, ap_lmul, ap_ldiv, ap_lrem, ap_lneg, ap_lcmp, ap_i2l, ap_l2i, ap_i2b, ap_i2s, ap_dup_int, ap_pop_int, ap_dup_ref, ap_pop_ref, ap_dup2, ap_goto, ap_tsw, ap_lsw, ap_getI, ap_getJ, ap_getR, ap_putI, ap_putZ, ap_putJ, ap_iald, ap_lald, ap_bald, ap_aald, ap_iast, ap_last, ap_bast, ap_alen, ap_gst, ap_iret, ap_zret, ap_lret, ap_vret, ap_aret, ap_lmax, ap_labs, ap_acopy, ap_invV0, ap_invS0, ap_invV1, ap_invS1, ap_invV2, ap_invS2, ap_invV3, ap_invS3, ap_invV4, ap_invS4, ap_invV5, ap_invS5, tcnT, ocT, lenIT, lenWT, lenLT, lenVT, lenZT, startfT, vpL, sa_1, sa_2, sL_1, sL_2, si_1, si_2, sj_1, sj_2, ldI_e, ldL_e, ldA_e, inC_e, lk, st1, st2, rm1, rm2, Value.category, ctn_some, ctn_none, wsum, lv_args, Int32.reduceAdd, Int32.reduceSub, Int32.reduceMul, Nat.reduceAdd, Nat.reduceLT, Nat.reduceLeDiff, Nat.reduceEqDiff, Nat.reduceBEq, ↓reduceIte, true_and, and_true, Bool.false_eq_true, true_implies, false_implies, not_true_eq_false, not_false_eq_true, Bool.or_true, Bool.or_false, Bool.true_or, Bool.false_or, bx_ceq, bx_clt, bx_cge, bx_cgt, bx_cle, bx_cne, bx_zeq, bx_zlt, bx_zge, bx_zgt, bx_zle, bx_zne, iteP, hv.2.1, eq_true (nI_le (Nat.le_refl i) (by omega))]
    exact h
  | succ d ih =>
    intro i hi
    have h2 := ih (i + 1) (by omega)
    refine run_sound s8_membersWithSupper (fun pc => pc == 4) _ 1000 _ _ _ _ ?_
    set_option maxRecDepth 100000 in simp (decide := true) only [c8_membersWithSupper, run_s, nxt_e, ap_const, ap_lconst, ap_ild, ap_lld, ap_ald, ap_ist, ap_lst, ap_ast, ap_iinc, ap_iadd, ap_isub, ap_imul, ap_iand, ap_ior, ap_ixor, ap_ishl, ap_ishr, ap_iushr, ap_idiv, ap_irem, ap_ineg, ap_ladd, ap_lsub, ap_lmul, ap_ldiv, ap_lrem, ap_lneg, ap_lcmp, ap_i2l, ap_l2i, ap_i2b, ap_i2s, ap_dup_int, ap_pop_int, ap_dup_ref, ap_pop_ref, ap_dup2, ap_goto, ap_tsw, ap_lsw, ap_getI, ap_getJ, ap_getR, ap_putI, ap_putZ, ap_putJ, ap_iald, ap_lald, ap_bald, ap_aald, ap_iast, ap_last, ap_bast, ap_alen, ap_gst, ap_iret, ap_zret, ap_lret, ap_vret, ap_aret, ap_lmax, ap_labs, ap_acopy, ap_invV0, ap_invS0, ap_invV1, ap_invS1, ap_invV2, ap_invS2, ap_invV3, ap_invS3, ap_invV4, ap_invS4, ap_invV5, ap_invS5, tcnT, ocT, lenIT, lenWT, lenLT, lenVT, lenZT, startfT, vpL, sa_1, sa_2, sL_1, sL_2, si_1, si_2, sj_1, sj_2, ldI_e, ldL_e, ldA_e, inC_e, lk, st1, st2, rm1, rm2, Value.category, ctn_some, ctn_none, wsum, lv_args, Int32.reduceAdd, Int32.reduceSub, Int32.reduceMul, Nat.reduceAdd, Nat.reduceLT, Nat.reduceLeDiff, Nat.reduceEqDiff, Nat.reduceBEq, ↓reduceIte, true_and, and_true, Bool.false_eq_true, true_implies, false_implies, not_true_eq_false, not_false_eq_true, Bool.or_true, Bool.or_false, Bool.true_or, Bool.false_or, bx_ceq, bx_clt, bx_cge, bx_cgt, bx_cle, bx_cne, bx_zeq, bx_zlt, bx_zge, bx_zgt, bx_zle, bx_zne, iteP, hv.2.1, eq_false (nI_ge (show i < n by omega) (by omega)), vin (show i < 6 by omega) (by decide), nIc (show i < 2 ^ 31 by omega), nI_1]
    unfold spn at h2
    refine ⟨fun q => ?_, fun q => ?_⟩
    · rw [if_pos q] at h2; exact h2.sub [0, 1, 2] rfl
    · rw [if_neg q] at h2; exact h2.sub [0, 1, 2] rfl
theorem v8_mws {σ : St} {K : Kr} {n : Nat} (hv : MV σ n) (h : K (some (.int (nI (spn (σ.1 29) n)))) σ) : VM M8_membersWithSupper [.ref 0] σ K := by
  refine vm_run s8_membersWithSupper n8_membersWithSupper (fun pc => pc == 4) 1000 (fun E => Nat.le_of_ble_eq_true rfl) ?_
  set_option maxRecDepth 100000 in simp (decide := true) only [c8_membersWithSupper, run_s, nxt_e, ap_const, ap_lconst, ap_ild, ap_lld, ap_ald, ap_ist, ap_lst, ap_ast, ap_iinc, ap_iadd, ap_isub, ap_imul, ap_iand, ap_ior, ap_ixor, ap_ishl, ap_ishr, ap_iushr, ap_idiv, ap_irem, ap_ineg, ap_ladd, ap_lsub, ap_lmul, ap_ldiv, ap_lrem, ap_lneg, ap_lcmp, ap_i2l, ap_l2i, ap_i2b, ap_i2s, ap_dup_int, ap_pop_int, ap_dup_ref, ap_pop_ref, ap_dup2, ap_goto, ap_tsw, ap_lsw, ap_getI, ap_getJ, ap_getR, ap_putI, ap_putZ, ap_putJ, ap_iald, ap_lald, ap_bald, ap_aald, ap_iast, ap_last, ap_bast, ap_alen, ap_gst, ap_iret, ap_zret, ap_lret, ap_vret, ap_aret, ap_lmax, ap_labs, ap_acopy, ap_invV0, ap_invS0, ap_invV1, ap_invS1, ap_invV2, ap_invS2, ap_invV3, ap_invS3, ap_invV4, ap_invS4, ap_invV5, ap_invS5, tcnT, ocT, lenIT, lenWT, lenLT, lenVT, lenZT, startfT, vpL, sa_1, sa_2, sL_1, sL_2, si_1, si_2, sj_1, sj_2, ldI_e, ldL_e, ldA_e, inC_e, lk, st1, st2, rm1, rm2, Value.category, ctn_some, ctn_none, wsum, lv_args, Int32.reduceAdd, Int32.reduceSub, Int32.reduceMul, Nat.reduceAdd, Nat.reduceLT, Nat.reduceLeDiff, Nat.reduceEqDiff, Nat.reduceBEq, ↓reduceIte, true_and, and_true, Bool.false_eq_true, true_implies, false_implies, not_true_eq_false, not_false_eq_true, Bool.or_true, Bool.or_false, Bool.true_or, Bool.false_or, bx_ceq, bx_clt, bx_cge, bx_cgt, bx_cle, bx_cne, bx_zeq, bx_zlt, bx_zge, bx_zgt, bx_zle, bx_zne, iteP]
  exact (L8_mws hv h n 0 (by omega)).sub [0, 1, 2] rfl
def cS (σ : St) (n : Nat) (w : Int32) : Int32 := if w = 0 then σ.1 5 1 else if w = 1 then σ.1 7 3 else if w = 2 then σ.1 1 1 else if w = 3 then σ.1 2 1 else if w = 4 then nI (spn (σ.1 29) n) else if w = 5 then nI (pyS (pyo σ) (Tm (al n) 0 n)) else if w = 6 then σ.1 0 15 else if w = 7 then σ.1 0 16 else if w = 8 then σ.1 0 17 else -2
theorem v8_count {σ : St} {K : Kr} {n : Nat} {w : Int32} (hv : MV σ n) (hp : PV σ) (h : K (some (.int (cS σ n w))) σ) : VM M8_count [.ref 0, .int w] σ K := by
  have ha := al_lt n (by have := hv.1; omega)
  refine vm_run s8_count n8_count (fun _ => false) 1000 (fun E => Nat.le_of_ble_eq_true rfl) ?_
  set_option maxRecDepth 100000 in simp (decide := true) only [c8_count, run_s, nxt_e, ap_const, ap_lconst, ap_ild, ap_lld, ap_ald, ap_ist, ap_lst, ap_ast, ap_iinc, ap_iadd, ap_isub, ap_imul, ap_iand, ap_ior, ap_ixor, ap_ishl, ap_ishr, ap_iushr, ap_idiv, ap_irem, ap_ineg, ap_ladd, ap_lsub, ap_lmul, ap_ldiv, ap_lrem, ap_lneg, ap_lcmp, ap_i2l, ap_l2i, ap_i2b, ap_i2s, ap_dup_int, ap_pop_int, ap_dup_ref, ap_pop_ref, ap_dup2, ap_goto, ap_tsw, ap_lsw, ap_getI, ap_getJ, ap_getR, ap_putI, ap_putZ, ap_putJ, ap_iald, ap_lald, ap_bald, ap_aald, ap_iast, ap_last, ap_bast, ap_alen, ap_gst, ap_iret, ap_zret, ap_lret, ap_vret, ap_aret, ap_lmax, ap_labs, ap_acopy, ap_invV0, ap_invS0, ap_invV1, ap_invS1, ap_invV2, ap_invS2, ap_invV3, ap_invS3, ap_invV4, ap_invS4, ap_invV5, ap_invS5, tcnT, ocT, lenIT, lenWT, lenLT, lenVT, lenZT, startfT, vpL, sa_1, sa_2, sL_1, sL_2, si_1, si_2, sj_1, sj_2, ldI_e, ldL_e, ldA_e, inC_e, lk, st1, st2, rm1, rm2, Value.category, ctn_some, ctn_none, wsum, lv_args, Int32.reduceAdd, Int32.reduceSub, Int32.reduceMul, Nat.reduceAdd, Nat.reduceLT, Nat.reduceLeDiff, Nat.reduceEqDiff, Nat.reduceBEq, ↓reduceIte, true_and, and_true, Bool.false_eq_true, true_implies, false_implies, not_true_eq_false, not_false_eq_true, Bool.or_true, Bool.or_false, Bool.true_or, Bool.false_or, bx_ceq, bx_clt, bx_cge, bx_cgt, bx_cle, bx_cne, bx_zeq, bx_zlt, bx_zge, bx_zgt, bx_zle, bx_zne, iteP, tsw]
  refine ⟨⟨?_, ?_, ?_, ?_, ?_, ?_, ?_, ?_, ?_⟩, ?_⟩
  · rintro rfl; exact h
  · rintro rfl; exact h
  · rintro rfl; exact h
  · rintro rfl; exact h
  · rintro rfl
    refine v8_mws hv ?_
    set_option maxRecDepth 100000 in simp (decide := true) only [c8_count, run_s, nxt_e, ap_const, ap_lconst, ap_ild, ap_lld, ap_ald, ap_ist, ap_lst, ap_ast, ap_iinc, ap_iadd, ap_isub, ap_imul, ap_iand, ap_ior, ap_ixor, ap_ishl, ap_ishr, ap_iushr, ap_idiv, ap_irem, ap_ineg, ap_ladd, ap_lsub, ap_lmul, ap_ldiv, ap_lrem, ap_lneg, ap_lcmp, ap_i2l, ap_l2i, ap_i2b, ap_i2s, ap_dup_int, ap_pop_int, ap_dup_ref, ap_pop_ref, ap_dup2, ap_goto, ap_tsw, ap_lsw, ap_getI, ap_getJ, ap_getR, ap_putI, ap_putZ, ap_putJ, ap_iald, ap_lald, ap_bald, ap_aald, ap_iast, ap_last, ap_bast, ap_alen, ap_gst, ap_iret, ap_zret, ap_lret, ap_vret, ap_aret, ap_lmax, ap_labs, ap_acopy, ap_invV0, ap_invS0, ap_invV1, ap_invS1, ap_invV2, ap_invS2, ap_invV3, ap_invS3, ap_invV4, ap_invS4, ap_invV5, ap_invS5, tcnT, ocT, lenIT, lenWT, lenLT, lenVT, lenZT, startfT, vpL, sa_1, sa_2, sL_1, sL_2, si_1, si_2, sj_1, sj_2, ldI_e, ldL_e, ldA_e, inC_e, lk, st1, st2, rm1, rm2, Value.category, ctn_some, ctn_none, wsum, lv_args, Int32.reduceAdd, Int32.reduceSub, Int32.reduceMul, Nat.reduceAdd, Nat.reduceLT, Nat.reduceLeDiff, Nat.reduceEqDiff, Nat.reduceBEq, ↓reduceIte, true_and, and_true, Bool.false_eq_true, true_implies, false_implies, not_true_eq_false, not_false_eq_true, Bool.or_true, Bool.or_false, Bool.true_or, Bool.false_or, bx_ceq, bx_clt, bx_cge, bx_cgt, bx_cle, bx_cne, bx_zeq, bx_zlt, bx_zge, bx_zgt, bx_zle, bx_zne, iteP]
    exact h
  · rintro rfl
    refine v8_all hv ?_
    set_option maxRecDepth 100000 in simp (decide := true) only [c8_count, run_s, nxt_e, ap_const, ap_lconst, ap_ild, ap_lld, ap_ald, ap_ist, ap_lst, ap_ast, ap_iinc, ap_iadd, ap_isub, ap_imul, ap_iand, ap_ior, ap_ixor, ap_ishl, ap_ishr, ap_iushr, ap_idiv, ap_irem, ap_ineg, ap_ladd, ap_lsub, ap_lmul, ap_ldiv, ap_lrem, ap_lneg, ap_lcmp, ap_i2l, ap_l2i, ap_i2b, ap_i2s, ap_dup_int, ap_pop_int, ap_dup_ref, ap_pop_ref, ap_dup2, ap_goto, ap_tsw, ap_lsw, ap_getI, ap_getJ, ap_getR, ap_putI, ap_putZ, ap_putJ, ap_iald, ap_lald, ap_bald, ap_aald, ap_iast, ap_last, ap_bast, ap_alen, ap_gst, ap_iret, ap_zret, ap_lret, ap_vret, ap_aret, ap_lmax, ap_labs, ap_acopy, ap_invV0, ap_invS0, ap_invV1, ap_invS1, ap_invV2, ap_invS2, ap_invV3, ap_invS3, ap_invV4, ap_invS4, ap_invV5, ap_invS5, tcnT, ocT, lenIT, lenWT, lenLT, lenVT, lenZT, startfT, vpL, sa_1, sa_2, sL_1, sL_2, si_1, si_2, sj_1, sj_2, ldI_e, ldL_e, ldA_e, inC_e, lk, st1, st2, rm1, rm2, Value.category, ctn_some, ctn_none, wsum, lv_args, Int32.reduceAdd, Int32.reduceSub, Int32.reduceMul, Nat.reduceAdd, Nat.reduceLT, Nat.reduceLeDiff, Nat.reduceEqDiff, Nat.reduceBEq, ↓reduceIte, true_and, and_true, Bool.false_eq_true, true_implies, false_implies, not_true_eq_false, not_false_eq_true, Bool.or_true, Bool.or_false, Bool.true_or, Bool.false_or, bx_ceq, bx_clt, bx_cge, bx_cgt, bx_cle, bx_cne, bx_zeq, bx_zlt, bx_zge, bx_zgt, bx_zle, bx_zne, iteP]
    refine v8_payOf hv hp (by omega) ?_
    set_option maxRecDepth 100000 in simp (decide := true) only [c8_count, run_s, nxt_e, ap_const, ap_lconst, ap_ild, ap_lld, ap_ald, ap_ist, ap_lst, ap_ast, ap_iinc, ap_iadd, ap_isub, ap_imul, ap_iand, ap_ior, ap_ixor, ap_ishl, ap_ishr, ap_iushr, ap_idiv, ap_irem, ap_ineg, ap_ladd, ap_lsub, ap_lmul, ap_ldiv, ap_lrem, ap_lneg, ap_lcmp, ap_i2l, ap_l2i, ap_i2b, ap_i2s, ap_dup_int, ap_pop_int, ap_dup_ref, ap_pop_ref, ap_dup2, ap_goto, ap_tsw, ap_lsw, ap_getI, ap_getJ, ap_getR, ap_putI, ap_putZ, ap_putJ, ap_iald, ap_lald, ap_bald, ap_aald, ap_iast, ap_last, ap_bast, ap_alen, ap_gst, ap_iret, ap_zret, ap_lret, ap_vret, ap_aret, ap_lmax, ap_labs, ap_acopy, ap_invV0, ap_invS0, ap_invV1, ap_invS1, ap_invV2, ap_invS2, ap_invV3, ap_invS3, ap_invV4, ap_invS4, ap_invV5, ap_invS5, tcnT, ocT, lenIT, lenWT, lenLT, lenVT, lenZT, startfT, vpL, sa_1, sa_2, sL_1, sL_2, si_1, si_2, sj_1, sj_2, ldI_e, ldL_e, ldA_e, inC_e, lk, st1, st2, rm1, rm2, Value.category, ctn_some, ctn_none, wsum, lv_args, Int32.reduceAdd, Int32.reduceSub, Int32.reduceMul, Nat.reduceAdd, Nat.reduceLT, Nat.reduceLeDiff, Nat.reduceEqDiff, Nat.reduceBEq, ↓reduceIte, true_and, and_true, Bool.false_eq_true, true_implies, false_implies, not_true_eq_false, not_false_eq_true, Bool.or_true, Bool.or_false, Bool.true_or, Bool.false_or, bx_ceq, bx_clt, bx_cge, bx_cgt, bx_cle, bx_cne, bx_zeq, bx_zlt, bx_zge, bx_zgt, bx_zle, bx_zne, iteP]
    exact h
  · rintro rfl; exact h
  · rintro rfl; exact h
  · rintro rfl; exact h
  · intro q
    unfold cS at h
    rw [if_neg (by rintro rfl; revert q; decide), if_neg (by rintro rfl; revert q; decide), if_neg (by rintro rfl; revert q; decide), if_neg (by rintro rfl; revert q; decide), if_neg (by rintro rfl; revert q; decide), if_neg (by rintro rfl; revert q; decide), if_neg (by rintro rfl; revert q; decide), if_neg (by rintro rfl; revert q; decide), if_neg (by rintro rfl; revert q; decide)] at h
    exact h
