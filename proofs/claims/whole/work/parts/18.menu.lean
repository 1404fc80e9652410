/-! ===== part 18: suppers on trial ===== -/
theorem F_app (w : Nat → Nat → Nat) (val : Nat → Int) (b : List Nat) : ∀ (a : List Nat) (c : Nat), F w val (a ++ b) c = F w (F w val b) a c := by
  intro a
  induction a with
  | nil => intro c; rfl
  | cons m r ih => intro c; simp only [List.cons_append, F, ih]
theorem F_congr {w w' : Nat → Nat → Nat} {val : Nat → Int} : ∀ {ms : List Nat}, (∀ m, m ∈ ms → ∀ k, k < 4 → w m k = w' m k) → ∀ c, F w val ms c = F w' val ms c := by
  intro ms
  induction ms with
  | nil => intro _ c; rfl
  | cons m r ih =>
    intro h c
    have h0 := h m List.mem_cons_self
    have hr := ih (fun x hx => h x (List.mem_cons_of_mem _ hx))
    simp only [F, hr, h0 0 (by decide), h0 1 (by decide), h0 2 (by decide), h0 3 (by decide)]
theorem PW_congr {w w' : Nat → Nat → Nat} : ∀ {ms : List Nat}, (∀ m, m ∈ ms → ∀ k, k < 4 → w m k = w' m k) → PW w ms = PW w' ms := by
  intro ms
  induction ms with
  | nil => intro _; rfl
  | cons m r ih =>
    intro h
    have h0 := h m List.mem_cons_self
    have hr := ih (fun x hx => h x (List.mem_cons_of_mem _ hx))
    simp only [PW, ws4, hr, h0 0 (by decide), h0 1 (by decide), h0 2 (by decide), h0 3 (by decide)]
theorem v4_withN {i k : Nat} {σ : St} {K : Kr} (hp : PT σ) (hi : i < 126) (hk : k < 4) (h : K (some (.int (nI (pl (up i + pw k))))) σ) : VM M4_with [.ref 15, .int (nI i), .int (nI k)] σ K := by
  have e : nI i * 4 + nI k = nI (i * 4 + k) := by rw [nI_x4, nI_add]
  refine v4_with (fun _ _ => by rw [e]; exact vp_in_nI (by omega) (by decide)) ?_
  have h1 : (0 : Int32) ≤ nI i := nI_pos' (by omega)
  have h2 : nI i < 126 := nI_lt (show i < 126 from hi) (by decide)
  rw [if_pos ⟨h1, h2⟩, e, nIc (by omega), hp.2 i k hi hk]
  exact h
theorem up0 : up 0 = 0 := rfl
theorem sz_pw : ∀ k, k < 4 → pw k < 2401 ∧ sz (pw k) = 1 ∧ pl (pw k) < 210 := by decide
theorem v8_aboveWithDish {σ : St} {K : Kr} {n m : Nat} {d : Int32} {val : Nat → Int} (hv : MV σ n) (hp : PT σ) (hm : m < 6) (hval : ∀ c, c < 2401 → sz c = 1 → σ.2 13 (pl c) = Int64.ofInt (val c)) (h : K (some (.long (Int64.ofInt (F (fun m k => wd σ m k d) val [m] 0)))) σ) : VM M8_aboveWithDish [.ref 0, .int (nI m), .int d] σ K := by
  have hz := fun k (hk : k < 4) => sz_pw k hk
  have hvv := fun k (hk : k < 4) => hval (pw k) (hz k hk).1 (hz k hk).2.1
  have e0 : ∀ k, up 0 + pw k = pw k := fun k => by rw [up0, Nat.zero_add]
  have hw := fun k (hk : k < 4) => hv.wd_le (d := d) hm hk
  refine vm_run s8_aboveWithDish n8_aboveWithDish (fun _ => false) 1000 (fun E => Nat.le_of_ble_eq_true rfl) ?_
  simp (decide := true) only [c8_aboveWithDish, run_s, nxt_e, ap_const, ap_lconst, ap_ild, ap_lld, ap_ald, ap_ist, ap_lst, ap_ast, ap_iinc, ap_iadd, ap_isub, ap_imul, ap_iand, ap_ior, ap_ixor, ap_ishl, ap_ishr, ap_iushr, ap_idiv, ap_irem, ap_ineg, ap_ladd, ap_lsub, ap_lmul, ap_ldiv, ap_lrem, ap_lneg, ap_lcmp, ap_i2l, ap_l2i, ap_i2b, ap_i2s, ap_dup_int, ap_pop_int, ap_dup_ref, ap_pop_ref, ap_dup2, ap_ceq, ap_cne, ap_clt, ap_cge, ap_cgt, ap_cle, ap_zeq, ap_zne, ap_zlt, ap_zge, ap_zgt, ap_zle, ap_goto, ap_tsw, ap_lsw, ap_getI, ap_getJ, ap_getR, ap_putI, ap_putZ, ap_putJ, ap_iald, ap_lald, ap_bald, ap_aald, ap_iast, ap_last, ap_bast, ap_alen, ap_gst, ap_iret, ap_zret, ap_lret, ap_vret, ap_aret, ap_lmax, ap_labs, ap_acopy, ap_invV0, ap_invS0, ap_invV1, ap_invS1, ap_invV2, ap_invS2, ap_invV3, ap_invS3, ap_invV4, ap_invS4, ap_invV5, ap_invS5, tcnT, ocT, lenIT, lenWT, lenLT, lenVT, lenZT, startfT, vpL, sa_1, sa_2, sL_1, sL_2, si_1, si_2, sj_1, sj_2, ldI_e, ldL_e, ldA_e, inC_e, lk, st1, st2, rm1, rm2, Value.category, ctn_some, ctn_none, wsum, lv_args, Int32.reduceAdd, Int32.reduceSub, Int32.reduceMul, Nat.reduceAdd, Nat.reduceLT, Nat.reduceLeDiff, Nat.reduceEqDiff, Nat.reduceBEq, ↓reduceIte, true_and, and_true, Bool.false_eq_true, true_implies, false_implies, not_true_eq_false, not_false_eq_true]
  refine v8_weightN (k := 0) hv hm (by decide) ?_
  simp (decide := true) only [c8_aboveWithDish, run_s, nxt_e, ap_const, ap_lconst, ap_ild, ap_lld, ap_ald, ap_ist, ap_lst, ap_ast, ap_iinc, ap_iadd, ap_isub, ap_imul, ap_iand, ap_ior, ap_ixor, ap_ishl, ap_ishr, ap_iushr, ap_idiv, ap_irem, ap_ineg, ap_ladd, ap_lsub, ap_lmul, ap_ldiv, ap_lrem, ap_lneg, ap_lcmp, ap_i2l, ap_l2i, ap_i2b, ap_i2s, ap_dup_int, ap_pop_int, ap_dup_ref, ap_pop_ref, ap_dup2, ap_ceq, ap_cne, ap_clt, ap_cge, ap_cgt, ap_cle, ap_zeq, ap_zne, ap_zlt, ap_zge, ap_zgt, ap_zle, ap_goto, ap_tsw, ap_lsw, ap_getI, ap_getJ, ap_getR, ap_putI, ap_putZ, ap_putJ, ap_iald, ap_lald, ap_bald, ap_aald, ap_iast, ap_last, ap_bast, ap_alen, ap_gst, ap_iret, ap_zret, ap_lret, ap_vret, ap_aret, ap_lmax, ap_labs, ap_acopy, ap_invV0, ap_invS0, ap_invV1, ap_invS1, ap_invV2, ap_invS2, ap_invV3, ap_invS3, ap_invV4, ap_invS4, ap_invV5, ap_invS5, tcnT, ocT, lenIT, lenWT, lenLT, lenVT, lenZT, startfT, vpL, sa_1, sa_2, sL_1, sL_2, si_1, si_2, sj_1, sj_2, ldI_e, ldL_e, ldA_e, inC_e, lk, st1, st2, rm1, rm2, Value.category, ctn_some, ctn_none, wsum, lv_args, Int32.reduceAdd, Int32.reduceSub, Int32.reduceMul, Nat.reduceAdd, Nat.reduceLT, Nat.reduceLeDiff, Nat.reduceEqDiff, Nat.reduceBEq, ↓reduceIte, true_and, and_true, Bool.false_eq_true, true_implies, false_implies, not_true_eq_false, not_false_eq_true]
  refine v4_withN (i := 0) (k := 0) hp (by decide) (by decide) ?_
  simp (decide := true) only [c8_aboveWithDish, run_s, nxt_e, ap_const, ap_lconst, ap_ild, ap_lld, ap_ald, ap_ist, ap_lst, ap_ast, ap_iinc, ap_iadd, ap_isub, ap_imul, ap_iand, ap_ior, ap_ixor, ap_ishl, ap_ishr, ap_iushr, ap_idiv, ap_irem, ap_ineg, ap_ladd, ap_lsub, ap_lmul, ap_ldiv, ap_lrem, ap_lneg, ap_lcmp, ap_i2l, ap_l2i, ap_i2b, ap_i2s, ap_dup_int, ap_pop_int, ap_dup_ref, ap_pop_ref, ap_dup2, ap_ceq, ap_cne, ap_clt, ap_cge, ap_cgt, ap_cle, ap_zeq, ap_zne, ap_zlt, ap_zge, ap_zgt, ap_zle, ap_goto, ap_tsw, ap_lsw, ap_getI, ap_getJ, ap_getR, ap_putI, ap_putZ, ap_putJ, ap_iald, ap_lald, ap_bald, ap_aald, ap_iast, ap_last, ap_bast, ap_alen, ap_gst, ap_iret, ap_zret, ap_lret, ap_vret, ap_aret, ap_lmax, ap_labs, ap_acopy, ap_invV0, ap_invS0, ap_invV1, ap_invS1, ap_invV2, ap_invS2, ap_invV3, ap_invS3, ap_invV4, ap_invS4, ap_invV5, ap_invS5, tcnT, ocT, lenIT, lenWT, lenLT, lenVT, lenZT, startfT, vpL, sa_1, sa_2, sL_1, sL_2, si_1, si_2, sj_1, sj_2, ldI_e, ldL_e, ldA_e, inC_e, lk, st1, st2, rm1, rm2, Value.category, ctn_some, ctn_none, wsum, lv_args, Int32.reduceAdd, Int32.reduceSub, Int32.reduceMul, Nat.reduceAdd, Nat.reduceLT, Nat.reduceLeDiff, Nat.reduceEqDiff, Nat.reduceBEq, ↓reduceIte, true_and, and_true, Bool.false_eq_true, true_implies, false_implies, not_true_eq_false, not_false_eq_true, e0, vin (hz 0 (by decide)).2.2 (by decide), nIc (Nat.lt_trans (hz 0 (by decide)).2.2 (by decide)), hvv 0 (by decide), toL (wd σ m 0 d) (by have := hw 0 (by decide); omega)]
  refine v8_weightN (k := 1) hv hm (by decide) ?_
  simp (decide := true) only [c8_aboveWithDish, run_s, nxt_e, ap_const, ap_lconst, ap_ild, ap_lld, ap_ald, ap_ist, ap_lst, ap_ast, ap_iinc, ap_iadd, ap_isub, ap_imul, ap_iand, ap_ior, ap_ixor, ap_ishl, ap_ishr, ap_iushr, ap_idiv, ap_irem, ap_ineg, ap_ladd, ap_lsub, ap_lmul, ap_ldiv, ap_lrem, ap_lneg, ap_lcmp, ap_i2l, ap_l2i, ap_i2b, ap_i2s, ap_dup_int, ap_pop_int, ap_dup_ref, ap_pop_ref, ap_dup2, ap_ceq, ap_cne, ap_clt, ap_cge, ap_cgt, ap_cle, ap_zeq, ap_zne, ap_zlt, ap_zge, ap_zgt, ap_zle, ap_goto, ap_tsw, ap_lsw, ap_getI, ap_getJ, ap_getR, ap_putI, ap_putZ, ap_putJ, ap_iald, ap_lald, ap_bald, ap_aald, ap_iast, ap_last, ap_bast, ap_alen, ap_gst, ap_iret, ap_zret, ap_lret, ap_vret, ap_aret, ap_lmax, ap_labs, ap_acopy, ap_invV0, ap_invS0, ap_invV1, ap_invS1, ap_invV2, ap_invS2, ap_invV3, ap_invS3, ap_invV4, ap_invS4, ap_invV5, ap_invS5, tcnT, ocT, lenIT, lenWT, lenLT, lenVT, lenZT, startfT, vpL, sa_1, sa_2, sL_1, sL_2, si_1, si_2, sj_1, sj_2, ldI_e, ldL_e, ldA_e, inC_e, lk, st1, st2, rm1, rm2, Value.category, ctn_some, ctn_none, wsum, lv_args, Int32.reduceAdd, Int32.reduceSub, Int32.reduceMul, Nat.reduceAdd, Nat.reduceLT, Nat.reduceLeDiff, Nat.reduceEqDiff, Nat.reduceBEq, ↓reduceIte, true_and, and_true, Bool.false_eq_true, true_implies, false_implies, not_true_eq_false, not_false_eq_true]
  refine v4_withN (i := 0) (k := 1) hp (by decide) (by decide) ?_
  simp (decide := true) only [c8_aboveWithDish, run_s, nxt_e, ap_const, ap_lconst, ap_ild, ap_lld, ap_ald, ap_ist, ap_lst, ap_ast, ap_iinc, ap_iadd, ap_isub, ap_imul, ap_iand, ap_ior, ap_ixor, ap_ishl, ap_ishr, ap_iushr, ap_idiv, ap_irem, ap_ineg, ap_ladd, ap_lsub, ap_lmul, ap_ldiv, ap_lrem, ap_lneg, ap_lcmp, ap_i2l, ap_l2i, ap_i2b, ap_i2s, ap_dup_int, ap_pop_int, ap_dup_ref, ap_pop_ref, ap_dup2, ap_ceq, ap_cne, ap_clt, ap_cge, ap_cgt, ap_cle, ap_zeq, ap_zne, ap_zlt, ap_zge, ap_zgt, ap_zle, ap_goto, ap_tsw, ap_lsw, ap_getI, ap_getJ, ap_getR, ap_putI, ap_putZ, ap_putJ, ap_iald, ap_lald, ap_bald, ap_aald, ap_iast, ap_last, ap_bast, ap_alen, ap_gst, ap_iret, ap_zret, ap_lret, ap_vret, ap_aret, ap_lmax, ap_labs, ap_acopy, ap_invV0, ap_invS0, ap_invV1, ap_invS1, ap_invV2, ap_invS2, ap_invV3, ap_invS3, ap_invV4, ap_invS4, ap_invV5, ap_invS5, tcnT, ocT, lenIT, lenWT, lenLT, lenVT, lenZT, startfT, vpL, sa_1, sa_2, sL_1, sL_2, si_1, si_2, sj_1, sj_2, ldI_e, ldL_e, ldA_e, inC_e, lk, st1, st2, rm1, rm2, Value.category, ctn_some, ctn_none, wsum, lv_args, Int32.reduceAdd, Int32.reduceSub, Int32.reduceMul, Nat.reduceAdd, Nat.reduceLT, Nat.reduceLeDiff, Nat.reduceEqDiff, Nat.reduceBEq, ↓reduceIte, true_and, and_true, Bool.false_eq_true, true_implies, false_implies, not_true_eq_false, not_false_eq_true, e0, vin (hz 1 (by decide)).2.2 (by decide), nIc (Nat.lt_trans (hz 1 (by decide)).2.2 (by decide)), hvv 1 (by decide), toL (wd σ m 1 d) (by have := hw 1 (by decide); omega)]
  refine v8_weightN (k := 2) hv hm (by decide) ?_
  simp (decide := true) only [c8_aboveWithDish, run_s, nxt_e, ap_const, ap_lconst, ap_ild, ap_lld, ap_ald, ap_ist, ap_lst, ap_ast, ap_iinc, ap_iadd, ap_isub, ap_imul, ap_iand, ap_ior, ap_ixor, ap_ishl, ap_ishr, ap_iushr, ap_idiv, ap_irem, ap_ineg, ap_ladd, ap_lsub, ap_lmul, ap_ldiv, ap_lrem, ap_lneg, ap_lcmp, ap_i2l, ap_l2i, ap_i2b, ap_i2s, ap_dup_int, ap_pop_int, ap_dup_ref, ap_pop_ref, ap_dup2, ap_ceq, ap_cne, ap_clt, ap_cge, ap_cgt, ap_cle, ap_zeq, ap_zne, ap_zlt, ap_zge, ap_zgt, ap_zle, ap_goto, ap_tsw, ap_lsw, ap_getI, ap_getJ, ap_getR, ap_putI, ap_putZ, ap_putJ, ap_iald, ap_lald, ap_bald, ap_aald, ap_iast, ap_last, ap_bast, ap_alen, ap_gst, ap_iret, ap_zret, ap_lret, ap_vret, ap_aret, ap_lmax, ap_labs, ap_acopy, ap_invV0, ap_invS0, ap_invV1, ap_invS1, ap_invV2, ap_invS2, ap_invV3, ap_invS3, ap_invV4, ap_invS4, ap_invV5, ap_invS5, tcnT, ocT, lenIT, lenWT, lenLT, lenVT, lenZT, startfT, vpL, sa_1, sa_2, sL_1, sL_2, si_1, si_2, sj_1, sj_2, ldI_e, ldL_e, ldA_e, inC_e, lk, st1, st2, rm1, rm2, Value.category, ctn_some, ctn_none, wsum, lv_args, Int32.reduceAdd, Int32.reduceSub, Int32.reduceMul, Nat.reduceAdd, Nat.reduceLT, Nat.reduceLeDiff, Nat.reduceEqDiff, Nat.reduceBEq, ↓reduceIte, true_and, and_true, Bool.false_eq_true, true_implies, false_implies, not_true_eq_false, not_false_eq_true]
  refine v4_withN (i := 0) (k := 2) hp (by decide) (by decide) ?_
  simp (decide := true) only [c8_aboveWithDish, run_s, nxt_e, ap_const, ap_lconst, ap_ild, ap_lld, ap_ald, ap_ist, ap_lst, ap_ast, ap_iinc, ap_iadd, ap_isub, ap_imul, ap_iand, ap_ior, ap_ixor, ap_ishl, ap_ishr, ap_iushr, ap_idiv, ap_irem, ap_ineg, ap_ladd, ap_lsub, ap_lmul, ap_ldiv, ap_lrem, ap_lneg, ap_lcmp, ap_i2l, ap_l2i, ap_i2b, ap_i2s, ap_dup_int, ap_pop_int, ap_dup_ref, ap_pop_ref, ap_dup2, ap_ceq, ap_cne, ap_clt, ap_cge, ap_cgt, ap_cle, ap_zeq, ap_zne, ap_zlt, ap_zge, ap_zgt, ap_zle, ap_goto, ap_tsw, ap_lsw, ap_getI, ap_getJ, ap_getR, ap_putI, ap_putZ, ap_putJ, ap_iald, ap_lald, ap_bald, ap_aald, ap_iast, ap_last, ap_bast, ap_alen, ap_gst, ap_iret, ap_zret, ap_lret, ap_vret, ap_aret, ap_lmax, ap_labs, ap_acopy, ap_invV0, ap_invS0, ap_invV1, ap_invS1, ap_invV2, ap_invS2, ap_invV3, ap_invS3, ap_invV4, ap_invS4, ap_invV5, ap_invS5, tcnT, ocT, lenIT, lenWT, lenLT, lenVT, lenZT, startfT, vpL, sa_1, sa_2, sL_1, sL_2, si_1, si_2, sj_1, sj_2, ldI_e, ldL_e, ldA_e, inC_e, lk, st1, st2, rm1, rm2, Value.category, ctn_some, ctn_none, wsum, lv_args, Int32.reduceAdd, Int32.reduceSub, Int32.reduceMul, Nat.reduceAdd, Nat.reduceLT, Nat.reduceLeDiff, Nat.reduceEqDiff, Nat.reduceBEq, ↓reduceIte, true_and, and_true, Bool.false_eq_true, true_implies, false_implies, not_true_eq_false, not_false_eq_true, e0, vin (hz 2 (by decide)).2.2 (by decide), nIc (Nat.lt_trans (hz 2 (by decide)).2.2 (by decide)), hvv 2 (by decide), toL (wd σ m 2 d) (by have := hw 2 (by decide); omega)]
  refine v8_weightN (k := 3) hv hm (by decide) ?_
  simp (decide := true) only [c8_aboveWithDish, run_s, nxt_e, ap_const, ap_lconst, ap_ild, ap_lld, ap_ald, ap_ist, ap_lst, ap_ast, ap_iinc, ap_iadd, ap_isub, ap_imul, ap_iand, ap_ior, ap_ixor, ap_ishl, ap_ishr, ap_iushr, ap_idiv, ap_irem, ap_ineg, ap_ladd, ap_lsub, ap_lmul, ap_ldiv, ap_lrem, ap_lneg, ap_lcmp, ap_i2l, ap_l2i, ap_i2b, ap_i2s, ap_dup_int, ap_pop_int, ap_dup_ref, ap_pop_ref, ap_dup2, ap_ceq, ap_cne, ap_clt, ap_cge, ap_cgt, ap_cle, ap_zeq, ap_zne, ap_zlt, ap_zge, ap_zgt, ap_zle, ap_goto, ap_tsw, ap_lsw, ap_getI, ap_getJ, ap_getR, ap_putI, ap_putZ, ap_putJ, ap_iald, ap_lald, ap_bald, ap_aald, ap_iast, ap_last, ap_bast, ap_alen, ap_gst, ap_iret, ap_zret, ap_lret, ap_vret, ap_aret, ap_lmax, ap_labs, ap_acopy, ap_invV0, ap_invS0, ap_invV1, ap_invS1, ap_invV2, ap_invS2, ap_invV3, ap_invS3, ap_invV4, ap_invS4, ap_invV5, ap_invS5, tcnT, ocT, lenIT, lenWT, lenLT, lenVT, lenZT, startfT, vpL, sa_1, sa_2, sL_1, sL_2, si_1, si_2, sj_1, sj_2, ldI_e, ldL_e, ldA_e, inC_e, lk, st1, st2, rm1, rm2, Value.category, ctn_some, ctn_none, wsum, lv_args, Int32.reduceAdd, Int32.reduceSub, Int32.reduceMul, Nat.reduceAdd, Nat.reduceLT, Nat.reduceLeDiff, Nat.reduceEqDiff, Nat.reduceBEq, ↓reduceIte, true_and, and_true, Bool.false_eq_true, true_implies, false_implies, not_true_eq_false, not_false_eq_true]
  refine v4_withN (i := 0) (k := 3) hp (by decide) (by decide) ?_
  simp (decide := true) only [c8_aboveWithDish, run_s, nxt_e, ap_const, ap_lconst, ap_ild, ap_lld, ap_ald, ap_ist, ap_lst, ap_ast, ap_iinc, ap_iadd, ap_isub, ap_imul, ap_iand, ap_ior, ap_ixor, ap_ishl, ap_ishr, ap_iushr, ap_idiv, ap_irem, ap_ineg, ap_ladd, ap_lsub, ap_lmul, ap_ldiv, ap_lrem, ap_lneg, ap_lcmp, ap_i2l, ap_l2i, ap_i2b, ap_i2s, ap_dup_int, ap_pop_int, ap_dup_ref, ap_pop_ref, ap_dup2, ap_ceq, ap_cne, ap_clt, ap_cge, ap_cgt, ap_cle, ap_zeq, ap_zne, ap_zlt, ap_zge, ap_zgt, ap_zle, ap_goto, ap_tsw, ap_lsw, ap_getI, ap_getJ, ap_getR, ap_putI, ap_putZ, ap_putJ, ap_iald, ap_lald, ap_bald, ap_aald, ap_iast, ap_last, ap_bast, ap_alen, ap_gst, ap_iret, ap_zret, ap_lret, ap_vret, ap_aret, ap_lmax, ap_labs, ap_acopy, ap_invV0, ap_invS0, ap_invV1, ap_invS1, ap_invV2, ap_invS2, ap_invV3, ap_invS3, ap_invV4, ap_invS4, ap_invV5, ap_invS5, tcnT, ocT, lenIT, lenWT, lenLT, lenVT, lenZT, startfT, vpL, sa_1, sa_2, sL_1, sL_2, si_1, si_2, sj_1, sj_2, ldI_e, ldL_e, ldA_e, inC_e, lk, st1, st2, rm1, rm2, Value.category, ctn_some, ctn_none, wsum, lv_args, Int32.reduceAdd, Int32.reduceSub, Int32.reduceMul, Nat.reduceAdd, Nat.reduceLT, Nat.reduceLeDiff, Nat.reduceEqDiff, Nat.reduceBEq, ↓reduceIte, true_and, and_true, Bool.false_eq_true, true_implies, false_implies, not_true_eq_false, not_false_eq_true, e0, vin (hz 3 (by decide)).2.2 (by decide), nIc (Nat.lt_trans (hz 3 (by decide)).2.2 (by decide)), hvv 3 (by decide), toL (wd σ m 3 d) (by have := hw 3 (by decide); omega)]
  have e : (0 : Int64) + Int64.ofInt ((wd σ m 0 d : Int) * val (pw 0)) + Int64.ofInt ((wd σ m 1 d : Int) * val (pw 1)) + Int64.ofInt ((wd σ m 2 d : Int) * val (pw 2)) + Int64.ofInt ((wd σ m 3 d : Int) * val (pw 3)) = Int64.ofInt (F (fun m k => wd σ m k d) val [m] 0) := by
    rw [show (0 : Int64) = Int64.ofInt 0 from rfl, ← Int64.ofInt_add, ← Int64.ofInt_add, ← Int64.ofInt_add, ← Int64.ofInt_add]
    simp only [F, Nat.zero_add, Int.zero_add]
  rw [e]
  exact h
/-! best -/
def bsel (A : Nat → Int) (B : Nat → Nat) : Nat → Nat
  | 0 => 0
  | i + 1 => if A (bsel A B i) * (B (i + 1) : Int) < A (i + 1) * (B (bsel A B i) : Int) then i + 1 else bsel A B i
def Ab (σ : St) (m : Nat) (val : Nat → Int) (j : Nat) : Int := F (fun m k => wd σ m k (nI j - 1)) val [m] 0
def Bb (σ : St) (m j : Nat) : Nat := ws4 (fun m k => wd σ m k (nI j - 1)) m
theorem Bb_b {σ : St} {n m j : Nat} (hv : MV σ n) (hm : m < 6) : Bb σ m j ≤ 72 := hv.ws_le hm
theorem Ab_b {σ : St} {n m j : Nat} {val : Nat → Int} {B : Nat} (hv : MV σ n) (hm : m < 6) (hB : ∀ k, k < 4 → -(B : Int) ≤ val (pw k) ∧ val (pw k) ≤ B) : -((72 * B : Nat) : Int) ≤ Ab σ m val j ∧ Ab σ m val j ≤ ((72 * B : Nat) : Int) := by
  have h0 := hB 0 (by decide)
  have h1 := hB 1 (by decide)
  have h2 := hB 2 (by decide)
  have h3 := hB 3 (by decide)
  have mul : ∀ (a : Nat) (x : Int), a ≤ 18 → -(B : Int) ≤ x ∧ x ≤ B → -((18 * B : Nat) : Int) ≤ (a : Int) * x ∧ (a : Int) * x ≤ ((18 * B : Nat) : Int) := by
    intro a x ha hxy
    have g1 := Int.mul_le_mul_of_nonneg_left hxy.1 (Int.natCast_nonneg a)
    have g2 := Int.mul_le_mul_of_nonneg_left hxy.2 (Int.natCast_nonneg a)
    have g3 : a * B ≤ 18 * B := Nat.mul_le_mul_right _ ha
    rw [Int.mul_neg, ← Int.natCast_mul] at g1
    rw [← Int.natCast_mul] at g2
    omega
  have m0 := mul _ _ (hv.wd_le (d := nI j - 1) hm (show 0 < 4 by decide)) h0
  have m1 := mul _ _ (hv.wd_le (d := nI j - 1) hm (show 1 < 4 by decide)) h1
  have m2 := mul _ _ (hv.wd_le (d := nI j - 1) hm (show 2 < 4 by decide)) h2
  have m3 := mul _ _ (hv.wd_le (d := nI j - 1) hm (show 3 < 4 by decide)) h3
  unfold Ab
  simp only [F, Nat.zero_add]
  omega
theorem mulB {x : Int} {X b : Nat} (hx : -(X : Int) ≤ x ∧ x ≤ X) (hb : b ≤ 72) : -((72 * X : Nat) : Int) ≤ x * (b : Int) ∧ x * (b : Int) ≤ ((72 * X : Nat) : Int) := by
  have g1 := Int.mul_le_mul_of_nonneg_left hx.1 (Int.natCast_nonneg b)
  have g2 := Int.mul_le_mul_of_nonneg_left hx.2 (Int.natCast_nonneg b)
  have g3 : b * X ≤ 72 * X := Nat.mul_le_mul_right _ hb
  rw [Int.mul_neg, ← Int.natCast_mul] at g1
  rw [← Int.natCast_mul] at g2
  rw [Int.mul_comm x]
  omega
theorem L8_best {σ : St} {K : Kr} {n m X : Nat} {val : Nat → Int} (hv : MV σ n) (hp : PT σ) (hm : m < 6) (hval : ∀ c, c < 2401 → sz c = 1 → σ.2 13 (pl c) = Int64.ofInt (val c)) (hX : X ≤ 54 * 139314069504) (hB : ∀ k, k < 4 → -(X : Int) ≤ val (pw k) ∧ val (pw k) ≤ X)
    (h : K (some (.int (nI (bsel (Ab σ m val) (Bb σ m) 4) - 1))) σ) : ∀ (d i : Nat), i + d = 4 → VW M8_best Xt K 56 [(8, .int (nI i)), (6, .long (lN (Bb σ m (bsel (Ab σ m val) (Bb σ m) i)))), (4, .long (Int64.ofInt (Ab σ m val (bsel (Ab σ m val) (Bb σ m) i)))), (3, .int (nI (bsel (Ab σ m val) (Bb σ m) i) - 1)), (0, .ref 0), (1, .int (nI m))] [] σ := by
  intro d
  induction d with
  | zero =>
    intro i hi
    have : i = 4 := by omega
    subst this
    refine run_sound s8_best (fun pc => pc == 56) _ 1000 _ _ _ _ ?_
    simp (decide := true) only [c8_best, run_s, nxt_e, ap_const, ap_lconst, ap_ild, ap_lld, ap_ald, ap_ist, ap_lst, ap_ast, ap_iinc, ap_iadd, ap_isub, ap_imul, ap_iand, ap_ior, ap_ixor, ap_ishl, ap_ishr, ap_iushr, ap_idiv, ap_irem, ap_ineg, ap_ladd, ap_lsub, ap_lmul, ap_ldiv, ap_lrem, ap_lneg, ap_lcmp, ap_i2l, ap_l2i, ap_i2b, ap_i2s, ap_dup_int, ap_pop_int, ap_dup_ref, ap_pop_ref, ap_dup2, ap_ceq, ap_cne, ap_clt, ap_cge, ap_cgt, ap_cle, ap_zeq, ap_zne, ap_zlt, ap_zge, ap_zgt, ap_zle, ap_goto, ap_tsw, ap_lsw, ap_getI, ap_getJ, ap_getR, ap_putI, ap_putZ, ap_putJ, ap_iald, ap_lald, ap_bald, ap_aald, ap_iast, ap_last, ap_bast, ap_alen, ap_gst, ap_iret, ap_zret, ap_lret, ap_vret, ap_aret, ap_lmax, ap_labs, ap_acopy, ap_invV0, ap_invS0, ap_invV1, ap_invS1, ap_invV2, ap_invS2, ap_invV3, ap_invS3, ap_invV4, ap_invS4, ap_invV5, ap_invS5, tcnT, ocT, lenIT, lenWT, lenLT, lenVT, lenZT, startfT, vpL, sa_1, sa_2, sL_1, sL_2, si_1, si_2, sj_1, sj_2, ldI_e, ldL_e, ldA_e, inC_e, lk, st1, st2, rm1, rm2, Value.category, ctn_some, ctn_none, wsum, lv_args, Int32.reduceAdd, Int32.reduceSub, Int32.reduceMul, Nat.reduceAdd, Nat.reduceLT, Nat.reduceLeDiff, Nat.reduceEqDiff, Nat.reduceBEq, ↓reduceIte, true_and, and_true, Bool.false_eq_true, true_implies, false_implies, not_true_eq_false, not_false_eq_true, eq_true (show (4 : Int32) ≤ nI 4 by decide)]
    exact h
  | succ d ih =>
    intro i hi
    have hii := ih (i + 1) (by omega)
    have ei : nI i = nI (i + 1) - 1 := (nI_pred i).symm
    have b1 := Bb_b (j := i + 1) hv hm
    have b2 := Bb_b (j := bsel (Ab σ m val) (Bb σ m) i) hv hm
    have a1 := Ab_b (j := i + 1) hv hm hB
    have a2 := Ab_b (j := bsel (Ab σ m val) (Bb σ m) i) hv hm hB
    have c1 := mulB a1 b2
    have c2 := mulB a2 b1
    refine run_sound s8_best (fun pc => pc == 56) _ 1000 _ _ _ _ ?_
    simp (decide := true) only [c8_best, run_s, nxt_e, ap_const, ap_lconst, ap_ild, ap_lld, ap_ald, ap_ist, ap_lst, ap_ast, ap_iinc, ap_iadd, ap_isub, ap_imul, ap_iand, ap_ior, ap_ixor, ap_ishl, ap_ishr, ap_iushr, ap_idiv, ap_irem, ap_ineg, ap_ladd, ap_lsub, ap_lmul, ap_ldiv, ap_lrem, ap_lneg, ap_lcmp, ap_i2l, ap_l2i, ap_i2b, ap_i2s, ap_dup_int, ap_pop_int, ap_dup_ref, ap_pop_ref, ap_dup2, ap_ceq, ap_cne, ap_clt, ap_cge, ap_cgt, ap_cle, ap_zeq, ap_zne, ap_zlt, ap_zge, ap_zgt, ap_zle, ap_goto, ap_tsw, ap_lsw, ap_getI, ap_getJ, ap_getR, ap_putI, ap_putZ, ap_putJ, ap_iald, ap_lald, ap_bald, ap_aald, ap_iast, ap_last, ap_bast, ap_alen, ap_gst, ap_iret, ap_zret, ap_lret, ap_vret, ap_aret, ap_lmax, ap_labs, ap_acopy, ap_invV0, ap_invS0, ap_invV1, ap_invS1, ap_invV2, ap_invS2, ap_invV3, ap_invS3, ap_invV4, ap_invS4, ap_invV5, ap_invS5, tcnT, ocT, lenIT, lenWT, lenLT, lenVT, lenZT, startfT, vpL, sa_1, sa_2, sL_1, sL_2, si_1, si_2, sj_1, sj_2, ldI_e, ldL_e, ldA_e, inC_e, lk, st1, st2, rm1, rm2, Value.category, ctn_some, ctn_none, wsum, lv_args, Int32.reduceAdd, Int32.reduceSub, Int32.reduceMul, Nat.reduceAdd, Nat.reduceLT, Nat.reduceLeDiff, Nat.reduceEqDiff, Nat.reduceBEq, ↓reduceIte, true_and, and_true, Bool.false_eq_true, true_implies, false_implies, not_true_eq_false, not_false_eq_true, eq_false (nI_ge (show i < 4 by omega) (by decide)), eq_false (show ¬ (4 : Int32) ≤ nI i from nI_ge (show i < 4 by omega) (by decide))]
    refine v8_aboveWithDish hv hp hm hval ?_
    simp (decide := true) only [c8_best, run_s, nxt_e, ap_const, ap_lconst, ap_ild, ap_lld, ap_ald, ap_ist, ap_lst, ap_ast, ap_iinc, ap_iadd, ap_isub, ap_imul, ap_iand, ap_ior, ap_ixor, ap_ishl, ap_ishr, ap_iushr, ap_idiv, ap_irem, ap_ineg, ap_ladd, ap_lsub, ap_lmul, ap_ldiv, ap_lrem, ap_lneg, ap_lcmp, ap_i2l, ap_l2i, ap_i2b, ap_i2s, ap_dup_int, ap_pop_int, ap_dup_ref, ap_pop_ref, ap_dup2, ap_ceq, ap_cne, ap_clt, ap_cge, ap_cgt, ap_cle, ap_zeq, ap_zne, ap_zlt, ap_zge, ap_zgt, ap_zle, ap_goto, ap_tsw, ap_lsw, ap_getI, ap_getJ, ap_getR, ap_putI, ap_putZ, ap_putJ, ap_iald, ap_lald, ap_bald, ap_aald, ap_iast, ap_last, ap_bast, ap_alen, ap_gst, ap_iret, ap_zret, ap_lret, ap_vret, ap_aret, ap_lmax, ap_labs, ap_acopy, ap_invV0, ap_invS0, ap_invV1, ap_invS1, ap_invV2, ap_invS2, ap_invV3, ap_invS3, ap_invV4, ap_invS4, ap_invV5, ap_invS5, tcnT, ocT, lenIT, lenWT, lenLT, lenVT, lenZT, startfT, vpL, sa_1, sa_2, sL_1, sL_2, si_1, si_2, sj_1, sj_2, ldI_e, ldL_e, ldA_e, inC_e, lk, st1, st2, rm1, rm2, Value.category, ctn_some, ctn_none, wsum, lv_args, Int32.reduceAdd, Int32.reduceSub, Int32.reduceMul, Nat.reduceAdd, Nat.reduceLT, Nat.reduceLeDiff, Nat.reduceEqDiff, Nat.reduceBEq, ↓reduceIte, true_and, and_true, Bool.false_eq_true, true_implies, false_implies, not_true_eq_false, not_false_eq_true]
    refine v8_weights hv hm ?_
    have eA : F (fun m k => wd σ m k (nI i)) val [m] 0 = Ab σ m val (i + 1) := by unfold Ab; rw [← ei]
    have eB : ws4 (fun m k => wd σ m k (nI i)) m = Bb σ m (i + 1) := by unfold Bb; rw [← ei]
    rw [eA, eB]
    simp (decide := true) only [c8_best, run_s, nxt_e, ap_const, ap_lconst, ap_ild, ap_lld, ap_ald, ap_ist, ap_lst, ap_ast, ap_iinc, ap_iadd, ap_isub, ap_imul, ap_iand, ap_ior, ap_ixor, ap_ishl, ap_ishr, ap_iushr, ap_idiv, ap_irem, ap_ineg, ap_ladd, ap_lsub, ap_lmul, ap_ldiv, ap_lrem, ap_lneg, ap_lcmp, ap_i2l, ap_l2i, ap_i2b, ap_i2s, ap_dup_int, ap_pop_int, ap_dup_ref, ap_pop_ref, ap_dup2, ap_ceq, ap_cne, ap_clt, ap_cge, ap_cgt, ap_cle, ap_zeq, ap_zne, ap_zlt, ap_zge, ap_zgt, ap_zle, ap_goto, ap_tsw, ap_lsw, ap_getI, ap_getJ, ap_getR, ap_putI, ap_putZ, ap_putJ, ap_iald, ap_lald, ap_bald, ap_aald, ap_iast, ap_last, ap_bast, ap_alen, ap_gst, ap_iret, ap_zret, ap_lret, ap_vret, ap_aret, ap_lmax, ap_labs, ap_acopy, ap_invV0, ap_invS0, ap_invV1, ap_invS1, ap_invV2, ap_invS2, ap_invV3, ap_invS3, ap_invV4, ap_invS4, ap_invV5, ap_invS5, tcnT, ocT, lenIT, lenWT, lenLT, lenVT, lenZT, startfT, vpL, sa_1, sa_2, sL_1, sL_2, si_1, si_2, sj_1, sj_2, ldI_e, ldL_e, ldA_e, inC_e, lk, st1, st2, rm1, rm2, Value.category, ctn_some, ctn_none, wsum, lv_args, Int32.reduceAdd, Int32.reduceSub, Int32.reduceMul, Nat.reduceAdd, Nat.reduceLT, Nat.reduceLeDiff, Nat.reduceEqDiff, Nat.reduceBEq, ↓reduceIte, true_and, and_true, Bool.false_eq_true, true_implies, false_implies, not_true_eq_false, not_false_eq_true, nI_l (show Bb σ m (i + 1) < 2 ^ 31 by omega), lN_of]
    rw [← Int64.ofInt_mul, ← Int64.ofInt_mul]
    have hc : (Int64.ofInt (Ab σ m val (i + 1) * (Bb σ m (bsel (Ab σ m val) (Bb σ m) i) : Int)) ≤ Int64.ofInt (Ab σ m val (bsel (Ab σ m val) (Bb σ m) i) * (Bb σ m (i + 1) : Int))) ↔ Ab σ m val (i + 1) * (Bb σ m (bsel (Ab σ m val) (Bb σ m) i) : Int) ≤ Ab σ m val (bsel (Ab σ m val) (Bb σ m) i) * (Bb σ m (i + 1) : Int) := cmpI (by omega) (by omega)
    simp (decide := true) only [c8_best, run_s, nxt_e, ap_const, ap_lconst, ap_ild, ap_lld, ap_ald, ap_ist, ap_lst, ap_ast, ap_iinc, ap_iadd, ap_isub, ap_imul, ap_iand, ap_ior, ap_ixor, ap_ishl, ap_ishr, ap_iushr, ap_idiv, ap_irem, ap_ineg, ap_ladd, ap_lsub, ap_lmul, ap_ldiv, ap_lrem, ap_lneg, ap_lcmp, ap_i2l, ap_l2i, ap_i2b, ap_i2s, ap_dup_int, ap_pop_int, ap_dup_ref, ap_pop_ref, ap_dup2, ap_ceq, ap_cne, ap_clt, ap_cge, ap_cgt, ap_cle, ap_zeq, ap_zne, ap_zlt, ap_zge, ap_zgt, ap_zle, ap_goto, ap_tsw, ap_lsw, ap_getI, ap_getJ, ap_getR, ap_putI, ap_putZ, ap_putJ, ap_iald, ap_lald, ap_bald, ap_aald, ap_iast, ap_last, ap_bast, ap_alen, ap_gst, ap_iret, ap_zret, ap_lret, ap_vret, ap_aret, ap_lmax, ap_labs, ap_acopy, ap_invV0, ap_invS0, ap_invV1, ap_invS1, ap_invV2, ap_invS2, ap_invV3, ap_invS3, ap_invV4, ap_invS4, ap_invV5, ap_invS5, tcnT, ocT, lenIT, lenWT, lenLT, lenVT, lenZT, startfT, vpL, sa_1, sa_2, sL_1, sL_2, si_1, si_2, sj_1, sj_2, ldI_e, ldL_e, ldA_e, inC_e, lk, st1, st2, rm1, rm2, Value.category, ctn_some, ctn_none, wsum, lv_args, Int32.reduceAdd, Int32.reduceSub, Int32.reduceMul, Nat.reduceAdd, Nat.reduceLT, Nat.reduceLeDiff, Nat.reduceEqDiff, Nat.reduceBEq, ↓reduceIte, true_and, and_true, Bool.false_eq_true, true_implies, false_implies, not_true_eq_false, not_false_eq_true, lg_cmp_le, hc, nI_1]
    refine ⟨fun q => ?_, fun q => ?_⟩
    · have e : bsel (Ab σ m val) (Bb σ m) (i + 1) = bsel (Ab σ m val) (Bb σ m) i := if_neg (by omega)
      rw [e] at hii
      exact hii.sub [0, 3, 4, 5, 6, 7] rfl
    · have e : bsel (Ab σ m val) (Bb σ m) (i + 1) = i + 1 := if_pos (by omega)
      rw [e] at hii
      rw [ei]
      exact hii.sub [0, 1, 2, 3, 6, 7] rfl
/-! menus -/
def dh (mn k j : Nat) : Nat := mn / 4 ^ (k - 1 - j) % 4
theorem dh_c : ∀ k, k < 4 → ∀ j, j < k → ∀ mn, mn < 64 → nI mn >>> (2 * (nI k - 1 - nI j) &&& 31) &&& 3 = nI (dh mn k j) := by decide +kernel
def trf (σ : St) (k mn j : Nat) : Int32 := if j < k then nI (dh mn k j) else σ.1 29 j
theorem upd_step {f g : Nat → Int32} {a i : Nat} (h : a ≤ i) : upd (fun j => if a ≤ j ∧ j < i then f j else g j) i (f i) = fun j => if a ≤ j ∧ j < i + 1 then f j else g j := by
  funext j
  unfold upd
  by_cases e : j = i
  · subst e
    rw [if_pos rfl, if_pos (by omega)]
  · rw [if_neg e]
    show (if a ≤ j ∧ j < i then f j else g j) = _
    by_cases q : a ≤ j ∧ j < i
    · rw [if_pos q, if_pos (by omega)]
    · rw [if_neg q, if_neg (by omega)]
theorem L8_layTrial {σ : St} {K : Kr} {k mn : Nat} (hk : k < 4) (hmn : mn < 64) (h : K none (sa σ 30 (fun j => if 0 ≤ j ∧ j < 6 then trf σ k mn j else σ.1 30 j))) : ∀ (d i : Nat), i + d = 6 → VW M8_layTrial Xt K 2 [(3, .int (nI i)), (0, .ref 0), (1, .int (nI k)), (2, .int (nI mn))] [] (sa σ 30 (fun j => if 0 ≤ j ∧ j < i then trf σ k mn j else σ.1 30 j)) := by
  intro d
  induction d with
  | zero =>
    intro i hi
    have : i = 6 := by omega
    subst this
    refine run_sound s8_layTrial (fun pc => pc == 2) _ 1000 _ _ _ _ ?_
    simp (decide := true) only [c8_layTrial, run_s, nxt_e, ap_const, ap_lconst, ap_ild, ap_lld, ap_ald, ap_ist, ap_lst, ap_ast, ap_iinc, ap_iadd, ap_isub, ap_imul, ap_iand, ap_ior, ap_ixor, ap_ishl, ap_ishr, ap_iushr, ap_idiv, ap_irem, ap_ineg, ap_ladd, ap_lsub, ap_lmul, ap_ldiv, ap_lrem, ap_lneg, ap_lcmp, ap_i2l, ap_l2i, ap_i2b, ap_i2s, ap_dup_int, ap_pop_int, ap_dup_ref, ap_pop_ref, ap_dup2, ap_ceq, ap_cne, ap_clt, ap_cge, ap_cgt, ap_cle, ap_zeq, ap_zne, ap_zlt, ap_zge, ap_zgt, ap_zle, ap_goto, ap_tsw, ap_lsw, ap_getI, ap_getJ, ap_getR, ap_putI, ap_putZ, ap_putJ, ap_iald, ap_lald, ap_bald, ap_aald, ap_iast, ap_last, ap_bast, ap_alen, ap_gst, ap_iret, ap_zret, ap_lret, ap_vret, ap_aret, ap_lmax, ap_labs, ap_acopy, ap_invV0, ap_invS0, ap_invV1, ap_invS1, ap_invV2, ap_invS2, ap_invV3, ap_invS3, ap_invV4, ap_invS4, ap_invV5, ap_invS5, tcnT, ocT, lenIT, lenWT, lenLT, lenVT, lenZT, startfT, vpL, sa_1, sa_2, sL_1, sL_2, si_1, si_2, sj_1, sj_2, ldI_e, ldL_e, ldA_e, inC_e, lk, st1, st2, rm1, rm2, Value.category, ctn_some, ctn_none, wsum, lv_args, Int32.reduceAdd, Int32.reduceSub, Int32.reduceMul, Nat.reduceAdd, Nat.reduceLT, Nat.reduceLeDiff, Nat.reduceEqDiff, Nat.reduceBEq, ↓reduceIte, true_and, and_true, Bool.false_eq_true, true_implies, false_implies, not_true_eq_false, not_false_eq_true, eq_true (show (6 : Int32) ≤ nI 6 by decide)]
    exact h
  | succ d ih =>
    intro i hi
    have hii := ih (i + 1) (by omega)
    rw [← upd_step (f := trf σ k mn) (Nat.zero_le i), ← si_sa] at hii
    refine run_sound s8_layTrial (fun pc => pc == 2) _ 1000 _ _ _ _ ?_
    simp (decide := true) only [c8_layTrial, run_s, nxt_e, ap_const, ap_lconst, ap_ild, ap_lld, ap_ald, ap_ist, ap_lst, ap_ast, ap_iinc, ap_iadd, ap_isub, ap_imul, ap_iand, ap_ior, ap_ixor, ap_ishl, ap_ishr, ap_iushr, ap_idiv, ap_irem, ap_ineg, ap_ladd, ap_lsub, ap_lmul, ap_ldiv, ap_lrem, ap_lneg, ap_lcmp, ap_i2l, ap_l2i, ap_i2b, ap_i2s, ap_dup_int, ap_pop_int, ap_dup_ref, ap_pop_ref, ap_dup2, ap_ceq, ap_cne, ap_clt, ap_cge, ap_cgt, ap_cle, ap_zeq, ap_zne, ap_zlt, ap_zge, ap_zgt, ap_zle, ap_goto, ap_tsw, ap_lsw, ap_getI, ap_getJ, ap_getR, ap_putI, ap_putZ, ap_putJ, ap_iald, ap_lald, ap_bald, ap_aald, ap_iast, ap_last, ap_bast, ap_alen, ap_gst, ap_iret, ap_zret, ap_lret, ap_vret, ap_aret, ap_lmax, ap_labs, ap_acopy, ap_invV0, ap_invS0, ap_invV1, ap_invS1, ap_invV2, ap_invS2, ap_invV3, ap_invS3, ap_invV4, ap_invS4, ap_invV5, ap_invS5, tcnT, ocT, lenIT, lenWT, lenLT, lenVT, lenZT, startfT, vpL, sa_1, sa_2, sL_1, sL_2, si_1, si_2, sj_1, sj_2, ldI_e, ldL_e, ldA_e, inC_e, lk, st1, st2, rm1, rm2, Value.category, ctn_some, ctn_none, wsum, lv_args, Int32.reduceAdd, Int32.reduceSub, Int32.reduceMul, Nat.reduceAdd, Nat.reduceLT, Nat.reduceLeDiff, Nat.reduceEqDiff, Nat.reduceBEq, ↓reduceIte, true_and, and_true, Bool.false_eq_true, true_implies, false_implies, not_true_eq_false, not_false_eq_true, eq_false (show ¬ (6 : Int32) ≤ nI i from nI_ge (show i < 6 by omega) (by decide)), nI_leI (show k < 2 ^ 31 by omega) (show i < 2 ^ 31 by omega), vin (show i < 6 by omega) (by decide), nIc (show i < 2 ^ 31 by omega), nI_1]
    refine ⟨fun q => ?_, fun q => ?_⟩
    · have e : trf σ k mn i = σ.1 29 i := if_neg (by omega)
      rw [e] at hii
      exact hii.sub [0, 1, 2, 3] rfl
    · refine v8_dishOf ?_
      simp (decide := true) only [c8_layTrial, run_s, nxt_e, ap_const, ap_lconst, ap_ild, ap_lld, ap_ald, ap_ist, ap_lst, ap_ast, ap_iinc, ap_iadd, ap_isub, ap_imul, ap_iand, ap_ior, ap_ixor, ap_ishl, ap_ishr, ap_iushr, ap_idiv, ap_irem, ap_ineg, ap_ladd, ap_lsub, ap_lmul, ap_ldiv, ap_lrem, ap_lneg, ap_lcmp, ap_i2l, ap_l2i, ap_i2b, ap_i2s, ap_dup_int, ap_pop_int, ap_dup_ref, ap_pop_ref, ap_dup2, ap_ceq, ap_cne, ap_clt, ap_cge, ap_cgt, ap_cle, ap_zeq, ap_zne, ap_zlt, ap_zge, ap_zgt, ap_zle, ap_goto, ap_tsw, ap_lsw, ap_getI, ap_getJ, ap_getR, ap_putI, ap_putZ, ap_putJ, ap_iald, ap_lald, ap_bald, ap_aald, ap_iast, ap_last, ap_bast, ap_alen, ap_gst, ap_iret, ap_zret, ap_lret, ap_vret, ap_aret, ap_lmax, ap_labs, ap_acopy, ap_invV0, ap_invS0, ap_invV1, ap_invS1, ap_invV2, ap_invS2, ap_invV3, ap_invS3, ap_invV4, ap_invS4, ap_invV5, ap_invS5, tcnT, ocT, lenIT, lenWT, lenLT, lenVT, lenZT, startfT, vpL, sa_1, sa_2, sL_1, sL_2, si_1, si_2, sj_1, sj_2, ldI_e, ldL_e, ldA_e, inC_e, lk, st1, st2, rm1, rm2, Value.category, ctn_some, ctn_none, wsum, lv_args, Int32.reduceAdd, Int32.reduceSub, Int32.reduceMul, Nat.reduceAdd, Nat.reduceLT, Nat.reduceLeDiff, Nat.reduceEqDiff, Nat.reduceBEq, ↓reduceIte, true_and, and_true, Bool.false_eq_true, true_implies, false_implies, not_true_eq_false, not_false_eq_true, dh_c k hk i (by omega) mn hmn, vin (show i < 6 by omega) (by decide), nIc (show i < 2 ^ 31 by omega), nI_1]
      have e : trf σ k mn i = nI (dh mn k i) := if_pos (by omega)
      rw [e] at hii
      exact hii.sub [0, 1, 2, 3] rfl
theorem v8_layTrial {σ : St} {K : Kr} {k mn : Nat} (hk : k < 4) (hmn : mn < 64) (h : ∀ σ', sm [30] σ σ' → (∀ j, j < 6 → σ'.1 30 j = trf σ k mn j) → K none σ') : VM M8_layTrial [.ref 0, .int (nI k), .int (nI mn)] σ K := by
  refine vm_run s8_layTrial n8_layTrial (fun pc => pc == 2) 1000 (fun E => Nat.le_of_ble_eq_true rfl) ?_
  simp (decide := true) only [c8_layTrial, run_s, nxt_e, ap_const, ap_lconst, ap_ild, ap_lld, ap_ald, ap_ist, ap_lst, ap_ast, ap_iinc, ap_iadd, ap_isub, ap_imul, ap_iand, ap_ior, ap_ixor, ap_ishl, ap_ishr, ap_iushr, ap_idiv, ap_irem, ap_ineg, ap_ladd, ap_lsub, ap_lmul, ap_ldiv, ap_lrem, ap_lneg, ap_lcmp, ap_i2l, ap_l2i, ap_i2b, ap_i2s, ap_dup_int, ap_pop_int, ap_dup_ref, ap_pop_ref, ap_dup2, ap_ceq, ap_cne, ap_clt, ap_cge, ap_cgt, ap_cle, ap_zeq, ap_zne, ap_zlt, ap_zge, ap_zgt, ap_zle, ap_goto, ap_tsw, ap_lsw, ap_getI, ap_getJ, ap_getR, ap_putI, ap_putZ, ap_putJ, ap_iald, ap_lald, ap_bald, ap_aald, ap_iast, ap_last, ap_bast, ap_alen, ap_gst, ap_iret, ap_zret, ap_lret, ap_vret, ap_aret, ap_lmax, ap_labs, ap_acopy, ap_invV0, ap_invS0, ap_invV1, ap_invS1, ap_invV2, ap_invS2, ap_invV3, ap_invS3, ap_invV4, ap_invS4, ap_invV5, ap_invS5, tcnT, ocT, lenIT, lenWT, lenLT, lenVT, lenZT, startfT, vpL, sa_1, sa_2, sL_1, sL_2, si_1, si_2, sj_1, sj_2, ldI_e, ldL_e, ldA_e, inC_e, lk, st1, st2, rm1, rm2, Value.category, ctn_some, ctn_none, wsum, lv_args, Int32.reduceAdd, Int32.reduceSub, Int32.reduceMul, Nat.reduceAdd, Nat.reduceLT, Nat.reduceLeDiff, Nat.reduceEqDiff, Nat.reduceBEq, ↓reduceIte, true_and, and_true, Bool.false_eq_true, true_implies, false_implies, not_true_eq_false, not_false_eq_true]
  have := L8_layTrial (K := K) hk hmn (h _ (sm.rfl'.sa (by decide)) (fun j hj => by rw [sa_1, if_pos rfl, if_pos ⟨Nat.zero_le _, hj⟩])) 6 0 (by omega)
  have e : (fun j => if 0 ≤ j ∧ j < 0 then trf σ k mn j else σ.1 30 j) = σ.1 30 := by
    funext j
    rw [if_neg (by omega)]
  rw [e, sa_self] at this
  exact this.sub [0, 1, 2, 3] rfl
def wmn (σ : St) (k mn m j : Nat) : Nat := wd σ m j (trf σ k mn m)
theorem v8_aboveWithMenu {σ : St} {K : Kr} {n k mn : Nat} {val : Nat → Int} (hv : CV σ n) (hk : k < 4) (hkn : k ≤ n) (hmn : mn < 64) (hval : ∀ c, c < 2401 → sz c = k → σ.2 13 (pl c) = Int64.ofInt (val c))
    (h : ∀ σ', sm [13, 14, 30] σ σ' → (∀ i, sS k ≤ i → σ'.2 13 i = σ.2 13 i) → (∀ j, j < 6 → σ'.1 30 j = trf σ k mn j) → K (some (.long (Int64.ofInt (F (wmn σ k mn) val (Tm (al k) 0 n) 0)))) σ') : VM M8_aboveWithMenu [.ref 0, .int (nI k), .int (nI mn)] σ K := by
  have hn := hv.1.1
  refine vm_run s8_aboveWithMenu n8_aboveWithMenu (fun _ => false) 1000 (fun E => Nat.le_of_ble_eq_true rfl) ?_
  simp (decide := true) only [c8_aboveWithMenu, run_s, nxt_e, ap_const, ap_lconst, ap_ild, ap_lld, ap_ald, ap_ist, ap_lst, ap_ast, ap_iinc, ap_iadd, ap_isub, ap_imul, ap_iand, ap_ior, ap_ixor, ap_ishl, ap_ishr, ap_iushr, ap_idiv, ap_irem, ap_ineg, ap_ladd, ap_lsub, ap_lmul, ap_ldiv, ap_lrem, ap_lneg, ap_lcmp, ap_i2l, ap_l2i, ap_i2b, ap_i2s, ap_dup_int, ap_pop_int, ap_dup_ref, ap_pop_ref, ap_dup2, ap_ceq, ap_cne, ap_clt, ap_cge, ap_cgt, ap_cle, ap_zeq, ap_zne, ap_zlt, ap_zge, ap_zgt, ap_zle, ap_goto, ap_tsw, ap_lsw, ap_getI, ap_getJ, ap_getR, ap_putI, ap_putZ, ap_putJ, ap_iald, ap_lald, ap_bald, ap_aald, ap_iast, ap_last, ap_bast, ap_alen, ap_gst, ap_iret, ap_zret, ap_lret, ap_vret, ap_aret, ap_lmax, ap_labs, ap_acopy, ap_invV0, ap_invS0, ap_invV1, ap_invS1, ap_invV2, ap_invS2, ap_invV3, ap_invS3, ap_invV4, ap_invS4, ap_invV5, ap_invS5, tcnT, ocT, lenIT, lenWT, lenLT, lenVT, lenZT, startfT, vpL, sa_1, sa_2, sL_1, sL_2, si_1, si_2, sj_1, sj_2, ldI_e, ldL_e, ldA_e, inC_e, lk, st1, st2, rm1, rm2, Value.category, ctn_some, ctn_none, wsum, lv_args, Int32.reduceAdd, Int32.reduceSub, Int32.reduceMul, Nat.reduceAdd, Nat.reduceLT, Nat.reduceLeDiff, Nat.reduceEqDiff, Nat.reduceBEq, ↓reduceIte, true_and, and_true, Bool.false_eq_true, true_implies, false_implies, not_true_eq_false, not_false_eq_true]
  refine v8_layTrial hk hmn ?_
  intro σ1 hs1 ht
  have hv1 := hv.sm hs1 (by decide) (by decide) (by decide) (by decide) (by decide) (by decide)
  simp (decide := true) only [c8_aboveWithMenu, run_s, nxt_e, ap_const, ap_lconst, ap_ild, ap_lld, ap_ald, ap_ist, ap_lst, ap_ast, ap_iinc, ap_iadd, ap_isub, ap_imul, ap_iand, ap_ior, ap_ixor, ap_ishl, ap_ishr, ap_iushr, ap_idiv, ap_irem, ap_ineg, ap_ladd, ap_lsub, ap_lmul, ap_ldiv, ap_lrem, ap_lneg, ap_lcmp, ap_i2l, ap_l2i, ap_i2b, ap_i2s, ap_dup_int, ap_pop_int, ap_dup_ref, ap_pop_ref, ap_dup2, ap_ceq, ap_cne, ap_clt, ap_cge, ap_cgt, ap_cle, ap_zeq, ap_zne, ap_zlt, ap_zge, ap_zgt, ap_zle, ap_goto, ap_tsw, ap_lsw, ap_getI, ap_getJ, ap_getR, ap_putI, ap_putZ, ap_putJ, ap_iald, ap_lald, ap_bald, ap_aald, ap_iast, ap_last, ap_bast, ap_alen, ap_gst, ap_iret, ap_zret, ap_lret, ap_vret, ap_aret, ap_lmax, ap_labs, ap_acopy, ap_invV0, ap_invS0, ap_invV1, ap_invS1, ap_invV2, ap_invS2, ap_invV3, ap_invS3, ap_invV4, ap_invS4, ap_invV5, ap_invS5, tcnT, ocT, lenIT, lenWT, lenLT, lenVT, lenZT, startfT, vpL, sa_1, sa_2, sL_1, sL_2, si_1, si_2, sj_1, sj_2, ldI_e, ldL_e, ldA_e, inC_e, lk, st1, st2, rm1, rm2, Value.category, ctn_some, ctn_none, wsum, lv_args, Int32.reduceAdd, Int32.reduceSub, Int32.reduceMul, Nat.reduceAdd, Nat.reduceLT, Nat.reduceLeDiff, Nat.reduceEqDiff, Nat.reduceBEq, ↓reduceIte, true_and, and_true, Bool.false_eq_true, true_implies, false_implies, not_true_eq_false, not_false_eq_true, al_n k (by omega)]
  have hln : (Tm (al k) 0 n).length = k := (by decide +kernel : ∀ n, n < 7 → ∀ k, k ≤ n → (Tm (al k) 0 n).length = k) n (by omega) k hkn
  refine v8_foldMembers val hv1.1 hv1.2.1 (Or.inr rfl) (al_lt k (by omega)).1 (by omega) (by omega) (fun c hc hcs => by rw [(hs1 13 (by decide)).2]; exact hval c hc hcs) ?_
  intro σ2 hs2 hup hF
  have hF0 := hF 0 (by decide) (by have : sz 0 = 0 := rfl; omega)
  rw [pl0] at hF0
  simp (decide := true) only [c8_aboveWithMenu, run_s, nxt_e, ap_const, ap_lconst, ap_ild, ap_lld, ap_ald, ap_ist, ap_lst, ap_ast, ap_iinc, ap_iadd, ap_isub, ap_imul, ap_iand, ap_ior, ap_ixor, ap_ishl, ap_ishr, ap_iushr, ap_idiv, ap_irem, ap_ineg, ap_ladd, ap_lsub, ap_lmul, ap_ldiv, ap_lrem, ap_lneg, ap_lcmp, ap_i2l, ap_l2i, ap_i2b, ap_i2s, ap_dup_int, ap_pop_int, ap_dup_ref, ap_pop_ref, ap_dup2, ap_ceq, ap_cne, ap_clt, ap_cge, ap_cgt, ap_cle, ap_zeq, ap_zne, ap_zlt, ap_zge, ap_zgt, ap_zle, ap_goto, ap_tsw, ap_lsw, ap_getI, ap_getJ, ap_getR, ap_putI, ap_putZ, ap_putJ, ap_iald, ap_lald, ap_bald, ap_aald, ap_iast, ap_last, ap_bast, ap_alen, ap_gst, ap_iret, ap_zret, ap_lret, ap_vret, ap_aret, ap_lmax, ap_labs, ap_acopy, ap_invV0, ap_invS0, ap_invV1, ap_invS1, ap_invV2, ap_invS2, ap_invV3, ap_invS3, ap_invV4, ap_invS4, ap_invV5, ap_invS5, tcnT, ocT, lenIT, lenWT, lenLT, lenVT, lenZT, startfT, vpL, sa_1, sa_2, sL_1, sL_2, si_1, si_2, sj_1, sj_2, ldI_e, ldL_e, ldA_e, inC_e, lk, st1, st2, rm1, rm2, Value.category, ctn_some, ctn_none, wsum, lv_args, Int32.reduceAdd, Int32.reduceSub, Int32.reduceMul, Nat.reduceAdd, Nat.reduceLT, Nat.reduceLeDiff, Nat.reduceEqDiff, Nat.reduceBEq, ↓reduceIte, true_and, and_true, Bool.false_eq_true, true_implies, false_implies, not_true_eq_false, not_false_eq_true, hF0]
  have e : F (fun m j => wd σ1 m j (σ1.1 30 m)) val (Tm (al k) 0 n) 0 = F (wmn σ k mn) val (Tm (al k) 0 n) 0 := by
    refine F_congr (fun m hm j hj => ?_) 0
    have := Tm_mem hm
    unfold wmn
    rw [ht m (by omega), wd_sm hs1 (by decide) (by decide)]
  rw [e]
  refine h σ2 ((hs1.mono (by simp)).trans (hs2.mono (by simp))) (fun i hi => ?_) (fun j hj => ?_)
  · rw [hup i hi, (hs1 13 (by decide)).2]
  · rw [(hs2 30 (by decide)).1]
    exact ht j hj
