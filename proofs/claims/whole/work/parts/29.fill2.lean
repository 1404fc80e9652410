/-! ===== part 29: filling the table ===== -/
theorem wrc_lvr {σ : St} {r i j : Nat} (hk : KV σ r) (hi : i < 126) (hj : j < r) : ∀ c, c < 2401 → sz c ≤ 6 → (lvr (rfn σ j) (rsn σ j) c = some (up i) ↔ wrc σ i j = some (pl c)) := by
  obtain ⟨⟨-, f4⟩, h3, -⟩ := hk.at hj
  obtain ⟨-, u2, u3, -⟩ := up_spec (show i < 210 by omega)
  have hz := up_lt126 hi
  obtain ⟨i1, i2, i3⟩ := inc_spec u2 hz f4
  have s4 : rsn σ j ≤ 4 := (hk.rv.2 j hj).2.1
  intro c hc h6
  constructor
  · intro hl
    obtain ⟨-, a, b, d, e⟩ := lvr_spec hc f4 s4 hl
    unfold wrc
    by_cases q : rsn σ j = 4
    · rw [if_pos q]
      rw [if_pos q] at e
      rw [← e, Nat.add_zero]
    · rw [if_neg q]
      rw [if_neg q] at e
      have hs4 : rsn σ j < 4 := by omega
      have h5 : sz (up i) < 5 := by
        rcases Nat.lt_or_ge (sz (up i)) 5 with z | z
        · exact z
        · have d0 := d 0 (by decide)
          have d1 := d 1 (by decide)
          have d2 := d 2 (by decide)
          have d3 := d 3 (by decide)
          have hf : (if 0 = rfn σ j then 1 else 0) + (if 1 = rfn σ j then 1 else 0) + (if 2 = rfn σ j then 1 else 0) + (if 3 = rfn σ j then 1 else 0) = 1 := by
            rcases (show rfn σ j = 0 ∨ rfn σ j = 1 ∨ rfn σ j = 2 ∨ rfn σ j = 3 by omega) with z | z | z | z <;> rw [z] <;> rfl
          have hg : (if 0 = rsn σ j then 1 else 0) + (if 1 = rsn σ j then 1 else 0) + (if 2 = rsn σ j then 1 else 0) + (if 3 = rsn σ j then 1 else 0) = 1 := by
            rcases (show rsn σ j = 0 ∨ rsn σ j = 1 ∨ rsn σ j = 2 ∨ rsn σ j = 3 by omega) with z | z | z | z <;> rw [z] <;> rfl
          have hsc : sz c = sz (up i) + 2 := by unfold sz; omega
          omega
      rw [if_pos h5, ← e]
  · intro hw
    unfold wrc at hw
    by_cases q : rsn σ j = 4
    · rw [if_pos q] at hw
      have e : pl (up i + pw (rfn σ j)) = pl c := Option.some.inj hw
      have hc0 : c = up i + pw (rfn σ j) := by
        rw [← (pl_spec hc h6).1, ← e]
        exact (pl_spec i1 (by omega)).1
      subst hc0
      refine lvr_of hc u2 f4 s4 (fun k hk4 => ?_)
      rw [i3 k hk4, if_neg (show ¬ k = rsn σ j by omega)]
      rfl
    · rw [if_neg q] at hw
      have hs4 : rsn σ j < 4 := by omega
      by_cases h5 : sz (up i) < 5
      · rw [if_pos h5] at hw
        obtain ⟨j1, j2, j3⟩ := inc_spec i1 (by omega) hs4
        have e : pl (up i + pw (rfn σ j) + pw (rsn σ j)) = pl c := Option.some.inj hw
        have hc0 : c = up i + pw (rfn σ j) + pw (rsn σ j) := by
          rw [← (pl_spec hc h6).1, ← e]
          exact (pl_spec j1 (by omega)).1
        subst hc0
        refine lvr_of hc u2 f4 s4 (fun k hk4 => ?_)
        rw [j3 k hk4, i3 k hk4]
      · rw [if_neg h5] at hw
        cases hw
theorem wrc_lt {σ : St} {r i j q : Nat} (hk : KV σ r) (hi : i < 126) (hj : j < r) (h : wrc σ i j = some q) : ∃ c, c < 2401 ∧ sz c ≤ 6 ∧ q = pl c := by
  obtain ⟨⟨-, f4⟩, h3, -⟩ := hk.at hj
  obtain ⟨-, u2, u3, -⟩ := up_spec (show i < 210 by omega)
  have hz := up_lt126 hi
  obtain ⟨i1, i2, i3⟩ := inc_spec u2 hz f4
  have s4 : rsn σ j ≤ 4 := (hk.rv.2 j hj).2.1
  unfold wrc at h
  by_cases q4 : rsn σ j = 4
  · rw [if_pos q4] at h
    exact ⟨_, i1, by omega, (Option.some.inj h).symm⟩
  · rw [if_neg q4] at h
    by_cases h5 : sz (up i) < 5
    · rw [if_pos h5] at h
      obtain ⟨j1, j2, j3⟩ := inc_spec i1 (by omega) (show rsn σ j < 4 by omega)
      exact ⟨_, j1, by omega, (Option.some.inj h).symm⟩
    · rw [if_neg h5] at h
      cases h
theorem PP_ne {i jj j x : Nat} (h : ¬ (j = jj ∧ pl x = i)) : PP i jj j x = PP i (jj + 1) j x := by
  unfold PP
  congr 1
  apply propext
  omega
theorem TT_step {σ σ1 : St} {r i jj : Nat} (hk : KV σ r) (hT : TT σ σ1 r i jj) (hi : i < 126) (hj : jj < r) :
    ((∀ q, wrc σ i jj = some q → ∀ b, b < 2 ^ 31 → σ1.1 11 q = nI b → BS σ r (up i) + rpn σ jj ≤ b) → TT σ σ1 r i (jj + 1)) ∧
    (∀ q, wrc σ i jj = some q → (∀ b, b < 2 ^ 31 → σ1.1 11 q = nI b → b < BS σ r (up i) + rpn σ jj) → TT σ (si σ1 11 q (nI (BS σ r (up i) + rpn σ jj))) r i (jj + 1)) := by
  have u := up_spec (show i < 210 by omega)
  have other : ∀ c, c < 2401 → sz c ≤ 6 → wrc σ i jj ≠ some (pl c) → mxc (rfn σ) (rsn σ) (rpn σ) (BS σ r) (PP i jj) c r = mxc (rfn σ) (rsn σ) (rpn σ) (BS σ r) (PP i (jj + 1)) c r := by
    intro c hc h6 hne
    refine mxc_same r (fun j x hj' hl => PP_ne (fun ⟨e1, e2⟩ => hne ?_))
    subst e1
    have h4 := hk.rv.2 j hj'
    obtain ⟨a, b, -⟩ := lvr_spec hc h4.1 h4.2.1 hl
    have hx : x = up i := by rw [← e2]; exact (pl_spec a (by omega)).1.symm
    rw [hx] at hl
    exact (wrc_lvr hk hi hj c hc h6).mp hl
  have same : ∀ c, c < 2401 → sz c ≤ 6 → wrc σ i jj = some (pl c) → mxc (rfn σ) (rsn σ) (rpn σ) (BS σ r) (PP i (jj + 1)) c r = max (mxc (rfn σ) (rsn σ) (rpn σ) (BS σ r) (PP i jj) c r) (rpn σ jj + BS σ r (up i)) := by
    intro c hc h6 he
    refine mxc_add ((wrc_lvr hk hi hj c hc h6).mpr he) ?_ ?_ r hj (fun j x _ hne _ => PP_ne (fun z => hne z.1))
    · unfold PP
      rw [u.1]
      exact decide_eq_false (by omega)
    · unfold PP
      rw [u.1]
      exact decide_eq_true (by omega)
  constructor
  · intro h c hc h6
    by_cases e : wrc σ i jj = some (pl c)
    · have h1 := h _ e _ (by have := mxc_54 (i := i) (jj := jj) hk hc h6; omega) (hT c hc h6)
      rw [hT c hc h6, same c hc h6 e, Nat.max_eq_left (by omega)]
    · rw [hT c hc h6, other c hc h6 e]
  · intro q hq h c hc h6
    rw [si_1, if_pos rfl]
    unfold upd
    by_cases e : pl c = q
    · rw [← e] at hq
      have hm := mxc_54 (i := i) (jj := jj) hk hc h6
      have h1 := h (mxc (rfn σ) (rsn σ) (rpn σ) (BS σ r) (PP i jj) c r) (by omega) (by rw [← e]; exact hT c hc h6)
      rw [if_pos e, same c hc h6 hq, Nat.max_eq_right (by omega), Nat.add_comm]
    · rw [if_neg e, hT c hc h6, other c hc h6 (fun z => e (by rw [hq] at z; exact (Option.some.inj z).symm))]
theorem L2_fill_in {σ : St} {K : Kr} {r i : Nat} (hk : KV σ r) (hp : PT σ) (hi : i < 126) (h : ∀ σ', sm [11] σ σ' → TT σ σ' r i r → VW M2_fillMost Xt K 75 [(1, .int (nI i)), (0, .ref 7)] [] σ') :
    ∀ (d j : Nat), j + d = r → ∀ σ1, sm [11] σ σ1 → TT σ σ1 r i j → VW M2_fillMost Xt K 38 [(2, .int (nI j)), (1, .int (nI i)), (0, .ref 7)] [] σ1 := by
  have hr := hk.1
  intro d
  induction d with
  | zero =>
    intro j hj σ1 hs hT
    have : j = r := by omega
    subst this
    have hk1 := hk.sm hs (by decide) (by decide) (by decide) (by decide)
    refine run_sound s2_fillMost (fun pc => pc == 38 || pc == 75) _ 1000 _ _ _ _ ?_
    set_option maxRecDepth 100000 in simp (decide := true) only [c2_fillMost, run_s, nxt_e, ap_const, ap_lconst, ap_ild, ap_lld, ap_ald, ap_ist, ap_lst, ap_ast, ap_iinc, ap_iadd, ap_isub, ap_imul, ap_iand, ap_ior, ap_ixor, ap_ishl, ap_ishr, ap_iushr, ap_idiv, ap_irem, ap_ineg, ap_ladd, ap_lsub, ap_lmul, ap_ldiv, ap_lrem, ap_lneg, ap_lcmp, ap_i2l, ap_l2i, ap_i2b, ap_i2s, ap_dup_int, ap_pop_int, ap_dup_ref, ap_pop_ref, ap_dup2, ap_goto, ap_tsw, ap_lsw, ap_getI, ap_getJ, ap_getR, ap_putI, ap_putZ, ap_putJ, ap_iald, ap_lald, ap_bald, ap_aald, ap_iast, ap_last, ap_bast, ap_alen, ap_gst, ap_iret, ap_zret, ap_lret, ap_vret, ap_aret, ap_lmax, ap_labs, ap_acopy, ap_invV0, ap_invS0, ap_invV1, ap_invS1, ap_invV2, ap_invS2, ap_invV3, ap_invS3, ap_invV4, ap_invS4, ap_invV5, ap_invS5, tcnT, ocT, lenIT, lenWT, lenLT, lenVT, lenZT, startfT, vpL, sa_1, sa_2, sL_1, sL_2, si_1, si_2, sj_1, sj_2, ldI_e, ldL_e, ldA_e, inC_e, lk, st1, st2, rm1, rm2, Value.category, ctn_some, ctn_none, wsum, lv_args, Int32.reduceAdd, Int32.reduceSub, Int32.reduceMul, Nat.reduceAdd, Nat.reduceLT, Nat.reduceLeDiff, Nat.reduceEqDiff, Nat.reduceBEq, ↓reduceIte, true_and, and_true, Bool.false_eq_true, true_implies, false_implies, not_true_eq_false, not_false_eq_true, Bool.or_true, Bool.or_false, Bool.true_or, Bool.false_or, bx_ceq, bx_clt, bx_cge, bx_cgt, bx_cle, bx_cne, bx_zeq, bx_zlt, bx_zge, bx_zgt, bx_zle, bx_zne, iteP, hk1.2.1, eq_true (nI_le (Nat.le_refl j) (by omega))]
    exact (h σ1 hs hT).sub [1, 2] rfl
  | succ d ih =>
    intro j hj σ1 hs hT
    have hk1 := hk.sm hs (by decide) (by decide) (by decide) (by decide)
    have hp1 := hp.sm hs (by decide) (by decide)
    have hj6 : j < 6 := by omega
    obtain ⟨t1, t2⟩ := TT_at hk hT hi
    obtain ⟨-, -, k3, k4, k5⟩ := hk.at (show j < r by omega)
    have k3' : σ1.1 10 j = nI (rpn σ j) := by rw [(hs 10 (by decide)).1]; exact k3
    have ew : wrc σ1 i j = wrc σ i j := by unfold wrc; rw [rfn_sm hs (by decide), rsn_sm hs (by decide)]
    have st := TT_step hk hT hi (show j < r by omega)
    refine run_sound s2_fillMost (fun pc => pc == 38 || pc == 75) _ 1000 _ _ _ _ ?_
    set_option maxRecDepth 100000 in simp (decide := true) only [c2_fillMost, run_s, nxt_e, ap_const, ap_lconst, ap_ild, ap_lld, ap_ald, ap_ist, ap_lst, ap_ast, ap_iinc, ap_iadd, ap_isub, ap_imul, ap_iand, ap_ior, ap_ixor, ap_ishl, ap_ishr, ap_iushr, ap_idiv, ap_irem, ap_ineg, ap_ladd, ap_lsub, ap_lmul, ap_ldiv, ap_lrem, ap_lneg, ap_lcmp, ap_i2l, ap_l2i, ap_i2b, ap_i2s, ap_dup_int, ap_pop_int, ap_dup_ref, ap_pop_ref, ap_dup2, ap_goto, ap_tsw, ap_lsw, ap_getI, ap_getJ, ap_getR, ap_putI, ap_putZ, ap_putJ, ap_iald, ap_lald, ap_bald, ap_aald, ap_iast, ap_last, ap_bast, ap_alen, ap_gst, ap_iret, ap_zret, ap_lret, ap_vret, ap_aret, ap_lmax, ap_labs, ap_acopy, ap_invV0, ap_invS0, ap_invV1, ap_invS1, ap_invV2, ap_invS2, ap_invV3, ap_invS3, ap_invV4, ap_invS4, ap_invV5, ap_invS5, tcnT, ocT, lenIT, lenWT, lenLT, lenVT, lenZT, startfT, vpL, sa_1, sa_2, sL_1, sL_2, si_1, si_2, sj_1, sj_2, ldI_e, ldL_e, ldA_e, inC_e, lk, st1, st2, rm1, rm2, Value.category, ctn_some, ctn_none, wsum, lv_args, Int32.reduceAdd, Int32.reduceSub, Int32.reduceMul, Nat.reduceAdd, Nat.reduceLT, Nat.reduceLeDiff, Nat.reduceEqDiff, Nat.reduceBEq, ↓reduceIte, true_and, and_true, Bool.false_eq_true, true_implies, false_implies, not_true_eq_false, not_false_eq_true, Bool.or_true, Bool.or_false, Bool.true_or, Bool.false_or, bx_ceq, bx_clt, bx_cge, bx_cgt, bx_cle, bx_cne, bx_zeq, bx_zlt, bx_zge, bx_zgt, bx_zle, bx_zne, iteP, hk1.2.1, eq_false (nI_ge (show j < r by omega) (by omega))]
    refine v2_withRecipe hk1 hp1 hi (by omega) ?_
    rw [ew]
    set_option maxRecDepth 100000 in simp (decide := true) only [c2_fillMost, run_s, nxt_e, ap_const, ap_lconst, ap_ild, ap_lld, ap_ald, ap_ist, ap_lst, ap_ast, ap_iinc, ap_iadd, ap_isub, ap_imul, ap_iand, ap_ior, ap_ixor, ap_ishl, ap_ishr, ap_iushr, ap_idiv, ap_irem, ap_ineg, ap_ladd, ap_lsub, ap_lmul, ap_ldiv, ap_lrem, ap_lneg, ap_lcmp, ap_i2l, ap_l2i, ap_i2b, ap_i2s, ap_dup_int, ap_pop_int, ap_dup_ref, ap_pop_ref, ap_dup2, ap_goto, ap_tsw, ap_lsw, ap_getI, ap_getJ, ap_getR, ap_putI, ap_putZ, ap_putJ, ap_iald, ap_lald, ap_bald, ap_aald, ap_iast, ap_last, ap_bast, ap_alen, ap_gst, ap_iret, ap_zret, ap_lret, ap_vret, ap_aret, ap_lmax, ap_labs, ap_acopy, ap_invV0, ap_invS0, ap_invV1, ap_invS1, ap_invV2, ap_invS2, ap_invV3, ap_invS3, ap_invV4, ap_invS4, ap_invV5, ap_invS5, tcnT, ocT, lenIT, lenWT, lenLT, lenVT, lenZT, startfT, vpL, sa_1, sa_2, sL_1, sL_2, si_1, si_2, sj_1, sj_2, ldI_e, ldL_e, ldA_e, inC_e, lk, st1, st2, rm1, rm2, Value.category, ctn_some, ctn_none, wsum, lv_args, Int32.reduceAdd, Int32.reduceSub, Int32.reduceMul, Nat.reduceAdd, Nat.reduceLT, Nat.reduceLeDiff, Nat.reduceEqDiff, Nat.reduceBEq, ↓reduceIte, true_and, and_true, Bool.false_eq_true, true_implies, false_implies, not_true_eq_false, not_false_eq_true, Bool.or_true, Bool.or_false, Bool.true_or, Bool.false_or, bx_ceq, bx_clt, bx_cge, bx_cgt, bx_cle, bx_cne, bx_zeq, bx_zlt, bx_zge, bx_zgt, bx_zle, bx_zne, iteP, vin (show i < 210 by omega) (by decide), nIc (show i < 2 ^ 31 by omega), vin hj6 (by decide), nIc (show j < 2 ^ 31 by omega), t1, k3', nI_add]
    refine v2_raise (a := 0) (by omega) (fun q hq => ?_) (fun h0 => ?_) (fun q hq h1 => ?_)
    · obtain ⟨c, c1, c2, c3⟩ := wrc_lt hk hi (show j < r by omega) hq
      have := mxc_54 (i := i) (jj := j) hk c1 c2
      subst c3
      exact ⟨(pl_spec c1 c2).2.1, _, by omega, hT c c1 c2⟩
    · set_option maxRecDepth 100000 in simp (decide := true) only [c2_fillMost, run_s, nxt_e, ap_const, ap_lconst, ap_ild, ap_lld, ap_ald, ap_ist, ap_lst, ap_ast, ap_iinc, ap_iadd, ap_isub, ap_imul, ap_iand, ap_ior, ap_ixor, ap_ishl, ap_ishr, ap_iushr, ap_idiv, ap_irem, ap_ineg, ap_ladd, ap_lsub, ap_lmul, ap_ldiv, ap_lrem, ap_lneg, ap_lcmp, ap_i2l, ap_l2i, ap_i2b, ap_i2s, ap_dup_int, ap_pop_int, ap_dup_ref, ap_pop_ref, ap_dup2, ap_goto, ap_tsw, ap_lsw, ap_getI, ap_getJ, ap_getR, ap_putI, ap_putZ, ap_putJ, ap_iald, ap_lald, ap_bald, ap_aald, ap_iast, ap_last, ap_bast, ap_alen, ap_gst, ap_iret, ap_zret, ap_lret, ap_vret, ap_aret, ap_lmax, ap_labs, ap_acopy, ap_invV0, ap_invS0, ap_invV1, ap_invS1, ap_invV2, ap_invS2, ap_invV3, ap_invS3, ap_invV4, ap_invS4, ap_invV5, ap_invS5, tcnT, ocT, lenIT, lenWT, lenLT, lenVT, lenZT, startfT, vpL, sa_1, sa_2, sL_1, sL_2, si_1, si_2, sj_1, sj_2, ldI_e, ldL_e, ldA_e, inC_e, lk, st1, st2, rm1, rm2, Value.category, ctn_some, ctn_none, wsum, lv_args, Int32.reduceAdd, Int32.reduceSub, Int32.reduceMul, Nat.reduceAdd, Nat.reduceLT, Nat.reduceLeDiff, Nat.reduceEqDiff, Nat.reduceBEq, ↓reduceIte, true_and, and_true, Bool.false_eq_true, true_implies, false_implies, not_true_eq_false, not_false_eq_true, Bool.or_true, Bool.or_false, Bool.true_or, Bool.false_or, bx_ceq, bx_clt, bx_cge, bx_cgt, bx_cle, bx_cne, bx_zeq, bx_zlt, bx_zge, bx_zgt, bx_zle, bx_zne, iteP, nI_1]
      exact (ih (j + 1) (by omega) σ1 hs (st.1 h0)).sub [0, 1, 2] rfl
    · set_option maxRecDepth 100000 in simp (decide := true) only [c2_fillMost, run_s, nxt_e, ap_const, ap_lconst, ap_ild, ap_lld, ap_ald, ap_ist, ap_lst, ap_ast, ap_iinc, ap_iadd, ap_isub, ap_imul, ap_iand, ap_ior, ap_ixor, ap_ishl, ap_ishr, ap_iushr, ap_idiv, ap_irem, ap_ineg, ap_ladd, ap_lsub, ap_lmul, ap_ldiv, ap_lrem, ap_lneg, ap_lcmp, ap_i2l, ap_l2i, ap_i2b, ap_i2s, ap_dup_int, ap_pop_int, ap_dup_ref, ap_pop_ref, ap_dup2, ap_goto, ap_tsw, ap_lsw, ap_getI, ap_getJ, ap_getR, ap_putI, ap_putZ, ap_putJ, ap_iald, ap_lald, ap_bald, ap_aald, ap_iast, ap_last, ap_bast, ap_alen, ap_gst, ap_iret, ap_zret, ap_lret, ap_vret, ap_aret, ap_lmax, ap_labs, ap_acopy, ap_invV0, ap_invS0, ap_invV1, ap_invS1, ap_invV2, ap_invS2, ap_invV3, ap_invS3, ap_invV4, ap_invS4, ap_invV5, ap_invS5, tcnT, ocT, lenIT, lenWT, lenLT, lenVT, lenZT, startfT, vpL, sa_1, sa_2, sL_1, sL_2, si_1, si_2, sj_1, sj_2, ldI_e, ldL_e, ldA_e, inC_e, lk, st1, st2, rm1, rm2, Value.category, ctn_some, ctn_none, wsum, lv_args, Int32.reduceAdd, Int32.reduceSub, Int32.reduceMul, Nat.reduceAdd, Nat.reduceLT, Nat.reduceLeDiff, Nat.reduceEqDiff, Nat.reduceBEq, ↓reduceIte, true_and, and_true, Bool.false_eq_true, true_implies, false_implies, not_true_eq_false, not_false_eq_true, Bool.or_true, Bool.or_false, Bool.true_or, Bool.false_or, bx_ceq, bx_clt, bx_cge, bx_cgt, bx_cle, bx_cne, bx_zeq, bx_zlt, bx_zge, bx_zgt, bx_zle, bx_zne, iteP, nI_1]
      exact (ih (j + 1) (by omega) _ (hs.si (by decide)) (st.2 q hq h1)).sub [0, 1, 2] rfl
theorem TT_next {σ σ1 : St} {r i : Nat} (hT : TT σ σ1 r i r) : TT σ σ1 r (i + 1) 0 := by
  intro c hc h6
  rw [hT c hc h6]
  congr 1
  refine mxc_same r (fun j x hj _ => ?_)
  unfold PP
  congr 1
  apply propext
  omega
theorem TT_done {σ σ1 : St} {r : Nat} (hk : KV σ r) (hT : TT σ σ1 r 126 0) : ∀ c, c < 2401 → sz c ≤ 6 → σ1.1 11 (pl c) = nI (BS σ r c) := by
  intro c hc h6
  rw [hT c hc h6, mxc_all r (fun j x hj hl => ?_)]
  · unfold BS
    rw [BB_eq hk.rv hc]
  · have h4 := hk.rv.2 j hj
    obtain ⟨a, b, -⟩ := lvr_spec hc h4.1 h4.2.1 hl
    have h1 := (pl_spec a (by omega)).2.2.2
    have := sS_mono (show sz x + 1 ≤ 6 by omega)
    have e6 : sS 6 = 126 := rfl
    exact decide_eq_true (Or.inl (by omega))
theorem L2_fill {σ : St} {K : Kr} {r : Nat} (hk : KV σ r) (hp : PT σ) (h : ∀ σ', sm [11] σ σ' → (∀ c, c < 2401 → sz c ≤ 6 → σ'.1 11 (pl c) = nI (BS σ r c)) → K none σ') :
    ∀ (d i : Nat), i + d = 126 → ∀ σ1, sm [11] σ σ1 → TT σ σ1 r i 0 → VW M2_fillMost Xt K 26 [(1, .int (nI i)), (0, .ref 7)] [] σ1 := by
  intro d
  induction d with
  | zero =>
    intro i hi σ1 hs hT
    have : i = 126 := by omega
    subst this
    refine run_sound s2_fillMost (fun pc => pc == 26 || pc == 38 || pc == 75) _ 1000 _ _ _ _ ?_
    set_option maxRecDepth 100000 in simp (decide := true) only [c2_fillMost, run_s, nxt_e, ap_const, ap_lconst, ap_ild, ap_lld, ap_ald, ap_ist, ap_lst, ap_ast, ap_iinc, ap_iadd, ap_isub, ap_imul, ap_iand, ap_ior, ap_ixor, ap_ishl, ap_ishr, ap_iushr, ap_idiv, ap_irem, ap_ineg, ap_ladd, ap_lsub, ap_lmul, ap_ldiv, ap_lrem, ap_lneg, ap_lcmp, ap_i2l, ap_l2i, ap_i2b, ap_i2s, ap_dup_int, ap_pop_int, ap_dup_ref, ap_pop_ref, ap_dup2, ap_goto, ap_tsw, ap_lsw, ap_getI, ap_getJ, ap_getR, ap_putI, ap_putZ, ap_putJ, ap_iald, ap_lald, ap_bald, ap_aald, ap_iast, ap_last, ap_bast, ap_alen, ap_gst, ap_iret, ap_zret, ap_lret, ap_vret, ap_aret, ap_lmax, ap_labs, ap_acopy, ap_invV0, ap_invS0, ap_invV1, ap_invS1, ap_invV2, ap_invS2, ap_invV3, ap_invS3, ap_invV4, ap_invS4, ap_invV5, ap_invS5, tcnT, ocT, lenIT, lenWT, lenLT, lenVT, lenZT, startfT, vpL, sa_1, sa_2, sL_1, sL_2, si_1, si_2, sj_1, sj_2, ldI_e, ldL_e, ldA_e, inC_e, lk, st1, st2, rm1, rm2, Value.category, ctn_some, ctn_none, wsum, lv_args, Int32.reduceAdd, Int32.reduceSub, Int32.reduceMul, Nat.reduceAdd, Nat.reduceLT, Nat.reduceLeDiff, Nat.reduceEqDiff, Nat.reduceBEq, ↓reduceIte, true_and, and_true, Bool.false_eq_true, true_implies, false_implies, not_true_eq_false, not_false_eq_true, Bool.or_true, Bool.or_false, Bool.true_or, Bool.false_or, bx_ceq, bx_clt, bx_cge, bx_cgt, bx_cle, bx_cne, bx_zeq, bx_zlt, bx_zge, bx_zgt, bx_zle, bx_zne, iteP, eq_true (show (126 : Int32) ≤ nI 126 by decide)]
    exact h σ1 hs (TT_done hk hT)
  | succ d ih =>
    intro i hi σ1 hs hT
    refine run_sound s2_fillMost (fun pc => pc == 26 || pc == 38 || pc == 75) _ 1000 _ _ _ _ ?_
    set_option maxRecDepth 100000 in simp (decide := true) only [c2_fillMost, run_s, nxt_e, ap_const, ap_lconst, ap_ild, ap_lld, ap_ald, ap_ist, ap_lst, ap_ast, ap_iinc, ap_iadd, ap_isub, ap_imul, ap_iand, ap_ior, ap_ixor, ap_ishl, ap_ishr, ap_iushr, ap_idiv, ap_irem, ap_ineg, ap_ladd, ap_lsub, ap_lmul, ap_ldiv, ap_lrem, ap_lneg, ap_lcmp, ap_i2l, ap_l2i, ap_i2b, ap_i2s, ap_dup_int, ap_pop_int, ap_dup_ref, ap_pop_ref, ap_dup2, ap_goto, ap_tsw, ap_lsw, ap_getI, ap_getJ, ap_getR, ap_putI, ap_putZ, ap_putJ, ap_iald, ap_lald, ap_bald, ap_aald, ap_iast, ap_last, ap_bast, ap_alen, ap_gst, ap_iret, ap_zret, ap_lret, ap_vret, ap_aret, ap_lmax, ap_labs, ap_acopy, ap_invV0, ap_invS0, ap_invV1, ap_invS1, ap_invV2, ap_invS2, ap_invV3, ap_invS3, ap_invV4, ap_invS4, ap_invV5, ap_invS5, tcnT, ocT, lenIT, lenWT, lenLT, lenVT, lenZT, startfT, vpL, sa_1, sa_2, sL_1, sL_2, si_1, si_2, sj_1, sj_2, ldI_e, ldL_e, ldA_e, inC_e, lk, st1, st2, rm1, rm2, Value.category, ctn_some, ctn_none, wsum, lv_args, Int32.reduceAdd, Int32.reduceSub, Int32.reduceMul, Nat.reduceAdd, Nat.reduceLT, Nat.reduceLeDiff, Nat.reduceEqDiff, Nat.reduceBEq, ↓reduceIte, true_and, and_true, Bool.false_eq_true, true_implies, false_implies, not_true_eq_false, not_false_eq_true, Bool.or_true, Bool.or_false, Bool.true_or, Bool.false_or, bx_ceq, bx_clt, bx_cge, bx_cgt, bx_cle, bx_cne, bx_zeq, bx_zlt, bx_zge, bx_zgt, bx_zle, bx_zne, iteP, eq_false (show ¬ (126 : Int32) ≤ nI i from nI_ge (show i < 126 by omega) (by decide))]
    refine (L2_fill_in hk hp (by omega) ?_ r 0 (by omega) σ1 hs hT).sub [0, 1, 2] rfl
    intro σ2 hs2 hT2
    refine run_sound s2_fillMost (fun pc => pc == 26 || pc == 38 || pc == 75) _ 1000 _ _ _ _ ?_
    set_option maxRecDepth 100000 in simp (decide := true) only [c2_fillMost, run_s, nxt_e, ap_const, ap_lconst, ap_ild, ap_lld, ap_ald, ap_ist, ap_lst, ap_ast, ap_iinc, ap_iadd, ap_isub, ap_imul, ap_iand, ap_ior, ap_ixor, ap_ishl, ap_ishr, ap_iushr, ap_idiv, ap_irem, ap_ineg, ap_ladd, ap_lsub, ap_lmul, ap_ldiv, ap_lrem, ap_lneg, ap_lcmp, ap_i2l, ap_l2i, ap_i2b, ap_i2s, ap_dup_int, ap_pop_int, ap_dup_ref, ap_pop_ref, ap_dup2, ap_goto, ap_tsw, ap_lsw, ap_getI, ap_getJ, ap_getR, ap_putI, ap_putZ, ap_putJ, ap_iald, ap_lald, ap_bald, ap_aald, ap_iast, ap_last, ap_bast, ap_alen, ap_gst, ap_iret, ap_zret, ap_lret, ap_vret, ap_aret, ap_lmax, ap_labs, ap_acopy, ap_invV0, ap_invS0, ap_invV1, ap_invS1, ap_invV2, ap_invS2, ap_invV3, ap_invS3, ap_invV4, ap_invS4, ap_invV5, ap_invS5, tcnT, ocT, lenIT, lenWT, lenLT, lenVT, lenZT, startfT, vpL, sa_1, sa_2, sL_1, sL_2, si_1, si_2, sj_1, sj_2, ldI_e, ldL_e, ldA_e, inC_e, lk, st1, st2, rm1, rm2, Value.category, ctn_some, ctn_none, wsum, lv_args, Int32.reduceAdd, Int32.reduceSub, Int32.reduceMul, Nat.reduceAdd, Nat.reduceLT, Nat.reduceLeDiff, Nat.reduceEqDiff, Nat.reduceBEq, ↓reduceIte, true_and, and_true, Bool.false_eq_true, true_implies, false_implies, not_true_eq_false, not_false_eq_true, Bool.or_true, Bool.or_false, Bool.true_or, Bool.false_or, bx_ceq, bx_clt, bx_cge, bx_cgt, bx_cle, bx_cne, bx_zeq, bx_zlt, bx_zge, bx_zgt, bx_zle, bx_zne, iteP, nI_1]
    exact (ih (i + 1) (by omega) σ2 hs2 (TT_next hT2)).sub [0, 1] rfl
theorem L2_zero {σ : St} {K : Kr} (h : ∀ σ', sm [11] σ σ' → (∀ i, i < 210 → σ'.1 11 i = nI 0) → VW M2_fillMost Xt K 24 [(0, .ref 7)] [] σ') : ∀ (d i : Nat), i + d = 210 → ∀ σ1, sm [11] σ σ1 → (∀ j, j < i → σ1.1 11 j = nI 0) → VW M2_fillMost Xt K 2 [(1, .int (nI i)), (0, .ref 7)] [] σ1 := by
  intro d
  induction d with
  | zero =>
    intro i hi σ1 hs hz
    have : i = 210 := by omega
    subst this
    refine run_sound s2_fillMost (fun pc => pc == 2 || pc == 24) _ 1000 _ _ _ _ ?_
    set_option maxRecDepth 100000 in simp (decide := true) only [c2_fillMost, run_s, nxt_e, ap_const, ap_lconst, ap_ild, ap_lld, ap_ald, ap_ist, ap_lst, ap_ast, ap_iinc, ap_iadd, ap_isub, ap_imul, ap_iand, ap_ior, ap_ixor, ap_ishl, ap_ishr, ap_iushr, ap_idiv, ap_irem, ap_ineg, ap_ladd, ap_lsub, ap_lmul, ap_ldiv, ap_lrem, ap_lneg, ap_lcmp, ap_i2l, ap_l2i, ap_i2b, ap_i2s, ap_dup_int, ap_pop_int, ap_dup_ref, ap_pop_ref, ap_dup2, ap_goto, ap_tsw, ap_lsw, ap_getI, ap_getJ, ap_getR, ap_putI, ap_putZ, ap_putJ, ap_iald, ap_lald, ap_bald, ap_aald, ap_iast, ap_last, ap_bast, ap_alen, ap_gst, ap_iret, ap_zret, ap_lret, ap_vret, ap_aret, ap_lmax, ap_labs, ap_acopy, ap_invV0, ap_invS0, ap_invV1, ap_invS1, ap_invV2, ap_invS2, ap_invV3, ap_invS3, ap_invV4, ap_invS4, ap_invV5, ap_invS5, tcnT, ocT, lenIT, lenWT, lenLT, lenVT, lenZT, startfT, vpL, sa_1, sa_2, sL_1, sL_2, si_1, si_2, sj_1, sj_2, ldI_e, ldL_e, ldA_e, inC_e, lk, st1, st2, rm1, rm2, Value.category, ctn_some, ctn_none, wsum, lv_args, Int32.reduceAdd, Int32.reduceSub, Int32.reduceMul, Nat.reduceAdd, Nat.reduceLT, Nat.reduceLeDiff, Nat.reduceEqDiff, Nat.reduceBEq, ↓reduceIte, true_and, and_true, Bool.false_eq_true, true_implies, false_implies, not_true_eq_false, not_false_eq_true, Bool.or_true, Bool.or_false, Bool.true_or, Bool.false_or, bx_ceq, bx_clt, bx_cge, bx_cgt, bx_cle, bx_cne, bx_zeq, bx_zlt, bx_zge, bx_zgt, bx_zle, bx_zne, iteP, eq_true (show Int32.ofNat 210 ≤ nI 210 by decide), (show (0 < 210) = True by simp)]
    exact (h σ1 hs hz).sub [1] rfl
  | succ d ih =>
    intro i hi σ1 hs hz
    refine run_sound s2_fillMost (fun pc => pc == 2 || pc == 24) _ 1000 _ _ _ _ ?_
    set_option maxRecDepth 100000 in simp (decide := true) only [c2_fillMost, run_s, nxt_e, ap_const, ap_lconst, ap_ild, ap_lld, ap_ald, ap_ist, ap_lst, ap_ast, ap_iinc, ap_iadd, ap_isub, ap_imul, ap_iand, ap_ior, ap_ixor, ap_ishl, ap_ishr, ap_iushr, ap_idiv, ap_irem, ap_ineg, ap_ladd, ap_lsub, ap_lmul, ap_ldiv, ap_lrem, ap_lneg, ap_lcmp, ap_i2l, ap_l2i, ap_i2b, ap_i2s, ap_dup_int, ap_pop_int, ap_dup_ref, ap_pop_ref, ap_dup2, ap_goto, ap_tsw, ap_lsw, ap_getI, ap_getJ, ap_getR, ap_putI, ap_putZ, ap_putJ, ap_iald, ap_lald, ap_bald, ap_aald, ap_iast, ap_last, ap_bast, ap_alen, ap_gst, ap_iret, ap_zret, ap_lret, ap_vret, ap_aret, ap_lmax, ap_labs, ap_acopy, ap_invV0, ap_invS0, ap_invV1, ap_invS1, ap_invV2, ap_invS2, ap_invV3, ap_invS3, ap_invV4, ap_invS4, ap_invV5, ap_invS5, tcnT, ocT, lenIT, lenWT, lenLT, lenVT, lenZT, startfT, vpL, sa_1, sa_2, sL_1, sL_2, si_1, si_2, sj_1, sj_2, ldI_e, ldL_e, ldA_e, inC_e, lk, st1, st2, rm1, rm2, Value.category, ctn_some, ctn_none, wsum, lv_args, Int32.reduceAdd, Int32.reduceSub, Int32.reduceMul, Nat.reduceAdd, Nat.reduceLT, Nat.reduceLeDiff, Nat.reduceEqDiff, Nat.reduceBEq, ↓reduceIte, true_and, and_true, Bool.false_eq_true, true_implies, false_implies, not_true_eq_false, not_false_eq_true, Bool.or_true, Bool.or_false, Bool.true_or, Bool.false_or, bx_ceq, bx_clt, bx_cge, bx_cgt, bx_cle, bx_cne, bx_zeq, bx_zlt, bx_zge, bx_zgt, bx_zle, bx_zne, iteP, eq_false (show ¬ Int32.ofNat 210 ≤ nI i from nI_ge (show i < 210 by omega) (by decide)), vin (show i < 210 by omega) (by decide), nIc (show i < 2 ^ 31 by omega), nI_1]
    refine (ih (i + 1) (by omega) _ (hs.si (by decide)) ?_).sub [0, 1] rfl
    intro j hj
    rw [si_1, if_pos rfl]
    unfold upd
    by_cases e : j = i
    · rw [if_pos e]; rfl
    · rw [if_neg e]; exact hz j (by omega)
theorem v2_fillMost {σ : St} {K : Kr} {r : Nat} (hk : KV σ r) (hp : PT σ) (h : ∀ σ', sm [11] σ σ' → (∀ c, c < 2401 → sz c ≤ 6 → σ'.1 11 (pl c) = nI (BS σ r c)) → K none σ') : VM M2_fillMost [.ref 7] σ K := by
  refine vm_run s2_fillMost n2_fillMost (fun pc => pc == 2 || pc == 24) 1000 (fun E => Nat.le_of_ble_eq_true rfl) ?_
  set_option maxRecDepth 100000 in simp (decide := true) only [c2_fillMost, run_s, nxt_e, ap_const, ap_lconst, ap_ild, ap_lld, ap_ald, ap_ist, ap_lst, ap_ast, ap_iinc, ap_iadd, ap_isub, ap_imul, ap_iand, ap_ior, ap_ixor, ap_ishl, ap_ishr, ap_iushr, ap_idiv, ap_irem, ap_ineg, ap_ladd, ap_lsub, ap_lmul, ap_ldiv, ap_lrem, ap_lneg, ap_lcmp, ap_i2l, ap_l2i, ap_i2b, ap_i2s, ap_dup_int, ap_pop_int, ap_dup_ref, ap_pop_ref, ap_dup2, ap_goto, ap_tsw, ap_lsw, ap_getI, ap_getJ, ap_getR, ap_putI, ap_putZ, ap_putJ, ap_iald, ap_lald, ap_bald, ap_aald, ap_iast, ap_last, ap_bast, ap_alen, ap_gst, ap_iret, ap_zret, ap_lret, ap_vret, ap_aret, ap_lmax, ap_labs, ap_acopy, ap_invV0, ap_invS0, ap_invV1, ap_invS1, ap_invV2, ap_invS2, ap_invV3, ap_invS3, ap_invV4, ap_invS4, ap_invV5, ap_invS5, tcnT, ocT, lenIT, lenWT, lenLT, lenVT, lenZT, startfT, vpL, sa_1, sa_2, sL_1, sL_2, si_1, si_2, sj_1, sj_2, ldI_e, ldL_e, ldA_e, inC_e, lk, st1, st2, rm1, rm2, Value.category, ctn_some, ctn_none, wsum, lv_args, Int32.reduceAdd, Int32.reduceSub, Int32.reduceMul, Nat.reduceAdd, Nat.reduceLT, Nat.reduceLeDiff, Nat.reduceEqDiff, Nat.reduceBEq, ↓reduceIte, true_and, and_true, Bool.false_eq_true, true_implies, false_implies, not_true_eq_false, not_false_eq_true, Bool.or_true, Bool.or_false, Bool.true_or, Bool.false_or, bx_ceq, bx_clt, bx_cge, bx_cgt, bx_cle, bx_cne, bx_zeq, bx_zlt, bx_zge, bx_zgt, bx_zle, bx_zne, iteP]
  refine (L2_zero (σ := σ) ?_ 210 0 (by omega) σ sm.rfl' (fun j hj => by omega)).sub [0, 1] rfl
  intro σ1 hs hz
  refine run_sound s2_fillMost (fun pc => pc == 26 || pc == 24) _ 1000 _ _ _ _ ?_
  set_option maxRecDepth 100000 in simp (decide := true) only [c2_fillMost, run_s, nxt_e, ap_const, ap_lconst, ap_ild, ap_lld, ap_ald, ap_ist, ap_lst, ap_ast, ap_iinc, ap_iadd, ap_isub, ap_imul, ap_iand, ap_ior, ap_ixor, ap_ishl, ap_ishr, ap_iushr, ap_idiv, ap_irem, ap_ineg, ap_ladd, ap_lsub, ap_lmul, ap_ldiv, ap_lrem, ap_lneg, ap_lcmp, ap_i2l, ap_l2i, ap_i2b, ap_i2s, ap_dup_int, ap_pop_int, ap_dup_ref, ap_pop_ref, ap_dup2, ap_goto, ap_tsw, ap_lsw, ap_getI, ap_getJ, ap_getR, ap_putI, ap_putZ, ap_putJ, ap_iald, ap_lald, ap_bald, ap_aald, ap_iast, ap_last, ap_bast, ap_alen, ap_gst, ap_iret, ap_zret, ap_lret, ap_vret, ap_aret, ap_lmax, ap_labs, ap_acopy, ap_invV0, ap_invS0, ap_invV1, ap_invS1, ap_invV2, ap_invS2, ap_invV3, ap_invS3, ap_invV4, ap_invS4, ap_invV5, ap_invS5, tcnT, ocT, lenIT, lenWT, lenLT, lenVT, lenZT, startfT, vpL, sa_1, sa_2, sL_1, sL_2, si_1, si_2, sj_1, sj_2, ldI_e, ldL_e, ldA_e, inC_e, lk, st1, st2, rm1, rm2, Value.category, ctn_some, ctn_none, wsum, lv_args, Int32.reduceAdd, Int32.reduceSub, Int32.reduceMul, Nat.reduceAdd, Nat.reduceLT, Nat.reduceLeDiff, Nat.reduceEqDiff, Nat.reduceBEq, ↓reduceIte, true_and, and_true, Bool.false_eq_true, true_implies, false_implies, not_true_eq_false, not_false_eq_true, Bool.or_true, Bool.or_false, Bool.true_or, Bool.false_or, bx_ceq, bx_clt, bx_cge, bx_cgt, bx_cle, bx_cne, bx_zeq, bx_zlt, bx_zge, bx_zgt, bx_zle, bx_zne, iteP]
  refine (L2_fill hk hp h 126 0 (by omega) σ1 hs ?_).sub [0, 1] rfl
  intro c hc h6
  rw [hz _ (pl_spec hc h6).2.1, mxc_none (P := PP 0 0) r (fun j x _ _ => by unfold PP; exact decide_eq_false (by omega))]
/-! made -/
/-- the dreams laid out are the pool c -/
def DV (σ : St) (c : Nat) : Prop := c < 2401 ∧ sz c ≤ 6 ∧ ∀ k, k < 4 → σ.1 33 k = nI (dg c k)
def BK (σ : St) (r : Nat) : Prop := ∀ c, c < 2401 → sz c ≤ 6 → σ.1 11 (pl c) = nI (BS σ r c)
theorem BK.sm {σ σ' : St} {r : Nat} {l : List Nat} (h : BK σ r) (hs : sm l σ σ') (h11 : 11 ∉ l) (h8 : 8 ∉ l) (h9 : 9 ∉ l) (h10 : 10 ∉ l) : BK σ' r := by
  intro c hc h6
  rw [(hs 11 h11).1]
  unfold BS
  rw [rfn_sm hs h8, rsn_sm hs h9, rpn_sm hs h10]
  exact h c hc h6
theorem v2_mostOf {σ : St} {K : Kr} {r c : Nat} (hb : BK σ r) (hd : DV σ c) (h : K (some (.int (nI (BS σ r c)))) σ) : VM M2_mostOf [.ref 7, .ref 33] σ K := by
  obtain ⟨hc, h6, hk⟩ := hd
  have hp := pl_spec hc h6
  have he := of_decide_eq_true (all_lt dg_ext hc)
  refine vm_run s2_mostOf n2_mostOf (fun _ => false) 1000 (fun E => Nat.le_of_ble_eq_true rfl) ?_
  set_option maxRecDepth 100000 in simp (decide := true) only [c2_mostOf, run_s, nxt_e, ap_const, ap_lconst, ap_ild, ap_lld, ap_ald, ap_ist, ap_lst, ap_ast, ap_iinc, ap_iadd, ap_isub, ap_imul, ap_iand, ap_ior, ap_ixor, ap_ishl, ap_ishr, ap_iushr, ap_idiv, ap_irem, ap_ineg, ap_ladd, ap_lsub, ap_lmul, ap_ldiv, ap_lrem, ap_lneg, ap_lcmp, ap_i2l, ap_l2i, ap_i2b, ap_i2s, ap_dup_int, ap_pop_int, ap_dup_ref, ap_pop_ref, ap_dup2, ap_goto, ap_tsw, ap_lsw, ap_getI, ap_getJ, ap_getR, ap_putI, ap_putZ, ap_putJ, ap_iald, ap_lald, ap_bald, ap_aald, ap_iast, ap_last, ap_bast, ap_alen, ap_gst, ap_iret, ap_zret, ap_lret, ap_vret, ap_aret, ap_lmax, ap_labs, ap_acopy, ap_invV0, ap_invS0, ap_invV1, ap_invS1, ap_invV2, ap_invS2, ap_invV3, ap_invS3, ap_invV4, ap_invS4, ap_invV5, ap_invS5, tcnT, ocT, lenIT, lenWT, lenLT, lenVT, lenZT, startfT, vpL, sa_1, sa_2, sL_1, sL_2, si_1, si_2, sj_1, sj_2, ldI_e, ldL_e, ldA_e, inC_e, lk, st1, st2, rm1, rm2, Value.category, ctn_some, ctn_none, wsum, lv_args, Int32.reduceAdd, Int32.reduceSub, Int32.reduceMul, Nat.reduceAdd, Nat.reduceLT, Nat.reduceLeDiff, Nat.reduceEqDiff, Nat.reduceBEq, ↓reduceIte, true_and, and_true, Bool.false_eq_true, true_implies, false_implies, not_true_eq_false, not_false_eq_true, Bool.or_true, Bool.or_false, Bool.true_or, Bool.false_or, bx_ceq, bx_clt, bx_cge, bx_cgt, bx_cle, bx_cne, bx_zeq, bx_zlt, bx_zge, bx_zgt, bx_zle, bx_zne, iteP, hk 0 (by decide), hk 1 (by decide), hk 2 (by decide), hk 3 (by decide)]
  refine v4_placeN (by unfold sz at h6; omega) ?_
  have e : cd4 (dg c 0) (dg c 1) (dg c 2) (dg c 3) = c := he.symm
  rw [e]
  set_option maxRecDepth 100000 in simp (decide := true) only [c2_mostOf, run_s, nxt_e, ap_const, ap_lconst, ap_ild, ap_lld, ap_ald, ap_ist, ap_lst, ap_ast, ap_iinc, ap_iadd, ap_isub, ap_imul, ap_iand, ap_ior, ap_ixor, ap_ishl, ap_ishr, ap_iushr, ap_idiv, ap_irem, ap_ineg, ap_ladd, ap_lsub, ap_lmul, ap_ldiv, ap_lrem, ap_lneg, ap_lcmp, ap_i2l, ap_l2i, ap_i2b, ap_i2s, ap_dup_int, ap_pop_int, ap_dup_ref, ap_pop_ref, ap_dup2, ap_goto, ap_tsw, ap_lsw, ap_getI, ap_getJ, ap_getR, ap_putI, ap_putZ, ap_putJ, ap_iald, ap_lald, ap_bald, ap_aald, ap_iast, ap_last, ap_bast, ap_alen, ap_gst, ap_iret, ap_zret, ap_lret, ap_vret, ap_aret, ap_lmax, ap_labs, ap_acopy, ap_invV0, ap_invS0, ap_invV1, ap_invS1, ap_invV2, ap_invS2, ap_invV3, ap_invS3, ap_invV4, ap_invS4, ap_invV5, ap_invS5, tcnT, ocT, lenIT, lenWT, lenLT, lenVT, lenZT, startfT, vpL, sa_1, sa_2, sL_1, sL_2, si_1, si_2, sj_1, sj_2, ldI_e, ldL_e, ldA_e, inC_e, lk, st1, st2, rm1, rm2, Value.category, ctn_some, ctn_none, wsum, lv_args, Int32.reduceAdd, Int32.reduceSub, Int32.reduceMul, Nat.reduceAdd, Nat.reduceLT, Nat.reduceLeDiff, Nat.reduceEqDiff, Nat.reduceBEq, ↓reduceIte, true_and, and_true, Bool.false_eq_true, true_implies, false_implies, not_true_eq_false, not_false_eq_true, Bool.or_true, Bool.or_false, Bool.true_or, Bool.false_or, bx_ceq, bx_clt, bx_cge, bx_cgt, bx_cle, bx_cne, bx_zeq, bx_zlt, bx_zge, bx_zgt, bx_zle, bx_zne, iteP, vin hp.2.1 (by decide), nIc (show pl c < 2 ^ 31 by omega), hb c hc h6]
  exact h
theorem v2_addRecipe {σ : St} {K : Kr} {r j : Nat} {t : Int32} (hk : KV σ r) (hj : j < r) (h : ∀ σ', sm [33] σ σ' → (∀ k, k < 4 → σ'.1 33 k = σ.1 33 k + (if k = rfn σ j then t else 0) + (if k = rsn σ j then t else 0)) → K none σ') : VM M2_addRecipe [.ref 7, .ref 33, .int (nI j), .int t] σ K := by
  have hr := hk.1
  have hj6 : j < 6 := by omega
  obtain ⟨⟨h1, h2⟩, h3, -⟩ := hk.at hj
  have z : ∀ a : Int32, a + 0 = a := fun a => Int32.add_zero a
  refine vm_run s2_addRecipe n2_addRecipe (fun _ => false) 1000 (fun E => Nat.le_of_ble_eq_true rfl) ?_
  rcases h3 with ⟨q1, q2⟩ | ⟨q1, q2⟩
  · set_option maxRecDepth 100000 in simp (decide := true) only [c2_addRecipe, run_s, nxt_e, ap_const, ap_lconst, ap_ild, ap_lld, ap_ald, ap_ist, ap_lst, ap_ast, ap_iinc, ap_iadd, ap_isub, ap_imul, ap_iand, ap_ior, ap_ixor, ap_ishl, ap_ishr, ap_iushr, ap_idiv, ap_irem, ap_ineg, ap_ladd, ap_lsub, ap_lmul, ap_ldiv, ap_lrem, ap_lneg, ap_lcmp, ap_i2l, ap_l2i, ap_i2b, ap_i2s, ap_dup_int, ap_pop_int, ap_dup_ref, ap_pop_ref, ap_dup2, ap_goto, ap_tsw, ap_lsw, ap_getI, ap_getJ, ap_getR, ap_putI, ap_putZ, ap_putJ, ap_iald, ap_lald, ap_bald, ap_aald, ap_iast, ap_last, ap_bast, ap_alen, ap_gst, ap_iret, ap_zret, ap_lret, ap_vret, ap_aret, ap_lmax, ap_labs, ap_acopy, ap_invV0, ap_invS0, ap_invV1, ap_invS1, ap_invV2, ap_invS2, ap_invV3, ap_invS3, ap_invV4, ap_invS4, ap_invV5, ap_invS5, tcnT, ocT, lenIT, lenWT, lenLT, lenVT, lenZT, startfT, vpL, sa_1, sa_2, sL_1, sL_2, si_1, si_2, sj_1, sj_2, ldI_e, ldL_e, ldA_e, inC_e, lk, st1, st2, rm1, rm2, Value.category, ctn_some, ctn_none, wsum, lv_args, Int32.reduceAdd, Int32.reduceSub, Int32.reduceMul, Nat.reduceAdd, Nat.reduceLT, Nat.reduceLeDiff, Nat.reduceEqDiff, Nat.reduceBEq, ↓reduceIte, true_and, and_true, Bool.false_eq_true, true_implies, false_implies, not_true_eq_false, not_false_eq_true, Bool.or_true, Bool.or_false, Bool.true_or, Bool.false_or, bx_ceq, bx_clt, bx_cge, bx_cgt, bx_cle, bx_cne, bx_zeq, bx_zlt, bx_zge, bx_zgt, bx_zle, bx_zne, iteP, vin hj6 (by decide), nIc (show j < 2 ^ 31 by omega), h1, q2, vin h2 (by decide), nIc (show rfn σ j < 2 ^ 31 by omega)]
    refine h _ (sm.rfl'.si (by decide)) (fun k hk4 => ?_)
    rw [si_1, if_pos rfl]
    unfold upd
    rw [if_neg (show ¬ k = rsn σ j by omega), z]
    by_cases e : k = rfn σ j
    · rw [if_pos e, if_pos e, e]
    · rw [if_neg e, if_neg e, z]
  · set_option maxRecDepth 100000 in simp (decide := true) only [c2_addRecipe, run_s, nxt_e, ap_const, ap_lconst, ap_ild, ap_lld, ap_ald, ap_ist, ap_lst, ap_ast, ap_iinc, ap_iadd, ap_isub, ap_imul, ap_iand, ap_ior, ap_ixor, ap_ishl, ap_ishr, ap_iushr, ap_idiv, ap_irem, ap_ineg, ap_ladd, ap_lsub, ap_lmul, ap_ldiv, ap_lrem, ap_lneg, ap_lcmp, ap_i2l, ap_l2i, ap_i2b, ap_i2s, ap_dup_int, ap_pop_int, ap_dup_ref, ap_pop_ref, ap_dup2, ap_goto, ap_tsw, ap_lsw, ap_getI, ap_getJ, ap_getR, ap_putI, ap_putZ, ap_putJ, ap_iald, ap_lald, ap_bald, ap_aald, ap_iast, ap_last, ap_bast, ap_alen, ap_gst, ap_iret, ap_zret, ap_lret, ap_vret, ap_aret, ap_lmax, ap_labs, ap_acopy, ap_invV0, ap_invS0, ap_invV1, ap_invS1, ap_invV2, ap_invS2, ap_invV3, ap_invS3, ap_invV4, ap_invS4, ap_invV5, ap_invS5, tcnT, ocT, lenIT, lenWT, lenLT, lenVT, lenZT, startfT, vpL, sa_1, sa_2, sL_1, sL_2, si_1, si_2, sj_1, sj_2, ldI_e, ldL_e, ldA_e, inC_e, lk, st1, st2, rm1, rm2, Value.category, ctn_some, ctn_none, wsum, lv_args, Int32.reduceAdd, Int32.reduceSub, Int32.reduceMul, Nat.reduceAdd, Nat.reduceLT, Nat.reduceLeDiff, Nat.reduceEqDiff, Nat.reduceBEq, ↓reduceIte, true_and, and_true, Bool.false_eq_true, true_implies, false_implies, not_true_eq_false, not_false_eq_true, Bool.or_true, Bool.or_false, Bool.true_or, Bool.false_or, bx_ceq, bx_clt, bx_cge, bx_cgt, bx_cle, bx_cne, bx_zeq, bx_zlt, bx_zge, bx_zgt, bx_zle, bx_zne, iteP, vin hj6 (by decide), nIc (show j < 2 ^ 31 by omega), h1, q2, vin h2 (by decide), nIc (show rfn σ j < 2 ^ 31 by omega), nIm1 (rsn σ j) (by omega), vin q1 (by decide), nIc (show rsn σ j < 2 ^ 31 by omega)]
    refine h _ ((sm.rfl'.si (by decide)).si (by decide)) (fun k hk4 => ?_)
    rw [si_1, if_pos rfl, si_1, if_pos rfl]
    unfold upd
    by_cases e : k = rsn σ j
    · rw [if_pos e, if_pos e, ← e]
      by_cases e2 : k = rfn σ j
      · rw [if_pos e2, if_pos e2, e2]
      · rw [if_neg e2, if_neg e2, z]
    · rw [if_neg e, if_neg e, z]
      by_cases e2 : k = rfn σ j
      · rw [if_pos e2, if_pos e2, e2]
      · rw [if_neg e2, if_neg e2, z]
