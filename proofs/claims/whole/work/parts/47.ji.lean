/-! class and model know the same -/
def JI (σ : St) (n r : Nat) : Prop := PT σ ∧ (∃ z, z ≤ 9 ∧ σ.1 0 15 = nI z) ∧ (∃ z, z ≤ 9 ∧ σ.1 0 16 = nI z) ∧ σ.1 35 9 = σ.1 0 15 ∧ σ.1 35 10 = σ.1 0 16 ∧
  ∃ N0 N1, RO σ N0 ∧ KO σ N1 ∧ TXT σ 0 N0 (σ.1 3) ∧ TXT σ 1 N1 (σ.1 4) ∧ n = num0 (fault0 (σ.1 3) N0) N0 ∧ r = num1 (σ.1 4) N1
theorem ft0_all {b : Nat → Int32} : ∀ {N : Nat}, ft0 b N = none → ∀ i, i < N → okA b i := by
  intro N
  induction N with
  | zero => intro _ i hi; omega
  | succ N ih =>
    intro h i hi
    have e : ft0 b (N + 1) = (match ft0 b N with | some j => some j | none => @ite _ (okA b N) (dcl _) none (some N)) := rfl
    rw [e] at h
    cases q : ft0 b N with
    | some j => rw [q] at h; cases h
    | none =>
      rw [q] at h
      by_cases o : okA b N
      · rcases Nat.lt_or_ge i N with w | w
        · exact ih q i w
        · have : i = N := by omega
          subst this
          exact o
      · simp only [if_neg o] at h
        cases h
theorem fault0_none {b : Nat → Int32} {N : Nat} (h : fault0 b N = none) : ft0 b N = none ∧ (N = 0 ∨ N % 5 = 4) := by
  unfold fault0 at h
  cases q : ft0 b N with
  | some j => rw [q] at h; cases h
  | none =>
    rw [q] at h
    by_cases z : N = 0 ∨ N % 5 = 4
    · exact ⟨rfl, z⟩
    · simp only [if_neg z] at h
      cases h
theorem num0_b {b : Nat → Int32} {N : Nat} (hN : N ≤ 29) : num0 (fault0 b N) N ≤ 6 ∧ (0 < num0 (fault0 b N) N → fault0 b N = none ∧ 5 * num0 (fault0 b N) N = N + 1) := by
  cases q : fault0 b N with
  | some j => exact ⟨Nat.zero_le _, fun h => absurd h (Nat.lt_irrefl _)⟩
  | none =>
    have := (fault0_none q).2
    have e : num0 none N = (N + 1) / 5 := rfl
    rw [e]
    exact ⟨by omega, fun _ => ⟨rfl, by omega⟩⟩
theorem JI.mv {σ : St} {n r : Nat} (h : JI σ n r) : MV σ n := by
  obtain ⟨-, z, -, -, -, N0, N1, hR, -, -, -, hn, -⟩ := h
  have hb := num0_b (b := σ.1 3) hR.1
  rw [← hn] at hb
  exact ⟨hb.1, by rw [hn]; exact hR.2.2.2.2.1, hR.2.2.1, z⟩
theorem JI.kv {σ : St} {n r : Nat} (h : JI σ n r) : KV σ r := by
  obtain ⟨-, -, -, -, -, N0, N1, -, hK, -, -, -, hr⟩ := h
  rw [hr]
  exact hK.2.2.2.1
theorem JI.bk {σ : St} {n r : Nat} (h : JI σ n r) : BK σ r := by
  obtain ⟨-, -, -, -, -, N0, N1, -, hK, -, -, -, hr⟩ := h
  rw [hr]
  exact hK.2.2.2.2.1
theorem JI.cv {σ : St} {n r : Nat} (h : JI σ n r) : CV σ n := by
  refine ⟨h.mv, h.1, ⟨fun i hi => ?_, h.2.2.1⟩, ?_⟩
  · obtain ⟨u1, u2, u3, -, -⟩ := up_spec hi
    have h1 := h.bk (up i) u2 u3
    rw [u1] at h1
    have h2 := BB_le h.kv.rv (sz (up i)) (up i) u2 (Nat.le_refl _)
    exact ⟨BS σ r (up i), by unfold BS; omega, h1⟩
  · have hmv := h.mv
    obtain ⟨-, -, -, -, -, N0, N1, hR, -, -, -, hn, -⟩ := h
    intro m hm
    have hb := num0_b (b := σ.1 3) hR.1
    rw [← hn] at hb
    obtain ⟨h0, h5⟩ := hb.2 (by omega)
    have hf := fault0_none h0
    have hd := hR.2.2.2.2.2 h0
    have hok := ft0_all hf.1
    have dig : ∀ k, k < 4 → isD (σ.1 3 (5 * m + k)) := fun k hk => ((okA_d (by omega)).mp (hok (5 * m + k) (by omega))).1
    have tk : ∀ k, k < 4 → tw σ (m * 4 + k) = dgt (σ.1 3) (5 * m + k) := by
      intro k hk
      have e := hd (5 * m + k) (by omega) (by omega)
      rw [show (5 * m + k) / 5 * 4 + (5 * m + k) % 5 = m * 4 + k by omega] at e
      unfold tw
      rw [e]
      have := (dgt_eq (dig k hk)).2
      exact nIc (by omega)
    have o3 := ((okA_d (b := σ.1 3) (i := 5 * m + 3) (by omega)).mp (hok (5 * m + 3) (by omega))).2
    have hs : sg (σ.1 3) (5 * m + 3 + 1) ≠ 0 := fun z => o3 ⟨by omega, z⟩
    have c1 := (sk_s (b := σ.1 3) (n := m) (k := 0) (by decide)).1
    have c2 := (sk_s (b := σ.1 3) (n := m) (k := 1) (by decide)).1
    have c3 := (sk_s (b := σ.1 3) (n := m) (k := 2) (by decide)).1
    have c4 := sk_s (b := σ.1 3) (n := m) (k := 3) (by decide)
    have c0 : sk (σ.1 3) m 0 = 0 := rfl
    have t0 := tk 0 (by decide)
    have t1 := tk 1 (by decide)
    have t2 := tk 2 (by decide)
    have t3 := tk 3 (by decide)
    simp only [Nat.add_zero, Nat.zero_add, Nat.reduceAdd] at t0 c1 c2 c3 c4
    simp only [Nat.add_assoc, Nat.reduceAdd] at hs c4
    omega
/-- reading -/
def rdl : List Nat := [38, 39, 40, 41]
def rdf : List Nat := [2, 4]
theorem v9_faultOf {σ : St} {K : Kr} {n r : Nat} {t : Int32} (hJ : JI σ n r) (h : ∀ σ', sq rdl rdf σ σ' → MR σ' n r → K (some (.int (if t = 0 then σ.1 5 2 else σ.1 7 4))) σ') : VM M9_faultOf [.ref 35, .int t] σ K := by
  have hJ' := hJ
  obtain ⟨-, -, -, h9, h10, N0, N1, hR, hK, hT0, hT1, hn, hr⟩ := hJ'
  refine vm_run s9_faultOf n9_faultOf (fun _ => false) 1000 (fun E => Nat.le_of_ble_eq_true rfl) ?_
  set_option maxRecDepth 100000 in simp (decide := true) only [c9_faultOf, run_s, nxt_e, ap_const, ap_lconst, ap_ild, ap_lld, ap_ald, ap_ist, ap_lst, ap_ast, ap_iinc, ap_iadd, ap_isub, ap_imul, ap_iand, ap_ior, ap_ixor, ap_ishl, ap_ishr, ap_iushr, ap_idiv, ap_irem, ap_ineg, ap_ladd, ap_lsub, ap_lmul, ap_ldiv, ap_lrem, ap_lneg, ap_lcmp, ap_i2l, ap_l2i, ap_i2b, ap_i2s, ap_dup_int, ap_pop_int, ap_dup_ref, ap_pop_ref, ap_dup2, ap_goto, ap_tsw, ap_lsw, ap_getI, ap_getJ, ap_getR, ap_putI, ap_putZ, ap_putJ, ap_iald, ap_lald, ap_bald, ap_aald, ap_iast, ap_last, ap_bast, ap_alen, ap_gst, ap_iret, ap_zret, ap_lret, ap_vret, ap_aret, ap_lmax, ap_labs, ap_acopy, ap_invV0, ap_invS0, ap_invV1, ap_invS1, ap_invV2, ap_invS2, ap_invV3, ap_invS3, ap_invV4, ap_invS4, ap_invV5, ap_invS5, tcnT, ocT, lenIT, lenWT, lenLT, lenVT, lenZT, startfT, vpL, sa_1, sa_2, sL_1, sL_2, si_1, si_2, sj_1, sj_2, ldI_e, ldL_e, ldA_e, inC_e, lk, st1, st2, rm1, rm2, Value.category, ctn_some, ctn_none, wsum, lv_args, Int32.reduceAdd, Int32.reduceSub, Int32.reduceMul, Nat.reduceAdd, Nat.reduceLT, Nat.reduceLeDiff, Nat.reduceEqDiff, Nat.reduceBEq, ↓reduceIte, true_and, and_true, Bool.false_eq_true, true_implies, false_implies, not_true_eq_false, not_false_eq_true, Bool.or_true, Bool.or_false, Bool.true_or, Bool.false_or, bx_ceq, bx_clt, bx_cge, bx_cgt, bx_cle, bx_cne, bx_zeq, bx_zlt, bx_zge, bx_zgt, bx_zle, bx_zne, iteP]
  refine v9_readsText0 hT0 (fun σ1 g1 => ?_)
  set_option maxRecDepth 100000 in simp (decide := true) only [c9_faultOf, run_s, nxt_e, ap_const, ap_lconst, ap_ild, ap_lld, ap_ald, ap_ist, ap_lst, ap_ast, ap_iinc, ap_iadd, ap_isub, ap_imul, ap_iand, ap_ior, ap_ixor, ap_ishl, ap_ishr, ap_iushr, ap_idiv, ap_irem, ap_ineg, ap_ladd, ap_lsub, ap_lmul, ap_ldiv, ap_lrem, ap_lneg, ap_lcmp, ap_i2l, ap_l2i, ap_i2b, ap_i2s, ap_dup_int, ap_pop_int, ap_dup_ref, ap_pop_ref, ap_dup2, ap_goto, ap_tsw, ap_lsw, ap_getI, ap_getJ, ap_getR, ap_putI, ap_putZ, ap_putJ, ap_iald, ap_lald, ap_bald, ap_aald, ap_iast, ap_last, ap_bast, ap_alen, ap_gst, ap_iret, ap_zret, ap_lret, ap_vret, ap_aret, ap_lmax, ap_labs, ap_acopy, ap_invV0, ap_invS0, ap_invV1, ap_invS1, ap_invV2, ap_invS2, ap_invV3, ap_invS3, ap_invV4, ap_invS4, ap_invV5, ap_invS5, tcnT, ocT, lenIT, lenWT, lenLT, lenVT, lenZT, startfT, vpL, sa_1, sa_2, sL_1, sL_2, si_1, si_2, sj_1, sj_2, ldI_e, ldL_e, ldA_e, inC_e, lk, st1, st2, rm1, rm2, Value.category, ctn_some, ctn_none, wsum, lv_args, Int32.reduceAdd, Int32.reduceSub, Int32.reduceMul, Nat.reduceAdd, Nat.reduceLT, Nat.reduceLeDiff, Nat.reduceEqDiff, Nat.reduceBEq, ↓reduceIte, true_and, and_true, Bool.false_eq_true, true_implies, false_implies, not_true_eq_false, not_false_eq_true, Bool.or_true, Bool.or_false, Bool.true_or, Bool.false_or, bx_ceq, bx_clt, bx_cge, bx_cgt, bx_cle, bx_cne, bx_zeq, bx_zlt, bx_zge, bx_zgt, bx_zle, bx_zne, iteP]
  refine v9_readsText1 (hT1.sq g1.1 (by decide) (by decide)) (fun σ2 g2 => ?_)
  have s2 : sq rdl rdf σ σ2 := (g1.1.mono (by decide) (by decide)).trans (g2.1.mono (by decide) (by decide))
  have hb := num0_b (b := σ.1 3) hR.1
  have m : MR σ2 n r := by
    refine ⟨?_, by rw [hr]; exact g2.2.1, fun j hj => ?_, fun j hj => ?_, ?_, ?_⟩
    · rw [(g2.1.2 2 (by decide)).1, hn]; exact g1.2.1
    · rw [(g2.1.1 38 (by decide) (by decide)).1, (s2.1 6 (by decide) (by decide)).1]
      rw [← hn] at hb
      obtain ⟨h0, h5⟩ := hb.2 (by omega)
      have e : num0 none N0 = n := by rw [hn, h0]
      have q1 := g1.2.2 h0 (j / 4) (j % 4) (by omega) (by omega)
      have q2 := hR.2.2.2.2.2 h0 (5 * (j / 4) + j % 4) (by omega) (by omega)
      rw [show j / 4 * 4 + j % 4 = j by omega] at q1
      rw [show (5 * (j / 4) + j % 4) / 5 * 4 + (5 * (j / 4) + j % 4) % 5 = j by omega] at q2
      rw [q1, q2]
    · rw [hr] at hj
      rw [(s2.1 8 (by decide) (by decide)).1, (s2.1 9 (by decide) (by decide)).1, (s2.1 10 (by decide) (by decide)).1]
      obtain ⟨a1, a2, a3⟩ := hK.2.2.2.2.2 j hj
      obtain ⟨b1, b2, b3⟩ := g2.2.2 j hj
      exact ⟨b1.trans a1.symm, b2.trans a2.symm, b3.trans a3.symm⟩
    · rw [(s2.2 9 (by decide)).1, (s2.1 0 (by decide) (by decide)).1]; exact h9
    · rw [(s2.2 10 (by decide)).1, (s2.1 0 (by decide) (by decide)).1]; exact h10
  have hh := h σ2 s2 m
  rw [hR.2.2.2.1, hK.2.2.1] at hh
  set_option maxRecDepth 100000 in simp (decide := true) only [c9_faultOf, run_s, nxt_e, ap_const, ap_lconst, ap_ild, ap_lld, ap_ald, ap_ist, ap_lst, ap_ast, ap_iinc, ap_iadd, ap_isub, ap_imul, ap_iand, ap_ior, ap_ixor, ap_ishl, ap_ishr, ap_iushr, ap_idiv, ap_irem, ap_ineg, ap_ladd, ap_lsub, ap_lmul, ap_ldiv, ap_lrem, ap_lneg, ap_lcmp, ap_i2l, ap_l2i, ap_i2b, ap_i2s, ap_dup_int, ap_pop_int, ap_dup_ref, ap_pop_ref, ap_dup2, ap_goto, ap_tsw, ap_lsw, ap_getI, ap_getJ, ap_getR, ap_putI, ap_putZ, ap_putJ, ap_iald, ap_lald, ap_bald, ap_aald, ap_iast, ap_last, ap_bast, ap_alen, ap_gst, ap_iret, ap_zret, ap_lret, ap_vret, ap_aret, ap_lmax, ap_labs, ap_acopy, ap_invV0, ap_invS0, ap_invV1, ap_invS1, ap_invV2, ap_invS2, ap_invV3, ap_invS3, ap_invV4, ap_invS4, ap_invV5, ap_invS5, tcnT, ocT, lenIT, lenWT, lenLT, lenVT, lenZT, startfT, vpL, sa_1, sa_2, sL_1, sL_2, si_1, si_2, sj_1, sj_2, ldI_e, ldL_e, ldA_e, inC_e, lk, st1, st2, rm1, rm2, Value.category, ctn_some, ctn_none, wsum, lv_args, Int32.reduceAdd, Int32.reduceSub, Int32.reduceMul, Nat.reduceAdd, Nat.reduceLT, Nat.reduceLeDiff, Nat.reduceEqDiff, Nat.reduceBEq, ↓reduceIte, true_and, and_true, Bool.false_eq_true, true_implies, false_implies, not_true_eq_false, not_false_eq_true, Bool.or_true, Bool.or_false, Bool.true_or, Bool.false_or, bx_ceq, bx_clt, bx_cge, bx_cgt, bx_cle, bx_cne, bx_zeq, bx_zlt, bx_zge, bx_zgt, bx_zle, bx_zne, iteP]
  refine ⟨fun q => by rw [if_pos q] at hh; exact hh, fun q => by rw [if_neg q] at hh; exact hh⟩
theorem v9_reads {σ : St} {K : Kr} {n r : Nat} (hJ : JI σ n r) (h : ∀ σ', sq rdl rdf σ σ' → MR σ' n r → K none σ') : VM M9_reads [.ref 35] σ K := by
  refine vm_run s9_reads n9_reads (fun _ => false) 1000 (fun E => Nat.le_of_ble_eq_true rfl) ?_
  set_option maxRecDepth 100000 in simp (decide := true) only [c9_reads, run_s, nxt_e, ap_const, ap_lconst, ap_ild, ap_lld, ap_ald, ap_ist, ap_lst, ap_ast, ap_iinc, ap_iadd, ap_isub, ap_imul, ap_iand, ap_ior, ap_ixor, ap_ishl, ap_ishr, ap_iushr, ap_idiv, ap_irem, ap_ineg, ap_ladd, ap_lsub, ap_lmul, ap_ldiv, ap_lrem, ap_lneg, ap_lcmp, ap_i2l, ap_l2i, ap_i2b, ap_i2s, ap_dup_int, ap_pop_int, ap_dup_ref, ap_pop_ref, ap_dup2, ap_goto, ap_tsw, ap_lsw, ap_getI, ap_getJ, ap_getR, ap_putI, ap_putZ, ap_putJ, ap_iald, ap_lald, ap_bald, ap_aald, ap_iast, ap_last, ap_bast, ap_alen, ap_gst, ap_iret, ap_zret, ap_lret, ap_vret, ap_aret, ap_lmax, ap_labs, ap_acopy, ap_invV0, ap_invS0, ap_invV1, ap_invS1, ap_invV2, ap_invS2, ap_invV3, ap_invS3, ap_invV4, ap_invS4, ap_invV5, ap_invS5, tcnT, ocT, lenIT, lenWT, lenLT, lenVT, lenZT, startfT, vpL, sa_1, sa_2, sL_1, sL_2, si_1, si_2, sj_1, sj_2, ldI_e, ldL_e, ldA_e, inC_e, lk, st1, st2, rm1, rm2, Value.category, ctn_some, ctn_none, wsum, lv_args, Int32.reduceAdd, Int32.reduceSub, Int32.reduceMul, Nat.reduceAdd, Nat.reduceLT, Nat.reduceLeDiff, Nat.reduceEqDiff, Nat.reduceBEq, ↓reduceIte, true_and, and_true, Bool.false_eq_true, true_implies, false_implies, not_true_eq_false, not_false_eq_true, Bool.or_true, Bool.or_false, Bool.true_or, Bool.false_or, bx_ceq, bx_clt, bx_cge, bx_cgt, bx_cle, bx_cne, bx_zeq, bx_zlt, bx_zge, bx_zgt, bx_zle, bx_zne, iteP]
  refine v9_faultOf hJ (fun σ' h1 h2 => ?_)
  set_option maxRecDepth 100000 in simp (decide := true) only [c9_reads, run_s, nxt_e, ap_const, ap_lconst, ap_ild, ap_lld, ap_ald, ap_ist, ap_lst, ap_ast, ap_iinc, ap_iadd, ap_isub, ap_imul, ap_iand, ap_ior, ap_ixor, ap_ishl, ap_ishr, ap_iushr, ap_idiv, ap_irem, ap_ineg, ap_ladd, ap_lsub, ap_lmul, ap_ldiv, ap_lrem, ap_lneg, ap_lcmp, ap_i2l, ap_l2i, ap_i2b, ap_i2s, ap_dup_int, ap_pop_int, ap_dup_ref, ap_pop_ref, ap_dup2, ap_goto, ap_tsw, ap_lsw, ap_getI, ap_getJ, ap_getR, ap_putI, ap_putZ, ap_putJ, ap_iald, ap_lald, ap_bald, ap_aald, ap_iast, ap_last, ap_bast, ap_alen, ap_gst, ap_iret, ap_zret, ap_lret, ap_vret, ap_aret, ap_lmax, ap_labs, ap_acopy, ap_invV0, ap_invS0, ap_invV1, ap_invS1, ap_invV2, ap_invS2, ap_invV3, ap_invS3, ap_invV4, ap_invS4, ap_invV5, ap_invS5, tcnT, ocT, lenIT, lenWT, lenLT, lenVT, lenZT, startfT, vpL, sa_1, sa_2, sL_1, sL_2, si_1, si_2, sj_1, sj_2, ldI_e, ldL_e, ldA_e, inC_e, lk, st1, st2, rm1, rm2, Value.category, ctn_some, ctn_none, wsum, lv_args, Int32.reduceAdd, Int32.reduceSub, Int32.reduceMul, Nat.reduceAdd, Nat.reduceLT, Nat.reduceLeDiff, Nat.reduceEqDiff, Nat.reduceBEq, ↓reduceIte, true_and, and_true, Bool.false_eq_true, true_implies, false_implies, not_true_eq_false, not_false_eq_true, Bool.or_true, Bool.or_false, Bool.true_or, Bool.false_or, bx_ceq, bx_clt, bx_cge, bx_cgt, bx_cle, bx_cne, bx_zeq, bx_zlt, bx_zge, bx_zgt, bx_zle, bx_zne, iteP]
  exact h σ' h1 h2
theorem v9_isText {t : Int32} {σ : St} {K : Kr} (h : K (some (.int (bI (t = 0 ∨ t = 1)))) σ) : VM M9_isText [.int t] σ K := by
  refine vm_run s9_isText n9_isText (fun _ => false) 1000 (fun E => Nat.le_of_ble_eq_true rfl) ?_
  set_option maxRecDepth 100000 in simp (decide := true) only [c9_isText, run_s, nxt_e, ap_const, ap_lconst, ap_ild, ap_lld, ap_ald, ap_ist, ap_lst, ap_ast, ap_iinc, ap_iadd, ap_isub, ap_imul, ap_iand, ap_ior, ap_ixor, ap_ishl, ap_ishr, ap_iushr, ap_idiv, ap_irem, ap_ineg, ap_ladd, ap_lsub, ap_lmul, ap_ldiv, ap_lrem, ap_lneg, ap_lcmp, ap_i2l, ap_l2i, ap_i2b, ap_i2s, ap_dup_int, ap_pop_int, ap_dup_ref, ap_pop_ref, ap_dup2, ap_goto, ap_tsw, ap_lsw, ap_getI, ap_getJ, ap_getR, ap_putI, ap_putZ, ap_putJ, ap_iald, ap_lald, ap_bald, ap_aald, ap_iast, ap_last, ap_bast, ap_alen, ap_gst, ap_iret, ap_zret, ap_lret, ap_vret, ap_aret, ap_lmax, ap_labs, ap_acopy, ap_invV0, ap_invS0, ap_invV1, ap_invS1, ap_invV2, ap_invS2, ap_invV3, ap_invS3, ap_invV4, ap_invS4, ap_invV5, ap_invS5, tcnT, ocT, lenIT, lenWT, lenLT, lenVT, lenZT, startfT, vpL, sa_1, sa_2, sL_1, sL_2, si_1, si_2, sj_1, sj_2, ldI_e, ldL_e, ldA_e, inC_e, lk, st1, st2, rm1, rm2, Value.category, ctn_some, ctn_none, wsum, lv_args, Int32.reduceAdd, Int32.reduceSub, Int32.reduceMul, Nat.reduceAdd, Nat.reduceLT, Nat.reduceLeDiff, Nat.reduceEqDiff, Nat.reduceBEq, ↓reduceIte, true_and, and_true, Bool.false_eq_true, true_implies, false_implies, not_true_eq_false, not_false_eq_true, Bool.or_true, Bool.or_false, Bool.true_or, Bool.false_or, bx_ceq, bx_clt, bx_cge, bx_cgt, bx_cle, bx_cne, bx_zeq, bx_zlt, bx_zge, bx_zgt, bx_zle, bx_zne, iteP]
  refine v9_in ?_
  set_option maxRecDepth 100000 in simp (decide := true) only [c9_isText, run_s, nxt_e, ap_const, ap_lconst, ap_ild, ap_lld, ap_ald, ap_ist, ap_lst, ap_ast, ap_iinc, ap_iadd, ap_isub, ap_imul, ap_iand, ap_ior, ap_ixor, ap_ishl, ap_ishr, ap_iushr, ap_idiv, ap_irem, ap_ineg, ap_ladd, ap_lsub, ap_lmul, ap_ldiv, ap_lrem, ap_lneg, ap_lcmp, ap_i2l, ap_l2i, ap_i2b, ap_i2s, ap_dup_int, ap_pop_int, ap_dup_ref, ap_pop_ref, ap_dup2, ap_goto, ap_tsw, ap_lsw, ap_getI, ap_getJ, ap_getR, ap_putI, ap_putZ, ap_putJ, ap_iald, ap_lald, ap_bald, ap_aald, ap_iast, ap_last, ap_bast, ap_alen, ap_gst, ap_iret, ap_zret, ap_lret, ap_vret, ap_aret, ap_lmax, ap_labs, ap_acopy, ap_invV0, ap_invS0, ap_invV1, ap_invS1, ap_invV2, ap_invS2, ap_invV3, ap_invS3, ap_invV4, ap_invS4, ap_invV5, ap_invS5, tcnT, ocT, lenIT, lenWT, lenLT, lenVT, lenZT, startfT, vpL, sa_1, sa_2, sL_1, sL_2, si_1, si_2, sj_1, sj_2, ldI_e, ldL_e, ldA_e, inC_e, lk, st1, st2, rm1, rm2, Value.category, ctn_some, ctn_none, wsum, lv_args, Int32.reduceAdd, Int32.reduceSub, Int32.reduceMul, Nat.reduceAdd, Nat.reduceLT, Nat.reduceLeDiff, Nat.reduceEqDiff, Nat.reduceBEq, ↓reduceIte, true_and, and_true, Bool.false_eq_true, true_implies, false_implies, not_true_eq_false, not_false_eq_true, Bool.or_true, Bool.or_false, Bool.true_or, Bool.false_or, bx_ceq, bx_clt, bx_cge, bx_cgt, bx_cle, bx_cne, bx_zeq, bx_zlt, bx_zge, bx_zgt, bx_zle, bx_zne, iteP]
  have e : bI (0 ≤ t ∧ t ≤ 1) = bI (t = 0 ∨ t = 1) := by
    unfold bI
    have : (0 ≤ t ∧ t ≤ 1) ↔ (t = 0 ∨ t = 1) := by clear h; grind
    simp only [this]
  rw [e]
  exact ⟨bI_01, h⟩
theorem v9_fault {σ : St} {K : Kr} {n r : Nat} {t : Int32} (hJ : JI σ n r) (h : ∀ σ', sq rdl rdf σ σ' → K (some (.int (if t = 0 then σ.1 5 2 else if t = 1 then σ.1 7 4 else -2))) σ') : VM M9_fault [.ref 35, .int t] σ K := by
  refine vm_run s9_fault n9_fault (fun _ => false) 1000 (fun E => Nat.le_of_ble_eq_true rfl) ?_
  set_option maxRecDepth 100000 in simp (decide := true) only [c9_fault, run_s, nxt_e, ap_const, ap_lconst, ap_ild, ap_lld, ap_ald, ap_ist, ap_lst, ap_ast, ap_iinc, ap_iadd, ap_isub, ap_imul, ap_iand, ap_ior, ap_ixor, ap_ishl, ap_ishr, ap_iushr, ap_idiv, ap_irem, ap_ineg, ap_ladd, ap_lsub, ap_lmul, ap_ldiv, ap_lrem, ap_lneg, ap_lcmp, ap_i2l, ap_l2i, ap_i2b, ap_i2s, ap_dup_int, ap_pop_int, ap_dup_ref, ap_pop_ref, ap_dup2, ap_goto, ap_tsw, ap_lsw, ap_getI, ap_getJ, ap_getR, ap_putI, ap_putZ, ap_putJ, ap_iald, ap_lald, ap_bald, ap_aald, ap_iast, ap_last, ap_bast, ap_alen, ap_gst, ap_iret, ap_zret, ap_lret, ap_vret, ap_aret, ap_lmax, ap_labs, ap_acopy, ap_invV0, ap_invS0, ap_invV1, ap_invS1, ap_invV2, ap_invS2, ap_invV3, ap_invS3, ap_invV4, ap_invS4, ap_invV5, ap_invS5, tcnT, ocT, lenIT, lenWT, lenLT, lenVT, lenZT, startfT, vpL, sa_1, sa_2, sL_1, sL_2, si_1, si_2, sj_1, sj_2, ldI_e, ldL_e, ldA_e, inC_e, lk, st1, st2, rm1, rm2, Value.category, ctn_some, ctn_none, wsum, lv_args, Int32.reduceAdd, Int32.reduceSub, Int32.reduceMul, Nat.reduceAdd, Nat.reduceLT, Nat.reduceLeDiff, Nat.reduceEqDiff, Nat.reduceBEq, ↓reduceIte, true_and, and_true, Bool.false_eq_true, true_implies, false_implies, not_true_eq_false, not_false_eq_true, Bool.or_true, Bool.or_false, Bool.true_or, Bool.false_or, bx_ceq, bx_clt, bx_cge, bx_cgt, bx_cle, bx_cne, bx_zeq, bx_zlt, bx_zge, bx_zgt, bx_zle, bx_zne, iteP]
  refine v9_isText ?_
  by_cases q : t = 0 ∨ t = 1
  · rw [bI_t q]
    set_option maxRecDepth 100000 in simp (decide := true) only [c9_fault, run_s, nxt_e, ap_const, ap_lconst, ap_ild, ap_lld, ap_ald, ap_ist, ap_lst, ap_ast, ap_iinc, ap_iadd, ap_isub, ap_imul, ap_iand, ap_ior, ap_ixor, ap_ishl, ap_ishr, ap_iushr, ap_idiv, ap_irem, ap_ineg, ap_ladd, ap_lsub, ap_lmul, ap_ldiv, ap_lrem, ap_lneg, ap_lcmp, ap_i2l, ap_l2i, ap_i2b, ap_i2s, ap_dup_int, ap_pop_int, ap_dup_ref, ap_pop_ref, ap_dup2, ap_goto, ap_tsw, ap_lsw, ap_getI, ap_getJ, ap_getR, ap_putI, ap_putZ, ap_putJ, ap_iald, ap_lald, ap_bald, ap_aald, ap_iast, ap_last, ap_bast, ap_alen, ap_gst, ap_iret, ap_zret, ap_lret, ap_vret, ap_aret, ap_lmax, ap_labs, ap_acopy, ap_invV0, ap_invS0, ap_invV1, ap_invS1, ap_invV2, ap_invS2, ap_invV3, ap_invS3, ap_invV4, ap_invS4, ap_invV5, ap_invS5, tcnT, ocT, lenIT, lenWT, lenLT, lenVT, lenZT, startfT, vpL, sa_1, sa_2, sL_1, sL_2, si_1, si_2, sj_1, sj_2, ldI_e, ldL_e, ldA_e, inC_e, lk, st1, st2, rm1, rm2, Value.category, ctn_some, ctn_none, wsum, lv_args, Int32.reduceAdd, Int32.reduceSub, Int32.reduceMul, Nat.reduceAdd, Nat.reduceLT, Nat.reduceLeDiff, Nat.reduceEqDiff, Nat.reduceBEq, ↓reduceIte, true_and, and_true, Bool.false_eq_true, true_implies, false_implies, not_true_eq_false, not_false_eq_true, Bool.or_true, Bool.or_false, Bool.true_or, Bool.false_or, bx_ceq, bx_clt, bx_cge, bx_cgt, bx_cle, bx_cne, bx_zeq, bx_zlt, bx_zge, bx_zgt, bx_zle, bx_zne, iteP]
    refine v9_faultOf hJ (fun σ' h1 h2 => ?_)
    set_option maxRecDepth 100000 in simp (decide := true) only [c9_fault, run_s, nxt_e, ap_const, ap_lconst, ap_ild, ap_lld, ap_ald, ap_ist, ap_lst, ap_ast, ap_iinc, ap_iadd, ap_isub, ap_imul, ap_iand, ap_ior, ap_ixor, ap_ishl, ap_ishr, ap_iushr, ap_idiv, ap_irem, ap_ineg, ap_ladd, ap_lsub, ap_lmul, ap_ldiv, ap_lrem, ap_lneg, ap_lcmp, ap_i2l, ap_l2i, ap_i2b, ap_i2s, ap_dup_int, ap_pop_int, ap_dup_ref, ap_pop_ref, ap_dup2, ap_goto, ap_tsw, ap_lsw, ap_getI, ap_getJ, ap_getR, ap_putI, ap_putZ, ap_putJ, ap_iald, ap_lald, ap_bald, ap_aald, ap_iast, ap_last, ap_bast, ap_alen, ap_gst, ap_iret, ap_zret, ap_lret, ap_vret, ap_aret, ap_lmax, ap_labs, ap_acopy, ap_invV0, ap_invS0, ap_invV1, ap_invS1, ap_invV2, ap_invS2, ap_invV3, ap_invS3, ap_invV4, ap_invS4, ap_invV5, ap_invS5, tcnT, ocT, lenIT, lenWT, lenLT, lenVT, lenZT, startfT, vpL, sa_1, sa_2, sL_1, sL_2, si_1, si_2, sj_1, sj_2, ldI_e, ldL_e, ldA_e, inC_e, lk, st1, st2, rm1, rm2, Value.category, ctn_some, ctn_none, wsum, lv_args, Int32.reduceAdd, Int32.reduceSub, Int32.reduceMul, Nat.reduceAdd, Nat.reduceLT, Nat.reduceLeDiff, Nat.reduceEqDiff, Nat.reduceBEq, ↓reduceIte, true_and, and_true, Bool.false_eq_true, true_implies, false_implies, not_true_eq_false, not_false_eq_true, Bool.or_true, Bool.or_false, Bool.true_or, Bool.false_or, bx_ceq, bx_clt, bx_cge, bx_cgt, bx_cle, bx_cne, bx_zeq, bx_zlt, bx_zge, bx_zgt, bx_zle, bx_zne, iteP]
    have hh := h σ' h1
    rcases q with rfl | rfl
    · exact hh
    · exact hh
  · rw [bI_f q]
    set_option maxRecDepth 100000 in simp (decide := true) only [c9_fault, run_s, nxt_e, ap_const, ap_lconst, ap_ild, ap_lld, ap_ald, ap_ist, ap_lst, ap_ast, ap_iinc, ap_iadd, ap_isub, ap_imul, ap_iand, ap_ior, ap_ixor, ap_ishl, ap_ishr, ap_iushr, ap_idiv, ap_irem, ap_ineg, ap_ladd, ap_lsub, ap_lmul, ap_ldiv, ap_lrem, ap_lneg, ap_lcmp, ap_i2l, ap_l2i, ap_i2b, ap_i2s, ap_dup_int, ap_pop_int, ap_dup_ref, ap_pop_ref, ap_dup2, ap_goto, ap_tsw, ap_lsw, ap_getI, ap_getJ, ap_getR, ap_putI, ap_putZ, ap_putJ, ap_iald, ap_lald, ap_bald, ap_aald, ap_iast, ap_last, ap_bast, ap_alen, ap_gst, ap_iret, ap_zret, ap_lret, ap_vret, ap_aret, ap_lmax, ap_labs, ap_acopy, ap_invV0, ap_invS0, ap_invV1, ap_invS1, ap_invV2, ap_invS2, ap_invV3, ap_invS3, ap_invV4, ap_invS4, ap_invV5, ap_invS5, tcnT, ocT, lenIT, lenWT, lenLT, lenVT, lenZT, startfT, vpL, sa_1, sa_2, sL_1, sL_2, si_1, si_2, sj_1, sj_2, ldI_e, ldL_e, ldA_e, inC_e, lk, st1, st2, rm1, rm2, Value.category, ctn_some, ctn_none, wsum, lv_args, Int32.reduceAdd, Int32.reduceSub, Int32.reduceMul, Nat.reduceAdd, Nat.reduceLT, Nat.reduceLeDiff, Nat.reduceEqDiff, Nat.reduceBEq, ↓reduceIte, true_and, and_true, Bool.false_eq_true, true_implies, false_implies, not_true_eq_false, not_false_eq_true, Bool.or_true, Bool.or_false, Bool.true_or, Bool.false_or, bx_ceq, bx_clt, bx_cge, bx_cgt, bx_cle, bx_cne, bx_zeq, bx_zlt, bx_zge, bx_zgt, bx_zle, bx_zne, iteP]
    have hh := h σ sq.rfl'
    rw [if_neg (fun z => q (Or.inl z)), if_neg (fun z => q (Or.inr z))] at hh
    exact hh
theorem JI.sq {σ σ' : St} {n r : Nat} {l fl : List Nat} (h : JI σ n r) (hs : sq l fl σ σ') (hl : ∀ o, o ∈ [0, 1, 2, 3, 4, 5, 6, 7, 8, 9, 10, 11, 16, 17, 36, 37] → o ∉ l) (hf : ∀ f, f ∈ [9, 10] → f ∉ fl) : JI σ' n r := by
  have hm := hs.sm
  have nn : ∀ o, o ∈ [0, 1, 2, 3, 4, 5, 6, 7, 8, 9, 10, 11, 16, 17, 36, 37] → o ∉ 35 :: l := by
    intro o ho
    simp only [List.mem_cons, not_or]
    refine ⟨?_, hl o ho⟩
    rintro rfl
    revert ho
    decide
  obtain ⟨a1, a2, a3, a4, a5, N0, N1, hR, hK, hT0, hT1, hn, hr⟩ := h
  refine ⟨a1.sm hm (nn 16 (by decide)) (nn 17 (by decide)), ?_, ?_, ?_, ?_, N0, N1, hR.sm hm (nn 1 (by decide)) (nn 3 (by decide)) (nn 5 (by decide)) (nn 6 (by decide)), hK.sm hm (nn 2 (by decide)) (nn 4 (by decide)) (nn 7 (by decide)) (nn 8 (by decide)) (nn 9 (by decide)) (nn 10 (by decide)) (nn 11 (by decide)), ?_, ?_, ?_, ?_⟩
  · rw [(hm 0 (nn 0 (by decide))).1]; exact a2
  · rw [(hm 0 (nn 0 (by decide))).1]; exact a3
  · rw [(hm 0 (nn 0 (by decide))).1, (hs.2 9 (hf 9 (by decide))).1]; exact a4
  · rw [(hm 0 (nn 0 (by decide))).1, (hs.2 10 (hf 10 (by decide))).1]; exact a5
  · rw [(hm 3 (nn 3 (by decide))).1]; exact hT0.sq hs (hl 36 (by decide)) (hl 37 (by decide))
  · rw [(hm 4 (nn 4 (by decide))).1]; exact hT1.sq hs (hl 36 (by decide)) (hl 37 (by decide))
  · rw [(hm 3 (nn 3 (by decide))).1]; exact hn
  · rw [(hm 4 (nn 4 (by decide))).1]; exact hr
