/-! ===== part 31: the members' text ===== -/
theorem nI_lit5 : nI 0 = 0 ∧ nI 1 = 1 ∧ nI 2 = 2 ∧ nI 3 = 3 ∧ nI 4 = 4 ∧ nI 5 = 5 ∧ nI 6 = 6 := ⟨rfl, rfl, rfl, rfl, rfl, rfl, rfl⟩
theorem rem5 {i : Nat} (h : i < 2 ^ 31) : nI i - nI i / 5 * 5 = nI (i % 5) := pk_rem h (by decide : 0 < 5) (by decide)
theorem div5 {i : Nat} (h : i < 2 ^ 31) : nI i / 5 = nI (i / 5) := pk_div h (by decide : 0 < 5) (by decide)
def dgt (b : Nat → Int32) (j : Nat) : Nat := (b j - 48).toNatClampNeg
def sg (b : Nat → Int32) : Nat → Nat
  | 0 => 0
  | i + 1 => if i % 5 = 4 then sg b i else (if i % 5 = 0 then 0 else sg b i) + dgt b i
def isD (x : Int32) : Prop := 48 ≤ x ∧ x ≤ 57
def okA (b : Nat → Int32) (i : Nat) : Prop := if i % 5 = 4 then b i = 59 else (isD (b i) ∧ ¬ (i % 5 = 3 ∧ sg b (i + 1) = 0))
noncomputable def ft0 (b : Nat → Int32) : Nat → Option Nat
  | 0 => none
  | i + 1 => match ft0 b i with
    | some j => some j
    | none => @ite _ (okA b i) (dcl _) none (some i)
noncomputable def fault0 (b : Nat → Int32) (L : Nat) : Option Nat := match ft0 b L with
  | some j => some j
  | none => if L = 0 ∨ L % 5 = 4 then none else some L
theorem dgt_eq {b : Nat → Int32} {j : Nat} (h : isD (b j)) : b j - 48 = nI (dgt b j) ∧ dgt b j ≤ 9 := by
  unfold isD at h
  obtain ⟨d, h1, h2⟩ := nI_of2 (x := b j - 48) (M := 9) (n := 9) rfl (by grind) (by grind)
  have : dgt b j = d := by unfold dgt; rw [h2]; exact nIc (by omega)
  rw [this]
  exact ⟨h2, h1⟩
theorem sg_le (b : Nat → Int32) : ∀ i, ft0 b i = none → sg b i ≤ 9 * i := by
  intro i
  induction i with
  | zero => intro _; exact Nat.le_refl _
  | succ i ih =>
    intro h
    simp only [ft0] at h
    cases hf : ft0 b i with
    | some j => rw [hf] at h; cases h
    | none =>
      rw [hf] at h
      have hi := ih hf
      simp only at h
      by_cases ho : okA b i
      · simp only [sg]
        by_cases q : i % 5 = 4
        · rw [if_pos q]; omega
        · rw [if_neg q]
          unfold okA at ho
          rw [if_neg q] at ho
          have := (dgt_eq ho.1).2
          split <;> omega
      · rw [if_neg ho] at h; cases h
theorem v5_fits {σ : St} {K : Kr} {b : Int32} {q : Nat} (hq : q < 5) (hT : (if q = 4 then b = 59 else isD b) → K (some (.int 1)) σ) (hF : ¬ (if q = 4 then b = 59 else isD b) → K (some (.int 0)) σ) : VM M5_fits [.int b, .int (nI q)] σ K := by
  refine vm_run s5_fits n5_fits (fun _ => false) 1000 (fun E => Nat.le_of_ble_eq_true rfl) ?_
  by_cases e : q = 4
  · subst e
    set_option maxRecDepth 100000 in simp (decide := true) only [c5_fits, run_s, nxt_e, ap_const, ap_lconst, ap_ild, ap_lld, ap_ald, ap_ist, ap_lst, ap_ast, ap_iinc, ap_iadd, ap_isub, ap_imul, ap_iand, ap_ior, ap_ixor, ap_ishl, ap_ishr, ap_iushr, ap_idiv, ap_irem, ap_ineg, ap_ladd, ap_lsub, ap_lmul, ap_ldiv, ap_lrem, ap_lneg, ap_lcmp, ap_i2l, ap_l2i, ap_i2b, ap_i2s, ap_dup_int, ap_pop_int, ap_dup_ref, ap_pop_ref, ap_dup2, ap_goto, ap_tsw, ap_lsw, ap_getI, ap_getJ, ap_getR, ap_putI, ap_putZ, ap_putJ, ap_iald, ap_lald, ap_bald, ap_aald, ap_iast, ap_last, ap_bast, ap_alen, ap_gst, ap_iret, ap_zret, ap_lret, ap_vret, ap_aret, ap_lmax, ap_labs, ap_acopy, ap_invV0, ap_invS0, ap_invV1, ap_invS1, ap_invV2, ap_invS2, ap_invV3, ap_invS3, ap_invV4, ap_invS4, ap_invV5, ap_invS5, tcnT, ocT, lenIT, lenWT, lenLT, lenVT, lenZT, startfT, vpL, sa_1, sa_2, sL_1, sL_2, si_1, si_2, sj_1, sj_2, ldI_e, ldL_e, ldA_e, inC_e, lk, st1, st2, rm1, rm2, Value.category, ctn_some, ctn_none, wsum, lv_args, Int32.reduceAdd, Int32.reduceSub, Int32.reduceMul, Nat.reduceAdd, Nat.reduceLT, Nat.reduceLeDiff, Nat.reduceEqDiff, Nat.reduceBEq, ↓reduceIte, true_and, and_true, Bool.false_eq_true, true_implies, false_implies, not_true_eq_false, not_false_eq_true, Bool.or_true, Bool.or_false, Bool.true_or, Bool.false_or, bx_ceq, bx_clt, bx_cge, bx_cgt, bx_cle, bx_cne, bx_zeq, bx_zlt, bx_zge, bx_zgt, bx_zle, bx_zne, iteP, nI_lit5]
    exact ⟨fun g => hT g, fun g => hF g⟩
  · have hne : ¬ nI q = 4 := fun z => e ((nI_eq (show q < 2 ^ 31 by omega) (show 4 < 2 ^ 31 by decide)).mp z)
    rw [if_neg e] at hT hF
    set_option maxRecDepth 100000 in simp (decide := true) only [c5_fits, run_s, nxt_e, ap_const, ap_lconst, ap_ild, ap_lld, ap_ald, ap_ist, ap_lst, ap_ast, ap_iinc, ap_iadd, ap_isub, ap_imul, ap_iand, ap_ior, ap_ixor, ap_ishl, ap_ishr, ap_iushr, ap_idiv, ap_irem, ap_ineg, ap_ladd, ap_lsub, ap_lmul, ap_ldiv, ap_lrem, ap_lneg, ap_lcmp, ap_i2l, ap_l2i, ap_i2b, ap_i2s, ap_dup_int, ap_pop_int, ap_dup_ref, ap_pop_ref, ap_dup2, ap_goto, ap_tsw, ap_lsw, ap_getI, ap_getJ, ap_getR, ap_putI, ap_putZ, ap_putJ, ap_iald, ap_lald, ap_bald, ap_aald, ap_iast, ap_last, ap_bast, ap_alen, ap_gst, ap_iret, ap_zret, ap_lret, ap_vret, ap_aret, ap_lmax, ap_labs, ap_acopy, ap_invV0, ap_invS0, ap_invV1, ap_invS1, ap_invV2, ap_invS2, ap_invV3, ap_invS3, ap_invV4, ap_invS4, ap_invV5, ap_invS5, tcnT, ocT, lenIT, lenWT, lenLT, lenVT, lenZT, startfT, vpL, sa_1, sa_2, sL_1, sL_2, si_1, si_2, sj_1, sj_2, ldI_e, ldL_e, ldA_e, inC_e, lk, st1, st2, rm1, rm2, Value.category, ctn_some, ctn_none, wsum, lv_args, Int32.reduceAdd, Int32.reduceSub, Int32.reduceMul, Nat.reduceAdd, Nat.reduceLT, Nat.reduceLeDiff, Nat.reduceEqDiff, Nat.reduceBEq, ↓reduceIte, true_and, and_true, Bool.false_eq_true, true_implies, false_implies, not_true_eq_false, not_false_eq_true, Bool.or_true, Bool.or_false, Bool.true_or, Bool.false_or, bx_ceq, bx_clt, bx_cge, bx_cgt, bx_cle, bx_cne, bx_zeq, bx_zlt, bx_zge, bx_zgt, bx_zle, bx_zne, iteP, hne]
    refine v8_isFigure ?_
    by_cases g : isD b
    · rw [bI_t (show 48 + 0 ≤ b ∧ b ≤ 57 from g)]
      set_option maxRecDepth 100000 in simp (decide := true) only [c5_fits, run_s, nxt_e, ap_const, ap_lconst, ap_ild, ap_lld, ap_ald, ap_ist, ap_lst, ap_ast, ap_iinc, ap_iadd, ap_isub, ap_imul, ap_iand, ap_ior, ap_ixor, ap_ishl, ap_ishr, ap_iushr, ap_idiv, ap_irem, ap_ineg, ap_ladd, ap_lsub, ap_lmul, ap_ldiv, ap_lrem, ap_lneg, ap_lcmp, ap_i2l, ap_l2i, ap_i2b, ap_i2s, ap_dup_int, ap_pop_int, ap_dup_ref, ap_pop_ref, ap_dup2, ap_goto, ap_tsw, ap_lsw, ap_getI, ap_getJ, ap_getR, ap_putI, ap_putZ, ap_putJ, ap_iald, ap_lald, ap_bald, ap_aald, ap_iast, ap_last, ap_bast, ap_alen, ap_gst, ap_iret, ap_zret, ap_lret, ap_vret, ap_aret, ap_lmax, ap_labs, ap_acopy, ap_invV0, ap_invS0, ap_invV1, ap_invS1, ap_invV2, ap_invS2, ap_invV3, ap_invS3, ap_invV4, ap_invS4, ap_invV5, ap_invS5, tcnT, ocT, lenIT, lenWT, lenLT, lenVT, lenZT, startfT, vpL, sa_1, sa_2, sL_1, sL_2, si_1, si_2, sj_1, sj_2, ldI_e, ldL_e, ldA_e, inC_e, lk, st1, st2, rm1, rm2, Value.category, ctn_some, ctn_none, wsum, lv_args, Int32.reduceAdd, Int32.reduceSub, Int32.reduceMul, Nat.reduceAdd, Nat.reduceLT, Nat.reduceLeDiff, Nat.reduceEqDiff, Nat.reduceBEq, ↓reduceIte, true_and, and_true, Bool.false_eq_true, true_implies, false_implies, not_true_eq_false, not_false_eq_true, Bool.or_true, Bool.or_false, Bool.true_or, Bool.false_or, bx_ceq, bx_clt, bx_cge, bx_cgt, bx_cle, bx_cne, bx_zeq, bx_zlt, bx_zge, bx_zgt, bx_zle, bx_zne, iteP]
      exact hT g
    · rw [bI_f (show ¬ (48 + 0 ≤ b ∧ b ≤ 57) from g)]
      set_option maxRecDepth 100000 in simp (decide := true) only [c5_fits, run_s, nxt_e, ap_const, ap_lconst, ap_ild, ap_lld, ap_ald, ap_ist, ap_lst, ap_ast, ap_iinc, ap_iadd, ap_isub, ap_imul, ap_iand, ap_ior, ap_ixor, ap_ishl, ap_ishr, ap_iushr, ap_idiv, ap_irem, ap_ineg, ap_ladd, ap_lsub, ap_lmul, ap_ldiv, ap_lrem, ap_lneg, ap_lcmp, ap_i2l, ap_l2i, ap_i2b, ap_i2s, ap_dup_int, ap_pop_int, ap_dup_ref, ap_pop_ref, ap_dup2, ap_goto, ap_tsw, ap_lsw, ap_getI, ap_getJ, ap_getR, ap_putI, ap_putZ, ap_putJ, ap_iald, ap_lald, ap_bald, ap_aald, ap_iast, ap_last, ap_bast, ap_alen, ap_gst, ap_iret, ap_zret, ap_lret, ap_vret, ap_aret, ap_lmax, ap_labs, ap_acopy, ap_invV0, ap_invS0, ap_invV1, ap_invS1, ap_invV2, ap_invS2, ap_invV3, ap_invS3, ap_invV4, ap_invS4, ap_invV5, ap_invS5, tcnT, ocT, lenIT, lenWT, lenLT, lenVT, lenZT, startfT, vpL, sa_1, sa_2, sL_1, sL_2, si_1, si_2, sj_1, sj_2, ldI_e, ldL_e, ldA_e, inC_e, lk, st1, st2, rm1, rm2, Value.category, ctn_some, ctn_none, wsum, lv_args, Int32.reduceAdd, Int32.reduceSub, Int32.reduceMul, Nat.reduceAdd, Nat.reduceLT, Nat.reduceLeDiff, Nat.reduceEqDiff, Nat.reduceBEq, ↓reduceIte, true_and, and_true, Bool.false_eq_true, true_implies, false_implies, not_true_eq_false, not_false_eq_true, Bool.or_true, Bool.or_false, Bool.true_or, Bool.false_or, bx_ceq, bx_clt, bx_cge, bx_cgt, bx_cle, bx_cne, bx_zeq, bx_zlt, bx_zge, bx_zgt, bx_zle, bx_zne, iteP]
      exact hF g
def TD (σ : St) : Prop := ∀ j, j < 24 → ∃ d, d ≤ 9 ∧ σ.1 6 j = nI d
/-- what is read so far -/
def RI (σ σ1 : St) (i : Nat) : Prop := sm [5, 6] σ σ1 ∧ TD σ1 ∧ ∀ j, j < i → j % 5 < 4 → σ1.1 6 (j / 5 * 4 + j % 5) = nI (dgt (σ.1 3) j)
def num0 (o : Option Nat) (L : Nat) : Nat := match o with
  | none => (L + 1) / 5
  | some _ => 0
theorem L5_end {σ σ1 : St} {K : Kr} {L i : Nat} {s : Int32} {o : Option Nat} (hL : L ≤ 29) (hlen : σ.1 1 1 = nI L) (hi : i ≤ 30) (hR : RI σ σ1 L ∨ (RI σ σ1 0 ∧ o ≠ none)) (hf : σ1.1 5 2 = oI o) (ho : ∀ j, o = some j → j < 64) (hx : (o ≠ none) ∨ L ≤ i)
    (h : ∀ σ', sm [5, 6] σ σ' → TD σ' → (let v := (match o with | some j => some j | none => if L = 0 ∨ L % 5 = 4 then none else some L); σ'.1 5 2 = oI v ∧ σ'.1 5 1 = nI (num0 v L) ∧ (v = none → ∀ j, j < L → j % 5 < 4 → σ'.1 6 (j / 5 * 4 + j % 5) = nI (dgt (σ.1 3) j))) → K none σ') :
    VW M5_parse Xt K 9 [(3, .int (nI i)), (2, .int s), (0, .ref 5), (1, .ref 1)] [] σ1 := by
  have hs : sm [5, 6] σ σ1 := by rcases hR with q | q; exact q.1; exact q.1.1
  have hTD : TD σ1 := by rcases hR with q | q; exact q.2.1; exact q.1.2.1
  have hl1 : σ1.1 1 1 = nI L := by rw [(hs 1 (by decide)).1]; exact hlen
  cases o with
  | some j =>
    have hj := ho j rfl
    have hf' : σ1.1 5 2 = nI j := hf
    refine run_sound s5_parse (fun pc => pc == 9) _ 1000 _ _ _ _ ?_
    have hfin : K none (si σ1 5 1 0) := by
      refine h _ (hs.si (by decide)) hTD ⟨hf, rfl, fun e => by cases e⟩
    set_option maxRecDepth 100000 in simp (decide := true) only [c5_parse, run_s, nxt_e, ap_const, ap_lconst, ap_ild, ap_lld, ap_ald, ap_ist, ap_lst, ap_ast, ap_iinc, ap_iadd, ap_isub, ap_imul, ap_iand, ap_ior, ap_ixor, ap_ishl, ap_ishr, ap_iushr, ap_idiv, ap_irem, ap_ineg, ap_ladd, ap_lsub, ap_lmul, ap_ldiv, ap_lrem, ap_lneg, ap_lcmp, ap_i2l, ap_l2i, ap_i2b, ap_i2s, ap_dup_int, ap_pop_int, ap_dup_ref, ap_pop_ref, ap_dup2, ap_goto, ap_tsw, ap_lsw, ap_getI, ap_getJ, ap_getR, ap_putI, ap_putZ, ap_putJ, ap_iald, ap_lald, ap_bald, ap_aald, ap_iast, ap_last, ap_bast, ap_alen, ap_gst, ap_iret, ap_zret, ap_lret, ap_vret, ap_aret, ap_lmax, ap_labs, ap_acopy, ap_invV0, ap_invS0, ap_invV1, ap_invS1, ap_invV2, ap_invS2, ap_invV3, ap_invS3, ap_invV4, ap_invS4, ap_invV5, ap_invS5, tcnT, ocT, lenIT, lenWT, lenLT, lenVT, lenZT, startfT, vpL, sa_1, sa_2, sL_1, sL_2, si_1, si_2, sj_1, sj_2, ldI_e, ldL_e, ldA_e, inC_e, lk, st1, st2, rm1, rm2, Value.category, ctn_some, ctn_none, wsum, lv_args, Int32.reduceAdd, Int32.reduceSub, Int32.reduceMul, Nat.reduceAdd, Nat.reduceLT, Nat.reduceLeDiff, Nat.reduceEqDiff, Nat.reduceBEq, ↓reduceIte, true_and, and_true, Bool.false_eq_true, true_implies, false_implies, not_true_eq_false, not_false_eq_true, Bool.or_true, Bool.or_false, Bool.true_or, Bool.false_or, bx_ceq, bx_clt, bx_cge, bx_cgt, bx_cle, bx_cne, bx_zeq, bx_zlt, bx_zge, bx_zgt, bx_zle, bx_zne, iteP, hl1, hf', nIm1 j hj]
    exact ⟨fun _ => hfin, fun _ => hfin⟩
  | none =>
    have hLi : L ≤ i := by rcases hx with q | q; exact absurd rfl q; exact q
    have hR' : RI σ σ1 L := by rcases hR with q | q; exact q; exact absurd rfl q.2
    have hf' : σ1.1 5 2 = -1 := hf
    by_cases h0 : L = 0
    · subst h0
      refine run_sound s5_parse (fun pc => pc == 9) _ 1000 _ _ _ _ ?_
      set_option maxRecDepth 100000 in simp (decide := true) only [c5_parse, run_s, nxt_e, ap_const, ap_lconst, ap_ild, ap_lld, ap_ald, ap_ist, ap_lst, ap_ast, ap_iinc, ap_iadd, ap_isub, ap_imul, ap_iand, ap_ior, ap_ixor, ap_ishl, ap_ishr, ap_iushr, ap_idiv, ap_irem, ap_ineg, ap_ladd, ap_lsub, ap_lmul, ap_ldiv, ap_lrem, ap_lneg, ap_lcmp, ap_i2l, ap_l2i, ap_i2b, ap_i2s, ap_dup_int, ap_pop_int, ap_dup_ref, ap_pop_ref, ap_dup2, ap_goto, ap_tsw, ap_lsw, ap_getI, ap_getJ, ap_getR, ap_putI, ap_putZ, ap_putJ, ap_iald, ap_lald, ap_bald, ap_aald, ap_iast, ap_last, ap_bast, ap_alen, ap_gst, ap_iret, ap_zret, ap_lret, ap_vret, ap_aret, ap_lmax, ap_labs, ap_acopy, ap_invV0, ap_invS0, ap_invV1, ap_invS1, ap_invV2, ap_invS2, ap_invV3, ap_invS3, ap_invV4, ap_invS4, ap_invV5, ap_invS5, tcnT, ocT, lenIT, lenWT, lenLT, lenVT, lenZT, startfT, vpL, sa_1, sa_2, sL_1, sL_2, si_1, si_2, sj_1, sj_2, ldI_e, ldL_e, ldA_e, inC_e, lk, st1, st2, rm1, rm2, Value.category, ctn_some, ctn_none, wsum, lv_args, Int32.reduceAdd, Int32.reduceSub, Int32.reduceMul, Nat.reduceAdd, Nat.reduceLT, Nat.reduceLeDiff, Nat.reduceEqDiff, Nat.reduceBEq, ↓reduceIte, true_and, and_true, Bool.false_eq_true, true_implies, false_implies, not_true_eq_false, not_false_eq_true, Bool.or_true, Bool.or_false, Bool.true_or, Bool.false_or, bx_ceq, bx_clt, bx_cge, bx_cgt, bx_cle, bx_cne, bx_zeq, bx_zlt, bx_zge, bx_zgt, bx_zle, bx_zne, iteP, hl1, hf', eq_true (nI_le hLi (by omega)), eq_true (show nI 0 ≤ 0 by decide), eq_true (nI_le (Nat.zero_le i) (by omega))]
      refine h _ (hs.si (by decide)) hTD ⟨hf, ?_, fun _ j hj => by omega⟩
      rfl
    · by_cases h4 : L % 5 = 4
      · have e4 : (nI (L % 5) = 4) = True := eq_true (by rw [h4]; rfl)
        refine run_sound s5_parse (fun pc => pc == 9) _ 1000 _ _ _ _ ?_
        set_option maxRecDepth 100000 in simp (decide := true) only [c5_parse, run_s, nxt_e, ap_const, ap_lconst, ap_ild, ap_lld, ap_ald, ap_ist, ap_lst, ap_ast, ap_iinc, ap_iadd, ap_isub, ap_imul, ap_iand, ap_ior, ap_ixor, ap_ishl, ap_ishr, ap_iushr, ap_idiv, ap_irem, ap_ineg, ap_ladd, ap_lsub, ap_lmul, ap_ldiv, ap_lrem, ap_lneg, ap_lcmp, ap_i2l, ap_l2i, ap_i2b, ap_i2s, ap_dup_int, ap_pop_int, ap_dup_ref, ap_pop_ref, ap_dup2, ap_goto, ap_tsw, ap_lsw, ap_getI, ap_getJ, ap_getR, ap_putI, ap_putZ, ap_putJ, ap_iald, ap_lald, ap_bald, ap_aald, ap_iast, ap_last, ap_bast, ap_alen, ap_gst, ap_iret, ap_zret, ap_lret, ap_vret, ap_aret, ap_lmax, ap_labs, ap_acopy, ap_invV0, ap_invS0, ap_invV1, ap_invS1, ap_invV2, ap_invS2, ap_invV3, ap_invS3, ap_invV4, ap_invS4, ap_invV5, ap_invS5, tcnT, ocT, lenIT, lenWT, lenLT, lenVT, lenZT, startfT, vpL, sa_1, sa_2, sL_1, sL_2, si_1, si_2, sj_1, sj_2, ldI_e, ldL_e, ldA_e, inC_e, lk, st1, st2, rm1, rm2, Value.category, ctn_some, ctn_none, wsum, lv_args, Int32.reduceAdd, Int32.reduceSub, Int32.reduceMul, Nat.reduceAdd, Nat.reduceLT, Nat.reduceLeDiff, Nat.reduceEqDiff, Nat.reduceBEq, ↓reduceIte, true_and, and_true, Bool.false_eq_true, true_implies, false_implies, not_true_eq_false, not_false_eq_true, Bool.or_true, Bool.or_false, Bool.true_or, Bool.false_or, bx_ceq, bx_clt, bx_cge, bx_cgt, bx_cle, bx_cne, bx_zeq, bx_zlt, bx_zge, bx_zgt, bx_zle, bx_zne, iteP, hl1, hf', eq_true (nI_le hLi (by omega)), eq_false (nI_nle (show 0 < L by omega) (by omega)), rem5 (show L < 2 ^ 31 by omega), e4, nI_1, div5 (show L + 1 < 2 ^ 31 by omega)]
        have hv : (if L = 0 ∨ L % 5 = 4 then none else some L) = none := if_pos (Or.inr h4)
        refine h _ (hs.si (by decide)) hTD ?_
        dsimp only
        rw [hv]
        refine ⟨hf, rfl, fun _ j hj hj4 => hR'.2.2 j hj hj4⟩
      · have e4 : (nI (L % 5) = 4) = False := eq_false (fun z => h4 ((nI_eq (show L % 5 < 2 ^ 31 by omega) (show 4 < 2 ^ 31 by decide)).mp z))
        refine run_sound s5_parse (fun pc => pc == 9) _ 1000 _ _ _ _ ?_
        set_option maxRecDepth 100000 in simp (decide := true) only [c5_parse, run_s, nxt_e, ap_const, ap_lconst, ap_ild, ap_lld, ap_ald, ap_ist, ap_lst, ap_ast, ap_iinc, ap_iadd, ap_isub, ap_imul, ap_iand, ap_ior, ap_ixor, ap_ishl, ap_ishr, ap_iushr, ap_idiv, ap_irem, ap_ineg, ap_ladd, ap_lsub, ap_lmul, ap_ldiv, ap_lrem, ap_lneg, ap_lcmp, ap_i2l, ap_l2i, ap_i2b, ap_i2s, ap_dup_int, ap_pop_int, ap_dup_ref, ap_pop_ref, ap_dup2, ap_goto, ap_tsw, ap_lsw, ap_getI, ap_getJ, ap_getR, ap_putI, ap_putZ, ap_putJ, ap_iald, ap_lald, ap_bald, ap_aald, ap_iast, ap_last, ap_bast, ap_alen, ap_gst, ap_iret, ap_zret, ap_lret, ap_vret, ap_aret, ap_lmax, ap_labs, ap_acopy, ap_invV0, ap_invS0, ap_invV1, ap_invS1, ap_invV2, ap_invS2, ap_invV3, ap_invS3, ap_invV4, ap_invS4, ap_invV5, ap_invS5, tcnT, ocT, lenIT, lenWT, lenLT, lenVT, lenZT, startfT, vpL, sa_1, sa_2, sL_1, sL_2, si_1, si_2, sj_1, sj_2, ldI_e, ldL_e, ldA_e, inC_e, lk, st1, st2, rm1, rm2, Value.category, ctn_some, ctn_none, wsum, lv_args, Int32.reduceAdd, Int32.reduceSub, Int32.reduceMul, Nat.reduceAdd, Nat.reduceLT, Nat.reduceLeDiff, Nat.reduceEqDiff, Nat.reduceBEq, ↓reduceIte, true_and, and_true, Bool.false_eq_true, true_implies, false_implies, not_true_eq_false, not_false_eq_true, Bool.or_true, Bool.or_false, Bool.true_or, Bool.false_or, bx_ceq, bx_clt, bx_cge, bx_cgt, bx_cle, bx_cne, bx_zeq, bx_zlt, bx_zge, bx_zgt, bx_zle, bx_zne, iteP, hl1, hf', eq_true (nI_le hLi (by omega)), eq_false (nI_nle (show 0 < L by omega) (by omega)), rem5 (show L < 2 ^ 31 by omega), e4, upd, nIm1 L (by omega)]
        have hv : (if L = 0 ∨ L % 5 = 4 then none else some L) = some L := if_neg (by omega)
        refine h _ ((hs.si (by decide)).si (by decide)) hTD ?_
        dsimp only
        rw [hv]
        exact ⟨rfl, rfl, fun e => by cases e⟩
theorem okA_4 {b : Nat → Int32} {i : Nat} (h : i % 5 = 4) : okA b i ↔ b i = 59 := by unfold okA; rw [if_pos h]
theorem okA_d {b : Nat → Int32} {i : Nat} (h : i % 5 ≠ 4) : okA b i ↔ (isD (b i) ∧ ¬ (i % 5 = 3 ∧ sg b (i + 1) = 0)) := by unfold okA; rw [if_neg h]
theorem ft0_ok {b : Nat → Int32} {i : Nat} (h : ft0 b i = none) (ho : okA b i) : ft0 b (i + 1) = none := by
  simp only [ft0, h]
  exact if_pos ho
theorem ft0_bad {b : Nat → Int32} {i : Nat} (h : ft0 b i = none) (ho : ¬ okA b i) : ft0 b (i + 1) = some i := by
  simp only [ft0, h]
  exact if_neg ho
theorem ft0_some {b : Nat → Int32} {j : Nat} : ∀ {i : Nat}, ft0 b i = some j → ∀ d, ft0 b (i + d) = some j := by
  intro i h d
  induction d with
  | zero => exact h
  | succ d ih =>
    show ft0 b (i + d + 1) = some j
    simp only [ft0, ih]
theorem L5_parse {σ : St} {K : Kr} {L : Nat} (hL : L ≤ 29) (hlen : σ.1 1 1 = nI L)
    (h : ∀ σ', sm [5, 6] σ σ' → TD σ' → σ'.1 5 2 = oI (fault0 (σ.1 3) L) → σ'.1 5 1 = nI (num0 (fault0 (σ.1 3) L) L) → (fault0 (σ.1 3) L = none → ∀ j, j < L → j % 5 < 4 → σ'.1 6 (j / 5 * 4 + j % 5) = nI (dgt (σ.1 3) j)) → K none σ') :
    ∀ (d i : Nat), i + d = L → ∀ σ1, RI σ σ1 i → σ1.1 5 2 = -1 → ft0 (σ.1 3) i = none → VW M5_parse Xt K 9 [(3, .int (nI i)), (2, .int (nI (sg (σ.1 3) i))), (0, .ref 5), (1, .ref 1)] [] σ1 := by
  intro d
  induction d with
  | zero =>
    intro i hi σ1 hR hf hft
    have : i = L := by omega
    subst this
    refine L5_end (o := none) hL hlen (by omega) (Or.inl hR) hf (fun j hj => by cases hj) (Or.inr (Nat.le_refl _)) ?_
    intro σ' h1 h2 h3
    have e : fault0 (σ.1 3) i = (if i = 0 ∨ i % 5 = 4 then none else some i) := by unfold fault0; rw [hft]
    dsimp only at h3
    rw [← e] at h3
    exact h σ' h1 h2 h3.1 h3.2.1 h3.2.2
  | succ d ih =>
    intro i hi σ1 hR hf hft
    have hs := hR.1
    have hl1 : σ1.1 1 1 = nI L := by rw [(hs 1 (by decide)).1]; exact hlen
    have h3 : σ1.1 3 = σ.1 3 := (hs 3 (by decide)).1
    have hsg := sg_le (σ.1 3) i hft
    have hq5 : i % 5 < 5 := Nat.mod_lt _ (by decide)
    have hd6 : i / 5 < 6 := by omega
    have bad : ∀ (σ2 : St) (s : Int32), ¬ okA (σ.1 3) i → RI σ σ2 0 → σ2.1 5 2 = nI i → VW M5_parse Xt K 9 [(3, .int (nI (i + 1))), (2, .int s), (0, .ref 5), (1, .ref 1)] [] σ2 := by
      intro σ2 s hbad hR2 hf2
      refine L5_end (o := some i) hL hlen (by omega) (Or.inr ⟨hR2, by simp⟩) hf2 (fun j hj => by cases hj; omega) (Or.inl (by simp)) ?_
      intro σ' h1 h2 h3
      have e : fault0 (σ.1 3) L = some i := by
        unfold fault0
        have := ft0_some (ft0_bad hft hbad) d
        rw [show i + 1 + d = L by omega] at this
        rw [this]
      dsimp only at h3
      rw [← e] at h3
      exact h σ' h1 h2 h3.1 h3.2.1 h3.2.2
    have hidx : nI (i / 5) * 4 + nI (i % 5) = nI (i / 5 * 4 + i % 5) := by rw [nI_x4, nI_add]
    have hix : i / 5 * 4 + i % 5 < 24 := by omega
    have hw1 : ∀ (b : Int32) (hb : isD (σ.1 3 i)), RI σ (si σ1 6 (i / 5 * 4 + i % 5) (nI (dgt (σ.1 3) i))) (i + 1) := by
      intro b hb
      refine ⟨hs.si (by decide), fun j hj => ?_, fun j hj hj4 => ?_⟩
      · rw [si_1, if_pos rfl]
        unfold upd
        by_cases e : j = i / 5 * 4 + i % 5
        · rw [if_pos e]; exact ⟨_, (dgt_eq hb).2, rfl⟩
        · rw [if_neg e]; exact hR.2.1 j hj
      · rw [si_1, if_pos rfl]
        unfold upd
        by_cases e : j = i
        · rw [if_pos (by rw [e]), e]
        · rw [if_neg (by omega)]; exact hR.2.2 j (by omega) hj4
    refine run_sound s5_parse (fun pc => pc == 9) _ 1000 _ _ _ _ ?_
    by_cases c4 : i % 5 = 4
    · have hR1 : RI σ σ1 (i + 1) := by
        refine ⟨hs, hR.2.1, fun j hj hj4 => ?_⟩
        rcases Nat.lt_or_ge j i with z | z
        · exact hR.2.2 j z hj4
        · have : j = i := by omega
          subst this
          omega
      rw [c4] at hidx
      set_option maxRecDepth 100000 in simp (decide := true) only [c5_parse, run_s, nxt_e, ap_const, ap_lconst, ap_ild, ap_lld, ap_ald, ap_ist, ap_lst, ap_ast, ap_iinc, ap_iadd, ap_isub, ap_imul, ap_iand, ap_ior, ap_ixor, ap_ishl, ap_ishr, ap_iushr, ap_idiv, ap_irem, ap_ineg, ap_ladd, ap_lsub, ap_lmul, ap_ldiv, ap_lrem, ap_lneg, ap_lcmp, ap_i2l, ap_l2i, ap_i2b, ap_i2s, ap_dup_int, ap_pop_int, ap_dup_ref, ap_pop_ref, ap_dup2, ap_goto, ap_tsw, ap_lsw, ap_getI, ap_getJ, ap_getR, ap_putI, ap_putZ, ap_putJ, ap_iald, ap_lald, ap_bald, ap_aald, ap_iast, ap_last, ap_bast, ap_alen, ap_gst, ap_iret, ap_zret, ap_lret, ap_vret, ap_aret, ap_lmax, ap_labs, ap_acopy, ap_invV0, ap_invS0, ap_invV1, ap_invS1, ap_invV2, ap_invS2, ap_invV3, ap_invS3, ap_invV4, ap_invS4, ap_invV5, ap_invS5, tcnT, ocT, lenIT, lenWT, lenLT, lenVT, lenZT, startfT, vpL, sa_1, sa_2, sL_1, sL_2, si_1, si_2, sj_1, sj_2, ldI_e, ldL_e, ldA_e, inC_e, lk, st1, st2, rm1, rm2, Value.category, ctn_some, ctn_none, wsum, lv_args, Int32.reduceAdd, Int32.reduceSub, Int32.reduceMul, Nat.reduceAdd, Nat.reduceLT, Nat.reduceLeDiff, Nat.reduceEqDiff, Nat.reduceBEq, ↓reduceIte, true_and, and_true, Bool.false_eq_true, true_implies, false_implies, not_true_eq_false, not_false_eq_true, Bool.or_true, Bool.or_false, Bool.true_or, Bool.false_or, bx_ceq, bx_clt, bx_cge, bx_cgt, bx_cle, bx_cne, bx_zeq, bx_zlt, bx_zge, bx_zgt, bx_zle, bx_zne, iteP, hl1, hf, eq_false (nI_ge (show i < L by omega) (by omega)), rem5 (show i < 2 ^ 31 by omega), c4, nI_lit5, vin (show i < 29 by omega) (by decide), nIc (show i < 2 ^ 31 by omega), h3]
      refine v5_fits (q := 4) (by decide) (fun g => ?_) (fun g => ?_)
      · rw [if_pos rfl] at g
        set_option maxRecDepth 100000 in simp (decide := true) only [c5_parse, run_s, nxt_e, ap_const, ap_lconst, ap_ild, ap_lld, ap_ald, ap_ist, ap_lst, ap_ast, ap_iinc, ap_iadd, ap_isub, ap_imul, ap_iand, ap_ior, ap_ixor, ap_ishl, ap_ishr, ap_iushr, ap_idiv, ap_irem, ap_ineg, ap_ladd, ap_lsub, ap_lmul, ap_ldiv, ap_lrem, ap_lneg, ap_lcmp, ap_i2l, ap_l2i, ap_i2b, ap_i2s, ap_dup_int, ap_pop_int, ap_dup_ref, ap_pop_ref, ap_dup2, ap_goto, ap_tsw, ap_lsw, ap_getI, ap_getJ, ap_getR, ap_putI, ap_putZ, ap_putJ, ap_iald, ap_lald, ap_bald, ap_aald, ap_iast, ap_last, ap_bast, ap_alen, ap_gst, ap_iret, ap_zret, ap_lret, ap_vret, ap_aret, ap_lmax, ap_labs, ap_acopy, ap_invV0, ap_invS0, ap_invV1, ap_invS1, ap_invV2, ap_invS2, ap_invV3, ap_invS3, ap_invV4, ap_invS4, ap_invV5, ap_invS5, tcnT, ocT, lenIT, lenWT, lenLT, lenVT, lenZT, startfT, vpL, sa_1, sa_2, sL_1, sL_2, si_1, si_2, sj_1, sj_2, ldI_e, ldL_e, ldA_e, inC_e, lk, st1, st2, rm1, rm2, Value.category, ctn_some, ctn_none, wsum, lv_args, Int32.reduceAdd, Int32.reduceSub, Int32.reduceMul, Nat.reduceAdd, Nat.reduceLT, Nat.reduceLeDiff, Nat.reduceEqDiff, Nat.reduceBEq, ↓reduceIte, true_and, and_true, Bool.false_eq_true, true_implies, false_implies, not_true_eq_false, not_false_eq_true, Bool.or_true, Bool.or_false, Bool.true_or, Bool.false_or, bx_ceq, bx_clt, bx_cge, bx_cgt, bx_cle, bx_cne, bx_zeq, bx_zlt, bx_zge, bx_zgt, bx_zle, bx_zne, iteP, div5 (show i < 2 ^ 31 by omega), eq_true (show nI (i / 5) < 6 from nI_lt hd6 (by decide)), nI_1]
        have hii := ih (i + 1) (by omega) σ1 hR1 hf (ft0_ok hft ((okA_4 c4).mpr g))
        have e : sg (σ.1 3) (i + 1) = sg (σ.1 3) i := by simp only [sg]; rw [if_pos c4]
        rw [e] at hii
        exact hii.sub [0, 1, 3, 4] rfl
      · rw [if_pos rfl] at g
        set_option maxRecDepth 100000 in simp (decide := true) only [c5_parse, run_s, nxt_e, ap_const, ap_lconst, ap_ild, ap_lld, ap_ald, ap_ist, ap_lst, ap_ast, ap_iinc, ap_iadd, ap_isub, ap_imul, ap_iand, ap_ior, ap_ixor, ap_ishl, ap_ishr, ap_iushr, ap_idiv, ap_irem, ap_ineg, ap_ladd, ap_lsub, ap_lmul, ap_ldiv, ap_lrem, ap_lneg, ap_lcmp, ap_i2l, ap_l2i, ap_i2b, ap_i2s, ap_dup_int, ap_pop_int, ap_dup_ref, ap_pop_ref, ap_dup2, ap_goto, ap_tsw, ap_lsw, ap_getI, ap_getJ, ap_getR, ap_putI, ap_putZ, ap_putJ, ap_iald, ap_lald, ap_bald, ap_aald, ap_iast, ap_last, ap_bast, ap_alen, ap_gst, ap_iret, ap_zret, ap_lret, ap_vret, ap_aret, ap_lmax, ap_labs, ap_acopy, ap_invV0, ap_invS0, ap_invV1, ap_invS1, ap_invV2, ap_invS2, ap_invV3, ap_invS3, ap_invV4, ap_invS4, ap_invV5, ap_invS5, tcnT, ocT, lenIT, lenWT, lenLT, lenVT, lenZT, startfT, vpL, sa_1, sa_2, sL_1, sL_2, si_1, si_2, sj_1, sj_2, ldI_e, ldL_e, ldA_e, inC_e, lk, st1, st2, rm1, rm2, Value.category, ctn_some, ctn_none, wsum, lv_args, Int32.reduceAdd, Int32.reduceSub, Int32.reduceMul, Nat.reduceAdd, Nat.reduceLT, Nat.reduceLeDiff, Nat.reduceEqDiff, Nat.reduceBEq, ↓reduceIte, true_and, and_true, Bool.false_eq_true, true_implies, false_implies, not_true_eq_false, not_false_eq_true, Bool.or_true, Bool.or_false, Bool.true_or, Bool.false_or, bx_ceq, bx_clt, bx_cge, bx_cgt, bx_cle, bx_cne, bx_zeq, bx_zlt, bx_zge, bx_zgt, bx_zle, bx_zne, iteP, nI_1]
        exact (bad (si σ1 5 2 (nI i)) _ (fun z => g ((okA_4 c4).mp z)) ⟨hs.si (by decide), hR.2.1, fun j hj => by omega⟩ rfl).sub [0, 1, 3, 4] rfl
    · have c4' : i % 5 < 4 := by omega
      rcases (show i % 5 = 0 ∨ i % 5 = 1 ∨ i % 5 = 2 ∨ i % 5 = 3 by omega) with c | c | c | c
      · have hsg1 : sg (σ.1 3) (i + 1) = 0 + dgt (σ.1 3) i := by simp only [sg]; rw [if_neg c4, if_pos c]
        rw [c] at hidx
        set_option maxRecDepth 100000 in simp (decide := true) only [c5_parse, run_s, nxt_e, ap_const, ap_lconst, ap_ild, ap_lld, ap_ald, ap_ist, ap_lst, ap_ast, ap_iinc, ap_iadd, ap_isub, ap_imul, ap_iand, ap_ior, ap_ixor, ap_ishl, ap_ishr, ap_iushr, ap_idiv, ap_irem, ap_ineg, ap_ladd, ap_lsub, ap_lmul, ap_ldiv, ap_lrem, ap_lneg, ap_lcmp, ap_i2l, ap_l2i, ap_i2b, ap_i2s, ap_dup_int, ap_pop_int, ap_dup_ref, ap_pop_ref, ap_dup2, ap_goto, ap_tsw, ap_lsw, ap_getI, ap_getJ, ap_getR, ap_putI, ap_putZ, ap_putJ, ap_iald, ap_lald, ap_bald, ap_aald, ap_iast, ap_last, ap_bast, ap_alen, ap_gst, ap_iret, ap_zret, ap_lret, ap_vret, ap_aret, ap_lmax, ap_labs, ap_acopy, ap_invV0, ap_invS0, ap_invV1, ap_invS1, ap_invV2, ap_invS2, ap_invV3, ap_invS3, ap_invV4, ap_invS4, ap_invV5, ap_invS5, tcnT, ocT, lenIT, lenWT, lenLT, lenVT, lenZT, startfT, vpL, sa_1, sa_2, sL_1, sL_2, si_1, si_2, sj_1, sj_2, ldI_e, ldL_e, ldA_e, inC_e, lk, st1, st2, rm1, rm2, Value.category, ctn_some, ctn_none, wsum, lv_args, Int32.reduceAdd, Int32.reduceSub, Int32.reduceMul, Nat.reduceAdd, Nat.reduceLT, Nat.reduceLeDiff, Nat.reduceEqDiff, Nat.reduceBEq, ↓reduceIte, true_and, and_true, Bool.false_eq_true, true_implies, false_implies, not_true_eq_false, not_false_eq_true, Bool.or_true, Bool.or_false, Bool.true_or, Bool.false_or, bx_ceq, bx_clt, bx_cge, bx_cgt, bx_cle, bx_cne, bx_zeq, bx_zlt, bx_zge, bx_zgt, bx_zle, bx_zne, iteP, hl1, hf, eq_false (nI_ge (show i < L by omega) (by omega)), rem5 (show i < 2 ^ 31 by omega), c, nI_lit5, vin (show i < 29 by omega) (by decide), nIc (show i < 2 ^ 31 by omega), h3]
        refine v5_fits (q := 0) (by decide) (fun g => ?_) (fun g => ?_)
        · rw [if_neg (by decide)] at g
          have hdg := dgt_eq g
          rw [nI_lit5.1] at hidx
          have hR2 := hw1 0 g
          rw [c] at hR2
          have hsum : (0 : Int32) + nI (dgt (σ.1 3) i) = nI (sg (σ.1 3) (i + 1)) := by rw [hsg1]; exact nI_add _ _
          have hix' : i / 5 * 4 + 0 < 24 := by omega
          set_option maxRecDepth 100000 in simp (decide := true) only [c5_parse, run_s, nxt_e, ap_const, ap_lconst, ap_ild, ap_lld, ap_ald, ap_ist, ap_lst, ap_ast, ap_iinc, ap_iadd, ap_isub, ap_imul, ap_iand, ap_ior, ap_ixor, ap_ishl, ap_ishr, ap_iushr, ap_idiv, ap_irem, ap_ineg, ap_ladd, ap_lsub, ap_lmul, ap_ldiv, ap_lrem, ap_lneg, ap_lcmp, ap_i2l, ap_l2i, ap_i2b, ap_i2s, ap_dup_int, ap_pop_int, ap_dup_ref, ap_pop_ref, ap_dup2, ap_goto, ap_tsw, ap_lsw, ap_getI, ap_getJ, ap_getR, ap_putI, ap_putZ, ap_putJ, ap_iald, ap_lald, ap_bald, ap_aald, ap_iast, ap_last, ap_bast, ap_alen, ap_gst, ap_iret, ap_zret, ap_lret, ap_vret, ap_aret, ap_lmax, ap_labs, ap_acopy, ap_invV0, ap_invS0, ap_invV1, ap_invS1, ap_invV2, ap_invS2, ap_invV3, ap_invS3, ap_invV4, ap_invS4, ap_invV5, ap_invS5, tcnT, ocT, lenIT, lenWT, lenLT, lenVT, lenZT, startfT, vpL, sa_1, sa_2, sL_1, sL_2, si_1, si_2, sj_1, sj_2, ldI_e, ldL_e, ldA_e, inC_e, lk, st1, st2, rm1, rm2, Value.category, ctn_some, ctn_none, wsum, lv_args, Int32.reduceAdd, Int32.reduceSub, Int32.reduceMul, Nat.reduceAdd, Nat.reduceLT, Nat.reduceLeDiff, Nat.reduceEqDiff, Nat.reduceBEq, ↓reduceIte, true_and, and_true, Bool.false_eq_true, true_implies, false_implies, not_true_eq_false, not_false_eq_true, Bool.or_true, Bool.or_false, Bool.true_or, Bool.false_or, bx_ceq, bx_clt, bx_cge, bx_cgt, bx_cle, bx_cne, bx_zeq, bx_zlt, bx_zge, bx_zgt, bx_zle, bx_zne, iteP, div5 (show i < 2 ^ 31 by omega), eq_true (show nI (i / 5) < 6 from nI_lt hd6 (by decide)), vin (show i < 29 by omega) (by decide), nIc (show i < 2 ^ 31 by omega), h3, hdg.1, hidx, vin hix' (by decide), nIc (show i / 5 * 4 + 0 < 2 ^ 31 by omega), hsum, nI_1]
          have hii := ih (i + 1) (by omega) (si (si σ1 6 (i / 5 * 4 + 0) (nI (dgt (σ.1 3) i))) 5 2 (-1)) ⟨hR2.1.si (by decide), hR2.2.1, hR2.2.2⟩ rfl (ft0_ok hft ((okA_d c4).mpr ⟨g, fun z => by omega⟩))
          exact hii.sub [0, 1, 3, 4] rfl
        · rw [if_neg (by decide)] at g
          set_option maxRecDepth 100000 in simp (decide := true) only [c5_parse, run_s, nxt_e, ap_const, ap_lconst, ap_ild, ap_lld, ap_ald, ap_ist, ap_lst, ap_ast, ap_iinc, ap_iadd, ap_isub, ap_imul, ap_iand, ap_ior, ap_ixor, ap_ishl, ap_ishr, ap_iushr, ap_idiv, ap_irem, ap_ineg, ap_ladd, ap_lsub, ap_lmul, ap_ldiv, ap_lrem, ap_lneg, ap_lcmp, ap_i2l, ap_l2i, ap_i2b, ap_i2s, ap_dup_int, ap_pop_int, ap_dup_ref, ap_pop_ref, ap_dup2, ap_goto, ap_tsw, ap_lsw, ap_getI, ap_getJ, ap_getR, ap_putI, ap_putZ, ap_putJ, ap_iald, ap_lald, ap_bald, ap_aald, ap_iast, ap_last, ap_bast, ap_alen, ap_gst, ap_iret, ap_zret, ap_lret, ap_vret, ap_aret, ap_lmax, ap_labs, ap_acopy, ap_invV0, ap_invS0, ap_invV1, ap_invS1, ap_invV2, ap_invS2, ap_invV3, ap_invS3, ap_invV4, ap_invS4, ap_invV5, ap_invS5, tcnT, ocT, lenIT, lenWT, lenLT, lenVT, lenZT, startfT, vpL, sa_1, sa_2, sL_1, sL_2, si_1, si_2, sj_1, sj_2, ldI_e, ldL_e, ldA_e, inC_e, lk, st1, st2, rm1, rm2, Value.category, ctn_some, ctn_none, wsum, lv_args, Int32.reduceAdd, Int32.reduceSub, Int32.reduceMul, Nat.reduceAdd, Nat.reduceLT, Nat.reduceLeDiff, Nat.reduceEqDiff, Nat.reduceBEq, ↓reduceIte, true_and, and_true, Bool.false_eq_true, true_implies, false_implies, not_true_eq_false, not_false_eq_true, Bool.or_true, Bool.or_false, Bool.true_or, Bool.false_or, bx_ceq, bx_clt, bx_cge, bx_cgt, bx_cle, bx_cne, bx_zeq, bx_zlt, bx_zge, bx_zgt, bx_zle, bx_zne, iteP, nI_1]
          exact (bad (si σ1 5 2 (nI i)) _ (fun z => g ((okA_d c4).mp z).1) ⟨hs.si (by decide), hR.2.1, fun j hj => by omega⟩ rfl).sub [0, 1, 3, 4] rfl
      · have hsg1 : sg (σ.1 3) (i + 1) = sg (σ.1 3) i + dgt (σ.1 3) i := by simp only [sg]; rw [if_neg c4, if_neg (by omega)]
        rw [c] at hidx
        set_option maxRecDepth 100000 in simp (decide := true) only [c5_parse, run_s, nxt_e, ap_const, ap_lconst, ap_ild, ap_lld, ap_ald, ap_ist, ap_lst, ap_ast, ap_iinc, ap_iadd, ap_isub, ap_imul, ap_iand, ap_ior, ap_ixor, ap_ishl, ap_ishr, ap_iushr, ap_idiv, ap_irem, ap_ineg, ap_ladd, ap_lsub, ap_lmul, ap_ldiv, ap_lrem, ap_lneg, ap_lcmp, ap_i2l, ap_l2i, ap_i2b, ap_i2s, ap_dup_int, ap_pop_int, ap_dup_ref, ap_pop_ref, ap_dup2, ap_goto, ap_tsw, ap_lsw, ap_getI, ap_getJ, ap_getR, ap_putI, ap_putZ, ap_putJ, ap_iald, ap_lald, ap_bald, ap_aald, ap_iast, ap_last, ap_bast, ap_alen, ap_gst, ap_iret, ap_zret, ap_lret, ap_vret, ap_aret, ap_lmax, ap_labs, ap_acopy, ap_invV0, ap_invS0, ap_invV1, ap_invS1, ap_invV2, ap_invS2, ap_invV3, ap_invS3, ap_invV4, ap_invS4, ap_invV5, ap_invS5, tcnT, ocT, lenIT, lenWT, lenLT, lenVT, lenZT, startfT, vpL, sa_1, sa_2, sL_1, sL_2, si_1, si_2, sj_1, sj_2, ldI_e, ldL_e, ldA_e, inC_e, lk, st1, st2, rm1, rm2, Value.category, ctn_some, ctn_none, wsum, lv_args, Int32.reduceAdd, Int32.reduceSub, Int32.reduceMul, Nat.reduceAdd, Nat.reduceLT, Nat.reduceLeDiff, Nat.reduceEqDiff, Nat.reduceBEq, ↓reduceIte, true_and, and_true, Bool.false_eq_true, true_implies, false_implies, not_true_eq_false, not_false_eq_true, Bool.or_true, Bool.or_false, Bool.true_or, Bool.false_or, bx_ceq, bx_clt, bx_cge, bx_cgt, bx_cle, bx_cne, bx_zeq, bx_zlt, bx_zge, bx_zgt, bx_zle, bx_zne, iteP, hl1, hf, eq_false (nI_ge (show i < L by omega) (by omega)), rem5 (show i < 2 ^ 31 by omega), c, nI_lit5, vin (show i < 29 by omega) (by decide), nIc (show i < 2 ^ 31 by omega), h3]
        refine v5_fits (q := 1) (by decide) (fun g => ?_) (fun g => ?_)
        · rw [if_neg (by decide)] at g
          have hdg := dgt_eq g
          rw [nI_lit5.2.1] at hidx
          have hR2 := hw1 0 g
          rw [c] at hR2
          have hsum : nI (sg (σ.1 3) i) + nI (dgt (σ.1 3) i) = nI (sg (σ.1 3) (i + 1)) := by rw [hsg1]; exact nI_add _ _
          have hix' : i / 5 * 4 + 1 < 24 := by omega
          set_option maxRecDepth 100000 in simp (decide := true) only [c5_parse, run_s, nxt_e, ap_const, ap_lconst, ap_ild, ap_lld, ap_ald, ap_ist, ap_lst, ap_ast, ap_iinc, ap_iadd, ap_isub, ap_imul, ap_iand, ap_ior, ap_ixor, ap_ishl, ap_ishr, ap_iushr, ap_idiv, ap_irem, ap_ineg, ap_ladd, ap_lsub, ap_lmul, ap_ldiv, ap_lrem, ap_lneg, ap_lcmp, ap_i2l, ap_l2i, ap_i2b, ap_i2s, ap_dup_int, ap_pop_int, ap_dup_ref, ap_pop_ref, ap_dup2, ap_goto, ap_tsw, ap_lsw, ap_getI, ap_getJ, ap_getR, ap_putI, ap_putZ, ap_putJ, ap_iald, ap_lald, ap_bald, ap_aald, ap_iast, ap_last, ap_bast, ap_alen, ap_gst, ap_iret, ap_zret, ap_lret, ap_vret, ap_aret, ap_lmax, ap_labs, ap_acopy, ap_invV0, ap_invS0, ap_invV1, ap_invS1, ap_invV2, ap_invS2, ap_invV3, ap_invS3, ap_invV4, ap_invS4, ap_invV5, ap_invS5, tcnT, ocT, lenIT, lenWT, lenLT, lenVT, lenZT, startfT, vpL, sa_1, sa_2, sL_1, sL_2, si_1, si_2, sj_1, sj_2, ldI_e, ldL_e, ldA_e, inC_e, lk, st1, st2, rm1, rm2, Value.category, ctn_some, ctn_none, wsum, lv_args, Int32.reduceAdd, Int32.reduceSub, Int32.reduceMul, Nat.reduceAdd, Nat.reduceLT, Nat.reduceLeDiff, Nat.reduceEqDiff, Nat.reduceBEq, ↓reduceIte, true_and, and_true, Bool.false_eq_true, true_implies, false_implies, not_true_eq_false, not_false_eq_true, Bool.or_true, Bool.or_false, Bool.true_or, Bool.false_or, bx_ceq, bx_clt, bx_cge, bx_cgt, bx_cle, bx_cne, bx_zeq, bx_zlt, bx_zge, bx_zgt, bx_zle, bx_zne, iteP, div5 (show i < 2 ^ 31 by omega), eq_true (show nI (i / 5) < 6 from nI_lt hd6 (by decide)), vin (show i < 29 by omega) (by decide), nIc (show i < 2 ^ 31 by omega), h3, hdg.1, hidx, vin hix' (by decide), nIc (show i / 5 * 4 + 1 < 2 ^ 31 by omega), hsum, nI_1]
          have hii := ih (i + 1) (by omega) (si (si σ1 6 (i / 5 * 4 + 1) (nI (dgt (σ.1 3) i))) 5 2 (-1)) ⟨hR2.1.si (by decide), hR2.2.1, hR2.2.2⟩ rfl (ft0_ok hft ((okA_d c4).mpr ⟨g, fun z => by omega⟩))
          exact hii.sub [0, 1, 3, 4] rfl
        · rw [if_neg (by decide)] at g
          set_option maxRecDepth 100000 in simp (decide := true) only [c5_parse, run_s, nxt_e, ap_const, ap_lconst, ap_ild, ap_lld, ap_ald, ap_ist, ap_lst, ap_ast, ap_iinc, ap_iadd, ap_isub, ap_imul, ap_iand, ap_ior, ap_ixor, ap_ishl, ap_ishr, ap_iushr, ap_idiv, ap_irem, ap_ineg, ap_ladd, ap_lsub, ap_lmul, ap_ldiv, ap_lrem, ap_lneg, ap_lcmp, ap_i2l, ap_l2i, ap_i2b, ap_i2s, ap_dup_int, ap_pop_int, ap_dup_ref, ap_pop_ref, ap_dup2, ap_goto, ap_tsw, ap_lsw, ap_getI, ap_getJ, ap_getR, ap_putI, ap_putZ, ap_putJ, ap_iald, ap_lald, ap_bald, ap_aald, ap_iast, ap_last, ap_bast, ap_alen, ap_gst, ap_iret, ap_zret, ap_lret, ap_vret, ap_aret, ap_lmax, ap_labs, ap_acopy, ap_invV0, ap_invS0, ap_invV1, ap_invS1, ap_invV2, ap_invS2, ap_invV3, ap_invS3, ap_invV4, ap_invS4, ap_invV5, ap_invS5, tcnT, ocT, lenIT, lenWT, lenLT, lenVT, lenZT, startfT, vpL, sa_1, sa_2, sL_1, sL_2, si_1, si_2, sj_1, sj_2, ldI_e, ldL_e, ldA_e, inC_e, lk, st1, st2, rm1, rm2, Value.category, ctn_some, ctn_none, wsum, lv_args, Int32.reduceAdd, Int32.reduceSub, Int32.reduceMul, Nat.reduceAdd, Nat.reduceLT, Nat.reduceLeDiff, Nat.reduceEqDiff, Nat.reduceBEq, ↓reduceIte, true_and, and_true, Bool.false_eq_true, true_implies, false_implies, not_true_eq_false, not_false_eq_true, Bool.or_true, Bool.or_false, Bool.true_or, Bool.false_or, bx_ceq, bx_clt, bx_cge, bx_cgt, bx_cle, bx_cne, bx_zeq, bx_zlt, bx_zge, bx_zgt, bx_zle, bx_zne, iteP, nI_1]
          exact (bad (si σ1 5 2 (nI i)) _ (fun z => g ((okA_d c4).mp z).1) ⟨hs.si (by decide), hR.2.1, fun j hj => by omega⟩ rfl).sub [0, 1, 3, 4] rfl
      · have hsg1 : sg (σ.1 3) (i + 1) = sg (σ.1 3) i + dgt (σ.1 3) i := by simp only [sg]; rw [if_neg c4, if_neg (by omega)]
        rw [c] at hidx
        set_option maxRecDepth 100000 in simp (decide := true) only [c5_parse, run_s, nxt_e, ap_const, ap_lconst, ap_ild, ap_lld, ap_ald, ap_ist, ap_lst, ap_ast, ap_iinc, ap_iadd, ap_isub, ap_imul, ap_iand, ap_ior, ap_ixor, ap_ishl, ap_ishr, ap_iushr, ap_idiv, ap_irem, ap_ineg, ap_ladd, ap_lsub, ap_lmul, ap_ldiv, ap_lrem, ap_lneg, ap_lcmp, ap_i2l, ap_l2i, ap_i2b, ap_i2s, ap_dup_int, ap_pop_int, ap_dup_ref, ap_pop_ref, ap_dup2, ap_goto, ap_tsw, ap_lsw, ap_getI, ap_getJ, ap_getR, ap_putI, ap_putZ, ap_putJ, ap_iald, ap_lald, ap_bald, ap_aald, ap_iast, ap_last, ap_bast, ap_alen, ap_gst, ap_iret, ap_zret, ap_lret, ap_vret, ap_aret, ap_lmax, ap_labs, ap_acopy, ap_invV0, ap_invS0, ap_invV1, ap_invS1, ap_invV2, ap_invS2, ap_invV3, ap_invS3, ap_invV4, ap_invS4, ap_invV5, ap_invS5, tcnT, ocT, lenIT, lenWT, lenLT, lenVT, lenZT, startfT, vpL, sa_1, sa_2, sL_1, sL_2, si_1, si_2, sj_1, sj_2, ldI_e, ldL_e, ldA_e, inC_e, lk, st1, st2, rm1, rm2, Value.category, ctn_some, ctn_none, wsum, lv_args, Int32.reduceAdd, Int32.reduceSub, Int32.reduceMul, Nat.reduceAdd, Nat.reduceLT, Nat.reduceLeDiff, Nat.reduceEqDiff, Nat.reduceBEq, ↓reduceIte, true_and, and_true, Bool.false_eq_true, true_implies, false_implies, not_true_eq_false, not_false_eq_true, Bool.or_true, Bool.or_false, Bool.true_or, Bool.false_or, bx_ceq, bx_clt, bx_cge, bx_cgt, bx_cle, bx_cne, bx_zeq, bx_zlt, bx_zge, bx_zgt, bx_zle, bx_zne, iteP, hl1, hf, eq_false (nI_ge (show i < L by omega) (by omega)), rem5 (show i < 2 ^ 31 by omega), c, nI_lit5, vin (show i < 29 by omega) (by decide), nIc (show i < 2 ^ 31 by omega), h3]
        refine v5_fits (q := 2) (by decide) (fun g => ?_) (fun g => ?_)
        · rw [if_neg (by decide)] at g
          have hdg := dgt_eq g
          rw [nI_lit5.2.2.1] at hidx
          have hR2 := hw1 0 g
          rw [c] at hR2
          have hsum : nI (sg (σ.1 3) i) + nI (dgt (σ.1 3) i) = nI (sg (σ.1 3) (i + 1)) := by rw [hsg1]; exact nI_add _ _
          have hix' : i / 5 * 4 + 2 < 24 := by omega
          set_option maxRecDepth 100000 in simp (decide := true) only [c5_parse, run_s, nxt_e, ap_const, ap_lconst, ap_ild, ap_lld, ap_ald, ap_ist, ap_lst, ap_ast, ap_iinc, ap_iadd, ap_isub, ap_imul, ap_iand, ap_ior, ap_ixor, ap_ishl, ap_ishr, ap_iushr, ap_idiv, ap_irem, ap_ineg, ap_ladd, ap_lsub, ap_lmul, ap_ldiv, ap_lrem, ap_lneg, ap_lcmp, ap_i2l, ap_l2i, ap_i2b, ap_i2s, ap_dup_int, ap_pop_int, ap_dup_ref, ap_pop_ref, ap_dup2, ap_goto, ap_tsw, ap_lsw, ap_getI, ap_getJ, ap_getR, ap_putI, ap_putZ, ap_putJ, ap_iald, ap_lald, ap_bald, ap_aald, ap_iast, ap_last, ap_bast, ap_alen, ap_gst, ap_iret, ap_zret, ap_lret, ap_vret, ap_aret, ap_lmax, ap_labs, ap_acopy, ap_invV0, ap_invS0, ap_invV1, ap_invS1, ap_invV2, ap_invS2, ap_invV3, ap_invS3, ap_invV4, ap_invS4, ap_invV5, ap_invS5, tcnT, ocT, lenIT, lenWT, lenLT, lenVT, lenZT, startfT, vpL, sa_1, sa_2, sL_1, sL_2, si_1, si_2, sj_1, sj_2, ldI_e, ldL_e, ldA_e, inC_e, lk, st1, st2, rm1, rm2, Value.category, ctn_some, ctn_none, wsum, lv_args, Int32.reduceAdd, Int32.reduceSub, Int32.reduceMul, Nat.reduceAdd, Nat.reduceLT, Nat.reduceLeDiff, Nat.reduceEqDiff, Nat.reduceBEq, ↓reduceIte, true_and, and_true, Bool.false_eq_true, true_implies, false_implies, not_true_eq_false, not_false_eq_true, Bool.or_true, Bool.or_false, Bool.true_or, Bool.false_or, bx_ceq, bx_clt, bx_cge, bx_cgt, bx_cle, bx_cne, bx_zeq, bx_zlt, bx_zge, bx_zgt, bx_zle, bx_zne, iteP, div5 (show i < 2 ^ 31 by omega), eq_true (show nI (i / 5) < 6 from nI_lt hd6 (by decide)), vin (show i < 29 by omega) (by decide), nIc (show i < 2 ^ 31 by omega), h3, hdg.1, hidx, vin hix' (by decide), nIc (show i / 5 * 4 + 2 < 2 ^ 31 by omega), hsum, nI_1]
          have hii := ih (i + 1) (by omega) (si (si σ1 6 (i / 5 * 4 + 2) (nI (dgt (σ.1 3) i))) 5 2 (-1)) ⟨hR2.1.si (by decide), hR2.2.1, hR2.2.2⟩ rfl (ft0_ok hft ((okA_d c4).mpr ⟨g, fun z => by omega⟩))
          exact hii.sub [0, 1, 3, 4] rfl
        · rw [if_neg (by decide)] at g
          set_option maxRecDepth 100000 in simp (decide := true) only [c5_parse, run_s, nxt_e, ap_const, ap_lconst, ap_ild, ap_lld, ap_ald, ap_ist, ap_lst, ap_ast, ap_iinc, ap_iadd, ap_isub, ap_imul, ap_iand, ap_ior, ap_ixor, ap_ishl, ap_ishr, ap_iushr, ap_idiv, ap_irem, ap_ineg, ap_ladd, ap_lsub, ap_lmul, ap_ldiv, ap_lrem, ap_lneg, ap_lcmp, ap_i2l, ap_l2i, ap_i2b, ap_i2s, ap_dup_int, ap_pop_int, ap_dup_ref, ap_pop_ref, ap_dup2, ap_goto, ap_tsw, ap_lsw, ap_getI, ap_getJ, ap_getR, ap_putI, ap_putZ, ap_putJ, ap_iald, ap_lald, ap_bald, ap_aald, ap_iast, ap_last, ap_bast, ap_alen, ap_gst, ap_iret, ap_zret, ap_lret, ap_vret, ap_aret, ap_lmax, ap_labs, ap_acopy, ap_invV0, ap_invS0, ap_invV1, ap_invS1, ap_invV2, ap_invS2, ap_invV3, ap_invS3, ap_invV4, ap_invS4, ap_invV5, ap_invS5, tcnT, ocT, lenIT, lenWT, lenLT, lenVT, lenZT, startfT, vpL, sa_1, sa_2, sL_1, sL_2, si_1, si_2, sj_1, sj_2, ldI_e, ldL_e, ldA_e, inC_e, lk, st1, st2, rm1, rm2, Value.category, ctn_some, ctn_none, wsum, lv_args, Int32.reduceAdd, Int32.reduceSub, Int32.reduceMul, Nat.reduceAdd, Nat.reduceLT, Nat.reduceLeDiff, Nat.reduceEqDiff, Nat.reduceBEq, ↓reduceIte, true_and, and_true, Bool.false_eq_true, true_implies, false_implies, not_true_eq_false, not_false_eq_true, Bool.or_true, Bool.or_false, Bool.true_or, Bool.false_or, bx_ceq, bx_clt, bx_cge, bx_cgt, bx_cle, bx_cne, bx_zeq, bx_zlt, bx_zge, bx_zgt, bx_zle, bx_zne, iteP, nI_1]
          exact (bad (si σ1 5 2 (nI i)) _ (fun z => g ((okA_d c4).mp z).1) ⟨hs.si (by decide), hR.2.1, fun j hj => by omega⟩ rfl).sub [0, 1, 3, 4] rfl
      · have hsg1 : sg (σ.1 3) (i + 1) = sg (σ.1 3) i + dgt (σ.1 3) i := by simp only [sg]; rw [if_neg c4, if_neg (by omega)]
        rw [c] at hidx
        set_option maxRecDepth 100000 in simp (decide := true) only [c5_parse, run_s, nxt_e, ap_const, ap_lconst, ap_ild, ap_lld, ap_ald, ap_ist, ap_lst, ap_ast, ap_iinc, ap_iadd, ap_isub, ap_imul, ap_iand, ap_ior, ap_ixor, ap_ishl, ap_ishr, ap_iushr, ap_idiv, ap_irem, ap_ineg, ap_ladd, ap_lsub, ap_lmul, ap_ldiv, ap_lrem, ap_lneg, ap_lcmp, ap_i2l, ap_l2i, ap_i2b, ap_i2s, ap_dup_int, ap_pop_int, ap_dup_ref, ap_pop_ref, ap_dup2, ap_goto, ap_tsw, ap_lsw, ap_getI, ap_getJ, ap_getR, ap_putI, ap_putZ, ap_putJ, ap_iald, ap_lald, ap_bald, ap_aald, ap_iast, ap_last, ap_bast, ap_alen, ap_gst, ap_iret, ap_zret, ap_lret, ap_vret, ap_aret, ap_lmax, ap_labs, ap_acopy, ap_invV0, ap_invS0, ap_invV1, ap_invS1, ap_invV2, ap_invS2, ap_invV3, ap_invS3, ap_invV4, ap_invS4, ap_invV5, ap_invS5, tcnT, ocT, lenIT, lenWT, lenLT, lenVT, lenZT, startfT, vpL, sa_1, sa_2, sL_1, sL_2, si_1, si_2, sj_1, sj_2, ldI_e, ldL_e, ldA_e, inC_e, lk, st1, st2, rm1, rm2, Value.category, ctn_some, ctn_none, wsum, lv_args, Int32.reduceAdd, Int32.reduceSub, Int32.reduceMul, Nat.reduceAdd, Nat.reduceLT, Nat.reduceLeDiff, Nat.reduceEqDiff, Nat.reduceBEq, ↓reduceIte, true_and, and_true, Bool.false_eq_true, true_implies, false_implies, not_true_eq_false, not_false_eq_true, Bool.or_true, Bool.or_false, Bool.true_or, Bool.false_or, bx_ceq, bx_clt, bx_cge, bx_cgt, bx_cle, bx_cne, bx_zeq, bx_zlt, bx_zge, bx_zgt, bx_zle, bx_zne, iteP, hl1, hf, eq_false (nI_ge (show i < L by omega) (by omega)), rem5 (show i < 2 ^ 31 by omega), c, nI_lit5, vin (show i < 29 by omega) (by decide), nIc (show i < 2 ^ 31 by omega), h3]
        refine v5_fits (q := 3) (by decide) (fun g => ?_) (fun g => ?_)
        · rw [if_neg (by decide)] at g
          have hdg := dgt_eq g
          rw [nI_lit5.2.2.2.1] at hidx
          have hR2 := hw1 0 g
          rw [c] at hR2
          have hsum : nI (sg (σ.1 3) i) + nI (dgt (σ.1 3) i) = nI (sg (σ.1 3) (i + 1)) := by rw [hsg1]; exact nI_add _ _
          have hix' : i / 5 * 4 + 3 < 24 := by omega
          set_option maxRecDepth 100000 in simp (decide := true) only [c5_parse, run_s, nxt_e, ap_const, ap_lconst, ap_ild, ap_lld, ap_ald, ap_ist, ap_lst, ap_ast, ap_iinc, ap_iadd, ap_isub, ap_imul, ap_iand, ap_ior, ap_ixor, ap_ishl, ap_ishr, ap_iushr, ap_idiv, ap_irem, ap_ineg, ap_ladd, ap_lsub, ap_lmul, ap_ldiv, ap_lrem, ap_lneg, ap_lcmp, ap_i2l, ap_l2i, ap_i2b, ap_i2s, ap_dup_int, ap_pop_int, ap_dup_ref, ap_pop_ref, ap_dup2, ap_goto, ap_tsw, ap_lsw, ap_getI, ap_getJ, ap_getR, ap_putI, ap_putZ, ap_putJ, ap_iald, ap_lald, ap_bald, ap_aald, ap_iast, ap_last, ap_bast, ap_alen, ap_gst, ap_iret, ap_zret, ap_lret, ap_vret, ap_aret, ap_lmax, ap_labs, ap_acopy, ap_invV0, ap_invS0, ap_invV1, ap_invS1, ap_invV2, ap_invS2, ap_invV3, ap_invS3, ap_invV4, ap_invS4, ap_invV5, ap_invS5, tcnT, ocT, lenIT, lenWT, lenLT, lenVT, lenZT, startfT, vpL, sa_1, sa_2, sL_1, sL_2, si_1, si_2, sj_1, sj_2, ldI_e, ldL_e, ldA_e, inC_e, lk, st1, st2, rm1, rm2, Value.category, ctn_some, ctn_none, wsum, lv_args, Int32.reduceAdd, Int32.reduceSub, Int32.reduceMul, Nat.reduceAdd, Nat.reduceLT, Nat.reduceLeDiff, Nat.reduceEqDiff, Nat.reduceBEq, ↓reduceIte, true_and, and_true, Bool.false_eq_true, true_implies, false_implies, not_true_eq_false, not_false_eq_true, Bool.or_true, Bool.or_false, Bool.true_or, Bool.false_or, bx_ceq, bx_clt, bx_cge, bx_cgt, bx_cle, bx_cne, bx_zeq, bx_zlt, bx_zge, bx_zgt, bx_zle, bx_zne, iteP, div5 (show i < 2 ^ 31 by omega), eq_true (show nI (i / 5) < 6 from nI_lt hd6 (by decide)), vin (show i < 29 by omega) (by decide), nIc (show i < 2 ^ 31 by omega), h3, hdg.1, hidx, vin hix' (by decide), nIc (show i / 5 * 4 + 3 < 2 ^ 31 by omega), hsum, nI_1]
          have hz : (nI (sg (σ.1 3) (i + 1)) = 0) ↔ sg (σ.1 3) (i + 1) = 0 := nI_eq (show sg (σ.1 3) (i + 1) < 2 ^ 31 by omega) (show 0 < 2 ^ 31 by decide)
          set_option maxRecDepth 100000 in simp (decide := true) only [c5_parse, run_s, nxt_e, ap_const, ap_lconst, ap_ild, ap_lld, ap_ald, ap_ist, ap_lst, ap_ast, ap_iinc, ap_iadd, ap_isub, ap_imul, ap_iand, ap_ior, ap_ixor, ap_ishl, ap_ishr, ap_iushr, ap_idiv, ap_irem, ap_ineg, ap_ladd, ap_lsub, ap_lmul, ap_ldiv, ap_lrem, ap_lneg, ap_lcmp, ap_i2l, ap_l2i, ap_i2b, ap_i2s, ap_dup_int, ap_pop_int, ap_dup_ref, ap_pop_ref, ap_dup2, ap_goto, ap_tsw, ap_lsw, ap_getI, ap_getJ, ap_getR, ap_putI, ap_putZ, ap_putJ, ap_iald, ap_lald, ap_bald, ap_aald, ap_iast, ap_last, ap_bast, ap_alen, ap_gst, ap_iret, ap_zret, ap_lret, ap_vret, ap_aret, ap_lmax, ap_labs, ap_acopy, ap_invV0, ap_invS0, ap_invV1, ap_invS1, ap_invV2, ap_invS2, ap_invV3, ap_invS3, ap_invV4, ap_invS4, ap_invV5, ap_invS5, tcnT, ocT, lenIT, lenWT, lenLT, lenVT, lenZT, startfT, vpL, sa_1, sa_2, sL_1, sL_2, si_1, si_2, sj_1, sj_2, ldI_e, ldL_e, ldA_e, inC_e, lk, st1, st2, rm1, rm2, Value.category, ctn_some, ctn_none, wsum, lv_args, Int32.reduceAdd, Int32.reduceSub, Int32.reduceMul, Nat.reduceAdd, Nat.reduceLT, Nat.reduceLeDiff, Nat.reduceEqDiff, Nat.reduceBEq, ↓reduceIte, true_and, and_true, Bool.false_eq_true, true_implies, false_implies, not_true_eq_false, not_false_eq_true, Bool.or_true, Bool.or_false, Bool.true_or, Bool.false_or, bx_ceq, bx_clt, bx_cge, bx_cgt, bx_cle, bx_cne, bx_zeq, bx_zlt, bx_zge, bx_zgt, bx_zle, bx_zne, iteP, hz]
          refine ⟨fun z => ?_, fun z => ?_⟩
          · exact (bad (si (si σ1 6 (i / 5 * 4 + 3) (nI (dgt (σ.1 3) i))) 5 2 (nI i)) _ (fun w => ((okA_d c4).mp w).2 ⟨c, z⟩) ⟨hR2.1.si (by decide), hR2.2.1, fun j hj => by omega⟩ rfl).sub [0, 1, 3, 4] rfl
          · have hii := ih (i + 1) (by omega) (si (si σ1 6 (i / 5 * 4 + 3) (nI (dgt (σ.1 3) i))) 5 2 (-1)) ⟨hR2.1.si (by decide), hR2.2.1, hR2.2.2⟩ rfl (ft0_ok hft ((okA_d c4).mpr ⟨g, fun w => z w.2⟩))
            exact hii.sub [0, 1, 3, 4] rfl
        · rw [if_neg (by decide)] at g
          set_option maxRecDepth 100000 in simp (decide := true) only [c5_parse, run_s, nxt_e, ap_const, ap_lconst, ap_ild, ap_lld, ap_ald, ap_ist, ap_lst, ap_ast, ap_iinc, ap_iadd, ap_isub, ap_imul, ap_iand, ap_ior, ap_ixor, ap_ishl, ap_ishr, ap_iushr, ap_idiv, ap_irem, ap_ineg, ap_ladd, ap_lsub, ap_lmul, ap_ldiv, ap_lrem, ap_lneg, ap_lcmp, ap_i2l, ap_l2i, ap_i2b, ap_i2s, ap_dup_int, ap_pop_int, ap_dup_ref, ap_pop_ref, ap_dup2, ap_goto, ap_tsw, ap_lsw, ap_getI, ap_getJ, ap_getR, ap_putI, ap_putZ, ap_putJ, ap_iald, ap_lald, ap_bald, ap_aald, ap_iast, ap_last, ap_bast, ap_alen, ap_gst, ap_iret, ap_zret, ap_lret, ap_vret, ap_aret, ap_lmax, ap_labs, ap_acopy, ap_invV0, ap_invS0, ap_invV1, ap_invS1, ap_invV2, ap_invS2, ap_invV3, ap_invS3, ap_invV4, ap_invS4, ap_invV5, ap_invS5, tcnT, ocT, lenIT, lenWT, lenLT, lenVT, lenZT, startfT, vpL, sa_1, sa_2, sL_1, sL_2, si_1, si_2, sj_1, sj_2, ldI_e, ldL_e, ldA_e, inC_e, lk, st1, st2, rm1, rm2, Value.category, ctn_some, ctn_none, wsum, lv_args, Int32.reduceAdd, Int32.reduceSub, Int32.reduceMul, Nat.reduceAdd, Nat.reduceLT, Nat.reduceLeDiff, Nat.reduceEqDiff, Nat.reduceBEq, ↓reduceIte, true_and, and_true, Bool.false_eq_true, true_implies, false_implies, not_true_eq_false, not_false_eq_true, Bool.or_true, Bool.or_false, Bool.true_or, Bool.false_or, bx_ceq, bx_clt, bx_cge, bx_cgt, bx_cle, bx_cne, bx_zeq, bx_zlt, bx_zge, bx_zgt, bx_zle, bx_zne, iteP, nI_1]
          exact (bad (si σ1 5 2 (nI i)) _ (fun z => g ((okA_d c4).mp z).1) ⟨hs.si (by decide), hR.2.1, fun j hj => by omega⟩ rfl).sub [0, 1, 3, 4] rfl
theorem v5_parse {σ : St} {K : Kr} {L : Nat} (hL : L ≤ 29) (hlen : σ.1 1 1 = nI L) (hT : TD σ)
    (h : ∀ σ', sm [5, 6] σ σ' → TD σ' → σ'.1 5 2 = oI (fault0 (σ.1 3) L) → σ'.1 5 1 = nI (num0 (fault0 (σ.1 3) L) L) → (fault0 (σ.1 3) L = none → ∀ j, j < L → j % 5 < 4 → σ'.1 6 (j / 5 * 4 + j % 5) = nI (dgt (σ.1 3) j)) → K none σ') : VM M5_parse [.ref 5, .ref 1] σ K := by
  refine vm_run s5_parse n5_parse (fun pc => pc == 9) 1000 (fun E => Nat.le_of_ble_eq_true rfl) ?_
  set_option maxRecDepth 100000 in simp (decide := true) only [c5_parse, run_s, nxt_e, ap_const, ap_lconst, ap_ild, ap_lld, ap_ald, ap_ist, ap_lst, ap_ast, ap_iinc, ap_iadd, ap_isub, ap_imul, ap_iand, ap_ior, ap_ixor, ap_ishl, ap_ishr, ap_iushr, ap_idiv, ap_irem, ap_ineg, ap_ladd, ap_lsub, ap_lmul, ap_ldiv, ap_lrem, ap_lneg, ap_lcmp, ap_i2l, ap_l2i, ap_i2b, ap_i2s, ap_dup_int, ap_pop_int, ap_dup_ref, ap_pop_ref, ap_dup2, ap_goto, ap_tsw, ap_lsw, ap_getI, ap_getJ, ap_getR, ap_putI, ap_putZ, ap_putJ, ap_iald, ap_lald, ap_bald, ap_aald, ap_iast, ap_last, ap_bast, ap_alen, ap_gst, ap_iret, ap_zret, ap_lret, ap_vret, ap_aret, ap_lmax, ap_labs, ap_acopy, ap_invV0, ap_invS0, ap_invV1, ap_invS1, ap_invV2, ap_invS2, ap_invV3, ap_invS3, ap_invV4, ap_invS4, ap_invV5, ap_invS5, tcnT, ocT, lenIT, lenWT, lenLT, lenVT, lenZT, startfT, vpL, sa_1, sa_2, sL_1, sL_2, si_1, si_2, sj_1, sj_2, ldI_e, ldL_e, ldA_e, inC_e, lk, st1, st2, rm1, rm2, Value.category, ctn_some, ctn_none, wsum, lv_args, Int32.reduceAdd, Int32.reduceSub, Int32.reduceMul, Nat.reduceAdd, Nat.reduceLT, Nat.reduceLeDiff, Nat.reduceEqDiff, Nat.reduceBEq, ↓reduceIte, true_and, and_true, Bool.false_eq_true, true_implies, false_implies, not_true_eq_false, not_false_eq_true, Bool.or_true, Bool.or_false, Bool.true_or, Bool.false_or, bx_ceq, bx_clt, bx_cge, bx_cgt, bx_cle, bx_cne, bx_zeq, bx_zlt, bx_zge, bx_zgt, bx_zle, bx_zne, iteP]
  have hs : sm [5, 6] σ (si σ 5 2 (-1)) := sm.rfl'.si (by decide)
  exact (L5_parse hL hlen h L 0 (by omega) (si σ 5 2 (-1)) ⟨hs, hT, fun j hj => by omega⟩ rfl rfl).sub [0, 1, 2, 3] rfl
