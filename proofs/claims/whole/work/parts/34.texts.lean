/-! ===== part 34: texts typed, wiped, undone ===== -/
theorem ind_f {b a a' : Nat → Int32} : ∀ {i : Nat} {q : Nat × Nat}, rm b i = some q → ∀ j, (j < q.2 ∨ (j = q.2 ∧ (q.1 = 1 ∨ q.1 = 2))) → fA b a i j = fA b a' i j ∧ sA b a i j = sA b a' i j := by
  intro i
  induction i with
  | zero => intro q h j hj; cases h; simp at hj
  | succ i ih =>
    intro q h j hj
    simp only [rm] at h
    cases hr : rm b i with
    | none => rw [hr] at h; cases h
    | some p =>
      obtain ⟨s, k⟩ := p
      rw [hr] at h
      have g := ih hr
      simp only at h g
      have hl := stp_lt (rm_lt hr).2.1 h
      simp only at hl
      simp only [fA, sA, hr, fA', sA']
      by_cases e0 : s = 0
      · simp only [e0, if_true, upd]
        by_cases e : j = k
        · simp [e]
        · simp only [if_neg e]
          refine g j (Or.inl ?_)
          have h3 : q.1 ≠ 3 := by
            intro z
            subst e0
            unfold stp at h
            simp at h
            obtain ⟨-, rfl⟩ := h
            simp at z
          have := hl.2.2.2.2.2.1 h3
          omega
      · simp only [if_neg e0]
        by_cases e1 : s = 1 ∧ kl (b i) ≠ -1
        · simp only [if_pos e1, upd]
          by_cases e : j = k
          · subst e
            simp
            exact (g j (Or.inr ⟨rfl, Or.inl e1.1⟩)).1
          · simp only [if_neg e]
            exact g j (Or.inl (by omega))
        · simp only [if_neg e1]
          have hs4 := (rm_lt hr).1
          by_cases e3 : s = 3
          · subst e3
            unfold stp at h
            simp at h
            obtain ⟨-, rfl⟩ := h
            simp at hj
            exact g j (Or.inl hj)
          · rcases Nat.lt_or_ge j k with z | z
            · exact g j (Or.inl z)
            · have hjk : j = k := by omega
              exact g j (Or.inr ⟨hjk, by omega⟩)
theorem ind_p {b a a' : Nat → Int32} : ∀ {i : Nat} {q : Nat × Nat}, rm b i = some q → ∀ j, j < q.2 → pA b a i j = pA b a' i j := by
  intro i
  induction i with
  | zero => intro q h j hj; cases h; simp at hj
  | succ i ih =>
    intro q h j hj
    simp only [rm] at h
    cases hr : rm b i with
    | none => rw [hr] at h; cases h
    | some p =>
      obtain ⟨s, k⟩ := p
      rw [hr] at h
      have g := ih hr
      simp only at h g
      have hl := stp_lt (rm_lt hr).2.1 h
      simp only at hl
      simp only [pA, hr, pA']
      by_cases e : s = 2 ∨ (s = 1 ∧ kl (b i) = -1)
      · simp only [if_pos e, upd]
        by_cases e2 : j = k
        · simp [e2]
        · simp only [if_neg e2]
          exact g j (by omega)
      · simp only [if_neg e]
        refine g j ?_
        have h3 : q.1 ≠ 3 := by
          intro z
          have hs4 := (rm_lt hr).1
          simp only at hs4
          have hs : s = 0 ∨ s = 3 ∨ (s = 1 ∧ kl (b i) ≠ -1) := by
            by_cases e0 : s = 0
            · exact Or.inl e0
            · by_cases e3 : s = 3
              · exact Or.inr (Or.inl e3)
              · refine Or.inr (Or.inr ?_)
                have : s = 1 := by omega
                exact ⟨this, fun w => e (Or.inr ⟨this, w⟩)⟩
          unfold stp at h
          rcases hs with rfl | rfl | ⟨rfl, w⟩
          · simp at h
            obtain ⟨-, rfl⟩ := h
            simp at z
          · simp at h
            obtain ⟨-, rfl⟩ := h
            simp at z
          · simp [w] at h
            obtain ⟨-, rfl⟩ := h
            simp at z
        have := hl.2.2.2.2.2.1 h3
        omega
/-- the class's members stand by their text -/
def RO (σ : St) (L : Nat) : Prop := L ≤ 29 ∧ σ.1 1 1 = nI L ∧ TD σ ∧ σ.1 5 2 = oI (fault0 (σ.1 3) L) ∧ σ.1 5 1 = nI (num0 (fault0 (σ.1 3) L) L) ∧ (fault0 (σ.1 3) L = none → ∀ j, j < L → j % 5 < 4 → σ.1 6 (j / 5 * 4 + j % 5) = nI (dgt (σ.1 3) j))
def z0 : Nat → Int32 := fun _ => 0
def KO (σ : St) (L : Nat) : Prop := L ≤ 29 ∧ σ.1 2 1 = nI L ∧ σ.1 7 4 = oI (fault1 (σ.1 4) L) ∧ KV σ (num1 (σ.1 4) L) ∧ BK σ (num1 (σ.1 4) L) ∧ ∀ j, j < num1 (σ.1 4) L → σ.1 8 j = fA (σ.1 4) z0 L j ∧ σ.1 9 j = sA (σ.1 4) z0 L j ∧ σ.1 10 j = pA (σ.1 4) z0 L j
theorem RO.sm {σ σ' : St} {L : Nat} {l : List Nat} (h : RO σ L) (hs : sm l σ σ') (h1 : 1 ∉ l) (h3 : 3 ∉ l) (h5 : 5 ∉ l) (h6 : 6 ∉ l) : RO σ' L := by
  unfold RO TD at h ⊢
  rw [(hs 1 h1).1, (hs 3 h3).1, (hs 5 h5).1, (hs 6 h6).1]
  exact h
theorem KO.sm {σ σ' : St} {L : Nat} {l : List Nat} (h : KO σ L) (hs : sm l σ σ') (h2 : 2 ∉ l) (h4 : 4 ∉ l) (h7 : 7 ∉ l) (h8 : 8 ∉ l) (h9 : 9 ∉ l) (h10 : 10 ∉ l) (h11 : 11 ∉ l) : KO σ' L := by
  obtain ⟨a, b, c, d, e, f⟩ := h
  unfold KO
  rw [(hs 2 h2).1, (hs 4 h4).1, (hs 7 h7).1, (hs 8 h8).1, (hs 9 h9).1, (hs 10 h10).1]
  exact ⟨a, b, c, d.sm hs h7 h8 h9 h10, e.sm hs h11 h8 h9 h10, f⟩
theorem v8_parse0 {σ : St} {K : Kr} {L : Nat} (hL : L ≤ 29) (hlen : σ.1 1 1 = nI L) (hT : TD σ) (h : ∀ σ', sm [5, 6] σ σ' → RO σ' L → K none σ') : VM M8_parse [.ref 0, .int 0] σ K := by
  refine vm_run s8_parse n8_parse (fun _ => false) 1000 (fun E => Nat.le_of_ble_eq_true rfl) ?_
  set_option maxRecDepth 100000 in simp (decide := true) only [c8_parse, run_s, nxt_e, ap_const, ap_lconst, ap_ild, ap_lld, ap_ald, ap_ist, ap_lst, ap_ast, ap_iinc, ap_iadd, ap_isub, ap_imul, ap_iand, ap_ior, ap_ixor, ap_ishl, ap_ishr, ap_iushr, ap_idiv, ap_irem, ap_ineg, ap_ladd, ap_lsub, ap_lmul, ap_ldiv, ap_lrem, ap_lneg, ap_lcmp, ap_i2l, ap_l2i, ap_i2b, ap_i2s, ap_dup_int, ap_pop_int, ap_dup_ref, ap_pop_ref, ap_dup2, ap_goto, ap_tsw, ap_lsw, ap_getI, ap_getJ, ap_getR, ap_putI, ap_putZ, ap_putJ, ap_iald, ap_lald, ap_bald, ap_aald, ap_iast, ap_last, ap_bast, ap_alen, ap_gst, ap_iret, ap_zret, ap_lret, ap_vret, ap_aret, ap_lmax, ap_labs, ap_acopy, ap_invV0, ap_invS0, ap_invV1, ap_invS1, ap_invV2, ap_invS2, ap_invV3, ap_invS3, ap_invV4, ap_invS4, ap_invV5, ap_invS5, tcnT, ocT, lenIT, lenWT, lenLT, lenVT, lenZT, startfT, vpL, sa_1, sa_2, sL_1, sL_2, si_1, si_2, sj_1, sj_2, ldI_e, ldL_e, ldA_e, inC_e, lk, st1, st2, rm1, rm2, Value.category, ctn_some, ctn_none, wsum, lv_args, Int32.reduceAdd, Int32.reduceSub, Int32.reduceMul, Nat.reduceAdd, Nat.reduceLT, Nat.reduceLeDiff, Nat.reduceEqDiff, Nat.reduceBEq, ↓reduceIte, true_and, and_true, Bool.false_eq_true, true_implies, false_implies, not_true_eq_false, not_false_eq_true, Bool.or_true, Bool.or_false, Bool.true_or, Bool.false_or, bx_ceq, bx_clt, bx_cge, bx_cgt, bx_cle, bx_cne, bx_zeq, bx_zlt, bx_zge, bx_zgt, bx_zle, bx_zne, iteP]
  refine v5_parse hL hlen hT (fun σ' g1 g2 g3 g4 g5 => ?_)
  set_option maxRecDepth 100000 in simp (decide := true) only [c8_parse, run_s, nxt_e, ap_const, ap_lconst, ap_ild, ap_lld, ap_ald, ap_ist, ap_lst, ap_ast, ap_iinc, ap_iadd, ap_isub, ap_imul, ap_iand, ap_ior, ap_ixor, ap_ishl, ap_ishr, ap_iushr, ap_idiv, ap_irem, ap_ineg, ap_ladd, ap_lsub, ap_lmul, ap_ldiv, ap_lrem, ap_lneg, ap_lcmp, ap_i2l, ap_l2i, ap_i2b, ap_i2s, ap_dup_int, ap_pop_int, ap_dup_ref, ap_pop_ref, ap_dup2, ap_goto, ap_tsw, ap_lsw, ap_getI, ap_getJ, ap_getR, ap_putI, ap_putZ, ap_putJ, ap_iald, ap_lald, ap_bald, ap_aald, ap_iast, ap_last, ap_bast, ap_alen, ap_gst, ap_iret, ap_zret, ap_lret, ap_vret, ap_aret, ap_lmax, ap_labs, ap_acopy, ap_invV0, ap_invS0, ap_invV1, ap_invS1, ap_invV2, ap_invS2, ap_invV3, ap_invS3, ap_invV4, ap_invS4, ap_invV5, ap_invS5, tcnT, ocT, lenIT, lenWT, lenLT, lenVT, lenZT, startfT, vpL, sa_1, sa_2, sL_1, sL_2, si_1, si_2, sj_1, sj_2, ldI_e, ldL_e, ldA_e, inC_e, lk, st1, st2, rm1, rm2, Value.category, ctn_some, ctn_none, wsum, lv_args, Int32.reduceAdd, Int32.reduceSub, Int32.reduceMul, Nat.reduceAdd, Nat.reduceLT, Nat.reduceLeDiff, Nat.reduceEqDiff, Nat.reduceBEq, ↓reduceIte, true_and, and_true, Bool.false_eq_true, true_implies, false_implies, not_true_eq_false, not_false_eq_true, Bool.or_true, Bool.or_false, Bool.true_or, Bool.false_or, bx_ceq, bx_clt, bx_cge, bx_cgt, bx_cle, bx_cne, bx_zeq, bx_zlt, bx_zge, bx_zgt, bx_zle, bx_zne, iteP]
  refine h σ' g1 ⟨hL, ?_, g2, ?_, ?_, ?_⟩
  · rw [(g1 1 (by decide)).1]; exact hlen
  · rw [(g1 3 (by decide)).1]; exact g3
  · rw [(g1 3 (by decide)).1]; exact g4
  · rw [(g1 3 (by decide)).1]; exact g5
theorem num1_pos {b : Nat → Int32} {L : Nat} (h : 0 < num1 b L) : fault1 b L = none ∧ ∃ q, rm b L = some q ∧ num1 b L = q.2 := by
  unfold num1 at h ⊢
  cases hf : fault1 b L with
  | some j => rw [hf] at h; exact absurd h (Nat.lt_irrefl _)
  | none =>
    refine ⟨rfl, ?_⟩
    cases hr : rm b L with
    | none => rw [hf, hr] at h; exact absurd h (Nat.lt_irrefl _)
    | some q => exact ⟨q, rfl, rfl⟩
theorem v8_parse1 {σ : St} {K : Kr} {L r0 : Nat} {t : Int32} (ht : ¬ t = 0) (hp : PT σ) (hr0 : σ.1 7 3 = nI r0 ∧ r0 ≤ 6) (hbk : BK σ r0) (hL : L ≤ 29) (hlen : σ.1 2 1 = nI L) (h : ∀ σ', sm [7, 8, 9, 10, 11] σ σ' → KO σ' L → K none σ') : VM M8_parse [.ref 0, .int t] σ K := by
  refine vm_run s8_parse n8_parse (fun _ => false) 1000 (fun E => Nat.le_of_ble_eq_true rfl) ?_
  set_option maxRecDepth 100000 in simp (decide := true) only [c8_parse, run_s, nxt_e, ap_const, ap_lconst, ap_ild, ap_lld, ap_ald, ap_ist, ap_lst, ap_ast, ap_iinc, ap_iadd, ap_isub, ap_imul, ap_iand, ap_ior, ap_ixor, ap_ishl, ap_ishr, ap_iushr, ap_idiv, ap_irem, ap_ineg, ap_ladd, ap_lsub, ap_lmul, ap_ldiv, ap_lrem, ap_lneg, ap_lcmp, ap_i2l, ap_l2i, ap_i2b, ap_i2s, ap_dup_int, ap_pop_int, ap_dup_ref, ap_pop_ref, ap_dup2, ap_goto, ap_tsw, ap_lsw, ap_getI, ap_getJ, ap_getR, ap_putI, ap_putZ, ap_putJ, ap_iald, ap_lald, ap_bald, ap_aald, ap_iast, ap_last, ap_bast, ap_alen, ap_gst, ap_iret, ap_zret, ap_lret, ap_vret, ap_aret, ap_lmax, ap_labs, ap_acopy, ap_invV0, ap_invS0, ap_invV1, ap_invS1, ap_invV2, ap_invS2, ap_invV3, ap_invS3, ap_invV4, ap_invS4, ap_invV5, ap_invS5, tcnT, ocT, lenIT, lenWT, lenLT, lenVT, lenZT, startfT, vpL, sa_1, sa_2, sL_1, sL_2, si_1, si_2, sj_1, sj_2, ldI_e, ldL_e, ldA_e, inC_e, lk, st1, st2, rm1, rm2, Value.category, ctn_some, ctn_none, wsum, lv_args, Int32.reduceAdd, Int32.reduceSub, Int32.reduceMul, Nat.reduceAdd, Nat.reduceLT, Nat.reduceLeDiff, Nat.reduceEqDiff, Nat.reduceBEq, ↓reduceIte, true_and, and_true, Bool.false_eq_true, true_implies, false_implies, not_true_eq_false, not_false_eq_true, Bool.or_true, Bool.or_false, Bool.true_or, Bool.false_or, bx_ceq, bx_clt, bx_cge, bx_cgt, bx_cle, bx_cne, bx_zeq, bx_zlt, bx_zge, bx_zgt, bx_zle, bx_zne, iteP, ht]
  refine v2_parse hp hr0 hbk hL hlen (fun σ' g1 g2 g3 g4 g5 => ?_)
  set_option maxRecDepth 100000 in simp (decide := true) only [c8_parse, run_s, nxt_e, ap_const, ap_lconst, ap_ild, ap_lld, ap_ald, ap_ist, ap_lst, ap_ast, ap_iinc, ap_iadd, ap_isub, ap_imul, ap_iand, ap_ior, ap_ixor, ap_ishl, ap_ishr, ap_iushr, ap_idiv, ap_irem, ap_ineg, ap_ladd, ap_lsub, ap_lmul, ap_ldiv, ap_lrem, ap_lneg, ap_lcmp, ap_i2l, ap_l2i, ap_i2b, ap_i2s, ap_dup_int, ap_pop_int, ap_dup_ref, ap_pop_ref, ap_dup2, ap_goto, ap_tsw, ap_lsw, ap_getI, ap_getJ, ap_getR, ap_putI, ap_putZ, ap_putJ, ap_iald, ap_lald, ap_bald, ap_aald, ap_iast, ap_last, ap_bast, ap_alen, ap_gst, ap_iret, ap_zret, ap_lret, ap_vret, ap_aret, ap_lmax, ap_labs, ap_acopy, ap_invV0, ap_invS0, ap_invV1, ap_invS1, ap_invV2, ap_invS2, ap_invV3, ap_invS3, ap_invV4, ap_invS4, ap_invV5, ap_invS5, tcnT, ocT, lenIT, lenWT, lenLT, lenVT, lenZT, startfT, vpL, sa_1, sa_2, sL_1, sL_2, si_1, si_2, sj_1, sj_2, ldI_e, ldL_e, ldA_e, inC_e, lk, st1, st2, rm1, rm2, Value.category, ctn_some, ctn_none, wsum, lv_args, Int32.reduceAdd, Int32.reduceSub, Int32.reduceMul, Nat.reduceAdd, Nat.reduceLT, Nat.reduceLeDiff, Nat.reduceEqDiff, Nat.reduceBEq, ↓reduceIte, true_and, and_true, Bool.false_eq_true, true_implies, false_implies, not_true_eq_false, not_false_eq_true, Bool.or_true, Bool.or_false, Bool.true_or, Bool.false_or, bx_ceq, bx_clt, bx_cge, bx_cgt, bx_cle, bx_cne, bx_zeq, bx_zlt, bx_zge, bx_zgt, bx_zle, bx_zne, iteP]
  have e4 : σ'.1 4 = σ.1 4 := (g1 4 (by decide)).1
  refine h σ' g1 ⟨hL, ?_, ?_, ?_, ?_, ?_⟩
  · rw [(g1 2 (by decide)).1]; exact hlen
  · rw [e4]; exact g2
  · rw [e4]; exact g3
  · rw [e4]; exact g4
  · rw [e4]
    intro j hj
    obtain ⟨q1, q, q2, q3⟩ := num1_pos (show 0 < num1 (σ.1 4) L by omega)
    obtain ⟨k1, k2, k3⟩ := g5 q1
    rw [k1, k2, k3]
    have := ind_f (a := σ.1 8) (a' := z0) q2 j (Or.inl (by omega))
    have h9 := ind_f (a := σ.1 9) (a' := z0) q2 j (Or.inl (by omega))
    exact ⟨this.1, h9.2, ind_p q2 j (by omega)⟩
theorem v7_append {σ : St} {K : Kr} {o L : Nat} {b : Int32} (ho : o = 1 ∨ o = 2) (hL : L ≤ 29) (hlen : σ.1 o 1 = nI L) (hF : L = 29 → K (some (.int 0)) σ) (hT : L < 29 → K (some (.int 1)) (si (si σ (o + 2) L b) o 1 (nI (L + 1)))) : VM M7_append [.ref o, .int b] σ K := by
  refine vm_run s7_append n7_append (fun _ => false) 1000 (fun E => Nat.le_of_ble_eq_true rfl) ?_
  by_cases q : L < 29
  · have e : (nI L < 29) = True := eq_true (nI_lt q (by decide))
    rcases ho with rfl | rfl
    · set_option maxRecDepth 100000 in simp (decide := true) only [c7_append, run_s, nxt_e, ap_const, ap_lconst, ap_ild, ap_lld, ap_ald, ap_ist, ap_lst, ap_ast, ap_iinc, ap_iadd, ap_isub, ap_imul, ap_iand, ap_ior, ap_ixor, ap_ishl, ap_ishr, ap_iushr, ap_idiv, ap_irem, ap_ineg, ap_ladd, ap_lsub, ap_lmul, ap_ldiv, ap_lrem, ap_lneg, ap_lcmp, ap_i2l, ap_l2i, ap_i2b, ap_i2s, ap_dup_int, ap_pop_int, ap_dup_ref, ap_pop_ref, ap_dup2, ap_goto, ap_tsw, ap_lsw, ap_getI, ap_getJ, ap_getR, ap_putI, ap_putZ, ap_putJ, ap_iald, ap_lald, ap_bald, ap_aald, ap_iast, ap_last, ap_bast, ap_alen, ap_gst, ap_iret, ap_zret, ap_lret, ap_vret, ap_aret, ap_lmax, ap_labs, ap_acopy, ap_invV0, ap_invS0, ap_invV1, ap_invS1, ap_invV2, ap_invS2, ap_invV3, ap_invS3, ap_invV4, ap_invS4, ap_invV5, ap_invS5, tcnT, ocT, lenIT, lenWT, lenLT, lenVT, lenZT, startfT, vpL, sa_1, sa_2, sL_1, sL_2, si_1, si_2, sj_1, sj_2, ldI_e, ldL_e, ldA_e, inC_e, lk, st1, st2, rm1, rm2, Value.category, ctn_some, ctn_none, wsum, lv_args, Int32.reduceAdd, Int32.reduceSub, Int32.reduceMul, Nat.reduceAdd, Nat.reduceLT, Nat.reduceLeDiff, Nat.reduceEqDiff, Nat.reduceBEq, ↓reduceIte, true_and, and_true, Bool.false_eq_true, true_implies, false_implies, not_true_eq_false, not_false_eq_true, Bool.or_true, Bool.or_false, Bool.true_or, Bool.false_or, bx_ceq, bx_clt, bx_cge, bx_cgt, bx_cle, bx_cne, bx_zeq, bx_zlt, bx_zge, bx_zgt, bx_zle, bx_zne, iteP, hlen, e, vin q (by decide), nIc (show L < 2 ^ 31 by omega), nI_1]
      exact hT q
    · set_option maxRecDepth 100000 in simp (decide := true) only [c7_append, run_s, nxt_e, ap_const, ap_lconst, ap_ild, ap_lld, ap_ald, ap_ist, ap_lst, ap_ast, ap_iinc, ap_iadd, ap_isub, ap_imul, ap_iand, ap_ior, ap_ixor, ap_ishl, ap_ishr, ap_iushr, ap_idiv, ap_irem, ap_ineg, ap_ladd, ap_lsub, ap_lmul, ap_ldiv, ap_lrem, ap_lneg, ap_lcmp, ap_i2l, ap_l2i, ap_i2b, ap_i2s, ap_dup_int, ap_pop_int, ap_dup_ref, ap_pop_ref, ap_dup2, ap_goto, ap_tsw, ap_lsw, ap_getI, ap_getJ, ap_getR, ap_putI, ap_putZ, ap_putJ, ap_iald, ap_lald, ap_bald, ap_aald, ap_iast, ap_last, ap_bast, ap_alen, ap_gst, ap_iret, ap_zret, ap_lret, ap_vret, ap_aret, ap_lmax, ap_labs, ap_acopy, ap_invV0, ap_invS0, ap_invV1, ap_invS1, ap_invV2, ap_invS2, ap_invV3, ap_invS3, ap_invV4, ap_invS4, ap_invV5, ap_invS5, tcnT, ocT, lenIT, lenWT, lenLT, lenVT, lenZT, startfT, vpL, sa_1, sa_2, sL_1, sL_2, si_1, si_2, sj_1, sj_2, ldI_e, ldL_e, ldA_e, inC_e, lk, st1, st2, rm1, rm2, Value.category, ctn_some, ctn_none, wsum, lv_args, Int32.reduceAdd, Int32.reduceSub, Int32.reduceMul, Nat.reduceAdd, Nat.reduceLT, Nat.reduceLeDiff, Nat.reduceEqDiff, Nat.reduceBEq, ↓reduceIte, true_and, and_true, Bool.false_eq_true, true_implies, false_implies, not_true_eq_false, not_false_eq_true, Bool.or_true, Bool.or_false, Bool.true_or, Bool.false_or, bx_ceq, bx_clt, bx_cge, bx_cgt, bx_cle, bx_cne, bx_zeq, bx_zlt, bx_zge, bx_zgt, bx_zle, bx_zne, iteP, hlen, e, vin q (by decide), nIc (show L < 2 ^ 31 by omega), nI_1]
      exact hT q
  · have e : (nI L < 29) = False := eq_false (nI_nlt (show 29 ≤ L by omega) (by omega))
    rcases ho with rfl | rfl
    · set_option maxRecDepth 100000 in simp (decide := true) only [c7_append, run_s, nxt_e, ap_const, ap_lconst, ap_ild, ap_lld, ap_ald, ap_ist, ap_lst, ap_ast, ap_iinc, ap_iadd, ap_isub, ap_imul, ap_iand, ap_ior, ap_ixor, ap_ishl, ap_ishr, ap_iushr, ap_idiv, ap_irem, ap_ineg, ap_ladd, ap_lsub, ap_lmul, ap_ldiv, ap_lrem, ap_lneg, ap_lcmp, ap_i2l, ap_l2i, ap_i2b, ap_i2s, ap_dup_int, ap_pop_int, ap_dup_ref, ap_pop_ref, ap_dup2, ap_goto, ap_tsw, ap_lsw, ap_getI, ap_getJ, ap_getR, ap_putI, ap_putZ, ap_putJ, ap_iald, ap_lald, ap_bald, ap_aald, ap_iast, ap_last, ap_bast, ap_alen, ap_gst, ap_iret, ap_zret, ap_lret, ap_vret, ap_aret, ap_lmax, ap_labs, ap_acopy, ap_invV0, ap_invS0, ap_invV1, ap_invS1, ap_invV2, ap_invS2, ap_invV3, ap_invS3, ap_invV4, ap_invS4, ap_invV5, ap_invS5, tcnT, ocT, lenIT, lenWT, lenLT, lenVT, lenZT, startfT, vpL, sa_1, sa_2, sL_1, sL_2, si_1, si_2, sj_1, sj_2, ldI_e, ldL_e, ldA_e, inC_e, lk, st1, st2, rm1, rm2, Value.category, ctn_some, ctn_none, wsum, lv_args, Int32.reduceAdd, Int32.reduceSub, Int32.reduceMul, Nat.reduceAdd, Nat.reduceLT, Nat.reduceLeDiff, Nat.reduceEqDiff, Nat.reduceBEq, ↓reduceIte, true_and, and_true, Bool.false_eq_true, true_implies, false_implies, not_true_eq_false, not_false_eq_true, Bool.or_true, Bool.or_false, Bool.true_or, Bool.false_or, bx_ceq, bx_clt, bx_cge, bx_cgt, bx_cle, bx_cne, bx_zeq, bx_zlt, bx_zge, bx_zgt, bx_zle, bx_zne, iteP, hlen, e]
      exact hF (by omega)
    · set_option maxRecDepth 100000 in simp (decide := true) only [c7_append, run_s, nxt_e, ap_const, ap_lconst, ap_ild, ap_lld, ap_ald, ap_ist, ap_lst, ap_ast, ap_iinc, ap_iadd, ap_isub, ap_imul, ap_iand, ap_ior, ap_ixor, ap_ishl, ap_ishr, ap_iushr, ap_idiv, ap_irem, ap_ineg, ap_ladd, ap_lsub, ap_lmul, ap_ldiv, ap_lrem, ap_lneg, ap_lcmp, ap_i2l, ap_l2i, ap_i2b, ap_i2s, ap_dup_int, ap_pop_int, ap_dup_ref, ap_pop_ref, ap_dup2, ap_goto, ap_tsw, ap_lsw, ap_getI, ap_getJ, ap_getR, ap_putI, ap_putZ, ap_putJ, ap_iald, ap_lald, ap_bald, ap_aald, ap_iast, ap_last, ap_bast, ap_alen, ap_gst, ap_iret, ap_zret, ap_lret, ap_vret, ap_aret, ap_lmax, ap_labs, ap_acopy, ap_invV0, ap_invS0, ap_invV1, ap_invS1, ap_invV2, ap_invS2, ap_invV3, ap_invS3, ap_invV4, ap_invS4, ap_invV5, ap_invS5, tcnT, ocT, lenIT, lenWT, lenLT, lenVT, lenZT, startfT, vpL, sa_1, sa_2, sL_1, sL_2, si_1, si_2, sj_1, sj_2, ldI_e, ldL_e, ldA_e, inC_e, lk, st1, st2, rm1, rm2, Value.category, ctn_some, ctn_none, wsum, lv_args, Int32.reduceAdd, Int32.reduceSub, Int32.reduceMul, Nat.reduceAdd, Nat.reduceLT, Nat.reduceLeDiff, Nat.reduceEqDiff, Nat.reduceBEq, ↓reduceIte, true_and, and_true, Bool.false_eq_true, true_implies, false_implies, not_true_eq_false, not_false_eq_true, Bool.or_true, Bool.or_false, Bool.true_or, Bool.false_or, bx_ceq, bx_clt, bx_cge, bx_cgt, bx_cle, bx_cne, bx_zeq, bx_zlt, bx_zge, bx_zgt, bx_zle, bx_zne, iteP, hlen, e]
      exact hF (by omega)
