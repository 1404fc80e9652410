/-! the model reads the recipes -/
theorem rm_s {b : Nat → Int32} {i s k : Nat} (h : rm b i = some (s, k)) : rm b (i + 1) = stp (b i) s k := by
  show (match rm b i with | some q => stp (b i) q.1 q.2 | none => none) = _
  rw [h]
theorem ft1_rm {b : Nat → Int32} : ∀ {i : Nat} {q : Nat × Nat}, rm b i = some q → ft1 b i = none := by
  intro i
  induction i with
  | zero => intro q _; rfl
  | succ i ih =>
    intro q h
    cases e : rm b i with
    | none =>
      have : rm b (i + 1) = none := by
        show (match rm b i with | some q => stp (b i) q.1 q.2 | none => none) = _
        rw [e]
      rw [this] at h; cases h
    | some p =>
      show (match ft1 b i with | some j => some j | none => match rm b (i + 1) with | none => some i | some _ => none) = none
      rw [ih e, h]
theorem fl1_bad {b : Nat → Int32} {i N : Nat} {q : Nat × Nat} (h : rm b i = some q) (hi : i < N) (hb : rm b (i + 1) = none) : fault1 b N = some i := by
  have h1 : ft1 b (i + 1) = some i := by
    show (match ft1 b i with | some j => some j | none => match rm b (i + 1) with | none => some i | some _ => none) = some i
    rw [ft1_rm h, hb]
  have h2 := ft1_some h1 (N - (i + 1))
  rw [show i + 1 + (N - (i + 1)) = N by omega] at h2
  unfold fault1
  rw [h2]
theorem fl1_end {b : Nat → Int32} {N : Nat} {q : Nat × Nat} (h : rm b N = some q) (hN : N ≠ 0) (h3 : q.1 ≠ 3) : fault1 b N = some N := by
  unfold fault1
  rw [ft1_rm h, h]
  exact if_neg (by omega)
theorem fl1_none {b : Nat → Int32} {N : Nat} {q : Nat × Nat} (h : rm b N = some q) (h3 : N = 0 ∨ q.1 = 3) : fault1 b N = none ∧ num1 b N = q.2 := by
  have e : fault1 b N = none := by
    unfold fault1
    rw [ft1_rm h, h]
    exact if_pos h3
  refine ⟨e, ?_⟩
  unfold num1
  rw [e, h]
theorem num1_bad {b : Nat → Int32} {N i : Nat} (h : fault1 b N = some i) : num1 b N = 0 := by
  unfold num1
  rw [h]
theorem fA_s {b a : Nat → Int32} {i s k : Nat} (h : rm b i = some (s, k)) : fA b a (i + 1) = fA' (b i) s k (fA b a i) := by
  show (match rm b i with | some q => fA' (b i) q.1 q.2 (fA b a i) | none => fA b a i) = _
  rw [h]
theorem sA_s {b a : Nat → Int32} {i s k : Nat} (h : rm b i = some (s, k)) : sA b a (i + 1) = sA' (b i) s k (sA b a i) := by
  show (match rm b i with | some q => sA' (b i) q.1 q.2 (sA b a i) | none => sA b a i) = _
  rw [h]
theorem pA_s {b a : Nat → Int32} {i s k : Nat} (h : rm b i = some (s, k)) : pA b a (i + 1) = pA' (b i) s k (pA b a i) := by
  show (match rm b i with | some q => pA' (b i) q.1 q.2 (pA b a i) | none => pA b a i) = _
  rw [h]
theorem kl_m1 : kl (-1) = -1 := by decide
theorem isP_iff {b : Nat → Int32} {k : Nat} : isP (b k) ↔ (isD (b k) ∧ 1 ≤ dgt b k) := by
  constructor
  · intro h
    have hd : isD (b k) := by unfold isP at h; unfold isD; grind
    refine ⟨hd, ?_⟩
    have e := dgt_eq hd
    unfold isP at h
    rcases Nat.eq_zero_or_pos (dgt b k) with z | z
    · rw [z] at e
      have e1 := e.1
      have : nI 0 = 0 := rfl
      rw [this] at e1
      exfalso
      grind
    · exact z
  · intro ⟨h1, h2⟩
    have e := dgt_eq h1
    unfold isD at h1
    unfold isP
    have : ¬ b k = 48 := fun z => by
      have e1 := e.1
      rw [z] at e1
      have := (nI_eq (a := 0) (by decide) (show dgt b k < 2 ^ 31 by omega)).mp e1
      omega
    grind
def RB (b : Nat → Int32) (N i : Nat) : Prop := ∃ q, rm b i = some q ∧ q.1 ≠ 3 ∧ i ≤ N ∧ (i = N ∨ rm b (i + 1) = none)
theorem RB_flt {b : Nat → Int32} {N i : Nat} (h : RB b N i) (hN : N ≠ 0) : fault1 b N = some i := by
  obtain ⟨q, h1, h2, h3, h4⟩ := h
  rcases Nat.lt_or_ge i N with w | w
  · rcases h4 with e | e
    · omega
    · exact fl1_bad h1 w e
  · have : i = N := by omega
    subst this
    exact fl1_end h1 hN h2
theorem v9_readsRecipe {σ : St} {K : Kr} {n N a : Nat} {b : Nat → Int32} (hn : n < 6) (hT : TXT σ 1 N b) (h0 : rm b a = some (0, n)) (h2 : a ≤ N)
    (hF : ∀ i, i < 3 → RB b N (a + i) → K (some (.int (-nI i - 1))) σ)
    (hG : ∀ z, z = 2 ∨ z = 3 → rm b (a + z) = some (3, n + 1) → a + z ≤ N → (∀ j, j < n → fA b z0 (a + z) j = fA b z0 a j ∧ sA b z0 (a + z) j = sA b z0 a j ∧ pA b z0 (a + z) j = pA b z0 a j) → K (some (.int (nI z))) (si (si (si σ 39 n (fA b z0 (a + z) n)) 40 n (sA b z0 (a + z) n)) 41 n (pA b z0 (a + z) n))) : VM M9_readsRecipe [.ref 35, .int (nI n), .int (nI a)] σ K := by
  have hN := hT.2.1
  refine vm_run s9_readsRecipe n9_readsRecipe (fun _ => false) 1000 (fun E => Nat.le_of_ble_eq_true rfl) ?_
  set_option maxRecDepth 100000 in simp (decide := true) only [c9_readsRecipe, run_s, nxt_e, ap_const, ap_lconst, ap_ild, ap_lld, ap_ald, ap_ist, ap_lst, ap_ast, ap_iinc, ap_iadd, ap_isub, ap_imul, ap_iand, ap_ior, ap_ixor, ap_ishl, ap_ishr, ap_iushr, ap_idiv, ap_irem, ap_ineg, ap_ladd, ap_lsub, ap_lmul, ap_ldiv, ap_lrem, ap_lneg, ap_lcmp, ap_i2l, ap_l2i, ap_i2b, ap_i2s, ap_dup_int, ap_pop_int, ap_dup_ref, ap_pop_ref, ap_dup2, ap_goto, ap_tsw, ap_lsw, ap_getI, ap_getJ, ap_getR, ap_putI, ap_putZ, ap_putJ, ap_iald, ap_lald, ap_bald, ap_aald, ap_iast, ap_last, ap_bast, ap_alen, ap_gst, ap_iret, ap_zret, ap_lret, ap_vret, ap_aret, ap_lmax, ap_labs, ap_acopy, ap_invV0, ap_invS0, ap_invV1, ap_invS1, ap_invV2, ap_invS2, ap_invV3, ap_invS3, ap_invV4, ap_invS4, ap_invV5, ap_invS5, tcnT, ocT, lenIT, lenWT, lenLT, lenVT, lenZT, startfT, vpL, sa_1, sa_2, sL_1, sL_2, si_1, si_2, sj_1, sj_2, ldI_e, ldL_e, ldA_e, inC_e, lk, st1, st2, rm1, rm2, Value.category, ctn_some, ctn_none, wsum, lv_args, Int32.reduceAdd, Int32.reduceSub, Int32.reduceMul, Nat.reduceAdd, Nat.reduceLT, Nat.reduceLeDiff, Nat.reduceEqDiff, Nat.reduceBEq, ↓reduceIte, true_and, and_true, Bool.false_eq_true, true_implies, false_implies, not_true_eq_false, not_false_eq_true, Bool.or_true, Bool.or_false, Bool.true_or, Bool.false_or, bx_ceq, bx_clt, bx_cge, bx_cgt, bx_cle, bx_cne, bx_zeq, bx_zlt, bx_zge, bx_zgt, bx_zle, bx_zne, iteP]
  refine v9_kindAt hT (by omega) ?_
  set_option maxRecDepth 100000 in simp (decide := true) only [c9_readsRecipe, run_s, nxt_e, ap_const, ap_lconst, ap_ild, ap_lld, ap_ald, ap_ist, ap_lst, ap_ast, ap_iinc, ap_iadd, ap_isub, ap_imul, ap_iand, ap_ior, ap_ixor, ap_ishl, ap_ishr, ap_iushr, ap_idiv, ap_irem, ap_ineg, ap_ladd, ap_lsub, ap_lmul, ap_ldiv, ap_lrem, ap_lneg, ap_lcmp, ap_i2l, ap_l2i, ap_i2b, ap_i2s, ap_dup_int, ap_pop_int, ap_dup_ref, ap_pop_ref, ap_dup2, ap_goto, ap_tsw, ap_lsw, ap_getI, ap_getJ, ap_getR, ap_putI, ap_putZ, ap_putJ, ap_iald, ap_lald, ap_bald, ap_aald, ap_iast, ap_last, ap_bast, ap_alen, ap_gst, ap_iret, ap_zret, ap_lret, ap_vret, ap_aret, ap_lmax, ap_labs, ap_acopy, ap_invV0, ap_invS0, ap_invV1, ap_invS1, ap_invV2, ap_invS2, ap_invV3, ap_invS3, ap_invV4, ap_invS4, ap_invV5, ap_invS5, tcnT, ocT, lenIT, lenWT, lenLT, lenVT, lenZT, startfT, vpL, sa_1, sa_2, sL_1, sL_2, si_1, si_2, sj_1, sj_2, ldI_e, ldL_e, ldA_e, inC_e, lk, st1, st2, rm1, rm2, Value.category, ctn_some, ctn_none, wsum, lv_args, Int32.reduceAdd, Int32.reduceSub, Int32.reduceMul, Nat.reduceAdd, Nat.reduceLT, Nat.reduceLeDiff, Nat.reduceEqDiff, Nat.reduceBEq, ↓reduceIte, true_and, and_true, Bool.false_eq_true, true_implies, false_implies, not_true_eq_false, not_false_eq_true, Bool.or_true, Bool.or_false, Bool.true_or, Bool.false_or, bx_ceq, bx_clt, bx_cge, bx_cgt, bx_cle, bx_cne, bx_zeq, bx_zlt, bx_zge, bx_zgt, bx_zle, bx_zne, iteP, nI_1]
  refine v9_kindAt hT (by omega) ?_
  have e0 : ∀ y, y ≠ 3 → ∀ i, rm b i = some (y, n) → stp (b i) y n = none → i ≤ N → RB b N i := fun y hy i e1 e2 e3 => ⟨(y, n), e1, hy, e3, Or.inr (by rw [rm_s e1]; exact e2)⟩
  have e1 : ∀ y, y ≠ 3 → ∀ i, rm b i = some (y, n) → i = N → RB b N i := fun y hy i e1 e2 => ⟨(y, n), e1, hy, by omega, Or.inl e2⟩
  by_cases k0 : kl (bz b N a) = -1
  · have hF0 := hF 0 (by decide) (by
      rw [Nat.add_zero]
      rcases Nat.lt_or_ge a N with w | w
      · have eb : bz b N a = b a := if_pos w
        rw [eb] at k0
        exact e0 0 (by decide) a h0 (by unfold stp; rw [if_neg (by decide), if_pos rfl, if_neg (fun z => z.1 k0)]) h2
      · exact e1 0 (by decide) a h0 (by omega))
    set_option maxRecDepth 100000 in simp (decide := true) only [c9_readsRecipe, run_s, nxt_e, ap_const, ap_lconst, ap_ild, ap_lld, ap_ald, ap_ist, ap_lst, ap_ast, ap_iinc, ap_iadd, ap_isub, ap_imul, ap_iand, ap_ior, ap_ixor, ap_ishl, ap_ishr, ap_iushr, ap_idiv, ap_irem, ap_ineg, ap_ladd, ap_lsub, ap_lmul, ap_ldiv, ap_lrem, ap_lneg, ap_lcmp, ap_i2l, ap_l2i, ap_i2b, ap_i2s, ap_dup_int, ap_pop_int, ap_dup_ref, ap_pop_ref, ap_dup2, ap_goto, ap_tsw, ap_lsw, ap_getI, ap_getJ, ap_getR, ap_putI, ap_putZ, ap_putJ, ap_iald, ap_lald, ap_bald, ap_aald, ap_iast, ap_last, ap_bast, ap_alen, ap_gst, ap_iret, ap_zret, ap_lret, ap_vret, ap_aret, ap_lmax, ap_labs, ap_acopy, ap_invV0, ap_invS0, ap_invV1, ap_invS1, ap_invV2, ap_invS2, ap_invV3, ap_invS3, ap_invV4, ap_invS4, ap_invV5, ap_invS5, tcnT, ocT, lenIT, lenWT, lenLT, lenVT, lenZT, startfT, vpL, sa_1, sa_2, sL_1, sL_2, si_1, si_2, sj_1, sj_2, ldI_e, ldL_e, ldA_e, inC_e, lk, st1, st2, rm1, rm2, Value.category, ctn_some, ctn_none, wsum, lv_args, Int32.reduceAdd, Int32.reduceSub, Int32.reduceMul, Nat.reduceAdd, Nat.reduceLT, Nat.reduceLeDiff, Nat.reduceEqDiff, Nat.reduceBEq, ↓reduceIte, true_and, and_true, Bool.false_eq_true, true_implies, false_implies, not_true_eq_false, not_false_eq_true, Bool.or_true, Bool.or_false, Bool.true_or, Bool.false_or, bx_ceq, bx_clt, bx_cge, bx_cgt, bx_cle, bx_cne, bx_zeq, bx_zlt, bx_zge, bx_zgt, bx_zle, bx_zne, iteP, k0]
    exact ⟨fun _ => hF0, fun _ => hF0⟩
  · have w0 : a < N := by
      rcases Nat.lt_or_ge a N with w | w
      · exact w
      · exact absurd (by unfold bz; rw [if_neg (by omega)]; exact kl_m1) k0
    have eb0 : bz b N a = b a := if_pos w0
    rw [eb0] at k0 ⊢
    have r1 : rm b (a + 1) = some (1, n) := by rw [rm_s h0]; unfold stp; rw [if_neg (by decide), if_pos rfl, if_pos ⟨k0, hn⟩]
    have f1 : fA b z0 (a + 1) = upd (fA b z0 a) n (kl (b a)) := by rw [fA_s h0]; rfl
    have s1 : sA b z0 (a + 1) = upd (sA b z0 a) n (-1) := by rw [sA_s h0]; rfl
    have p1 : pA b z0 (a + 1) = pA b z0 a := by rw [pA_s h0]; unfold pA'; rw [if_neg (by simp)]
    have vn : vp_in (nI n) 7 = True := vin (by omega) (by decide)
    have cn : (nI n).toNatClampNeg = n := nIc (by omega)
    by_cases k1 : kl (bz b N (a + 1)) = -1
    · have bad1 : ¬ (a + 1 < N ∧ isP (b (a + 1))) → RB b N (a + 1) := by
        intro q
        rcases Nat.lt_or_ge (a + 1) N with w | w
        · have eb : bz b N (a + 1) = b (a + 1) := if_pos w
          rw [eb] at k1
          exact e0 1 (by decide) (a + 1) r1 (by
            unfold stp
            rw [if_neg (by decide), if_neg (by decide), if_pos rfl, if_neg (fun z => z k1)]
            exact if_neg (fun z => q ⟨w, z.1⟩)) (by omega)
        · exact e1 1 (by decide) (a + 1) r1 (by omega)
      set_option maxRecDepth 100000 in simp (decide := true) only [c9_readsRecipe, run_s, nxt_e, ap_const, ap_lconst, ap_ild, ap_lld, ap_ald, ap_ist, ap_lst, ap_ast, ap_iinc, ap_iadd, ap_isub, ap_imul, ap_iand, ap_ior, ap_ixor, ap_ishl, ap_ishr, ap_iushr, ap_idiv, ap_irem, ap_ineg, ap_ladd, ap_lsub, ap_lmul, ap_ldiv, ap_lrem, ap_lneg, ap_lcmp, ap_i2l, ap_l2i, ap_i2b, ap_i2s, ap_dup_int, ap_pop_int, ap_dup_ref, ap_pop_ref, ap_dup2, ap_goto, ap_tsw, ap_lsw, ap_getI, ap_getJ, ap_getR, ap_putI, ap_putZ, ap_putJ, ap_iald, ap_lald, ap_bald, ap_aald, ap_iast, ap_last, ap_bast, ap_alen, ap_gst, ap_iret, ap_zret, ap_lret, ap_vret, ap_aret, ap_lmax, ap_labs, ap_acopy, ap_invV0, ap_invS0, ap_invV1, ap_invS1, ap_invV2, ap_invS2, ap_invV3, ap_invS3, ap_invV4, ap_invS4, ap_invV5, ap_invS5, tcnT, ocT, lenIT, lenWT, lenLT, lenVT, lenZT, startfT, vpL, sa_1, sa_2, sL_1, sL_2, si_1, si_2, sj_1, sj_2, ldI_e, ldL_e, ldA_e, inC_e, lk, st1, st2, rm1, rm2, Value.category, ctn_some, ctn_none, wsum, lv_args, Int32.reduceAdd, Int32.reduceSub, Int32.reduceMul, Nat.reduceAdd, Nat.reduceLT, Nat.reduceLeDiff, Nat.reduceEqDiff, Nat.reduceBEq, ↓reduceIte, true_and, and_true, Bool.false_eq_true, true_implies, false_implies, not_true_eq_false, not_false_eq_true, Bool.or_true, Bool.or_false, Bool.true_or, Bool.false_or, bx_ceq, bx_clt, bx_cge, bx_cgt, bx_cle, bx_cne, bx_zeq, bx_zlt, bx_zge, bx_zgt, bx_zle, bx_zne, iteP, k1, eq_false k0, nI_1]
      refine v9_figureAt (t := 1) hT (by omega) (fun a1 a2 => ?_) (fun q => ?_)
      · have dl := (dgt_eq a2).2
        by_cases d1 : 1 ≤ dgt b (a + 1)
        · have ip : isP (b (a + 1)) := isP_iff.mpr ⟨a2, d1⟩
          have eb : bz b N (a + 1) = b (a + 1) := if_pos a1
          rw [eb] at k1
          have r2 : rm b (a + 2) = some (3, n + 1) := by
            rw [rm_s (i := a + 1) r1]
            unfold stp
            rw [if_neg (by decide), if_neg (by decide), if_pos rfl, if_neg (fun z => z k1)]
            exact if_pos ⟨ip, hn⟩
          have f2 : fA b z0 (a + 2) = upd (fA b z0 a) n (kl (b a)) := by rw [fA_s (i := a + 1) r1, f1]; rfl
          have s2 : sA b z0 (a + 2) = upd (sA b z0 a) n (-1) := by
            rw [sA_s (i := a + 1) r1, s1]; unfold sA'; rw [if_neg (by decide), if_neg (fun z => z.2 k1)]
          have p2 : pA b z0 (a + 2) = upd (pA b z0 a) n (nI (dgt b (a + 1))) := by
            rw [pA_s (i := a + 1) r1, p1]; unfold pA'; rw [if_pos (Or.inr ⟨rfl, k1⟩), (dgt_eq a2).1]
          have hh := hG 2 (Or.inl rfl) r2 (by omega) (fun j hj => by
            rw [f2, s2, p2]
            unfold upd
            rw [if_neg (by omega), if_neg (by omega), if_neg (by omega)]
            exact ⟨rfl, rfl, rfl⟩)
          rw [f2, s2, p2] at hh
          simp only [upd, if_true] at hh
          set_option maxRecDepth 100000 in simp (decide := true) only [c9_readsRecipe, run_s, nxt_e, ap_const, ap_lconst, ap_ild, ap_lld, ap_ald, ap_ist, ap_lst, ap_ast, ap_iinc, ap_iadd, ap_isub, ap_imul, ap_iand, ap_ior, ap_ixor, ap_ishl, ap_ishr, ap_iushr, ap_idiv, ap_irem, ap_ineg, ap_ladd, ap_lsub, ap_lmul, ap_ldiv, ap_lrem, ap_lneg, ap_lcmp, ap_i2l, ap_l2i, ap_i2b, ap_i2s, ap_dup_int, ap_pop_int, ap_dup_ref, ap_pop_ref, ap_dup2, ap_goto, ap_tsw, ap_lsw, ap_getI, ap_getJ, ap_getR, ap_putI, ap_putZ, ap_putJ, ap_iald, ap_lald, ap_bald, ap_aald, ap_iast, ap_last, ap_bast, ap_alen, ap_gst, ap_iret, ap_zret, ap_lret, ap_vret, ap_aret, ap_lmax, ap_labs, ap_acopy, ap_invV0, ap_invS0, ap_invV1, ap_invS1, ap_invV2, ap_invS2, ap_invV3, ap_invS3, ap_invV4, ap_invS4, ap_invV5, ap_invS5, tcnT, ocT, lenIT, lenWT, lenLT, lenVT, lenZT, startfT, vpL, sa_1, sa_2, sL_1, sL_2, si_1, si_2, sj_1, sj_2, ldI_e, ldL_e, ldA_e, inC_e, lk, st1, st2, rm1, rm2, Value.category, ctn_some, ctn_none, wsum, lv_args, Int32.reduceAdd, Int32.reduceSub, Int32.reduceMul, Nat.reduceAdd, Nat.reduceLT, Nat.reduceLeDiff, Nat.reduceEqDiff, Nat.reduceBEq, ↓reduceIte, true_and, and_true, Bool.false_eq_true, true_implies, false_implies, not_true_eq_false, not_false_eq_true, Bool.or_true, Bool.or_false, Bool.true_or, Bool.false_or, bx_ceq, bx_clt, bx_cge, bx_cgt, bx_cle, bx_cne, bx_zeq, bx_zlt, bx_zge, bx_zgt, bx_zle, bx_zne, iteP, eq_true (show (1 : Int32) ≤ nI (dgt b (a + 1)) from nI_le (a := 1) d1 (by omega)), vn, cn, nI_1]
          refine v9_figureAt (t := 1) (hT.sq (l := [39, 40]) (fl := []) ((sq.rfl'.si (by decide) (by decide)).si (by decide) (by decide)) (by decide) (by decide)) (by omega) (fun _ _ => ?_) (fun q => absurd ⟨a1, a2⟩ q)
          set_option maxRecDepth 100000 in simp (decide := true) only [c9_readsRecipe, run_s, nxt_e, ap_const, ap_lconst, ap_ild, ap_lld, ap_ald, ap_ist, ap_lst, ap_ast, ap_iinc, ap_iadd, ap_isub, ap_imul, ap_iand, ap_ior, ap_ixor, ap_ishl, ap_ishr, ap_iushr, ap_idiv, ap_irem, ap_ineg, ap_ladd, ap_lsub, ap_lmul, ap_ldiv, ap_lrem, ap_lneg, ap_lcmp, ap_i2l, ap_l2i, ap_i2b, ap_i2s, ap_dup_int, ap_pop_int, ap_dup_ref, ap_pop_ref, ap_dup2, ap_goto, ap_tsw, ap_lsw, ap_getI, ap_getJ, ap_getR, ap_putI, ap_putZ, ap_putJ, ap_iald, ap_lald, ap_bald, ap_aald, ap_iast, ap_last, ap_bast, ap_alen, ap_gst, ap_iret, ap_zret, ap_lret, ap_vret, ap_aret, ap_lmax, ap_labs, ap_acopy, ap_invV0, ap_invS0, ap_invV1, ap_invS1, ap_invV2, ap_invS2, ap_invV3, ap_invS3, ap_invV4, ap_invS4, ap_invV5, ap_invS5, tcnT, ocT, lenIT, lenWT, lenLT, lenVT, lenZT, startfT, vpL, sa_1, sa_2, sL_1, sL_2, si_1, si_2, sj_1, sj_2, ldI_e, ldL_e, ldA_e, inC_e, lk, st1, st2, rm1, rm2, Value.category, ctn_some, ctn_none, wsum, lv_args, Int32.reduceAdd, Int32.reduceSub, Int32.reduceMul, Nat.reduceAdd, Nat.reduceLT, Nat.reduceLeDiff, Nat.reduceEqDiff, Nat.reduceBEq, ↓reduceIte, true_and, and_true, Bool.false_eq_true, true_implies, false_implies, not_true_eq_false, not_false_eq_true, Bool.or_true, Bool.or_false, Bool.true_or, Bool.false_or, bx_ceq, bx_clt, bx_cge, bx_cgt, bx_cle, bx_cne, bx_zeq, bx_zlt, bx_zge, bx_zgt, bx_zle, bx_zne, iteP, vn, cn]
          exact hh
        · have hF1 := hF 1 (by decide) (bad1 (fun z => d1 (isP_iff.mp z.2).2))
          set_option maxRecDepth 100000 in simp (decide := true) only [c9_readsRecipe, run_s, nxt_e, ap_const, ap_lconst, ap_ild, ap_lld, ap_ald, ap_ist, ap_lst, ap_ast, ap_iinc, ap_iadd, ap_isub, ap_imul, ap_iand, ap_ior, ap_ixor, ap_ishl, ap_ishr, ap_iushr, ap_idiv, ap_irem, ap_ineg, ap_ladd, ap_lsub, ap_lmul, ap_ldiv, ap_lrem, ap_lneg, ap_lcmp, ap_i2l, ap_l2i, ap_i2b, ap_i2s, ap_dup_int, ap_pop_int, ap_dup_ref, ap_pop_ref, ap_dup2, ap_goto, ap_tsw, ap_lsw, ap_getI, ap_getJ, ap_getR, ap_putI, ap_putZ, ap_putJ, ap_iald, ap_lald, ap_bald, ap_aald, ap_iast, ap_last, ap_bast, ap_alen, ap_gst, ap_iret, ap_zret, ap_lret, ap_vret, ap_aret, ap_lmax, ap_labs, ap_acopy, ap_invV0, ap_invS0, ap_invV1, ap_invS1, ap_invV2, ap_invS2, ap_invV3, ap_invS3, ap_invV4, ap_invS4, ap_invV5, ap_invS5, tcnT, ocT, lenIT, lenWT, lenLT, lenVT, lenZT, startfT, vpL, sa_1, sa_2, sL_1, sL_2, si_1, si_2, sj_1, sj_2, ldI_e, ldL_e, ldA_e, inC_e, lk, st1, st2, rm1, rm2, Value.category, ctn_some, ctn_none, wsum, lv_args, Int32.reduceAdd, Int32.reduceSub, Int32.reduceMul, Nat.reduceAdd, Nat.reduceLT, Nat.reduceLeDiff, Nat.reduceEqDiff, Nat.reduceBEq, ↓reduceIte, true_and, and_true, Bool.false_eq_true, true_implies, false_implies, not_true_eq_false, not_false_eq_true, Bool.or_true, Bool.or_false, Bool.true_or, Bool.false_or, bx_ceq, bx_clt, bx_cge, bx_cgt, bx_cle, bx_cne, bx_zeq, bx_zlt, bx_zge, bx_zgt, bx_zle, bx_zne, iteP, eq_false (show ¬ (1 : Int32) ≤ nI (dgt b (a + 1)) from nI_ge (b := 1) (by omega) (by decide))]
          exact hF1
      · have hF1 := hF 1 (by decide) (bad1 (fun z => q ⟨z.1, (isP_iff.mp z.2).1⟩))
        set_option maxRecDepth 100000 in simp (decide := true) only [c9_readsRecipe, run_s, nxt_e, ap_const, ap_lconst, ap_ild, ap_lld, ap_ald, ap_ist, ap_lst, ap_ast, ap_iinc, ap_iadd, ap_isub, ap_imul, ap_iand, ap_ior, ap_ixor, ap_ishl, ap_ishr, ap_iushr, ap_idiv, ap_irem, ap_ineg, ap_ladd, ap_lsub, ap_lmul, ap_ldiv, ap_lrem, ap_lneg, ap_lcmp, ap_i2l, ap_l2i, ap_i2b, ap_i2s, ap_dup_int, ap_pop_int, ap_dup_ref, ap_pop_ref, ap_dup2, ap_goto, ap_tsw, ap_lsw, ap_getI, ap_getJ, ap_getR, ap_putI, ap_putZ, ap_putJ, ap_iald, ap_lald, ap_bald, ap_aald, ap_iast, ap_last, ap_bast, ap_alen, ap_gst, ap_iret, ap_zret, ap_lret, ap_vret, ap_aret, ap_lmax, ap_labs, ap_acopy, ap_invV0, ap_invS0, ap_invV1, ap_invS1, ap_invV2, ap_invS2, ap_invV3, ap_invS3, ap_invV4, ap_invS4, ap_invV5, ap_invS5, tcnT, ocT, lenIT, lenWT, lenLT, lenVT, lenZT, startfT, vpL, sa_1, sa_2, sL_1, sL_2, si_1, si_2, sj_1, sj_2, ldI_e, ldL_e, ldA_e, inC_e, lk, st1, st2, rm1, rm2, Value.category, ctn_some, ctn_none, wsum, lv_args, Int32.reduceAdd, Int32.reduceSub, Int32.reduceMul, Nat.reduceAdd, Nat.reduceLT, Nat.reduceLeDiff, Nat.reduceEqDiff, Nat.reduceBEq, ↓reduceIte, true_and, and_true, Bool.false_eq_true, true_implies, false_implies, not_true_eq_false, not_false_eq_true, Bool.or_true, Bool.or_false, Bool.true_or, Bool.false_or, bx_ceq, bx_clt, bx_cge, bx_cgt, bx_cle, bx_cne, bx_zeq, bx_zlt, bx_zge, bx_zgt, bx_zle, bx_zne, iteP]
        exact hF1
    · have w1 : a + 1 < N := by
        rcases Nat.lt_or_ge (a + 1) N with w | w
        · exact w
        · exact absurd (by unfold bz; rw [if_neg (by omega)]; exact kl_m1) k1
      have eb1 : bz b N (a + 1) = b (a + 1) := if_pos w1
      rw [eb1] at k1 ⊢
      have r2 : rm b (a + 2) = some (2, n) := by
        rw [rm_s (i := a + 1) r1]; unfold stp; rw [if_neg (by decide), if_neg (by decide), if_pos rfl, if_pos k1, if_pos hn]
      have f2 : fA b z0 (a + 2) = upd (fA b z0 a) n (kl (b a)) := by rw [fA_s (i := a + 1) r1, f1]; rfl
      have s2 : sA b z0 (a + 2) = upd (upd (sA b z0 a) n (-1)) n (kl (b (a + 1))) := by
        rw [sA_s (i := a + 1) r1, s1]; unfold sA'; rw [if_neg (by decide), if_pos ⟨rfl, k1⟩]
      have p2 : pA b z0 (a + 2) = pA b z0 a := by
        rw [pA_s (i := a + 1) r1, p1]; unfold pA'; rw [if_neg (by rintro (z | z); exact absurd z (by decide); exact k1 z.2)]
      have bad2 : ¬ (a + 2 < N ∧ isP (b (a + 2))) → RB b N (a + 2) := by
        intro q
        rcases Nat.lt_or_ge (a + 2) N with w | w
        · exact e0 2 (by decide) (a + 2) r2 (by
            unfold stp
            rw [if_neg (by decide), if_neg (by decide), if_neg (by decide)]
            exact if_neg (fun z => q ⟨w, z.1⟩)) (by omega)
        · exact e1 2 (by decide) (a + 2) r2 (by omega)
      set_option maxRecDepth 100000 in simp (decide := true) only [c9_readsRecipe, run_s, nxt_e, ap_const, ap_lconst, ap_ild, ap_lld, ap_ald, ap_ist, ap_lst, ap_ast, ap_iinc, ap_iadd, ap_isub, ap_imul, ap_iand, ap_ior, ap_ixor, ap_ishl, ap_ishr, ap_iushr, ap_idiv, ap_irem, ap_ineg, ap_ladd, ap_lsub, ap_lmul, ap_ldiv, ap_lrem, ap_lneg, ap_lcmp, ap_i2l, ap_l2i, ap_i2b, ap_i2s, ap_dup_int, ap_pop_int, ap_dup_ref, ap_pop_ref, ap_dup2, ap_goto, ap_tsw, ap_lsw, ap_getI, ap_getJ, ap_getR, ap_putI, ap_putZ, ap_putJ, ap_iald, ap_lald, ap_bald, ap_aald, ap_iast, ap_last, ap_bast, ap_alen, ap_gst, ap_iret, ap_zret, ap_lret, ap_vret, ap_aret, ap_lmax, ap_labs, ap_acopy, ap_invV0, ap_invS0, ap_invV1, ap_invS1, ap_invV2, ap_invS2, ap_invV3, ap_invS3, ap_invV4, ap_invS4, ap_invV5, ap_invS5, tcnT, ocT, lenIT, lenWT, lenLT, lenVT, lenZT, startfT, vpL, sa_1, sa_2, sL_1, sL_2, si_1, si_2, sj_1, sj_2, ldI_e, ldL_e, ldA_e, inC_e, lk, st1, st2, rm1, rm2, Value.category, ctn_some, ctn_none, wsum, lv_args, Int32.reduceAdd, Int32.reduceSub, Int32.reduceMul, Nat.reduceAdd, Nat.reduceLT, Nat.reduceLeDiff, Nat.reduceEqDiff, Nat.reduceBEq, ↓reduceIte, true_and, and_true, Bool.false_eq_true, true_implies, false_implies, not_true_eq_false, not_false_eq_true, Bool.or_true, Bool.or_false, Bool.true_or, Bool.false_or, bx_ceq, bx_clt, bx_cge, bx_cgt, bx_cle, bx_cne, bx_zeq, bx_zlt, bx_zge, bx_zgt, bx_zle, bx_zne, iteP, eq_false k1, eq_false k0, nI_p2]
      refine v9_figureAt (t := 1) hT (by omega) (fun a1 a2 => ?_) (fun q => ?_)
      · have dl := (dgt_eq a2).2
        by_cases d1 : 1 ≤ dgt b (a + 2)
        · have ip : isP (b (a + 2)) := isP_iff.mpr ⟨a2, d1⟩
          have r3 : rm b (a + 3) = some (3, n + 1) := by
            rw [rm_s (i := a + 2) r2]
            unfold stp
            rw [if_neg (by decide), if_neg (by decide), if_neg (by decide)]
            exact if_pos ⟨ip, hn⟩
          have f3 : fA b z0 (a + 3) = upd (fA b z0 a) n (kl (b a)) := by rw [fA_s (i := a + 2) r2, f2]; rfl
          have s3 : sA b z0 (a + 3) = upd (upd (sA b z0 a) n (-1)) n (kl (b (a + 1))) := by
            rw [sA_s (i := a + 2) r2, s2]; unfold sA'; rw [if_neg (by decide), if_neg (fun z => absurd z.1 (by decide))]
          have p3 : pA b z0 (a + 3) = upd (pA b z0 a) n (nI (dgt b (a + 2))) := by
            rw [pA_s (i := a + 2) r2, p2]; unfold pA'; rw [if_pos (Or.inl rfl), (dgt_eq a2).1]
          have hh := hG 3 (Or.inr rfl) r3 (by omega) (fun j hj => by
            rw [f3, s3, p3]
            unfold upd
            rw [if_neg (by omega), if_neg (by omega), if_neg (by omega), if_neg (by omega)]
            exact ⟨rfl, rfl, rfl⟩)
          rw [f3, s3, p3] at hh
          simp only [upd, if_true] at hh
          set_option maxRecDepth 100000 in simp (decide := true) only [c9_readsRecipe, run_s, nxt_e, ap_const, ap_lconst, ap_ild, ap_lld, ap_ald, ap_ist, ap_lst, ap_ast, ap_iinc, ap_iadd, ap_isub, ap_imul, ap_iand, ap_ior, ap_ixor, ap_ishl, ap_ishr, ap_iushr, ap_idiv, ap_irem, ap_ineg, ap_ladd, ap_lsub, ap_lmul, ap_ldiv, ap_lrem, ap_lneg, ap_lcmp, ap_i2l, ap_l2i, ap_i2b, ap_i2s, ap_dup_int, ap_pop_int, ap_dup_ref, ap_pop_ref, ap_dup2, ap_goto, ap_tsw, ap_lsw, ap_getI, ap_getJ, ap_getR, ap_putI, ap_putZ, ap_putJ, ap_iald, ap_lald, ap_bald, ap_aald, ap_iast, ap_last, ap_bast, ap_alen, ap_gst, ap_iret, ap_zret, ap_lret, ap_vret, ap_aret, ap_lmax, ap_labs, ap_acopy, ap_invV0, ap_invS0, ap_invV1, ap_invS1, ap_invV2, ap_invS2, ap_invV3, ap_invS3, ap_invV4, ap_invS4, ap_invV5, ap_invS5, tcnT, ocT, lenIT, lenWT, lenLT, lenVT, lenZT, startfT, vpL, sa_1, sa_2, sL_1, sL_2, si_1, si_2, sj_1, sj_2, ldI_e, ldL_e, ldA_e, inC_e, lk, st1, st2, rm1, rm2, Value.category, ctn_some, ctn_none, wsum, lv_args, Int32.reduceAdd, Int32.reduceSub, Int32.reduceMul, Nat.reduceAdd, Nat.reduceLT, Nat.reduceLeDiff, Nat.reduceEqDiff, Nat.reduceBEq, ↓reduceIte, true_and, and_true, Bool.false_eq_true, true_implies, false_implies, not_true_eq_false, not_false_eq_true, Bool.or_true, Bool.or_false, Bool.true_or, Bool.false_or, bx_ceq, bx_clt, bx_cge, bx_cgt, bx_cle, bx_cne, bx_zeq, bx_zlt, bx_zge, bx_zgt, bx_zle, bx_zne, iteP, eq_true (show (1 : Int32) ≤ nI (dgt b (a + 2)) from nI_le (a := 1) d1 (by omega)), vn, cn, nI_p2]
          refine v9_figureAt (t := 1) (hT.sq (l := [39, 40]) (fl := []) ((sq.rfl'.si (by decide) (by decide)).si (by decide) (by decide)) (by decide) (by decide)) (by omega) (fun _ _ => ?_) (fun q => absurd ⟨a1, a2⟩ q)
          set_option maxRecDepth 100000 in simp (decide := true) only [c9_readsRecipe, run_s, nxt_e, ap_const, ap_lconst, ap_ild, ap_lld, ap_ald, ap_ist, ap_lst, ap_ast, ap_iinc, ap_iadd, ap_isub, ap_imul, ap_iand, ap_ior, ap_ixor, ap_ishl, ap_ishr, ap_iushr, ap_idiv, ap_irem, ap_ineg, ap_ladd, ap_lsub, ap_lmul, ap_ldiv, ap_lrem, ap_lneg, ap_lcmp, ap_i2l, ap_l2i, ap_i2b, ap_i2s, ap_dup_int, ap_pop_int, ap_dup_ref, ap_pop_ref, ap_dup2, ap_goto, ap_tsw, ap_lsw, ap_getI, ap_getJ, ap_getR, ap_putI, ap_putZ, ap_putJ, ap_iald, ap_lald, ap_bald, ap_aald, ap_iast, ap_last, ap_bast, ap_alen, ap_gst, ap_iret, ap_zret, ap_lret, ap_vret, ap_aret, ap_lmax, ap_labs, ap_acopy, ap_invV0, ap_invS0, ap_invV1, ap_invS1, ap_invV2, ap_invS2, ap_invV3, ap_invS3, ap_invV4, ap_invS4, ap_invV5, ap_invS5, tcnT, ocT, lenIT, lenWT, lenLT, lenVT, lenZT, startfT, vpL, sa_1, sa_2, sL_1, sL_2, si_1, si_2, sj_1, sj_2, ldI_e, ldL_e, ldA_e, inC_e, lk, st1, st2, rm1, rm2, Value.category, ctn_some, ctn_none, wsum, lv_args, Int32.reduceAdd, Int32.reduceSub, Int32.reduceMul, Nat.reduceAdd, Nat.reduceLT, Nat.reduceLeDiff, Nat.reduceEqDiff, Nat.reduceBEq, ↓reduceIte, true_and, and_true, Bool.false_eq_true, true_implies, false_implies, not_true_eq_false, not_false_eq_true, Bool.or_true, Bool.or_false, Bool.true_or, Bool.false_or, bx_ceq, bx_clt, bx_cge, bx_cgt, bx_cle, bx_cne, bx_zeq, bx_zlt, bx_zge, bx_zgt, bx_zle, bx_zne, iteP, vn, cn]
          exact hh
        · have hF1 := hF 2 (by decide) (bad2 (fun z => d1 (isP_iff.mp z.2).2))
          set_option maxRecDepth 100000 in simp (decide := true) only [c9_readsRecipe, run_s, nxt_e, ap_const, ap_lconst, ap_ild, ap_lld, ap_ald, ap_ist, ap_lst, ap_ast, ap_iinc, ap_iadd, ap_isub, ap_imul, ap_iand, ap_ior, ap_ixor, ap_ishl, ap_ishr, ap_iushr, ap_idiv, ap_irem, ap_ineg, ap_ladd, ap_lsub, ap_lmul, ap_ldiv, ap_lrem, ap_lneg, ap_lcmp, ap_i2l, ap_l2i, ap_i2b, ap_i2s, ap_dup_int, ap_pop_int, ap_dup_ref, ap_pop_ref, ap_dup2, ap_goto, ap_tsw, ap_lsw, ap_getI, ap_getJ, ap_getR, ap_putI, ap_putZ, ap_putJ, ap_iald, ap_lald, ap_bald, ap_aald, ap_iast, ap_last, ap_bast, ap_alen, ap_gst, ap_iret, ap_zret, ap_lret, ap_vret, ap_aret, ap_lmax, ap_labs, ap_acopy, ap_invV0, ap_invS0, ap_invV1, ap_invS1, ap_invV2, ap_invS2, ap_invV3, ap_invS3, ap_invV4, ap_invS4, ap_invV5, ap_invS5, tcnT, ocT, lenIT, lenWT, lenLT, lenVT, lenZT, startfT, vpL, sa_1, sa_2, sL_1, sL_2, si_1, si_2, sj_1, sj_2, ldI_e, ldL_e, ldA_e, inC_e, lk, st1, st2, rm1, rm2, Value.category, ctn_some, ctn_none, wsum, lv_args, Int32.reduceAdd, Int32.reduceSub, Int32.reduceMul, Nat.reduceAdd, Nat.reduceLT, Nat.reduceLeDiff, Nat.reduceEqDiff, Nat.reduceBEq, ↓reduceIte, true_and, and_true, Bool.false_eq_true, true_implies, false_implies, not_true_eq_false, not_false_eq_true, Bool.or_true, Bool.or_false, Bool.true_or, Bool.false_or, bx_ceq, bx_clt, bx_cge, bx_cgt, bx_cle, bx_cne, bx_zeq, bx_zlt, bx_zge, bx_zgt, bx_zle, bx_zne, iteP, eq_false (show ¬ (1 : Int32) ≤ nI (dgt b (a + 2)) from nI_ge (b := 1) (by omega) (by decide))]
          exact hF1
      · have hF1 := hF 2 (by decide) (bad2 (fun z => q ⟨z.1, (isP_iff.mp z.2).1⟩))
        set_option maxRecDepth 100000 in simp (decide := true) only [c9_readsRecipe, run_s, nxt_e, ap_const, ap_lconst, ap_ild, ap_lld, ap_ald, ap_ist, ap_lst, ap_ast, ap_iinc, ap_iadd, ap_isub, ap_imul, ap_iand, ap_ior, ap_ixor, ap_ishl, ap_ishr, ap_iushr, ap_idiv, ap_irem, ap_ineg, ap_ladd, ap_lsub, ap_lmul, ap_ldiv, ap_lrem, ap_lneg, ap_lcmp, ap_i2l, ap_l2i, ap_i2b, ap_i2s, ap_dup_int, ap_pop_int, ap_dup_ref, ap_pop_ref, ap_dup2, ap_goto, ap_tsw, ap_lsw, ap_getI, ap_getJ, ap_getR, ap_putI, ap_putZ, ap_putJ, ap_iald, ap_lald, ap_bald, ap_aald, ap_iast, ap_last, ap_bast, ap_alen, ap_gst, ap_iret, ap_zret, ap_lret, ap_vret, ap_aret, ap_lmax, ap_labs, ap_acopy, ap_invV0, ap_invS0, ap_invV1, ap_invS1, ap_invV2, ap_invS2, ap_invV3, ap_invS3, ap_invV4, ap_invS4, ap_invV5, ap_invS5, tcnT, ocT, lenIT, lenWT, lenLT, lenVT, lenZT, startfT, vpL, sa_1, sa_2, sL_1, sL_2, si_1, si_2, sj_1, sj_2, ldI_e, ldL_e, ldA_e, inC_e, lk, st1, st2, rm1, rm2, Value.category, ctn_some, ctn_none, wsum, lv_args, Int32.reduceAdd, Int32.reduceSub, Int32.reduceMul, Nat.reduceAdd, Nat.reduceLT, Nat.reduceLeDiff, Nat.reduceEqDiff, Nat.reduceBEq, ↓reduceIte, true_and, and_true, Bool.false_eq_true, true_implies, false_implies, not_true_eq_false, not_false_eq_true, Bool.or_true, Bool.or_false, Bool.true_or, Bool.false_or, bx_ceq, bx_clt, bx_cge, bx_cgt, bx_cle, bx_cne, bx_zeq, bx_zlt, bx_zge, bx_zgt, bx_zle, bx_zne, iteP]
        exact hF1
