/-! ===== part 33: the recipes' text, whole ===== -/
noncomputable def rm (b : Nat → Int32) : Nat → Option (Nat × Nat)
  | 0 => some (0, 0)
  | i + 1 => match rm b i with
    | some q => stp (b i) q.1 q.2
    | none => none
noncomputable def fA (b a : Nat → Int32) : Nat → (Nat → Int32)
  | 0 => a
  | i + 1 => match rm b i with
    | some q => fA' (b i) q.1 q.2 (fA b a i)
    | none => fA b a i
noncomputable def sA (b a : Nat → Int32) : Nat → (Nat → Int32)
  | 0 => a
  | i + 1 => match rm b i with
    | some q => sA' (b i) q.1 q.2 (sA b a i)
    | none => sA b a i
noncomputable def pA (b a : Nat → Int32) : Nat → (Nat → Int32)
  | 0 => a
  | i + 1 => match rm b i with
    | some q => pA' (b i) q.1 q.2 (pA b a i)
    | none => pA b a i
noncomputable def ft1 (b : Nat → Int32) : Nat → Option Nat
  | 0 => none
  | i + 1 => match ft1 b i with
    | some j => some j
    | none => match rm b (i + 1) with
      | none => some i
      | some _ => none
noncomputable def fault1 (b : Nat → Int32) (L : Nat) : Option Nat := match ft1 b L with
  | some j => some j
  | none => match rm b L with
    | none => none
    | some q => if L = 0 ∨ q.1 = 3 then none else some L
noncomputable def num1 (b : Nat → Int32) (L : Nat) : Nat := match fault1 b L with
  | some _ => 0
  | none => match rm b L with
    | none => 0
    | some q => q.2
theorem ft1_some {b : Nat → Int32} {j : Nat} : ∀ {i : Nat}, ft1 b i = some j → ∀ d, ft1 b (i + d) = some j := by
  intro i h d
  induction d with
  | zero => exact h
  | succ d ih =>
    show ft1 b (i + d + 1) = some j
    simp only [ft1, ih]
theorem ft1_none {b : Nat → Int32} : ∀ {i : Nat}, ft1 b i = none → ∃ q, rm b i = some q := by
  intro i
  cases i with
  | zero => intro _; exact ⟨(0, 0), rfl⟩
  | succ i =>
    intro h
    simp only [ft1] at h
    cases hf : ft1 b i with
    | some j => rw [hf] at h; cases h
    | none =>
      rw [hf] at h
      simp only at h
      cases hr : rm b (i + 1) with
      | none => rw [hr] at h; cases h
      | some q => exact ⟨q, rfl⟩
theorem stp_lt {b : Int32} {s k : Nat} {q : Nat × Nat} (hk : k ≤ 6) (h : stp b s k = some q) : q.1 < 4 ∧ q.2 ≤ 6 ∧ k ≤ q.2 ∧ q.2 ≤ k + 1 ∧ (q.1 = 3 → q.2 = k + 1) ∧ (q.1 ≠ 3 → q.2 = k) ∧ ((q.1 = 1 ∨ q.1 = 2) → k < 6) := by
  unfold stp at h
  split at h
  · split at h
    · cases h; simp; omega
    · cases h
  · split at h
    · split at h
      · rename_i g; cases h; simp; omega
      · cases h
    · split at h
      · split at h
        · split at h
          · cases h; simp; omega
          · cases h
        · split at h
          · rename_i g; cases h; simp; omega
          · cases h
      · split at h
        · rename_i g; cases h; simp; omega
        · cases h
theorem rm_lt {b : Nat → Int32} : ∀ {i : Nat} {q : Nat × Nat}, rm b i = some q → q.1 < 4 ∧ q.2 ≤ 6 ∧ ((q.1 = 1 ∨ q.1 = 2) → q.2 < 6) := by
  intro i
  induction i with
  | zero => intro q h; cases h; exact ⟨by decide, by decide, by simp⟩
  | succ i ih =>
    intro q h
    simp only [rm] at h
    cases hr : rm b i with
    | none => rw [hr] at h; cases h
    | some p =>
      rw [hr] at h
      have hp := ih hr
      have := stp_lt hp.2.1 h
      refine ⟨this.1, this.2.1, fun z => ?_⟩
      have h1 := this.2.2.2.2.2.2 z
      have h2 := this.2.2.2.2.2.1 (by omega)
      omega
def okF (x : Int32) : Prop := ∃ k, k < 4 ∧ x = nI k
def okS (x : Int32) : Prop := x = -1 ∨ ∃ k, k < 4 ∧ x = nI k
def okP (x : Int32) : Prop := ∃ p, 1 ≤ p ∧ p ≤ 9 ∧ x = nI p
theorem isP_ok {b : Int32} (h : isP b) : okP (b - 48) := by
  unfold isP at h
  obtain ⟨d, h1, h2⟩ := nI_of2 (x := b - 49) (M := 8) (n := 8) rfl (by grind) (by grind)
  refine ⟨d + 1, by omega, by omega, ?_⟩
  have : b - 48 = b - 49 + 1 := by grind
  rw [this, h2, nI_1]
theorem kl_ok {b : Int32} (h : kl b ≠ -1) : okF (kl b) := by
  rcases kl_spec b with q | q
  · exact absurd q h
  · exact q
/-- what is read so far is in order -/
theorem run_ok {b a1 a2 a3 : Nat → Int32} : ∀ {i : Nat} {q : Nat × Nat}, rm b i = some q → (∀ j, j < q.2 → okF (fA b a1 i j) ∧ okS (sA b a2 i j) ∧ okP (pA b a3 i j)) ∧ ((q.1 = 1 ∨ q.1 = 2) → okF (fA b a1 i q.2) ∧ okS (sA b a2 i q.2)) := by
  intro i
  induction i with
  | zero => intro q h; cases h; exact ⟨fun j hj => by omega, fun z => by simp at z⟩
  | succ i ih =>
    intro q h
    simp only [rm] at h
    cases hr : rm b i with
    | none => rw [hr] at h; cases h
    | some p =>
      obtain ⟨s, k⟩ := p
      rw [hr] at h
      obtain ⟨g1, g2⟩ := ih hr
      simp only [fA, sA, pA, hr]
      simp only at h g1 g2
      unfold stp at h
      split at h
      · rename_i e3
        subst e3
        split at h
        · cases h
          refine ⟨fun j hj => ?_, fun z => by simp at z⟩
          exact g1 j hj
        · cases h
      · rename_i e3
        split at h
        · rename_i e0
          subst e0
          split at h
          · rename_i c
            cases h
            refine ⟨fun j hj => ?_, fun _ => ?_⟩
            · have hne : j ≠ k := by simp at hj; omega
              simp only [fA', sA', pA', if_true, upd, if_neg hne]
              exact g1 j hj
            · simp only [fA', sA', if_true, upd]
              exact ⟨kl_ok c.1, Or.inl rfl⟩
          · cases h
        · rename_i e0
          split at h
          · rename_i e1
            subst e1
            split at h
            · rename_i c
              split at h
              · cases h
                refine ⟨fun j hj => ?_, fun _ => ?_⟩
                · have hne : j ≠ k := by simp at hj; omega
                  have := g1 j hj
                  simp only [fA', sA', pA', upd]
                  simp [c, hne, upd]
                  exact this
                · have := g2 (Or.inl rfl)
                  simp only [fA', sA', upd]
                  simp [c, upd]
                  exact ⟨this.1, Or.inr (kl_ok c)⟩
              · cases h
            · rename_i c
              have c' : kl (b i) = -1 := Classical.not_not.mp c
              split at h
              · rename_i cp
                cases h
                refine ⟨fun j hj => ?_, fun z => by simp at z⟩
                have g2' := g2 (Or.inl rfl)
                simp only [fA', sA', pA', upd]
                simp [c']
                by_cases hne : j = k
                · subst hne
                  simp only [upd, if_true]
                  exact ⟨g2'.1, g2'.2, isP_ok cp.1⟩
                · simp only [upd, if_neg hne]
                  exact g1 j (by simp at hj; omega)
              · cases h
          · rename_i e1
            split at h
            · rename_i cp
              cases h
              have hs : s < 4 := (rm_lt hr).1
              have e2 : s = 2 := by omega
              subst e2
              refine ⟨fun j hj => ?_, fun z => by simp at z⟩
              have g2' := g2 (Or.inr rfl)
              simp only [fA', sA', pA', upd]
              simp
              by_cases hne : j = k
              · subst hne
                simp only [upd, if_true]
                exact ⟨g2'.1, g2'.2, isP_ok cp.1⟩
              · simp only [upd, if_neg hne]
                exact g1 j (by simp at hj; omega)
            · cases h
/-! the loop -/
def KI (σ σ1 : St) (i : Nat) : Prop := sm [7, 8, 9, 10] σ σ1 ∧ ∃ q, rm (σ.1 4) i = some q ∧ KN σ1 q.1 q.2 ∧ σ1.1 8 = fA (σ.1 4) (σ.1 8) i ∧ σ1.1 9 = sA (σ.1 4) (σ.1 9) i ∧ σ1.1 10 = pA (σ.1 4) (σ.1 10) i
theorem BB0 {rf rs rp : Nat → Nat} {c : Nat} : BB rf rs rp 0 c = 0 := by
  unfold BB
  cases sz c <;> rfl
theorem L2_fin {σ σ1 : St} {K : Kr} {L r r0 : Nat} {v : Option Nat} (hp : PT σ) (hr0 : σ.1 7 3 = nI r0 ∧ r0 ≤ 6) (hbk : BK σ r0) (hs : sm [7, 8, 9, 10] σ σ1) (hf : σ1.1 7 4 = oI v) (hn : v = none → σ1.1 7 3 = nI r) (hk : KV (si σ1 7 3 (nI (if v = none then r else 0))) (if v = none then r else 0)) (hv : ∀ j, v = some j → j < 64) (hr6 : r ≤ 6)
    (h : ∀ σ', sm [7, 8, 9, 10, 11] σ σ' → σ'.1 7 4 = oI v → KV σ' (if v = none then r else 0) → BK σ' (if v = none then r else 0) → σ'.1 8 = σ1.1 8 → σ'.1 9 = σ1.1 9 → σ'.1 10 = σ1.1 10 → K none σ') :
    VW M2_parse Xt K 105 [(2, .int (bI (0 < r0))), (0, .ref 7), (1, .ref 2)] [] σ1 := by
  have hfin : ∀ x, x ≤ 6 → KV (si σ1 7 3 (nI x)) x → ((∀ σ', sm [7, 8, 9, 10, 11] σ σ' → σ'.1 7 4 = oI v → KV σ' x → BK σ' x → σ'.1 8 = σ1.1 8 → σ'.1 9 = σ1.1 9 → σ'.1 10 = σ1.1 10 → K none σ')) → (0 < r0 ∨ 0 < x → ∀ K' : Kr, (∀ t, K none t → K' none t) → VM M2_fillMost [.ref 7] (si σ1 7 3 (nI x)) K') ∧ (¬ 0 < r0 ∧ ¬ 0 < x → K none (si σ1 7 3 (nI x))) := by
    intro x hx hkx hh
    have hsx : sm [7, 8, 9, 10, 11] σ (si σ1 7 3 (nI x)) := (hs.mono (by simp)).si (by decide)
    constructor
    · intro _ K' hKK
      refine v2_fillMost hkx (hp.sm hsx (by decide) (by decide)) (fun σ' hs' hb => hKK _ ?_)
      refine hh σ' (hsx.trans (hs'.mono (by simp))) ?_ (hkx.sm hs' (by decide) (by decide) (by decide) (by decide)) ?_ ?_ ?_ ?_
      · rw [(hs' 7 (by decide)).1]; exact hf
      · intro c hc h6
        rw [hb c hc h6]
        unfold BS
        rw [rfn_sm hs' (by decide), rsn_sm hs' (by decide), rpn_sm hs' (by decide)]
      · rw [(hs' 8 (by decide)).1]; rfl
      · rw [(hs' 9 (by decide)).1]; rfl
      · rw [(hs' 10 (by decide)).1]; rfl
    · intro ⟨q1, q2⟩
      have e1 : r0 = 0 := by omega
      have e2 : x = 0 := by omega
      subst e1
      subst e2
      refine hh _ hsx hf hkx ?_ rfl rfl rfl
      intro c hc h6
      have := hbk c hc h6
      unfold BS at this ⊢
      rw [BB0] at this ⊢
      show σ1.1 11 (pl c) = nI 0
      rw [(hs 11 (by decide)).1]
      exact this
  have h0 : (bI (0 < r0) = 0) ↔ ¬ 0 < r0 := bI_0
  cases v with
  | none =>
    simp only [if_true] at hk h
    obtain ⟨f1, f2⟩ := hfin r hr6 hk h
    have hf' : σ1.1 7 4 = -1 := hf
    have hle : (nI r ≤ 0) ↔ ¬ 0 < r := by
      rw [show (0 : Int32) = nI 0 from rfl, nI_leI (by omega) (by decide)]
      omega
    refine run_sound s2_parse (fun pc => pc == 30) _ 1000 _ _ _ _ ?_
    set_option maxRecDepth 100000 in simp (decide := true) only [c2_parse, run_s, nxt_e, ap_const, ap_lconst, ap_ild, ap_lld, ap_ald, ap_ist, ap_lst, ap_ast, ap_iinc, ap_iadd, ap_isub, ap_imul, ap_iand, ap_ior, ap_ixor, ap_ishl, ap_ishr, ap_iushr, ap_idiv, ap_irem, ap_ineg, ap_ladd, ap_lsub, ap_lmul, ap_ldiv, ap_lrem, ap_lneg, ap_lcmp, ap_i2l, ap_l2i, ap_i2b, ap_i2s, ap_dup_int, ap_pop_int, ap_dup_ref, ap_pop_ref, ap_dup2, ap_goto, ap_tsw, ap_lsw, ap_getI, ap_getJ, ap_getR, ap_putI, ap_putZ, ap_putJ, ap_iald, ap_lald, ap_bald, ap_aald, ap_iast, ap_last, ap_bast, ap_alen, ap_gst, ap_iret, ap_zret, ap_lret, ap_vret, ap_aret, ap_lmax, ap_labs, ap_acopy, ap_invV0, ap_invS0, ap_invV1, ap_invS1, ap_invV2, ap_invS2, ap_invV3, ap_invS3, ap_invV4, ap_invS4, ap_invV5, ap_invS5, tcnT, ocT, lenIT, lenWT, lenLT, lenVT, lenZT, startfT, vpL, sa_1, sa_2, sL_1, sL_2, si_1, si_2, sj_1, sj_2, ldI_e, ldL_e, ldA_e, inC_e, lk, st1, st2, rm1, rm2, Value.category, ctn_some, ctn_none, wsum, lv_args, Int32.reduceAdd, Int32.reduceSub, Int32.reduceMul, Nat.reduceAdd, Nat.reduceLT, Nat.reduceLeDiff, Nat.reduceEqDiff, Nat.reduceBEq, ↓reduceIte, true_and, and_true, Bool.false_eq_true, true_implies, false_implies, not_true_eq_false, not_false_eq_true, Bool.or_true, Bool.or_false, Bool.true_or, Bool.false_or, bx_ceq, bx_clt, bx_cge, bx_cgt, bx_cle, bx_cne, bx_zeq, bx_zlt, bx_zge, bx_zgt, bx_zle, bx_zne, iteP, hf', hn rfl, h0, hle, upd]
    refine ⟨fun q => ⟨fun q2 => f2 ⟨q, q2⟩, fun q2 => f1 (Or.inr (by omega)) _ (fun t ht => ?_)⟩, fun q => f1 (Or.inl (by omega)) _ (fun t ht => ?_)⟩
    · set_option maxRecDepth 100000 in simp (decide := true) only [c2_parse, run_s, nxt_e, ap_const, ap_lconst, ap_ild, ap_lld, ap_ald, ap_ist, ap_lst, ap_ast, ap_iinc, ap_iadd, ap_isub, ap_imul, ap_iand, ap_ior, ap_ixor, ap_ishl, ap_ishr, ap_iushr, ap_idiv, ap_irem, ap_ineg, ap_ladd, ap_lsub, ap_lmul, ap_ldiv, ap_lrem, ap_lneg, ap_lcmp, ap_i2l, ap_l2i, ap_i2b, ap_i2s, ap_dup_int, ap_pop_int, ap_dup_ref, ap_pop_ref, ap_dup2, ap_goto, ap_tsw, ap_lsw, ap_getI, ap_getJ, ap_getR, ap_putI, ap_putZ, ap_putJ, ap_iald, ap_lald, ap_bald, ap_aald, ap_iast, ap_last, ap_bast, ap_alen, ap_gst, ap_iret, ap_zret, ap_lret, ap_vret, ap_aret, ap_lmax, ap_labs, ap_acopy, ap_invV0, ap_invS0, ap_invV1, ap_invS1, ap_invV2, ap_invS2, ap_invV3, ap_invS3, ap_invV4, ap_invS4, ap_invV5, ap_invS5, tcnT, ocT, lenIT, lenWT, lenLT, lenVT, lenZT, startfT, vpL, sa_1, sa_2, sL_1, sL_2, si_1, si_2, sj_1, sj_2, ldI_e, ldL_e, ldA_e, inC_e, lk, st1, st2, rm1, rm2, Value.category, ctn_some, ctn_none, wsum, lv_args, Int32.reduceAdd, Int32.reduceSub, Int32.reduceMul, Nat.reduceAdd, Nat.reduceLT, Nat.reduceLeDiff, Nat.reduceEqDiff, Nat.reduceBEq, ↓reduceIte, true_and, and_true, Bool.false_eq_true, true_implies, false_implies, not_true_eq_false, not_false_eq_true, Bool.or_true, Bool.or_false, Bool.true_or, Bool.false_or, bx_ceq, bx_clt, bx_cge, bx_cgt, bx_cle, bx_cne, bx_zeq, bx_zlt, bx_zge, bx_zgt, bx_zle, bx_zne, iteP]
      exact ht
    · set_option maxRecDepth 100000 in simp (decide := true) only [c2_parse, run_s, nxt_e, ap_const, ap_lconst, ap_ild, ap_lld, ap_ald, ap_ist, ap_lst, ap_ast, ap_iinc, ap_iadd, ap_isub, ap_imul, ap_iand, ap_ior, ap_ixor, ap_ishl, ap_ishr, ap_iushr, ap_idiv, ap_irem, ap_ineg, ap_ladd, ap_lsub, ap_lmul, ap_ldiv, ap_lrem, ap_lneg, ap_lcmp, ap_i2l, ap_l2i, ap_i2b, ap_i2s, ap_dup_int, ap_pop_int, ap_dup_ref, ap_pop_ref, ap_dup2, ap_goto, ap_tsw, ap_lsw, ap_getI, ap_getJ, ap_getR, ap_putI, ap_putZ, ap_putJ, ap_iald, ap_lald, ap_bald, ap_aald, ap_iast, ap_last, ap_bast, ap_alen, ap_gst, ap_iret, ap_zret, ap_lret, ap_vret, ap_aret, ap_lmax, ap_labs, ap_acopy, ap_invV0, ap_invS0, ap_invV1, ap_invS1, ap_invV2, ap_invS2, ap_invV3, ap_invS3, ap_invV4, ap_invS4, ap_invV5, ap_invS5, tcnT, ocT, lenIT, lenWT, lenLT, lenVT, lenZT, startfT, vpL, sa_1, sa_2, sL_1, sL_2, si_1, si_2, sj_1, sj_2, ldI_e, ldL_e, ldA_e, inC_e, lk, st1, st2, rm1, rm2, Value.category, ctn_some, ctn_none, wsum, lv_args, Int32.reduceAdd, Int32.reduceSub, Int32.reduceMul, Nat.reduceAdd, Nat.reduceLT, Nat.reduceLeDiff, Nat.reduceEqDiff, Nat.reduceBEq, ↓reduceIte, true_and, and_true, Bool.false_eq_true, true_implies, false_implies, not_true_eq_false, not_false_eq_true, Bool.or_true, Bool.or_false, Bool.true_or, Bool.false_or, bx_ceq, bx_clt, bx_cge, bx_cgt, bx_cle, bx_cne, bx_zeq, bx_zlt, bx_zge, bx_zgt, bx_zle, bx_zne, iteP]
      exact ht
  | some j =>
    have hj := hv j rfl
    have e : (if (some j : Option Nat) = none then r else 0) = 0 := if_neg (by simp)
    rw [e] at hk
    simp only [e] at h
    obtain ⟨f1, f2⟩ := hfin 0 (by decide) hk h
    have hf' : σ1.1 7 4 = nI j := hf
    refine run_sound s2_parse (fun pc => pc == 30) _ 1000 _ _ _ _ ?_
    set_option maxRecDepth 100000 in simp (decide := true) only [c2_parse, run_s, nxt_e, ap_const, ap_lconst, ap_ild, ap_lld, ap_ald, ap_ist, ap_lst, ap_ast, ap_iinc, ap_iadd, ap_isub, ap_imul, ap_iand, ap_ior, ap_ixor, ap_ishl, ap_ishr, ap_iushr, ap_idiv, ap_irem, ap_ineg, ap_ladd, ap_lsub, ap_lmul, ap_ldiv, ap_lrem, ap_lneg, ap_lcmp, ap_i2l, ap_l2i, ap_i2b, ap_i2s, ap_dup_int, ap_pop_int, ap_dup_ref, ap_pop_ref, ap_dup2, ap_goto, ap_tsw, ap_lsw, ap_getI, ap_getJ, ap_getR, ap_putI, ap_putZ, ap_putJ, ap_iald, ap_lald, ap_bald, ap_aald, ap_iast, ap_last, ap_bast, ap_alen, ap_gst, ap_iret, ap_zret, ap_lret, ap_vret, ap_aret, ap_lmax, ap_labs, ap_acopy, ap_invV0, ap_invS0, ap_invV1, ap_invS1, ap_invV2, ap_invS2, ap_invV3, ap_invS3, ap_invV4, ap_invS4, ap_invV5, ap_invS5, tcnT, ocT, lenIT, lenWT, lenLT, lenVT, lenZT, startfT, vpL, sa_1, sa_2, sL_1, sL_2, si_1, si_2, sj_1, sj_2, ldI_e, ldL_e, ldA_e, inC_e, lk, st1, st2, rm1, rm2, Value.category, ctn_some, ctn_none, wsum, lv_args, Int32.reduceAdd, Int32.reduceSub, Int32.reduceMul, Nat.reduceAdd, Nat.reduceLT, Nat.reduceLeDiff, Nat.reduceEqDiff, Nat.reduceBEq, ↓reduceIte, true_and, and_true, Bool.false_eq_true, true_implies, false_implies, not_true_eq_false, not_false_eq_true, Bool.or_true, Bool.or_false, Bool.true_or, Bool.false_or, bx_ceq, bx_clt, bx_cge, bx_cgt, bx_cle, bx_cne, bx_zeq, bx_zlt, bx_zge, bx_zgt, bx_zle, bx_zne, iteP, hf', nIm1 j hj, h0, upd]
    refine ⟨fun q => f2 ⟨q, by omega⟩, fun q => f1 (Or.inl (by omega)) _ (fun t ht => ?_)⟩
    set_option maxRecDepth 100000 in simp (decide := true) only [c2_parse, run_s, nxt_e, ap_const, ap_lconst, ap_ild, ap_lld, ap_ald, ap_ist, ap_lst, ap_ast, ap_iinc, ap_iadd, ap_isub, ap_imul, ap_iand, ap_ior, ap_ixor, ap_ishl, ap_ishr, ap_iushr, ap_idiv, ap_irem, ap_ineg, ap_ladd, ap_lsub, ap_lmul, ap_ldiv, ap_lrem, ap_lneg, ap_lcmp, ap_i2l, ap_l2i, ap_i2b, ap_i2s, ap_dup_int, ap_pop_int, ap_dup_ref, ap_pop_ref, ap_dup2, ap_goto, ap_tsw, ap_lsw, ap_getI, ap_getJ, ap_getR, ap_putI, ap_putZ, ap_putJ, ap_iald, ap_lald, ap_bald, ap_aald, ap_iast, ap_last, ap_bast, ap_alen, ap_gst, ap_iret, ap_zret, ap_lret, ap_vret, ap_aret, ap_lmax, ap_labs, ap_acopy, ap_invV0, ap_invS0, ap_invV1, ap_invS1, ap_invV2, ap_invS2, ap_invV3, ap_invS3, ap_invV4, ap_invS4, ap_invV5, ap_invS5, tcnT, ocT, lenIT, lenWT, lenLT, lenVT, lenZT, startfT, vpL, sa_1, sa_2, sL_1, sL_2, si_1, si_2, sj_1, sj_2, ldI_e, ldL_e, ldA_e, inC_e, lk, st1, st2, rm1, rm2, Value.category, ctn_some, ctn_none, wsum, lv_args, Int32.reduceAdd, Int32.reduceSub, Int32.reduceMul, Nat.reduceAdd, Nat.reduceLT, Nat.reduceLeDiff, Nat.reduceEqDiff, Nat.reduceBEq, ↓reduceIte, true_and, and_true, Bool.false_eq_true, true_implies, false_implies, not_true_eq_false, not_false_eq_true, Bool.or_true, Bool.or_false, Bool.true_or, Bool.false_or, bx_ceq, bx_clt, bx_cge, bx_cgt, bx_cle, bx_cne, bx_zeq, bx_zlt, bx_zge, bx_zgt, bx_zle, bx_zne, iteP]
    exact ht
theorem KV_of {σ1 : St} {b a1 a2 a3 : Nat → Int32} {i s k : Nat} (h : rm b i = some (s, k)) (h8 : σ1.1 8 = fA b a1 i) (h9 : σ1.1 9 = sA b a2 i) (h10 : σ1.1 10 = pA b a3 i) : KV (si σ1 7 3 (nI k)) k := by
  have hl := rm_lt h
  have hr := (run_ok (a1 := a1) (a2 := a2) (a3 := a3) h).1
  refine ⟨hl.2.1, rfl, fun j hj => ?_⟩
  obtain ⟨g1, g2, g3⟩ := hr j hj
  show (∃ k, k < 4 ∧ σ1.1 8 j = nI k) ∧ (σ1.1 9 j = -1 ∨ ∃ k, k < 4 ∧ σ1.1 9 j = nI k) ∧ ∃ p, 1 ≤ p ∧ p ≤ 9 ∧ σ1.1 10 j = nI p
  rw [h8, h9, h10]
  exact ⟨g1, g2, g3⟩
theorem KV_0 {σ1 : St} : KV (si σ1 7 3 (nI 0)) 0 := ⟨by decide, rfl, fun j hj => by omega⟩
theorem L2_parse {σ : St} {K : Kr} {L r0 : Nat} (hp : PT σ) (hr0 : σ.1 7 3 = nI r0 ∧ r0 ≤ 6) (hbk : BK σ r0) (hL : L ≤ 29) (hlen : σ.1 2 1 = nI L)
    (h : ∀ σ', sm [7, 8, 9, 10, 11] σ σ' → σ'.1 7 4 = oI (fault1 (σ.1 4) L) → KV σ' (num1 (σ.1 4) L) → BK σ' (num1 (σ.1 4) L) → (fault1 (σ.1 4) L = none → σ'.1 8 = fA (σ.1 4) (σ.1 8) L ∧ σ'.1 9 = sA (σ.1 4) (σ.1 9) L ∧ σ'.1 10 = pA (σ.1 4) (σ.1 10) L) → K none σ') :
    ∀ (d i : Nat), i + d = L → ∀ σ1, KI σ σ1 i → σ1.1 7 4 = -1 → ft1 (σ.1 4) i = none → VW M2_parse Xt K 30 [(3, .int (nI i)), (2, .int (bI (0 < r0))), (0, .ref 7), (1, .ref 2)] [] σ1 := by
  intro d
  induction d with
  | zero =>
    intro i hi σ1 hI hf hft
    have : i = L := by omega
    subst this
    obtain ⟨hs, ⟨s, k⟩, hq, hn, h8, h9, h10⟩ := hI
    have hl1 : σ1.1 2 1 = nI i := by rw [(hs 2 (by decide)).1]; exact hlen
    have hlt := rm_lt hq
    by_cases h0 : i = 0 ∨ s = 3
    · have ef : fault1 (σ.1 4) i = none := by unfold fault1; rw [hft, hq]; exact if_pos h0
      have en : num1 (σ.1 4) i = k := by unfold num1; rw [ef, hq]
      rw [ef, en] at h
      have hfin := L2_fin (L := i) (v := none) (r := k) hp hr0 hbk hs hf (fun _ => hn.2.2.1) (by simp only [if_true]; exact KV_of hq h8 h9 h10) (fun j hj => by cases hj) hlt.2.1 (fun σ' g1 g2 g3 g4 g5 g6 g7 => h σ' g1 g2 (by simpa using g3) (by simpa using g4) (fun _ => ⟨g5.trans h8, g6.trans h9, g7.trans h10⟩))
      refine run_sound s2_parse (fun pc => pc == 30 || pc == 105) _ 1000 _ _ _ _ ?_
      rcases h0 with h0 | h0
      · subst h0
        set_option maxRecDepth 100000 in simp (decide := true) only [c2_parse, run_s, nxt_e, ap_const, ap_lconst, ap_ild, ap_lld, ap_ald, ap_ist, ap_lst, ap_ast, ap_iinc, ap_iadd, ap_isub, ap_imul, ap_iand, ap_ior, ap_ixor, ap_ishl, ap_ishr, ap_iushr, ap_idiv, ap_irem, ap_ineg, ap_ladd, ap_lsub, ap_lmul, ap_ldiv, ap_lrem, ap_lneg, ap_lcmp, ap_i2l, ap_l2i, ap_i2b, ap_i2s, ap_dup_int, ap_pop_int, ap_dup_ref, ap_pop_ref, ap_dup2, ap_goto, ap_tsw, ap_lsw, ap_getI, ap_getJ, ap_getR, ap_putI, ap_putZ, ap_putJ, ap_iald, ap_lald, ap_bald, ap_aald, ap_iast, ap_last, ap_bast, ap_alen, ap_gst, ap_iret, ap_zret, ap_lret, ap_vret, ap_aret, ap_lmax, ap_labs, ap_acopy, ap_invV0, ap_invS0, ap_invV1, ap_invS1, ap_invV2, ap_invS2, ap_invV3, ap_invS3, ap_invV4, ap_invS4, ap_invV5, ap_invS5, tcnT, ocT, lenIT, lenWT, lenLT, lenVT, lenZT, startfT, vpL, sa_1, sa_2, sL_1, sL_2, si_1, si_2, sj_1, sj_2, ldI_e, ldL_e, ldA_e, inC_e, lk, st1, st2, rm1, rm2, Value.category, ctn_some, ctn_none, wsum, lv_args, Int32.reduceAdd, Int32.reduceSub, Int32.reduceMul, Nat.reduceAdd, Nat.reduceLT, Nat.reduceLeDiff, Nat.reduceEqDiff, Nat.reduceBEq, ↓reduceIte, true_and, and_true, Bool.false_eq_true, true_implies, false_implies, not_true_eq_false, not_false_eq_true, Bool.or_true, Bool.or_false, Bool.true_or, Bool.false_or, bx_ceq, bx_clt, bx_cge, bx_cgt, bx_cle, bx_cne, bx_zeq, bx_zlt, bx_zge, bx_zgt, bx_zle, bx_zne, iteP, hl1, hf, eq_true (nI_le (Nat.le_refl 0) (by omega)), eq_true (show nI 0 ≤ 0 by decide)]
        exact hfin.sub [1, 2, 3] rfl
      · have h7 : σ1.1 7 7 = 3 := by rw [hn.2.2.2, h0]; rfl
        set_option maxRecDepth 100000 in simp (decide := true) only [c2_parse, run_s, nxt_e, ap_const, ap_lconst, ap_ild, ap_lld, ap_ald, ap_ist, ap_lst, ap_ast, ap_iinc, ap_iadd, ap_isub, ap_imul, ap_iand, ap_ior, ap_ixor, ap_ishl, ap_ishr, ap_iushr, ap_idiv, ap_irem, ap_ineg, ap_ladd, ap_lsub, ap_lmul, ap_ldiv, ap_lrem, ap_lneg, ap_lcmp, ap_i2l, ap_l2i, ap_i2b, ap_i2s, ap_dup_int, ap_pop_int, ap_dup_ref, ap_pop_ref, ap_dup2, ap_goto, ap_tsw, ap_lsw, ap_getI, ap_getJ, ap_getR, ap_putI, ap_putZ, ap_putJ, ap_iald, ap_lald, ap_bald, ap_aald, ap_iast, ap_last, ap_bast, ap_alen, ap_gst, ap_iret, ap_zret, ap_lret, ap_vret, ap_aret, ap_lmax, ap_labs, ap_acopy, ap_invV0, ap_invS0, ap_invV1, ap_invS1, ap_invV2, ap_invS2, ap_invV3, ap_invS3, ap_invV4, ap_invS4, ap_invV5, ap_invS5, tcnT, ocT, lenIT, lenWT, lenLT, lenVT, lenZT, startfT, vpL, sa_1, sa_2, sL_1, sL_2, si_1, si_2, sj_1, sj_2, ldI_e, ldL_e, ldA_e, inC_e, lk, st1, st2, rm1, rm2, Value.category, ctn_some, ctn_none, wsum, lv_args, Int32.reduceAdd, Int32.reduceSub, Int32.reduceMul, Nat.reduceAdd, Nat.reduceLT, Nat.reduceLeDiff, Nat.reduceEqDiff, Nat.reduceBEq, ↓reduceIte, true_and, and_true, Bool.false_eq_true, true_implies, false_implies, not_true_eq_false, not_false_eq_true, Bool.or_true, Bool.or_false, Bool.true_or, Bool.false_or, bx_ceq, bx_clt, bx_cge, bx_cgt, bx_cle, bx_cne, bx_zeq, bx_zlt, bx_zge, bx_zgt, bx_zle, bx_zne, iteP, hl1, hf, eq_true (nI_le (Nat.le_refl i) (by omega)), h7]
        exact ⟨fun _ => hfin.sub [1, 2, 3] rfl, fun _ => hfin.sub [1, 2, 3] rfl⟩
    · have ef : fault1 (σ.1 4) i = some i := by unfold fault1; rw [hft, hq]; exact if_neg h0
      have en : num1 (σ.1 4) i = 0 := by unfold num1; rw [ef]
      rw [ef, en] at h
      have hfin := L2_fin (L := i) (σ1 := si σ1 7 4 (nI i)) (v := some i) (r := k) hp hr0 hbk (hs.si (by decide)) rfl (fun z => by cases z) (by rw [if_neg (by simp)]; exact KV_0) (fun j hj => by cases hj; omega) hlt.2.1 (fun σ' g1 g2 g3 g4 _ _ _ => h σ' g1 g2 (by simpa using g3) (by simpa using g4) (fun z => by cases z))
      have h7 : ¬ σ1.1 7 7 = 3 := by
        rw [hn.2.2.2]
        exact fun z => h0 (Or.inr ((nI_eq (show s < 2 ^ 31 by have := hlt.1; simp at this; omega) (show 3 < 2 ^ 31 by decide)).mp z))
      refine run_sound s2_parse (fun pc => pc == 30 || pc == 105) _ 1000 _ _ _ _ ?_
      set_option maxRecDepth 100000 in simp (decide := true) only [c2_parse, run_s, nxt_e, ap_const, ap_lconst, ap_ild, ap_lld, ap_ald, ap_ist, ap_lst, ap_ast, ap_iinc, ap_iadd, ap_isub, ap_imul, ap_iand, ap_ior, ap_ixor, ap_ishl, ap_ishr, ap_iushr, ap_idiv, ap_irem, ap_ineg, ap_ladd, ap_lsub, ap_lmul, ap_ldiv, ap_lrem, ap_lneg, ap_lcmp, ap_i2l, ap_l2i, ap_i2b, ap_i2s, ap_dup_int, ap_pop_int, ap_dup_ref, ap_pop_ref, ap_dup2, ap_goto, ap_tsw, ap_lsw, ap_getI, ap_getJ, ap_getR, ap_putI, ap_putZ, ap_putJ, ap_iald, ap_lald, ap_bald, ap_aald, ap_iast, ap_last, ap_bast, ap_alen, ap_gst, ap_iret, ap_zret, ap_lret, ap_vret, ap_aret, ap_lmax, ap_labs, ap_acopy, ap_invV0, ap_invS0, ap_invV1, ap_invS1, ap_invV2, ap_invS2, ap_invV3, ap_invS3, ap_invV4, ap_invS4, ap_invV5, ap_invS5, tcnT, ocT, lenIT, lenWT, lenLT, lenVT, lenZT, startfT, vpL, sa_1, sa_2, sL_1, sL_2, si_1, si_2, sj_1, sj_2, ldI_e, ldL_e, ldA_e, inC_e, lk, st1, st2, rm1, rm2, Value.category, ctn_some, ctn_none, wsum, lv_args, Int32.reduceAdd, Int32.reduceSub, Int32.reduceMul, Nat.reduceAdd, Nat.reduceLT, Nat.reduceLeDiff, Nat.reduceEqDiff, Nat.reduceBEq, ↓reduceIte, true_and, and_true, Bool.false_eq_true, true_implies, false_implies, not_true_eq_false, not_false_eq_true, Bool.or_true, Bool.or_false, Bool.true_or, Bool.false_or, bx_ceq, bx_clt, bx_cge, bx_cgt, bx_cle, bx_cne, bx_zeq, bx_zlt, bx_zge, bx_zgt, bx_zle, bx_zne, iteP, hl1, hf, eq_true (nI_le (Nat.le_refl i) (by omega)), h7, eq_false (nI_nle (show 0 < i by omega) (by omega))]
      exact hfin.sub [1, 2, 3] rfl
  | succ d ih =>
    intro i hi σ1 hI hf hft
    obtain ⟨hs, ⟨s, k⟩, hq, hn, h8, h9, h10⟩ := id hI
    have hl1 : σ1.1 2 1 = nI L := by rw [(hs 2 (by decide)).1]; exact hlen
    have h4 : σ1.1 4 = σ.1 4 := (hs 4 (by decide)).1
    have hlt := rm_lt hq
    refine run_sound s2_parse (fun pc => pc == 30 || pc == 105) _ 1000 _ _ _ _ ?_
    set_option maxRecDepth 100000 in simp (decide := true) only [c2_parse, run_s, nxt_e, ap_const, ap_lconst, ap_ild, ap_lld, ap_ald, ap_ist, ap_lst, ap_ast, ap_iinc, ap_iadd, ap_isub, ap_imul, ap_iand, ap_ior, ap_ixor, ap_ishl, ap_ishr, ap_iushr, ap_idiv, ap_irem, ap_ineg, ap_ladd, ap_lsub, ap_lmul, ap_ldiv, ap_lrem, ap_lneg, ap_lcmp, ap_i2l, ap_l2i, ap_i2b, ap_i2s, ap_dup_int, ap_pop_int, ap_dup_ref, ap_pop_ref, ap_dup2, ap_goto, ap_tsw, ap_lsw, ap_getI, ap_getJ, ap_getR, ap_putI, ap_putZ, ap_putJ, ap_iald, ap_lald, ap_bald, ap_aald, ap_iast, ap_last, ap_bast, ap_alen, ap_gst, ap_iret, ap_zret, ap_lret, ap_vret, ap_aret, ap_lmax, ap_labs, ap_acopy, ap_invV0, ap_invS0, ap_invV1, ap_invS1, ap_invV2, ap_invS2, ap_invV3, ap_invS3, ap_invV4, ap_invS4, ap_invV5, ap_invS5, tcnT, ocT, lenIT, lenWT, lenLT, lenVT, lenZT, startfT, vpL, sa_1, sa_2, sL_1, sL_2, si_1, si_2, sj_1, sj_2, ldI_e, ldL_e, ldA_e, inC_e, lk, st1, st2, rm1, rm2, Value.category, ctn_some, ctn_none, wsum, lv_args, Int32.reduceAdd, Int32.reduceSub, Int32.reduceMul, Nat.reduceAdd, Nat.reduceLT, Nat.reduceLeDiff, Nat.reduceEqDiff, Nat.reduceBEq, ↓reduceIte, true_and, and_true, Bool.false_eq_true, true_implies, false_implies, not_true_eq_false, not_false_eq_true, Bool.or_true, Bool.or_false, Bool.true_or, Bool.false_or, bx_ceq, bx_clt, bx_cge, bx_cgt, bx_cle, bx_cne, bx_zeq, bx_zlt, bx_zge, bx_zgt, bx_zle, bx_zne, iteP, hl1, hf, eq_false (nI_ge (show i < L by omega) (by omega)), vin (show i < 29 by omega) (by decide), nIc (show i < 2 ^ 31 by omega), h4]
    have er : rm (σ.1 4) (i + 1) = stp (σ.1 4 i) s k := by simp only [rm, hq]
    refine v2_goesOn hn (fun g σ2 a1 a2 => ?_) (fun s' k' g σ2 a1 a2 a3 a4 a5 a6 => ?_)
    · set_option maxRecDepth 100000 in simp (decide := true) only [c2_parse, run_s, nxt_e, ap_const, ap_lconst, ap_ild, ap_lld, ap_ald, ap_ist, ap_lst, ap_ast, ap_iinc, ap_iadd, ap_isub, ap_imul, ap_iand, ap_ior, ap_ixor, ap_ishl, ap_ishr, ap_iushr, ap_idiv, ap_irem, ap_ineg, ap_ladd, ap_lsub, ap_lmul, ap_ldiv, ap_lrem, ap_lneg, ap_lcmp, ap_i2l, ap_l2i, ap_i2b, ap_i2s, ap_dup_int, ap_pop_int, ap_dup_ref, ap_pop_ref, ap_dup2, ap_goto, ap_tsw, ap_lsw, ap_getI, ap_getJ, ap_getR, ap_putI, ap_putZ, ap_putJ, ap_iald, ap_lald, ap_bald, ap_aald, ap_iast, ap_last, ap_bast, ap_alen, ap_gst, ap_iret, ap_zret, ap_lret, ap_vret, ap_aret, ap_lmax, ap_labs, ap_acopy, ap_invV0, ap_invS0, ap_invV1, ap_invS1, ap_invV2, ap_invS2, ap_invV3, ap_invS3, ap_invV4, ap_invS4, ap_invV5, ap_invS5, tcnT, ocT, lenIT, lenWT, lenLT, lenVT, lenZT, startfT, vpL, sa_1, sa_2, sL_1, sL_2, si_1, si_2, sj_1, sj_2, ldI_e, ldL_e, ldA_e, inC_e, lk, st1, st2, rm1, rm2, Value.category, ctn_some, ctn_none, wsum, lv_args, Int32.reduceAdd, Int32.reduceSub, Int32.reduceMul, Nat.reduceAdd, Nat.reduceLT, Nat.reduceLeDiff, Nat.reduceEqDiff, Nat.reduceBEq, ↓reduceIte, true_and, and_true, Bool.false_eq_true, true_implies, false_implies, not_true_eq_false, not_false_eq_true, Bool.or_true, Bool.or_false, Bool.true_or, Bool.false_or, bx_ceq, bx_clt, bx_cge, bx_cgt, bx_cle, bx_cne, bx_zeq, bx_zlt, bx_zge, bx_zgt, bx_zle, bx_zne, iteP, nI_1]
      have hs2 : sm [7, 8, 9, 10] σ (si σ2 7 4 (nI i)) := (hs.trans a1).si (by decide)
      have hl2 : σ2.1 2 1 = nI L := by rw [(a1 2 (by decide)).1]; exact hl1
      have ef1 : ft1 (σ.1 4) (i + 1) = some i := by simp only [ft1, hft]; rw [er, g]
      have efL : ft1 (σ.1 4) L = some i := by have := ft1_some ef1 d; rw [show i + 1 + d = L by omega] at this; exact this
      have ef : fault1 (σ.1 4) L = some i := by unfold fault1; rw [efL]
      have en : num1 (σ.1 4) L = 0 := by unfold num1; rw [ef]
      rw [ef, en] at h
      have hfin := L2_fin (L := L) (σ1 := si σ2 7 4 (nI i)) (v := some i) (r := 0) hp hr0 hbk hs2 rfl (fun z => by cases z) (by rw [if_neg (by simp)]; exact KV_0) (fun j hj => by cases hj; omega) (by decide) (fun σ' g1 g2 g3 g4 _ _ _ => h σ' g1 g2 (by simpa using g3) (by simpa using g4) (fun z => by cases z))
      have hl3 : (si σ2 7 4 (nI i)).1 2 1 = nI L := hl2
      have h74 : (si σ2 7 4 (nI i)).1 7 4 = nI i := rfl
      generalize si σ2 7 4 (nI i) = σ3 at hfin hl3 h74 ⊢
      refine VW.sub (ls := [(3, .int (nI (i + 1))), (2, .int (bI (0 < r0))), (0, .ref 7), (1, .ref 2)]) ?_ [0, 1, 2, 3] rfl
      refine run_sound s2_parse (fun pc => pc == 30 || pc == 105) _ 1000 _ _ _ _ ?_
      set_option maxRecDepth 100000 in simp (decide := true) only [c2_parse, run_s, nxt_e, ap_const, ap_lconst, ap_ild, ap_lld, ap_ald, ap_ist, ap_lst, ap_ast, ap_iinc, ap_iadd, ap_isub, ap_imul, ap_iand, ap_ior, ap_ixor, ap_ishl, ap_ishr, ap_iushr, ap_idiv, ap_irem, ap_ineg, ap_ladd, ap_lsub, ap_lmul, ap_ldiv, ap_lrem, ap_lneg, ap_lcmp, ap_i2l, ap_l2i, ap_i2b, ap_i2s, ap_dup_int, ap_pop_int, ap_dup_ref, ap_pop_ref, ap_dup2, ap_goto, ap_tsw, ap_lsw, ap_getI, ap_getJ, ap_getR, ap_putI, ap_putZ, ap_putJ, ap_iald, ap_lald, ap_bald, ap_aald, ap_iast, ap_last, ap_bast, ap_alen, ap_gst, ap_iret, ap_zret, ap_lret, ap_vret, ap_aret, ap_lmax, ap_labs, ap_acopy, ap_invV0, ap_invS0, ap_invV1, ap_invS1, ap_invV2, ap_invS2, ap_invV3, ap_invS3, ap_invV4, ap_invS4, ap_invV5, ap_invS5, tcnT, ocT, lenIT, lenWT, lenLT, lenVT, lenZT, startfT, vpL, sa_1, sa_2, sL_1, sL_2, si_1, si_2, sj_1, sj_2, ldI_e, ldL_e, ldA_e, inC_e, lk, st1, st2, rm1, rm2, Value.category, ctn_some, ctn_none, wsum, lv_args, Int32.reduceAdd, Int32.reduceSub, Int32.reduceMul, Nat.reduceAdd, Nat.reduceLT, Nat.reduceLeDiff, Nat.reduceEqDiff, Nat.reduceBEq, ↓reduceIte, true_and, and_true, Bool.false_eq_true, true_implies, false_implies, not_true_eq_false, not_false_eq_true, Bool.or_true, Bool.or_false, Bool.true_or, Bool.false_or, bx_ceq, bx_clt, bx_cge, bx_cgt, bx_cle, bx_cne, bx_zeq, bx_zlt, bx_zge, bx_zgt, bx_zle, bx_zne, iteP, hl3, h74, nIm1 i (by omega)]
      exact ⟨fun _ => hfin.sub [1, 2, 3] rfl, fun _ => hfin.sub [1, 2, 3] rfl⟩
    · set_option maxRecDepth 100000 in simp (decide := true) only [c2_parse, run_s, nxt_e, ap_const, ap_lconst, ap_ild, ap_lld, ap_ald, ap_ist, ap_lst, ap_ast, ap_iinc, ap_iadd, ap_isub, ap_imul, ap_iand, ap_ior, ap_ixor, ap_ishl, ap_ishr, ap_iushr, ap_idiv, ap_irem, ap_ineg, ap_ladd, ap_lsub, ap_lmul, ap_ldiv, ap_lrem, ap_lneg, ap_lcmp, ap_i2l, ap_l2i, ap_i2b, ap_i2s, ap_dup_int, ap_pop_int, ap_dup_ref, ap_pop_ref, ap_dup2, ap_goto, ap_tsw, ap_lsw, ap_getI, ap_getJ, ap_getR, ap_putI, ap_putZ, ap_putJ, ap_iald, ap_lald, ap_bald, ap_aald, ap_iast, ap_last, ap_bast, ap_alen, ap_gst, ap_iret, ap_zret, ap_lret, ap_vret, ap_aret, ap_lmax, ap_labs, ap_acopy, ap_invV0, ap_invS0, ap_invV1, ap_invS1, ap_invV2, ap_invS2, ap_invV3, ap_invS3, ap_invV4, ap_invS4, ap_invV5, ap_invS5, tcnT, ocT, lenIT, lenWT, lenLT, lenVT, lenZT, startfT, vpL, sa_1, sa_2, sL_1, sL_2, si_1, si_2, sj_1, sj_2, ldI_e, ldL_e, ldA_e, inC_e, lk, st1, st2, rm1, rm2, Value.category, ctn_some, ctn_none, wsum, lv_args, Int32.reduceAdd, Int32.reduceSub, Int32.reduceMul, Nat.reduceAdd, Nat.reduceLT, Nat.reduceLeDiff, Nat.reduceEqDiff, Nat.reduceBEq, ↓reduceIte, true_and, and_true, Bool.false_eq_true, true_implies, false_implies, not_true_eq_false, not_false_eq_true, Bool.or_true, Bool.or_false, Bool.true_or, Bool.false_or, bx_ceq, bx_clt, bx_cge, bx_cgt, bx_cle, bx_cne, bx_zeq, bx_zlt, bx_zge, bx_zgt, bx_zle, bx_zne, iteP, nI_1]
      have hs2 : sm [7, 8, 9, 10] σ (si σ2 7 4 (-1)) := (hs.trans a1).si (by decide)
      have hft2 : ft1 (σ.1 4) (i + 1) = none := by simp only [ft1, hft]; rw [er, g]
      refine (ih (i + 1) (by omega) (si σ2 7 4 (-1)) ⟨hs2, (s', k'), er.trans g, a3, ?_, ?_, ?_⟩ rfl hft2).sub [0, 1, 2, 3] rfl
      · show σ2.1 8 = _
        rw [a4, h8]; simp only [fA, hq]
      · show σ2.1 9 = _
        rw [a5, h9]; simp only [sA, hq]
      · show σ2.1 10 = _
        rw [a6, h10]; simp only [pA, hq]
theorem v2_parse {σ : St} {K : Kr} {L r0 : Nat} (hp : PT σ) (hr0 : σ.1 7 3 = nI r0 ∧ r0 ≤ 6) (hbk : BK σ r0) (hL : L ≤ 29) (hlen : σ.1 2 1 = nI L)
    (h : ∀ σ', sm [7, 8, 9, 10, 11] σ σ' → σ'.1 7 4 = oI (fault1 (σ.1 4) L) → KV σ' (num1 (σ.1 4) L) → BK σ' (num1 (σ.1 4) L) → (fault1 (σ.1 4) L = none → σ'.1 8 = fA (σ.1 4) (σ.1 8) L ∧ σ'.1 9 = sA (σ.1 4) (σ.1 9) L ∧ σ'.1 10 = pA (σ.1 4) (σ.1 10) L) → K none σ') : VM M2_parse [.ref 7, .ref 2] σ K := by
  have hs : sm [7, 8, 9, 10] σ (si (si (si σ 7 4 (-1)) 7 3 0) 7 7 0) := ((sm.rfl'.si (by decide)).si (by decide)).si (by decide)
  have hI : KI σ (si (si (si σ 7 4 (-1)) 7 3 0) 7 7 0) 0 := ⟨hs, (0, 0), rfl, ⟨by decide, by decide, rfl, rfl⟩, rfl, rfl, rfl⟩
  have hm := L2_parse hp hr0 hbk hL hlen h L 0 (by omega) _ hI rfl rfl
  have hle : (nI r0 ≤ 0) ↔ ¬ 0 < r0 := by
    rw [show (0 : Int32) = nI 0 from rfl, nI_leI (by omega) (by decide)]
    omega
  refine vm_run s2_parse n2_parse (fun pc => pc == 30) 1000 (fun E => Nat.le_of_ble_eq_true rfl) ?_
  set_option maxRecDepth 100000 in simp (decide := true) only [c2_parse, run_s, nxt_e, ap_const, ap_lconst, ap_ild, ap_lld, ap_ald, ap_ist, ap_lst, ap_ast, ap_iinc, ap_iadd, ap_isub, ap_imul, ap_iand, ap_ior, ap_ixor, ap_ishl, ap_ishr, ap_iushr, ap_idiv, ap_irem, ap_ineg, ap_ladd, ap_lsub, ap_lmul, ap_ldiv, ap_lrem, ap_lneg, ap_lcmp, ap_i2l, ap_l2i, ap_i2b, ap_i2s, ap_dup_int, ap_pop_int, ap_dup_ref, ap_pop_ref, ap_dup2, ap_goto, ap_tsw, ap_lsw, ap_getI, ap_getJ, ap_getR, ap_putI, ap_putZ, ap_putJ, ap_iald, ap_lald, ap_bald, ap_aald, ap_iast, ap_last, ap_bast, ap_alen, ap_gst, ap_iret, ap_zret, ap_lret, ap_vret, ap_aret, ap_lmax, ap_labs, ap_acopy, ap_invV0, ap_invS0, ap_invV1, ap_invS1, ap_invV2, ap_invS2, ap_invV3, ap_invS3, ap_invV4, ap_invS4, ap_invV5, ap_invS5, tcnT, ocT, lenIT, lenWT, lenLT, lenVT, lenZT, startfT, vpL, sa_1, sa_2, sL_1, sL_2, si_1, si_2, sj_1, sj_2, ldI_e, ldL_e, ldA_e, inC_e, lk, st1, st2, rm1, rm2, Value.category, ctn_some, ctn_none, wsum, lv_args, Int32.reduceAdd, Int32.reduceSub, Int32.reduceMul, Nat.reduceAdd, Nat.reduceLT, Nat.reduceLeDiff, Nat.reduceEqDiff, Nat.reduceBEq, ↓reduceIte, true_and, and_true, Bool.false_eq_true, true_implies, false_implies, not_true_eq_false, not_false_eq_true, Bool.or_true, Bool.or_false, Bool.true_or, Bool.false_or, bx_ceq, bx_clt, bx_cge, bx_cgt, bx_cle, bx_cne, bx_zeq, bx_zlt, bx_zge, bx_zgt, bx_zle, bx_zne, iteP, hr0.1, hle]
  refine ⟨fun q => ?_, fun q => ?_⟩
  · rw [bI_f q] at hm
    exact hm.sub [0, 1, 2, 3] rfl
  · rw [bI_t (Classical.not_not.mp q)] at hm
    exact hm.sub [0, 1, 2, 3] rfl
