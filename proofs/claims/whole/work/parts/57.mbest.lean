/-! the order of members doesn't matter -/
theorem F_swap (w : Nat → Nat → Nat) (val : Nat → Int) (a b : Nat) (r : List Nat) (c : Nat) : F w val (a :: b :: r) c = F w val (b :: a :: r) c := by
  simp only [F]
  simp only [Nat.add_right_comm c (pw 1) (pw 0), Nat.add_right_comm c (pw 2) (pw 0), Nat.add_right_comm c (pw 3) (pw 0), Nat.add_right_comm c (pw 2) (pw 1), Nat.add_right_comm c (pw 3) (pw 1), Nat.add_right_comm c (pw 3) (pw 2)]
  grind
theorem F_mid (w : Nat → Nat → Nat) (val : Nat → Int) (m : Nat) (b : List Nat) : ∀ (a : List Nat) (c : Nat), F w val (a ++ m :: b) c = F w val (m :: (a ++ b)) c := by
  intro a
  induction a with
  | nil => intro c; rfl
  | cons x r ih =>
    intro c
    rw [show (x :: r) ++ m :: b = [x] ++ (r ++ m :: b) from rfl, F_app, funext ih, ← F_app]
    exact F_swap w val x m (r ++ b) c
theorem oth_spl : ∀ n, n < 7 → ∀ m, m < n → Tm (al n) 0 n = Tm (al n) 0 m ++ m :: Tm (al n) (m + 1) (n - m - 1) ∧ oth n m = Tm (al n) 0 m ++ Tm (al n) (m + 1) (n - m - 1) ∧ (oth n m).all (fun a => decide (a ≠ m)) = true := by decide +kernel
theorem F_oth {w w' : Nat → Nat → Nat} {val : Nat → Int} {n m c : Nat} (hn : n < 7) (hm : m < n) (h : ∀ a, a ≠ m → ∀ k, w' a k = w a k) : F w' val (Tm (al n) 0 n) c = F w' (F w val (oth n m)) [m] c := by
  obtain ⟨e1, e2, e3⟩ := oth_spl n hn m hm
  rw [e1, F_mid, ← e2, show m :: oth n m = [m] ++ oth n m from rfl, F_app]
  congr 1
  funext c'
  refine F_congr (fun a ha k _ => h a ?_ k) c'
  exact of_decide_eq_true (List.all_eq_true.mp e3 a ha)
/-! suppers on trial, by the model -/
def SP (l fl : List Nat) (σ σ' : St) : Prop := sq (42 :: l) fl σ σ' ∧ σ'.2 42 = σ.2 42
theorem SP.rf {l fl : List Nat} {σ : St} : SP l fl σ σ := ⟨sq.rfl', rfl⟩
theorem SP.q {l fl l' fl' : List Nat} {σ τ υ : St} (h : SP l fl σ τ) (g : sq l' fl' τ υ) (h1 : ∀ o, o ∈ l' → o ∈ l) (h2 : ∀ f, f ∈ fl' → f ∈ fl) (h42 : 42 ∉ l') : SP l fl σ υ := ⟨h.1.trans (g.mono (fun o ho => List.mem_cons_of_mem _ (h1 o ho)) h2), ((g.1 42 h42 (by decide)).2).trans h.2⟩
theorem SP.s {l fl : List Nat} {σ τ : St} {f : Nat} {v : Int32} (h : SP l fl σ τ) : SP l fl σ (si τ 42 f v) := ⟨h.1.si List.mem_cons_self (by decide), h.2⟩
theorem SP.tr {l fl : List Nat} {σ τ υ : St} (h : SP l fl σ τ) (g : SP l fl τ υ) : SP l fl σ υ := ⟨h.1.trans g.1, g.2.trans h.2⟩
theorem SP.mono {l fl l' fl' : List Nat} {σ τ : St} (h : SP l fl σ τ) (h1 : ∀ o, o ∈ l → o ∈ l') (h2 : ∀ f, f ∈ fl → f ∈ fl') : SP l' fl' σ τ := ⟨h.1.mono (fun o ho => by rcases List.mem_cons.mp ho with q | q; exact List.mem_cons.mpr (Or.inl q); exact List.mem_cons_of_mem _ (h1 o q)) h2, h.2⟩
theorem SP.fin {l fl : List Nat} {σ τ : St} (h : SP l fl σ τ) (e : τ.1 42 = σ.1 42) : sq l fl σ τ := ⟨fun o a b => by
  by_cases q : o = 42
  · subst q; exact ⟨e, h.2⟩
  · exact h.1.1 o (fun z => by rcases List.mem_cons.mp z with z | z; exact q z; exact a z) b, h.1.2⟩
theorem upd_at {f : Nat → Int32} {i : Nat} {v : Int32} : upd f i v i = v := if_pos rfl
theorem upd_ne {f : Nat → Int32} {i j : Nat} {v : Int32} (h : j ≠ i) : upd f i v j = f j := if_neg h
theorem upd_upd {f : Nat → Int32} {i : Nat} {v u : Int32} : upd (upd f i v) i u = upd f i u := by
  funext j
  unfold upd
  split <;> rfl
theorem upd_self {f : Nat → Int32} {i : Nat} : upd f i (f i) = f := by
  funext j
  unfold upd
  split
  · rename_i e; rw [e]
  · rfl
def bA (σ : St) (n m j : Nat) : Int := Ab σ m (F (ww σ) (wv σ) (oth n m)) j
/-- the mean with another supper of one member -/
theorem bA_eq {σ σ1 : St} {n r m j : Nat} (hL : LB σ n r) (hm : m < n) (h42 : σ.1 42 = σ.1 29) (hs : SP [46, 47] [] σ σ1) (h1 : σ1.1 42 = upd (σ.1 42) m (nI j - 1)) : F (wm σ1) (wv σ1) (Tm 63 0 n) 0 = bA σ n m j ∧ ws4 (wm σ1) m = Bb σ m j := by
  have hn := hL.1.1.1
  have ew : ∀ a k, wm σ1 a k = wd σ a k (upd (σ.1 42) m (nI j - 1) a) := fun a k => by
    unfold wm
    rw [h1]
    exact wd_sm hs.1.sm (by decide) (by decide)
  have ev : wv σ1 = wv σ := wv_sq hs.1 (by decide)
  have em : ∀ k, wm σ1 m k = wd σ m k (nI j - 1) := fun k => by rw [ew, upd_at]
  constructor
  · rw [Tm63 n (by omega), ev, F_oth (w := ww σ) (by omega) hm (fun a ha k => by rw [ew, upd_ne ha, h42]; rfl)]
    unfold bA Ab
    simp only [F, em]
  · unfold Bb ws4
    rw [em, em, em, em]
theorem bA_b {σ : St} {n r m j : Nat} (hL : LB σ n r) (hm : m < n) : -((72 * (54 * 139314069504) : Nat) : Int) ≤ bA σ n m j ∧ bA σ n m j ≤ ((72 * (54 * 139314069504) : Nat) : Int) := by
  have hn := hL.1.1.1
  have ho := oth_len n (by omega) m hm
  exact Ab_b hL.1.1 (show m < 6 by omega) (fun k hk => szw_b hL.1 (sz_pw k hk).1 (by have := (sz_pw k hk).2.1; unfold oth at ho; omega))
theorem L9_best {σ : St} {K : Kr} {n r m : Nat} (hL : LB σ n r) (h42 : σ.1 42 = σ.1 29) (hm : m < n) (h : ∀ σ', sq [46, 47] [] σ σ' → K (some (.int (nI (bestS σ n m) - 1))) σ') :
    ∀ (d i : Nat), i + d = 4 → ∀ σ1, SP [46, 47] [] σ σ1 → (∃ e, σ1.1 42 = upd (σ.1 42) m e) → VW M9_bestOf Xt K 22 [(8, .int (nI i)), (6, .long (lN (Bb σ m (bsel (bA σ n m) (Bb σ m) i)))), (4, .long (Int64.ofInt (bA σ n m (bsel (bA σ n m) (Bb σ m) i)))), (3, .int (nI (bsel (bA σ n m) (Bb σ m) i) - 1)), (2, .int (σ.1 42 m)), (0, .ref 35), (1, .int (nI m))] [] σ1 := by
  have hn := hL.1.1.1
  have hm6 : m < 6 := by omega
  intro d
  induction d with
  | zero =>
    intro i hi σ1 g1 g2
    obtain ⟨e, g2⟩ := g2
    have : i = 4 := by omega
    subst this
    refine run_sound s9_bestOf (fun pc => false) _ 1000 _ _ _ _ ?_
    set_option maxRecDepth 100000 in simp (decide := true) only [c9_bestOf, run_s, nxt_e, ap_const, ap_lconst, ap_ild, ap_lld, ap_ald, ap_ist, ap_lst, ap_ast, ap_iinc, ap_iadd, ap_isub, ap_imul, ap_iand, ap_ior, ap_ixor, ap_ishl, ap_ishr, ap_iushr, ap_idiv, ap_irem, ap_ineg, ap_ladd, ap_lsub, ap_lmul, ap_ldiv, ap_lrem, ap_lneg, ap_lcmp, ap_i2l, ap_l2i, ap_i2b, ap_i2s, ap_dup_int, ap_pop_int, ap_dup_ref, ap_pop_ref, ap_dup2, ap_goto, ap_tsw, ap_lsw, ap_getI, ap_getJ, ap_getR, ap_putI, ap_putZ, ap_putJ, ap_iald, ap_lald, ap_bald, ap_aald, ap_iast, ap_last, ap_bast, ap_alen, ap_gst, ap_iret, ap_zret, ap_lret, ap_vret, ap_aret, ap_lmax, ap_labs, ap_acopy, ap_invV0, ap_invS0, ap_invV1, ap_invS1, ap_invV2, ap_invS2, ap_invV3, ap_invS3, ap_invV4, ap_invS4, ap_invV5, ap_invS5, tcnT, ocT, lenIT, lenWT, lenLT, lenVT, lenZT, startfT, vpL, sa_1, sa_2, sL_1, sL_2, si_1, si_2, sj_1, sj_2, ldI_e, ldL_e, ldA_e, inC_e, lk, st1, st2, rm1, rm2, Value.category, ctn_some, ctn_none, wsum, lv_args, Int32.reduceAdd, Int32.reduceSub, Int32.reduceMul, Nat.reduceAdd, Nat.reduceLT, Nat.reduceLeDiff, Nat.reduceEqDiff, Nat.reduceBEq, ↓reduceIte, true_and, and_true, Bool.false_eq_true, true_implies, false_implies, not_true_eq_false, not_false_eq_true, Bool.or_true, Bool.or_false, Bool.true_or, Bool.false_or, bx_ceq, bx_clt, bx_cge, bx_cgt, bx_cle, bx_cne, bx_zeq, bx_zlt, bx_zge, bx_zgt, bx_zle, bx_zne, iteP, eq_true (show (4 : Int32) ≤ nI 4 by decide), vin hm6 (by decide), nIc (show m < 2 ^ 31 by omega)]
    refine h _ (g1.s.fin ?_)
    rw [si_1, if_pos rfl, g2, upd_upd, upd_self]
  | succ d ih =>
    intro i hi σ1 g1 g2
    obtain ⟨e, g2⟩ := g2
    have ei : nI i = nI (i + 1) - 1 := (nI_pred i).symm
    have s2 : SP [46, 47] [] σ (si σ1 42 m (nI i)) := g1.s
    have f2 : (si σ1 42 m (nI i)).1 42 = upd (σ.1 42) m (nI (i + 1) - 1) := by rw [si_1, if_pos rfl, g2, upd_upd, ← ei]
    have L2 := hL.sq s2.1 (by decide) (by decide) (by decide) (by decide) (by decide) (by decide)
    refine run_sound s9_bestOf (fun pc => pc == 22) _ 1000 _ _ _ _ ?_
    set_option maxRecDepth 100000 in simp (decide := true) only [c9_bestOf, run_s, nxt_e, ap_const, ap_lconst, ap_ild, ap_lld, ap_ald, ap_ist, ap_lst, ap_ast, ap_iinc, ap_iadd, ap_isub, ap_imul, ap_iand, ap_ior, ap_ixor, ap_ishl, ap_ishr, ap_iushr, ap_idiv, ap_irem, ap_ineg, ap_ladd, ap_lsub, ap_lmul, ap_ldiv, ap_lrem, ap_lneg, ap_lcmp, ap_i2l, ap_l2i, ap_i2b, ap_i2s, ap_dup_int, ap_pop_int, ap_dup_ref, ap_pop_ref, ap_dup2, ap_goto, ap_tsw, ap_lsw, ap_getI, ap_getJ, ap_getR, ap_putI, ap_putZ, ap_putJ, ap_iald, ap_lald, ap_bald, ap_aald, ap_iast, ap_last, ap_bast, ap_alen, ap_gst, ap_iret, ap_zret, ap_lret, ap_vret, ap_aret, ap_lmax, ap_labs, ap_acopy, ap_invV0, ap_invS0, ap_invV1, ap_invS1, ap_invV2, ap_invS2, ap_invV3, ap_invS3, ap_invV4, ap_invS4, ap_invV5, ap_invS5, tcnT, ocT, lenIT, lenWT, lenLT, lenVT, lenZT, startfT, vpL, sa_1, sa_2, sL_1, sL_2, si_1, si_2, sj_1, sj_2, ldI_e, ldL_e, ldA_e, inC_e, lk, st1, st2, rm1, rm2, Value.category, ctn_some, ctn_none, wsum, lv_args, Int32.reduceAdd, Int32.reduceSub, Int32.reduceMul, Nat.reduceAdd, Nat.reduceLT, Nat.reduceLeDiff, Nat.reduceEqDiff, Nat.reduceBEq, ↓reduceIte, true_and, and_true, Bool.false_eq_true, true_implies, false_implies, not_true_eq_false, not_false_eq_true, Bool.or_true, Bool.or_false, Bool.true_or, Bool.false_or, bx_ceq, bx_clt, bx_cge, bx_cgt, bx_cle, bx_cne, bx_zeq, bx_zlt, bx_zge, bx_zgt, bx_zle, bx_zne, iteP, eq_false (show ¬ (4 : Int32) ≤ nI i from nI_ge (show i < 4 by omega) (by decide)), vin hm6 (by decide), nIc (show m < 2 ^ 31 by omega)]
    refine v9_meanBy (S := 63) L2 (by decide) (fun σ3 od q1 q2 q3 => ?_)
    have s3 : SP [46, 47] [] σ σ3 := s2.q q1 (by decide) (by decide) (by decide)
    have f3 : σ3.1 42 = upd (σ.1 42) m (nI (i + 1) - 1) := by rw [(q1.1 42 (by decide) (by decide)).1]; exact f2
    have L3 := hL.sq s3.1 (by decide) (by decide) (by decide) (by decide) (by decide) (by decide)
    rw [(bA_eq hL hm h42 s2 f2).1]
    set_option maxRecDepth 100000 in simp (decide := true) only [c9_bestOf, run_s, nxt_e, ap_const, ap_lconst, ap_ild, ap_lld, ap_ald, ap_ist, ap_lst, ap_ast, ap_iinc, ap_iadd, ap_isub, ap_imul, ap_iand, ap_ior, ap_ixor, ap_ishl, ap_ishr, ap_iushr, ap_idiv, ap_irem, ap_ineg, ap_ladd, ap_lsub, ap_lmul, ap_ldiv, ap_lrem, ap_lneg, ap_lcmp, ap_i2l, ap_l2i, ap_i2b, ap_i2s, ap_dup_int, ap_pop_int, ap_dup_ref, ap_pop_ref, ap_dup2, ap_goto, ap_tsw, ap_lsw, ap_getI, ap_getJ, ap_getR, ap_putI, ap_putZ, ap_putJ, ap_iald, ap_lald, ap_bald, ap_aald, ap_iast, ap_last, ap_bast, ap_alen, ap_gst, ap_iret, ap_zret, ap_lret, ap_vret, ap_aret, ap_lmax, ap_labs, ap_acopy, ap_invV0, ap_invS0, ap_invV1, ap_invS1, ap_invV2, ap_invS2, ap_invV3, ap_invS3, ap_invV4, ap_invS4, ap_invV5, ap_invS5, tcnT, ocT, lenIT, lenWT, lenLT, lenVT, lenZT, startfT, vpL, sa_1, sa_2, sL_1, sL_2, si_1, si_2, sj_1, sj_2, ldI_e, ldL_e, ldA_e, inC_e, lk, st1, st2, rm1, rm2, Value.category, ctn_some, ctn_none, wsum, lv_args, Int32.reduceAdd, Int32.reduceSub, Int32.reduceMul, Nat.reduceAdd, Nat.reduceLT, Nat.reduceLeDiff, Nat.reduceEqDiff, Nat.reduceBEq, ↓reduceIte, true_and, and_true, Bool.false_eq_true, true_implies, false_implies, not_true_eq_false, not_false_eq_true, Bool.or_true, Bool.or_false, Bool.true_or, Bool.false_or, bx_ceq, bx_clt, bx_cge, bx_cgt, bx_cle, bx_cne, bx_zeq, bx_zlt, bx_zge, bx_zgt, bx_zle, bx_zne, iteP, nIm1' (show i < 2 ^ 31 by omega)]
    refine v9_weightAll L3.1.1 L3.2.2.2.1 hm ?_
    rw [(bA_eq hL hm h42 s3 f3).2]
    have b1 := Bb_b (j := i + 1) hL.1.1 hm6
    have b2 := Bb_b (j := bsel (bA σ n m) (Bb σ m) i) hL.1.1 hm6
    have c1 := mulB (bA_b (j := i + 1) hL hm) b2
    have c2 := mulB (bA_b (j := bsel (bA σ n m) (Bb σ m) i) hL hm) b1
    have hc : (Int64.ofInt (bA σ n m (i + 1) * (Bb σ m (bsel (bA σ n m) (Bb σ m) i) : Int)) ≤ Int64.ofInt (bA σ n m (bsel (bA σ n m) (Bb σ m) i) * (Bb σ m (i + 1) : Int))) ↔ bA σ n m (i + 1) * (Bb σ m (bsel (bA σ n m) (Bb σ m) i) : Int) ≤ bA σ n m (bsel (bA σ n m) (Bb σ m) i) * (Bb σ m (i + 1) : Int) := cmpI (by omega) (by omega)
    have e1 : Int64.ofInt (bA σ n m (i + 1)) * lN (Bb σ m (bsel (bA σ n m) (Bb σ m) i)) = Int64.ofInt (bA σ n m (i + 1) * (Bb σ m (bsel (bA σ n m) (Bb σ m) i) : Int)) := by rw [lN_of, ← Int64.ofInt_mul]
    have e2 : Int64.ofInt (bA σ n m (bsel (bA σ n m) (Bb σ m) i)) * lN (Bb σ m (i + 1)) = Int64.ofInt (bA σ n m (bsel (bA σ n m) (Bb σ m) i) * (Bb σ m (i + 1) : Int)) := by rw [lN_of, ← Int64.ofInt_mul]
    have hii := ih (i + 1) (by omega) σ3 s3 ⟨_, f3⟩
    set_option maxRecDepth 100000 in simp (decide := true) only [c9_bestOf, run_s, nxt_e, ap_const, ap_lconst, ap_ild, ap_lld, ap_ald, ap_ist, ap_lst, ap_ast, ap_iinc, ap_iadd, ap_isub, ap_imul, ap_iand, ap_ior, ap_ixor, ap_ishl, ap_ishr, ap_iushr, ap_idiv, ap_irem, ap_ineg, ap_ladd, ap_lsub, ap_lmul, ap_ldiv, ap_lrem, ap_lneg, ap_lcmp, ap_i2l, ap_l2i, ap_i2b, ap_i2s, ap_dup_int, ap_pop_int, ap_dup_ref, ap_pop_ref, ap_dup2, ap_goto, ap_tsw, ap_lsw, ap_getI, ap_getJ, ap_getR, ap_putI, ap_putZ, ap_putJ, ap_iald, ap_lald, ap_bald, ap_aald, ap_iast, ap_last, ap_bast, ap_alen, ap_gst, ap_iret, ap_zret, ap_lret, ap_vret, ap_aret, ap_lmax, ap_labs, ap_acopy, ap_invV0, ap_invS0, ap_invV1, ap_invS1, ap_invV2, ap_invS2, ap_invV3, ap_invS3, ap_invV4, ap_invS4, ap_invV5, ap_invS5, tcnT, ocT, lenIT, lenWT, lenLT, lenVT, lenZT, startfT, vpL, sa_1, sa_2, sL_1, sL_2, si_1, si_2, sj_1, sj_2, ldI_e, ldL_e, ldA_e, inC_e, lk, st1, st2, rm1, rm2, Value.category, ctn_some, ctn_none, wsum, lv_args, Int32.reduceAdd, Int32.reduceSub, Int32.reduceMul, Nat.reduceAdd, Nat.reduceLT, Nat.reduceLeDiff, Nat.reduceEqDiff, Nat.reduceBEq, ↓reduceIte, true_and, and_true, Bool.false_eq_true, true_implies, false_implies, not_true_eq_false, not_false_eq_true, Bool.or_true, Bool.or_false, Bool.true_or, Bool.false_or, bx_ceq, bx_clt, bx_cge, bx_cgt, bx_cle, bx_cne, bx_zeq, bx_zlt, bx_zge, bx_zgt, bx_zle, bx_zne, iteP, nI_l (show Bb σ m (i + 1) < 2 ^ 31 by omega), e1, e2, lg_cmp_le, hc, nI_1]
    refine ⟨fun q => ?_, fun q => ?_⟩
    · have e : bsel (bA σ n m) (Bb σ m) (i + 1) = bsel (bA σ n m) (Bb σ m) i := if_neg (by omega)
      rw [e] at hii
      exact hii.sub [0, 1, 2, 3, 6, 7, 8] rfl
    · have e : bsel (bA σ n m) (Bb σ m) (i + 1) = i + 1 := if_pos (by omega)
      rw [e] at hii
      refine v9_weightAll L3.1.1 L3.2.2.2.1 hm ?_
      rw [(bA_eq hL hm h42 s3 f3).2]
      set_option maxRecDepth 100000 in simp (decide := true) only [c9_bestOf, run_s, nxt_e, ap_const, ap_lconst, ap_ild, ap_lld, ap_ald, ap_ist, ap_lst, ap_ast, ap_iinc, ap_iadd, ap_isub, ap_imul, ap_iand, ap_ior, ap_ixor, ap_ishl, ap_ishr, ap_iushr, ap_idiv, ap_irem, ap_ineg, ap_ladd, ap_lsub, ap_lmul, ap_ldiv, ap_lrem, ap_lneg, ap_lcmp, ap_i2l, ap_l2i, ap_i2b, ap_i2s, ap_dup_int, ap_pop_int, ap_dup_ref, ap_pop_ref, ap_dup2, ap_goto, ap_tsw, ap_lsw, ap_getI, ap_getJ, ap_getR, ap_putI, ap_putZ, ap_putJ, ap_iald, ap_lald, ap_bald, ap_aald, ap_iast, ap_last, ap_bast, ap_alen, ap_gst, ap_iret, ap_zret, ap_lret, ap_vret, ap_aret, ap_lmax, ap_labs, ap_acopy, ap_invV0, ap_invS0, ap_invV1, ap_invS1, ap_invV2, ap_invS2, ap_invV3, ap_invS3, ap_invV4, ap_invS4, ap_invV5, ap_invS5, tcnT, ocT, lenIT, lenWT, lenLT, lenVT, lenZT, startfT, vpL, sa_1, sa_2, sL_1, sL_2, si_1, si_2, sj_1, sj_2, ldI_e, ldL_e, ldA_e, inC_e, lk, st1, st2, rm1, rm2, Value.category, ctn_some, ctn_none, wsum, lv_args, Int32.reduceAdd, Int32.reduceSub, Int32.reduceMul, Nat.reduceAdd, Nat.reduceLT, Nat.reduceLeDiff, Nat.reduceEqDiff, Nat.reduceBEq, ↓reduceIte, true_and, and_true, Bool.false_eq_true, true_implies, false_implies, not_true_eq_false, not_false_eq_true, Bool.or_true, Bool.or_false, Bool.true_or, Bool.false_or, bx_ceq, bx_clt, bx_cge, bx_cgt, bx_cle, bx_cne, bx_zeq, bx_zlt, bx_zge, bx_zgt, bx_zle, bx_zne, iteP, nI_l (show Bb σ m (i + 1) < 2 ^ 31 by omega), nI_1]
      rw [← ei] at hii
      exact hii.sub [0, 1, 2, 3, 6, 7, 8] rfl
theorem v9_bestOf {σ : St} {K : Kr} {n r m : Nat} (hP : PJ σ n r) (hm : m < n) (h : ∀ σ', sq mfl mff σ σ' → K (some (.int (nI (bestS σ n m) - 1))) σ') : VM M9_bestOf [.ref 35, .int (nI m)] σ K := by
  have hn := hP.1.cv.1.1
  have hm6 : m < 6 := by omega
  refine vm_run s9_bestOf n9_bestOf (fun pc => pc == 22) 1000 (fun E => Nat.le_of_ble_eq_true rfl) ?_
  set_option maxRecDepth 100000 in simp (decide := true) only [c9_bestOf, run_s, nxt_e, ap_const, ap_lconst, ap_ild, ap_lld, ap_ald, ap_ist, ap_lst, ap_ast, ap_iinc, ap_iadd, ap_isub, ap_imul, ap_iand, ap_ior, ap_ixor, ap_ishl, ap_ishr, ap_iushr, ap_idiv, ap_irem, ap_ineg, ap_ladd, ap_lsub, ap_lmul, ap_ldiv, ap_lrem, ap_lneg, ap_lcmp, ap_i2l, ap_l2i, ap_i2b, ap_i2s, ap_dup_int, ap_pop_int, ap_dup_ref, ap_pop_ref, ap_dup2, ap_goto, ap_tsw, ap_lsw, ap_getI, ap_getJ, ap_getR, ap_putI, ap_putZ, ap_putJ, ap_iald, ap_lald, ap_bald, ap_aald, ap_iast, ap_last, ap_bast, ap_alen, ap_gst, ap_iret, ap_zret, ap_lret, ap_vret, ap_aret, ap_lmax, ap_labs, ap_acopy, ap_invV0, ap_invS0, ap_invV1, ap_invS1, ap_invV2, ap_invS2, ap_invV3, ap_invS3, ap_invV4, ap_invS4, ap_invV5, ap_invS5, tcnT, ocT, lenIT, lenWT, lenLT, lenVT, lenZT, startfT, vpL, sa_1, sa_2, sL_1, sL_2, si_1, si_2, sj_1, sj_2, ldI_e, ldL_e, ldA_e, inC_e, lk, st1, st2, rm1, rm2, Value.category, ctn_some, ctn_none, wsum, lv_args, Int32.reduceAdd, Int32.reduceSub, Int32.reduceMul, Nat.reduceAdd, Nat.reduceLT, Nat.reduceLeDiff, Nat.reduceEqDiff, Nat.reduceBEq, ↓reduceIte, true_and, and_true, Bool.false_eq_true, true_implies, false_implies, not_true_eq_false, not_false_eq_true, Bool.or_true, Bool.or_false, Bool.true_or, Bool.false_or, bx_ceq, bx_clt, bx_cge, bx_cgt, bx_cle, bx_cne, bx_zeq, bx_zlt, bx_zge, bx_zgt, bx_zle, bx_zne, iteP]
  refine v9_laysBests hP.1 (fun σ1 g1 hL => ?_)
  have m1 : sq mfl mff σ σ1 := g1.mf (by decide) (by decide)
  have h42 : σ1.1 42 = σ1.1 29 := (PJ_mf hP m1).2
  have eb : bestS σ1 n m = bestS σ n m := by
    unfold bestS
    have w0 : ∀ d, (fun m k => wd σ1 m k d) = (fun m k => wd σ m k d) := fun d => by funext a b; exact wd_sm g1.sm (by decide) (by decide)
    rw [ww_mf m1, wv_mf m1]
    congr 1
    · funext j; unfold Ab; rw [w0]
    · funext j; unfold Bb; rw [w0]
  set_option maxRecDepth 100000 in simp (decide := true) only [c9_bestOf, run_s, nxt_e, ap_const, ap_lconst, ap_ild, ap_lld, ap_ald, ap_ist, ap_lst, ap_ast, ap_iinc, ap_iadd, ap_isub, ap_imul, ap_iand, ap_ior, ap_ixor, ap_ishl, ap_ishr, ap_iushr, ap_idiv, ap_irem, ap_ineg, ap_ladd, ap_lsub, ap_lmul, ap_ldiv, ap_lrem, ap_lneg, ap_lcmp, ap_i2l, ap_l2i, ap_i2b, ap_i2s, ap_dup_int, ap_pop_int, ap_dup_ref, ap_pop_ref, ap_dup2, ap_goto, ap_tsw, ap_lsw, ap_getI, ap_getJ, ap_getR, ap_putI, ap_putZ, ap_putJ, ap_iald, ap_lald, ap_bald, ap_aald, ap_iast, ap_last, ap_bast, ap_alen, ap_gst, ap_iret, ap_zret, ap_lret, ap_vret, ap_aret, ap_lmax, ap_labs, ap_acopy, ap_invV0, ap_invS0, ap_invV1, ap_invS1, ap_invV2, ap_invS2, ap_invV3, ap_invS3, ap_invV4, ap_invS4, ap_invV5, ap_invS5, tcnT, ocT, lenIT, lenWT, lenLT, lenVT, lenZT, startfT, vpL, sa_1, sa_2, sL_1, sL_2, si_1, si_2, sj_1, sj_2, ldI_e, ldL_e, ldA_e, inC_e, lk, st1, st2, rm1, rm2, Value.category, ctn_some, ctn_none, wsum, lv_args, Int32.reduceAdd, Int32.reduceSub, Int32.reduceMul, Nat.reduceAdd, Nat.reduceLT, Nat.reduceLeDiff, Nat.reduceEqDiff, Nat.reduceBEq, ↓reduceIte, true_and, and_true, Bool.false_eq_true, true_implies, false_implies, not_true_eq_false, not_false_eq_true, Bool.or_true, Bool.or_false, Bool.true_or, Bool.false_or, bx_ceq, bx_clt, bx_cge, bx_cgt, bx_cle, bx_cne, bx_zeq, bx_zlt, bx_zge, bx_zgt, bx_zle, bx_zne, iteP, vin hm6 (by decide), nIc (show m < 2 ^ 31 by omega)]
  have s2 : SP [46, 47] [] σ1 (si σ1 42 m (-1)) := SP.rf.s
  have f2 : (si σ1 42 m (-1)).1 42 = upd (σ1.1 42) m (nI 0 - 1) := by rw [si_1, if_pos rfl]; rfl
  have L2 := hL.sq s2.1 (by decide) (by decide) (by decide) (by decide) (by decide) (by decide)
  refine run_sound s9_bestOf (fun pc => pc == 22) _ 1000 _ _ _ _ ?_
  set_option maxRecDepth 100000 in simp (decide := true) only [c9_bestOf, run_s, nxt_e, ap_const, ap_lconst, ap_ild, ap_lld, ap_ald, ap_ist, ap_lst, ap_ast, ap_iinc, ap_iadd, ap_isub, ap_imul, ap_iand, ap_ior, ap_ixor, ap_ishl, ap_ishr, ap_iushr, ap_idiv, ap_irem, ap_ineg, ap_ladd, ap_lsub, ap_lmul, ap_ldiv, ap_lrem, ap_lneg, ap_lcmp, ap_i2l, ap_l2i, ap_i2b, ap_i2s, ap_dup_int, ap_pop_int, ap_dup_ref, ap_pop_ref, ap_dup2, ap_goto, ap_tsw, ap_lsw, ap_getI, ap_getJ, ap_getR, ap_putI, ap_putZ, ap_putJ, ap_iald, ap_lald, ap_bald, ap_aald, ap_iast, ap_last, ap_bast, ap_alen, ap_gst, ap_iret, ap_zret, ap_lret, ap_vret, ap_aret, ap_lmax, ap_labs, ap_acopy, ap_invV0, ap_invS0, ap_invV1, ap_invS1, ap_invV2, ap_invS2, ap_invV3, ap_invS3, ap_invV4, ap_invS4, ap_invV5, ap_invS5, tcnT, ocT, lenIT, lenWT, lenLT, lenVT, lenZT, startfT, vpL, sa_1, sa_2, sL_1, sL_2, si_1, si_2, sj_1, sj_2, ldI_e, ldL_e, ldA_e, inC_e, lk, st1, st2, rm1, rm2, Value.category, ctn_some, ctn_none, wsum, lv_args, Int32.reduceAdd, Int32.reduceSub, Int32.reduceMul, Nat.reduceAdd, Nat.reduceLT, Nat.reduceLeDiff, Nat.reduceEqDiff, Nat.reduceBEq, ↓reduceIte, true_and, and_true, Bool.false_eq_true, true_implies, false_implies, not_true_eq_false, not_false_eq_true, Bool.or_true, Bool.or_false, Bool.true_or, Bool.false_or, bx_ceq, bx_clt, bx_cge, bx_cgt, bx_cle, bx_cne, bx_zeq, bx_zlt, bx_zge, bx_zgt, bx_zle, bx_zne, iteP, eq_false (show ¬ (4 : Int32) ≤ -1 by decide), vin hm6 (by decide), nIc (show m < 2 ^ 31 by omega)]
  refine v9_meanBy (S := 63) L2 (by decide) (fun σ3 od q1 q2 q3 => ?_)
  have s3 : SP [46, 47] [] σ1 σ3 := s2.q q1 (by decide) (by decide) (by decide)
  have f3 : σ3.1 42 = upd (σ1.1 42) m (nI 0 - 1) := by rw [(q1.1 42 (by decide) (by decide)).1]; exact f2
  have L3 := hL.sq s3.1 (by decide) (by decide) (by decide) (by decide) (by decide) (by decide)
  rw [(bA_eq hL hm h42 s2 f2).1]
  set_option maxRecDepth 100000 in simp (decide := true) only [c9_bestOf, run_s, nxt_e, ap_const, ap_lconst, ap_ild, ap_lld, ap_ald, ap_ist, ap_lst, ap_ast, ap_iinc, ap_iadd, ap_isub, ap_imul, ap_iand, ap_ior, ap_ixor, ap_ishl, ap_ishr, ap_iushr, ap_idiv, ap_irem, ap_ineg, ap_ladd, ap_lsub, ap_lmul, ap_ldiv, ap_lrem, ap_lneg, ap_lcmp, ap_i2l, ap_l2i, ap_i2b, ap_i2s, ap_dup_int, ap_pop_int, ap_dup_ref, ap_pop_ref, ap_dup2, ap_goto, ap_tsw, ap_lsw, ap_getI, ap_getJ, ap_getR, ap_putI, ap_putZ, ap_putJ, ap_iald, ap_lald, ap_bald, ap_aald, ap_iast, ap_last, ap_bast, ap_alen, ap_gst, ap_iret, ap_zret, ap_lret, ap_vret, ap_aret, ap_lmax, ap_labs, ap_acopy, ap_invV0, ap_invS0, ap_invV1, ap_invS1, ap_invV2, ap_invS2, ap_invV3, ap_invS3, ap_invV4, ap_invS4, ap_invV5, ap_invS5, tcnT, ocT, lenIT, lenWT, lenLT, lenVT, lenZT, startfT, vpL, sa_1, sa_2, sL_1, sL_2, si_1, si_2, sj_1, sj_2, ldI_e, ldL_e, ldA_e, inC_e, lk, st1, st2, rm1, rm2, Value.category, ctn_some, ctn_none, wsum, lv_args, Int32.reduceAdd, Int32.reduceSub, Int32.reduceMul, Nat.reduceAdd, Nat.reduceLT, Nat.reduceLeDiff, Nat.reduceEqDiff, Nat.reduceBEq, ↓reduceIte, true_and, and_true, Bool.false_eq_true, true_implies, false_implies, not_true_eq_false, not_false_eq_true, Bool.or_true, Bool.or_false, Bool.true_or, Bool.false_or, bx_ceq, bx_clt, bx_cge, bx_cgt, bx_cle, bx_cne, bx_zeq, bx_zlt, bx_zge, bx_zgt, bx_zle, bx_zne, iteP]
  refine v9_weightAll L3.1.1 L3.2.2.2.1 hm ?_
  rw [(bA_eq hL hm h42 s3 f3).2]
  have b1 := Bb_b (j := 0) hL.1.1 hm6
  set_option maxRecDepth 100000 in simp (decide := true) only [c9_bestOf, run_s, nxt_e, ap_const, ap_lconst, ap_ild, ap_lld, ap_ald, ap_ist, ap_lst, ap_ast, ap_iinc, ap_iadd, ap_isub, ap_imul, ap_iand, ap_ior, ap_ixor, ap_ishl, ap_ishr, ap_iushr, ap_idiv, ap_irem, ap_ineg, ap_ladd, ap_lsub, ap_lmul, ap_ldiv, ap_lrem, ap_lneg, ap_lcmp, ap_i2l, ap_l2i, ap_i2b, ap_i2s, ap_dup_int, ap_pop_int, ap_dup_ref, ap_pop_ref, ap_dup2, ap_goto, ap_tsw, ap_lsw, ap_getI, ap_getJ, ap_getR, ap_putI, ap_putZ, ap_putJ, ap_iald, ap_lald, ap_bald, ap_aald, ap_iast, ap_last, ap_bast, ap_alen, ap_gst, ap_iret, ap_zret, ap_lret, ap_vret, ap_aret, ap_lmax, ap_labs, ap_acopy, ap_invV0, ap_invS0, ap_invV1, ap_invS1, ap_invV2, ap_invS2, ap_invV3, ap_invS3, ap_invV4, ap_invS4, ap_invV5, ap_invS5, tcnT, ocT, lenIT, lenWT, lenLT, lenVT, lenZT, startfT, vpL, sa_1, sa_2, sL_1, sL_2, si_1, si_2, sj_1, sj_2, ldI_e, ldL_e, ldA_e, inC_e, lk, st1, st2, rm1, rm2, Value.category, ctn_some, ctn_none, wsum, lv_args, Int32.reduceAdd, Int32.reduceSub, Int32.reduceMul, Nat.reduceAdd, Nat.reduceLT, Nat.reduceLeDiff, Nat.reduceEqDiff, Nat.reduceBEq, ↓reduceIte, true_and, and_true, Bool.false_eq_true, true_implies, false_implies, not_true_eq_false, not_false_eq_true, Bool.or_true, Bool.or_false, Bool.true_or, Bool.false_or, bx_ceq, bx_clt, bx_cge, bx_cgt, bx_cle, bx_cne, bx_zeq, bx_zlt, bx_zge, bx_zgt, bx_zle, bx_zne, iteP, nI_l (show Bb σ1 m 0 < 2 ^ 31 by omega)]
  refine (L9_best hL h42 hm (fun σ' g => ?_) 4 0 rfl σ3 s3 ⟨_, f3⟩).sub [0, 1, 2, 3, 6, 7, 8] rfl
  rw [eb]
  exact h σ' (m1.trans (g.mf (by decide) (by decide)))
theorem v9_best_bad {σ : St} {K : Kr} {n r : Nat} {m : Int32} (hP : PJ σ n r) (hb : ¬ (0 ≤ m ∧ m < σ.1 5 1)) (h : ∀ σ', sq mfl mff σ σ' → K (some (.int (-2))) σ') : VM M9_best [.ref 35, .int m] σ K := by
  refine vm_run s9_best n9_best (fun _ => false) 1000 (fun E => Nat.le_of_ble_eq_true rfl) ?_
  set_option maxRecDepth 100000 in simp (decide := true) only [c9_best, run_s, nxt_e, ap_const, ap_lconst, ap_ild, ap_lld, ap_ald, ap_ist, ap_lst, ap_ast, ap_iinc, ap_iadd, ap_isub, ap_imul, ap_iand, ap_ior, ap_ixor, ap_ishl, ap_ishr, ap_iushr, ap_idiv, ap_irem, ap_ineg, ap_ladd, ap_lsub, ap_lmul, ap_ldiv, ap_lrem, ap_lneg, ap_lcmp, ap_i2l, ap_l2i, ap_i2b, ap_i2s, ap_dup_int, ap_pop_int, ap_dup_ref, ap_pop_ref, ap_dup2, ap_goto, ap_tsw, ap_lsw, ap_getI, ap_getJ, ap_getR, ap_putI, ap_putZ, ap_putJ, ap_iald, ap_lald, ap_bald, ap_aald, ap_iast, ap_last, ap_bast, ap_alen, ap_gst, ap_iret, ap_zret, ap_lret, ap_vret, ap_aret, ap_lmax, ap_labs, ap_acopy, ap_invV0, ap_invS0, ap_invV1, ap_invS1, ap_invV2, ap_invS2, ap_invV3, ap_invS3, ap_invV4, ap_invS4, ap_invV5, ap_invS5, tcnT, ocT, lenIT, lenWT, lenLT, lenVT, lenZT, startfT, vpL, sa_1, sa_2, sL_1, sL_2, si_1, si_2, sj_1, sj_2, ldI_e, ldL_e, ldA_e, inC_e, lk, st1, st2, rm1, rm2, Value.category, ctn_some, ctn_none, wsum, lv_args, Int32.reduceAdd, Int32.reduceSub, Int32.reduceMul, Nat.reduceAdd, Nat.reduceLT, Nat.reduceLeDiff, Nat.reduceEqDiff, Nat.reduceBEq, ↓reduceIte, true_and, and_true, Bool.false_eq_true, true_implies, false_implies, not_true_eq_false, not_false_eq_true, Bool.or_true, Bool.or_false, Bool.true_or, Bool.false_or, bx_ceq, bx_clt, bx_cge, bx_cgt, bx_cle, bx_cne, bx_zeq, bx_zlt, bx_zge, bx_zgt, bx_zle, bx_zne, iteP]
  refine v9_isMember hP (fun σ1 g1 _ => ?_)
  rw [bI_f hb]
  set_option maxRecDepth 100000 in simp (decide := true) only [c9_best, run_s, nxt_e, ap_const, ap_lconst, ap_ild, ap_lld, ap_ald, ap_ist, ap_lst, ap_ast, ap_iinc, ap_iadd, ap_isub, ap_imul, ap_iand, ap_ior, ap_ixor, ap_ishl, ap_ishr, ap_iushr, ap_idiv, ap_irem, ap_ineg, ap_ladd, ap_lsub, ap_lmul, ap_ldiv, ap_lrem, ap_lneg, ap_lcmp, ap_i2l, ap_l2i, ap_i2b, ap_i2s, ap_dup_int, ap_pop_int, ap_dup_ref, ap_pop_ref, ap_dup2, ap_goto, ap_tsw, ap_lsw, ap_getI, ap_getJ, ap_getR, ap_putI, ap_putZ, ap_putJ, ap_iald, ap_lald, ap_bald, ap_aald, ap_iast, ap_last, ap_bast, ap_alen, ap_gst, ap_iret, ap_zret, ap_lret, ap_vret, ap_aret, ap_lmax, ap_labs, ap_acopy, ap_invV0, ap_invS0, ap_invV1, ap_invS1, ap_invV2, ap_invS2, ap_invV3, ap_invS3, ap_invV4, ap_invS4, ap_invV5, ap_invS5, tcnT, ocT, lenIT, lenWT, lenLT, lenVT, lenZT, startfT, vpL, sa_1, sa_2, sL_1, sL_2, si_1, si_2, sj_1, sj_2, ldI_e, ldL_e, ldA_e, inC_e, lk, st1, st2, rm1, rm2, Value.category, ctn_some, ctn_none, wsum, lv_args, Int32.reduceAdd, Int32.reduceSub, Int32.reduceMul, Nat.reduceAdd, Nat.reduceLT, Nat.reduceLeDiff, Nat.reduceEqDiff, Nat.reduceBEq, ↓reduceIte, true_and, and_true, Bool.false_eq_true, true_implies, false_implies, not_true_eq_false, not_false_eq_true, Bool.or_true, Bool.or_false, Bool.true_or, Bool.false_or, bx_ceq, bx_clt, bx_cge, bx_cgt, bx_cle, bx_cne, bx_zeq, bx_zlt, bx_zge, bx_zgt, bx_zle, bx_zne, iteP]
  exact h σ1 g1
theorem bestS_mf {σ σ' : St} {n m : Nat} (hs : sq mfl mff σ σ') : bestS σ' n m = bestS σ n m := by
  unfold bestS
  have w0 : ∀ d, (fun m k => wd σ' m k d) = (fun m k => wd σ m k d) := fun d => by funext a b; exact wd_sm hs.sm (by decide) (by decide)
  rw [ww_mf hs, wv_mf hs]
  congr 1
  · funext j; unfold Ab; rw [w0]
  · funext j; unfold Bb; rw [w0]
theorem v9_bestN {σ : St} {K : Kr} {n r m : Nat} (hP : PJ σ n r) (hm : m < n) (h : ∀ σ', sq mfl mff σ σ' → K (some (.int (nI (bestS σ n m) - 1))) σ') : VM M9_best [.ref 35, .int (nI m)] σ K := by
  have hv := hP.1.cv
  have hn := hv.1.1
  refine vm_run s9_best n9_best (fun _ => false) 1000 (fun E => Nat.le_of_ble_eq_true rfl) ?_
  set_option maxRecDepth 100000 in simp (decide := true) only [c9_best, run_s, nxt_e, ap_const, ap_lconst, ap_ild, ap_lld, ap_ald, ap_ist, ap_lst, ap_ast, ap_iinc, ap_iadd, ap_isub, ap_imul, ap_iand, ap_ior, ap_ixor, ap_ishl, ap_ishr, ap_iushr, ap_idiv, ap_irem, ap_ineg, ap_ladd, ap_lsub, ap_lmul, ap_ldiv, ap_lrem, ap_lneg, ap_lcmp, ap_i2l, ap_l2i, ap_i2b, ap_i2s, ap_dup_int, ap_pop_int, ap_dup_ref, ap_pop_ref, ap_dup2, ap_goto, ap_tsw, ap_lsw, ap_getI, ap_getJ, ap_getR, ap_putI, ap_putZ, ap_putJ, ap_iald, ap_lald, ap_bald, ap_aald, ap_iast, ap_last, ap_bast, ap_alen, ap_gst, ap_iret, ap_zret, ap_lret, ap_vret, ap_aret, ap_lmax, ap_labs, ap_acopy, ap_invV0, ap_invS0, ap_invV1, ap_invS1, ap_invV2, ap_invS2, ap_invV3, ap_invS3, ap_invV4, ap_invS4, ap_invV5, ap_invS5, tcnT, ocT, lenIT, lenWT, lenLT, lenVT, lenZT, startfT, vpL, sa_1, sa_2, sL_1, sL_2, si_1, si_2, sj_1, sj_2, ldI_e, ldL_e, ldA_e, inC_e, lk, st1, st2, rm1, rm2, Value.category, ctn_some, ctn_none, wsum, lv_args, Int32.reduceAdd, Int32.reduceSub, Int32.reduceMul, Nat.reduceAdd, Nat.reduceLT, Nat.reduceLeDiff, Nat.reduceEqDiff, Nat.reduceBEq, ↓reduceIte, true_and, and_true, Bool.false_eq_true, true_implies, false_implies, not_true_eq_false, not_false_eq_true, Bool.or_true, Bool.or_false, Bool.true_or, Bool.false_or, bx_ceq, bx_clt, bx_cge, bx_cgt, bx_cle, bx_cne, bx_zeq, bx_zlt, bx_zge, bx_zgt, bx_zle, bx_zne, iteP]
  refine v9_isMember hP (fun σ1 g1 _ => ?_)
  rw [hv.1.2.1, bI_t (inN_lt hm (by omega))]
  set_option maxRecDepth 100000 in simp (decide := true) only [c9_best, run_s, nxt_e, ap_const, ap_lconst, ap_ild, ap_lld, ap_ald, ap_ist, ap_lst, ap_ast, ap_iinc, ap_iadd, ap_isub, ap_imul, ap_iand, ap_ior, ap_ixor, ap_ishl, ap_ishr, ap_iushr, ap_idiv, ap_irem, ap_ineg, ap_ladd, ap_lsub, ap_lmul, ap_ldiv, ap_lrem, ap_lneg, ap_lcmp, ap_i2l, ap_l2i, ap_i2b, ap_i2s, ap_dup_int, ap_pop_int, ap_dup_ref, ap_pop_ref, ap_dup2, ap_goto, ap_tsw, ap_lsw, ap_getI, ap_getJ, ap_getR, ap_putI, ap_putZ, ap_putJ, ap_iald, ap_lald, ap_bald, ap_aald, ap_iast, ap_last, ap_bast, ap_alen, ap_gst, ap_iret, ap_zret, ap_lret, ap_vret, ap_aret, ap_lmax, ap_labs, ap_acopy, ap_invV0, ap_invS0, ap_invV1, ap_invS1, ap_invV2, ap_invS2, ap_invV3, ap_invS3, ap_invV4, ap_invS4, ap_invV5, ap_invS5, tcnT, ocT, lenIT, lenWT, lenLT, lenVT, lenZT, startfT, vpL, sa_1, sa_2, sL_1, sL_2, si_1, si_2, sj_1, sj_2, ldI_e, ldL_e, ldA_e, inC_e, lk, st1, st2, rm1, rm2, Value.category, ctn_some, ctn_none, wsum, lv_args, Int32.reduceAdd, Int32.reduceSub, Int32.reduceMul, Nat.reduceAdd, Nat.reduceLT, Nat.reduceLeDiff, Nat.reduceEqDiff, Nat.reduceBEq, ↓reduceIte, true_and, and_true, Bool.false_eq_true, true_implies, false_implies, not_true_eq_false, not_false_eq_true, Bool.or_true, Bool.or_false, Bool.true_or, Bool.false_or, bx_ceq, bx_clt, bx_cge, bx_cgt, bx_cle, bx_cne, bx_zeq, bx_zlt, bx_zge, bx_zgt, bx_zle, bx_zne, iteP]
  refine v9_bestOf (PJ_mf hP g1) hm (fun σ2 g2 => ?_)
  rw [bestS_mf g1]
  set_option maxRecDepth 100000 in simp (decide := true) only [c9_best, run_s, nxt_e, ap_const, ap_lconst, ap_ild, ap_lld, ap_ald, ap_ist, ap_lst, ap_ast, ap_iinc, ap_iadd, ap_isub, ap_imul, ap_iand, ap_ior, ap_ixor, ap_ishl, ap_ishr, ap_iushr, ap_idiv, ap_irem, ap_ineg, ap_ladd, ap_lsub, ap_lmul, ap_ldiv, ap_lrem, ap_lneg, ap_lcmp, ap_i2l, ap_l2i, ap_i2b, ap_i2s, ap_dup_int, ap_pop_int, ap_dup_ref, ap_pop_ref, ap_dup2, ap_goto, ap_tsw, ap_lsw, ap_getI, ap_getJ, ap_getR, ap_putI, ap_putZ, ap_putJ, ap_iald, ap_lald, ap_bald, ap_aald, ap_iast, ap_last, ap_bast, ap_alen, ap_gst, ap_iret, ap_zret, ap_lret, ap_vret, ap_aret, ap_lmax, ap_labs, ap_acopy, ap_invV0, ap_invS0, ap_invV1, ap_invS1, ap_invV2, ap_invS2, ap_invV3, ap_invS3, ap_invV4, ap_invS4, ap_invV5, ap_invS5, tcnT, ocT, lenIT, lenWT, lenLT, lenVT, lenZT, startfT, vpL, sa_1, sa_2, sL_1, sL_2, si_1, si_2, sj_1, sj_2, ldI_e, ldL_e, ldA_e, inC_e, lk, st1, st2, rm1, rm2, Value.category, ctn_some, ctn_none, wsum, lv_args, Int32.reduceAdd, Int32.reduceSub, Int32.reduceMul, Nat.reduceAdd, Nat.reduceLT, Nat.reduceLeDiff, Nat.reduceEqDiff, Nat.reduceBEq, ↓reduceIte, true_and, and_true, Bool.false_eq_true, true_implies, false_implies, not_true_eq_false, not_false_eq_true, Bool.or_true, Bool.or_false, Bool.true_or, Bool.false_or, bx_ceq, bx_clt, bx_cge, bx_cgt, bx_cle, bx_cne, bx_zeq, bx_zlt, bx_zge, bx_zgt, bx_zle, bx_zne, iteP]
  exact h σ2 (g1.trans g2)
