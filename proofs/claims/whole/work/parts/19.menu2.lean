/-! ===== part 19: the best supper, the best menu ===== -/
def oth (n m : Nat) : List Nat := Tm (nd (al n) (2 ^ m)) 0 n
theorem oth_len : ∀ n, n < 7 → ∀ m, m < n → (oth n m).length + 1 = n := by decide +kernel
theorem pow2_lt : ∀ m, m < 6 → 2 ^ m < 64 := by decide
theorem szw_b {σ : St} {n S c : Nat} (hv : CV σ n) (hc : c < 2401) (h6 : sz c + (Tm S 0 n).length ≤ 6) : -((54 * 139314069504 : Nat) : Int) ≤ F (ww σ) (wv σ) (Tm S 0 n) c ∧ F (ww σ) (wv σ) (Tm S 0 n) c ≤ ((54 * 139314069504 : Nat) : Int) := by
  have h := F_bound (w := ww σ) hv.v54 (Tm S 0 n) c hc h6
  have hn := hv.1.1
  have h2 := (PW_b (S := S) hv.wsw n 0 (by omega)).2
  have h3 : PW (ww σ) (Tm S 0 n) ≤ 72 ^ 6 := Nat.le_trans h2 (Nat.pow_le_pow_right (by decide) hn)
  rw [pow726] at h3
  have : 54 * PW (ww σ) (Tm S 0 n) ≤ 54 * 139314069504 := Nat.mul_le_mul_left _ h3
  omega
def bestS (σ : St) (n m : Nat) : Nat := bsel (Ab σ m (F (ww σ) (wv σ) (oth n m))) (Bb σ m) 4
theorem v8_bestN {σ : St} {K : Kr} {n m : Nat} (hv : CV σ n) (hm : m < n) (h : ∀ σ', sm [13, 14] σ σ' → K (some (.int (nI (bestS σ n m) - 1))) σ') : VM M8_best [.ref 0, .int (nI m)] σ K := by
  have hn := hv.1.1
  have hm6 : m < 6 := by omega
  have ha := al_lt n (by omega)
  have hnc := nd_c (al n) ha.1 (2 ^ m) (pow2_lt m hm6)
  have ho := oth_len n (by omega) m hm
  refine vm_run s8_best n8_best (fun pc => pc == 56) 1000 (fun E => Nat.le_of_ble_eq_true rfl) ?_
  simp (decide := true) only [c8_best, run_s, nxt_e, ap_const, ap_lconst, ap_ild, ap_lld, ap_ald, ap_ist, ap_lst, ap_ast, ap_iinc, ap_iadd, ap_isub, ap_imul, ap_iand, ap_ior, ap_ixor, ap_ishl, ap_ishr, ap_iushr, ap_idiv, ap_irem, ap_ineg, ap_ladd, ap_lsub, ap_lmul, ap_ldiv, ap_lrem, ap_lneg, ap_lcmp, ap_i2l, ap_l2i, ap_i2b, ap_i2s, ap_dup_int, ap_pop_int, ap_dup_ref, ap_pop_ref, ap_dup2, ap_ceq, ap_cne, ap_clt, ap_cge, ap_cgt, ap_cle, ap_zeq, ap_zne, ap_zlt, ap_zge, ap_zgt, ap_zle, ap_goto, ap_tsw, ap_lsw, ap_getI, ap_getJ, ap_getR, ap_putI, ap_putZ, ap_putJ, ap_iald, ap_lald, ap_bald, ap_aald, ap_iast, ap_last, ap_bast, ap_alen, ap_gst, ap_iret, ap_zret, ap_lret, ap_vret, ap_aret, ap_lmax, ap_labs, ap_acopy, ap_invV0, ap_invS0, ap_invV1, ap_invS1, ap_invV2, ap_invS2, ap_invV3, ap_invS3, ap_invV4, ap_invS4, ap_invV5, ap_invS5, tcnT, ocT, lenIT, lenWT, lenLT, lenVT, lenZT, startfT, vpL, sa_1, sa_2, sL_1, sL_2, si_1, si_2, sj_1, sj_2, ldI_e, ldL_e, ldA_e, inC_e, lk, st1, st2, rm1, rm2, Value.category, ctn_some, ctn_none, wsum, lv_args, Int32.reduceAdd, Int32.reduceSub, Int32.reduceMul, Nat.reduceAdd, Nat.reduceLT, Nat.reduceLeDiff, Nat.reduceEqDiff, Nat.reduceBEq, ↓reduceIte, true_and, and_true, Bool.false_eq_true, true_implies, false_implies, not_true_eq_false, not_false_eq_true]
  refine v8_isThere ?_
  have ht : (0 : Int32) ≤ nI m ∧ nI m < σ.1 5 1 := by rw [hv.1.2.1]; exact ⟨nI_pos' (by omega), nI_lt hm (by omega)⟩
  rw [bI_t ht]
  simp (decide := true) only [c8_best, run_s, nxt_e, ap_const, ap_lconst, ap_ild, ap_lld, ap_ald, ap_ist, ap_lst, ap_ast, ap_iinc, ap_iadd, ap_isub, ap_imul, ap_iand, ap_ior, ap_ixor, ap_ishl, ap_ishr, ap_iushr, ap_idiv, ap_irem, ap_ineg, ap_ladd, ap_lsub, ap_lmul, ap_ldiv, ap_lrem, ap_lneg, ap_lcmp, ap_i2l, ap_l2i, ap_i2b, ap_i2s, ap_dup_int, ap_pop_int, ap_dup_ref, ap_pop_ref, ap_dup2, ap_ceq, ap_cne, ap_clt, ap_cge, ap_cgt, ap_cle, ap_zeq, ap_zne, ap_zlt, ap_zge, ap_zgt, ap_zle, ap_goto, ap_tsw, ap_lsw, ap_getI, ap_getJ, ap_getR, ap_putI, ap_putZ, ap_putJ, ap_iald, ap_lald, ap_bald, ap_aald, ap_iast, ap_last, ap_bast, ap_alen, ap_gst, ap_iret, ap_zret, ap_lret, ap_vret, ap_aret, ap_lmax, ap_labs, ap_acopy, ap_invV0, ap_invS0, ap_invV1, ap_invS1, ap_invV2, ap_invS2, ap_invV3, ap_invS3, ap_invV4, ap_invS4, ap_invV5, ap_invS5, tcnT, ocT, lenIT, lenWT, lenLT, lenVT, lenZT, startfT, vpL, sa_1, sa_2, sL_1, sL_2, si_1, si_2, sj_1, sj_2, ldI_e, ldL_e, ldA_e, inC_e, lk, st1, st2, rm1, rm2, Value.category, ctn_some, ctn_none, wsum, lv_args, Int32.reduceAdd, Int32.reduceSub, Int32.reduceMul, Nat.reduceAdd, Nat.reduceLT, Nat.reduceLeDiff, Nat.reduceEqDiff, Nat.reduceBEq, ↓reduceIte, true_and, and_true, Bool.false_eq_true, true_implies, false_implies, not_true_eq_false, not_false_eq_true, shl_c m hm6]
  refine v8_all hv.1 ?_
  simp (decide := true) only [c8_best, run_s, nxt_e, ap_const, ap_lconst, ap_ild, ap_lld, ap_ald, ap_ist, ap_lst, ap_ast, ap_iinc, ap_iadd, ap_isub, ap_imul, ap_iand, ap_ior, ap_ixor, ap_ishl, ap_ishr, ap_iushr, ap_idiv, ap_irem, ap_ineg, ap_ladd, ap_lsub, ap_lmul, ap_ldiv, ap_lrem, ap_lneg, ap_lcmp, ap_i2l, ap_l2i, ap_i2b, ap_i2s, ap_dup_int, ap_pop_int, ap_dup_ref, ap_pop_ref, ap_dup2, ap_ceq, ap_cne, ap_clt, ap_cge, ap_cgt, ap_cle, ap_zeq, ap_zne, ap_zlt, ap_zge, ap_zgt, ap_zle, ap_goto, ap_tsw, ap_lsw, ap_getI, ap_getJ, ap_getR, ap_putI, ap_putZ, ap_putJ, ap_iald, ap_lald, ap_bald, ap_aald, ap_iast, ap_last, ap_bast, ap_alen, ap_gst, ap_iret, ap_zret, ap_lret, ap_vret, ap_aret, ap_lmax, ap_labs, ap_acopy, ap_invV0, ap_invS0, ap_invV1, ap_invS1, ap_invV2, ap_invS2, ap_invV3, ap_invS3, ap_invV4, ap_invS4, ap_invV5, ap_invS5, tcnT, ocT, lenIT, lenWT, lenLT, lenVT, lenZT, startfT, vpL, sa_1, sa_2, sL_1, sL_2, si_1, si_2, sj_1, sj_2, ldI_e, ldL_e, ldA_e, inC_e, lk, st1, st2, rm1, rm2, Value.category, ctn_some, ctn_none, wsum, lv_args, Int32.reduceAdd, Int32.reduceSub, Int32.reduceMul, Nat.reduceAdd, Nat.reduceLT, Nat.reduceLeDiff, Nat.reduceEqDiff, Nat.reduceBEq, ↓reduceIte, true_and, and_true, Bool.false_eq_true, true_implies, false_implies, not_true_eq_false, not_false_eq_true, hnc.1, hv.1.2.1]
  refine v8_foldWorth hv.1 hv.2.1 hv.2.2.1 hnc.2 hn (Tm_len _ _ _) ?_
  intro σ1 hs1 hF
  have hv1 := hv.sm hs1 (by decide) (by decide) (by decide) (by decide) (by decide) (by decide)
  have hval : ∀ c, c < 2401 → sz c = 1 → σ1.2 13 (pl c) = Int64.ofInt (F (ww σ) (wv σ) (oth n m) c) := fun c hc hcs => hF c hc (by unfold oth at ho; omega)
  simp (decide := true) only [c8_best, run_s, nxt_e, ap_const, ap_lconst, ap_ild, ap_lld, ap_ald, ap_ist, ap_lst, ap_ast, ap_iinc, ap_iadd, ap_isub, ap_imul, ap_iand, ap_ior, ap_ixor, ap_ishl, ap_ishr, ap_iushr, ap_idiv, ap_irem, ap_ineg, ap_ladd, ap_lsub, ap_lmul, ap_ldiv, ap_lrem, ap_lneg, ap_lcmp, ap_i2l, ap_l2i, ap_i2b, ap_i2s, ap_dup_int, ap_pop_int, ap_dup_ref, ap_pop_ref, ap_dup2, ap_ceq, ap_cne, ap_clt, ap_cge, ap_cgt, ap_cle, ap_zeq, ap_zne, ap_zlt, ap_zge, ap_zgt, ap_zle, ap_goto, ap_tsw, ap_lsw, ap_getI, ap_getJ, ap_getR, ap_putI, ap_putZ, ap_putJ, ap_iald, ap_lald, ap_bald, ap_aald, ap_iast, ap_last, ap_bast, ap_alen, ap_gst, ap_iret, ap_zret, ap_lret, ap_vret, ap_aret, ap_lmax, ap_labs, ap_acopy, ap_invV0, ap_invS0, ap_invV1, ap_invS1, ap_invV2, ap_invS2, ap_invV3, ap_invS3, ap_invV4, ap_invS4, ap_invV5, ap_invS5, tcnT, ocT, lenIT, lenWT, lenLT, lenVT, lenZT, startfT, vpL, sa_1, sa_2, sL_1, sL_2, si_1, si_2, sj_1, sj_2, ldI_e, ldL_e, ldA_e, inC_e, lk, st1, st2, rm1, rm2, Value.category, ctn_some, ctn_none, wsum, lv_args, Int32.reduceAdd, Int32.reduceSub, Int32.reduceMul, Nat.reduceAdd, Nat.reduceLT, Nat.reduceLeDiff, Nat.reduceEqDiff, Nat.reduceBEq, ↓reduceIte, true_and, and_true, Bool.false_eq_true, true_implies, false_implies, not_true_eq_false, not_false_eq_true]
  refine v8_aboveWithDish hv1.1 hv1.2.1 hm6 hval ?_
  simp (decide := true) only [c8_best, run_s, nxt_e, ap_const, ap_lconst, ap_ild, ap_lld, ap_ald, ap_ist, ap_lst, ap_ast, ap_iinc, ap_iadd, ap_isub, ap_imul, ap_iand, ap_ior, ap_ixor, ap_ishl, ap_ishr, ap_iushr, ap_idiv, ap_irem, ap_ineg, ap_ladd, ap_lsub, ap_lmul, ap_ldiv, ap_lrem, ap_lneg, ap_lcmp, ap_i2l, ap_l2i, ap_i2b, ap_i2s, ap_dup_int, ap_pop_int, ap_dup_ref, ap_pop_ref, ap_dup2, ap_ceq, ap_cne, ap_clt, ap_cge, ap_cgt, ap_cle, ap_zeq, ap_zne, ap_zlt, ap_zge, ap_zgt, ap_zle, ap_goto, ap_tsw, ap_lsw, ap_getI, ap_getJ, ap_getR, ap_putI, ap_putZ, ap_putJ, ap_iald, ap_lald, ap_bald, ap_aald, ap_iast, ap_last, ap_bast, ap_alen, ap_gst, ap_iret, ap_zret, ap_lret, ap_vret, ap_aret, ap_lmax, ap_labs, ap_acopy, ap_invV0, ap_invS0, ap_invV1, ap_invS1, ap_invV2, ap_invS2, ap_invV3, ap_invS3, ap_invV4, ap_invS4, ap_invV5, ap_invS5, tcnT, ocT, lenIT, lenWT, lenLT, lenVT, lenZT, startfT, vpL, sa_1, sa_2, sL_1, sL_2, si_1, si_2, sj_1, sj_2, ldI_e, ldL_e, ldA_e, inC_e, lk, st1, st2, rm1, rm2, Value.category, ctn_some, ctn_none, wsum, lv_args, Int32.reduceAdd, Int32.reduceSub, Int32.reduceMul, Nat.reduceAdd, Nat.reduceLT, Nat.reduceLeDiff, Nat.reduceEqDiff, Nat.reduceBEq, ↓reduceIte, true_and, and_true, Bool.false_eq_true, true_implies, false_implies, not_true_eq_false, not_false_eq_true]
  refine v8_weights hv1.1 hm6 ?_
  have b1 := Bb_b (j := 0) hv1.1 hm6
  have eB : ws4 (fun m k => wd σ1 m k (-1)) m = Bb σ1 m 0 := rfl
  rw [eB]
  simp (decide := true) only [c8_best, run_s, nxt_e, ap_const, ap_lconst, ap_ild, ap_lld, ap_ald, ap_ist, ap_lst, ap_ast, ap_iinc, ap_iadd, ap_isub, ap_imul, ap_iand, ap_ior, ap_ixor, ap_ishl, ap_ishr, ap_iushr, ap_idiv, ap_irem, ap_ineg, ap_ladd, ap_lsub, ap_lmul, ap_ldiv, ap_lrem, ap_lneg, ap_lcmp, ap_i2l, ap_l2i, ap_i2b, ap_i2s, ap_dup_int, ap_pop_int, ap_dup_ref, ap_pop_ref, ap_dup2, ap_ceq, ap_cne, ap_clt, ap_cge, ap_cgt, ap_cle, ap_zeq, ap_zne, ap_zlt, ap_zge, ap_zgt, ap_zle, ap_goto, ap_tsw, ap_lsw, ap_getI, ap_getJ, ap_getR, ap_putI, ap_putZ, ap_putJ, ap_iald, ap_lald, ap_bald, ap_aald, ap_iast, ap_last, ap_bast, ap_alen, ap_gst, ap_iret, ap_zret, ap_lret, ap_vret, ap_aret, ap_lmax, ap_labs, ap_acopy, ap_invV0, ap_invS0, ap_invV1, ap_invS1, ap_invV2, ap_invS2, ap_invV3, ap_invS3, ap_invV4, ap_invS4, ap_invV5, ap_invS5, tcnT, ocT, lenIT, lenWT, lenLT, lenVT, lenZT, startfT, vpL, sa_1, sa_2, sL_1, sL_2, si_1, si_2, sj_1, sj_2, ldI_e, ldL_e, ldA_e, inC_e, lk, st1, st2, rm1, rm2, Value.category, ctn_some, ctn_none, wsum, lv_args, Int32.reduceAdd, Int32.reduceSub, Int32.reduceMul, Nat.reduceAdd, Nat.reduceLT, Nat.reduceLeDiff, Nat.reduceEqDiff, Nat.reduceBEq, ↓reduceIte, true_and, and_true, Bool.false_eq_true, true_implies, false_implies, not_true_eq_false, not_false_eq_true, nI_l (show Bb σ1 m 0 < 2 ^ 31 by omega)]
  have eS : bsel (Ab σ1 m (F (ww σ) (wv σ) (oth n m))) (Bb σ1 m) 4 = bestS σ n m := by
    have e1 : Ab σ1 m (F (ww σ) (wv σ) (oth n m)) = Ab σ m (F (ww σ) (wv σ) (oth n m)) := by
      funext j
      unfold Ab
      have : (fun m k => wd σ1 m k (nI j - 1)) = (fun m k => wd σ m k (nI j - 1)) := by
        funext a b
        exact wd_sm hs1 (by decide) (by decide)
      rw [this]
    have e2 : Bb σ1 m = Bb σ m := by
      funext j
      unfold Bb
      have : (fun m k => wd σ1 m k (nI j - 1)) = (fun m k => wd σ m k (nI j - 1)) := by
        funext a b
        exact wd_sm hs1 (by decide) (by decide)
      rw [this]
    rw [e1, e2]
    rfl
  have hk := L8_best (K := K) hv1.1 hv1.2.1 hm6 hval (Nat.le_refl _) (fun k hk => szw_b hv (sz_pw k hk).1 (by have := (sz_pw k hk).2.1; unfold oth at ho; omega)) (by rw [eS]; exact h σ1 hs1) 4 0 (by decide)
  exact hk.sub [0, 1, 2, 3, 5, 6] rfl
/-! the best menu -/
def msel (A : Nat → Int) : Nat → Nat
  | 0 => 0
  | i + 1 => if A (msel A i) < A (i + 1) then i + 1 else msel A i
theorem msel_le (A : Nat → Int) : ∀ i, msel A i ≤ i := by
  intro i
  induction i with
  | zero => exact Nat.le_refl _
  | succ i ih => simp only [msel]; split <;> omega
def hiM (n k : Nat) : List Nat := Tm (nd (al n) (al k)) 0 n
theorem hi_c : ∀ n, n < 7 → ∀ k, k < 4 → nI (al n) &&& -((1 : Int32) <<< (nI k &&& 31)) = nI (nd (al n) (al k)) := by decide +kernel
theorem lohi : ∀ n, n < 7 → ∀ k, k ≤ n → Tm (al k) 0 n ++ hiM n k = Tm (al n) 0 n ∧ (hiM n k).length + k = n ∧ (hiM n k).all (fun m => decide (k ≤ m)) = true := by decide +kernel
def AM (σ : St) (n k mn : Nat) : Int := F (wmn σ k mn) (wv σ) (Tm (al n) 0 n) 0
theorem AM_eq {σ : St} {n k mn : Nat} (hn : n < 7) (hk : k ≤ n) : F (wmn σ k mn) (F (ww σ) (wv σ) (hiM n k)) (Tm (al k) 0 n) 0 = AM σ n k mn := by
  obtain ⟨h1, -, h3⟩ := lohi n hn k hk
  unfold AM
  rw [← h1, F_app]
  have : F (ww σ) (wv σ) (hiM n k) = F (wmn σ k mn) (wv σ) (hiM n k) := by
    funext c
    refine F_congr (fun m hm j hj => ?_) c
    have h4 := of_decide_eq_true (List.all_eq_true.mp h3 m hm)
    unfold ww wmn trf
    rw [if_neg (by omega)]
  rw [this]
theorem AM_b {σ : St} {n k mn : Nat} (hv : CV σ n) : -((54 * 139314069504 : Nat) : Int) ≤ AM σ n k mn ∧ AM σ n k mn ≤ ((54 * 139314069504 : Nat) : Int) := by
  have hn := hv.1.1
  have hl := Tm_len (al n) n 0
  have h := F_bound (w := wmn σ k mn) hv.v54 (Tm (al n) 0 n) 0 (by decide) (by have : sz 0 = 0 := rfl; omega)
  have h2 := (PW_b (S := al n) (w := wmn σ k mn) (hv.ws (o := 0) (trf σ k mn)) n 0 (by omega)).2
  have h3 : PW (wmn σ k mn) (Tm (al n) 0 n) ≤ 72 ^ 6 := Nat.le_trans h2 (Nat.pow_le_pow_right (by decide) hn)
  rw [pow726] at h3
  have : 54 * PW (wmn σ k mn) (Tm (al n) 0 n) ≤ 54 * 139314069504 := Nat.mul_le_mul_left _ h3
  unfold AM
  omega
theorem trf_sm {σ σ' : St} {l : List Nat} {k mn : Nat} (hs : sm l σ σ') (h29 : 29 ∉ l) : trf σ' k mn = trf σ k mn := by
  funext j
  unfold trf
  rw [(hs 29 h29).1]
theorem wmn_sm {σ σ' : St} {l : List Nat} {k mn : Nat} (hs : sm l σ σ') (h0 : 0 ∉ l) (h6 : 6 ∉ l) (h29 : 29 ∉ l) : wmn σ' k mn = wmn σ k mn := by
  funext m j
  unfold wmn
  rw [trf_sm hs h29, wd_sm hs h0 h6]
theorem AM_sm {σ σ' : St} {l : List Nat} {n k mn : Nat} (hs : sm l σ σ') (h0 : 0 ∉ l) (h6 : 6 ∉ l) (h29 : 29 ∉ l) (h11 : 11 ∉ l) : AM σ' n k mn = AM σ n k mn := by
  unfold AM
  rw [wmn_sm hs h0 h6 h29, wvf_sm hs h0 h11]
theorem sh4 : ∀ k, k < 4 → (1 : Int32) <<< (2 * nI k &&& 31) = nI (4 ^ k) := by decide +kernel
theorem L8_bestMenu {σ : St} {K : Kr} {n k : Nat} (hv : CV σ n) (hk : k < 4) (hkn : k ≤ n)
    (h : ∀ σ', sm [13, 14, 30] σ σ' → (∀ c, c < 2401 → sz c = k → σ'.2 13 (pl c) = Int64.ofInt (F (ww σ) (wv σ) (hiM n k) c)) → K (some (.int (nI (msel (AM σ n k) (4 ^ k - 1))))) σ') :
    ∀ (d i : Nat), i + d = 4 ^ k → 0 < i → ∀ σ1, sm [13, 14, 30] σ σ1 → (∀ c, c < 2401 → sz c = k → σ1.2 13 (pl c) = Int64.ofInt (F (ww σ) (wv σ) (hiM n k) c)) →
      VW M8_bestMenu Xt K 32 [(5, .int (nI i)), (3, .long (Int64.ofInt (AM σ n k (msel (AM σ n k) (i - 1))))), (2, .int (nI (msel (AM σ n k) (i - 1)))), (0, .ref 0), (1, .int (nI k))] [] σ1 := by
  have hn := hv.1.1
  have h64 : 4 ^ k ≤ 64 := (by decide : ∀ k, k < 4 → 4 ^ k ≤ 64) k hk
  intro d
  induction d with
  | zero =>
    intro i hi h0 σ1 hs hval
    have : i = 4 ^ k := by omega
    subst this
    refine run_sound s8_bestMenu (fun pc => pc == 32) _ 1000 _ _ _ _ ?_
    simp (decide := true) only [c8_bestMenu, run_s, nxt_e, ap_const, ap_lconst, ap_ild, ap_lld, ap_ald, ap_ist, ap_lst, ap_ast, ap_iinc, ap_iadd, ap_isub, ap_imul, ap_iand, ap_ior, ap_ixor, ap_ishl, ap_ishr, ap_iushr, ap_idiv, ap_irem, ap_ineg, ap_ladd, ap_lsub, ap_lmul, ap_ldiv, ap_lrem, ap_lneg, ap_lcmp, ap_i2l, ap_l2i, ap_i2b, ap_i2s, ap_dup_int, ap_pop_int, ap_dup_ref, ap_pop_ref, ap_dup2, ap_ceq, ap_cne, ap_clt, ap_cge, ap_cgt, ap_cle, ap_zeq, ap_zne, ap_zlt, ap_zge, ap_zgt, ap_zle, ap_goto, ap_tsw, ap_lsw, ap_getI, ap_getJ, ap_getR, ap_putI, ap_putZ, ap_putJ, ap_iald, ap_lald, ap_bald, ap_aald, ap_iast, ap_last, ap_bast, ap_alen, ap_gst, ap_iret, ap_zret, ap_lret, ap_vret, ap_aret, ap_lmax, ap_labs, ap_acopy, ap_invV0, ap_invS0, ap_invV1, ap_invS1, ap_invV2, ap_invS2, ap_invV3, ap_invS3, ap_invV4, ap_invS4, ap_invV5, ap_invS5, tcnT, ocT, lenIT, lenWT, lenLT, lenVT, lenZT, startfT, vpL, sa_1, sa_2, sL_1, sL_2, si_1, si_2, sj_1, sj_2, ldI_e, ldL_e, ldA_e, inC_e, lk, st1, st2, rm1, rm2, Value.category, ctn_some, ctn_none, wsum, lv_args, Int32.reduceAdd, Int32.reduceSub, Int32.reduceMul, Nat.reduceAdd, Nat.reduceLT, Nat.reduceLeDiff, Nat.reduceEqDiff, Nat.reduceBEq, ↓reduceIte, true_and, and_true, Bool.false_eq_true, true_implies, false_implies, not_true_eq_false, not_false_eq_true, sh4 k hk, eq_true (nI_le (Nat.le_refl (4 ^ k)) (by omega))]
    exact h σ1 hs hval
  | succ d ih =>
    intro i hi h0 σ1 hs hval
    have hv1 := hv.sm hs (by decide) (by decide) (by decide) (by decide) (by decide) (by decide)
    obtain ⟨j, rfl⟩ : ∃ j, i = j + 1 := ⟨i - 1, by omega⟩
    refine run_sound s8_bestMenu (fun pc => pc == 32) _ 1000 _ _ _ _ ?_
    simp (decide := true) only [c8_bestMenu, run_s, nxt_e, ap_const, ap_lconst, ap_ild, ap_lld, ap_ald, ap_ist, ap_lst, ap_ast, ap_iinc, ap_iadd, ap_isub, ap_imul, ap_iand, ap_ior, ap_ixor, ap_ishl, ap_ishr, ap_iushr, ap_idiv, ap_irem, ap_ineg, ap_ladd, ap_lsub, ap_lmul, ap_ldiv, ap_lrem, ap_lneg, ap_lcmp, ap_i2l, ap_l2i, ap_i2b, ap_i2s, ap_dup_int, ap_pop_int, ap_dup_ref, ap_pop_ref, ap_dup2, ap_ceq, ap_cne, ap_clt, ap_cge, ap_cgt, ap_cle, ap_zeq, ap_zne, ap_zlt, ap_zge, ap_zgt, ap_zle, ap_goto, ap_tsw, ap_lsw, ap_getI, ap_getJ, ap_getR, ap_putI, ap_putZ, ap_putJ, ap_iald, ap_lald, ap_bald, ap_aald, ap_iast, ap_last, ap_bast, ap_alen, ap_gst, ap_iret, ap_zret, ap_lret, ap_vret, ap_aret, ap_lmax, ap_labs, ap_acopy, ap_invV0, ap_invS0, ap_invV1, ap_invS1, ap_invV2, ap_invS2, ap_invV3, ap_invS3, ap_invV4, ap_invS4, ap_invV5, ap_invS5, tcnT, ocT, lenIT, lenWT, lenLT, lenVT, lenZT, startfT, vpL, sa_1, sa_2, sL_1, sL_2, si_1, si_2, sj_1, sj_2, ldI_e, ldL_e, ldA_e, inC_e, lk, st1, st2, rm1, rm2, Value.category, ctn_some, ctn_none, wsum, lv_args, Int32.reduceAdd, Int32.reduceSub, Int32.reduceMul, Nat.reduceAdd, Nat.reduceLT, Nat.reduceLeDiff, Nat.reduceEqDiff, Nat.reduceBEq, ↓reduceIte, true_and, and_true, Bool.false_eq_true, true_implies, false_implies, not_true_eq_false, not_false_eq_true, sh4 k hk, eq_false (nI_ge (show j + 1 < 4 ^ k by omega) (by omega))]
    refine v8_aboveWithMenu hv1 hk hkn (by omega) hval ?_
    intro σ2 hs2 hup htr
    have hs02 := hs.trans hs2
    have eA : F (wmn σ1 k (j + 1)) (F (ww σ) (wv σ) (hiM n k)) (Tm (al k) 0 n) 0 = AM σ n k (j + 1) := by
      rw [wmn_sm hs (by decide) (by decide) (by decide)]
      exact AM_eq (by omega) hkn
    rw [eA]
    have b1 := AM_b (k := k) (mn := j + 1) hv
    have b2 := AM_b (k := k) (mn := msel (AM σ n k) j) hv
    have hc : (Int64.ofInt (AM σ n k (j + 1)) ≤ Int64.ofInt (AM σ n k (msel (AM σ n k) j))) ↔ AM σ n k (j + 1) ≤ AM σ n k (msel (AM σ n k) j) := cmpI (by omega) (by omega)
    have hval2 : ∀ c, c < 2401 → sz c = k → σ2.2 13 (pl c) = Int64.ofInt (F (ww σ) (wv σ) (hiM n k) c) := fun c hc hcs => by
      rw [hup _ (by have := (pl_spec hc (by omega)).2.2.1; rw [hcs] at this; exact this)]
      exact hval c hc hcs
    have hii := ih (j + 1 + 1) (by omega) (by omega) σ2 hs02 hval2
    have ej : j + 1 + 1 - 1 = j + 1 := by omega
    have ej2 : j + 1 - 1 = j := by omega
    rw [ej] at hii
    rw [ej2]
    simp (decide := true) only [c8_bestMenu, run_s, nxt_e, ap_const, ap_lconst, ap_ild, ap_lld, ap_ald, ap_ist, ap_lst, ap_ast, ap_iinc, ap_iadd, ap_isub, ap_imul, ap_iand, ap_ior, ap_ixor, ap_ishl, ap_ishr, ap_iushr, ap_idiv, ap_irem, ap_ineg, ap_ladd, ap_lsub, ap_lmul, ap_ldiv, ap_lrem, ap_lneg, ap_lcmp, ap_i2l, ap_l2i, ap_i2b, ap_i2s, ap_dup_int, ap_pop_int, ap_dup_ref, ap_pop_ref, ap_dup2, ap_ceq, ap_cne, ap_clt, ap_cge, ap_cgt, ap_cle, ap_zeq, ap_zne, ap_zlt, ap_zge, ap_zgt, ap_zle, ap_goto, ap_tsw, ap_lsw, ap_getI, ap_getJ, ap_getR, ap_putI, ap_putZ, ap_putJ, ap_iald, ap_lald, ap_bald, ap_aald, ap_iast, ap_last, ap_bast, ap_alen, ap_gst, ap_iret, ap_zret, ap_lret, ap_vret, ap_aret, ap_lmax, ap_labs, ap_acopy, ap_invV0, ap_invS0, ap_invV1, ap_invS1, ap_invV2, ap_invS2, ap_invV3, ap_invS3, ap_invV4, ap_invS4, ap_invV5, ap_invS5, tcnT, ocT, lenIT, lenWT, lenLT, lenVT, lenZT, startfT, vpL, sa_1, sa_2, sL_1, sL_2, si_1, si_2, sj_1, sj_2, ldI_e, ldL_e, ldA_e, inC_e, lk, st1, st2, rm1, rm2, Value.category, ctn_some, ctn_none, wsum, lv_args, Int32.reduceAdd, Int32.reduceSub, Int32.reduceMul, Nat.reduceAdd, Nat.reduceLT, Nat.reduceLeDiff, Nat.reduceEqDiff, Nat.reduceBEq, ↓reduceIte, true_and, and_true, Bool.false_eq_true, true_implies, false_implies, not_true_eq_false, not_false_eq_true, lg_cmp_le, hc, nI_1]
    refine ⟨fun q => ?_, fun q => ?_⟩
    · have e : msel (AM σ n k) (j + 1) = msel (AM σ n k) j := if_neg (by omega)
      rw [e] at hii
      exact hii.sub [0, 2, 3, 4, 5] rfl
    · have e : msel (AM σ n k) (j + 1) = j + 1 := if_pos (by omega)
      rw [e] at hii
      exact hii.sub [0, 1, 2, 4, 5] rfl
theorem v8_bestMenu {σ : St} {K : Kr} {n k : Nat} (hv : CV σ n) (hk : k < 4) (hkn : k ≤ n)
    (h : ∀ σ', sm [13, 14, 30] σ σ' → (∀ c, c < 2401 → sz c = k → σ'.2 13 (pl c) = Int64.ofInt (F (ww σ) (wv σ) (hiM n k) c)) → K (some (.int (nI (msel (AM σ n k) (4 ^ k - 1))))) σ') : VM M8_bestMenu [.ref 0, .int (nI k)] σ K := by
  have hn := hv.1.1
  have ha := al_lt n (by omega)
  obtain ⟨-, hl2, -⟩ := lohi n (by omega) k hkn
  have hnd : nd (al n) (al k) < 64 := by have : nd (al n) (al k) ≤ al n := Nat.and_le_left; omega
  refine vm_run s8_bestMenu n8_bestMenu (fun pc => pc == 32) 1000 (fun E => Nat.le_of_ble_eq_true rfl) ?_
  simp (decide := true) only [c8_bestMenu, run_s, nxt_e, ap_const, ap_lconst, ap_ild, ap_lld, ap_ald, ap_ist, ap_lst, ap_ast, ap_iinc, ap_iadd, ap_isub, ap_imul, ap_iand, ap_ior, ap_ixor, ap_ishl, ap_ishr, ap_iushr, ap_idiv, ap_irem, ap_ineg, ap_ladd, ap_lsub, ap_lmul, ap_ldiv, ap_lrem, ap_lneg, ap_lcmp, ap_i2l, ap_l2i, ap_i2b, ap_i2s, ap_dup_int, ap_pop_int, ap_dup_ref, ap_pop_ref, ap_dup2, ap_ceq, ap_cne, ap_clt, ap_cge, ap_cgt, ap_cle, ap_zeq, ap_zne, ap_zlt, ap_zge, ap_zgt, ap_zle, ap_goto, ap_tsw, ap_lsw, ap_getI, ap_getJ, ap_getR, ap_putI, ap_putZ, ap_putJ, ap_iald, ap_lald, ap_bald, ap_aald, ap_iast, ap_last, ap_bast, ap_alen, ap_gst, ap_iret, ap_zret, ap_lret, ap_vret, ap_aret, ap_lmax, ap_labs, ap_acopy, ap_invV0, ap_invS0, ap_invV1, ap_invS1, ap_invV2, ap_invS2, ap_invV3, ap_invS3, ap_invV4, ap_invS4, ap_invV5, ap_invS5, tcnT, ocT, lenIT, lenWT, lenLT, lenVT, lenZT, startfT, vpL, sa_1, sa_2, sL_1, sL_2, si_1, si_2, sj_1, sj_2, ldI_e, ldL_e, ldA_e, inC_e, lk, st1, st2, rm1, rm2, Value.category, ctn_some, ctn_none, wsum, lv_args, Int32.reduceAdd, Int32.reduceSub, Int32.reduceMul, Nat.reduceAdd, Nat.reduceLT, Nat.reduceLeDiff, Nat.reduceEqDiff, Nat.reduceBEq, ↓reduceIte, true_and, and_true, Bool.false_eq_true, true_implies, false_implies, not_true_eq_false, not_false_eq_true]
  refine v8_all hv.1 ?_
  simp (decide := true) only [c8_bestMenu, run_s, nxt_e, ap_const, ap_lconst, ap_ild, ap_lld, ap_ald, ap_ist, ap_lst, ap_ast, ap_iinc, ap_iadd, ap_isub, ap_imul, ap_iand, ap_ior, ap_ixor, ap_ishl, ap_ishr, ap_iushr, ap_idiv, ap_irem, ap_ineg, ap_ladd, ap_lsub, ap_lmul, ap_ldiv, ap_lrem, ap_lneg, ap_lcmp, ap_i2l, ap_l2i, ap_i2b, ap_i2s, ap_dup_int, ap_pop_int, ap_dup_ref, ap_pop_ref, ap_dup2, ap_ceq, ap_cne, ap_clt, ap_cge, ap_cgt, ap_cle, ap_zeq, ap_zne, ap_zlt, ap_zge, ap_zgt, ap_zle, ap_goto, ap_tsw, ap_lsw, ap_getI, ap_getJ, ap_getR, ap_putI, ap_putZ, ap_putJ, ap_iald, ap_lald, ap_bald, ap_aald, ap_iast, ap_last, ap_bast, ap_alen, ap_gst, ap_iret, ap_zret, ap_lret, ap_vret, ap_aret, ap_lmax, ap_labs, ap_acopy, ap_invV0, ap_invS0, ap_invV1, ap_invS1, ap_invV2, ap_invS2, ap_invV3, ap_invS3, ap_invV4, ap_invS4, ap_invV5, ap_invS5, tcnT, ocT, lenIT, lenWT, lenLT, lenVT, lenZT, startfT, vpL, sa_1, sa_2, sL_1, sL_2, si_1, si_2, sj_1, sj_2, ldI_e, ldL_e, ldA_e, inC_e, lk, st1, st2, rm1, rm2, Value.category, ctn_some, ctn_none, wsum, lv_args, Int32.reduceAdd, Int32.reduceSub, Int32.reduceMul, Nat.reduceAdd, Nat.reduceLT, Nat.reduceLeDiff, Nat.reduceEqDiff, Nat.reduceBEq, ↓reduceIte, true_and, and_true, Bool.false_eq_true, true_implies, false_implies, not_true_eq_false, not_false_eq_true, hi_c n (by omega) k hk, hv.1.2.1]
  refine v8_foldWorth hv.1 hv.2.1 hv.2.2.1 hnd hn (Tm_len _ _ _) ?_
  intro σ1 hs1 hF
  have hv1 := hv.sm hs1 (by decide) (by decide) (by decide) (by decide) (by decide) (by decide)
  have hval : ∀ c, c < 2401 → sz c = k → σ1.2 13 (pl c) = Int64.ofInt (F (ww σ) (wv σ) (hiM n k) c) := fun c hc hcs => hF c hc (by unfold hiM at hl2; omega)
  simp (decide := true) only [c8_bestMenu, run_s, nxt_e, ap_const, ap_lconst, ap_ild, ap_lld, ap_ald, ap_ist, ap_lst, ap_ast, ap_iinc, ap_iadd, ap_isub, ap_imul, ap_iand, ap_ior, ap_ixor, ap_ishl, ap_ishr, ap_iushr, ap_idiv, ap_irem, ap_ineg, ap_ladd, ap_lsub, ap_lmul, ap_ldiv, ap_lrem, ap_lneg, ap_lcmp, ap_i2l, ap_l2i, ap_i2b, ap_i2s, ap_dup_int, ap_pop_int, ap_dup_ref, ap_pop_ref, ap_dup2, ap_ceq, ap_cne, ap_clt, ap_cge, ap_cgt, ap_cle, ap_zeq, ap_zne, ap_zlt, ap_zge, ap_zgt, ap_zle, ap_goto, ap_tsw, ap_lsw, ap_getI, ap_getJ, ap_getR, ap_putI, ap_putZ, ap_putJ, ap_iald, ap_lald, ap_bald, ap_aald, ap_iast, ap_last, ap_bast, ap_alen, ap_gst, ap_iret, ap_zret, ap_lret, ap_vret, ap_aret, ap_lmax, ap_labs, ap_acopy, ap_invV0, ap_invS0, ap_invV1, ap_invS1, ap_invV2, ap_invS2, ap_invV3, ap_invS3, ap_invV4, ap_invS4, ap_invV5, ap_invS5, tcnT, ocT, lenIT, lenWT, lenLT, lenVT, lenZT, startfT, vpL, sa_1, sa_2, sL_1, sL_2, si_1, si_2, sj_1, sj_2, ldI_e, ldL_e, ldA_e, inC_e, lk, st1, st2, rm1, rm2, Value.category, ctn_some, ctn_none, wsum, lv_args, Int32.reduceAdd, Int32.reduceSub, Int32.reduceMul, Nat.reduceAdd, Nat.reduceLT, Nat.reduceLeDiff, Nat.reduceEqDiff, Nat.reduceBEq, ↓reduceIte, true_and, and_true, Bool.false_eq_true, true_implies, false_implies, not_true_eq_false, not_false_eq_true]
  refine v8_aboveWithMenu (mn := 0) hv1 hk hkn (by decide) hval ?_
  intro σ2 hs2 hup htr
  have hs02 : sm [13, 14, 30] σ σ2 := (hs1.mono (by simp)).trans hs2
  have eA : F (wmn σ1 k 0) (F (ww σ) (wv σ) (hiM n k)) (Tm (al k) 0 n) 0 = AM σ n k 0 := by
    rw [wmn_sm hs1 (by decide) (by decide) (by decide)]
    exact AM_eq (by omega) hkn
  rw [eA]
  simp (decide := true) only [c8_bestMenu, run_s, nxt_e, ap_const, ap_lconst, ap_ild, ap_lld, ap_ald, ap_ist, ap_lst, ap_ast, ap_iinc, ap_iadd, ap_isub, ap_imul, ap_iand, ap_ior, ap_ixor, ap_ishl, ap_ishr, ap_iushr, ap_idiv, ap_irem, ap_ineg, ap_ladd, ap_lsub, ap_lmul, ap_ldiv, ap_lrem, ap_lneg, ap_lcmp, ap_i2l, ap_l2i, ap_i2b, ap_i2s, ap_dup_int, ap_pop_int, ap_dup_ref, ap_pop_ref, ap_dup2, ap_ceq, ap_cne, ap_clt, ap_cge, ap_cgt, ap_cle, ap_zeq, ap_zne, ap_zlt, ap_zge, ap_zgt, ap_zle, ap_goto, ap_tsw, ap_lsw, ap_getI, ap_getJ, ap_getR, ap_putI, ap_putZ, ap_putJ, ap_iald, ap_lald, ap_bald, ap_aald, ap_iast, ap_last, ap_bast, ap_alen, ap_gst, ap_iret, ap_zret, ap_lret, ap_vret, ap_aret, ap_lmax, ap_labs, ap_acopy, ap_invV0, ap_invS0, ap_invV1, ap_invS1, ap_invV2, ap_invS2, ap_invV3, ap_invS3, ap_invV4, ap_invS4, ap_invV5, ap_invS5, tcnT, ocT, lenIT, lenWT, lenLT, lenVT, lenZT, startfT, vpL, sa_1, sa_2, sL_1, sL_2, si_1, si_2, sj_1, sj_2, ldI_e, ldL_e, ldA_e, inC_e, lk, st1, st2, rm1, rm2, Value.category, ctn_some, ctn_none, wsum, lv_args, Int32.reduceAdd, Int32.reduceSub, Int32.reduceMul, Nat.reduceAdd, Nat.reduceLT, Nat.reduceLeDiff, Nat.reduceEqDiff, Nat.reduceBEq, ↓reduceIte, true_and, and_true, Bool.false_eq_true, true_implies, false_implies, not_true_eq_false, not_false_eq_true]
  have h1 : 1 ≤ 4 ^ k := Nat.one_le_pow _ _ (by decide)
  refine (L8_bestMenu hv hk hkn h (4 ^ k - 1) 1 (by omega) (by decide) σ2 hs02 (fun c hc hcs => ?_)).sub [0, 1, 2, 3, 4] rfl
  rw [hup _ (by have := (pl_spec hc (by omega)).2.2.1; rw [hcs] at this; exact this)]
  exact hval c hc hcs
theorem v8_findMenuMean {σ : St} {K : Kr} {n k : Nat} (hv : CV σ n) (hk : k < 4) (hkn : k ≤ n)
    (h : ∀ σ', sm [13, 14, 18, 30] σ σ' → FR σ' (AM σ n k (msel (AM σ n k) (4 ^ k - 1))) (pall (wmn σ k (msel (AM σ n k) (4 ^ k - 1))) n) → K none σ') : VM M8_findMenuMean [.ref 0, .int (nI k)] σ K := by
  have hn := hv.1.1
  have ha := al_lt n (by omega)
  have h64 : 4 ^ k ≤ 64 := (by decide : ∀ k, k < 4 → 4 ^ k ≤ 64) k hk
  have hml := msel_le (AM σ n k) (4 ^ k - 1)
  refine vm_run s8_findMenuMean n8_findMenuMean (fun _ => false) 1000 (fun E => Nat.le_of_ble_eq_true rfl) ?_
  simp (decide := true) only [c8_findMenuMean, run_s, nxt_e, ap_const, ap_lconst, ap_ild, ap_lld, ap_ald, ap_ist, ap_lst, ap_ast, ap_iinc, ap_iadd, ap_isub, ap_imul, ap_iand, ap_ior, ap_ixor, ap_ishl, ap_ishr, ap_iushr, ap_idiv, ap_irem, ap_ineg, ap_ladd, ap_lsub, ap_lmul, ap_ldiv, ap_lrem, ap_lneg, ap_lcmp, ap_i2l, ap_l2i, ap_i2b, ap_i2s, ap_dup_int, ap_pop_int, ap_dup_ref, ap_pop_ref, ap_dup2, ap_ceq, ap_cne, ap_clt, ap_cge, ap_cgt, ap_cle, ap_zeq, ap_zne, ap_zlt, ap_zge, ap_zgt, ap_zle, ap_goto, ap_tsw, ap_lsw, ap_getI, ap_getJ, ap_getR, ap_putI, ap_putZ, ap_putJ, ap_iald, ap_lald, ap_bald, ap_aald, ap_iast, ap_last, ap_bast, ap_alen, ap_gst, ap_iret, ap_zret, ap_lret, ap_vret, ap_aret, ap_lmax, ap_labs, ap_acopy, ap_invV0, ap_invS0, ap_invV1, ap_invS1, ap_invV2, ap_invS2, ap_invV3, ap_invS3, ap_invV4, ap_invS4, ap_invV5, ap_invS5, tcnT, ocT, lenIT, lenWT, lenLT, lenVT, lenZT, startfT, vpL, sa_1, sa_2, sL_1, sL_2, si_1, si_2, sj_1, sj_2, ldI_e, ldL_e, ldA_e, inC_e, lk, st1, st2, rm1, rm2, Value.category, ctn_some, ctn_none, wsum, lv_args, Int32.reduceAdd, Int32.reduceSub, Int32.reduceMul, Nat.reduceAdd, Nat.reduceLT, Nat.reduceLeDiff, Nat.reduceEqDiff, Nat.reduceBEq, ↓reduceIte, true_and, and_true, Bool.false_eq_true, true_implies, false_implies, not_true_eq_false, not_false_eq_true]
  refine v8_bestMenu hv hk hkn ?_
  intro σ1 hs1 hval
  have hv1 := hv.sm hs1 (by decide) (by decide) (by decide) (by decide) (by decide) (by decide)
  simp (decide := true) only [c8_findMenuMean, run_s, nxt_e, ap_const, ap_lconst, ap_ild, ap_lld, ap_ald, ap_ist, ap_lst, ap_ast, ap_iinc, ap_iadd, ap_isub, ap_imul, ap_iand, ap_ior, ap_ixor, ap_ishl, ap_ishr, ap_iushr, ap_idiv, ap_irem, ap_ineg, ap_ladd, ap_lsub, ap_lmul, ap_ldiv, ap_lrem, ap_lneg, ap_lcmp, ap_i2l, ap_l2i, ap_i2b, ap_i2s, ap_dup_int, ap_pop_int, ap_dup_ref, ap_pop_ref, ap_dup2, ap_ceq, ap_cne, ap_clt, ap_cge, ap_cgt, ap_cle, ap_zeq, ap_zne, ap_zlt, ap_zge, ap_zgt, ap_zle, ap_goto, ap_tsw, ap_lsw, ap_getI, ap_getJ, ap_getR, ap_putI, ap_putZ, ap_putJ, ap_iald, ap_lald, ap_bald, ap_aald, ap_iast, ap_last, ap_bast, ap_alen, ap_gst, ap_iret, ap_zret, ap_lret, ap_vret, ap_aret, ap_lmax, ap_labs, ap_acopy, ap_invV0, ap_invS0, ap_invV1, ap_invS1, ap_invV2, ap_invS2, ap_invV3, ap_invS3, ap_invV4, ap_invS4, ap_invV5, ap_invS5, tcnT, ocT, lenIT, lenWT, lenLT, lenVT, lenZT, startfT, vpL, sa_1, sa_2, sL_1, sL_2, si_1, si_2, sj_1, sj_2, ldI_e, ldL_e, ldA_e, inC_e, lk, st1, st2, rm1, rm2, Value.category, ctn_some, ctn_none, wsum, lv_args, Int32.reduceAdd, Int32.reduceSub, Int32.reduceMul, Nat.reduceAdd, Nat.reduceLT, Nat.reduceLeDiff, Nat.reduceEqDiff, Nat.reduceBEq, ↓reduceIte, true_and, and_true, Bool.false_eq_true, true_implies, false_implies, not_true_eq_false, not_false_eq_true]
  refine v8_aboveWithMenu hv1 hk hkn (by omega) hval ?_
  intro σ2 hs2 hup htr
  have hs02 := hs1.trans hs2
  have hv2 := hv.sm hs02 (by decide) (by decide) (by decide) (by decide) (by decide) (by decide)
  have eA : F (wmn σ1 k (msel (AM σ n k) (4 ^ k - 1))) (F (ww σ) (wv σ) (hiM n k)) (Tm (al k) 0 n) 0 = AM σ n k (msel (AM σ n k) (4 ^ k - 1)) := by
    rw [wmn_sm hs1 (by decide) (by decide) (by decide)]
    exact AM_eq (by omega) hkn
  rw [eA]
  simp (decide := true) only [c8_findMenuMean, run_s, nxt_e, ap_const, ap_lconst, ap_ild, ap_lld, ap_ald, ap_ist, ap_lst, ap_ast, ap_iinc, ap_iadd, ap_isub, ap_imul, ap_iand, ap_ior, ap_ixor, ap_ishl, ap_ishr, ap_iushr, ap_idiv, ap_irem, ap_ineg, ap_ladd, ap_lsub, ap_lmul, ap_ldiv, ap_lrem, ap_lneg, ap_lcmp, ap_i2l, ap_l2i, ap_i2b, ap_i2s, ap_dup_int, ap_pop_int, ap_dup_ref, ap_pop_ref, ap_dup2, ap_ceq, ap_cne, ap_clt, ap_cge, ap_cgt, ap_cle, ap_zeq, ap_zne, ap_zlt, ap_zge, ap_zgt, ap_zle, ap_goto, ap_tsw, ap_lsw, ap_getI, ap_getJ, ap_getR, ap_putI, ap_putZ, ap_putJ, ap_iald, ap_lald, ap_bald, ap_aald, ap_iast, ap_last, ap_bast, ap_alen, ap_gst, ap_iret, ap_zret, ap_lret, ap_vret, ap_aret, ap_lmax, ap_labs, ap_acopy, ap_invV0, ap_invS0, ap_invV1, ap_invS1, ap_invV2, ap_invS2, ap_invV3, ap_invS3, ap_invV4, ap_invS4, ap_invV5, ap_invS5, tcnT, ocT, lenIT, lenWT, lenLT, lenVT, lenZT, startfT, vpL, sa_1, sa_2, sL_1, sL_2, si_1, si_2, sj_1, sj_2, ldI_e, ldL_e, ldA_e, inC_e, lk, st1, st2, rm1, rm2, Value.category, ctn_some, ctn_none, wsum, lv_args, Int32.reduceAdd, Int32.reduceSub, Int32.reduceMul, Nat.reduceAdd, Nat.reduceLT, Nat.reduceLeDiff, Nat.reduceEqDiff, Nat.reduceBEq, ↓reduceIte, true_and, and_true, Bool.false_eq_true, true_implies, false_implies, not_true_eq_false, not_false_eq_true]
  refine v8_all hv2.1 ?_
  simp (decide := true) only [c8_findMenuMean, run_s, nxt_e, ap_const, ap_lconst, ap_ild, ap_lld, ap_ald, ap_ist, ap_lst, ap_ast, ap_iinc, ap_iadd, ap_isub, ap_imul, ap_iand, ap_ior, ap_ixor, ap_ishl, ap_ishr, ap_iushr, ap_idiv, ap_irem, ap_ineg, ap_ladd, ap_lsub, ap_lmul, ap_ldiv, ap_lrem, ap_lneg, ap_lcmp, ap_i2l, ap_l2i, ap_i2b, ap_i2s, ap_dup_int, ap_pop_int, ap_dup_ref, ap_pop_ref, ap_dup2, ap_ceq, ap_cne, ap_clt, ap_cge, ap_cgt, ap_cle, ap_zeq, ap_zne, ap_zlt, ap_zge, ap_zgt, ap_zle, ap_goto, ap_tsw, ap_lsw, ap_getI, ap_getJ, ap_getR, ap_putI, ap_putZ, ap_putJ, ap_iald, ap_lald, ap_bald, ap_aald, ap_iast, ap_last, ap_bast, ap_alen, ap_gst, ap_iret, ap_zret, ap_lret, ap_vret, ap_aret, ap_lmax, ap_labs, ap_acopy, ap_invV0, ap_invS0, ap_invV1, ap_invS1, ap_invV2, ap_invS2, ap_invV3, ap_invS3, ap_invV4, ap_invS4, ap_invV5, ap_invS5, tcnT, ocT, lenIT, lenWT, lenLT, lenVT, lenZT, startfT, vpL, sa_1, sa_2, sL_1, sL_2, si_1, si_2, sj_1, sj_2, ldI_e, ldL_e, ldA_e, inC_e, lk, st1, st2, rm1, rm2, Value.category, ctn_some, ctn_none, wsum, lv_args, Int32.reduceAdd, Int32.reduceSub, Int32.reduceMul, Nat.reduceAdd, Nat.reduceLT, Nat.reduceLeDiff, Nat.reduceEqDiff, Nat.reduceBEq, ↓reduceIte, true_and, and_true, Bool.false_eq_true, true_implies, false_implies, not_true_eq_false, not_false_eq_true]
  refine v8_product hv2.1 (Or.inr rfl) ha.1 ?_
  simp (decide := true) only [c8_findMenuMean, run_s, nxt_e, ap_const, ap_lconst, ap_ild, ap_lld, ap_ald, ap_ist, ap_lst, ap_ast, ap_iinc, ap_iadd, ap_isub, ap_imul, ap_iand, ap_ior, ap_ixor, ap_ishl, ap_ishr, ap_iushr, ap_idiv, ap_irem, ap_ineg, ap_ladd, ap_lsub, ap_lmul, ap_ldiv, ap_lrem, ap_lneg, ap_lcmp, ap_i2l, ap_l2i, ap_i2b, ap_i2s, ap_dup_int, ap_pop_int, ap_dup_ref, ap_pop_ref, ap_dup2, ap_ceq, ap_cne, ap_clt, ap_cge, ap_cgt, ap_cle, ap_zeq, ap_zne, ap_zlt, ap_zge, ap_zgt, ap_zle, ap_goto, ap_tsw, ap_lsw, ap_getI, ap_getJ, ap_getR, ap_putI, ap_putZ, ap_putJ, ap_iald, ap_lald, ap_bald, ap_aald, ap_iast, ap_last, ap_bast, ap_alen, ap_gst, ap_iret, ap_zret, ap_lret, ap_vret, ap_aret, ap_lmax, ap_labs, ap_acopy, ap_invV0, ap_invS0, ap_invV1, ap_invS1, ap_invV2, ap_invS2, ap_invV3, ap_invS3, ap_invV4, ap_invS4, ap_invV5, ap_invS5, tcnT, ocT, lenIT, lenWT, lenLT, lenVT, lenZT, startfT, vpL, sa_1, sa_2, sL_1, sL_2, si_1, si_2, sj_1, sj_2, ldI_e, ldL_e, ldA_e, inC_e, lk, st1, st2, rm1, rm2, Value.category, ctn_some, ctn_none, wsum, lv_args, Int32.reduceAdd, Int32.reduceSub, Int32.reduceMul, Nat.reduceAdd, Nat.reduceLT, Nat.reduceLeDiff, Nat.reduceEqDiff, Nat.reduceBEq, ↓reduceIte, true_and, and_true, Bool.false_eq_true, true_implies, false_implies, not_true_eq_false, not_false_eq_true]
  have e : lN (PW (fun m j => wd σ2 m j (σ2.1 30 m)) (Tm (al n) 0 n)) = Int64.ofInt ((pall (wmn σ k (msel (AM σ n k) (4 ^ k - 1))) n : Nat) : Int) := by
    rw [lN_of]
    unfold pall
    rw [PW_congr (w' := wmn σ k (msel (AM σ n k) (4 ^ k - 1))) (fun m hm j hj => ?_)]
    have := Tm_mem hm
    unfold wmn
    rw [htr m (by omega), trf_sm hs1 (by decide), wd_sm hs02 (by decide) (by decide)]
  rw [e]
  have b1 := AM_b (k := k) (mn := msel (AM σ n k) (4 ^ k - 1)) hv
  have b2 := pall_b (w := wmn σ k (msel (AM σ n k) (4 ^ k - 1))) (n := n) (hv.ws (o := 0) (trf σ k _)) hn
  rw [pow726] at b2
  refine v1_becomeI (by omega) (by omega) ?_
  intro σ3 hs3 hF
  simp (decide := true) only [c8_findMenuMean, run_s, nxt_e, ap_const, ap_lconst, ap_ild, ap_lld, ap_ald, ap_ist, ap_lst, ap_ast, ap_iinc, ap_iadd, ap_isub, ap_imul, ap_iand, ap_ior, ap_ixor, ap_ishl, ap_ishr, ap_iushr, ap_idiv, ap_irem, ap_ineg, ap_ladd, ap_lsub, ap_lmul, ap_ldiv, ap_lrem, ap_lneg, ap_lcmp, ap_i2l, ap_l2i, ap_i2b, ap_i2s, ap_dup_int, ap_pop_int, ap_dup_ref, ap_pop_ref, ap_dup2, ap_ceq, ap_cne, ap_clt, ap_cge, ap_cgt, ap_cle, ap_zeq, ap_zne, ap_zlt, ap_zge, ap_zgt, ap_zle, ap_goto, ap_tsw, ap_lsw, ap_getI, ap_getJ, ap_getR, ap_putI, ap_putZ, ap_putJ, ap_iald, ap_lald, ap_bald, ap_aald, ap_iast, ap_last, ap_bast, ap_alen, ap_gst, ap_iret, ap_zret, ap_lret, ap_vret, ap_aret, ap_lmax, ap_labs, ap_acopy, ap_invV0, ap_invS0, ap_invV1, ap_invS1, ap_invV2, ap_invS2, ap_invV3, ap_invS3, ap_invV4, ap_invS4, ap_invV5, ap_invS5, tcnT, ocT, lenIT, lenWT, lenLT, lenVT, lenZT, startfT, vpL, sa_1, sa_2, sL_1, sL_2, si_1, si_2, sj_1, sj_2, ldI_e, ldL_e, ldA_e, inC_e, lk, st1, st2, rm1, rm2, Value.category, ctn_some, ctn_none, wsum, lv_args, Int32.reduceAdd, Int32.reduceSub, Int32.reduceMul, Nat.reduceAdd, Nat.reduceLT, Nat.reduceLeDiff, Nat.reduceEqDiff, Nat.reduceBEq, ↓reduceIte, true_and, and_true, Bool.false_eq_true, true_implies, false_implies, not_true_eq_false, not_false_eq_true]
  exact h σ3 ((hs02.mono (by simp)).trans (hs3.mono (by simp))) hF
