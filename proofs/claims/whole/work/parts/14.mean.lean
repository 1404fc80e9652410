/-! ===== part 14: the greatest common divisor, products, means ===== -/
theorem lN0 : (lN 0 : Int64) = 0 := rfl
/-- the loop of commonDivisor: with 2 k + 1 steps left and the second number below 2 ^ k it ends with the divisor -/
theorem L1_commonDivisor {σ : St} {K : Kr} {u v : Int64} : ∀ (k s p q : Nat), s + 2 * k + 1 ≤ 200 → p < 2 ^ 63 → q < 2 ^ 63 → q < 2 ^ k → K (some (.long (lN (Nat.gcd p q)))) σ → VW M1_commonDivisor Xt K 9 [(8, .int (nI s)), (6, .long (lN q)), (4, .long (lN p)), (0, .long u), (2, .long v)] [] σ := by
  have e0 : ∀ (s p q : Nat), s ≤ 200 → q = 0 → K (some (.long (lN (Nat.gcd p q)))) σ → VW M1_commonDivisor Xt K 9 [(8, .int (nI s)), (6, .long (lN q)), (4, .long (lN p)), (0, .long u), (2, .long v)] [] σ := by
    intro s p q hs hq h
    subst hq
    rw [Nat.gcd_zero_right] at h
    refine run_sound s1_commonDivisor (fun pc => pc == 9) _ 1000 _ _ _ _ ?_
    simp (decide := true) only [c1_commonDivisor, run_s, nxt_e, ap_const, ap_lconst, ap_ild, ap_lld, ap_ald, ap_ist, ap_lst, ap_ast, ap_iinc, ap_iadd, ap_isub, ap_imul, ap_iand, ap_ior, ap_ixor, ap_ishl, ap_ishr, ap_iushr, ap_idiv, ap_irem, ap_ineg, ap_ladd, ap_lsub, ap_lmul, ap_ldiv, ap_lrem, ap_lneg, ap_lcmp, ap_i2l, ap_l2i, ap_i2b, ap_i2s, ap_dup_int, ap_pop_int, ap_dup_ref, ap_pop_ref, ap_dup2, ap_ceq, ap_cne, ap_clt, ap_cge, ap_cgt, ap_cle, ap_zeq, ap_zne, ap_zlt, ap_zge, ap_zgt, ap_zle, ap_goto, ap_tsw, ap_lsw, ap_getI, ap_getJ, ap_getR, ap_putI, ap_putZ, ap_putJ, ap_iald, ap_lald, ap_bald, ap_aald, ap_iast, ap_last, ap_bast, ap_alen, ap_gst, ap_iret, ap_zret, ap_lret, ap_vret, ap_aret, ap_lmax, ap_labs, ap_acopy, ap_invV0, ap_invS0, ap_invV1, ap_invS1, ap_invV2, ap_invS2, ap_invV3, ap_invS3, ap_invV4, ap_invS4, ap_invV5, ap_invS5, tcnT, ocT, lenIT, lenWT, lenLT, lenVT, lenZT, startfT, vpL, sa_1, sa_2, sL_1, sL_2, si_1, si_2, sj_1, sj_2, ldI_e, ldL_e, ldA_e, inC_e, lk, st1, st2, rm1, rm2, Value.category, ctn_some, ctn_none, wsum, lv_args, Int32.reduceAdd, Int32.reduceSub, Int32.reduceMul, Nat.reduceAdd, Nat.reduceLT, Nat.reduceLeDiff, Nat.reduceEqDiff, Nat.reduceBEq, ↓reduceIte, true_and, and_true, Bool.false_eq_true, true_implies, false_implies, not_true_eq_false, not_false_eq_true, lg_cmp_eq, lN0]
    exact ⟨fun _ => h, fun _ => h⟩
  have e1 : ∀ (s p q : Nat), s < 200 → p < 2 ^ 63 → q < 2 ^ 63 → 0 < q → VW M1_commonDivisor Xt K 9 [(8, .int (nI (s + 1))), (6, .long (lN (p % q))), (4, .long (lN q)), (0, .long u), (2, .long v)] [] σ → VW M1_commonDivisor Xt K 9 [(8, .int (nI s)), (6, .long (lN q)), (4, .long (lN p)), (0, .long u), (2, .long v)] [] σ := by
    intro s p q hs hp hq h0 h
    have hq0 : ¬ lN q = 0 := fun e => by
      have := (pk_lEQ hq (by decide : 0 < 2 ^ 63)).mp (e.trans lN0.symm)
      omega
    refine run_sound s1_commonDivisor (fun pc => pc == 9) _ 1000 _ _ _ _ ?_
    simp (decide := true) only [c1_commonDivisor, run_s, nxt_e, ap_const, ap_lconst, ap_ild, ap_lld, ap_ald, ap_ist, ap_lst, ap_ast, ap_iinc, ap_iadd, ap_isub, ap_imul, ap_iand, ap_ior, ap_ixor, ap_ishl, ap_ishr, ap_iushr, ap_idiv, ap_irem, ap_ineg, ap_ladd, ap_lsub, ap_lmul, ap_ldiv, ap_lrem, ap_lneg, ap_lcmp, ap_i2l, ap_l2i, ap_i2b, ap_i2s, ap_dup_int, ap_pop_int, ap_dup_ref, ap_pop_ref, ap_dup2, ap_ceq, ap_cne, ap_clt, ap_cge, ap_cgt, ap_cle, ap_zeq, ap_zne, ap_zlt, ap_zge, ap_zgt, ap_zle, ap_goto, ap_tsw, ap_lsw, ap_getI, ap_getJ, ap_getR, ap_putI, ap_putZ, ap_putJ, ap_iald, ap_lald, ap_bald, ap_aald, ap_iast, ap_last, ap_bast, ap_alen, ap_gst, ap_iret, ap_zret, ap_lret, ap_vret, ap_aret, ap_lmax, ap_labs, ap_acopy, ap_invV0, ap_invS0, ap_invV1, ap_invS1, ap_invV2, ap_invS2, ap_invV3, ap_invS3, ap_invV4, ap_invS4, ap_invV5, ap_invS5, tcnT, ocT, lenIT, lenWT, lenLT, lenVT, lenZT, startfT, vpL, sa_1, sa_2, sL_1, sL_2, si_1, si_2, sj_1, sj_2, ldI_e, ldL_e, ldA_e, inC_e, lk, st1, st2, rm1, rm2, Value.category, ctn_some, ctn_none, wsum, lv_args, Int32.reduceAdd, Int32.reduceSub, Int32.reduceMul, Nat.reduceAdd, Nat.reduceLT, Nat.reduceLeDiff, Nat.reduceEqDiff, Nat.reduceBEq, ↓reduceIte, true_and, and_true, Bool.false_eq_true, true_implies, false_implies, not_true_eq_false, not_false_eq_true, eq_false (nI_ge (show s < 200 from hs) (by decide)), lg_cmp_eq, hq0, pk_lRem hp h0 hq, nI_1]
    refine ⟨fun a => absurd a (nI_ge (show s < 200 from hs) (by decide)), fun _ => ?_⟩
    exact h.sub [0, 1, 2, 4, 5] rfl
  intro k
  induction k with
  | zero =>
    intro s p q hs hp hq hk h
    exact e0 s p q (by omega) (by omega) h
  | succ k ih =>
    intro s p q hs hp hq hk h
    by_cases h0 : q = 0
    · exact e0 s p q (by omega) h0 h
    · have hr := Nat.mod_lt p (Nat.pos_of_ne_zero h0)
      refine e1 s p q (by omega) hp hq (Nat.pos_of_ne_zero h0) ?_
      have hg : Nat.gcd p q = Nat.gcd q (p % q) := by rw [Nat.gcd_comm p q, Nat.gcd_rec q p, Nat.gcd_comm]
      rw [hg] at h
      by_cases h1 : p % q = 0
      · exact e0 (s + 1) q (p % q) (by omega) h1 h
      · have hr1 := Nat.mod_lt q (Nat.pos_of_ne_zero h1)
        refine e1 (s + 1) q (p % q) (by omega) hq (by omega) (Nat.pos_of_ne_zero h1) ?_
        have hg1 : Nat.gcd q (p % q) = Nat.gcd (p % q) (q % (p % q)) := by rw [Nat.gcd_comm q (p % q), Nat.gcd_rec (p % q) q, Nat.gcd_comm]
        rw [hg1] at h
        refine ih (s + 1 + 1) (p % q) (q % (p % q)) (by omega) (by omega) (by omega) ?_ h
        have h2 : q % (p % q) + p % q ≤ q := by
          have := Nat.div_add_mod q (p % q)
          have h3 : 1 ≤ q / (p % q) := (Nat.one_le_div_iff (Nat.pos_of_ne_zero h1)).mpr (by omega)
          have h4 : p % q * 1 ≤ p % q * (q / (p % q)) := Nat.mul_le_mul_left _ h3
          omega
        have : 2 ^ (k + 1) = 2 * 2 ^ k := by rw [Nat.pow_succ]; omega
        omega
theorem v1_commonDivisor {σ : St} {K : Kr} {p q : Nat} (hp : p < 2 ^ 63) (hq : q < 2 ^ 63) (h : K (some (.long (lN (Nat.gcd p q)))) σ) : VM M1_commonDivisor [.long (lN p), .long (lN q)] σ K := by
  refine vm_run s1_commonDivisor n1_commonDivisor (fun pc => pc == 9) 1000 (fun E => Nat.le_of_ble_eq_true rfl) ?_
  simp (decide := true) only [c1_commonDivisor, run_s, nxt_e, ap_const, ap_lconst, ap_ild, ap_lld, ap_ald, ap_ist, ap_lst, ap_ast, ap_iinc, ap_iadd, ap_isub, ap_imul, ap_iand, ap_ior, ap_ixor, ap_ishl, ap_ishr, ap_iushr, ap_idiv, ap_irem, ap_ineg, ap_ladd, ap_lsub, ap_lmul, ap_ldiv, ap_lrem, ap_lneg, ap_lcmp, ap_i2l, ap_l2i, ap_i2b, ap_i2s, ap_dup_int, ap_pop_int, ap_dup_ref, ap_pop_ref, ap_dup2, ap_ceq, ap_cne, ap_clt, ap_cge, ap_cgt, ap_cle, ap_zeq, ap_zne, ap_zlt, ap_zge, ap_zgt, ap_zle, ap_goto, ap_tsw, ap_lsw, ap_getI, ap_getJ, ap_getR, ap_putI, ap_putZ, ap_putJ, ap_iald, ap_lald, ap_bald, ap_aald, ap_iast, ap_last, ap_bast, ap_alen, ap_gst, ap_iret, ap_zret, ap_lret, ap_vret, ap_aret, ap_lmax, ap_labs, ap_acopy, ap_invV0, ap_invS0, ap_invV1, ap_invS1, ap_invV2, ap_invS2, ap_invV3, ap_invS3, ap_invV4, ap_invS4, ap_invV5, ap_invS5, tcnT, ocT, lenIT, lenWT, lenLT, lenVT, lenZT, startfT, vpL, sa_1, sa_2, sL_1, sL_2, si_1, si_2, sj_1, sj_2, ldI_e, ldL_e, ldA_e, inC_e, lk, st1, st2, rm1, rm2, Value.category, ctn_some, ctn_none, wsum, lv_args, Int32.reduceAdd, Int32.reduceSub, Int32.reduceMul, Nat.reduceAdd, Nat.reduceLT, Nat.reduceLeDiff, Nat.reduceEqDiff, Nat.reduceBEq, ↓reduceIte, true_and, and_true, Bool.false_eq_true, true_implies, false_implies, not_true_eq_false, not_false_eq_true]
  exact (L1_commonDivisor 63 0 p q (by decide) hp hq hq h).sub [0, 1, 2, 3, 4] rfl
/-- lowest terms -/
def gc (a b : Int64) : Nat := Nat.gcd a.toInt.natAbs b.toInt.toNat
def frA (a b : Int64) : Int64 := a / lN (gc a b)
def frB (a b : Int64) : Int64 := b / lN (gc a b)
theorem gc_pos {a b : Int64} (h : 0 < b.toInt) : 0 < gc a b := Nat.gcd_pos_of_pos_right _ (by omega)
theorem gc_lt {a b : Int64} (h : 0 < b.toInt) : gc a b < 2 ^ 63 := by
  have h1 : gc a b ≤ b.toInt.toNat := Nat.gcd_le_right _ (by omega)
  have h2 := Int64.toInt_lt b
  omega
theorem i64_lN {b : Int64} (h : 0 ≤ b.toInt) : b = lN b.toInt.toNat := by
  apply Int64.toInt_inj.mp
  rw [pk_lT (by have := Int64.toInt_lt b; omega)]
  omega
theorem i64_abs {a : Int64} (h : -2 ^ 63 < a.toInt) : (if 0 < a then a else -a) = lN a.toInt.natAbs := by
  have h2 := Int64.toInt_lt a
  apply Int64.toInt_inj.mp
  rw [pk_lT (by omega)]
  split
  · rename_i q
    have := Int64.lt_iff_toInt_lt.mp q
    simp at this
    omega
  · rename_i q
    have q2 : ¬ (0 : Int64).toInt < a.toInt := fun x => q (Int64.lt_iff_toInt_lt.mpr x)
    simp at q2
    rw [Int64.toInt_neg, Int.bmod_eq_of_le (by omega) (by omega)]
    omega
theorem v1_become {σ : St} {K : Kr} {a b : Int64} (ha : -2 ^ 63 < a.toInt) (hb : 0 < b.toInt) (h : K none (sj (sj σ 18 0 (frA a b)) 18 1 (frB a b))) : VM M1_become [.ref 18, .long a, .long b] σ K := by
  have hb2 := Int64.toInt_lt b
  have ha2 := Int64.toInt_lt a
  have hg0 := gc_pos (a := a) hb
  have hg1 := gc_lt (a := a) hb
  have eb := i64_lN (b := b) (by omega)
  refine vm_run s1_become n1_become (fun _ => false) 1000 (fun E => Nat.le_of_ble_eq_true rfl) ?_
  simp (decide := true) only [c1_become, run_s, nxt_e, ap_const, ap_lconst, ap_ild, ap_lld, ap_ald, ap_ist, ap_lst, ap_ast, ap_iinc, ap_iadd, ap_isub, ap_imul, ap_iand, ap_ior, ap_ixor, ap_ishl, ap_ishr, ap_iushr, ap_idiv, ap_irem, ap_ineg, ap_ladd, ap_lsub, ap_lmul, ap_ldiv, ap_lrem, ap_lneg, ap_lcmp, ap_i2l, ap_l2i, ap_i2b, ap_i2s, ap_dup_int, ap_pop_int, ap_dup_ref, ap_pop_ref, ap_dup2, ap_ceq, ap_cne, ap_clt, ap_cge, ap_cgt, ap_cle, ap_zeq, ap_zne, ap_zlt, ap_zge, ap_zgt, ap_zle, ap_goto, ap_tsw, ap_lsw, ap_getI, ap_getJ, ap_getR, ap_putI, ap_putZ, ap_putJ, ap_iald, ap_lald, ap_bald, ap_aald, ap_iast, ap_last, ap_bast, ap_alen, ap_gst, ap_iret, ap_zret, ap_lret, ap_vret, ap_aret, ap_lmax, ap_labs, ap_acopy, ap_invV0, ap_invS0, ap_invV1, ap_invS1, ap_invV2, ap_invS2, ap_invV3, ap_invS3, ap_invV4, ap_invS4, ap_invV5, ap_invS5, tcnT, ocT, lenIT, lenWT, lenLT, lenVT, lenZT, startfT, vpL, sa_1, sa_2, sL_1, sL_2, si_1, si_2, sj_1, sj_2, ldI_e, ldL_e, ldA_e, inC_e, lk, st1, st2, rm1, rm2, Value.category, ctn_some, ctn_none, wsum, lv_args, Int32.reduceAdd, Int32.reduceSub, Int32.reduceMul, Nat.reduceAdd, Nat.reduceLT, Nat.reduceLeDiff, Nat.reduceEqDiff, Nat.reduceBEq, ↓reduceIte, true_and, and_true, Bool.false_eq_true, true_implies, false_implies, not_true_eq_false, not_false_eq_true, i64_abs ha]
  have : VM M1_commonDivisor [.long (lN a.toInt.natAbs), .long b] σ = VM M1_commonDivisor [.long (lN a.toInt.natAbs), .long (lN b.toInt.toNat)] σ := by rw [← eb]
  rw [this]
  refine v1_commonDivisor (by omega) (by omega) ?_
  have hle : ¬ lN (gc a b) ≤ 0 := fun q => by
    have := (pk_lLE hg1 (by decide : 0 < 2 ^ 63)).mp (by rw [lN0]; exact q)
    omega
  have hne : ¬ lN (gc a b) = 0 := fun q => by
    have := (pk_lEQ hg1 (by decide : 0 < 2 ^ 63)).mp (q.trans lN0.symm)
    omega
  show ctn _ _ _ _ (some (.long (lN (gc a b)))) σ
  simp (decide := true) only [c1_become, run_s, nxt_e, ap_const, ap_lconst, ap_ild, ap_lld, ap_ald, ap_ist, ap_lst, ap_ast, ap_iinc, ap_iadd, ap_isub, ap_imul, ap_iand, ap_ior, ap_ixor, ap_ishl, ap_ishr, ap_iushr, ap_idiv, ap_irem, ap_ineg, ap_ladd, ap_lsub, ap_lmul, ap_ldiv, ap_lrem, ap_lneg, ap_lcmp, ap_i2l, ap_l2i, ap_i2b, ap_i2s, ap_dup_int, ap_pop_int, ap_dup_ref, ap_pop_ref, ap_dup2, ap_ceq, ap_cne, ap_clt, ap_cge, ap_cgt, ap_cle, ap_zeq, ap_zne, ap_zlt, ap_zge, ap_zgt, ap_zle, ap_goto, ap_tsw, ap_lsw, ap_getI, ap_getJ, ap_getR, ap_putI, ap_putZ, ap_putJ, ap_iald, ap_lald, ap_bald, ap_aald, ap_iast, ap_last, ap_bast, ap_alen, ap_gst, ap_iret, ap_zret, ap_lret, ap_vret, ap_aret, ap_lmax, ap_labs, ap_acopy, ap_invV0, ap_invS0, ap_invV1, ap_invS1, ap_invV2, ap_invS2, ap_invV3, ap_invS3, ap_invV4, ap_invS4, ap_invV5, ap_invS5, tcnT, ocT, lenIT, lenWT, lenLT, lenVT, lenZT, startfT, vpL, sa_1, sa_2, sL_1, sL_2, si_1, si_2, sj_1, sj_2, ldI_e, ldL_e, ldA_e, inC_e, lk, st1, st2, rm1, rm2, Value.category, ctn_some, ctn_none, wsum, lv_args, Int32.reduceAdd, Int32.reduceSub, Int32.reduceMul, Nat.reduceAdd, Nat.reduceLT, Nat.reduceLeDiff, Nat.reduceEqDiff, Nat.reduceBEq, ↓reduceIte, true_and, and_true, Bool.false_eq_true, true_implies, false_implies, not_true_eq_false, not_false_eq_true, lg_cmp_le, hle, hne]
  exact h
/-! products -/
def PW (w : Nat → Nat → Nat) : List Nat → Nat
  | [] => 1
  | m :: ms => ws4 w m * PW w ms
theorem PW_app (w : Nat → Nat → Nat) : ∀ (a b : List Nat), PW w (a ++ b) = PW w a * PW w b := by
  intro a
  induction a with
  | nil => intro b; simp [PW]
  | cons m r ih => intro b; simp only [List.cons_append, PW, ih, Nat.mul_assoc]
theorem MV.ws_le {σ : St} {n m : Nat} {d : Int32} (h : MV σ n) (hm : m < 6) : ws4 (fun m k => wd σ m k d) m ≤ 72 := by
  have h0 := h.wd_le (d := d) hm (show 0 < 4 by decide)
  have h1 := h.wd_le (d := d) hm (show 1 < 4 by decide)
  have h2 := h.wd_le (d := d) hm (show 2 < 4 by decide)
  have h3 := h.wd_le (d := d) hm (show 3 < 4 by decide)
  show wd σ m 0 d + wd σ m 1 d + wd σ m 2 d + wd σ m 3 d ≤ 72
  omega
theorem L8_product {σ : St} {K : Kr} {n S o : Nat} (hv : MV σ n) (ho : o = 29 ∨ o = 30) (hS : S < 64) (h : K (some (.long (lN (PW (fun m k => wd σ m k (σ.1 o m)) (Tm S 0 n))))) σ) :
    ∀ (d m : Nat), m + d = n → VW M8_productOfWeights Xt K 5 [(5, .int (nI m)), (3, .long (lN (PW (fun m k => wd σ m k (σ.1 o m)) (Tm S 0 m)))), (0, .ref 0), (1, .int (nI S)), (2, .ref o)] [] σ := by
  have ho56 : lenI o = 6 := by rcases ho with rfl | rfl <;> rfl
  have ho60 : o ≠ 60 := by rcases ho with rfl | rfl <;> decide
  have hn6 := hv.1
  intro d
  induction d with
  | zero =>
    intro m hm
    have : m = n := by omega
    subst this
    refine run_sound s8_productOfWeights (fun pc => pc == 5) _ 1000 _ _ _ _ ?_
    simp (decide := true) only [c8_productOfWeights, run_s, nxt_e, ap_const, ap_lconst, ap_ild, ap_lld, ap_ald, ap_ist, ap_lst, ap_ast, ap_iinc, ap_iadd, ap_isub, ap_imul, ap_iand, ap_ior, ap_ixor, ap_ishl, ap_ishr, ap_iushr, ap_idiv, ap_irem, ap_ineg, ap_ladd, ap_lsub, ap_lmul, ap_ldiv, ap_lrem, ap_lneg, ap_lcmp, ap_i2l, ap_l2i, ap_i2b, ap_i2s, ap_dup_int, ap_pop_int, ap_dup_ref, ap_pop_ref, ap_dup2, ap_ceq, ap_cne, ap_clt, ap_cge, ap_cgt, ap_cle, ap_zeq, ap_zne, ap_zlt, ap_zge, ap_zgt, ap_zle, ap_goto, ap_tsw, ap_lsw, ap_getI, ap_getJ, ap_getR, ap_putI, ap_putZ, ap_putJ, ap_iald, ap_lald, ap_bald, ap_aald, ap_iast, ap_last, ap_bast, ap_alen, ap_gst, ap_iret, ap_zret, ap_lret, ap_vret, ap_aret, ap_lmax, ap_labs, ap_acopy, ap_invV0, ap_invS0, ap_invV1, ap_invS1, ap_invV2, ap_invS2, ap_invV3, ap_invS3, ap_invV4, ap_invS4, ap_invV5, ap_invS5, tcnT, ocT, lenIT, lenWT, lenLT, lenVT, lenZT, startfT, vpL, sa_1, sa_2, sL_1, sL_2, si_1, si_2, sj_1, sj_2, ldI_e, ldL_e, ldA_e, inC_e, lk, st1, st2, rm1, rm2, Value.category, ctn_some, ctn_none, wsum, lv_args, Int32.reduceAdd, Int32.reduceSub, Int32.reduceMul, Nat.reduceAdd, Nat.reduceLT, Nat.reduceLeDiff, Nat.reduceEqDiff, Nat.reduceBEq, ↓reduceIte, true_and, and_true, Bool.false_eq_true, true_implies, false_implies, not_true_eq_false, not_false_eq_true, hv.2.1, eq_true (nI_le (Nat.le_refl m) (by omega))]
    exact h
  | succ d ih =>
    intro m hm
    have hm6 : m < 6 := by omega
    have hT := Tm_app S m 0 1
    rw [Nat.zero_add] at hT
    refine run_sound s8_productOfWeights (fun pc => pc == 5) _ 1000 _ _ _ _ ?_
    simp (decide := true) only [c8_productOfWeights, run_s, nxt_e, ap_const, ap_lconst, ap_ild, ap_lld, ap_ald, ap_ist, ap_lst, ap_ast, ap_iinc, ap_iadd, ap_isub, ap_imul, ap_iand, ap_ior, ap_ixor, ap_ishl, ap_ishr, ap_iushr, ap_idiv, ap_irem, ap_ineg, ap_ladd, ap_lsub, ap_lmul, ap_ldiv, ap_lrem, ap_lneg, ap_lcmp, ap_i2l, ap_l2i, ap_i2b, ap_i2s, ap_dup_int, ap_pop_int, ap_dup_ref, ap_pop_ref, ap_dup2, ap_ceq, ap_cne, ap_clt, ap_cge, ap_cgt, ap_cle, ap_zeq, ap_zne, ap_zlt, ap_zge, ap_zgt, ap_zle, ap_goto, ap_tsw, ap_lsw, ap_getI, ap_getJ, ap_getR, ap_putI, ap_putZ, ap_putJ, ap_iald, ap_lald, ap_bald, ap_aald, ap_iast, ap_last, ap_bast, ap_alen, ap_gst, ap_iret, ap_zret, ap_lret, ap_vret, ap_aret, ap_lmax, ap_labs, ap_acopy, ap_invV0, ap_invS0, ap_invV1, ap_invS1, ap_invV2, ap_invS2, ap_invV3, ap_invS3, ap_invV4, ap_invS4, ap_invV5, ap_invS5, tcnT, ocT, lenIT, lenWT, lenLT, lenVT, lenZT, startfT, vpL, sa_1, sa_2, sL_1, sL_2, si_1, si_2, sj_1, sj_2, ldI_e, ldL_e, ldA_e, inC_e, lk, st1, st2, rm1, rm2, Value.category, ctn_some, ctn_none, wsum, lv_args, Int32.reduceAdd, Int32.reduceSub, Int32.reduceMul, Nat.reduceAdd, Nat.reduceLT, Nat.reduceLeDiff, Nat.reduceEqDiff, Nat.reduceBEq, ↓reduceIte, true_and, and_true, Bool.false_eq_true, true_implies, false_implies, not_true_eq_false, not_false_eq_true, hv.2.1, eq_false (nI_ge (show m < n by omega) (by omega)), bit_c S hS m hm6, nI_1, ho56, ho60, vin hm6 (by decide), nIc (show m < 2 ^ 31 by omega)]
    have hT1 : Tm S m 1 = if S.testBit m then [m] else [] := rfl
    cases hb : S.testBit m with
    | false =>
      refine ⟨fun _ => ?_, fun q => absurd rfl q⟩
      have hi := ih (m + 1) (by omega)
      rw [hT, hT1, hb] at hi
      simp only [Bool.false_eq_true, if_false, List.append_nil] at hi
      exact hi.sub [0, 1, 2, 3, 4] rfl
    | true =>
      refine ⟨fun q => absurd q (by decide), fun _ => ?_⟩
      refine v8_weights hv hm6 ?_
      simp (decide := true) only [c8_productOfWeights, run_s, nxt_e, ap_const, ap_lconst, ap_ild, ap_lld, ap_ald, ap_ist, ap_lst, ap_ast, ap_iinc, ap_iadd, ap_isub, ap_imul, ap_iand, ap_ior, ap_ixor, ap_ishl, ap_ishr, ap_iushr, ap_idiv, ap_irem, ap_ineg, ap_ladd, ap_lsub, ap_lmul, ap_ldiv, ap_lrem, ap_lneg, ap_lcmp, ap_i2l, ap_l2i, ap_i2b, ap_i2s, ap_dup_int, ap_pop_int, ap_dup_ref, ap_pop_ref, ap_dup2, ap_ceq, ap_cne, ap_clt, ap_cge, ap_cgt, ap_cle, ap_zeq, ap_zne, ap_zlt, ap_zge, ap_zgt, ap_zle, ap_goto, ap_tsw, ap_lsw, ap_getI, ap_getJ, ap_getR, ap_putI, ap_putZ, ap_putJ, ap_iald, ap_lald, ap_bald, ap_aald, ap_iast, ap_last, ap_bast, ap_alen, ap_gst, ap_iret, ap_zret, ap_lret, ap_vret, ap_aret, ap_lmax, ap_labs, ap_acopy, ap_invV0, ap_invS0, ap_invV1, ap_invS1, ap_invV2, ap_invS2, ap_invV3, ap_invS3, ap_invV4, ap_invS4, ap_invV5, ap_invS5, tcnT, ocT, lenIT, lenWT, lenLT, lenVT, lenZT, startfT, vpL, sa_1, sa_2, sL_1, sL_2, si_1, si_2, sj_1, sj_2, ldI_e, ldL_e, ldA_e, inC_e, lk, st1, st2, rm1, rm2, Value.category, ctn_some, ctn_none, wsum, lv_args, Int32.reduceAdd, Int32.reduceSub, Int32.reduceMul, Nat.reduceAdd, Nat.reduceLT, Nat.reduceLeDiff, Nat.reduceEqDiff, Nat.reduceBEq, ↓reduceIte, true_and, and_true, Bool.false_eq_true, true_implies, false_implies, not_true_eq_false, not_false_eq_true, nI_1]
      have hi := ih (m + 1) (by omega)
      rw [hT, hT1, hb, if_pos rfl, PW_app] at hi
      have hw := hv.ws_le (d := σ.1 o m) hm6
      rw [nI_l (by omega), lN_mul]
      have e : PW (fun m k => wd σ m k (σ.1 o m)) [m] = ws4 (fun m_1 k => wd σ m_1 k (σ.1 o m)) m := by simp [PW, ws4]
      rw [e] at hi
      exact hi.sub [0, 1, 2, 3, 4] rfl
theorem v8_product {σ : St} {K : Kr} {n S o : Nat} (hv : MV σ n) (ho : o = 29 ∨ o = 30) (hS : S < 64) (h : K (some (.long (lN (PW (fun m k => wd σ m k (σ.1 o m)) (Tm S 0 n))))) σ) : VM M8_productOfWeights [.ref 0, .int (nI S), .ref o] σ K := by
  refine vm_run s8_productOfWeights n8_productOfWeights (fun pc => pc == 5) 1000 (fun E => Nat.le_of_ble_eq_true rfl) ?_
  simp (decide := true) only [c8_productOfWeights, run_s, nxt_e, ap_const, ap_lconst, ap_ild, ap_lld, ap_ald, ap_ist, ap_lst, ap_ast, ap_iinc, ap_iadd, ap_isub, ap_imul, ap_iand, ap_ior, ap_ixor, ap_ishl, ap_ishr, ap_iushr, ap_idiv, ap_irem, ap_ineg, ap_ladd, ap_lsub, ap_lmul, ap_ldiv, ap_lrem, ap_lneg, ap_lcmp, ap_i2l, ap_l2i, ap_i2b, ap_i2s, ap_dup_int, ap_pop_int, ap_dup_ref, ap_pop_ref, ap_dup2, ap_ceq, ap_cne, ap_clt, ap_cge, ap_cgt, ap_cle, ap_zeq, ap_zne, ap_zlt, ap_zge, ap_zgt, ap_zle, ap_goto, ap_tsw, ap_lsw, ap_getI, ap_getJ, ap_getR, ap_putI, ap_putZ, ap_putJ, ap_iald, ap_lald, ap_bald, ap_aald, ap_iast, ap_last, ap_bast, ap_alen, ap_gst, ap_iret, ap_zret, ap_lret, ap_vret, ap_aret, ap_lmax, ap_labs, ap_acopy, ap_invV0, ap_invS0, ap_invV1, ap_invS1, ap_invV2, ap_invS2, ap_invV3, ap_invS3, ap_invV4, ap_invS4, ap_invV5, ap_invS5, tcnT, ocT, lenIT, lenWT, lenLT, lenVT, lenZT, startfT, vpL, sa_1, sa_2, sL_1, sL_2, si_1, si_2, sj_1, sj_2, ldI_e, ldL_e, ldA_e, inC_e, lk, st1, st2, rm1, rm2, Value.category, ctn_some, ctn_none, wsum, lv_args, Int32.reduceAdd, Int32.reduceSub, Int32.reduceMul, Nat.reduceAdd, Nat.reduceLT, Nat.reduceLeDiff, Nat.reduceEqDiff, Nat.reduceBEq, ↓reduceIte, true_and, and_true, Bool.false_eq_true, true_implies, false_implies, not_true_eq_false, not_false_eq_true]
  exact (L8_product hv ho hS h n 0 (by omega)).sub [0, 1, 2, 3, 4] rfl
/-! foldWorth -/
theorem L8_foldWorth {σ : St} {K : Kr} {n S s : Nat} (hv : MV σ n) (hp : PT σ) (hb : BV σ) (hS : S < 64) (hs : s ≤ 6) (hl : (Tm S 0 n).length ≤ s)
    (h : ∀ σ', sm [13, 14] σ σ' → (∀ c, c < 2401 → sz c + (Tm S 0 n).length = s → σ'.2 13 (pl c) = Int64.ofInt (F (fun m k => wd σ m k (σ.1 29 m)) (wv σ) (Tm S 0 n) c)) → K none σ') :
    ∀ (d i : Nat), i + d = sS (s + 1) → sS s ≤ i → ∀ σ1, sm [13, 14] σ σ1 → (∀ c, c < 2401 → sz c = s → pl c < i → σ1.2 13 (pl c) = Int64.ofInt (wv σ c)) → VW M8_foldWorth Xt K 6 [(3, .int (nI i)), (0, .ref 0), (1, .int (nI S)), (2, .int (nI s))] [] σ1 := by
  have h210 : sS (s + 1) ≤ 210 := sS_le
  intro d
  induction d with
  | zero =>
    intro i hi hsi σ1 hsm hval
    refine run_sound s8_foldWorth (fun pc => pc == 6) _ 1000 _ _ _ _ ?_
    simp (decide := true) only [c8_foldWorth, run_s, nxt_e, ap_const, ap_lconst, ap_ild, ap_lld, ap_ald, ap_ist, ap_lst, ap_ast, ap_iinc, ap_iadd, ap_isub, ap_imul, ap_iand, ap_ior, ap_ixor, ap_ishl, ap_ishr, ap_iushr, ap_idiv, ap_irem, ap_ineg, ap_ladd, ap_lsub, ap_lmul, ap_ldiv, ap_lrem, ap_lneg, ap_lcmp, ap_i2l, ap_l2i, ap_i2b, ap_i2s, ap_dup_int, ap_pop_int, ap_dup_ref, ap_pop_ref, ap_dup2, ap_ceq, ap_cne, ap_clt, ap_cge, ap_cgt, ap_cle, ap_zeq, ap_zne, ap_zlt, ap_zge, ap_zgt, ap_zle, ap_goto, ap_tsw, ap_lsw, ap_getI, ap_getJ, ap_getR, ap_putI, ap_putZ, ap_putJ, ap_iald, ap_lald, ap_bald, ap_aald, ap_iast, ap_last, ap_bast, ap_alen, ap_gst, ap_iret, ap_zret, ap_lret, ap_vret, ap_aret, ap_lmax, ap_labs, ap_acopy, ap_invV0, ap_invS0, ap_invV1, ap_invS1, ap_invV2, ap_invS2, ap_invV3, ap_invS3, ap_invV4, ap_invS4, ap_invV5, ap_invS5, tcnT, ocT, lenIT, lenWT, lenLT, lenVT, lenZT, startfT, vpL, sa_1, sa_2, sL_1, sL_2, si_1, si_2, sj_1, sj_2, ldI_e, ldL_e, ldA_e, inC_e, lk, st1, st2, rm1, rm2, Value.category, ctn_some, ctn_none, wsum, lv_args, Int32.reduceAdd, Int32.reduceSub, Int32.reduceMul, Nat.reduceAdd, Nat.reduceLT, Nat.reduceLeDiff, Nat.reduceEqDiff, Nat.reduceBEq, ↓reduceIte, true_and, and_true, Bool.false_eq_true, true_implies, false_implies, not_true_eq_false, not_false_eq_true, nI_1, vin (show s + 1 < 8 by omega) (by decide), nIc (show s + 1 < 2 ^ 31 by omega), startf_nI (s + 1) (by omega), eq_true (nI_le (show sS (s + 1) ≤ i by omega) (by omega))]
    refine v8_foldMembers (wv σ) (hv.sm hsm (by decide) (by decide) (by decide)) (hp.sm hsm (by decide) (by decide)) (Or.inl rfl) hS hs hl ?_ ?_
    · intro c hc hcs
      have := (pl_spec hc (by omega)).2.2.2
      rw [hcs] at this
      exact hval c hc hcs (by omega)
    · intro σ' hsm' hup hF
      simp (decide := true) only [c8_foldWorth, run_s, nxt_e, ap_const, ap_lconst, ap_ild, ap_lld, ap_ald, ap_ist, ap_lst, ap_ast, ap_iinc, ap_iadd, ap_isub, ap_imul, ap_iand, ap_ior, ap_ixor, ap_ishl, ap_ishr, ap_iushr, ap_idiv, ap_irem, ap_ineg, ap_ladd, ap_lsub, ap_lmul, ap_ldiv, ap_lrem, ap_lneg, ap_lcmp, ap_i2l, ap_l2i, ap_i2b, ap_i2s, ap_dup_int, ap_pop_int, ap_dup_ref, ap_pop_ref, ap_dup2, ap_ceq, ap_cne, ap_clt, ap_cge, ap_cgt, ap_cle, ap_zeq, ap_zne, ap_zlt, ap_zge, ap_zgt, ap_zle, ap_goto, ap_tsw, ap_lsw, ap_getI, ap_getJ, ap_getR, ap_putI, ap_putZ, ap_putJ, ap_iald, ap_lald, ap_bald, ap_aald, ap_iast, ap_last, ap_bast, ap_alen, ap_gst, ap_iret, ap_zret, ap_lret, ap_vret, ap_aret, ap_lmax, ap_labs, ap_acopy, ap_invV0, ap_invS0, ap_invV1, ap_invS1, ap_invV2, ap_invS2, ap_invV3, ap_invS3, ap_invV4, ap_invS4, ap_invV5, ap_invS5, tcnT, ocT, lenIT, lenWT, lenLT, lenVT, lenZT, startfT, vpL, sa_1, sa_2, sL_1, sL_2, si_1, si_2, sj_1, sj_2, ldI_e, ldL_e, ldA_e, inC_e, lk, st1, st2, rm1, rm2, Value.category, ctn_some, ctn_none, wsum, lv_args, Int32.reduceAdd, Int32.reduceSub, Int32.reduceMul, Nat.reduceAdd, Nat.reduceLT, Nat.reduceLeDiff, Nat.reduceEqDiff, Nat.reduceBEq, ↓reduceIte, true_and, and_true, Bool.false_eq_true, true_implies, false_implies, not_true_eq_false, not_false_eq_true]
      refine h σ' (hsm.trans hsm') ?_
      intro c hc hcs
      rw [hF c hc hcs]
      have e : (fun m k => wd σ1 m k (σ1.1 29 m)) = (fun m k => wd σ m k (σ.1 29 m)) := by
        funext m k
        rw [wd_sm hsm (by decide) (by decide), (hsm 29 (by decide)).1]
      rw [e]
  | succ d ih =>
    intro i hi hsi σ1 hsm hval
    refine run_sound s8_foldWorth (fun pc => pc == 6) _ 1000 _ _ _ _ ?_
    simp (decide := true) only [c8_foldWorth, run_s, nxt_e, ap_const, ap_lconst, ap_ild, ap_lld, ap_ald, ap_ist, ap_lst, ap_ast, ap_iinc, ap_iadd, ap_isub, ap_imul, ap_iand, ap_ior, ap_ixor, ap_ishl, ap_ishr, ap_iushr, ap_idiv, ap_irem, ap_ineg, ap_ladd, ap_lsub, ap_lmul, ap_ldiv, ap_lrem, ap_lneg, ap_lcmp, ap_i2l, ap_l2i, ap_i2b, ap_i2s, ap_dup_int, ap_pop_int, ap_dup_ref, ap_pop_ref, ap_dup2, ap_ceq, ap_cne, ap_clt, ap_cge, ap_cgt, ap_cle, ap_zeq, ap_zne, ap_zlt, ap_zge, ap_zgt, ap_zle, ap_goto, ap_tsw, ap_lsw, ap_getI, ap_getJ, ap_getR, ap_putI, ap_putZ, ap_putJ, ap_iald, ap_lald, ap_bald, ap_aald, ap_iast, ap_last, ap_bast, ap_alen, ap_gst, ap_iret, ap_zret, ap_lret, ap_vret, ap_aret, ap_lmax, ap_labs, ap_acopy, ap_invV0, ap_invS0, ap_invV1, ap_invS1, ap_invV2, ap_invS2, ap_invV3, ap_invS3, ap_invV4, ap_invS4, ap_invV5, ap_invS5, tcnT, ocT, lenIT, lenWT, lenLT, lenVT, lenZT, startfT, vpL, sa_1, sa_2, sL_1, sL_2, si_1, si_2, sj_1, sj_2, ldI_e, ldL_e, ldA_e, inC_e, lk, st1, st2, rm1, rm2, Value.category, ctn_some, ctn_none, wsum, lv_args, Int32.reduceAdd, Int32.reduceSub, Int32.reduceMul, Nat.reduceAdd, Nat.reduceLT, Nat.reduceLeDiff, Nat.reduceEqDiff, Nat.reduceBEq, ↓reduceIte, true_and, and_true, Bool.false_eq_true, true_implies, false_implies, not_true_eq_false, not_false_eq_true, nI_1, vin (show s + 1 < 8 by omega) (by decide), nIc (show s + 1 < 2 ^ 31 by omega), startf_nI (s + 1) (by omega), eq_false (nI_ge (show i < sS (s + 1) by omega) (by omega))]
    refine v8_worthOf (vp_in_nI (show i < 210 by omega) (by decide)) ?_
    simp (decide := true) only [c8_foldWorth, run_s, nxt_e, ap_const, ap_lconst, ap_ild, ap_lld, ap_ald, ap_ist, ap_lst, ap_ast, ap_iinc, ap_iadd, ap_isub, ap_imul, ap_iand, ap_ior, ap_ixor, ap_ishl, ap_ishr, ap_iushr, ap_idiv, ap_irem, ap_ineg, ap_ladd, ap_lsub, ap_lmul, ap_ldiv, ap_lrem, ap_lneg, ap_lcmp, ap_i2l, ap_l2i, ap_i2b, ap_i2s, ap_dup_int, ap_pop_int, ap_dup_ref, ap_pop_ref, ap_dup2, ap_ceq, ap_cne, ap_clt, ap_cge, ap_cgt, ap_cle, ap_zeq, ap_zne, ap_zlt, ap_zge, ap_zgt, ap_zle, ap_goto, ap_tsw, ap_lsw, ap_getI, ap_getJ, ap_getR, ap_putI, ap_putZ, ap_putJ, ap_iald, ap_lald, ap_bald, ap_aald, ap_iast, ap_last, ap_bast, ap_alen, ap_gst, ap_iret, ap_zret, ap_lret, ap_vret, ap_aret, ap_lmax, ap_labs, ap_acopy, ap_invV0, ap_invS0, ap_invV1, ap_invS1, ap_invV2, ap_invS2, ap_invV3, ap_invS3, ap_invV4, ap_invS4, ap_invV5, ap_invS5, tcnT, ocT, lenIT, lenWT, lenLT, lenVT, lenZT, startfT, vpL, sa_1, sa_2, sL_1, sL_2, si_1, si_2, sj_1, sj_2, ldI_e, ldL_e, ldA_e, inC_e, lk, st1, st2, rm1, rm2, Value.category, ctn_some, ctn_none, wsum, lv_args, Int32.reduceAdd, Int32.reduceSub, Int32.reduceMul, Nat.reduceAdd, Nat.reduceLT, Nat.reduceLeDiff, Nat.reduceEqDiff, Nat.reduceBEq, ↓reduceIte, true_and, and_true, Bool.false_eq_true, true_implies, false_implies, not_true_eq_false, not_false_eq_true, nI_1, vin (show i < 210 by omega) (by decide), nIc (show i < 2 ^ 31 by omega)]
    have hu := up_spec (show i < 210 by omega)
    obtain ⟨v, hv1, hv2, hv3, -⟩ := worth_eq (c := up i) (hb.sm hsm (by decide) (by decide)) (hp.sm hsm (by decide) (by decide)) hu.2.1 hu.2.2.1
    rw [hu.1] at hv1
    rw [hv1, hv3, wv_sm hsm (by decide) (by decide)]
    refine (ih (i + 1) (by omega) (by omega) _ (hsm.sj (by decide)) ?_).sub [0, 1, 2, 3] rfl
    intro c hc hcs hci
    rw [sj_2, if_pos rfl]
    unfold vp_updL
    by_cases e : pl c = i
    · rw [if_pos e, ← e, (pl_spec hc (by omega)).1]
    · rw [if_neg e]
      exact hval c hc hcs (by omega)
theorem v8_foldWorth {σ : St} {K : Kr} {n S s : Nat} (hv : MV σ n) (hp : PT σ) (hb : BV σ) (hS : S < 64) (hs : s ≤ 6) (hl : (Tm S 0 n).length ≤ s)
    (h : ∀ σ', sm [13, 14] σ σ' → (∀ c, c < 2401 → sz c + (Tm S 0 n).length = s → σ'.2 13 (pl c) = Int64.ofInt (F (fun m k => wd σ m k (σ.1 29 m)) (wv σ) (Tm S 0 n) c)) → K none σ') : VM M8_foldWorth [.ref 0, .int (nI S), .int (nI s)] σ K := by
  refine vm_run s8_foldWorth n8_foldWorth (fun pc => pc == 6) 1000 (fun E => Nat.le_of_ble_eq_true rfl) ?_
  simp (decide := true) only [c8_foldWorth, run_s, nxt_e, ap_const, ap_lconst, ap_ild, ap_lld, ap_ald, ap_ist, ap_lst, ap_ast, ap_iinc, ap_iadd, ap_isub, ap_imul, ap_iand, ap_ior, ap_ixor, ap_ishl, ap_ishr, ap_iushr, ap_idiv, ap_irem, ap_ineg, ap_ladd, ap_lsub, ap_lmul, ap_ldiv, ap_lrem, ap_lneg, ap_lcmp, ap_i2l, ap_l2i, ap_i2b, ap_i2s, ap_dup_int, ap_pop_int, ap_dup_ref, ap_pop_ref, ap_dup2, ap_ceq, ap_cne, ap_clt, ap_cge, ap_cgt, ap_cle, ap_zeq, ap_zne, ap_zlt, ap_zge, ap_zgt, ap_zle, ap_goto, ap_tsw, ap_lsw, ap_getI, ap_getJ, ap_getR, ap_putI, ap_putZ, ap_putJ, ap_iald, ap_lald, ap_bald, ap_aald, ap_iast, ap_last, ap_bast, ap_alen, ap_gst, ap_iret, ap_zret, ap_lret, ap_vret, ap_aret, ap_lmax, ap_labs, ap_acopy, ap_invV0, ap_invS0, ap_invV1, ap_invS1, ap_invV2, ap_invS2, ap_invV3, ap_invS3, ap_invV4, ap_invS4, ap_invV5, ap_invS5, tcnT, ocT, lenIT, lenWT, lenLT, lenVT, lenZT, startfT, vpL, sa_1, sa_2, sL_1, sL_2, si_1, si_2, sj_1, sj_2, ldI_e, ldL_e, ldA_e, inC_e, lk, st1, st2, rm1, rm2, Value.category, ctn_some, ctn_none, wsum, lv_args, Int32.reduceAdd, Int32.reduceSub, Int32.reduceMul, Nat.reduceAdd, Nat.reduceLT, Nat.reduceLeDiff, Nat.reduceEqDiff, Nat.reduceBEq, ↓reduceIte, true_and, and_true, Bool.false_eq_true, true_implies, false_implies, not_true_eq_false, not_false_eq_true, vin (show s < 8 by omega) (by decide), nIc (show s < 2 ^ 31 by omega), startf_nI s (by omega)]
  have hm := sS_mono (show s ≤ s + 1 by omega)
  refine (L8_foldWorth hv hp hb hS hs hl h (sS (s + 1) - sS s) (sS s) (by omega) (Nat.le_refl _) σ sm.rfl' ?_).sub [0, 1, 2, 3] rfl
  intro c hc hcs hci
  have := (pl_spec hc (by omega)).2.2.1
  rw [hcs] at this
  omega
