/-! ===== part 12: members, their weights; folding ===== -/
def sm (l : List Nat) (σ σ' : St) : Prop := ∀ o, o ∉ l → σ'.1 o = σ.1 o ∧ σ'.2 o = σ.2 o
theorem sm.rfl' {l : List Nat} {σ : St} : sm l σ σ := fun _ _ => ⟨rfl, rfl⟩
theorem sm.trans {l : List Nat} {σ τ υ : St} (h : sm l σ τ) (g : sm l τ υ) : sm l σ υ := fun o ho => ⟨(g o ho).1.trans (h o ho).1, (g o ho).2.trans (h o ho).2⟩
theorem sm.mono {l l' : List Nat} {σ τ : St} (h : sm l σ τ) (hl : ∀ o, o ∈ l → o ∈ l') : sm l' σ τ := fun o ho => h o (fun q => ho (hl o q))
theorem sm.sa {l : List Nat} {σ τ : St} {o : Nat} {g : Nat → Int32} (h : sm l σ τ) (ho : o ∈ l) : sm l σ (sa τ o g) := fun a ha => by
  have : a ≠ o := fun e => ha (e ▸ ho)
  exact ⟨by rw [sa_1, if_neg this]; exact (h a ha).1, (h a ha).2⟩
theorem sm.sL {l : List Nat} {σ τ : St} {o : Nat} {g : Nat → Int64} (h : sm l σ τ) (ho : o ∈ l) : sm l σ (sL τ o g) := fun a ha => by
  have : a ≠ o := fun e => ha (e ▸ ho)
  exact ⟨(h a ha).1, by rw [sL_2, if_neg this]; exact (h a ha).2⟩
theorem sm.si {l : List Nat} {σ τ : St} {o f : Nat} {v : Int32} (h : sm l σ τ) (ho : o ∈ l) : sm l σ (si τ o f v) := h.sa ho
theorem sm.sj {l : List Nat} {σ τ : St} {o f : Nat} {v : Int64} (h : sm l σ τ) (ho : o ∈ l) : sm l σ (sj τ o f v) := h.sL ho
/-- the members as the class holds them -/
def MV (σ : St) (n : Nat) : Prop := n ≤ 6 ∧ σ.1 5 1 = nI n ∧ (∀ j, j < 24 → ∃ d, d ≤ 9 ∧ σ.1 6 j = nI d) ∧ (∃ z, z ≤ 9 ∧ σ.1 0 15 = nI z)
def tw (σ : St) (j : Nat) : Nat := (σ.1 6 j).toNatClampNeg
def zp (σ : St) : Nat := (σ.1 0 15).toNatClampNeg
def wd (σ : St) (m k : Nat) (d : Int32) : Nat := tw σ (m * 4 + k) + if d = nI k then zp σ else 0
theorem tw_of {σ : St} {j d : Nat} (h2 : σ.1 6 j = nI d) (h1 : d ≤ 9) : tw σ j = d := by unfold tw; rw [h2]; exact nIc (by omega)
theorem zp_of {σ : St} {d : Nat} (h2 : σ.1 0 15 = nI d) (h1 : d ≤ 9) : zp σ = d := by unfold zp; rw [h2]; exact nIc (by omega)
theorem MV.tw {σ : St} {n j : Nat} (h : MV σ n) (hj : j < 24) : σ.1 6 j = nI (tw σ j) ∧ tw σ j ≤ 9 := by
  obtain ⟨d, h1, h2⟩ := h.2.2.1 j hj
  have := tw_of h2 h1
  rw [this]
  exact ⟨h2, h1⟩
theorem MV.zp {σ : St} {n : Nat} (h : MV σ n) : σ.1 0 15 = nI (zp σ) ∧ zp σ ≤ 9 := by
  obtain ⟨d, h1, h2⟩ := h.2.2.2
  have := zp_of h2 h1
  rw [this]
  exact ⟨h2, h1⟩
theorem MV.wd_le {σ : St} {n m k : Nat} {d : Int32} (h : MV σ n) (hm : m < 6) (hk : k < 4) : wd σ m k d ≤ 18 := by
  have h1 := (h.tw (show m * 4 + k < 24 by omega)).2
  have h2 := h.zp.2
  unfold wd
  split <;> omega
theorem MV.sm {σ σ' : St} {n : Nat} {l : List Nat} (h : MV σ n) (hs : sm l σ σ') (h0 : 0 ∉ l) (h5 : 5 ∉ l) (h6 : 6 ∉ l) : MV σ' n := by
  unfold MV at h ⊢
  rw [(hs 0 h0).1, (hs 5 h5).1, (hs 6 h6).1]
  exact h
theorem wd_sm {σ σ' : St} {m k : Nat} {d : Int32} {l : List Nat} (hs : sm l σ σ') (h0 : 0 ∉ l) (h6 : 6 ∉ l) : wd σ' m k d = wd σ m k d := by
  unfold wd tw zp
  rw [(hs 0 h0).1, (hs 6 h6).1]
theorem wd_si {σ : St} {m k o f : Nat} {d v : Int32} (h0 : o ≠ 0) (h6 : o ≠ 6) : wd (si σ o f v) m k d = wd σ m k d := by
  unfold wd tw zp
  have e0 : (si σ o f v).1 0 = σ.1 0 := if_neg (fun e => h0 e.symm)
  have e6 : (si σ o f v).1 6 = σ.1 6 := if_neg (fun e => h6 e.symm)
  rw [e0, e6]
theorem wd_sa {σ : St} {m k o : Nat} {d : Int32} {g : Nat → Int32} (h0 : o ≠ 0) (h6 : o ≠ 6) : wd (sa σ o g) m k d = wd σ m k d := by
  unfold wd tw zp
  have e0 : (sa σ o g).1 0 = σ.1 0 := if_neg (fun e => h0 e.symm)
  have e6 : (sa σ o g).1 6 = σ.1 6 := if_neg (fun e => h6 e.symm)
  rw [e0, e6]
theorem wd_sL {σ : St} {m k o : Nat} {d : Int32} {g : Nat → Int64} : wd (sL σ o g) m k d = wd σ m k d := rfl
theorem wd_sj {σ : St} {m k o f : Nat} {d : Int32} {v : Int64} : wd (sj σ o f v) m k d = wd σ m k d := rfl
theorem PT.sm {σ σ' : St} {l : List Nat} (h : PT σ) (hs : sm l σ σ') (h0 : 16 ∉ l) (h5 : 17 ∉ l) : PT σ' := by
  unfold PT at h ⊢
  rw [(hs 16 h0).1, (hs 17 h5).1]
  exact h
theorem v8_weightN {σ : St} {n m k : Nat} {d : Int32} {K : Kr} (hv : MV σ n) (hm : m < 6) (hk : k < 4) (h : K (some (.int (nI (wd σ m k d)))) σ) : VM M8_weight [.ref 0, .int (nI m), .int (nI k), .int d] σ K := by
  have e : nI m * 4 + nI k = nI (m * 4 + k) := by rw [nI_x4, nI_add]
  refine v8_weight (by rw [e]; exact vp_in_nI (by omega) (by decide)) ?_
  rw [e, nIc (by omega), (hv.tw (show m * 4 + k < 24 by omega)).1, hv.zp.1]
  unfold wd at h
  split at h
  · rename_i q
    rw [if_pos q, nI_add]
    exact h
  · rename_i q
    rw [if_neg q]
    have : nI (tw σ (m * 4 + k)) + 0 = nI (tw σ (m * 4 + k) + 0) := nI_add _ 0
    rw [this]
    exact h
def ws4 (w : Nat → Nat → Nat) (m : Nat) : Nat := w m 0 + w m 1 + w m 2 + w m 3
theorem v8_weights {σ : St} {n m : Nat} {d : Int32} {K : Kr} (hv : MV σ n) (hm : m < 6) (h : K (some (.int (nI (ws4 (fun m k => wd σ m k d) m)))) σ) : VM M8_weights [.ref 0, .int (nI m), .int d] σ K := by
  refine vm_run s8_weights n8_weights (fun _ => false) 1000 (fun E => Nat.le_of_ble_eq_true rfl) ?_
  simp (decide := true) only [c8_weights, run_s, nxt_e, ap_const, ap_lconst, ap_ild, ap_lld, ap_ald, ap_ist, ap_lst, ap_ast, ap_iinc, ap_iadd, ap_isub, ap_imul, ap_iand, ap_ior, ap_ixor, ap_ishl, ap_ishr, ap_iushr, ap_idiv, ap_irem, ap_ineg, ap_ladd, ap_lsub, ap_lmul, ap_ldiv, ap_lrem, ap_lneg, ap_lcmp, ap_i2l, ap_l2i, ap_i2b, ap_i2s, ap_dup_int, ap_pop_int, ap_dup_ref, ap_pop_ref, ap_dup2, ap_ceq, ap_cne, ap_clt, ap_cge, ap_cgt, ap_cle, ap_zeq, ap_zne, ap_zlt, ap_zge, ap_zgt, ap_zle, ap_goto, ap_tsw, ap_lsw, ap_getI, ap_getJ, ap_getR, ap_putI, ap_putZ, ap_putJ, ap_iald, ap_lald, ap_bald, ap_aald, ap_iast, ap_last, ap_bast, ap_alen, ap_gst, ap_iret, ap_zret, ap_lret, ap_vret, ap_aret, ap_lmax, ap_labs, ap_acopy, ap_invV0, ap_invS0, ap_invV1, ap_invS1, ap_invV2, ap_invS2, ap_invV3, ap_invS3, ap_invV4, ap_invS4, ap_invV5, ap_invS5, tcnT, ocT, lenIT, lenWT, lenLT, lenVT, lenZT, startfT, vpL, sa_1, sa_2, sL_1, sL_2, si_1, si_2, sj_1, sj_2, ldI_e, ldL_e, ldA_e, inC_e, lk, st1, st2, rm1, rm2, Value.category, ctn_some, ctn_none, wsum, lv_args, Int32.reduceAdd, Int32.reduceSub, Int32.reduceMul, Nat.reduceAdd, Nat.reduceLT, Nat.reduceLeDiff, Nat.reduceEqDiff, Nat.reduceBEq, ↓reduceIte, true_and, and_true, Bool.false_eq_true, true_implies, false_implies, not_true_eq_false, not_false_eq_true]
  refine v8_weightN (k := 0) hv hm (by decide) ?_
  simp (decide := true) only [c8_weights, run_s, nxt_e, ap_const, ap_lconst, ap_ild, ap_lld, ap_ald, ap_ist, ap_lst, ap_ast, ap_iinc, ap_iadd, ap_isub, ap_imul, ap_iand, ap_ior, ap_ixor, ap_ishl, ap_ishr, ap_iushr, ap_idiv, ap_irem, ap_ineg, ap_ladd, ap_lsub, ap_lmul, ap_ldiv, ap_lrem, ap_lneg, ap_lcmp, ap_i2l, ap_l2i, ap_i2b, ap_i2s, ap_dup_int, ap_pop_int, ap_dup_ref, ap_pop_ref, ap_dup2, ap_ceq, ap_cne, ap_clt, ap_cge, ap_cgt, ap_cle, ap_zeq, ap_zne, ap_zlt, ap_zge, ap_zgt, ap_zle, ap_goto, ap_tsw, ap_lsw, ap_getI, ap_getJ, ap_getR, ap_putI, ap_putZ, ap_putJ, ap_iald, ap_lald, ap_bald, ap_aald, ap_iast, ap_last, ap_bast, ap_alen, ap_gst, ap_iret, ap_zret, ap_lret, ap_vret, ap_aret, ap_lmax, ap_labs, ap_acopy, ap_invV0, ap_invS0, ap_invV1, ap_invS1, ap_invV2, ap_invS2, ap_invV3, ap_invS3, ap_invV4, ap_invS4, ap_invV5, ap_invS5, tcnT, ocT, lenIT, lenWT, lenLT, lenVT, lenZT, startfT, vpL, sa_1, sa_2, sL_1, sL_2, si_1, si_2, sj_1, sj_2, ldI_e, ldL_e, ldA_e, inC_e, lk, st1, st2, rm1, rm2, Value.category, ctn_some, ctn_none, wsum, lv_args, Int32.reduceAdd, Int32.reduceSub, Int32.reduceMul, Nat.reduceAdd, Nat.reduceLT, Nat.reduceLeDiff, Nat.reduceEqDiff, Nat.reduceBEq, ↓reduceIte, true_and, and_true, Bool.false_eq_true, true_implies, false_implies, not_true_eq_false, not_false_eq_true]
  refine v8_weightN (k := 1) hv hm (by decide) ?_
  simp (decide := true) only [c8_weights, run_s, nxt_e, ap_const, ap_lconst, ap_ild, ap_lld, ap_ald, ap_ist, ap_lst, ap_ast, ap_iinc, ap_iadd, ap_isub, ap_imul, ap_iand, ap_ior, ap_ixor, ap_ishl, ap_ishr, ap_iushr, ap_idiv, ap_irem, ap_ineg, ap_ladd, ap_lsub, ap_lmul, ap_ldiv, ap_lrem, ap_lneg, ap_lcmp, ap_i2l, ap_l2i, ap_i2b, ap_i2s, ap_dup_int, ap_pop_int, ap_dup_ref, ap_pop_ref, ap_dup2, ap_ceq, ap_cne, ap_clt, ap_cge, ap_cgt, ap_cle, ap_zeq, ap_zne, ap_zlt, ap_zge, ap_zgt, ap_zle, ap_goto, ap_tsw, ap_lsw, ap_getI, ap_getJ, ap_getR, ap_putI, ap_putZ, ap_putJ, ap_iald, ap_lald, ap_bald, ap_aald, ap_iast, ap_last, ap_bast, ap_alen, ap_gst, ap_iret, ap_zret, ap_lret, ap_vret, ap_aret, ap_lmax, ap_labs, ap_acopy, ap_invV0, ap_invS0, ap_invV1, ap_invS1, ap_invV2, ap_invS2, ap_invV3, ap_invS3, ap_invV4, ap_invS4, ap_invV5, ap_invS5, tcnT, ocT, lenIT, lenWT, lenLT, lenVT, lenZT, startfT, vpL, sa_1, sa_2, sL_1, sL_2, si_1, si_2, sj_1, sj_2, ldI_e, ldL_e, ldA_e, inC_e, lk, st1, st2, rm1, rm2, Value.category, ctn_some, ctn_none, wsum, lv_args, Int32.reduceAdd, Int32.reduceSub, Int32.reduceMul, Nat.reduceAdd, Nat.reduceLT, Nat.reduceLeDiff, Nat.reduceEqDiff, Nat.reduceBEq, ↓reduceIte, true_and, and_true, Bool.false_eq_true, true_implies, false_implies, not_true_eq_false, not_false_eq_true]
  refine v8_weightN (k := 2) hv hm (by decide) ?_
  simp (decide := true) only [c8_weights, run_s, nxt_e, ap_const, ap_lconst, ap_ild, ap_lld, ap_ald, ap_ist, ap_lst, ap_ast, ap_iinc, ap_iadd, ap_isub, ap_imul, ap_iand, ap_ior, ap_ixor, ap_ishl, ap_ishr, ap_iushr, ap_idiv, ap_irem, ap_ineg, ap_ladd, ap_lsub, ap_lmul, ap_ldiv, ap_lrem, ap_lneg, ap_lcmp, ap_i2l, ap_l2i, ap_i2b, ap_i2s, ap_dup_int, ap_pop_int, ap_dup_ref, ap_pop_ref, ap_dup2, ap_ceq, ap_cne, ap_clt, ap_cge, ap_cgt, ap_cle, ap_zeq, ap_zne, ap_zlt, ap_zge, ap_zgt, ap_zle, ap_goto, ap_tsw, ap_lsw, ap_getI, ap_getJ, ap_getR, ap_putI, ap_putZ, ap_putJ, ap_iald, ap_lald, ap_bald, ap_aald, ap_iast, ap_last, ap_bast, ap_alen, ap_gst, ap_iret, ap_zret, ap_lret, ap_vret, ap_aret, ap_lmax, ap_labs, ap_acopy, ap_invV0, ap_invS0, ap_invV1, ap_invS1, ap_invV2, ap_invS2, ap_invV3, ap_invS3, ap_invV4, ap_invS4, ap_invV5, ap_invS5, tcnT, ocT, lenIT, lenWT, lenLT, lenVT, lenZT, startfT, vpL, sa_1, sa_2, sL_1, sL_2, si_1, si_2, sj_1, sj_2, ldI_e, ldL_e, ldA_e, inC_e, lk, st1, st2, rm1, rm2, Value.category, ctn_some, ctn_none, wsum, lv_args, Int32.reduceAdd, Int32.reduceSub, Int32.reduceMul, Nat.reduceAdd, Nat.reduceLT, Nat.reduceLeDiff, Nat.reduceEqDiff, Nat.reduceBEq, ↓reduceIte, true_and, and_true, Bool.false_eq_true, true_implies, false_implies, not_true_eq_false, not_false_eq_true]
  refine v8_weightN (k := 3) hv hm (by decide) ?_
  simp (decide := true) only [c8_weights, run_s, nxt_e, ap_const, ap_lconst, ap_ild, ap_lld, ap_ald, ap_ist, ap_lst, ap_ast, ap_iinc, ap_iadd, ap_isub, ap_imul, ap_iand, ap_ior, ap_ixor, ap_ishl, ap_ishr, ap_iushr, ap_idiv, ap_irem, ap_ineg, ap_ladd, ap_lsub, ap_lmul, ap_ldiv, ap_lrem, ap_lneg, ap_lcmp, ap_i2l, ap_l2i, ap_i2b, ap_i2s, ap_dup_int, ap_pop_int, ap_dup_ref, ap_pop_ref, ap_dup2, ap_ceq, ap_cne, ap_clt, ap_cge, ap_cgt, ap_cle, ap_zeq, ap_zne, ap_zlt, ap_zge, ap_zgt, ap_zle, ap_goto, ap_tsw, ap_lsw, ap_getI, ap_getJ, ap_getR, ap_putI, ap_putZ, ap_putJ, ap_iald, ap_lald, ap_bald, ap_aald, ap_iast, ap_last, ap_bast, ap_alen, ap_gst, ap_iret, ap_zret, ap_lret, ap_vret, ap_aret, ap_lmax, ap_labs, ap_acopy, ap_invV0, ap_invS0, ap_invV1, ap_invS1, ap_invV2, ap_invS2, ap_invV3, ap_invS3, ap_invV4, ap_invS4, ap_invV5, ap_invS5, tcnT, ocT, lenIT, lenWT, lenLT, lenVT, lenZT, startfT, vpL, sa_1, sa_2, sL_1, sL_2, si_1, si_2, sj_1, sj_2, ldI_e, ldL_e, ldA_e, inC_e, lk, st1, st2, rm1, rm2, Value.category, ctn_some, ctn_none, wsum, lv_args, Int32.reduceAdd, Int32.reduceSub, Int32.reduceMul, Nat.reduceAdd, Nat.reduceLT, Nat.reduceLeDiff, Nat.reduceEqDiff, Nat.reduceBEq, ↓reduceIte, true_and, and_true, Bool.false_eq_true, true_implies, false_implies, not_true_eq_false, not_false_eq_true]
  have e : (0 : Int32) + nI (wd σ m 0 d) + nI (wd σ m 1 d) + nI (wd σ m 2 d) + nI (wd σ m 3 d) = nI (ws4 (fun m k => wd σ m k d) m) := by
    rw [show (0 : Int32) = nI 0 from rfl, nI_add, nI_add, nI_add, nI_add, Nat.zero_add]
    rfl
  rw [e]
  exact h
/-! folding -/
def F (w : Nat → Nat → Nat) (val : Nat → Int) : List Nat → Nat → Int
  | [], c => val c
  | m :: ms, c => (w m 0 : Int) * F w val ms (c + pw 0) + (w m 1 : Int) * F w val ms (c + pw 1) + (w m 2 : Int) * F w val ms (c + pw 2) + (w m 3 : Int) * F w val ms (c + pw 3)
/-- the members of a set, from r on, d of them looked at -/
def Tm (S : Nat) : Nat → Nat → List Nat
  | _, 0 => []
  | r, d + 1 => if S.testBit r then r :: Tm S (r + 1) d else Tm S (r + 1) d
theorem Tm_app (S : Nat) : ∀ (a r b : Nat), Tm S r (a + b) = Tm S r a ++ Tm S (r + a) b := by
  intro a
  induction a with
  | zero => intro r b; simp [Tm]
  | succ a ih =>
    intro r b
    have e : a + 1 + b = (a + b) + 1 := by omega
    rw [e]
    simp only [Tm]
    rw [ih (r + 1) b, show r + 1 + a = r + (a + 1) by omega]
    split <;> simp
theorem bit_c : ∀ S, S < 64 → ∀ m, m < 6 → (nI S >>> (nI m &&& 31) &&& 1) = if S.testBit m then 1 else 0 := by decide +kernel
theorem addm1 (x : Int32) : x + (-1) = x - 1 := (Int32.sub_eq_add_neg x 1).symm
theorem toL (a : Nat) (ha : a < 2 ^ 31) (x : Int) : (nI a).toInt64 * Int64.ofInt x = Int64.ofInt ((a : Int) * x) := by
  rw [nI_l ha, Int64.ofInt_mul]
  rfl
