/-! ===== part 15: sets of members; means of all sets ===== -/
def al (n : Nat) : Nat := 2 ^ n - 1
def nd (a b : Nat) : Nat := a &&& (63 ^^^ b)
def pcn (S : Nat) : Nat := (Tm S 0 6).length
theorem pcn_n : ∀ n, n < 7 → ∀ S, S < 2 ^ n → (Tm S 0 n).length = pcn S := by decide +kernel
theorem pcn_le : ∀ S, S < 64 → pcn S ≤ 6 := by decide +kernel
theorem al_n : ∀ n, n < 7 → (1 : Int32) <<< (nI n &&& 31) - 1 = nI (al n) := by decide +kernel
theorem al_lt : ∀ n, n < 7 → al n < 64 ∧ al n + 1 = 2 ^ n := by decide +kernel
theorem nd_c : ∀ a, a < 64 → ∀ b, b < 64 → nI a &&& (nI b ^^^ (-1)) = nI (nd a b) ∧ nd a b < 64 := by decide +kernel
theorem and_c : ∀ a, a < 64 → ∀ b, b < 64 → nI a &&& nI b = nI (a &&& b) ∧ a &&& b < 64 := by decide +kernel
theorem or_c : ∀ a, a < 64 → ∀ m, m < 6 → nI a ||| nI (2 ^ m) = nI (a ||| 2 ^ m) ∧ a ||| 2 ^ m < 64 := by decide +kernel
theorem shl_c : ∀ m, m < 6 → (1 : Int32) <<< (nI m &&& 31) = nI (2 ^ m) := by decide +kernel
theorem bit_a : ∀ a, a < 64 → ∀ m, m < 6 → ((nI a &&& nI (2 ^ m) = 0) ↔ a.testBit m = false) := by decide +kernel
theorem bitc_c : ∀ S, S < 64 → ∀ x, x = nI S - ((nI S).toUInt32 >>> (Int32.toUInt32 1 &&& Int32.toUInt32 31)).toInt32 &&& 1431655765 → True := fun _ _ _ _ => trivial
theorem nd_bit {a b i : Nat} (hi : i < 6) : (nd a b).testBit i = (a.testBit i && !b.testBit i) := by
  unfold nd
  rw [Nat.testBit_and, Nat.testBit_xor]
  have : (63 : Nat).testBit i = true := by
    rcases (show i = 0 ∨ i = 1 ∨ i = 2 ∨ i = 3 ∨ i = 4 ∨ i = 5 by omega) with rfl | rfl | rfl | rfl | rfl | rfl <;> rfl
  rw [this]
  cases b.testBit i <;> rfl
theorem al_bit {n i : Nat} : (al n).testBit i = decide (i < n) := Nat.testBit_two_pow_sub_one n i
theorem sub_al {S n : Nat} (h : S < 2 ^ n) {i : Nat} (hb : S.testBit i = true) : (al n).testBit i = true := by
  rw [al_bit]
  rcases Nat.lt_or_ge i n with q | q
  · exact decide_eq_true q
  · have := Nat.testBit_lt_two_pow (Nat.lt_of_lt_of_le h (Nat.pow_le_pow_right (by decide) q))
    rw [this] at hb
    cases hb
theorem PW_split (w : Nat → Nat → Nat) {A S : Nat} (hsub : ∀ i, S.testBit i = true → A.testBit i = true) : ∀ (d r : Nat), r + d ≤ 6 → PW w (Tm S r d) * PW w (Tm (nd A S) r d) = PW w (Tm A r d) := by
  intro d
  induction d with
  | zero => intro r _; rfl
  | succ d ih =>
    intro r hr
    have h1 := ih (r + 1) (by omega)
    simp only [Tm, nd_bit (show r < 6 by omega)]
    cases hs : S.testBit r with
    | true =>
      rw [hsub r hs]
      simp only [Bool.not_true, Bool.and_false, Bool.false_eq_true, if_false, if_true, PW]
      rw [← h1, Nat.mul_assoc]
    | false =>
      cases ha : A.testBit r with
      | true =>
        simp only [Bool.not_false, Bool.and_true, Bool.false_eq_true, if_false, if_true, PW]
        rw [← h1, Nat.mul_left_comm]
      | false =>
        simp only [Bool.false_and, Bool.false_eq_true, if_false]
        exact h1
theorem Tm_mem {S m : Nat} : ∀ {d r : Nat}, m ∈ Tm S r d → r ≤ m ∧ m < r + d ∧ S.testBit m = true := by
  intro d
  induction d with
  | zero => intro r h; cases h
  | succ d ih =>
    intro r h
    simp only [Tm] at h
    split at h
    · rename_i hb
      rcases List.mem_cons.mp h with q | q
      · subst q; exact ⟨Nat.le_refl _, by omega, hb⟩
      · have := ih q; exact ⟨by omega, by omega, this.2.2⟩
    · have := ih h; exact ⟨by omega, by omega, this.2.2⟩
theorem Tm_len (S : Nat) : ∀ (d r : Nat), (Tm S r d).length ≤ d := by
  intro d
  induction d with
  | zero => intro r; exact Nat.le_refl _
  | succ d ih =>
    intro r
    simp only [Tm]
    have := ih (r + 1)
    split
    · simp; exact this
    · omega
theorem F_bound {w : Nat → Nat → Nat} {val : Nat → Int} {B : Nat} (hB : ∀ c, c < 2401 → sz c ≤ 6 → -(B : Int) ≤ val c ∧ val c ≤ B) : ∀ (ms : List Nat) (c : Nat), c < 2401 → sz c + ms.length ≤ 6 → -((B * PW w ms : Nat) : Int) ≤ F w val ms c ∧ F w val ms c ≤ ((B * PW w ms : Nat) : Int) := by
  intro ms
  induction ms with
  | nil =>
    intro c hc hs
    simp only [PW, F, Nat.mul_one]
    exact hB c hc (by simpa using hs)
  | cons m r ih =>
    intro c hc hs
    simp only [List.length_cons] at hs
    have hk := fun k (h4 : k < 4) => inc_spec hc (by omega : sz c < 6) h4
    have h0 := ih (c + pw 0) (hk 0 (by decide)).1 (by have := (hk 0 (by decide)).2.1; omega)
    have h1 := ih (c + pw 1) (hk 1 (by decide)).1 (by have := (hk 1 (by decide)).2.1; omega)
    have h2 := ih (c + pw 2) (hk 2 (by decide)).1 (by have := (hk 2 (by decide)).2.1; omega)
    have h3 := ih (c + pw 3) (hk 3 (by decide)).1 (by have := (hk 3 (by decide)).2.1; omega)
    have mul : ∀ (a : Nat) (x : Int) (y : Nat), -(y : Int) ≤ x ∧ x ≤ y → -((a * y : Nat) : Int) ≤ (a : Int) * x ∧ (a : Int) * x ≤ ((a * y : Nat) : Int) := by
      intro a x y hxy
      have g1 := Int.mul_le_mul_of_nonneg_left hxy.1 (Int.natCast_nonneg a)
      have g2 := Int.mul_le_mul_of_nonneg_left hxy.2 (Int.natCast_nonneg a)
      rw [Int.natCast_mul]
      rw [Int.mul_neg] at g1
      exact ⟨g1, g2⟩
    have m0 := mul (w m 0) _ _ h0
    have m1 := mul (w m 1) _ _ h1
    have m2 := mul (w m 2) _ _ h2
    have m3 := mul (w m 3) _ _ h3
    have e : B * PW w (m :: r) = w m 0 * (B * PW w r) + w m 1 * (B * PW w r) + w m 2 * (B * PW w r) + w m 3 * (B * PW w r) := by
      simp only [PW, ws4]
      rw [← Nat.add_mul, ← Nat.add_mul, ← Nat.add_mul, ← Nat.mul_assoc, Nat.mul_comm B, Nat.mul_assoc]
    rw [e]
    simp only [F]
    omega
/-- what the class's own tables say, and that each member dreams of something -/
def PO (σ : St) (n : Nat) : Prop := ∀ m, m < n → 0 < tw σ (m * 4) + tw σ (m * 4 + 1) + tw σ (m * 4 + 2) + tw σ (m * 4 + 3)
def CV (σ : St) (n : Nat) : Prop := MV σ n ∧ PT σ ∧ BV σ ∧ PO σ n
theorem CV.sm {σ σ' : St} {n : Nat} {l : List Nat} (h : CV σ n) (hs : sm l σ σ') (h0 : 0 ∉ l) (h5 : 5 ∉ l) (h6 : 6 ∉ l) (h11 : 11 ∉ l) (h16 : 16 ∉ l) (h17 : 17 ∉ l) : CV σ' n := by
  refine ⟨h.1.sm hs h0 h5 h6, h.2.1.sm hs h16 h17, h.2.2.1.sm hs h0 h11, ?_⟩
  have := h.2.2.2
  unfold PO tw at this ⊢
  rw [(hs 6 h6).1]
  exact this
def ww (σ : St) (m k : Nat) : Nat := wd σ m k (σ.1 29 m)
theorem ww_sm {σ σ' : St} {l : List Nat} (hs : sm l σ σ') (h0 : 0 ∉ l) (h6 : 6 ∉ l) (h29 : 29 ∉ l) : ww σ' = ww σ := by
  funext m k
  unfold ww
  rw [wd_sm hs h0 h6, (hs 29 h29).1]
theorem wvf_sm {σ σ' : St} {l : List Nat} (hs : sm l σ σ') (h0 : 0 ∉ l) (h5 : 11 ∉ l) : wv σ' = wv σ := funext fun _ => wv_sm hs h0 h5
def mtw (w : Nat → Nat → Nat) (val : Nat → Int) (n S : Nat) : Int := F w val (Tm S 0 n) 0 * ((PW w (Tm (nd (al n) S) 0 n) : Nat) : Int)
def pall (w : Nat → Nat → Nat) (n : Nat) : Nat := PW w (Tm (al n) 0 n)
/-- a member's weights are small, and not all nothing -/
def WS (w : Nat → Nat → Nat) (n : Nat) : Prop := ∀ m, m < n → 0 < ws4 w m ∧ ws4 w m ≤ 72
theorem CV.ws {σ : St} {n o : Nat} (h : CV σ n) (g : Nat → Int32) : WS (fun m k => wd σ m k (g m)) n := by
  intro m hm
  have hn := h.1.1
  refine ⟨?_, h.1.ws_le (d := g m) (by omega)⟩
  have := h.2.2.2 m hm
  show 0 < wd σ m 0 (g m) + wd σ m 1 (g m) + wd σ m 2 (g m) + wd σ m 3 (g m)
  unfold wd
  simp only [Nat.add_zero]
  omega
theorem CV.wsw {σ : St} {n : Nat} (h : CV σ n) : WS (ww σ) n := h.ws (o := 0) (σ.1 29)
theorem PW_b {w : Nat → Nat → Nat} {n S : Nat} (h : WS w n) : ∀ (d r : Nat), r + d ≤ n → 0 < PW w (Tm S r d) ∧ PW w (Tm S r d) ≤ 72 ^ d := by
  intro d
  induction d with
  | zero => intro r _; exact ⟨Nat.zero_lt_one, Nat.le_refl 1⟩
  | succ d ih =>
    intro r hr
    have h1 := ih (r + 1) (by omega)
    have h2 := h r (by omega)
    simp only [Tm]
    have e : 72 ^ (d + 1) = 72 * 72 ^ d := by rw [Nat.pow_succ, Nat.mul_comm]
    split
    · simp only [PW]
      refine ⟨Nat.mul_pos h2.1 h1.1, ?_⟩
      rw [e]
      exact Nat.mul_le_mul h2.2 h1.2
    · refine ⟨h1.1, ?_⟩
      rw [e]
      exact Nat.le_trans h1.2 (by omega)
theorem pall_b {w : Nat → Nat → Nat} {n : Nat} (h : WS w n) (hn : n ≤ 6) : 0 < pall w n ∧ pall w n ≤ 72 ^ 6 := by
  have := PW_b (S := al n) h n 0 (by omega)
  exact ⟨this.1, Nat.le_trans this.2 (Nat.pow_le_pow_right (by decide) hn)⟩
def V54 (val : Nat → Int) : Prop := ∀ c, c < 2401 → sz c ≤ 6 → -((54 : Nat) : Int) ≤ val c ∧ val c ≤ ((54 : Nat) : Int)
theorem mtw_b {w : Nat → Nat → Nat} {val : Nat → Int} {n S : Nat} (h : WS w n) (hv : V54 val) (hn : n ≤ 6) (hS : S < 2 ^ n) : -((54 * pall w n : Nat) : Int) ≤ mtw w val n S ∧ mtw w val n S ≤ ((54 * pall w n : Nat) : Int) := by
  have hl := Tm_len S n 0
  have h1 := F_bound (w := w) hv (Tm S 0 n) 0 (by decide) (by have : sz 0 = 0 := rfl; omega)
  have h2 := PW_split w (fun i hb => sub_al hS hb) n 0 (by omega)
  unfold mtw
  have e : 54 * pall w n = PW w (Tm (nd (al n) S) 0 n) * (54 * PW w (Tm S 0 n)) := by
    unfold pall
    rw [← h2]
    rw [Nat.mul_comm (PW w (Tm S 0 n)), ← Nat.mul_assoc, Nat.mul_comm 54, Nat.mul_assoc]
  rw [e, Int.mul_comm]
  have g1 := Int.mul_le_mul_of_nonneg_left h1.1 (Int.natCast_nonneg (PW w (Tm (nd (al n) S) 0 n)))
  have g2 := Int.mul_le_mul_of_nonneg_left h1.2 (Int.natCast_nonneg (PW w (Tm (nd (al n) S) 0 n)))
  rw [Int.mul_neg] at g1
  rw [Int.natCast_mul (PW w (Tm (nd (al n) S) 0 n))]
  exact ⟨g1, g2⟩
theorem CV.v54 {σ : St} {n : Nat} (h : CV σ n) : V54 (wv σ) := fun c hc h6 => by
  obtain ⟨v, -, -, -, g⟩ := worth_eq h.2.2.1 h.2.1 hc h6
  exact g
theorem lN_of (n : Nat) : lN n = Int64.ofInt (n : Int) := rfl
theorem ofI_b {x : Int} (h1 : -2 ^ 63 ≤ x) (h2 : x < 2 ^ 63) : (Int64.ofInt x).toInt = x := Int64.toInt_ofInt_of_le h1 h2
/-! the contracts -/
def bcx (x : Int32) : Int32 := x
theorem v_bitCount {σ : St} {K : Kr} {S : Nat} (hS : S < 64) (h : K (some (.int (nI (pcn S)))) σ) : VM M_bitCount [.int (nI S)] σ K := by
  refine vm_run s_bitCount n_bitCount (fun _ => false) 1000 (fun E => Nat.le_of_ble_eq_true rfl) ?_
  simp (decide := true) only [c_bitCount, run_s, nxt_e, ap_const, ap_lconst, ap_ild, ap_lld, ap_ald, ap_ist, ap_lst, ap_ast, ap_iinc, ap_iadd, ap_isub, ap_imul, ap_iand, ap_ior, ap_ixor, ap_ishl, ap_ishr, ap_iushr, ap_idiv, ap_irem, ap_ineg, ap_ladd, ap_lsub, ap_lmul, ap_ldiv, ap_lrem, ap_lneg, ap_lcmp, ap_i2l, ap_l2i, ap_i2b, ap_i2s, ap_dup_int, ap_pop_int, ap_dup_ref, ap_pop_ref, ap_dup2, ap_ceq, ap_cne, ap_clt, ap_cge, ap_cgt, ap_cle, ap_zeq, ap_zne, ap_zlt, ap_zge, ap_zgt, ap_zle, ap_goto, ap_tsw, ap_lsw, ap_getI, ap_getJ, ap_getR, ap_putI, ap_putZ, ap_putJ, ap_iald, ap_lald, ap_bald, ap_aald, ap_iast, ap_last, ap_bast, ap_alen, ap_gst, ap_iret, ap_zret, ap_lret, ap_vret, ap_aret, ap_lmax, ap_labs, ap_acopy, ap_invV0, ap_invS0, ap_invV1, ap_invS1, ap_invV2, ap_invS2, ap_invV3, ap_invS3, ap_invV4, ap_invS4, ap_invV5, ap_invS5, tcnT, ocT, lenIT, lenWT, lenLT, lenVT, lenZT, startfT, vpL, sa_1, sa_2, sL_1, sL_2, si_1, si_2, sj_1, sj_2, ldI_e, ldL_e, ldA_e, inC_e, lk, st1, st2, rm1, rm2, Value.category, ctn_some, ctn_none, wsum, lv_args, Int32.reduceAdd, Int32.reduceSub, Int32.reduceMul, Nat.reduceAdd, Nat.reduceLT, Nat.reduceLeDiff, Nat.reduceEqDiff, Nat.reduceBEq, ↓reduceIte, true_and, and_true, Bool.false_eq_true, true_implies, false_implies, not_true_eq_false, not_false_eq_true]
  have e : ∀ S, S < 64 → (show Int32 from by
    exact (let a := nI S - (((nI S).toUInt32 >>> (Int32.toUInt32 1 &&& Int32.toUInt32 31)).toInt32 &&& 1431655765)
      let b := (a &&& 858993459) + ((a.toUInt32 >>> (Int32.toUInt32 2 &&& Int32.toUInt32 31)).toInt32 &&& 858993459)
      let c := (b + (b.toUInt32 >>> (Int32.toUInt32 4 &&& Int32.toUInt32 31)).toInt32) &&& 252645135
      let d := c + (c.toUInt32 >>> (Int32.toUInt32 8 &&& Int32.toUInt32 31)).toInt32
      let e := d + (d.toUInt32 >>> (Int32.toUInt32 16 &&& Int32.toUInt32 31)).toInt32
      e &&& 63)) = nI (pcn S) := by decide +kernel
  have e1 := e S hS
  rw [← e1] at h
  exact h
theorem v8_all {σ : St} {K : Kr} {n : Nat} (hv : MV σ n) (h : K (some (.int (nI (al n)))) σ) : VM M8_everybody [.ref 0] σ K := by
  refine v8_everybody ?_
  have hn := hv.1
  rw [hv.2.1, al_n n (by omega)]
  exact h
theorem v8_mtw {σ : St} {K : Kr} {n S : Nat} (hv : CV σ n) (hS : S < 2 ^ n) (h : ∀ σ', sm [13, 14] σ σ' → K (some (.long (Int64.ofInt (mtw (ww σ) (wv σ) n S)))) σ') : VM M8_meanTimesAllWeights [.ref 0, .int (nI S)] σ K := by
  have hn := hv.1.1
  have h64 : S < 64 := by
    have : 2 ^ n ≤ 2 ^ 6 := Nat.pow_le_pow_right (by decide) hn
    omega
  refine vm_run s8_meanTimesAllWeights n8_meanTimesAllWeights (fun _ => false) 1000 (fun E => Nat.le_of_ble_eq_true rfl) ?_
  simp (decide := true) only [c8_meanTimesAllWeights, run_s, nxt_e, ap_const, ap_lconst, ap_ild, ap_lld, ap_ald, ap_ist, ap_lst, ap_ast, ap_iinc, ap_iadd, ap_isub, ap_imul, ap_iand, ap_ior, ap_ixor, ap_ishl, ap_ishr, ap_iushr, ap_idiv, ap_irem, ap_ineg, ap_ladd, ap_lsub, ap_lmul, ap_ldiv, ap_lrem, ap_lneg, ap_lcmp, ap_i2l, ap_l2i, ap_i2b, ap_i2s, ap_dup_int, ap_pop_int, ap_dup_ref, ap_pop_ref, ap_dup2, ap_ceq, ap_cne, ap_clt, ap_cge, ap_cgt, ap_cle, ap_zeq, ap_zne, ap_zlt, ap_zge, ap_zgt, ap_zle, ap_goto, ap_tsw, ap_lsw, ap_getI, ap_getJ, ap_getR, ap_putI, ap_putZ, ap_putJ, ap_iald, ap_lald, ap_bald, ap_aald, ap_iast, ap_last, ap_bast, ap_alen, ap_gst, ap_iret, ap_zret, ap_lret, ap_vret, ap_aret, ap_lmax, ap_labs, ap_acopy, ap_invV0, ap_invS0, ap_invV1, ap_invS1, ap_invV2, ap_invS2, ap_invV3, ap_invS3, ap_invV4, ap_invS4, ap_invV5, ap_invS5, tcnT, ocT, lenIT, lenWT, lenLT, lenVT, lenZT, startfT, vpL, sa_1, sa_2, sL_1, sL_2, si_1, si_2, sj_1, sj_2, ldI_e, ldL_e, ldA_e, inC_e, lk, st1, st2, rm1, rm2, Value.category, ctn_some, ctn_none, wsum, lv_args, Int32.reduceAdd, Int32.reduceSub, Int32.reduceMul, Nat.reduceAdd, Nat.reduceLT, Nat.reduceLeDiff, Nat.reduceEqDiff, Nat.reduceBEq, ↓reduceIte, true_and, and_true, Bool.false_eq_true, true_implies, false_implies, not_true_eq_false, not_false_eq_true]
  refine v_bitCount h64 ?_
  simp (decide := true) only [c8_meanTimesAllWeights, run_s, nxt_e, ap_const, ap_lconst, ap_ild, ap_lld, ap_ald, ap_ist, ap_lst, ap_ast, ap_iinc, ap_iadd, ap_isub, ap_imul, ap_iand, ap_ior, ap_ixor, ap_ishl, ap_ishr, ap_iushr, ap_idiv, ap_irem, ap_ineg, ap_ladd, ap_lsub, ap_lmul, ap_ldiv, ap_lrem, ap_lneg, ap_lcmp, ap_i2l, ap_l2i, ap_i2b, ap_i2s, ap_dup_int, ap_pop_int, ap_dup_ref, ap_pop_ref, ap_dup2, ap_ceq, ap_cne, ap_clt, ap_cge, ap_cgt, ap_cle, ap_zeq, ap_zne, ap_zlt, ap_zge, ap_zgt, ap_zle, ap_goto, ap_tsw, ap_lsw, ap_getI, ap_getJ, ap_getR, ap_putI, ap_putZ, ap_putJ, ap_iald, ap_lald, ap_bald, ap_aald, ap_iast, ap_last, ap_bast, ap_alen, ap_gst, ap_iret, ap_zret, ap_lret, ap_vret, ap_aret, ap_lmax, ap_labs, ap_acopy, ap_invV0, ap_invS0, ap_invV1, ap_invS1, ap_invV2, ap_invS2, ap_invV3, ap_invS3, ap_invV4, ap_invS4, ap_invV5, ap_invS5, tcnT, ocT, lenIT, lenWT, lenLT, lenVT, lenZT, startfT, vpL, sa_1, sa_2, sL_1, sL_2, si_1, si_2, sj_1, sj_2, ldI_e, ldL_e, ldA_e, inC_e, lk, st1, st2, rm1, rm2, Value.category, ctn_some, ctn_none, wsum, lv_args, Int32.reduceAdd, Int32.reduceSub, Int32.reduceMul, Nat.reduceAdd, Nat.reduceLT, Nat.reduceLeDiff, Nat.reduceEqDiff, Nat.reduceBEq, ↓reduceIte, true_and, and_true, Bool.false_eq_true, true_implies, false_implies, not_true_eq_false, not_false_eq_true]
  have hl := pcn_n n (by omega) S hS
  refine v8_foldWorth hv.1 hv.2.1 hv.2.2.1 h64 (pcn_le S h64) (by omega) ?_
  intro σ' hsm hF
  have hF0 := hF 0 (by decide) (by have : sz 0 = 0 := rfl; omega)
  rw [pl0] at hF0
  simp (decide := true) only [c8_meanTimesAllWeights, run_s, nxt_e, ap_const, ap_lconst, ap_ild, ap_lld, ap_ald, ap_ist, ap_lst, ap_ast, ap_iinc, ap_iadd, ap_isub, ap_imul, ap_iand, ap_ior, ap_ixor, ap_ishl, ap_ishr, ap_iushr, ap_idiv, ap_irem, ap_ineg, ap_ladd, ap_lsub, ap_lmul, ap_ldiv, ap_lrem, ap_lneg, ap_lcmp, ap_i2l, ap_l2i, ap_i2b, ap_i2s, ap_dup_int, ap_pop_int, ap_dup_ref, ap_pop_ref, ap_dup2, ap_ceq, ap_cne, ap_clt, ap_cge, ap_cgt, ap_cle, ap_zeq, ap_zne, ap_zlt, ap_zge, ap_zgt, ap_zle, ap_goto, ap_tsw, ap_lsw, ap_getI, ap_getJ, ap_getR, ap_putI, ap_putZ, ap_putJ, ap_iald, ap_lald, ap_bald, ap_aald, ap_iast, ap_last, ap_bast, ap_alen, ap_gst, ap_iret, ap_zret, ap_lret, ap_vret, ap_aret, ap_lmax, ap_labs, ap_acopy, ap_invV0, ap_invS0, ap_invV1, ap_invS1, ap_invV2, ap_invS2, ap_invV3, ap_invS3, ap_invV4, ap_invS4, ap_invV5, ap_invS5, tcnT, ocT, lenIT, lenWT, lenLT, lenVT, lenZT, startfT, vpL, sa_1, sa_2, sL_1, sL_2, si_1, si_2, sj_1, sj_2, ldI_e, ldL_e, ldA_e, inC_e, lk, st1, st2, rm1, rm2, Value.category, ctn_some, ctn_none, wsum, lv_args, Int32.reduceAdd, Int32.reduceSub, Int32.reduceMul, Nat.reduceAdd, Nat.reduceLT, Nat.reduceLeDiff, Nat.reduceEqDiff, Nat.reduceBEq, ↓reduceIte, true_and, and_true, Bool.false_eq_true, true_implies, false_implies, not_true_eq_false, not_false_eq_true, hF0]
  have hv' := hv.sm hsm (by decide) (by decide) (by decide) (by decide) (by decide) (by decide)
  refine v8_all hv'.1 ?_
  simp (decide := true) only [c8_meanTimesAllWeights, run_s, nxt_e, ap_const, ap_lconst, ap_ild, ap_lld, ap_ald, ap_ist, ap_lst, ap_ast, ap_iinc, ap_iadd, ap_isub, ap_imul, ap_iand, ap_ior, ap_ixor, ap_ishl, ap_ishr, ap_iushr, ap_idiv, ap_irem, ap_ineg, ap_ladd, ap_lsub, ap_lmul, ap_ldiv, ap_lrem, ap_lneg, ap_lcmp, ap_i2l, ap_l2i, ap_i2b, ap_i2s, ap_dup_int, ap_pop_int, ap_dup_ref, ap_pop_ref, ap_dup2, ap_ceq, ap_cne, ap_clt, ap_cge, ap_cgt, ap_cle, ap_zeq, ap_zne, ap_zlt, ap_zge, ap_zgt, ap_zle, ap_goto, ap_tsw, ap_lsw, ap_getI, ap_getJ, ap_getR, ap_putI, ap_putZ, ap_putJ, ap_iald, ap_lald, ap_bald, ap_aald, ap_iast, ap_last, ap_bast, ap_alen, ap_gst, ap_iret, ap_zret, ap_lret, ap_vret, ap_aret, ap_lmax, ap_labs, ap_acopy, ap_invV0, ap_invS0, ap_invV1, ap_invS1, ap_invV2, ap_invS2, ap_invV3, ap_invS3, ap_invV4, ap_invS4, ap_invV5, ap_invS5, tcnT, ocT, lenIT, lenWT, lenLT, lenVT, lenZT, startfT, vpL, sa_1, sa_2, sL_1, sL_2, si_1, si_2, sj_1, sj_2, ldI_e, ldL_e, ldA_e, inC_e, lk, st1, st2, rm1, rm2, Value.category, ctn_some, ctn_none, wsum, lv_args, Int32.reduceAdd, Int32.reduceSub, Int32.reduceMul, Nat.reduceAdd, Nat.reduceLT, Nat.reduceLeDiff, Nat.reduceEqDiff, Nat.reduceBEq, ↓reduceIte, true_and, and_true, Bool.false_eq_true, true_implies, false_implies, not_true_eq_false, not_false_eq_true]
  rw [(nd_c (al n) (al_lt n (by omega)).1 S h64).1]
  refine v8_product hv'.1 (Or.inl rfl) (nd_c (al n) (al_lt n (by omega)).1 S h64).2 ?_
  simp (decide := true) only [c8_meanTimesAllWeights, run_s, nxt_e, ap_const, ap_lconst, ap_ild, ap_lld, ap_ald, ap_ist, ap_lst, ap_ast, ap_iinc, ap_iadd, ap_isub, ap_imul, ap_iand, ap_ior, ap_ixor, ap_ishl, ap_ishr, ap_iushr, ap_idiv, ap_irem, ap_ineg, ap_ladd, ap_lsub, ap_lmul, ap_ldiv, ap_lrem, ap_lneg, ap_lcmp, ap_i2l, ap_l2i, ap_i2b, ap_i2s, ap_dup_int, ap_pop_int, ap_dup_ref, ap_pop_ref, ap_dup2, ap_ceq, ap_cne, ap_clt, ap_cge, ap_cgt, ap_cle, ap_zeq, ap_zne, ap_zlt, ap_zge, ap_zgt, ap_zle, ap_goto, ap_tsw, ap_lsw, ap_getI, ap_getJ, ap_getR, ap_putI, ap_putZ, ap_putJ, ap_iald, ap_lald, ap_bald, ap_aald, ap_iast, ap_last, ap_bast, ap_alen, ap_gst, ap_iret, ap_zret, ap_lret, ap_vret, ap_aret, ap_lmax, ap_labs, ap_acopy, ap_invV0, ap_invS0, ap_invV1, ap_invS1, ap_invV2, ap_invS2, ap_invV3, ap_invS3, ap_invV4, ap_invS4, ap_invV5, ap_invS5, tcnT, ocT, lenIT, lenWT, lenLT, lenVT, lenZT, startfT, vpL, sa_1, sa_2, sL_1, sL_2, si_1, si_2, sj_1, sj_2, ldI_e, ldL_e, ldA_e, inC_e, lk, st1, st2, rm1, rm2, Value.category, ctn_some, ctn_none, wsum, lv_args, Int32.reduceAdd, Int32.reduceSub, Int32.reduceMul, Nat.reduceAdd, Nat.reduceLT, Nat.reduceLeDiff, Nat.reduceEqDiff, Nat.reduceBEq, ↓reduceIte, true_and, and_true, Bool.false_eq_true, true_implies, false_implies, not_true_eq_false, not_false_eq_true]
  have e := ww_sm hsm (by decide) (by decide) (by decide)
  have : Int64.ofInt (F (fun m k => wd σ m k (σ.1 29 m)) (wv σ) (Tm S 0 n) 0) * lN (PW (fun m k => wd σ' m k (σ'.1 29 m)) (Tm (nd (al n) S) 0 n)) = Int64.ofInt (mtw (ww σ) (wv σ) n S) := by
    show Int64.ofInt (F (ww σ) (wv σ) (Tm S 0 n) 0) * lN (PW (ww σ') (Tm (nd (al n) S) 0 n)) = _
    rw [e, lN_of, ← Int64.ofInt_mul]
    rfl
  rw [this]
  exact h σ' hsm
