/-! ===== part 11: pools as numbers to the base 7, their places; the fold ===== -/
def pw (k : Nat) : Nat := 7 ^ k
def dg (c k : Nat) : Nat := c / 7 ^ k % 7
def sz (c : Nat) : Nat := dg c 0 + dg c 1 + dg c 2 + dg c 3
def plc (f w g n : Nat) : Nat := (f + (w + (g + n))) * (f + (w + (g + n)) + 1) * (f + (w + (g + n)) + 2) * (f + (w + (g + n)) + 3) / 24 + (w + (g + n)) * (w + (g + n) + 1) * (w + (g + n) + 2) / 6 + (g + n) * (g + n + 1) / 2 + n
def pl (c : Nat) : Nat := plc (dg c 0) (dg c 1) (dg c 2) (dg c 3)
def codes : List Nat := [0, 1, 7, 49, 343, 2, 8, 50, 344, 14, 56, 350, 98, 392, 686, 3, 9, 51, 345, 15, 57, 351, 99, 393, 687, 21, 63, 357, 105, 399, 693, 147, 441, 735, 1029, 4, 10, 52, 346, 16, 58, 352, 100, 394, 688, 22, 64, 358, 106, 400, 694, 148, 442, 736, 1030, 28, 70, 364, 112, 406, 700, 154, 448, 742, 1036, 196, 490, 784, 1078, 1372, 5, 11, 53, 347, 17, 59, 353, 101, 395, 689, 23, 65, 359, 107, 401, 695, 149, 443, 737, 1031, 29, 71, 365, 113, 407, 701, 155, 449, 743, 1037, 197, 491, 785, 1079, 1373, 35, 77, 371, 119, 413, 707, 161, 455, 749, 1043, 203, 497, 791, 1085, 1379, 245, 539, 833, 1127, 1421, 1715, 6, 12, 54, 348, 18, 60, 354, 102, 396, 690, 24, 66, 360, 108, 402, 696, 150, 444, 738, 1032, 30, 72, 366, 114, 408, 702, 156, 450, 744, 1038, 198, 492, 786, 1080, 1374, 36, 78, 372, 120, 414, 708, 162, 456, 750, 1044, 204, 498, 792, 1086, 1380, 246, 540, 834, 1128, 1422, 1716, 42, 84, 378, 126, 420, 714, 168, 462, 756, 1050, 210, 504, 798, 1092, 1386, 252, 546, 840, 1134, 1428, 1722, 294, 588, 882, 1176, 1470, 1764, 2058]
def up (i : Nat) : Nat := codes.getD i 0
def sS : Nat → Nat
  | 0 => 0
  | 1 => 1
  | 2 => 5
  | 3 => 15
  | 4 => 35
  | 5 => 70
  | 6 => 126
  | _ => 210
theorem all_lt {n : Nat} {p : Nat → Bool} (h : (List.range n).all p = true) {i : Nat} (hi : i < n) : p i = true := List.all_eq_true.mp h i (List.mem_range.mpr hi)
theorem up_b : (List.range 210).all (fun i => decide (pl (up i) = i ∧ up i < 2401 ∧ sz (up i) ≤ 6 ∧ sS (sz (up i)) ≤ i ∧ i < sS (sz (up i) + 1))) = true := by decide +kernel
theorem up_spec {i : Nat} (h : i < 210) : pl (up i) = i ∧ up i < 2401 ∧ sz (up i) ≤ 6 ∧ sS (sz (up i)) ≤ i ∧ i < sS (sz (up i) + 1) := of_decide_eq_true (all_lt up_b h)
theorem pl_b : (List.range 2401).all (fun c => decide (sz c ≤ 6 → up (pl c) = c ∧ pl c < 210 ∧ sS (sz c) ≤ pl c ∧ pl c < sS (sz c + 1))) = true := by decide +kernel
theorem pl_spec {c : Nat} (h : c < 2401) (h6 : sz c ≤ 6) : up (pl c) = c ∧ pl c < 210 ∧ sS (sz c) ≤ pl c ∧ pl c < sS (sz c + 1) := of_decide_eq_true (all_lt pl_b h) h6
theorem inc_b : (List.range 2401).all (fun c => !decide (sz c < 6) || (List.range 4).all (fun k => decide (c + pw k < 2401) && (decide (sz (c + pw k) = sz c + 1) && (List.range 4).all (fun j => decide (dg (c + pw k) j = dg c j + if j = k then 1 else 0))))) = true := by decide +kernel
theorem inc_spec {c k : Nat} (h : c < 2401) (h6 : sz c < 6) (hk : k < 4) : c + pw k < 2401 ∧ sz (c + pw k) = sz c + 1 ∧ ∀ j < 4, dg (c + pw k) j = dg c j + if j = k then 1 else 0 := by
  have h1 := all_lt inc_b h
  simp only [h6, decide_true, Bool.not_true, Bool.false_or] at h1
  have h2 := all_lt h1 hk
  simp only [Bool.and_eq_true, decide_eq_true_eq] at h2
  exact ⟨h2.1, h2.2.1, fun j hj => of_decide_eq_true (all_lt h2.2.2 hj)⟩
theorem sS_mono {a b : Nat} (h : a ≤ b) : sS a ≤ sS b := by
  have h1 : ∀ x, x < 8 → ∀ y, y < 8 → x ≤ y → sS x ≤ sS y := by decide
  have h2 : ∀ x, 7 ≤ x → sS x = 210 := by intro x hx; unfold sS; split <;> first | rfl | omega
  have h3 : ∀ x, sS x ≤ 210 := by intro x; unfold sS; split <;> omega
  rcases Nat.lt_or_ge b 8 with q | q
  · exact h1 a (by omega) b q h
  · rw [h2 b (by omega)]; exact h3 a
theorem sS_le {a : Nat} : sS a ≤ 210 := by unfold sS; split <;> omega
/-- the pools of s dreams are those with places from sS s on, before sS (s + 1) -/
theorem sz_iff {i s : Nat} (h : i < 210) : (sS s ≤ i ∧ i < sS (s + 1)) ↔ sz (up i) = s := by
  obtain ⟨-, -, -, h4, h5⟩ := up_spec h
  constructor
  · rintro ⟨a, b⟩
    rcases Nat.lt_trichotomy (sz (up i)) s with q | q | q
    · have := sS_mono (show sz (up i) + 1 ≤ s from q); omega
    · exact q
    · have := sS_mono (show s + 1 ≤ sz (up i) from q); omega
  · rintro rfl; exact ⟨h4, h5⟩
theorem startf_nI : ∀ s, s < 8 → startf s = nI (sS s) := by decide
theorem nIc {n : Nat} (h : n < 2 ^ 31) : (nI n).toNatClampNeg = n := nI_clamp h
theorem nI_x4 (a : Nat) : nI a * 4 = nI (a * 4) := pk_mul a 4
theorem nI_p2 (a : Nat) : nI a + 2 = nI (a + 2) := nI_add a 2
theorem nI_p3 (a : Nat) : nI a + 3 = nI (a + 3) := nI_add a 3
theorem vin {n N : Nat} (h : n < N) (hN : N < 2 ^ 31) : vp_in (nI n) N = True := eq_true (vp_in_nI h hN)
theorem lv_pick_map (E : Ev) (ls : List (Nat × Value)) (ks : List Nat) : lv_pick (ls.map (cv E)) ks = (lv_pick ls ks).map (cv E) := by
  induction ks with
  | nil => rfl
  | cons k r ih =>
    unfold lv_pick at ih ⊢
    simp only [List.filterMap_cons, List.getElem?_map] at ih ⊢
    cases ls[k]? with
    | none => simpa using ih
    | some q => simp [ih]
theorem VW.sub {M : MD} {X : Ev → (Nat → Prop) → State → Prop} {K : Kr} {pc : Nat} {ls ls' : List (Nat × Value)} {st : List Value} {σ : St} (h : VW M X K pc ls st σ) (ks : List Nat) (hs : lv_pick ls' ks = ls) : VW M X K pc ls' st σ := by
  intro l E p e R s m args below meth c A cs sl Q C H locs lv hP hS hl
  refine h l E p e R s m args below meth c A cs sl Q C H locs lv hP hS ?_
  rw [← hs, ← lv_pick_map]
  exact lv_sub hl ks rfl
/-- the tables of the pools -/
def PT (σ : St) : Prop := (∀ i, i < 210 → σ.1 16 i = nI (dg (up i) 3)) ∧ ∀ i k, i < 126 → k < 4 → σ.1 17 (i * 4 + k) = nI (pl (up i + pw k))
theorem up_lt126 {i : Nat} (h : i < 126) : sz (up i) < 6 := by
  obtain ⟨-, -, h3, h4, -⟩ := up_spec (show i < 210 by omega)
  rcases Nat.lt_or_ge (sz (up i)) 6 with q | q
  · exact q
  · have := sS_mono q
    have : sS 6 = 126 := rfl
    omega
theorem nx_lt {i k : Nat} (h : i < 126) (hk : k < 4) : pl (up i + pw k) < 210 := by
  obtain ⟨-, h2, -, -, -⟩ := up_spec (show i < 210 by omega)
  obtain ⟨a, b, -⟩ := inc_spec h2 (up_lt126 h) hk
  exact (pl_spec a (by have := up_lt126 h; omega)).2.1
/-- the sum that sumAt lays at a place -/
def fS (σ : St) (i : Nat) : Int64 := (σ.1 14 0).toInt64 * σ.2 13 (pl (up i + pw 0)) + (σ.1 14 1).toInt64 * σ.2 13 (pl (up i + pw 1)) + (σ.1 14 2).toInt64 * σ.2 13 (pl (up i + pw 2)) + (σ.1 14 3).toInt64 * σ.2 13 (pl (up i + pw 3))
theorem nx_ge {i k s : Nat} (h : i < 126) (hk : k < 4) (hi : sS s ≤ i ∧ i < sS (s + 1)) : sS (s + 1) ≤ pl (up i + pw k) := by
  obtain ⟨-, h2, -, -, -⟩ := up_spec (show i < 210 by omega)
  have hs := (sz_iff (by omega)).mp hi
  obtain ⟨a, b, -⟩ := inc_spec h2 (up_lt126 h) hk
  have := (pl_spec a (by have := up_lt126 h; omega)).2.2.1
  rw [b, hs] at this
  exact this
theorem sS_126 {s : Nat} (h : s < 6) : sS (s + 1) ≤ 126 := by have := sS_mono (show s + 1 ≤ 6 by omega); exact this
theorem updL_step {f g : Nat → Int64} {a i : Nat} (h : a ≤ i) : vp_updL (fun j => if a ≤ j ∧ j < i then f j else g j) i (f i) = fun j => if a ≤ j ∧ j < i + 1 then f j else g j := by
  funext j
  unfold vp_updL
  by_cases e : j = i
  · subst e
    rw [if_pos rfl, if_pos (by omega)]
  · rw [if_neg e]
    show (if a ≤ j ∧ j < i then f j else g j) = _
    by_cases q : a ≤ j ∧ j < i
    · rw [if_pos q, if_pos (by omega)]
    · rw [if_neg q, if_neg (by omega)]
theorem L0_sumAt {σ : St} {K : Kr} {s : Nat} (hs : s < 6) (hp : PT σ) (h : K none (sL σ 13 (fun i => if sS s ≤ i ∧ i < sS (s + 1) then fS σ i else σ.2 13 i))) : ∀ (d i : Nat), i + d = sS (s + 1) → sS s ≤ i → VW M0_sumAt Xt K 25 [(3, .int (nI i)), (2, .ref 17), (0, .ref 12), (1, .int (nI s))] [] (sL σ 13 (fun j => if sS s ≤ j ∧ j < i then fS σ j else σ.2 13 j)) := by
  have h126 := sS_126 hs
  intro d
  induction d with
  | zero =>
    intro i hi hsi
    refine run_sound s0_sumAt (fun pc => pc == 25) _ 1000 _ _ _ _ ?_
    simp (decide := true) only [c0_sumAt, run_s, nxt_e, ap_const, ap_lconst, ap_ild, ap_lld, ap_ald, ap_ist, ap_lst, ap_ast, ap_iinc, ap_iadd, ap_isub, ap_imul, ap_iand, ap_ior, ap_ixor, ap_ishl, ap_ishr, ap_iushr, ap_idiv, ap_irem, ap_ineg, ap_ladd, ap_lsub, ap_lmul, ap_ldiv, ap_lrem, ap_lneg, ap_lcmp, ap_i2l, ap_l2i, ap_i2b, ap_i2s, ap_dup_int, ap_pop_int, ap_dup_ref, ap_pop_ref, ap_dup2, ap_ceq, ap_cne, ap_clt, ap_cge, ap_cgt, ap_cle, ap_zeq, ap_zne, ap_zlt, ap_zge, ap_zgt, ap_zle, ap_goto, ap_tsw, ap_lsw, ap_getI, ap_getJ, ap_getR, ap_putI, ap_putZ, ap_putJ, ap_iald, ap_lald, ap_bald, ap_aald, ap_iast, ap_last, ap_bast, ap_alen, ap_gst, ap_iret, ap_zret, ap_lret, ap_vret, ap_aret, ap_lmax, ap_labs, ap_acopy, ap_invV0, ap_invS0, ap_invV1, ap_invS1, ap_invV2, ap_invS2, ap_invV3, ap_invS3, ap_invV4, ap_invS4, ap_invV5, ap_invS5, tcnT, ocT, lenIT, lenWT, lenLT, lenVT, lenZT, startfT, vpL, sa_1, sa_2, sL_1, sL_2, si_1, si_2, sj_1, sj_2, ldI_e, ldL_e, ldA_e, inC_e, lk, st1, st2, rm1, rm2, Value.category, ctn_some, ctn_none, wsum, lv_args, Int32.reduceAdd, Int32.reduceSub, Int32.reduceMul, Nat.reduceAdd, Nat.reduceLT, Nat.reduceLeDiff, Nat.reduceEqDiff, Nat.reduceBEq, ↓reduceIte, true_and, and_true, Bool.false_eq_true, true_implies, false_implies, not_true_eq_false, not_false_eq_true, nI_1, vin (show s + 1 < 8 by omega) (by decide), nIc (show s + 1 < 2 ^ 31 by omega), startf_nI (s + 1) (by omega), eq_true (nI_le (show sS (s + 1) ≤ i by omega) (by omega))]
    have e : i = sS (s + 1) := by omega
    subst e
    exact h
  | succ d ih =>
    intro i hi hsi
    have hi1 : i < 126 := by omega
    refine run_sound s0_sumAt (fun pc => pc == 25) _ 1000 _ _ _ _ ?_
    simp (decide := true) only [c0_sumAt, run_s, nxt_e, ap_const, ap_lconst, ap_ild, ap_lld, ap_ald, ap_ist, ap_lst, ap_ast, ap_iinc, ap_iadd, ap_isub, ap_imul, ap_iand, ap_ior, ap_ixor, ap_ishl, ap_ishr, ap_iushr, ap_idiv, ap_irem, ap_ineg, ap_ladd, ap_lsub, ap_lmul, ap_ldiv, ap_lrem, ap_lneg, ap_lcmp, ap_i2l, ap_l2i, ap_i2b, ap_i2s, ap_dup_int, ap_pop_int, ap_dup_ref, ap_pop_ref, ap_dup2, ap_ceq, ap_cne, ap_clt, ap_cge, ap_cgt, ap_cle, ap_zeq, ap_zne, ap_zlt, ap_zge, ap_zgt, ap_zle, ap_goto, ap_tsw, ap_lsw, ap_getI, ap_getJ, ap_getR, ap_putI, ap_putZ, ap_putJ, ap_iald, ap_lald, ap_bald, ap_aald, ap_iast, ap_last, ap_bast, ap_alen, ap_gst, ap_iret, ap_zret, ap_lret, ap_vret, ap_aret, ap_lmax, ap_labs, ap_acopy, ap_invV0, ap_invS0, ap_invV1, ap_invS1, ap_invV2, ap_invS2, ap_invV3, ap_invS3, ap_invV4, ap_invS4, ap_invV5, ap_invS5, tcnT, ocT, lenIT, lenWT, lenLT, lenVT, lenZT, startfT, vpL, sa_1, sa_2, sL_1, sL_2, si_1, si_2, sj_1, sj_2, ldI_e, ldL_e, ldA_e, inC_e, lk, st1, st2, rm1, rm2, Value.category, ctn_some, ctn_none, wsum, lv_args, Int32.reduceAdd, Int32.reduceSub, Int32.reduceMul, Nat.reduceAdd, Nat.reduceLT, Nat.reduceLeDiff, Nat.reduceEqDiff, Nat.reduceBEq, ↓reduceIte, true_and, and_true, Bool.false_eq_true, true_implies, false_implies, not_true_eq_false, not_false_eq_true, nI_1, vin (show s + 1 < 8 by omega) (by decide), nIc (show s + 1 < 2 ^ 31 by omega), startf_nI (s + 1) (by omega), eq_false (nI_ge (show i < sS (s + 1) by omega) (by omega)), nI_x4, nI_p2, nI_p3, nIc (show i < 2 ^ 31 by omega), nIc (show i * 4 < 2 ^ 31 by omega), nIc (show i * 4 + 1 < 2 ^ 31 by omega), nIc (show i * 4 + 2 < 2 ^ 31 by omega), nIc (show i * 4 + 3 < 2 ^ 31 by omega), vin (show i * 4 < 504 by omega) (by decide), vin (show i * 4 + 1 < 504 by omega) (by decide), vin (show i * 4 + 2 < 504 by omega) (by decide), vin (show i * 4 + 3 < 504 by omega) (by decide), vin (show i < 210 by omega) (by decide), (show σ.1 17 (i * 4) = nI (pl (up i + pw 0)) from hp.2 i 0 hi1 (by decide)), hp.2 i 1 hi1 (by decide), hp.2 i 2 hi1 (by decide), hp.2 i 3 hi1 (by decide), nIc (Nat.lt_trans (nx_lt (k := 0) hi1 (by decide)) (by decide)), nIc (Nat.lt_trans (nx_lt (k := 1) hi1 (by decide)) (by decide)), nIc (Nat.lt_trans (nx_lt (k := 2) hi1 (by decide)) (by decide)), nIc (Nat.lt_trans (nx_lt (k := 3) hi1 (by decide)) (by decide)), vin (nx_lt (k := 0) hi1 (by decide)) (by decide), vin (nx_lt (k := 1) hi1 (by decide)) (by decide), vin (nx_lt (k := 2) hi1 (by decide)) (by decide), vin (nx_lt (k := 3) hi1 (by decide)) (by decide), sj_sL]
    have hn : ∀ k, k < 4 → ¬ (sS s ≤ pl (up i + pw k) ∧ pl (up i + pw k) < i) := fun k hk q => by
      have := nx_ge hi1 hk ⟨hsi, (show i < sS (s + 1) by omega)⟩
      omega
    rw [if_neg (hn 0 (by decide)), if_neg (hn 1 (by decide)), if_neg (hn 2 (by decide)), if_neg (hn 3 (by decide))]
    show VW M0_sumAt Xt K 25 _ [] (sL σ 13 (vp_updL (fun j => if sS s ≤ j ∧ j < i then fS σ j else σ.2 13 j) i (fS σ i)))
    rw [updL_step hsi]
    exact (ih (i + 1) (by omega) (by omega)).sub [0, 2, 3, 4] rfl
theorem v0_sumAt {σ : St} {K : Kr} {s : Nat} (hs : s < 6) (hp : PT σ) (h : K none (sL σ 13 (fun i => if sS s ≤ i ∧ i < sS (s + 1) then fS σ i else σ.2 13 i))) : VM M0_sumAt [.ref 12, .int (nI s)] σ K := by
  refine vm_run s0_sumAt n0_sumAt (fun pc => pc == 25) 1000 (fun E => Nat.le_of_ble_eq_true rfl) ?_
  simp (decide := true) only [c0_sumAt, run_s, nxt_e, ap_const, ap_lconst, ap_ild, ap_lld, ap_ald, ap_ist, ap_lst, ap_ast, ap_iinc, ap_iadd, ap_isub, ap_imul, ap_iand, ap_ior, ap_ixor, ap_ishl, ap_ishr, ap_iushr, ap_idiv, ap_irem, ap_ineg, ap_ladd, ap_lsub, ap_lmul, ap_ldiv, ap_lrem, ap_lneg, ap_lcmp, ap_i2l, ap_l2i, ap_i2b, ap_i2s, ap_dup_int, ap_pop_int, ap_dup_ref, ap_pop_ref, ap_dup2, ap_ceq, ap_cne, ap_clt, ap_cge, ap_cgt, ap_cle, ap_zeq, ap_zne, ap_zlt, ap_zge, ap_zgt, ap_zle, ap_goto, ap_tsw, ap_lsw, ap_getI, ap_getJ, ap_getR, ap_putI, ap_putZ, ap_putJ, ap_iald, ap_lald, ap_bald, ap_aald, ap_iast, ap_last, ap_bast, ap_alen, ap_gst, ap_iret, ap_zret, ap_lret, ap_vret, ap_aret, ap_lmax, ap_labs, ap_acopy, ap_invV0, ap_invS0, ap_invV1, ap_invS1, ap_invV2, ap_invS2, ap_invV3, ap_invS3, ap_invV4, ap_invS4, ap_invV5, ap_invS5, tcnT, ocT, lenIT, lenWT, lenLT, lenVT, lenZT, startfT, vpL, sa_1, sa_2, sL_1, sL_2, si_1, si_2, sj_1, sj_2, ldI_e, ldL_e, ldA_e, inC_e, lk, st1, st2, rm1, rm2, Value.category, ctn_some, ctn_none, wsum, lv_args, Int32.reduceAdd, Int32.reduceSub, Int32.reduceMul, Nat.reduceAdd, Nat.reduceLT, Nat.reduceLeDiff, Nat.reduceEqDiff, Nat.reduceBEq, ↓reduceIte, true_and, and_true, Bool.false_eq_true, true_implies, false_implies, not_true_eq_false, not_false_eq_true, eq_false (nI_pos (show s < 2 ^ 31 by omega)), eq_true (nI_lt (show s < 6 from hs) (by decide)), eq_true (show nI s < 6 from nI_lt hs (by decide)), vin (show s < 8 by omega) (by decide), nIc (show s < 2 ^ 31 by omega), startf_nI s (by omega)]
  have hm := sS_mono (show s ≤ s + 1 by omega)
  have := L0_sumAt hs hp h (sS (s + 1) - sS s) (sS s) (by omega) (Nat.le_refl _)
  have e : (fun j => if sS s ≤ j ∧ j < sS s then fS σ j else σ.2 13 j) = σ.2 13 := by
    funext j
    rw [if_neg (by omega)]
  rw [e, sL_self] at this
  exact this
/-! layOne -/
theorem L0_layOne {σ : St} {K : Kr} {s t : Nat} (hs : s < 7) (ht : t < 2 ^ 31) (h : K none (sL σ 13 (fun i => if sS s ≤ i ∧ i < sS (s + 1) then (if i = t then 1 else 0) else σ.2 13 i))) : ∀ (d i : Nat), i + d = sS (s + 1) → sS s ≤ i → VW M0_layOne Xt K 6 [(3, .int (nI i)), (0, .ref 12), (1, .int (nI s)), (2, .int (nI t))] [] (sL σ 13 (fun j => if sS s ≤ j ∧ j < i then (if j = t then 1 else 0) else σ.2 13 j)) := by
  have h210 : sS (s + 1) ≤ 210 := sS_le
  intro d
  induction d with
  | zero =>
    intro i hi hsi
    refine run_sound s0_layOne (fun pc => pc == 6) _ 1000 _ _ _ _ ?_
    simp (decide := true) only [c0_layOne, run_s, nxt_e, ap_const, ap_lconst, ap_ild, ap_lld, ap_ald, ap_ist, ap_lst, ap_ast, ap_iinc, ap_iadd, ap_isub, ap_imul, ap_iand, ap_ior, ap_ixor, ap_ishl, ap_ishr, ap_iushr, ap_idiv, ap_irem, ap_ineg, ap_ladd, ap_lsub, ap_lmul, ap_ldiv, ap_lrem, ap_lneg, ap_lcmp, ap_i2l, ap_l2i, ap_i2b, ap_i2s, ap_dup_int, ap_pop_int, ap_dup_ref, ap_pop_ref, ap_dup2, ap_ceq, ap_cne, ap_clt, ap_cge, ap_cgt, ap_cle, ap_zeq, ap_zne, ap_zlt, ap_zge, ap_zgt, ap_zle, ap_goto, ap_tsw, ap_lsw, ap_getI, ap_getJ, ap_getR, ap_putI, ap_putZ, ap_putJ, ap_iald, ap_lald, ap_bald, ap_aald, ap_iast, ap_last, ap_bast, ap_alen, ap_gst, ap_iret, ap_zret, ap_lret, ap_vret, ap_aret, ap_lmax, ap_labs, ap_acopy, ap_invV0, ap_invS0, ap_invV1, ap_invS1, ap_invV2, ap_invS2, ap_invV3, ap_invS3, ap_invV4, ap_invS4, ap_invV5, ap_invS5, tcnT, ocT, lenIT, lenWT, lenLT, lenVT, lenZT, startfT, vpL, sa_1, sa_2, sL_1, sL_2, si_1, si_2, sj_1, sj_2, ldI_e, ldL_e, ldA_e, inC_e, lk, st1, st2, rm1, rm2, Value.category, ctn_some, ctn_none, wsum, lv_args, Int32.reduceAdd, Int32.reduceSub, Int32.reduceMul, Nat.reduceAdd, Nat.reduceLT, Nat.reduceLeDiff, Nat.reduceEqDiff, Nat.reduceBEq, ↓reduceIte, true_and, and_true, Bool.false_eq_true, true_implies, false_implies, not_true_eq_false, not_false_eq_true, nI_1, vin (show s + 1 < 8 by omega) (by decide), nIc (show s + 1 < 2 ^ 31 by omega), startf_nI (s + 1) (by omega), eq_true (nI_le (show sS (s + 1) ≤ i by omega) (by omega))]
    have e : i = sS (s + 1) := by omega
    subst e
    exact h
  | succ d ih =>
    intro i hi hsi
    refine run_sound s0_layOne (fun pc => pc == 6) _ 1000 _ _ _ _ ?_
    simp (decide := true) only [c0_layOne, run_s, nxt_e, ap_const, ap_lconst, ap_ild, ap_lld, ap_ald, ap_ist, ap_lst, ap_ast, ap_iinc, ap_iadd, ap_isub, ap_imul, ap_iand, ap_ior, ap_ixor, ap_ishl, ap_ishr, ap_iushr, ap_idiv, ap_irem, ap_ineg, ap_ladd, ap_lsub, ap_lmul, ap_ldiv, ap_lrem, ap_lneg, ap_lcmp, ap_i2l, ap_l2i, ap_i2b, ap_i2s, ap_dup_int, ap_pop_int, ap_dup_ref, ap_pop_ref, ap_dup2, ap_ceq, ap_cne, ap_clt, ap_cge, ap_cgt, ap_cle, ap_zeq, ap_zne, ap_zlt, ap_zge, ap_zgt, ap_zle, ap_goto, ap_tsw, ap_lsw, ap_getI, ap_getJ, ap_getR, ap_putI, ap_putZ, ap_putJ, ap_iald, ap_lald, ap_bald, ap_aald, ap_iast, ap_last, ap_bast, ap_alen, ap_gst, ap_iret, ap_zret, ap_lret, ap_vret, ap_aret, ap_lmax, ap_labs, ap_acopy, ap_invV0, ap_invS0, ap_invV1, ap_invS1, ap_invV2, ap_invS2, ap_invV3, ap_invS3, ap_invV4, ap_invS4, ap_invV5, ap_invS5, tcnT, ocT, lenIT, lenWT, lenLT, lenVT, lenZT, startfT, vpL, sa_1, sa_2, sL_1, sL_2, si_1, si_2, sj_1, sj_2, ldI_e, ldL_e, ldA_e, inC_e, lk, st1, st2, rm1, rm2, Value.category, ctn_some, ctn_none, wsum, lv_args, Int32.reduceAdd, Int32.reduceSub, Int32.reduceMul, Nat.reduceAdd, Nat.reduceLT, Nat.reduceLeDiff, Nat.reduceEqDiff, Nat.reduceBEq, ↓reduceIte, true_and, and_true, Bool.false_eq_true, true_implies, false_implies, not_true_eq_false, not_false_eq_true, nI_1, vin (show s + 1 < 8 by omega) (by decide), nIc (show s + 1 < 2 ^ 31 by omega), startf_nI (s + 1) (by omega), eq_false (nI_ge (show i < sS (s + 1) by omega) (by omega)), nIc (show i < 2 ^ 31 by omega), vin (show i < 210 by omega) (by decide), nI_eq (show i < 2 ^ 31 by omega) ht, sj_sL]
    refine ⟨fun q => ?_, fun q => ?_⟩
    · have := updL_step (f := fun j => if j = t then 1 else 0) (g := σ.2 13) hsi
      rw [if_neg q] at this
      rw [this]
      exact (ih (i + 1) (by omega) (by omega)).sub [0, 1, 2, 3] rfl
    · have := updL_step (f := fun j => if j = t then 1 else 0) (g := σ.2 13) hsi
      rw [if_pos q] at this
      rw [this]
      exact (ih (i + 1) (by omega) (by omega)).sub [0, 1, 2, 3] rfl
theorem v0_layOne {σ : St} {K : Kr} {s t : Nat} (hs : s < 7) (ht : t < 2 ^ 31) (h : K none (sL σ 13 (fun i => if sS s ≤ i ∧ i < sS (s + 1) then (if i = t then 1 else 0) else σ.2 13 i))) : VM M0_layOne [.ref 12, .int (nI s), .int (nI t)] σ K := by
  refine vm_run s0_layOne n0_layOne (fun pc => pc == 6) 1000 (fun E => Nat.le_of_ble_eq_true rfl) ?_
  simp (decide := true) only [c0_layOne, run_s, nxt_e, ap_const, ap_lconst, ap_ild, ap_lld, ap_ald, ap_ist, ap_lst, ap_ast, ap_iinc, ap_iadd, ap_isub, ap_imul, ap_iand, ap_ior, ap_ixor, ap_ishl, ap_ishr, ap_iushr, ap_idiv, ap_irem, ap_ineg, ap_ladd, ap_lsub, ap_lmul, ap_ldiv, ap_lrem, ap_lneg, ap_lcmp, ap_i2l, ap_l2i, ap_i2b, ap_i2s, ap_dup_int, ap_pop_int, ap_dup_ref, ap_pop_ref, ap_dup2, ap_ceq, ap_cne, ap_clt, ap_cge, ap_cgt, ap_cle, ap_zeq, ap_zne, ap_zlt, ap_zge, ap_zgt, ap_zle, ap_goto, ap_tsw, ap_lsw, ap_getI, ap_getJ, ap_getR, ap_putI, ap_putZ, ap_putJ, ap_iald, ap_lald, ap_bald, ap_aald, ap_iast, ap_last, ap_bast, ap_alen, ap_gst, ap_iret, ap_zret, ap_lret, ap_vret, ap_aret, ap_lmax, ap_labs, ap_acopy, ap_invV0, ap_invS0, ap_invV1, ap_invS1, ap_invV2, ap_invS2, ap_invV3, ap_invS3, ap_invV4, ap_invS4, ap_invV5, ap_invS5, tcnT, ocT, lenIT, lenWT, lenLT, lenVT, lenZT, startfT, vpL, sa_1, sa_2, sL_1, sL_2, si_1, si_2, sj_1, sj_2, ldI_e, ldL_e, ldA_e, inC_e, lk, st1, st2, rm1, rm2, Value.category, ctn_some, ctn_none, wsum, lv_args, Int32.reduceAdd, Int32.reduceSub, Int32.reduceMul, Nat.reduceAdd, Nat.reduceLT, Nat.reduceLeDiff, Nat.reduceEqDiff, Nat.reduceBEq, ↓reduceIte, true_and, and_true, Bool.false_eq_true, true_implies, false_implies, not_true_eq_false, not_false_eq_true, vin (show s < 8 by omega) (by decide), nIc (show s < 2 ^ 31 by omega), startf_nI s (by omega)]
  have hm := sS_mono (show s ≤ s + 1 by omega)
  have := L0_layOne hs ht h (sS (s + 1) - sS s) (sS s) (by omega) (Nat.le_refl _)
  have e : (fun j => if sS s ≤ j ∧ j < sS s then (if j = t then 1 else 0) else σ.2 13 j) = σ.2 13 := by
    funext j
    rw [if_neg (by omega)]
  rw [e, sL_self] at this
  exact this
