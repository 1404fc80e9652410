/-! ===== the pools' own loops (printed by run74.py) ===== -/
theorem wc_65 : Cond.methodLink "DreamShares$Pools" 3 ⟨"java/lang/Object", "<init>", "()V"⟩ ∈ lw_tbl := List.mem_of_getElem? (i := 156) (by decide +kernel)
theorem wc_68 : Cond.methodLink "DreamShares$Pools" 21 ⟨"DreamShares$Pools", "enter", "(IIII)V"⟩ ∈ lw_tbl := List.mem_of_getElem? (i := 159) (by decide +kernel)
theorem wc_70 : Cond.instanceMethod ⟨"DreamShares$Pools", "enter", "(IIII)V"⟩ ∈ lw_tbl := List.mem_of_getElem? (i := 161) (by decide +kernel)
set_option maxRecDepth 20000 in
theorem wc_71 : Cond.code yX4_enter cX4_enter 6 none ∈ lw_tbl := List.mem_of_getElem? (i := 162) rfl
theorem ws_enter : Cond.selects "DreamShares$Pools" yX4_enter yX4_enter ∈ lw_tbl := List.mem_of_getElem? (i := 0) (by decide +kernel)
def GT (F G : Nat → Int32) (c : Nat) : Prop := F (pl c) = nI (dg c 3) ∧ (sz c < 6 → ∀ k, k < 4 → G (pl c * 4 + k) = nI (pl (c + pw k)))
def DN (F G : Nat → Int32) (s f w g : Nat) : Prop := ∀ c, c < 2401 → sz c ≤ 6 → (sz c < s ∨ (sz c = s ∧ (dg c 0 < f ∨ (dg c 0 = f ∧ (dg c 1 < w ∨ (dg c 1 = w ∧ dg c 2 < g)))))) → GT F G c
theorem sz_d (c : Nat) : sz c = dg c 0 + dg c 1 + dg c 2 + dg c 3 := rfl
theorem en_DN {F G F' G' : Nat → Int32} {s f w g : Nat} (hs : s ≤ 6) (hg : f + w + g ≤ s) (h : DN F G s f w g) (he : EN F G F' G' (cd4 f w g (s - f - w - g))) : DN F' G' s f w (g + 1) := by
  obtain ⟨hc0, d0, d1, d2, d3, -⟩ := cd4_spec (f := f) (w := w) (g := g) (h := s - f - w - g) (by omega) (by omega) (by omega) (by omega)
  have hz := cd4_sz (f := f) (w := w) (g := g) (h := s - f - w - g) (by omega) (by omega) (by omega) (by omega)
  generalize cd4 f w g (s - f - w - g) = c0 at *
  intro c hc h6 hl
  by_cases e : c = c0
  · subst e
    exact ⟨he.1, he.2.2.1⟩
  · have hne : pl c ≠ pl c0 := fun z => e (by rw [← (pl_spec hc h6).1, z, (pl_spec hc0 (by omega)).1])
    have hsz := sz_d c
    have hG : GT F G c := by
      refine h c hc h6 ?_
      rcases hl with q | ⟨q, r⟩
      · exact Or.inl q
      · right
        refine ⟨q, ?_⟩
        by_cases z : dg c 0 = f ∧ dg c 1 = w ∧ dg c 2 = g
        · exfalso
          refine e (dg_eq hc hc0 (fun j hj => ?_))
          rcases s4 hj with rfl | rfl | rfl | rfl
          · omega
          · omega
          · omega
          · omega
        · omega
    refine ⟨by rw [he.2.1 _ hne]; exact hG.1, fun h5 k hk => ?_⟩
    rw [he.2.2.2 _ (fun k' hk' => by omega)]
    exact hG.2 h5 k hk
theorem DN_w {F G : Nat → Int32} {s f w : Nat} (h : DN F G s f w (s - f - w + 1)) : DN F G s f (w + 1) 0 := fun c hc h6 hl => h c hc h6 (by have := sz_d c; omega)
theorem DN_f {F G : Nat → Int32} {s f : Nat} (h : DN F G s f (s - f + 1) 0) : DN F G s (f + 1) 0 0 := fun c hc h6 hl => h c hc h6 (by have := sz_d c; omega)
theorem DN_s {F G : Nat → Int32} {s : Nat} (h : DN F G s (s + 1) 0 0) : DN F G (s + 1) 0 0 0 := fun c hc h6 hl => h c hc h6 (by have := sz_d c; omega)
def PTf (F G : Nat → Int32) : Prop := (∀ i, i < 210 → F i = nI (dg (up i) 3)) ∧ ∀ i k, i < 126 → k < 4 → G (i * 4 + k) = nI (pl (up i + pw k))
theorem DN_7 {F G : Nat → Int32} (h : DN F G 7 0 0 0) : PTf F G := by
  refine ⟨fun i hi => ?_, fun i k hi hk => ?_⟩
  · obtain ⟨u1, u2, u3, -⟩ := up_spec hi
    have := (h (up i) u2 u3 (Or.inl (by omega))).1
    rw [u1] at this
    exact this
  · obtain ⟨u1, u2, u3, -⟩ := up_spec (show i < 210 by omega)
    have := (h (up i) u2 u3 (Or.inl (by omega))).2 (up_lt126 hi) k hk
    rw [u1] at this
    exact this
def M4_init : MD := (yX4_init, cX4_init, 5, none, 2)
section
variable {B : BG} {mc ms : Nat} {K : Kw} {cs sl : Nat} {a q1 q2 : Nat}
theorem P_l4 {s f w : Nat} (hs : s ≤ 6) (hfw : f + w ≤ s) (hc1 : cs ≤ mc) (hc2 : sl ≤ ms) (h : ∀ F G, DN F G s f (w + 1) 0 → VC B M4_init mc ms K 89 [(3, .int (nI w)), (2, .int (nI f)), (1, .int (nI s)), (0, .ref a)] [] (t3 B) (PWd B a q1 q2 F G) cs sl) :
    ∀ (d g : Nat), g + d = s - f - w + 1 → ∀ F G, DN F G s f w g → VC B M4_init mc ms K 57 [(4, .int (nI g)), (3, .int (nI w)), (2, .int (nI f)), (1, .int (nI s)), (0, .ref a)] [] (t3 B) (PWd B a q1 q2 F G) cs sl := by
  intro d
  induction d with
  | zero =>
    intro g hg F G hD
    have : g = s - f - w + 1 := by omega
    subst this
    refine vc_iload_n (k := 2) (i := 2) (by decide +kernel) rfl rfl ?_
    refine vc_iload_n (k := 3) (i := 3) (by decide +kernel) rfl rfl ?_
    refine vc_iadd (by decide +kernel) ?_
    refine vc_iload (i := 4) (by decide +kernel) rfl ?_
    refine vc_iadd (by decide +kernel) ?_
    refine vc_iload_n (k := 1) (i := 1) (by decide +kernel) rfl rfl ?_
    rw [nI_add, nI_add]
    refine vc_cgt (off := 25) (tgt := 89) (by decide +kernel) (by decide +kernel) (fun _ => ?_) (fun q => absurd (nI_lt (show s < f + w + (s - f - w + 1) by omega) (by omega)) q)
    exact (h F G (DN_w hD)).sub [1, 2, 3, 4] rfl
  | succ d ih =>
    intro g hg F G hD
    refine vc_iload_n (k := 2) (i := 2) (by decide +kernel) rfl rfl ?_
    refine vc_iload_n (k := 3) (i := 3) (by decide +kernel) rfl rfl ?_
    refine vc_iadd (by decide +kernel) ?_
    refine vc_iload (i := 4) (by decide +kernel) rfl ?_
    refine vc_iadd (by decide +kernel) ?_
    refine vc_iload_n (k := 1) (i := 1) (by decide +kernel) rfl rfl ?_
    rw [nI_add, nI_add]
    refine vc_cgt (off := 25) (tgt := 89) (by decide +kernel) (by decide +kernel) (fun q => absurd q (nI_nlt (show f + w + g ≤ s by omega) (by omega))) (fun _ => ?_)
    refine vc_aload_n (k := 0) (i := 0) (by decide +kernel) rfl rfl ?_
    refine vc_iload_n (k := 2) (i := 2) (by decide +kernel) rfl rfl ?_
    refine vc_iload_n (k := 3) (i := 3) (by decide +kernel) rfl rfl ?_
    refine vc_iload (i := 4) (by decide +kernel) rfl ?_
    refine vc_iload_n (k := 1) (i := 1) (by decide +kernel) rfl rfl ?_
    refine vc_iload_n (k := 2) (i := 2) (by decide +kernel) rfl rfl ?_
    refine vc_isub (by decide +kernel) ?_
    refine vc_iload_n (k := 3) (i := 3) (by decide +kernel) rfl rfl ?_
    refine vc_isub (by decide +kernel) ?_
    refine vc_iload (i := 4) (by decide +kernel) rfl ?_
    refine vc_isub (by decide +kernel) ?_
    rw [pk_sub (show f ≤ s by omega), pk_sub (show w ≤ s - f by omega), pk_sub (show g ≤ s - f - w by omega)]
    refine vc_invV (M' := M4_enter) (n := 4) (As := [.int (nI f), .int (nI w), .int (nI g), .int (nI (s - f - w - g))]) (rest := []) (b := a) (ci := 4) (q0 := 0) (T := TX4) (wc := PWd B a q1 q2 F G) (wr := []) (isC := [0, 1, 2]) (isR := []) (k4_enter (by omega) rfl) (by decide +kernel) wc_68 wc_70 ws_enter wc_4 wc_71 rfl rfl (by decide +kernel) rfl (by decide +kernel) (Nat.le_of_ble_eq_true rfl) hc1 hc2 rfl rfl rfl rfl (by decide +kernel) (fun r tys' ws' hk => ?_)
    obtain ⟨rfl, rfl, F', G', rfl, hE⟩ := hk
    refine VC.tsub (tys' := t3 B) ?_ [0, 1, 2] rfl
    show VC B M4_init mc ms K 83 [(4, .int (nI g)), (3, .int (nI w)), (2, .int (nI f)), (1, .int (nI s)), (0, .ref a)] [] (t3 B) (PWd B a q1 q2 F' G') cs sl
    refine vc_iinc (n := 1) (k := 0) (x := nI g) (v := nI (g + 1)) (ls' := [(4, .int (nI (g + 1))), (3, .int (nI w)), (2, .int (nI f)), (1, .int (nI s)), (0, .ref a)]) (by decide +kernel) rfl (nI_1 g) (by decide +kernel) rfl ?_
    refine vc_goto (off := -29) (tgt := 57) (by decide +kernel) (by decide +kernel) ?_
    exact ih (g + 1) (by omega) F' G' (en_DN hs (by omega) hD hE)
theorem P_l3 {s f : Nat} (hs : s ≤ 6) (hf : f ≤ s) (hc1 : cs ≤ mc) (hc2 : sl ≤ ms) (h : ∀ F G, DN F G s (f + 1) 0 0 → VC B M4_init mc ms K 95 [(2, .int (nI f)), (1, .int (nI s)), (0, .ref a)] [] (t3 B) (PWd B a q1 q2 F G) cs sl) :
    ∀ (d w : Nat), w + d = s - f + 1 → ∀ F G, DN F G s f w 0 → VC B M4_init mc ms K 47 [(3, .int (nI w)), (2, .int (nI f)), (1, .int (nI s)), (0, .ref a)] [] (t3 B) (PWd B a q1 q2 F G) cs sl := by
  intro d
  induction d with
  | zero =>
    intro w hw F G hD
    have : w = s - f + 1 := by omega
    subst this
    refine vc_iload_n (k := 2) (i := 2) (by decide +kernel) rfl rfl ?_
    refine vc_iload_n (k := 3) (i := 3) (by decide +kernel) rfl rfl ?_
    refine vc_iadd (by decide +kernel) ?_
    refine vc_iload_n (k := 1) (i := 1) (by decide +kernel) rfl rfl ?_
    rw [nI_add]
    refine vc_cgt (off := 44) (tgt := 95) (by decide +kernel) (by decide +kernel) (fun _ => ?_) (fun q => absurd (nI_lt (show s < f + (s - f + 1) by omega) (by omega)) q)
    exact (h F G (DN_f hD)).sub [1, 2, 3] rfl
  | succ d ih =>
    intro w hw F G hD
    refine vc_iload_n (k := 2) (i := 2) (by decide +kernel) rfl rfl ?_
    refine vc_iload_n (k := 3) (i := 3) (by decide +kernel) rfl rfl ?_
    refine vc_iadd (by decide +kernel) ?_
    refine vc_iload_n (k := 1) (i := 1) (by decide +kernel) rfl rfl ?_
    rw [nI_add]
    refine vc_cgt (off := 44) (tgt := 95) (by decide +kernel) (by decide +kernel) (fun q => absurd q (nI_nlt (show f + w ≤ s by omega) (by omega))) (fun _ => ?_)
    refine vc_iconst (n := 0) (v := 0) (by decide +kernel) (by decide +kernel) ?_
    refine vc_istore (i := 4) (ls' := [(4, .int (nI 0)), (3, .int (nI w)), (2, .int (nI f)), (1, .int (nI s)), (0, .ref a)]) (by decide +kernel) (by decide +kernel) rfl ?_
    refine P_l4 hs (by omega) hc1 hc2 (fun F1 G1 hD1 => ?_) (s - f - w + 1) 0 (by omega) F G hD
    refine vc_iinc (n := 1) (k := 0) (x := nI w) (v := nI (w + 1)) (ls' := [(3, .int (nI (w + 1))), (2, .int (nI f)), (1, .int (nI s)), (0, .ref a)]) (by decide +kernel) rfl (nI_1 w) (by decide +kernel) rfl ?_
    refine vc_goto (off := -45) (tgt := 47) (by decide +kernel) (by decide +kernel) ?_
    exact ih (w + 1) (by omega) F1 G1 hD1
theorem P_l2 {s : Nat} (hs : s ≤ 6) (hc1 : cs ≤ mc) (hc2 : sl ≤ ms) (h : ∀ F G, DN F G (s + 1) 0 0 0 → VC B M4_init mc ms K 101 [(1, .int (nI s)), (0, .ref a)] [] (t3 B) (PWd B a q1 q2 F G) cs sl) :
    ∀ (d f : Nat), f + d = s + 1 → ∀ F G, DN F G s f 0 0 → VC B M4_init mc ms K 40 [(2, .int (nI f)), (1, .int (nI s)), (0, .ref a)] [] (t3 B) (PWd B a q1 q2 F G) cs sl := by
  intro d
  induction d with
  | zero =>
    intro f hf F G hD
    have : f = s + 1 := by omega
    subst this
    refine vc_iload_n (k := 2) (i := 2) (by decide +kernel) rfl rfl ?_
    refine vc_iload_n (k := 1) (i := 1) (by decide +kernel) rfl rfl ?_
    refine vc_cgt (off := 59) (tgt := 101) (by decide +kernel) (by decide +kernel) (fun _ => ?_) (fun q => absurd (nI_lt (show s < s + 1 by omega) (by omega)) q)
    exact (h F G (DN_s hD)).sub [1, 2] rfl
  | succ d ih =>
    intro f hf F G hD
    refine vc_iload_n (k := 2) (i := 2) (by decide +kernel) rfl rfl ?_
    refine vc_iload_n (k := 1) (i := 1) (by decide +kernel) rfl rfl ?_
    refine vc_cgt (off := 59) (tgt := 101) (by decide +kernel) (by decide +kernel) (fun q => absurd q (nI_nlt (show f ≤ s by omega) (by omega))) (fun _ => ?_)
    refine vc_iconst (n := 0) (v := 0) (by decide +kernel) (by decide +kernel) ?_
    refine vc_istore_n (k := 3) (i := 3) (ls' := [(3, .int (nI 0)), (2, .int (nI f)), (1, .int (nI s)), (0, .ref a)]) (by decide +kernel) rfl (by decide +kernel) rfl ?_
    refine P_l3 hs (by omega) hc1 hc2 (fun F1 G1 hD1 => ?_) (s - f + 1) 0 (by omega) F G hD
    refine vc_iinc (n := 1) (k := 0) (x := nI f) (v := nI (f + 1)) (ls' := [(2, .int (nI (f + 1))), (1, .int (nI s)), (0, .ref a)]) (by decide +kernel) rfl (nI_1 f) (by decide +kernel) rfl ?_
    refine vc_goto (off := -58) (tgt := 40) (by decide +kernel) (by decide +kernel) ?_
    exact ih (f + 1) (by omega) F1 G1 hD1
theorem P_l1 (hc1 : cs ≤ mc) (hc2 : sl ≤ ms) (h : ∀ F G, PTf F G → K none (t3 B) (PWd B a q1 q2 F G)) :
    ∀ (d s : Nat), s + d = 7 → ∀ F G, DN F G s 0 0 0 → VC B M4_init mc ms K 32 [(1, .int (nI s)), (0, .ref a)] [] (t3 B) (PWd B a q1 q2 F G) cs sl := by
  intro d
  induction d with
  | zero =>
    intro s hs F G hD
    have : s = 7 := by omega
    subst this
    refine vc_iload_n (k := 1) (i := 1) (by decide +kernel) rfl rfl ?_
    refine vc_bipush (n := 6) (v := 6) (by decide +kernel) (by decide +kernel) ?_
    refine vc_cgt (off := 72) (tgt := 107) (by decide +kernel) (by decide +kernel) (fun _ => ?_) (fun q => absurd (by decide) q)
    exact vc_vret (by decide +kernel) rfl hc1 hc2 (h F G (DN_7 hD))
  | succ d ih =>
    intro s hs F G hD
    refine vc_iload_n (k := 1) (i := 1) (by decide +kernel) rfl rfl ?_
    refine vc_bipush (n := 6) (v := 6) (by decide +kernel) (by decide +kernel) ?_
    refine vc_cgt (off := 72) (tgt := 107) (by decide +kernel) (by decide +kernel) (fun q => absurd q (show ¬ (6 : Int32) < nI s from nI_nlt (a := 6) (by omega) (by decide))) (fun _ => ?_)
    refine vc_iconst (n := 0) (v := 0) (by decide +kernel) (by decide +kernel) ?_
    refine vc_istore_n (k := 2) (i := 2) (ls' := [(2, .int (nI 0)), (1, .int (nI s)), (0, .ref a)]) (by decide +kernel) rfl (by decide +kernel) rfl ?_
    refine P_l2 (by omega) hc1 hc2 (fun F1 G1 hD1 => ?_) (s + 1) 0 (by omega) F G hD
    refine vc_iinc (n := 1) (k := 0) (x := nI s) (v := nI (s + 1)) (ls' := [(1, .int (nI (s + 1))), (0, .ref a)]) (by decide +kernel) rfl (nI_1 s) (by decide +kernel) rfl ?_
    refine vc_goto (off := -72) (tgt := 32) (by decide +kernel) (by decide +kernel) ?_
    exact ih (s + 1) (by omega) F1 G1 hD1
end
set_option maxRecDepth 100000 in
theorem k4_init {B : BG} {h0 : Nat} : VK B M4_init [.ref h0] [(h0, .inr (4, [.null, .null]))] 2 714 (fun r tys ws => r = none ∧ tys = t3 B ∧ ∃ (q1 q2 : Nat) (F G : Nat → Int32), ws = [(h0, .inr (4, [.ref q1, .ref q2])), (q1, .inl (gI B, 210, .inl F)), (q2, .inl (gI B, 504, .inl G))] ∧ PTf F G) := by
  refine vk_of (by decide) (Nat.le_of_ble_eq_true rfl) ?_
  refine vc_aload_n (k := 0) (i := 0) (by decide +kernel) rfl rfl ?_
  refine vc_objInit (idx := 3) (by decide +kernel) wc_65 wc_objI wc_objC (by decide) (by decide) ?_
  refine vc_aload_n (k := 0) (i := 0) (by decide +kernel) rfl rfl ?_
  refine vc_gstN (index := 9) (by decide +kernel) (List.mem_of_getElem? (i := 0) rfl) ?_
  refine vc_bipush (n := 7) (v := 7) (by decide +kernel) (by decide +kernel) ?_
  refine vc_sald (show vp_in (nI 7) 8 from vp_in_nI (by decide) (by decide)) (by decide +kernel) ?_
  refine vc_newa (atype := .int) (ty := .int) (cT := gI B) (t0 := 0) (N' := 210) (a0 := (210, .inl (fun _ => 0))) rfl wc_40 rfl (fun _ _ => Iff.rfl) (fun _ => rfl) (by decide) (by decide) (Nat.le_of_ble_eq_true rfl) (Nat.le_of_ble_eq_true rfl) (Nat.le_of_ble_eq_true rfl) (by decide +kernel) (fun q1 => ?_)
  show VC B M4_init 2 714 _ 13 [(0, .ref h0)] [.ref q1, .ref h0] (t3 B) [(h0, .inr (4, [.null, .null])), (q1, .inl (gI B, 210, .inl (fun _ => 0)))] 1 210
  refine vc_put (index := 13) (ci := 4) (N := 2) (k := 0) (q0 := 0) (T := TX4) (ty := .array .int) fw4 tyX4_ok nmX4 rfl rfl (by decide) wc_76 (Or.inr ⟨rfl, rfl, rfl⟩) (by decide +kernel) rfl rfl (Nat.le_of_ble_eq_true rfl) (by decide +kernel) ?_
  show VC B M4_init 2 714 _ 16 [(0, .ref h0)] [] (t3 B) [(h0, .inr (4, [.ref q1, .null])), (q1, .inl (gI B, 210, .inl (fun _ => 0)))] 1 210
  refine vc_aload_n (k := 0) (i := 0) (by decide +kernel) rfl rfl ?_
  refine vc_gstN (index := 9) (by decide +kernel) (List.mem_of_getElem? (i := 0) rfl) ?_
  refine vc_bipush (n := 6) (v := 6) (by decide +kernel) (by decide +kernel) ?_
  refine vc_sald (show vp_in (nI 6) 8 from vp_in_nI (by decide) (by decide)) (by decide +kernel) ?_
  refine vc_iconst (n := 4) (v := 4) (by decide +kernel) (by decide +kernel) ?_
  refine vc_imul (by decide +kernel) ?_
  refine vc_newa (atype := .int) (ty := .int) (cT := gI B) (t0 := 0) (N' := 504) (a0 := (504, .inl (fun _ => 0))) rfl wc_40 rfl (fun _ _ => Iff.rfl) (fun _ => rfl) (by decide) (by decide) (Nat.le_of_ble_eq_true rfl) (Nat.le_of_ble_eq_true rfl) (Nat.le_of_ble_eq_true rfl) (by decide +kernel) (fun q2 => ?_)
  show VC B M4_init 2 714 _ 27 [(0, .ref h0)] [.ref q2, .ref h0] (t3 B) [(h0, .inr (4, [.ref q1, .null])), (q1, .inl (gI B, 210, .inl (fun _ => 0))), (q2, .inl (gI B, 504, .inl (fun _ => 0)))] 2 714
  refine vc_put (index := 18) (ci := 4) (N := 2) (k := 1) (q0 := 0) (T := TX4) (ty := .array .int) fw4 tyX4_ok nmX4 rfl rfl (by decide) wc_78 (Or.inr ⟨rfl, rfl, rfl⟩) (by decide +kernel) rfl rfl (Nat.le_of_ble_eq_true rfl) (by decide +kernel) ?_
  show VC B M4_init 2 714 _ 30 [(0, .ref h0)] [] (t3 B) [(h0, .inr (4, [.ref q1, .ref q2])), (q1, .inl (gI B, 210, .inl (fun _ => 0))), (q2, .inl (gI B, 504, .inl (fun _ => 0)))] 2 714
  refine vc_iconst (n := 0) (v := 0) (by decide +kernel) (by decide +kernel) ?_
  refine vc_istore_n (k := 1) (i := 1) (ls' := [(1, .int (nI 0)), (0, .ref h0)]) (by decide +kernel) rfl (by decide +kernel) rfl ?_
  exact P_l1 (Nat.le_of_ble_eq_true rfl) (Nat.le_of_ble_eq_true rfl) (fun F G hF => ⟨rfl, rfl, _, _, F, G, rfl, hF⟩) 7 0 rfl _ _ (fun c _ _ hl => by omega)
