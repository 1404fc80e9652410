/-! ===== the table of pools is laid (place, enter; printed by run73.py) ===== -/
theorem wc_4 : Cond.initialized "DreamShares$Pools" ∈ lw_tbl := List.mem_of_getElem? (i := 95) (by decide +kernel)
theorem wc_72 : Cond.methodLink "DreamShares$Pools" 25 ⟨"DreamShares$Pools", "place", "(IIII)I"⟩ ∈ lw_tbl := List.mem_of_getElem? (i := 163) (by decide +kernel)
theorem wc_73 : Cond.instanceMethod ⟨"DreamShares$Pools", "place", "(IIII)I"⟩ ∈ lw_tbl := List.mem_of_getElem? (i := 164) (by decide +kernel)
theorem wc_74 : Cond.selects "DreamShares$Pools" ⟨"DreamShares$Pools", "place", "(IIII)I"⟩ ⟨"DreamShares$Pools", "place", "(IIII)I"⟩ ∈ lw_tbl := List.mem_of_getElem? (i := 165) (by decide +kernel)
set_option maxRecDepth 20000 in
theorem wc_75 : Cond.code yX4_place cX4_place 8 (some .int) ∈ lw_tbl := List.mem_of_getElem? (i := 166) rfl
theorem wc_76 : Cond.fieldLink "DreamShares$Pools" 13 "DreamShares$Pools" "nightmares" "[I" ∈ lw_tbl := List.mem_of_getElem? (i := 167) (by decide +kernel)
theorem wc_78 : Cond.fieldLink "DreamShares$Pools" 18 "DreamShares$Pools" "next" "[I" ∈ lw_tbl := List.mem_of_getElem? (i := 169) (by decide +kernel)
theorem k4_place {B : BG} {a : Nat} {fs : List Value} {x y z t : Int32} : VK B M4_place [.ref a, .int x, .int y, .int z, .int t] [(a, .inr (4, fs))] 0 0 (fun r tys ws => r = some (.int (plX x y z t)) ∧ tys = t3 B ∧ ws = [(a, .inr (4, fs))]) := by
  refine vk_of (by decide) (Nat.le_of_ble_eq_true rfl) ?_
  refine vc_iload_n (k := 3) (i := 3) (by decide +kernel) rfl rfl ?_
  refine vc_iload (i := 4) (by decide +kernel) rfl ?_
  refine vc_iadd (by decide +kernel) ?_
  refine vc_istore (i := 5) (ls' := [(5, .int (z + t)), (0, .ref a), (1, .int x), (2, .int y), (3, .int z), (4, .int t)]) (by decide +kernel) (by decide +kernel) rfl ?_
  refine vc_iload_n (k := 2) (i := 2) (by decide +kernel) rfl rfl ?_
  refine vc_iload (i := 5) (by decide +kernel) rfl ?_
  refine vc_iadd (by decide +kernel) ?_
  refine vc_istore (i := 6) (ls' := [(6, .int (y + (z + t))), (5, .int (z + t)), (0, .ref a), (1, .int x), (2, .int y), (3, .int z), (4, .int t)]) (by decide +kernel) (by decide +kernel) rfl ?_
  refine vc_iload_n (k := 1) (i := 1) (by decide +kernel) rfl rfl ?_
  refine vc_iload (i := 6) (by decide +kernel) rfl ?_
  refine vc_iadd (by decide +kernel) ?_
  refine vc_istore (i := 7) (ls' := [(7, .int (x + (y + (z + t)))), (6, .int (y + (z + t))), (5, .int (z + t)), (0, .ref a), (1, .int x), (2, .int y), (3, .int z), (4, .int t)]) (by decide +kernel) (by decide +kernel) rfl ?_
  refine vc_iload (i := 7) (by decide +kernel) rfl ?_
  refine vc_iload (i := 7) (by decide +kernel) rfl ?_
  refine vc_iconst (n := 1) (v := 1) (by decide +kernel) (by decide +kernel) ?_
  refine vc_iadd (by decide +kernel) ?_
  refine vc_imul (by decide +kernel) ?_
  refine vc_iload (i := 7) (by decide +kernel) rfl ?_
  refine vc_iconst (n := 2) (v := 2) (by decide +kernel) (by decide +kernel) ?_
  refine vc_iadd (by decide +kernel) ?_
  refine vc_imul (by decide +kernel) ?_
  refine vc_iload (i := 7) (by decide +kernel) rfl ?_
  refine vc_iconst (n := 3) (v := 3) (by decide +kernel) (by decide +kernel) ?_
  refine vc_iadd (by decide +kernel) ?_
  refine vc_imul (by decide +kernel) ?_
  refine vc_bipush (n := 24) (v := 24) (by decide +kernel) (by decide +kernel) ?_
  refine vc_idiv (by decide +kernel) (by decide) ?_
  refine vc_iload (i := 6) (by decide +kernel) rfl ?_
  refine vc_iload (i := 6) (by decide +kernel) rfl ?_
  refine vc_iconst (n := 1) (v := 1) (by decide +kernel) (by decide +kernel) ?_
  refine vc_iadd (by decide +kernel) ?_
  refine vc_imul (by decide +kernel) ?_
  refine vc_iload (i := 6) (by decide +kernel) rfl ?_
  refine vc_iconst (n := 2) (v := 2) (by decide +kernel) (by decide +kernel) ?_
  refine vc_iadd (by decide +kernel) ?_
  refine vc_imul (by decide +kernel) ?_
  refine vc_bipush (n := 6) (v := 6) (by decide +kernel) (by decide +kernel) ?_
  refine vc_idiv (by decide +kernel) (by decide) ?_
  refine vc_iadd (by decide +kernel) ?_
  refine vc_iload (i := 5) (by decide +kernel) rfl ?_
  refine vc_iload (i := 5) (by decide +kernel) rfl ?_
  refine vc_iconst (n := 1) (v := 1) (by decide +kernel) (by decide +kernel) ?_
  refine vc_iadd (by decide +kernel) ?_
  refine vc_imul (by decide +kernel) ?_
  refine vc_iconst (n := 2) (v := 2) (by decide +kernel) (by decide +kernel) ?_
  refine vc_idiv (by decide +kernel) (by decide) ?_
  refine vc_iadd (by decide +kernel) ?_
  refine vc_iload (i := 4) (by decide +kernel) rfl ?_
  refine vc_iadd (by decide +kernel) ?_
  exact vc_iret (by decide +kernel) rfl (Nat.le_refl 0) (Nat.le_refl 0) ⟨rfl, rfl, rfl⟩
abbrev PWd (B : BG) (a q1 q2 : Nat) (F G : Nat → Int32) : va_W := [(a, .inr (4, [.ref q1, .ref q2])), (q1, .inl (gI B, 210, .inl F)), (q2, .inl (gI B, 504, .inl G))]
def EN (F G F' G' : Nat → Int32) (c : Nat) : Prop := F' (pl c) = nI (dg c 3) ∧ (∀ i, i ≠ pl c → F' i = F i) ∧ (sz c < 6 → ∀ k, k < 4 → G' (pl c * 4 + k) = nI (pl (c + pw k))) ∧ ∀ j, (∀ k, k < 4 → j ≠ pl c * 4 + k) → G' j = G j
theorem pl126 {c : Nat} (hc : c < 2401) (h6 : sz c ≤ 6) : pl c < 126 ↔ sz c < 6 := by
  obtain ⟨-, h1, h2, h3⟩ := pl_spec hc h6
  constructor
  · intro h
    rcases Nat.lt_or_ge (sz c) 6 with q | q
    · exact q
    · have e : sz c = 6 := by omega
      rw [e] at h2
      have : sS 6 = 126 := rfl
      omega
  · intro h
    have := sS_mono (show sz c + 1 ≤ 6 by omega)
    have e : sS 6 = 126 := rfl
    omega
set_option maxRecDepth 100000 in
theorem k4_enter {B : BG} {a q1 q2 : Nat} {F G : Nat → Int32} {f w g n c : Nat} (hs : f + w + g + n ≤ 6) (hcc : c = cd4 f w g n) : VK B M4_enter [.ref a, .int (nI f), .int (nI w), .int (nI g), .int (nI n)] (PWd B a q1 q2 F G) 0 0 (fun r tys ws => r = none ∧ tys = t3 B ∧ ∃ F' G', ws = PWd B a q1 q2 F' G' ∧ EN F G F' G' c) := by
  obtain ⟨hc, d0, d1, d2, d3, hpx⟩ := cd4_spec (f := f) (w := w) (g := g) (h := n) (by omega) (by omega) (by omega) (by omega)
  have hsz := cd4_sz (f := f) (w := w) (g := g) (h := n) (by omega) (by omega) (by omega) (by omega)
  have e0 := hpx hs
  rw [← hcc] at hc d0 d1 d2 d3 hsz e0
  have h6 : sz c ≤ 6 := by omega
  have hp := pl_spec hc h6
  have q126 : ¬ startf (Int32.toNatClampNeg 6) ≤ nI (pl c) → sz c < 6 := fun q => by
    have e : startf (Int32.toNatClampNeg 6) = nI 126 := by decide
    rw [e] at q
    rcases Nat.lt_or_ge (pl c) 126 with z | z
    · exact (pl126 hc h6).mp z
    · exact absurd (nI_le z (by omega)) q
  have fin1 : startf (Int32.toNatClampNeg 6) ≤ nI (pl c) → EN F G (upd F (pl c) (nI n)) G c := fun q => by
    have e : startf (Int32.toNatClampNeg 6) = nI 126 := by decide
    rw [e, nI_leI (by decide) (by omega)] at q
    refine ⟨by rw [upd_at, d3], fun i hi => upd_ne hi, fun z => ?_, fun _ _ => rfl⟩
    have := (pl126 hc h6).mpr z
    omega
  have ix0 : nI (pl c) * 4 = nI (pl c * 4 + 0) := nI_x4 (pl c)
  have ix1 : nI (pl c) * 4 + 1 = nI (pl c * 4 + 1) := by rw [nI_x4, nI_1]
  have ix2 : nI (pl c) * 4 + 2 = nI (pl c * 4 + 2) := by rw [nI_x4, nI_p2]
  have ix3 : nI (pl c) * 4 + 3 = nI (pl c * 4 + 3) := by rw [nI_x4, nI_p3]
  have pk0 : sz c < 6 → plX (nI f + 1) (nI w) (nI g) (nI n) = nI (pl (c + pw 0)) := fun q => by
    rw [nI_1, (cd4_spec (f := f + 1) (w := w) (g := g) (h := n) (by omega) (by omega) (by omega) (by omega)).2.2.2.2.2 (by omega), hcc, show cd4 (f + 1) w g n = cd4 f w g n + pw 0 by unfold cd4; have : pw 0 = 1 := rfl; omega]
  have pk1 : sz c < 6 → plX (nI f) (nI w + 1) (nI g) (nI n) = nI (pl (c + pw 1)) := fun q => by
    rw [nI_1, (cd4_spec (f := f) (w := w + 1) (g := g) (h := n) (by omega) (by omega) (by omega) (by omega)).2.2.2.2.2 (by omega), hcc, show cd4 f (w + 1) g n = cd4 f w g n + pw 1 by unfold cd4; have : pw 1 = 7 := rfl; omega]
  have pk2 : sz c < 6 → plX (nI f) (nI w) (nI g + 1) (nI n) = nI (pl (c + pw 2)) := fun q => by
    rw [nI_1, (cd4_spec (f := f) (w := w) (g := g + 1) (h := n) (by omega) (by omega) (by omega) (by omega)).2.2.2.2.2 (by omega), hcc, show cd4 f w (g + 1) n = cd4 f w g n + pw 2 by unfold cd4; have : pw 2 = 49 := rfl; omega]
  have pk3 : sz c < 6 → plX (nI f) (nI w) (nI g) (nI n + 1) = nI (pl (c + pw 3)) := fun q => by
    rw [nI_1, (cd4_spec (f := f) (w := w) (g := g) (h := n + 1) (by omega) (by omega) (by omega) (by omega)).2.2.2.2.2 (by omega), hcc, show cd4 f w g (n + 1) = cd4 f w g n + pw 3 by unfold cd4; have : pw 3 = 343 := rfl; omega]
  have fin2 : EN F G (upd F (pl c) (nI n)) (upd (upd (upd (upd G (pl c * 4 + 0) (nI (pl (c + pw 0)))) (pl c * 4 + 1) (nI (pl (c + pw 1)))) (pl c * 4 + 2) (nI (pl (c + pw 2)))) (pl c * 4 + 3) (nI (pl (c + pw 3)))) c := by
    refine ⟨by rw [upd_at, d3], fun i hi => upd_ne hi, fun _ k hk => ?_, fun j hj => ?_⟩
    · rcases s4 hk with rfl | rfl | rfl | rfl
      · rw [upd_ne (by omega), upd_ne (by omega), upd_ne (by omega), upd_at]
      · rw [upd_ne (by omega), upd_ne (by omega), upd_at]
      · rw [upd_ne (by omega), upd_at]
      · rw [upd_at]
    · rw [upd_ne (hj 3 (by decide)), upd_ne (hj 2 (by decide)), upd_ne (hj 1 (by decide)), upd_ne (hj 0 (by decide))]
  refine vk_of (by decide) (Nat.le_of_ble_eq_true rfl) ?_
  refine vc_aload_n (k := 0) (i := 0) (by decide +kernel) rfl rfl ?_
  refine vc_iload_n (k := 1) (i := 1) (by decide +kernel) rfl rfl ?_
  refine vc_iload_n (k := 2) (i := 2) (by decide +kernel) rfl rfl ?_
  refine vc_iload_n (k := 3) (i := 3) (by decide +kernel) rfl rfl ?_
  refine vc_iload (i := 4) (by decide +kernel) rfl ?_
  refine vc_invV (M' := M4_place) (As := [.int (nI f), .int (nI w), .int (nI g), .int (nI n)]) (rest := []) (b := a) (n := 4) (ci := 4) (q0 := 0) (T := TX4) (wc := [(a, .inr (4, [.ref q1, .ref q2]))]) (wr := [(q1, .inl (gI B, 210, .inl F)), (q2, .inl (gI B, 504, .inl G))]) (isC := [0]) (isR := [1, 2]) k4_place (by decide +kernel) wc_72 wc_73 wc_74 wc_4 wc_75 rfl rfl (by decide +kernel) rfl (by decide +kernel) (Nat.le_of_ble_eq_true rfl) (Nat.le_refl 0) (Nat.le_refl 0) rfl rfl rfl rfl (by decide +kernel) (fun r tys' ws' hk => ?_)
  obtain ⟨rfl, rfl, rfl⟩ := hk
  rw [e0]
  refine VC.tsub (tys' := t3 B) ?_ [0, 1, 2] rfl
  refine VC.wsub (ws' := PWd B a q1 q2 F G) ?_ [2, 0, 1] rfl rfl
  show VC B M4_enter 0 0 _ 9 [(0, .ref a), (1, .int (nI f)), (2, .int (nI w)), (3, .int (nI g)), (4, .int (nI n))] [.int (nI (pl c))] (t3 B) (PWd B a q1 q2 F G) 0 0
  refine vc_istore (i := 5) (ls' := [(5, .int (nI (pl c))), (0, .ref a), (1, .int (nI f)), (2, .int (nI w)), (3, .int (nI g)), (4, .int (nI n))]) (by decide +kernel) (by decide +kernel) rfl ?_
  refine vc_aload_n (k := 0) (i := 0) (by decide +kernel) rfl rfl ?_
  refine vcc_get (index := 13) (ci := 4) (N := 2) (k := 0) (q0 := 0) (T := TX4) fw4 rfl rfl (by decide) wc_76 rfl (by decide +kernel) ?_
  refine vc_iload (i := 5) (by decide +kernel) rfl ?_
  refine vc_iload (i := 4) (by decide +kernel) rfl ?_
  refine vc_iast (q0 := 1) (n := 210) rfl (vp_in_nI hp.2.1 (by decide)) (by decide +kernel) ?_
  rw [nIc (show pl c < 2 ^ 31 by omega)]
  show VC B M4_enter 0 0 _ 20 [(5, .int (nI (pl c))), (0, .ref a), (1, .int (nI f)), (2, .int (nI w)), (3, .int (nI g)), (4, .int (nI n))] [] (t3 B) (PWd B a q1 q2 (upd F (pl c) (nI n)) G) 0 0
  refine vc_iload (i := 5) (by decide +kernel) rfl ?_
  refine vc_gstN (index := 9) (by decide +kernel) (List.mem_of_getElem? (i := 0) rfl) ?_
  refine vc_bipush (n := 6) (v := 6) (by decide +kernel) (by decide +kernel) ?_
  refine vc_sald (show vp_in (nI 6) 8 from vp_in_nI (by decide) (by decide)) (by decide +kernel) ?_
  refine vc_cge (off := 89) (tgt := 117) (by decide +kernel) (by decide +kernel) (fun q => ?_) (fun q => ?_)
  · exact vc_vret (by decide +kernel) rfl (Nat.le_refl 0) (Nat.le_refl 0) ⟨rfl, rfl, _, _, rfl, fin1 q⟩
  · have q6 : sz c < 6 := q126 q
    refine vc_aload_n (k := 0) (i := 0) (by decide +kernel) rfl rfl ?_
    refine vcc_get (index := 18) (ci := 4) (N := 2) (k := 1) (q0 := 0) (T := TX4) fw4 rfl rfl (by decide) wc_78 rfl (by decide +kernel) ?_
    refine vc_iload (i := 5) (by decide +kernel) rfl ?_
    refine vc_iconst (n := 4) (v := 4) (by decide +kernel) (by decide +kernel) ?_
    refine vc_imul (by decide +kernel) ?_
    rw [ix0]
    refine vc_aload_n (k := 0) (i := 0) (by decide +kernel) rfl rfl ?_
    refine vc_iload_n (k := 1) (i := 1) (by decide +kernel) rfl rfl ?_
    refine vc_iconst (n := 1) (v := 1) (by decide +kernel) (by decide +kernel) ?_
    refine vc_iadd (by decide +kernel) ?_
    refine vc_iload_n (k := 2) (i := 2) (by decide +kernel) rfl rfl ?_
    refine vc_iload_n (k := 3) (i := 3) (by decide +kernel) rfl rfl ?_
    refine vc_iload (i := 4) (by decide +kernel) rfl ?_
    refine vc_invV (M' := M4_place) (As := [.int (nI f + 1), .int (nI w), .int (nI g), .int (nI n)]) (rest := [.int (nI (pl c * 4 + 0)), .ref q2]) (b := a) (n := 4) (ci := 4) (q0 := 0) (T := TX4) (wc := [(a, .inr (4, [.ref q1, .ref q2]))]) (wr := [(q1, .inl (gI B, 210, .inl (upd F (pl c) (nI n)))), (q2, .inl (gI B, 504, .inl G))]) (isC := [0]) (isR := [1, 2]) k4_place (by decide +kernel) wc_72 wc_73 wc_74 wc_4 wc_75 rfl rfl (by decide +kernel) rfl (by decide +kernel) (Nat.le_of_ble_eq_true rfl) (Nat.le_refl 0) (Nat.le_refl 0) rfl rfl rfl rfl (by decide +kernel) (fun r tys' ws' hk => ?_)
    obtain ⟨rfl, rfl, rfl⟩ := hk
    rw [pk0 q6]
    refine VC.tsub (tys' := t3 B) ?_ [0, 1, 2] rfl
    refine VC.wsub (ws' := PWd B a q1 q2 (upd F (pl c) (nI n)) G) ?_ [2, 0, 1] rfl rfl
    show VC B M4_enter 0 0 _ 50 [(5, .int (nI (pl c))), (0, .ref a), (1, .int (nI f)), (2, .int (nI w)), (3, .int (nI g)), (4, .int (nI n))] [.int (nI (pl (c + pw 0))), .int (nI (pl c * 4 + 0)), .ref q2] (t3 B) (PWd B a q1 q2 (upd F (pl c) (nI n)) G) 0 0
    refine vc_iast (q0 := 2) (n := 504) rfl (vp_in_nI (show pl c * 4 + 0 < 504 by have := (pl126 hc h6).mpr q6; omega) (by decide)) (by decide +kernel) ?_
    rw [nIc (show pl c * 4 + 0 < 2 ^ 31 by omega)]
    show VC B M4_enter 0 0 _ 51 [(5, .int (nI (pl c))), (0, .ref a), (1, .int (nI f)), (2, .int (nI w)), (3, .int (nI g)), (4, .int (nI n))] [] (t3 B) (PWd B a q1 q2 (upd F (pl c) (nI n)) (upd G (pl c * 4 + 0) (nI (pl (c + pw 0))))) 0 0
    refine vc_aload_n (k := 0) (i := 0) (by decide +kernel) rfl rfl ?_
    refine vcc_get (index := 18) (ci := 4) (N := 2) (k := 1) (q0 := 0) (T := TX4) fw4 rfl rfl (by decide) wc_78 rfl (by decide +kernel) ?_
    refine vc_iload (i := 5) (by decide +kernel) rfl ?_
    refine vc_iconst (n := 4) (v := 4) (by decide +kernel) (by decide +kernel) ?_
    refine vc_imul (by decide +kernel) ?_
    refine vc_iconst (n := 1) (v := 1) (by decide +kernel) (by decide +kernel) ?_
    refine vc_iadd (by decide +kernel) ?_
    rw [ix1]
    refine vc_aload_n (k := 0) (i := 0) (by decide +kernel) rfl rfl ?_
    refine vc_iload_n (k := 1) (i := 1) (by decide +kernel) rfl rfl ?_
    refine vc_iload_n (k := 2) (i := 2) (by decide +kernel) rfl rfl ?_
    refine vc_iconst (n := 1) (v := 1) (by decide +kernel) (by decide +kernel) ?_
    refine vc_iadd (by decide +kernel) ?_
    refine vc_iload_n (k := 3) (i := 3) (by decide +kernel) rfl rfl ?_
    refine vc_iload (i := 4) (by decide +kernel) rfl ?_
    refine vc_invV (M' := M4_place) (As := [.int (nI f), .int (nI w + 1), .int (nI g), .int (nI n)]) (rest := [.int (nI (pl c * 4 + 1)), .ref q2]) (b := a) (n := 4) (ci := 4) (q0 := 0) (T := TX4) (wc := [(a, .inr (4, [.ref q1, .ref q2]))]) (wr := [(q1, .inl (gI B, 210, .inl (upd F (pl c) (nI n)))), (q2, .inl (gI B, 504, .inl (upd G (pl c * 4 + 0) (nI (pl (c + pw 0))))))]) (isC := [0]) (isR := [1, 2]) k4_place (by decide +kernel) wc_72 wc_73 wc_74 wc_4 wc_75 rfl rfl (by decide +kernel) rfl (by decide +kernel) (Nat.le_of_ble_eq_true rfl) (Nat.le_refl 0) (Nat.le_refl 0) rfl rfl rfl rfl (by decide +kernel) (fun r tys' ws' hk => ?_)
    obtain ⟨rfl, rfl, rfl⟩ := hk
    rw [pk1 q6]
    refine VC.tsub (tys' := t3 B) ?_ [0, 1, 2] rfl
    refine VC.wsub (ws' := PWd B a q1 q2 (upd F (pl c) (nI n)) (upd G (pl c * 4 + 0) (nI (pl (c + pw 0))))) ?_ [2, 0, 1] rfl rfl
    show VC B M4_enter 0 0 _ 72 [(5, .int (nI (pl c))), (0, .ref a), (1, .int (nI f)), (2, .int (nI w)), (3, .int (nI g)), (4, .int (nI n))] [.int (nI (pl (c + pw 1))), .int (nI (pl c * 4 + 1)), .ref q2] (t3 B) (PWd B a q1 q2 (upd F (pl c) (nI n)) (upd G (pl c * 4 + 0) (nI (pl (c + pw 0))))) 0 0
    refine vc_iast (q0 := 2) (n := 504) rfl (vp_in_nI (show pl c * 4 + 1 < 504 by have := (pl126 hc h6).mpr q6; omega) (by decide)) (by decide +kernel) ?_
    rw [nIc (show pl c * 4 + 1 < 2 ^ 31 by omega)]
    show VC B M4_enter 0 0 _ 73 [(5, .int (nI (pl c))), (0, .ref a), (1, .int (nI f)), (2, .int (nI w)), (3, .int (nI g)), (4, .int (nI n))] [] (t3 B) (PWd B a q1 q2 (upd F (pl c) (nI n)) (upd (upd G (pl c * 4 + 0) (nI (pl (c + pw 0)))) (pl c * 4 + 1) (nI (pl (c + pw 1))))) 0 0
    refine vc_aload_n (k := 0) (i := 0) (by decide +kernel) rfl rfl ?_
    refine vcc_get (index := 18) (ci := 4) (N := 2) (k := 1) (q0 := 0) (T := TX4) fw4 rfl rfl (by decide) wc_78 rfl (by decide +kernel) ?_
    refine vc_iload (i := 5) (by decide +kernel) rfl ?_
    refine vc_iconst (n := 4) (v := 4) (by decide +kernel) (by decide +kernel) ?_
    refine vc_imul (by decide +kernel) ?_
    refine vc_iconst (n := 2) (v := 2) (by decide +kernel) (by decide +kernel) ?_
    refine vc_iadd (by decide +kernel) ?_
    rw [ix2]
    refine vc_aload_n (k := 0) (i := 0) (by decide +kernel) rfl rfl ?_
    refine vc_iload_n (k := 1) (i := 1) (by decide +kernel) rfl rfl ?_
    refine vc_iload_n (k := 2) (i := 2) (by decide +kernel) rfl rfl ?_
    refine vc_iload_n (k := 3) (i := 3) (by decide +kernel) rfl rfl ?_
    refine vc_iconst (n := 1) (v := 1) (by decide +kernel) (by decide +kernel) ?_
    refine vc_iadd (by decide +kernel) ?_
    refine vc_iload (i := 4) (by decide +kernel) rfl ?_
    refine vc_invV (M' := M4_place) (As := [.int (nI f), .int (nI w), .int (nI g + 1), .int (nI n)]) (rest := [.int (nI (pl c * 4 + 2)), .ref q2]) (b := a) (n := 4) (ci := 4) (q0 := 0) (T := TX4) (wc := [(a, .inr (4, [.ref q1, .ref q2]))]) (wr := [(q1, .inl (gI B, 210, .inl (upd F (pl c) (nI n)))), (q2, .inl (gI B, 504, .inl (upd (upd G (pl c * 4 + 0) (nI (pl (c + pw 0)))) (pl c * 4 + 1) (nI (pl (c + pw 1))))))]) (isC := [0]) (isR := [1, 2]) k4_place (by decide +kernel) wc_72 wc_73 wc_74 wc_4 wc_75 rfl rfl (by decide +kernel) rfl (by decide +kernel) (Nat.le_of_ble_eq_true rfl) (Nat.le_refl 0) (Nat.le_refl 0) rfl rfl rfl rfl (by decide +kernel) (fun r tys' ws' hk => ?_)
    obtain ⟨rfl, rfl, rfl⟩ := hk
    rw [pk2 q6]
    refine VC.tsub (tys' := t3 B) ?_ [0, 1, 2] rfl
    refine VC.wsub (ws' := PWd B a q1 q2 (upd F (pl c) (nI n)) (upd (upd G (pl c * 4 + 0) (nI (pl (c + pw 0)))) (pl c * 4 + 1) (nI (pl (c + pw 1))))) ?_ [2, 0, 1] rfl rfl
    show VC B M4_enter 0 0 _ 94 [(5, .int (nI (pl c))), (0, .ref a), (1, .int (nI f)), (2, .int (nI w)), (3, .int (nI g)), (4, .int (nI n))] [.int (nI (pl (c + pw 2))), .int (nI (pl c * 4 + 2)), .ref q2] (t3 B) (PWd B a q1 q2 (upd F (pl c) (nI n)) (upd (upd G (pl c * 4 + 0) (nI (pl (c + pw 0)))) (pl c * 4 + 1) (nI (pl (c + pw 1))))) 0 0
    refine vc_iast (q0 := 2) (n := 504) rfl (vp_in_nI (show pl c * 4 + 2 < 504 by have := (pl126 hc h6).mpr q6; omega) (by decide)) (by decide +kernel) ?_
    rw [nIc (show pl c * 4 + 2 < 2 ^ 31 by omega)]
    show VC B M4_enter 0 0 _ 95 [(5, .int (nI (pl c))), (0, .ref a), (1, .int (nI f)), (2, .int (nI w)), (3, .int (nI g)), (4, .int (nI n))] [] (t3 B) (PWd B a q1 q2 (upd F (pl c) (nI n)) (upd (upd (upd G (pl c * 4 + 0) (nI (pl (c + pw 0)))) (pl c * 4 + 1) (nI (pl (c + pw 1)))) (pl c * 4 + 2) (nI (pl (c + pw 2))))) 0 0
    refine vc_aload_n (k := 0) (i := 0) (by decide +kernel) rfl rfl ?_
    refine vcc_get (index := 18) (ci := 4) (N := 2) (k := 1) (q0 := 0) (T := TX4) fw4 rfl rfl (by decide) wc_78 rfl (by decide +kernel) ?_
    refine vc_iload (i := 5) (by decide +kernel) rfl ?_
    refine vc_iconst (n := 4) (v := 4) (by decide +kernel) (by decide +kernel) ?_
    refine vc_imul (by decide +kernel) ?_
    refine vc_iconst (n := 3) (v := 3) (by decide +kernel) (by decide +kernel) ?_
    refine vc_iadd (by decide +kernel) ?_
    rw [ix3]
    refine vc_aload_n (k := 0) (i := 0) (by decide +kernel) rfl rfl ?_
    refine vc_iload_n (k := 1) (i := 1) (by decide +kernel) rfl rfl ?_
    refine vc_iload_n (k := 2) (i := 2) (by decide +kernel) rfl rfl ?_
    refine vc_iload_n (k := 3) (i := 3) (by decide +kernel) rfl rfl ?_
    refine vc_iload (i := 4) (by decide +kernel) rfl ?_
    refine vc_iconst (n := 1) (v := 1) (by decide +kernel) (by decide +kernel) ?_
    refine vc_iadd (by decide +kernel) ?_
    refine vc_invV (M' := M4_place) (As := [.int (nI f), .int (nI w), .int (nI g), .int (nI n + 1)]) (rest := [.int (nI (pl c * 4 + 3)), .ref q2]) (b := a) (n := 4) (ci := 4) (q0 := 0) (T := TX4) (wc := [(a, .inr (4, [.ref q1, .ref q2]))]) (wr := [(q1, .inl (gI B, 210, .inl (upd F (pl c) (nI n)))), (q2, .inl (gI B, 504, .inl (upd (upd (upd G (pl c * 4 + 0) (nI (pl (c + pw 0)))) (pl c * 4 + 1) (nI (pl (c + pw 1)))) (pl c * 4 + 2) (nI (pl (c + pw 2))))))]) (isC := [0]) (isR := [1, 2]) k4_place (by decide +kernel) wc_72 wc_73 wc_74 wc_4 wc_75 rfl rfl (by decide +kernel) rfl (by decide +kernel) (Nat.le_of_ble_eq_true rfl) (Nat.le_refl 0) (Nat.le_refl 0) rfl rfl rfl rfl (by decide +kernel) (fun r tys' ws' hk => ?_)
    obtain ⟨rfl, rfl, rfl⟩ := hk
    rw [pk3 q6]
    refine VC.tsub (tys' := t3 B) ?_ [0, 1, 2] rfl
    refine VC.wsub (ws' := PWd B a q1 q2 (upd F (pl c) (nI n)) (upd (upd (upd G (pl c * 4 + 0) (nI (pl (c + pw 0)))) (pl c * 4 + 1) (nI (pl (c + pw 1)))) (pl c * 4 + 2) (nI (pl (c + pw 2))))) ?_ [2, 0, 1] rfl rfl
    show VC B M4_enter 0 0 _ 116 [(5, .int (nI (pl c))), (0, .ref a), (1, .int (nI f)), (2, .int (nI w)), (3, .int (nI g)), (4, .int (nI n))] [.int (nI (pl (c + pw 3))), .int (nI (pl c * 4 + 3)), .ref q2] (t3 B) (PWd B a q1 q2 (upd F (pl c) (nI n)) (upd (upd (upd G (pl c * 4 + 0) (nI (pl (c + pw 0)))) (pl c * 4 + 1) (nI (pl (c + pw 1)))) (pl c * 4 + 2) (nI (pl (c + pw 2))))) 0 0
    refine vc_iast (q0 := 2) (n := 504) rfl (vp_in_nI (show pl c * 4 + 3 < 504 by have := (pl126 hc h6).mpr q6; omega) (by decide)) (by decide +kernel) ?_
    rw [nIc (show pl c * 4 + 3 < 2 ^ 31 by omega)]
    show VC B M4_enter 0 0 _ 117 [(5, .int (nI (pl c))), (0, .ref a), (1, .int (nI f)), (2, .int (nI w)), (3, .int (nI g)), (4, .int (nI n))] [] (t3 B) (PWd B a q1 q2 (upd F (pl c) (nI n)) (upd (upd (upd (upd G (pl c * 4 + 0) (nI (pl (c + pw 0)))) (pl c * 4 + 1) (nI (pl (c + pw 1)))) (pl c * 4 + 2) (nI (pl (c + pw 2)))) (pl c * 4 + 3) (nI (pl (c + pw 3))))) 0 0
    exact vc_vret (by decide +kernel) rfl (Nat.le_refl 0) (Nat.le_refl 0) ⟨rfl, rfl, _, _, rfl, fin2⟩
