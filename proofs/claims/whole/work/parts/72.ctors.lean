/-! ===== the small constructors (printed by gen72.py) ===== -/
set_option maxRecDepth 20000 in
theorem wc_objC : Cond.code Lib.objectInit ⟨#[0xb1]⟩ 1 none ∈ lw_tbl := List.mem_of_getElem? (i := 112) rfl
theorem wc_objI : Cond.instanceMethod Lib.objectInit ∈ lw_tbl := List.mem_of_getElem? (i := 111) (by decide +kernel)
theorem wc_27 : Cond.methodLink "DreamShares$Text" 3 ⟨"java/lang/Object", "<init>", "()V"⟩ ∈ lw_tbl := List.mem_of_getElem? (i := 118) (by decide +kernel)
theorem wc_28 : Cond.fieldLink "DreamShares$Text" 9 "DreamShares$Text" "bytes" "[I" ∈ lw_tbl := List.mem_of_getElem? (i := 119) (by decide +kernel)
theorem wc_31 : Cond.fieldLink "DreamShares$Text" 15 "DreamShares$Text" "length" "I" ∈ lw_tbl := List.mem_of_getElem? (i := 122) (by decide +kernel)
theorem wc_40 : Cond.arrayClass FieldType.int ∈ lw_tbl := List.mem_of_getElem? (i := 131) (by decide +kernel)
theorem wc_46 : Cond.methodLink "DreamShares$Roster" 3 ⟨"java/lang/Object", "<init>", "()V"⟩ ∈ lw_tbl := List.mem_of_getElem? (i := 137) (by decide +kernel)
theorem wc_47 : Cond.fieldLink "DreamShares$Roster" 9 "DreamShares$Roster" "told" "[I" ∈ lw_tbl := List.mem_of_getElem? (i := 138) (by decide +kernel)
theorem wc_49 : Cond.fieldLink "DreamShares$Roster" 15 "DreamShares$Roster" "number" "I" ∈ lw_tbl := List.mem_of_getElem? (i := 140) (by decide +kernel)
theorem wc_51 : Cond.fieldLink "DreamShares$Roster" 19 "DreamShares$Roster" "faultPlace" "I" ∈ lw_tbl := List.mem_of_getElem? (i := 142) (by decide +kernel)
theorem wc_90 : Cond.methodLink "DreamShares$Kitchen" 3 ⟨"java/lang/Object", "<init>", "()V"⟩ ∈ lw_tbl := List.mem_of_getElem? (i := 181) (by decide +kernel)
theorem wc_92 : Cond.fieldLink "DreamShares$Kitchen" 9 "DreamShares$Kitchen" "first" "[I" ∈ lw_tbl := List.mem_of_getElem? (i := 183) (by decide +kernel)
theorem wc_94 : Cond.fieldLink "DreamShares$Kitchen" 15 "DreamShares$Kitchen" "second" "[I" ∈ lw_tbl := List.mem_of_getElem? (i := 185) (by decide +kernel)
theorem wc_96 : Cond.fieldLink "DreamShares$Kitchen" 18 "DreamShares$Kitchen" "price" "[I" ∈ lw_tbl := List.mem_of_getElem? (i := 187) (by decide +kernel)
theorem wc_98 : Cond.fieldLink "DreamShares$Kitchen" 21 "DreamShares$Kitchen" "number" "I" ∈ lw_tbl := List.mem_of_getElem? (i := 189) (by decide +kernel)
theorem wc_100 : Cond.fieldLink "DreamShares$Kitchen" 25 "DreamShares$Kitchen" "faultPlace" "I" ∈ lw_tbl := List.mem_of_getElem? (i := 191) (by decide +kernel)
theorem wc_102 : Cond.fieldLink "DreamShares$Kitchen" 31 "DreamShares$Kitchen" "most" "[I" ∈ lw_tbl := List.mem_of_getElem? (i := 193) (by decide +kernel)
theorem wc_104 : Cond.fieldLink "DreamShares$Kitchen" 37 "DreamShares$Kitchen" "pools" "LDreamShares$Pools;" ∈ lw_tbl := List.mem_of_getElem? (i := 195) (by decide +kernel)
theorem wc_105 : Cond.fieldLink "DreamShares$Kitchen" 34 "DreamShares$Kitchen" "state" "I" ∈ lw_tbl := List.mem_of_getElem? (i := 196) (by decide +kernel)
theorem wc_128 : Cond.methodLink "DreamShares$Fold" 3 ⟨"java/lang/Object", "<init>", "()V"⟩ ∈ lw_tbl := List.mem_of_getElem? (i := 219) (by decide +kernel)
theorem wc_130 : Cond.fieldLink "DreamShares$Fold" 13 "DreamShares$Fold" "values" "[J" ∈ lw_tbl := List.mem_of_getElem? (i := 221) (by decide +kernel)
theorem wc_132 : Cond.fieldLink "DreamShares$Fold" 19 "DreamShares$Fold" "odds" "[I" ∈ lw_tbl := List.mem_of_getElem? (i := 223) (by decide +kernel)
theorem wc_134 : Cond.fieldLink "DreamShares$Fold" 22 "DreamShares$Fold" "pools" "LDreamShares$Pools;" ∈ lw_tbl := List.mem_of_getElem? (i := 225) (by decide +kernel)
theorem wc_142 : Cond.arrayClass FieldType.long ∈ lw_tbl := List.mem_of_getElem? (i := 233) (by decide +kernel)
theorem wc_148 : Cond.methodLink "DreamShares$Fraction" 1 ⟨"java/lang/Object", "<init>", "()V"⟩ ∈ lw_tbl := List.mem_of_getElem? (i := 239) (by decide +kernel)
theorem wc_149 : Cond.fieldLink "DreamShares$Fraction" 7 "DreamShares$Fraction" "above" "J" ∈ lw_tbl := List.mem_of_getElem? (i := 240) (by decide +kernel)
theorem wc_151 : Cond.fieldLink "DreamShares$Fraction" 13 "DreamShares$Fraction" "below" "J" ∈ lw_tbl := List.mem_of_getElem? (i := 242) (by decide +kernel)
theorem wc_163 : Cond.methodLink "DreamShares$Lots" 1 ⟨"java/lang/Object", "<init>", "()V"⟩ ∈ lw_tbl := List.mem_of_getElem? (i := 254) (by decide +kernel)
theorem wc_164 : Cond.fieldLink "DreamShares$Lots" 7 "DreamShares$Lots" "seed" "I" ∈ lw_tbl := List.mem_of_getElem? (i := 255) (by decide +kernel)
theorem wc_175 : Cond.methodLink "DreamShares$Sheet" 3 ⟨"java/lang/Object", "<init>", "()V"⟩ ∈ lw_tbl := List.mem_of_getElem? (i := 266) (by decide +kernel)
theorem wc_176 : Cond.fieldLink "DreamShares$Sheet" 9 "DreamShares$Sheet" "items" "[I" ∈ lw_tbl := List.mem_of_getElem? (i := 267) (by decide +kernel)
theorem wc_178 : Cond.fieldLink "DreamShares$Sheet" 15 "DreamShares$Sheet" "form" "I" ∈ lw_tbl := List.mem_of_getElem? (i := 269) (by decide +kernel)
theorem wc_180 : Cond.fieldLink "DreamShares$Sheet" 19 "DreamShares$Sheet" "size" "I" ∈ lw_tbl := List.mem_of_getElem? (i := 271) (by decide +kernel)
theorem wc_182 : Cond.fieldLink "DreamShares$Sheet" 22 "DreamShares$Sheet" "lost" "Z" ∈ lw_tbl := List.mem_of_getElem? (i := 273) (by decide +kernel)
def M7_init : MD := (yX7_init, cX7_init, 1, none, 1)
set_option maxRecDepth 100000 in
theorem k7_init {B : BG} {h0 : Nat} : VK B M7_init [.ref h0] [(h0, .inr (7, [.null, .int 0]))] 1 29 (fun r tys ws => r = none ∧ tys = t3 B ∧ ∃ q1 : Nat, ws = [(h0, .inr (7, [.ref q1, .int 0])), (q1, .inl (gI B, 29, .inl (fun _ => 0)))]) := by
  refine vk_of (by decide) (Nat.le_of_ble_eq_true rfl) ?_
  refine vc_aload_n (k := 0) (i := 0) (by decide +kernel) rfl rfl ?_
  refine vc_objInit (idx := 3) (by decide +kernel) wc_27 wc_objI wc_objC (by decide) (by decide) ?_
  refine vc_aload_n (k := 0) (i := 0) (by decide +kernel) rfl rfl ?_
  refine vc_bipush (n := 29) (v := 29) (by decide +kernel) (by decide +kernel) ?_
  refine vc_newa (atype := .int) (ty := .int) (cT := gI B) (t0 := 0) (N' := 29) (a0 := (29, .inl (fun _ => 0))) rfl wc_40 rfl (fun _ _ => Iff.rfl) (fun _ => rfl) (by decide) (by decide) (Nat.le_of_ble_eq_true rfl) (Nat.le_of_ble_eq_true rfl) (Nat.le_of_ble_eq_true rfl) (by decide +kernel) (fun q1 => ?_)
  show VC B M7_init 1 29 _ 9 [(0, .ref h0)] [.ref q1, .ref h0] (t3 B) [(h0, .inr (7, [.null, .int 0])), (q1, .inl (gI B, 29, .inl (fun _ => 0)))] 1 29
  refine vc_put (index := 9) (ci := 7) (N := 2) (k := 0) (q0 := 0) (T := TX7) (ty := .array .int) fw7 tyX7_ok nmX7 rfl rfl (by decide) wc_28 (Or.inr ⟨rfl, rfl, rfl⟩) (by decide +kernel) rfl rfl (Nat.le_of_ble_eq_true rfl) (by decide +kernel) ?_
  show VC B M7_init 1 29 _ 12 [(0, .ref h0)] [] (t3 B) [(h0, .inr (7, [.ref q1, .int 0])), (q1, .inl (gI B, 29, .inl (fun _ => 0)))] 1 29
  refine vc_aload_n (k := 0) (i := 0) (by decide +kernel) rfl rfl ?_
  refine vc_iconst (n := 0) (v := 0) (by decide +kernel) (by decide +kernel) ?_
  refine vc_put (index := 15) (ci := 7) (N := 2) (k := 1) (q0 := 0) (T := TX7) (ty := .int) fw7 tyX7_ok nmX7 rfl rfl (by decide) wc_31 (Or.inl rfl) (by decide +kernel) rfl rfl (Nat.le_of_ble_eq_true rfl) (by decide +kernel) ?_
  show VC B M7_init 1 29 _ 17 [(0, .ref h0)] [] (t3 B) [(h0, .inr (7, [.ref q1, .int 0])), (q1, .inl (gI B, 29, .inl (fun _ => 0)))] 1 29
  exact vc_vret (by decide +kernel) rfl (Nat.le_of_ble_eq_true rfl) (Nat.le_of_ble_eq_true rfl) ⟨rfl, rfl, q1, rfl⟩
def M5_init : MD := (yX5_init, cX5_init, 1, none, 1)
set_option maxRecDepth 100000 in
theorem k5_init {B : BG} {h0 : Nat} : VK B M5_init [.ref h0] [(h0, .inr (5, [.null, .int 0, .int 0]))] 1 24 (fun r tys ws => r = none ∧ tys = t3 B ∧ ∃ q1 : Nat, ws = [(h0, .inr (5, [.ref q1, .int 0, .int (-1)])), (q1, .inl (gI B, 24, .inl (fun _ => 0)))]) := by
  refine vk_of (by decide) (Nat.le_of_ble_eq_true rfl) ?_
  refine vc_aload_n (k := 0) (i := 0) (by decide +kernel) rfl rfl ?_
  refine vc_objInit (idx := 3) (by decide +kernel) wc_46 wc_objI wc_objC (by decide) (by decide) ?_
  refine vc_aload_n (k := 0) (i := 0) (by decide +kernel) rfl rfl ?_
  refine vc_bipush (n := 24) (v := 24) (by decide +kernel) (by decide +kernel) ?_
  refine vc_newa (atype := .int) (ty := .int) (cT := gI B) (t0 := 0) (N' := 24) (a0 := (24, .inl (fun _ => 0))) rfl wc_40 rfl (fun _ _ => Iff.rfl) (fun _ => rfl) (by decide) (by decide) (Nat.le_of_ble_eq_true rfl) (Nat.le_of_ble_eq_true rfl) (Nat.le_of_ble_eq_true rfl) (by decide +kernel) (fun q1 => ?_)
  show VC B M5_init 1 24 _ 9 [(0, .ref h0)] [.ref q1, .ref h0] (t3 B) [(h0, .inr (5, [.null, .int 0, .int 0])), (q1, .inl (gI B, 24, .inl (fun _ => 0)))] 1 24
  refine vc_put (index := 9) (ci := 5) (N := 3) (k := 0) (q0 := 0) (T := TX5) (ty := .array .int) fw5 tyX5_ok nmX5 rfl rfl (by decide) wc_47 (Or.inr ⟨rfl, rfl, rfl⟩) (by decide +kernel) rfl rfl (Nat.le_of_ble_eq_true rfl) (by decide +kernel) ?_
  show VC B M5_init 1 24 _ 12 [(0, .ref h0)] [] (t3 B) [(h0, .inr (5, [.ref q1, .int 0, .int 0])), (q1, .inl (gI B, 24, .inl (fun _ => 0)))] 1 24
  refine vc_aload_n (k := 0) (i := 0) (by decide +kernel) rfl rfl ?_
  refine vc_iconst (n := 0) (v := 0) (by decide +kernel) (by decide +kernel) ?_
  refine vc_put (index := 15) (ci := 5) (N := 3) (k := 1) (q0 := 0) (T := TX5) (ty := .int) fw5 tyX5_ok nmX5 rfl rfl (by decide) wc_49 (Or.inl rfl) (by decide +kernel) rfl rfl (Nat.le_of_ble_eq_true rfl) (by decide +kernel) ?_
  show VC B M5_init 1 24 _ 17 [(0, .ref h0)] [] (t3 B) [(h0, .inr (5, [.ref q1, .int 0, .int 0])), (q1, .inl (gI B, 24, .inl (fun _ => 0)))] 1 24
  refine vc_aload_n (k := 0) (i := 0) (by decide +kernel) rfl rfl ?_
  refine vc_iconst (n := (-1)) (v := (-1)) (by decide +kernel) (by decide +kernel) ?_
  refine vc_put (index := 19) (ci := 5) (N := 3) (k := 2) (q0 := 0) (T := TX5) (ty := .int) fw5 tyX5_ok nmX5 rfl rfl (by decide) wc_51 (Or.inl rfl) (by decide +kernel) rfl rfl (Nat.le_of_ble_eq_true rfl) (by decide +kernel) ?_
  show VC B M5_init 1 24 _ 22 [(0, .ref h0)] [] (t3 B) [(h0, .inr (5, [.ref q1, .int 0, .int (-1)])), (q1, .inl (gI B, 24, .inl (fun _ => 0)))] 1 24
  exact vc_vret (by decide +kernel) rfl (Nat.le_of_ble_eq_true rfl) (Nat.le_of_ble_eq_true rfl) ⟨rfl, rfl, q1, rfl⟩
def M2_init : MD := (yX2_init, cX2_init, 2, none, 1)
set_option maxRecDepth 100000 in
theorem k2_init {B : BG} {h0 pq : Nat} : VK B M2_init [.ref h0, .ref pq] [(h0, .inr (2, [.null, .null, .null, .int 0, .int 0, .null, .null, .int 0]))] 4 228 (fun r tys ws => r = none ∧ tys = t3 B ∧ ∃ q1 q2 q3 q4 : Nat, ws = [(h0, .inr (2, [.ref q1, .ref q2, .ref q3, .int 0, .int (-1), .ref q4, .ref pq, .int 0])), (q1, .inl (gI B, 6, .inl (fun _ => 0))), (q2, .inl (gI B, 6, .inl (fun _ => 0))), (q3, .inl (gI B, 6, .inl (fun _ => 0))), (q4, .inl (gI B, 210, .inl (fun _ => 0)))]) := by
  refine vk_of (by decide) (Nat.le_of_ble_eq_true rfl) ?_
  refine vc_aload_n (k := 0) (i := 0) (by decide +kernel) rfl rfl ?_
  refine vc_objInit (idx := 3) (by decide +kernel) wc_90 wc_objI wc_objC (by decide) (by decide) ?_
  refine vc_aload_n (k := 0) (i := 0) (by decide +kernel) rfl rfl ?_
  refine vc_bipush (n := 6) (v := 6) (by decide +kernel) (by decide +kernel) ?_
  refine vc_newa (atype := .int) (ty := .int) (cT := gI B) (t0 := 0) (N' := 6) (a0 := (6, .inl (fun _ => 0))) rfl wc_40 rfl (fun _ _ => Iff.rfl) (fun _ => rfl) (by decide) (by decide) (Nat.le_of_ble_eq_true rfl) (Nat.le_of_ble_eq_true rfl) (Nat.le_of_ble_eq_true rfl) (by decide +kernel) (fun q1 => ?_)
  show VC B M2_init 4 228 _ 9 [(0, .ref h0), (1, .ref pq)] [.ref q1, .ref h0] (t3 B) [(h0, .inr (2, [.null, .null, .null, .int 0, .int 0, .null, .null, .int 0])), (q1, .inl (gI B, 6, .inl (fun _ => 0)))] 1 6
  refine vc_put (index := 9) (ci := 2) (N := 8) (k := 0) (q0 := 0) (T := TX2) (ty := .array .int) fw2 tyX2_ok nmX2 rfl rfl (by decide) wc_92 (Or.inr ⟨rfl, rfl, rfl⟩) (by decide +kernel) rfl rfl (Nat.le_of_ble_eq_true rfl) (by decide +kernel) ?_
  show VC B M2_init 4 228 _ 12 [(0, .ref h0), (1, .ref pq)] [] (t3 B) [(h0, .inr (2, [.ref q1, .null, .null, .int 0, .int 0, .null, .null, .int 0])), (q1, .inl (gI B, 6, .inl (fun _ => 0)))] 1 6
  refine vc_aload_n (k := 0) (i := 0) (by decide +kernel) rfl rfl ?_
  refine vc_bipush (n := 6) (v := 6) (by decide +kernel) (by decide +kernel) ?_
  refine vc_newa (atype := .int) (ty := .int) (cT := gI B) (t0 := 0) (N' := 6) (a0 := (6, .inl (fun _ => 0))) rfl wc_40 rfl (fun _ _ => Iff.rfl) (fun _ => rfl) (by decide) (by decide) (Nat.le_of_ble_eq_true rfl) (Nat.le_of_ble_eq_true rfl) (Nat.le_of_ble_eq_true rfl) (by decide +kernel) (fun q2 => ?_)
  show VC B M2_init 4 228 _ 17 [(0, .ref h0), (1, .ref pq)] [.ref q2, .ref h0] (t3 B) [(h0, .inr (2, [.ref q1, .null, .null, .int 0, .int 0, .null, .null, .int 0])), (q1, .inl (gI B, 6, .inl (fun _ => 0))), (q2, .inl (gI B, 6, .inl (fun _ => 0)))] 2 12
  refine vc_put (index := 15) (ci := 2) (N := 8) (k := 1) (q0 := 0) (T := TX2) (ty := .array .int) fw2 tyX2_ok nmX2 rfl rfl (by decide) wc_94 (Or.inr ⟨rfl, rfl, rfl⟩) (by decide +kernel) rfl rfl (Nat.le_of_ble_eq_true rfl) (by decide +kernel) ?_
  show VC B M2_init 4 228 _ 20 [(0, .ref h0), (1, .ref pq)] [] (t3 B) [(h0, .inr (2, [.ref q1, .ref q2, .null, .int 0, .int 0, .null, .null, .int 0])), (q1, .inl (gI B, 6, .inl (fun _ => 0))), (q2, .inl (gI B, 6, .inl (fun _ => 0)))] 2 12
  refine vc_aload_n (k := 0) (i := 0) (by decide +kernel) rfl rfl ?_
  refine vc_bipush (n := 6) (v := 6) (by decide +kernel) (by decide +kernel) ?_
  refine vc_newa (atype := .int) (ty := .int) (cT := gI B) (t0 := 0) (N' := 6) (a0 := (6, .inl (fun _ => 0))) rfl wc_40 rfl (fun _ _ => Iff.rfl) (fun _ => rfl) (by decide) (by decide) (Nat.le_of_ble_eq_true rfl) (Nat.le_of_ble_eq_true rfl) (Nat.le_of_ble_eq_true rfl) (by decide +kernel) (fun q3 => ?_)
  show VC B M2_init 4 228 _ 25 [(0, .ref h0), (1, .ref pq)] [.ref q3, .ref h0] (t3 B) [(h0, .inr (2, [.ref q1, .ref q2, .null, .int 0, .int 0, .null, .null, .int 0])), (q1, .inl (gI B, 6, .inl (fun _ => 0))), (q2, .inl (gI B, 6, .inl (fun _ => 0))), (q3, .inl (gI B, 6, .inl (fun _ => 0)))] 3 18
  refine vc_put (index := 18) (ci := 2) (N := 8) (k := 2) (q0 := 0) (T := TX2) (ty := .array .int) fw2 tyX2_ok nmX2 rfl rfl (by decide) wc_96 (Or.inr ⟨rfl, rfl, rfl⟩) (by decide +kernel) rfl rfl (Nat.le_of_ble_eq_true rfl) (by decide +kernel) ?_
  show VC B M2_init 4 228 _ 28 [(0, .ref h0), (1, .ref pq)] [] (t3 B) [(h0, .inr (2, [.ref q1, .ref q2, .ref q3, .int 0, .int 0, .null, .null, .int 0])), (q1, .inl (gI B, 6, .inl (fun _ => 0))), (q2, .inl (gI B, 6, .inl (fun _ => 0))), (q3, .inl (gI B, 6, .inl (fun _ => 0)))] 3 18
  refine vc_aload_n (k := 0) (i := 0) (by decide +kernel) rfl rfl ?_
  refine vc_iconst (n := 0) (v := 0) (by decide +kernel) (by decide +kernel) ?_
  refine vc_put (index := 21) (ci := 2) (N := 8) (k := 3) (q0 := 0) (T := TX2) (ty := .int) fw2 tyX2_ok nmX2 rfl rfl (by decide) wc_98 (Or.inl rfl) (by decide +kernel) rfl rfl (Nat.le_of_ble_eq_true rfl) (by decide +kernel) ?_
  show VC B M2_init 4 228 _ 33 [(0, .ref h0), (1, .ref pq)] [] (t3 B) [(h0, .inr (2, [.ref q1, .ref q2, .ref q3, .int 0, .int 0, .null, .null, .int 0])), (q1, .inl (gI B, 6, .inl (fun _ => 0))), (q2, .inl (gI B, 6, .inl (fun _ => 0))), (q3, .inl (gI B, 6, .inl (fun _ => 0)))] 3 18
  refine vc_aload_n (k := 0) (i := 0) (by decide +kernel) rfl rfl ?_
  refine vc_iconst (n := (-1)) (v := (-1)) (by decide +kernel) (by decide +kernel) ?_
  refine vc_put (index := 25) (ci := 2) (N := 8) (k := 4) (q0 := 0) (T := TX2) (ty := .int) fw2 tyX2_ok nmX2 rfl rfl (by decide) wc_100 (Or.inl rfl) (by decide +kernel) rfl rfl (Nat.le_of_ble_eq_true rfl) (by decide +kernel) ?_
  show VC B M2_init 4 228 _ 38 [(0, .ref h0), (1, .ref pq)] [] (t3 B) [(h0, .inr (2, [.ref q1, .ref q2, .ref q3, .int 0, .int (-1), .null, .null, .int 0])), (q1, .inl (gI B, 6, .inl (fun _ => 0))), (q2, .inl (gI B, 6, .inl (fun _ => 0))), (q3, .inl (gI B, 6, .inl (fun _ => 0)))] 3 18
  refine vc_aload_n (k := 0) (i := 0) (by decide +kernel) rfl rfl ?_
  refine vc_gstN (index := 28) (by decide +kernel) (List.mem_of_getElem? (i := 1) rfl) ?_
  refine vc_bipush (n := 7) (v := 7) (by decide +kernel) (by decide +kernel) ?_
  refine vc_sald (show vp_in (nI 7) 8 from vp_in_nI (by decide) (by decide)) (by decide +kernel) ?_
  refine vc_newa (atype := .int) (ty := .int) (cT := gI B) (t0 := 0) (N' := 210) (a0 := (210, .inl (fun _ => 0))) rfl wc_40 rfl (fun _ _ => Iff.rfl) (fun _ => rfl) (by decide) (by decide) (Nat.le_of_ble_eq_true rfl) (Nat.le_of_ble_eq_true rfl) (Nat.le_of_ble_eq_true rfl) (by decide +kernel) (fun q4 => ?_)
  show VC B M2_init 4 228 _ 47 [(0, .ref h0), (1, .ref pq)] [.ref q4, .ref h0] (t3 B) [(h0, .inr (2, [.ref q1, .ref q2, .ref q3, .int 0, .int (-1), .null, .null, .int 0])), (q1, .inl (gI B, 6, .inl (fun _ => 0))), (q2, .inl (gI B, 6, .inl (fun _ => 0))), (q3, .inl (gI B, 6, .inl (fun _ => 0))), (q4, .inl (gI B, 210, .inl (fun _ => 0)))] 4 228
  refine vc_put (index := 31) (ci := 2) (N := 8) (k := 5) (q0 := 0) (T := TX2) (ty := .array .int) fw2 tyX2_ok nmX2 rfl rfl (by decide) wc_102 (Or.inr ⟨rfl, rfl, rfl⟩) (by decide +kernel) rfl rfl (Nat.le_of_ble_eq_true rfl) (by decide +kernel) ?_
  show VC B M2_init 4 228 _ 50 [(0, .ref h0), (1, .ref pq)] [] (t3 B) [(h0, .inr (2, [.ref q1, .ref q2, .ref q3, .int 0, .int (-1), .ref q4, .null, .int 0])), (q1, .inl (gI B, 6, .inl (fun _ => 0))), (q2, .inl (gI B, 6, .inl (fun _ => 0))), (q3, .inl (gI B, 6, .inl (fun _ => 0))), (q4, .inl (gI B, 210, .inl (fun _ => 0)))] 4 228
  refine vc_aload_n (k := 0) (i := 0) (by decide +kernel) rfl rfl ?_
  refine vc_iconst (n := 0) (v := 0) (by decide +kernel) (by decide +kernel) ?_
  refine vc_put (index := 34) (ci := 2) (N := 8) (k := 7) (q0 := 0) (T := TX2) (ty := .int) fw2 tyX2_ok nmX2 rfl rfl (by decide) wc_105 (Or.inl rfl) (by decide +kernel) rfl rfl (Nat.le_of_ble_eq_true rfl) (by decide +kernel) ?_
  show VC B M2_init 4 228 _ 55 [(0, .ref h0), (1, .ref pq)] [] (t3 B) [(h0, .inr (2, [.ref q1, .ref q2, .ref q3, .int 0, .int (-1), .ref q4, .null, .int 0])), (q1, .inl (gI B, 6, .inl (fun _ => 0))), (q2, .inl (gI B, 6, .inl (fun _ => 0))), (q3, .inl (gI B, 6, .inl (fun _ => 0))), (q4, .inl (gI B, 210, .inl (fun _ => 0)))] 4 228
  refine vc_aload_n (k := 0) (i := 0) (by decide +kernel) rfl rfl ?_
  refine vc_aload_n (k := 1) (i := 1) (by decide +kernel) rfl rfl ?_
  refine vc_put (index := 37) (ci := 2) (N := 8) (k := 6) (q0 := 0) (T := TX2) (ty := .object "DreamShares$Pools") fw2 tyX2_ok nmX2 rfl rfl (by decide) wc_104 (Or.inr ⟨rfl, rfl, rfl⟩) (by decide +kernel) rfl rfl (Nat.le_of_ble_eq_true rfl) (by decide +kernel) ?_
  show VC B M2_init 4 228 _ 60 [(0, .ref h0), (1, .ref pq)] [] (t3 B) [(h0, .inr (2, [.ref q1, .ref q2, .ref q3, .int 0, .int (-1), .ref q4, .ref pq, .int 0])), (q1, .inl (gI B, 6, .inl (fun _ => 0))), (q2, .inl (gI B, 6, .inl (fun _ => 0))), (q3, .inl (gI B, 6, .inl (fun _ => 0))), (q4, .inl (gI B, 210, .inl (fun _ => 0)))] 4 228
  exact vc_vret (by decide +kernel) rfl (Nat.le_of_ble_eq_true rfl) (Nat.le_of_ble_eq_true rfl) ⟨rfl, rfl, q1, q2, q3, q4, rfl⟩
def M0_init : MD := (yX0_init, cX0_init, 2, none, 1)
set_option maxRecDepth 100000 in
theorem k0_init {B : BG} {h0 pq : Nat} : VK B M0_init [.ref h0, .ref pq] [(h0, .inr (0, [.null, .null, .null]))] 2 214 (fun r tys ws => r = none ∧ tys = t3 B ∧ ∃ q1 q2 : Nat, ws = [(h0, .inr (0, [.ref q1, .ref q2, .ref pq])), (q1, .inl (gJ B, 210, .inr (.inl (fun _ => 0)))), (q2, .inl (gI B, 4, .inl (fun _ => 0)))]) := by
  refine vk_of (by decide) (Nat.le_of_ble_eq_true rfl) ?_
  refine vc_aload_n (k := 0) (i := 0) (by decide +kernel) rfl rfl ?_
  refine vc_objInit (idx := 3) (by decide +kernel) wc_128 wc_objI wc_objC (by decide) (by decide) ?_
  refine vc_aload_n (k := 0) (i := 0) (by decide +kernel) rfl rfl ?_
  refine vc_gstN (index := 9) (by decide +kernel) (List.mem_of_getElem? (i := 2) rfl) ?_
  refine vc_bipush (n := 7) (v := 7) (by decide +kernel) (by decide +kernel) ?_
  refine vc_sald (show vp_in (nI 7) 8 from vp_in_nI (by decide) (by decide)) (by decide +kernel) ?_
  refine vc_newa (atype := .long) (ty := .long) (cT := gJ B) (t0 := 1) (N' := 210) (a0 := (210, .inr (.inl (fun _ => 0)))) rfl wc_142 rfl (fun _ _ => Iff.rfl) (fun _ => rfl) (by decide) (by decide) (Nat.le_of_ble_eq_true rfl) (Nat.le_of_ble_eq_true rfl) (Nat.le_of_ble_eq_true rfl) (by decide +kernel) (fun q1 => ?_)
  show VC B M0_init 2 214 _ 13 [(0, .ref h0), (1, .ref pq)] [.ref q1, .ref h0] (t3 B) [(h0, .inr (0, [.null, .null, .null])), (q1, .inl (gJ B, 210, .inr (.inl (fun _ => 0))))] 1 210
  refine vc_put (index := 13) (ci := 0) (N := 3) (k := 0) (q0 := 0) (T := TX0) (ty := .array .long) fw0 tyX0_ok nmX0 rfl rfl (by decide) wc_130 (Or.inr ⟨rfl, rfl, rfl⟩) (by decide +kernel) rfl rfl (Nat.le_of_ble_eq_true rfl) (by decide +kernel) ?_
  show VC B M0_init 2 214 _ 16 [(0, .ref h0), (1, .ref pq)] [] (t3 B) [(h0, .inr (0, [.ref q1, .null, .null])), (q1, .inl (gJ B, 210, .inr (.inl (fun _ => 0))))] 1 210
  refine vc_aload_n (k := 0) (i := 0) (by decide +kernel) rfl rfl ?_
  refine vc_iconst (n := 4) (v := 4) (by decide +kernel) (by decide +kernel) ?_
  refine vc_newa (atype := .int) (ty := .int) (cT := gI B) (t0 := 0) (N' := 4) (a0 := (4, .inl (fun _ => 0))) rfl wc_40 rfl (fun _ _ => Iff.rfl) (fun _ => rfl) (by decide) (by decide) (Nat.le_of_ble_eq_true rfl) (Nat.le_of_ble_eq_true rfl) (Nat.le_of_ble_eq_true rfl) (by decide +kernel) (fun q2 => ?_)
  show VC B M0_init 2 214 _ 20 [(0, .ref h0), (1, .ref pq)] [.ref q2, .ref h0] (t3 B) [(h0, .inr (0, [.ref q1, .null, .null])), (q1, .inl (gJ B, 210, .inr (.inl (fun _ => 0)))), (q2, .inl (gI B, 4, .inl (fun _ => 0)))] 2 214
  refine vc_put (index := 19) (ci := 0) (N := 3) (k := 1) (q0 := 0) (T := TX0) (ty := .array .int) fw0 tyX0_ok nmX0 rfl rfl (by decide) wc_132 (Or.inr ⟨rfl, rfl, rfl⟩) (by decide +kernel) rfl rfl (Nat.le_of_ble_eq_true rfl) (by decide +kernel) ?_
  show VC B M0_init 2 214 _ 23 [(0, .ref h0), (1, .ref pq)] [] (t3 B) [(h0, .inr (0, [.ref q1, .ref q2, .null])), (q1, .inl (gJ B, 210, .inr (.inl (fun _ => 0)))), (q2, .inl (gI B, 4, .inl (fun _ => 0)))] 2 214
  refine vc_aload_n (k := 0) (i := 0) (by decide +kernel) rfl rfl ?_
  refine vc_aload_n (k := 1) (i := 1) (by decide +kernel) rfl rfl ?_
  refine vc_put (index := 22) (ci := 0) (N := 3) (k := 2) (q0 := 0) (T := TX0) (ty := .object "DreamShares$Pools") fw0 tyX0_ok nmX0 rfl rfl (by decide) wc_134 (Or.inr ⟨rfl, rfl, rfl⟩) (by decide +kernel) rfl rfl (Nat.le_of_ble_eq_true rfl) (by decide +kernel) ?_
  show VC B M0_init 2 214 _ 28 [(0, .ref h0), (1, .ref pq)] [] (t3 B) [(h0, .inr (0, [.ref q1, .ref q2, .ref pq])), (q1, .inl (gJ B, 210, .inr (.inl (fun _ => 0)))), (q2, .inl (gI B, 4, .inl (fun _ => 0)))] 2 214
  exact vc_vret (by decide +kernel) rfl (Nat.le_of_ble_eq_true rfl) (Nat.le_of_ble_eq_true rfl) ⟨rfl, rfl, q1, q2, rfl⟩
def M1_init : MD := (yX1_init, cX1_init, 1, none, 1)
set_option maxRecDepth 100000 in
theorem k1_init {B : BG} {h0 : Nat} : VK B M1_init [.ref h0] [(h0, .inr (1, [.long 0, .long 0]))] 0 0 (fun r tys ws => r = none ∧ tys = t3 B ∧ ws = [(h0, .inr (1, [.long 0, .long 1]))]) := by
  refine vk_of (by decide) (Nat.le_of_ble_eq_true rfl) ?_
  refine vc_aload_n (k := 0) (i := 0) (by decide +kernel) rfl rfl ?_
  refine vc_objInit (idx := 1) (by decide +kernel) wc_148 wc_objI wc_objC (by decide) (by decide) ?_
  refine vc_aload_n (k := 0) (i := 0) (by decide +kernel) rfl rfl ?_
  refine vc_lconst (n := 0) (v := 0) (by decide +kernel) (by decide +kernel) ?_
  refine vc_put (index := 7) (ci := 1) (N := 2) (k := 0) (q0 := 0) (T := TX1) (ty := .long) fw1 tyX1_ok nmX1 rfl rfl (by decide) wc_149 (Or.inl rfl) (by decide +kernel) rfl rfl (Nat.le_of_ble_eq_true rfl) (by decide +kernel) ?_
  show VC B M1_init 0 0 _ 9 [(0, .ref h0)] [] (t3 B) [(h0, .inr (1, [.long 0, .long 0]))] 0 0
  refine vc_aload_n (k := 0) (i := 0) (by decide +kernel) rfl rfl ?_
  refine vc_lconst (n := 1) (v := 1) (by decide +kernel) (by decide +kernel) ?_
  refine vc_put (index := 13) (ci := 1) (N := 2) (k := 1) (q0 := 0) (T := TX1) (ty := .long) fw1 tyX1_ok nmX1 rfl rfl (by decide) wc_151 (Or.inl rfl) (by decide +kernel) rfl rfl (Nat.le_of_ble_eq_true rfl) (by decide +kernel) ?_
  show VC B M1_init 0 0 _ 14 [(0, .ref h0)] [] (t3 B) [(h0, .inr (1, [.long 0, .long 1]))] 0 0
  exact vc_vret (by decide +kernel) rfl (Nat.le_of_ble_eq_true rfl) (Nat.le_of_ble_eq_true rfl) ⟨rfl, rfl, rfl⟩
def M3_init : MD := (yX3_init, cX3_init, 1, none, 1)
set_option maxRecDepth 100000 in
theorem k3_init {B : BG} {h0 : Nat} : VK B M3_init [.ref h0] [(h0, .inr (3, [.int 0]))] 0 0 (fun r tys ws => r = none ∧ tys = t3 B ∧ ws = [(h0, .inr (3, [.int 0]))]) := by
  refine vk_of (by decide) (Nat.le_of_ble_eq_true rfl) ?_
  refine vc_aload_n (k := 0) (i := 0) (by decide +kernel) rfl rfl ?_
  refine vc_objInit (idx := 1) (by decide +kernel) wc_163 wc_objI wc_objC (by decide) (by decide) ?_
  refine vc_aload_n (k := 0) (i := 0) (by decide +kernel) rfl rfl ?_
  refine vc_iconst (n := 0) (v := 0) (by decide +kernel) (by decide +kernel) ?_
  refine vc_put (index := 7) (ci := 3) (N := 1) (k := 0) (q0 := 0) (T := TX3) (ty := .int) fw3 tyX3_ok nmX3 rfl rfl (by decide) wc_164 (Or.inl rfl) (by decide +kernel) rfl rfl (Nat.le_of_ble_eq_true rfl) (by decide +kernel) ?_
  show VC B M3_init 0 0 _ 9 [(0, .ref h0)] [] (t3 B) [(h0, .inr (3, [.int 0]))] 0 0
  exact vc_vret (by decide +kernel) rfl (Nat.le_of_ble_eq_true rfl) (Nat.le_of_ble_eq_true rfl) ⟨rfl, rfl, rfl⟩
def M6_init : MD := (yX6_init, cX6_init, 1, none, 1)
set_option maxRecDepth 100000 in
theorem k6_init {B : BG} {h0 : Nat} : VK B M6_init [.ref h0] [(h0, .inr (6, [.null, .int 0, .int 0, .int 0]))] 1 48 (fun r tys ws => r = none ∧ tys = t3 B ∧ ∃ q1 : Nat, ws = [(h0, .inr (6, [.ref q1, .int 0, .int 0, .int 1])), (q1, .inl (gI B, 48, .inl (fun _ => 0)))]) := by
  refine vk_of (by decide) (Nat.le_of_ble_eq_true rfl) ?_
  refine vc_aload_n (k := 0) (i := 0) (by decide +kernel) rfl rfl ?_
  refine vc_objInit (idx := 3) (by decide +kernel) wc_175 wc_objI wc_objC (by decide) (by decide) ?_
  refine vc_aload_n (k := 0) (i := 0) (by decide +kernel) rfl rfl ?_
  refine vc_bipush (n := 48) (v := 48) (by decide +kernel) (by decide +kernel) ?_
  refine vc_newa (atype := .int) (ty := .int) (cT := gI B) (t0 := 0) (N' := 48) (a0 := (48, .inl (fun _ => 0))) rfl wc_40 rfl (fun _ _ => Iff.rfl) (fun _ => rfl) (by decide) (by decide) (Nat.le_of_ble_eq_true rfl) (Nat.le_of_ble_eq_true rfl) (Nat.le_of_ble_eq_true rfl) (by decide +kernel) (fun q1 => ?_)
  show VC B M6_init 1 48 _ 9 [(0, .ref h0)] [.ref q1, .ref h0] (t3 B) [(h0, .inr (6, [.null, .int 0, .int 0, .int 0])), (q1, .inl (gI B, 48, .inl (fun _ => 0)))] 1 48
  refine vc_put (index := 9) (ci := 6) (N := 4) (k := 0) (q0 := 0) (T := TX6) (ty := .array .int) fw6 tyX6_ok nmX6 rfl rfl (by decide) wc_176 (Or.inr ⟨rfl, rfl, rfl⟩) (by decide +kernel) rfl rfl (Nat.le_of_ble_eq_true rfl) (by decide +kernel) ?_
  show VC B M6_init 1 48 _ 12 [(0, .ref h0)] [] (t3 B) [(h0, .inr (6, [.ref q1, .int 0, .int 0, .int 0])), (q1, .inl (gI B, 48, .inl (fun _ => 0)))] 1 48
  refine vc_aload_n (k := 0) (i := 0) (by decide +kernel) rfl rfl ?_
  refine vc_iconst (n := 0) (v := 0) (by decide +kernel) (by decide +kernel) ?_
  refine vc_put (index := 15) (ci := 6) (N := 4) (k := 1) (q0 := 0) (T := TX6) (ty := .int) fw6 tyX6_ok nmX6 rfl rfl (by decide) wc_178 (Or.inl rfl) (by decide +kernel) rfl rfl (Nat.le_of_ble_eq_true rfl) (by decide +kernel) ?_
  show VC B M6_init 1 48 _ 17 [(0, .ref h0)] [] (t3 B) [(h0, .inr (6, [.ref q1, .int 0, .int 0, .int 0])), (q1, .inl (gI B, 48, .inl (fun _ => 0)))] 1 48
  refine vc_aload_n (k := 0) (i := 0) (by decide +kernel) rfl rfl ?_
  refine vc_iconst (n := 0) (v := 0) (by decide +kernel) (by decide +kernel) ?_
  refine vc_put (index := 19) (ci := 6) (N := 4) (k := 2) (q0 := 0) (T := TX6) (ty := .int) fw6 tyX6_ok nmX6 rfl rfl (by decide) wc_180 (Or.inl rfl) (by decide +kernel) rfl rfl (Nat.le_of_ble_eq_true rfl) (by decide +kernel) ?_
  show VC B M6_init 1 48 _ 22 [(0, .ref h0)] [] (t3 B) [(h0, .inr (6, [.ref q1, .int 0, .int 0, .int 0])), (q1, .inl (gI B, 48, .inl (fun _ => 0)))] 1 48
  refine vc_aload_n (k := 0) (i := 0) (by decide +kernel) rfl rfl ?_
  refine vc_iconst (n := 1) (v := 1) (by decide +kernel) (by decide +kernel) ?_
  refine vc_put (index := 22) (ci := 6) (N := 4) (k := 3) (q0 := 0) (T := TX6) (ty := .boolean) fw6 tyX6_ok nmX6 rfl rfl (by decide) wc_182 (Or.inl rfl) (by decide +kernel) rfl rfl (Nat.le_of_ble_eq_true rfl) (by decide +kernel) ?_
  show VC B M6_init 1 48 _ 27 [(0, .ref h0)] [] (t3 B) [(h0, .inr (6, [.ref q1, .int 0, .int 0, .int 1])), (q1, .inl (gI B, 48, .inl (fun _ => 0)))] 1 48
  exact vc_vret (by decide +kernel) rfl (Nat.le_of_ble_eq_true rfl) (Nat.le_of_ble_eq_true rfl) ⟨rfl, rfl, q1, rfl⟩
