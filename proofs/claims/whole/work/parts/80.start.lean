/-! ===== the law from its entry (printed by run79.py) ===== -/
theorem we_14 : Cond.classLink "DreamSharesLaw" 7 "DreamShares" ∈ lw_tbl := List.mem_of_getElem? (i := 105) (by decide +kernel)
theorem we_15 : Cond.instantiable "DreamShares" 18 ∈ lw_tbl := List.mem_of_getElem? (i := 106) (by decide +kernel)
theorem we_16 : Cond.methodLink "DreamSharesLaw" 9 ⟨"DreamShares", "<init>", "()V"⟩ ∈ lw_tbl := List.mem_of_getElem? (i := 107) (by decide +kernel)
theorem we_17 : Cond.instanceMethod ⟨"DreamShares", "<init>", "()V"⟩ ∈ lw_tbl := List.mem_of_getElem? (i := 108) (by decide +kernel)
set_option maxRecDepth 20000 in
theorem we_18 : Cond.code yX8_init cX8_init 2 none ∈ lw_tbl := List.mem_of_getElem? (i := 109) rfl
theorem we_24 : Cond.methodLinkNest "DreamShares" 9 ⟨"DreamShares$Text", "<init>", "()V"⟩ "DreamShares" ∈ lw_tbl := List.mem_of_getElem? (i := 115) (by decide +kernel)
theorem we_43 : Cond.methodLinkNest "DreamShares" 21 ⟨"DreamShares$Roster", "<init>", "()V"⟩ "DreamShares" ∈ lw_tbl := List.mem_of_getElem? (i := 134) (by decide +kernel)
theorem we_66 : Cond.fieldLinkNest "DreamShares$Pools" 9 "DreamShares" "START" "[I" "DreamShares" ∈ lw_tbl := List.mem_of_getElem? (i := 157) (by decide +kernel)
theorem we_67 : Cond.laysStatic "DreamShares" "START" "[I" ∈ lw_tbl := List.mem_of_getElem? (i := 158) (by decide +kernel)
theorem we_91 : Cond.fieldLinkNest "DreamShares$Kitchen" 28 "DreamShares" "START" "[I" "DreamShares" ∈ lw_tbl := List.mem_of_getElem? (i := 182) (by decide +kernel)
theorem we_129 : Cond.fieldLinkNest "DreamShares$Fold" 9 "DreamShares" "START" "[I" "DreamShares" ∈ lw_tbl := List.mem_of_getElem? (i := 220) (by decide +kernel)
theorem we_145 : Cond.methodLinkNest "DreamShares" 51 ⟨"DreamShares$Fraction", "<init>", "()V"⟩ "DreamShares" ∈ lw_tbl := List.mem_of_getElem? (i := 236) (by decide +kernel)
theorem we_160 : Cond.methodLinkNest "DreamShares" 58 ⟨"DreamShares$Lots", "<init>", "()V"⟩ "DreamShares" ∈ lw_tbl := List.mem_of_getElem? (i := 251) (by decide +kernel)
theorem we_170 : Cond.arrayOver (FieldType.object "DreamShares$Sheet") ∈ lw_tbl := List.mem_of_getElem? (i := 261) (by decide +kernel)
theorem we_172 : Cond.methodLinkNest "DreamShares" 99 ⟨"DreamShares$Sheet", "<init>", "()V"⟩ "DreamShares" ∈ lw_tbl := List.mem_of_getElem? (i := 263) (by decide +kernel)
theorem we_274 : Cond.methodLinkNest "DreamShares$Roster" 34 ⟨"DreamShares", "isFigure", "(II)Z"⟩ "DreamShares" ∈ lw_tbl := List.mem_of_getElem? (i := 365) (by decide +kernel)
theorem we_285 : Cond.methodLinkNest "DreamShares$Kitchen" 56 ⟨"DreamShares", "kindOfLetter", "(I)I"⟩ "DreamShares" ∈ lw_tbl := List.mem_of_getElem? (i := 376) (by decide +kernel)
theorem we_292 : Cond.methodLinkNest "DreamShares$Kitchen" 63 ⟨"DreamShares", "isFigure", "(II)Z"⟩ "DreamShares" ∈ lw_tbl := List.mem_of_getElem? (i := 383) (by decide +kernel)
theorem we_512 : Cond.laysStatic "DreamShares" "FACTORIAL" "[J" ∈ lw_tbl := List.mem_of_getElem? (i := 603) (by decide +kernel)
theorem we_730 : Cond.classLink "DreamSharesLaw" 10 "DreamSharesModel" ∈ lw_tbl := List.mem_of_getElem? (i := 821) (by decide +kernel)
theorem we_731 : Cond.instantiable "DreamSharesModel" 31 ∈ lw_tbl := List.mem_of_getElem? (i := 822) (by decide +kernel)
theorem we_732 : Cond.methodLink "DreamSharesLaw" 12 ⟨"DreamSharesModel", "<init>", "()V"⟩ ∈ lw_tbl := List.mem_of_getElem? (i := 823) (by decide +kernel)
theorem we_733 : Cond.instanceMethod ⟨"DreamSharesModel", "<init>", "()V"⟩ ∈ lw_tbl := List.mem_of_getElem? (i := 824) (by decide +kernel)
set_option maxRecDepth 20000 in
theorem we_734 : Cond.code yX9_init cX9_init 2 none ∈ lw_tbl := List.mem_of_getElem? (i := 825) rfl
def lwK : Kr := fun r _ => r = some (.int 1)
set_option maxHeartbeats 4000000 in
set_option maxRecDepth 100000 in
theorem lw_known {s : State} {args : Array Value} (hts : ∀ w ∈ lw_tbl, w.before args s = true) : ∃ (dC : Nat → ClassId) (dI : Nat → Nat → Nat), ∀ (k : Nat) (q : vw_C), vwCl[k]? = some q → u_Kn s q.1 q.2.1 q.2.2 (dC k) (dI k) := by
  have htt : ∀ w ∈ tt, w.before args s = true := fun w hw => hts w (List.mem_filter.mp hw).1
  obtain ⟨c0, i0, k0⟩ := u_known (C := RX0) (T := TX0) (N := 3) (n := 3) htt fw0 (hts _ wc_124)
  obtain ⟨c1, i1, k1⟩ := u_known (C := RX1) (T := TX1) (N := 2) (n := 2) htt fw1 (hts _ wc_144)
  obtain ⟨c2, i2, k2⟩ := u_known (C := RX2) (T := TX2) (N := 8) (n := 8) htt fw2 (hts _ wc_86)
  obtain ⟨c3, i3, k3⟩ := u_known (C := RX3) (T := TX3) (N := 1) (n := 1) htt fw3 (hts _ wc_159)
  obtain ⟨c4, i4, k4⟩ := u_known (C := RX4) (T := TX4) (N := 2) (n := 2) htt fw4 (hts _ wc_61)
  obtain ⟨c5, i5, k5⟩ := u_known (C := RX5) (T := TX5) (N := 3) (n := 3) htt fw5 (hts _ wc_42)
  obtain ⟨c6, i6, k6⟩ := u_known (C := RX6) (T := TX6) (N := 4) (n := 4) htt fw6 (hts _ wc_171)
  obtain ⟨c7, i7, k7⟩ := u_known (C := RX7) (T := TX7) (N := 2) (n := 2) htt fw7 (hts _ wc_23)
  obtain ⟨c8, i8, k8⟩ := u_known (C := RX8) (T := TX8) (N := 18) (n := 18) htt fw8 (hts _ we_15)
  obtain ⟨c9, i9, k9⟩ := u_known (C := RX9) (T := TX9) (N := 31) (n := 31) htt fw9 (hts _ we_731)
  refine ⟨fun k => [c0, c1, c2, c3, c4, c5, c6, c7, c8, c9].getD k c0, fun k => [i0, i1, i2, i3, i4, i5, i6, i7, i8, i9].getD k i0, ?_⟩
  intro k q hq
  match k, hq with
    | 0, hq => cases hq; exact k0
    | 1, hq => cases hq; exact k1
    | 2, hq => cases hq; exact k2
    | 3, hq => cases hq; exact k3
    | 4, hq => cases hq; exact k4
    | 5, hq => cases hq; exact k5
    | 6, hq => cases hq; exact k6
    | 7, hq => cases hq; exact k7
    | 8, hq => cases hq; exact k8
    | 9, hq => cases hq; exact k9
    | k + 10, hq => simp [vwCl] at hq
/-- what the tables and the start say, all at once -/
theorem lw_world {s : State} {b : Nat} (hts : ∀ w ∈ lw_tbl, w.before #[Value.ref b] s = true) (hgv : (Jvm.Cond.and given_1 narrow_1).before #[Value.ref b] s = true) : ∃ (B : BG) (fa : Nat), KB B (fun q : Nat => s.heap.size ≤ q) s ∧ va_Z "DreamShares" "FACTORIAL" "[J" (.ref fa) (fun q : Nat => s.heap.size ≤ q) s s.heap ∧ va_T .long fa 7 (fun j => .long (factf j)) (fun q : Nat => s.heap.size ≤ q) s s.heap := by
  obtain ⟨dC, dI, hKc⟩ := lw_known hts
  have hs := flat_of_before _ hgv
  have hA0 : ∀ a : Nat, a < s.heap.size → ¬ (fun q : Nat => s.heap.size ≤ q) a := fun a h => Nat.not_le.mpr h
  obtain ⟨cI, kcI, mcI, fcI, gcI, ecI⟩ := Cond.arrayClass_spec (hts _ wc_40)
  have ocI : ArrOfT s cI .int := fun n z => ⟨fun k h => (by cases h), kcI, gcI, mcI, ecI⟩
  obtain ⟨cJ, kcJ, mcJ, fcJ, gcJ, ecJ⟩ := Cond.arrayClass_spec (hts _ wc_142)
  have ocJ : ArrOfT s cJ .long := fun n z => ⟨fun k h => (by cases h), kcJ, gcJ, mcJ, ecJ⟩
  obtain ⟨cZ, kcZ, mcZ, fcZ, gcZ, ecZ⟩ := Cond.arrayClass_spec (hts _ wc_830)
  have ocZ : ArrOfT s cZ .boolean := fun n z => ⟨fun k h => (by cases h), kcZ, gcZ, mcZ, ecZ⟩
  obtain ⟨st, hst, hT⟩ := va_Tof (tm := (.static "DreamShares" "START" "[I")) (ty := .int) (N := 8) (f := fun j => .int (startf j)) (A := fun q : Nat => s.heap.size ≤ q) (by decide) (hs (.arrayOf (.static "DreamShares" "START" "[I") .int) (by decide +kernel)) (va_eqt (hs (.eq (.length (.static "DreamShares" "START" "[I")) (.int 8)) (by decide +kernel))) (fun j hj => by
    rcases (show j = 0 ∨ j = 1 ∨ j = 2 ∨ j = 3 ∨ j = 4 ∨ j = 5 ∨ j = 6 ∨ j = 7 by omega) with rfl | rfl | rfl | rfl | rfl | rfl | rfl | rfl
    · exact va_eqt (hs (.eq (.elem (.static "DreamShares" "START" "[I") (.int 0)) (.int 0)) (by decide +kernel))
    · exact va_eqt (hs (.eq (.elem (.static "DreamShares" "START" "[I") (.int 1)) (.int 1)) (by decide +kernel))
    · exact va_eqt (hs (.eq (.elem (.static "DreamShares" "START" "[I") (.int 2)) (.int 5)) (by decide +kernel))
    · exact va_eqt (hs (.eq (.elem (.static "DreamShares" "START" "[I") (.int 3)) (.int 15)) (by decide +kernel))
    · exact va_eqt (hs (.eq (.elem (.static "DreamShares" "START" "[I") (.int 4)) (.int 35)) (by decide +kernel))
    · exact va_eqt (hs (.eq (.elem (.static "DreamShares" "START" "[I") (.int 5)) (.int 70)) (by decide +kernel))
    · exact va_eqt (hs (.eq (.elem (.static "DreamShares" "START" "[I") (.int 6)) (.int 126)) (by decide +kernel))
    · exact va_eqt (hs (.eq (.elem (.static "DreamShares" "START" "[I") (.int 7)) (.int 210)) (by decide +kernel))
    ) hA0
  obtain ⟨fa, hfa, hTf⟩ := va_Tof (tm := (.static "DreamShares" "FACTORIAL" "[J")) (ty := .long) (N := 7) (f := fun j => .long (factf j)) (A := fun q : Nat => s.heap.size ≤ q) (by decide) (hs (.arrayOf (.static "DreamShares" "FACTORIAL" "[J") .long) (by decide +kernel)) (va_eqt (hs (.eq (.length (.static "DreamShares" "FACTORIAL" "[J")) (.int 7)) (by decide +kernel))) (fun j hj => by
    rcases (show j = 0 ∨ j = 1 ∨ j = 2 ∨ j = 3 ∨ j = 4 ∨ j = 5 ∨ j = 6 by omega) with rfl | rfl | rfl | rfl | rfl | rfl | rfl
    · exact va_eqtl (hs (.eq (.elem (.static "DreamShares" "FACTORIAL" "[J") (.int 0)) (.long 1)) (by decide +kernel))
    · exact va_eqtl (hs (.eq (.elem (.static "DreamShares" "FACTORIAL" "[J") (.int 1)) (.long 1)) (by decide +kernel))
    · exact va_eqtl (hs (.eq (.elem (.static "DreamShares" "FACTORIAL" "[J") (.int 2)) (.long 2)) (by decide +kernel))
    · exact va_eqtl (hs (.eq (.elem (.static "DreamShares" "FACTORIAL" "[J") (.int 3)) (.long 6)) (by decide +kernel))
    · exact va_eqtl (hs (.eq (.elem (.static "DreamShares" "FACTORIAL" "[J") (.int 4)) (.long 24)) (by decide +kernel))
    · exact va_eqtl (hs (.eq (.elem (.static "DreamShares" "FACTORIAL" "[J") (.int 5)) (.long 120)) (by decide +kernel))
    · exact va_eqtl (hs (.eq (.elem (.static "DreamShares" "FACTORIAL" "[J") (.int 6)) (.long 720)) (by decide +kernel))
    ) hA0
  have hini := hts _ wd_1
  have hZ := va_Zof (A := fun q : Nat => s.heap.size ≤ q) (hts _ we_67) hini hst hA0
  have hZf := va_Zof (A := fun q : Nat => s.heap.size ≤ q) (hts _ we_512) hini hfa hA0
  refine ⟨((dC, dI), cI, cJ, cZ, st), fa, ⟨⟨hKc, ?_⟩, hZ, hT, ?_, ?_, va_AO.of (hts _ we_170)⟩, hZf, hTf⟩
  · intro k q hq
    match k, hq with
    | 0, hq => cases hq; exact ⟨ocI, fcI⟩
    | 1, hq => cases hq; exact ⟨ocJ, fcJ⟩
    | 2, hq => cases hq; exact ⟨ocZ, fcZ⟩
    | k + 3, hq => simp [t3] at hq
  · intro w hw
    simp only [nestL, List.mem_cons, List.not_mem_nil, or_false] at hw
    rcases hw with rfl | rfl | rfl | rfl | rfl | rfl
    · exact va_Nw.of rfl (hts _ we_66)
    · exact va_Nw.of rfl (hts _ we_91)
    · exact va_Nw.of rfl (hts _ we_129)
    · exact va_Nw.of rfl (hts _ we_274)
    · exact va_Nw.of rfl (hts _ we_285)
    · exact va_Nw.of rfl (hts _ we_292)
  · intro w hw
    simp only [nestI, List.mem_cons, List.not_mem_nil, or_false] at hw
    rcases hw with rfl | rfl | rfl | rfl | rfl
    · exact va_Nw.of rfl (hts _ we_24)
    · exact va_Nw.of rfl (hts _ we_43)
    · exact va_Nw.of rfl (hts _ we_145)
    · exact va_Nw.of rfl (hts _ we_160)
    · exact va_Nw.of rfl (hts _ we_172)
set_option maxHeartbeats 4000000 in
set_option maxRecDepth 100000 in
theorem whole_start {p : Program} {e : Env} {s : State} {m : MethodId} {below : List Frame} {meth : Method} {c : Code} (l : Launch) (hflags : l.flags = flags0) {b L : Nat} {xs : Nat → Int32} (hL : L ≤ 3072) (C0 : lw_At p s m meth c b L xs) : W p l e room_1 s m #[Value.ref b] below meth c s.heap [] 0 0 (lw_Z below #[Value.ref b] s) (entryFrame m ([Value.ref b] : List Value).toArray 4) := by
  obtain ⟨hx, hb, hr, hml, hown, hts, hX, hbl, hlocks, hgv⟩ := C0
  have htt : ∀ w ∈ tt, w.before #[Value.ref b] s = true := fun w hw => hts w (List.mem_filter.mp hw).1
  obtain ⟨B, fa, hKB, hZf, hTf⟩ := lw_world hts hgv
  have hA : ∀ q : Nat, s.heap.size ≤ q → (fun q : Nat => s.heap.size ≤ q) q := fun _ h => h
  have hbA : ¬ (fun q : Nat => s.heap.size ≤ q) b := Nat.not_le.mpr hbl
  have hS : va_S (fun q : Nat => s.heap.size ≤ q) s.heap s.heap [] := va_S.rf
  have hK : va_K (gD B) vwCl (t3 B) s := hKB.1
  have hP : va_P (gD B) vwCl [] s.heap := fun k q h => by simp at h
  have hD : va_D (fun q : Nat => s.heap.size ≤ q) [] := ⟨fun i j p q h => by simp at h, fun k q h => by simp at h⟩
  have hl := lv_entry ([.ref b]) (n := 4) (Nat.le_of_ble_eq_true rfl)
  rw [lg_entry_eq]
  generalize (lg_sl ([.ref b]) ++ List.replicate (4 - (lg_sl ([.ref b])).length) Slot.unset).toArray = lv at hl ⊢
  have hl : lv_has lv 4 [(0, .ref b)] := hl
  refine va_new (ci := 8) (fs := [.null, .null, .null, .null, .null, .null, .null, .null, .null, .null, .null, .null, .null, .null, .null, .int 0, .int 0, .int 0]) (C := RX8) (T := TX8) (N := 18) (own := RL) hx hb htt fw8 tyX8 tyX8_ok hown (hts _ we_14) (hts _ we_15) (hts _ wd_1) hK hP hD hS hA rfl (fun j hj => by rcases (show j = 0 ∨ j = 1 ∨ j = 2 ∨ j = 3 ∨ j = 4 ∨ j = 5 ∨ j = 6 ∨ j = 7 ∨ j = 8 ∨ j = 9 ∨ j = 10 ∨ j = 11 ∨ j = 12 ∨ j = 13 ∨ j = 14 ∨ j = 15 ∨ j = 16 ∨ j = 17 by omega) with rfl | rfl | rfl | rfl | rfl | rfl | rfl | rfl | rfl | rfl | rfl | rfl | rfl | rfl | rfl | rfl | rfl | rfl <;> rfl) (Nat.le_of_ble_eq_true rfl) (Nat.le_of_ble_eq_true rfl) (by decide +kernel) (fun h0 H1 hP hD hS => ?_)
  refine lv_dup hx hb (by decide +kernel) rfl ?_
  refine fx_invI (M := ML) (M' := M8_init) (tys := t3 B) (ws := [(h0, .inr (8, [.null, .null, .null, .null, .null, .null, .null, .null, .null, .null, .null, .null, .null, .null, .null, .int 0, .int 0, .int 0]))]) (wc := [(h0, .inr (8, [.null, .null, .null, .null, .null, .null, .null, .null, .null, .null, .null, .null, .null, .null, .null, .int 0, .int 0, .int 0]))]) (wr := []) (isC := [0]) (isR := []) (rest := [.ref h0]) (ls := [(0, .ref b)]) hx hb hml hown htt hKB hA ⟨Nat.le_of_ble_eq_true rfl, Nat.le_of_ble_eq_true rfl⟩ ⟨Nat.le_of_ble_eq_true rfl, Nat.le_of_ble_eq_true rfl⟩ k8_init (by decide +kernel) we_16 we_17 wd_1 we_18 rfl rfl (by decide +kernel) (by decide +kernel) (by show 1 + 0 ≤ 8; decide) rfl rfl rfl rfl (by decide +kernel) hK hP hD hS hl (fun r tys1 ws1 H2 locs2 hk hK hP hD hS => ?_)
  obtain ⟨rfl, q1, q2, q3, q4, q5, q6, q7, q8, q9, q10, q11, q12, q13, q14, q15, q16, q17, q18, q19, q20, q21, q22, q23, q24, q25, q26, q27, q28, q29, q30, q31, q32, q33, q34, cS, F0, G0, rfl, rfl, hPT⟩ := hk
  have hK4 : va_K (gD B) vwCl (t3 B ++ [(cS, .object "DreamShares$Sheet")]) s := hK.sub [3, 4, 5, 6] rfl
  refine lv_astore_n (lv' := [(1, .ref h0), (0, .ref b)]) hx hb (show decode code 7 = .ok (.astore_n 1, 1) by decide +kernel) rfl hl (by decide) rfl (fun lv hl => ?_)
  refine va_new (ci := 9) (fs := [.null, .null, .int 0, .null, .int 0, .null, .null, .null, .null, .int 0, .int 0, .null, .null, .null, .null, .null, .null, .long 0, .null, .int 0, .long 0, .long 0, .null, .long 0, .int 0, .null, .null, .null, .null, .null, .int 0]) (C := RX9) (T := TX9) (N := 31) (own := RL) hx hb htt fw9 tyX9 tyX9_ok hown (hts _ we_730) (hts _ we_731) (hts _ wd_10) hK4 hP hD hS hA rfl (fun j hj => by rcases (show j = 0 ∨ j = 1 ∨ j = 2 ∨ j = 3 ∨ j = 4 ∨ j = 5 ∨ j = 6 ∨ j = 7 ∨ j = 8 ∨ j = 9 ∨ j = 10 ∨ j = 11 ∨ j = 12 ∨ j = 13 ∨ j = 14 ∨ j = 15 ∨ j = 16 ∨ j = 17 ∨ j = 18 ∨ j = 19 ∨ j = 20 ∨ j = 21 ∨ j = 22 ∨ j = 23 ∨ j = 24 ∨ j = 25 ∨ j = 26 ∨ j = 27 ∨ j = 28 ∨ j = 29 ∨ j = 30 by omega) with rfl | rfl | rfl | rfl | rfl | rfl | rfl | rfl | rfl | rfl | rfl | rfl | rfl | rfl | rfl | rfl | rfl | rfl | rfl | rfl | rfl | rfl | rfl | rfl | rfl | rfl | rfl | rfl | rfl | rfl | rfl <;> rfl) (Nat.le_of_ble_eq_true rfl) (Nat.le_of_ble_eq_true rfl) (by decide +kernel) (fun h1 H3 hP hD hS => ?_)
  refine lv_dup hx hb (by decide +kernel) rfl ?_
  refine fx_invI (M := ML) (M' := M9_init) (tys := t3 B ++ [(cS, .object "DreamShares$Sheet")]) (ws := W8_init B h0 q1 q2 q3 q4 q5 q6 q7 q8 q9 q10 q11 q12 q13 q14 q15 q16 q17 q18 q19 q20 q21 q22 q23 q24 q25 q26 q27 q28 q29 q30 q31 q32 q33 q34 cS F0 G0 ++ [(h1, .inr (9, [.null, .null, .int 0, .null, .int 0, .null, .null, .null, .null, .int 0, .int 0, .null, .null, .null, .null, .null, .null, .long 0, .null, .int 0, .long 0, .long 0, .null, .long 0, .int 0, .null, .null, .null, .null, .null, .int 0]))]) (wc := [(h1, .inr (9, [.null, .null, .int 0, .null, .int 0, .null, .null, .null, .null, .int 0, .int 0, .null, .null, .null, .null, .null, .null, .long 0, .null, .int 0, .long 0, .long 0, .null, .long 0, .int 0, .null, .null, .null, .null, .null, .int 0]))]) (wr := W8_init B h0 q1 q2 q3 q4 q5 q6 q7 q8 q9 q10 q11 q12 q13 q14 q15 q16 q17 q18 q19 q20 q21 q22 q23 q24 q25 q26 q27 q28 q29 q30 q31 q32 q33 q34 cS F0 G0) (isC := [35]) (isR := [0, 1, 2, 3, 4, 5, 6, 7, 8, 9, 10, 11, 12, 13, 14, 15, 16, 17, 18, 19, 20, 21, 22, 23, 24, 25, 26, 27, 28, 29, 30, 31, 32, 33, 34]) (rest := [.ref h1]) (ls := [(1, .ref h0), (0, .ref b)]) hx hb hml hown htt hKB hA ⟨Nat.le_of_ble_eq_true rfl, Nat.le_of_ble_eq_true rfl⟩ ⟨Nat.le_of_ble_eq_true rfl, Nat.le_of_ble_eq_true rfl⟩ k9_init (by decide +kernel) we_732 we_733 wd_10 we_734 rfl rfl (by decide +kernel) (by decide +kernel) (by show 1 + 0 ≤ 8; decide) rfl rfl rfl (by decide +kernel) (by decide +kernel) hK4 hP hD hS hl (fun r tys1 ws1 H2 locs2 hk hK hP hD hS => ?_)
  obtain ⟨rfl, p1, p2, p3, p4, p5, p6, p7, p8, p9, p10, p11, p12, p13, p14, p15, p16, p17, p18, p19, p20, rfl, rfl⟩ := hk
  refine lv_astore_n (lv' := [(2, .ref h1), (1, .ref h0), (0, .ref b)]) hx hb (show decode code 15 = .ok (.astore_n 2, 1) by decide +kernel) rfl hl (by decide) rfl (fun lv hl => ?_)
  refine lv_iconst (v := 0) hx hb (show decode code 16 = .ok (.iconst 0, 1) by decide +kernel) (by decide) ?_
  refine lv_istore_n (lv' := [(3, .int 0), (2, .ref h1), (1, .ref h0), (0, .ref b)]) hx hb (show decode code 17 = .ok (.istore_n 3, 1) by decide +kernel) rfl hl (by decide) rfl (fun lv hl => ?_)
  obtain ⟨hP', hD'⟩ := w_PD (fa := fa) (b := b) hP hD
  have hinj : ∀ i j, i < 56 → j < 56 → ea (Ek B cS (alL h0 q1 q2 q3 q4 q5 q6 q7 q8 q9 q10 q11 q12 q13 q14 q15 q16 q17 q18 q19 q20 q21 q22 q23 q24 q25 q26 q27 q28 q29 q30 q31 q32 q33 q34 h1 p1 p2 p3 p4 p5 p6 p7 p8 p9 p10 p11 p12 p13 p14 p15 p16 p17 p18 p19 p20) fa b) i = ea (Ek B cS (alL h0 q1 q2 q3 q4 q5 q6 q7 q8 q9 q10 q11 q12 q13 q14 q15 q16 q17 q18 q19 q20 q21 q22 q23 q24 q25 q26 q27 q28 q29 q30 q31 q32 q33 q34 h1 p1 p2 p3 p4 p5 p6 p7 p8 p9 p10 p11 p12 p13 p14 p15 p16 p17 p18 p19 p20) fa b) j → i = j := fun i j hi hj h => hD'.1 i j _ _ (cells_get hi) (cells_get hj) h
  have hin : ∀ i, i < 56 → s.heap.size ≤ ea (Ek B cS (alL h0 q1 q2 q3 q4 q5 q6 q7 q8 q9 q10 q11 q12 q13 q14 q15 q16 q17 q18 q19 q20 q21 q22 q23 q24 q25 q26 q27 q28 q29 q30 q31 q32 q33 q34 h1 p1 p2 p3 p4 p5 p6 p7 p8 p9 p10 p11 p12 p13 p14 p15 p16 p17 p18 p19 p20) fa b) i := fun i hi => hD'.2 i _ (cells_get hi)
  refine lw_loop (K := lwK) hL (fun _ => rfl) (L + 1) 0 (Nat.zero_le L) (by omega) (s0 F0 G0) (inv0 hPT) l (Ek B cS (alL h0 q1 q2 q3 q4 q5 q6 q7 q8 q9 q10 q11 q12 q13 q14 q15 q16 q17 q18 q19 q20 q21 q22 q23 q24 q25 q26 q27 q28 q29 q30 q31 q32 q33 q34 h1 p1 p2 p3 p4 p5 p6 p7 p8 p9 p10 p11 p12 p13 p14 p15 p16 p17 p18 p19 p20) fa b) p e room_1 s m _ below meth c (fun q : Nat => s.heap.size ≤ q) _ _ _ ⟨hx, hb, hml, hown, htt, ⟨hK4, hinj, hin, hKB.2.1, hZf, hKB.2.2.1, hTf, hKB.2.2.2.1⟩, hA, ⟨Nat.le_of_ble_eq_true rfl, Nat.le_of_ble_eq_true rfl⟩, ⟨Nat.le_of_ble_eq_true rfl, Nat.le_of_ble_eq_true rfl⟩, ?_, ⟨hX, hbl, hbA⟩⟩ _ _ lv hP' hS hl
  intro r σ' H locs pc lv' hr1 hPx hSx hcase
  rcases hcase with ⟨v, ty, rfl, hty, hnar, hd⟩ | ⟨v, rfl, hty, hd⟩ | ⟨rfl, hty, hd⟩ | ⟨o, n, rfl, hty, hd⟩
  · cases hr1
    refine va_forget (fun q hq => hSx.2.2 q hq) ?_
    refine W.widen (k := 600000) (n := 7302250) (Nat.le_of_ble_eq_true rfl) (Nat.le_of_ble_eq_true rfl) ?_
    exact lw_ret hx hb hr hlocks hd
  · cases hr1
  · cases hr1
  · cases hr1
