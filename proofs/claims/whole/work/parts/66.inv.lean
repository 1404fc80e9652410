/-! class and model, call by call -/
def SHs (σ : St) (s z : Nat) : Prop := z ≤ 48 ∧ ((σ.1 (21 + s) 3 = 0 ∧ σ.1 51 s = 1) ∨ (σ.1 (21 + s) 3 = 1 ∧ σ.1 51 s = 0)) ∧ σ.1 52 s = σ.1 (21 + s) 1 ∧ σ.1 (21 + s) 2 = nI z ∧ σ.1 53 s = nI z ∧ ∀ i, i < z → σ.1 54 (48 * s + i) = σ.1 (25 + s) i
def SH (σ : St) : Prop := ∀ s, s < 4 → ∃ z, SHs σ s z
def shl : List Nat := [21, 22, 23, 24, 25, 26, 27, 28, 51, 52, 53, 54]
theorem SHs.fr {σ τ : St} {s z : Nat} (h : SHs σ s z) (h1 : τ.1 (21 + s) = σ.1 (21 + s)) (h2 : τ.1 51 s = σ.1 51 s) (h3 : τ.1 52 s = σ.1 52 s) (h4 : τ.1 53 s = σ.1 53 s) (h5 : ∀ i, i < 48 → τ.1 54 (48 * s + i) = σ.1 54 (48 * s + i)) (h6 : τ.1 (25 + s) = σ.1 (25 + s)) : SHs τ s z := by
  obtain ⟨a, b, c, d, e, f⟩ := h
  unfold SHs
  rw [h1, h2, h3, h4, h6]
  exact ⟨a, b, c, d, e, fun i hi => by rw [h5 i (by omega)]; exact f i hi⟩
theorem shl_m {s : Nat} (hs : s < 4) : 21 + s ∈ shl ∧ 25 + s ∈ shl := by rcases s4 hs with rfl | rfl | rfl | rfl <;> decide
theorem SH.fr {σ τ : St} (h : SH σ) (hs : ∀ o, o ∈ shl → τ.1 o = σ.1 o) : SH τ := by
  intro s h4
  obtain ⟨z, hz⟩ := h s h4
  exact ⟨z, hz.fr (hs _ (shl_m h4).1) (by rw [hs 51 (by decide)]) (by rw [hs 52 (by decide)]) (by rw [hs 53 (by decide)]) (fun i _ => by rw [hs 54 (by decide)]) (hs _ (shl_m h4).2)⟩
def Inv (σ : St) : Prop := (∃ n r, CD σ n r) ∧ SH σ
theorem sm.sq {l : List Nat} {σ τ : St} (h : sm l σ τ) (h35 : 35 ∉ l) : sq l [] σ τ := ⟨fun o a _ => h o a, fun f _ => ⟨by rw [(h 35 h35).1], by rw [(h 35 h35).2]⟩⟩
def cdl : List Nat := [0, 1, 2, 3, 4, 5, 6, 7, 8, 9, 10, 11, 16, 17, 29, 31, 32, 36, 37, 42, 43, 44]
theorem CD.sq {σ τ : St} {n r : Nat} {l fl : List Nat} (h : CD σ n r) (hs : sq l fl σ τ) (hl : ∀ o, o ∈ cdl → o ∉ l) (hf : ∀ f, f ∈ [9, 10, 30] → f ∉ fl) : CD τ n r := by
  obtain ⟨a, b, c, d, e, f⟩ := h
  have g : ∀ o, o ∈ cdl → τ.1 o = σ.1 o := fun o ho => (hs.1 o (hl o ho) (by rintro rfl; revert ho; decide)).1
  have k : ∀ o, o ∈ cdl → o ∉ 35 :: l := fun o ho => by
    simp only [List.mem_cons, not_or]
    exact ⟨by rintro rfl; revert ho; decide, hl o ho⟩
  refine ⟨⟨a.1.sq hs (fun o ho => hl o (by revert ho; revert o; decide)) (fun f hf' => hf f (by revert hf'; revert f; decide)), ?_⟩, b.sm hs.sm (k 31 (by decide)), c.sm hs.sm (k 32 (by decide)), ?_, ?_, ?_⟩
  · rw [g 42 (by decide), g 29 (by decide)]; exact a.2
  · rw [g 43 (by decide), g 31 (by decide)]; exact d
  · rw [g 44 (by decide), g 32 (by decide)]; exact e
  · rw [(hs.2 30 (hf 30 (by decide))).1, g 0 (by decide)]; exact f
theorem CD.sc {σ τ : St} {n r : Nat} (h : CD σ n r) (hs : sm sc σ τ) : CD τ n r := h.sq (hs.sq (by decide)) (by decide) (by decide)
theorem SH.sc {σ τ : St} (h : SH σ) (hs : sm sc σ τ) : SH τ := h.fr (fun o ho => (hs o (by revert ho; revert o; decide)).1)
theorem SH.mf {σ τ : St} (h : SH σ) (hs : sq mfl mff σ τ) : SH τ := h.fr (fun o ho => (hs.1 o (by revert ho; revert o; decide) (by rintro rfl; revert ho; decide)).1)
theorem Inv.mf {σ τ : St} (h : Inv σ) (hs : sq mfl mff σ τ) : Inv τ := by
  obtain ⟨⟨n, r, hC⟩, hS⟩ := h
  exact ⟨⟨n, r, hC.mf hs⟩, hS.mf hs⟩
theorem Inv.sc {σ τ : St} (h : Inv σ) (hs : sm sc σ τ) : Inv τ := by
  obtain ⟨⟨n, r, hC⟩, hS⟩ := h
  exact ⟨⟨n, r, hC.sc hs⟩, hS.sc hs⟩
/-- both are called alike, and answer alike -/
def JtI (M8 M9 : MD) (av : List Value) (σ : St) : Prop := VM M8 (.ref 0 :: av) σ (fun r σ1 => ∃ v : Int32, r = some (.int v) ∧ VM M9 (.ref 35 :: av) σ1 (fun r' σ2 => r' = some (.int v) ∧ Inv σ2))
def JtL (M8 M9 : MD) (av : List Value) (σ : St) : Prop := VM M8 (.ref 0 :: av) σ (fun r σ1 => ∃ v : Int64, r = some (.long v) ∧ VM M9 (.ref 35 :: av) σ1 (fun r' σ2 => r' = some (.long v) ∧ Inv σ2))
theorem natOf {x M : Int32} {n : Nat} (hM : M.toInt = n) (h : 0 ≤ x ∧ x ≤ M) : ∃ j, j ≤ n ∧ x = nI j := nI_of2 hM (Int32.not_lt.mpr h.1) h.2
theorem natLt {x : Int32} {n : Nat} (hn : n < 2 ^ 31) (h : 0 ≤ x ∧ x < nI n) : ∃ j, j < n ∧ x = nI j := by
  obtain ⟨j, hj, rfl⟩ := nI_of (x := x) (Int32.not_lt.mpr h.1)
  exact ⟨j, (nI_ltI hj hn).mp h.2, rfl⟩
theorem natL4 {x : Int32} (h : 0 ≤ x ∧ x < 4) : ∃ j, j < 4 ∧ x = nI j := natLt (n := 4) (by decide) h
theorem natL6 {x : Int32} (h : 0 ≤ x ∧ x < 6) : ∃ j, j < 6 ∧ x = nI j := natLt (n := 6) (by decide) h
/-! queries -/
theorem st_fault {σ : St} {t : Int32} (hI : Inv σ) : JtI M8_fault M9_fault [.int t] σ := by
  obtain ⟨⟨n, r, hC⟩, hS⟩ := hI
  exact v8_fault ⟨_, rfl, v9_fault hC.1.1 (fun σ2 g => ⟨rfl, Inv.mf ⟨⟨n, r, hC⟩, hS⟩ (g.mf (by decide) (by decide))⟩)⟩
theorem st_member {σ : St} {m k : Int32} (hI : Inv σ) : JtI M8_member M9_member [.int m, .int k] σ := by
  have hI0 := hI
  obtain ⟨⟨n, r, hC⟩, hS⟩ := hI
  have hn := hC.1.1.mv.1
  by_cases hb : (0 ≤ m ∧ m < σ.1 5 1) ∧ 0 ≤ k ∧ k < 4
  · obtain ⟨h1, h2⟩ := hb
    rw [hC.1.1.mv.2.1] at h1
    obtain ⟨m, hm, rfl⟩ := natLt (by omega) h1
    obtain ⟨k, hk, rfl⟩ := natL4 h2
    exact v8_memberN hC.1.1.mv hm hk ⟨_, rfl, v9_memberN hC.1 hm hk (fun σ2 g => ⟨rfl, hI0.mf g⟩)⟩
  · exact v8_member_bad hb ⟨_, rfl, v9_member_bad hC.1 hb (fun σ2 g => ⟨rfl, hI0.mf g⟩)⟩
theorem st_recipe {σ : St} {q w : Int32} (hI : Inv σ) : JtI M8_recipe M9_recipe [.int q, .int w] σ := by
  have hI0 := hI
  obtain ⟨⟨n, r, hC⟩, hS⟩ := hI
  have hr := hC.1.1.kv.1
  by_cases hb : (0 ≤ q ∧ q < σ.1 7 3) ∧ 0 ≤ w ∧ w ≤ 2
  · obtain ⟨h1, h2⟩ := hb
    rw [hC.1.1.kv.2.1] at h1
    obtain ⟨q, hq, rfl⟩ := natLt (by omega) h1
    exact v8_recipeN hC.1.1.kv hq h2 ⟨_, rfl, v9_recipeN hC.1 hq h2 (fun σ2 g => ⟨rfl, hI0.mf g⟩)⟩
  · exact v8_recipe_bad hb ⟨_, rfl, v9_recipe_bad hC.1 hb (fun σ2 g => ⟨rfl, hI0.mf g⟩)⟩
theorem st_chance {σ : St} {m k w : Int32} (hI : Inv σ) : JtL M8_chance M9_chance [.int m, .int k, .int w] σ := by
  have hI0 := hI
  obtain ⟨⟨n, r, hC⟩, hS⟩ := hI
  have hn := hC.1.1.mv.1
  by_cases hb : (0 ≤ m ∧ m < σ.1 5 1) ∧ (0 ≤ k ∧ k < 4) ∧ (w = 0 ∨ w = 1)
  · obtain ⟨h1, h2, h3⟩ := hb
    rw [hC.1.1.mv.2.1] at h1
    obtain ⟨m, hm, rfl⟩ := natLt (by omega) h1
    obtain ⟨k, hk, rfl⟩ := natL4 h2
    refine v8_chanceN hC.1.1.cv hm hk h3 (fun σ1 g1 => ?_)
    have s1 : sm sc σ σ1 := g1.mono (by decide)
    refine ⟨_, rfl, v9_chanceN (hC.sc s1).1 hm hk h3 (fun σ2 g => ⟨by rw [ww_sc s1], (hI0.sc s1).mf g⟩)⟩
  · exact v8_chance_bad hb ⟨_, rfl, v9_chance_bad hC.1 hb (fun σ2 g => ⟨rfl, hI0.mf g⟩)⟩
theorem sum6 {f w g h : Nat} (hf : f ≤ 6) (hw : w ≤ 6) (hg : g ≤ 6) (hh : h ≤ 6) : (nI f + nI w + nI g + nI h ≤ (6 : Int32)) ↔ f + w + g + h ≤ 6 := by
  rw [sum4]
  exact nI_leI (b := 6) (by omega) (by decide)
theorem st_worth {σ : St} {x y z t : Int32} (hI : Inv σ) : JtI M8_worth M9_worth [.int x, .int y, .int z, .int t] σ := by
  have hI0 := hI
  obtain ⟨⟨n, r, hC⟩, hS⟩ := hI
  by_cases hb : ((0 ≤ x ∧ x ≤ 6) ∧ (0 ≤ y ∧ y ≤ 6) ∧ (0 ≤ z ∧ z ≤ 6) ∧ 0 ≤ t ∧ t ≤ 6) ∧ x + y + z + t ≤ 6
  · obtain ⟨h1, h2⟩ := hb
    obtain ⟨f, w, g, h, hf, hw, hg, hh, rfl, rfl, rfl, rfl⟩ := pool_of h1
    have h3 := (sum6 hf hw hg hh).mp h2
    exact v8_worthN hC.1.1.cv h3 ⟨_, rfl, v9_worthN hC.1.1 h3 (fun σ2 g => ⟨rfl, hI0.mf g⟩)⟩
  · exact v8_worth_bad hb ⟨_, rfl, v9_worth_bad hb ⟨rfl, hI0⟩⟩
theorem mdS_sc {σ σ' : St} {r c q : Nat} (hs : sm sc σ σ') : mdS (rfn σ') (rsn σ') (rpn σ') (BS σ' r) c q = mdS (rfn σ) (rsn σ) (rpn σ) (BS σ r) c q := by
  have e' : BS σ' r = BS σ r := funext fun c => by unfold BS; rw [rfn_sm hs (by decide), rsn_sm hs (by decide), rpn_sm hs (by decide)]
  rw [e', rfn_sm hs (by decide), rsn_sm hs (by decide), rpn_sm hs (by decide)]
theorem st_made {σ : St} {x y z t q : Int32} (hI : Inv σ) : JtI M8_made M9_made [.int x, .int y, .int z, .int t, .int q] σ := by
  have hI0 := hI
  obtain ⟨⟨n, r, hC⟩, hS⟩ := hI
  have hr := hC.1.1.kv.1
  by_cases hb : (((0 ≤ x ∧ x ≤ 6) ∧ (0 ≤ y ∧ y ≤ 6) ∧ (0 ≤ z ∧ z ≤ 6) ∧ 0 ≤ t ∧ t ≤ 6) ∧ x + y + z + t ≤ 6) ∧ 0 ≤ q ∧ q < σ.1 7 3
  · obtain ⟨⟨h1, h2⟩, h4⟩ := hb
    obtain ⟨f, w, g, h, hf, hw, hg, hh, rfl, rfl, rfl, rfl⟩ := pool_of h1
    have h3 := (sum6 hf hw hg hh).mp h2
    rw [hC.1.1.kv.2.1] at h4
    obtain ⟨q, hq, rfl⟩ := natLt (by omega) h4
    refine v8_madeN hC.1.1.kv hC.1.1.bk h3 hq (fun σ1 g1 => ?_)
    have s1 : sm sc σ σ1 := g1.mono (by decide)
    exact ⟨_, rfl, v9_madeN (hC.sc s1).1 h3 hq (fun σ2 g => ⟨by rw [mdS_sc s1], (hI0.sc s1).mf g⟩)⟩
  · exact v8_made_bad hb ⟨_, rfl, v9_made_bad hC.1 hb (fun σ2 g => ⟨rfl, hI0.mf g⟩)⟩
theorem b63n {b : Int32} (h : 0 ≤ b ∧ b ≤ 63) : ∃ j, j < 64 ∧ b = nI j := by
  obtain ⟨j, hj, e⟩ := natOf (n := 63) rfl h
  exact ⟨j, by omega, e⟩
theorem st_mean {σ : St} {b w : Int32} (hI : Inv σ) : JtL M8_mean M9_mean [.int b, .int w] σ := by
  have hI0 := hI
  obtain ⟨⟨n, r, hC⟩, hS⟩ := hI
  by_cases hb : (0 ≤ b ∧ b ≤ 63) ∧ (w = 0 ∨ w = 1)
  · obtain ⟨h1, h3⟩ := hb
    obtain ⟨b, hb, rfl⟩ := b63n h1
    refine v8_meanN hC.1.1.cv hb h3 (fun σ1 g1 => ?_)
    have s1 : sm sc σ σ1 := g1.mono (by decide)
    exact ⟨_, rfl, v9_meanN (hC.sc s1).1 hb h3 (fun σ2 g => ⟨by rw [ww_sc s1, wv_sc s1], (hI0.sc s1).mf g⟩)⟩
  · exact v8_mean_bad hb ⟨_, rfl, v9_mean_bad hb ⟨rfl, hI0⟩⟩
theorem st_share {σ : St} {m w : Int32} (hI : Inv σ) : JtL M8_share M9_share [.int m, .int w] σ := by
  have hI0 := hI
  obtain ⟨⟨n, r, hC⟩, hS⟩ := hI
  have hn := hC.1.1.mv.1
  by_cases hb : (0 ≤ m ∧ m < σ.1 5 1) ∧ (w = 0 ∨ w = 1)
  · obtain ⟨h1, h3⟩ := hb
    rw [hC.1.1.mv.2.1] at h1
    obtain ⟨m, hm, rfl⟩ := natLt (by omega) h1
    refine v8_shareN hC.1.1.cv hm h3 (fun σ1 g1 => ?_)
    have s1 : sm sc σ σ1 := g1.mono (by decide)
    exact ⟨_, rfl, v9_shareN (hC.sc s1).1 hm h3 (fun σ2 g => ⟨by rw [ww_sc s1, wv_sc s1], (hI0.sc s1).mf g⟩)⟩
  · exact v8_share_bad hb ⟨_, rfl, v9_share_bad hC.1 hb (fun σ2 g => ⟨rfl, hI0.mf g⟩)⟩
theorem lvS_sc {σ σ' : St} {n : Nat} (hs : sm sc σ σ') : lvS σ' n = lvS σ n := by unfold lvS; rw [ww_sc hs, wv_sc hs, pyo_sc hs]
theorem st_leave {σ : St} (hI : Inv σ) : JtI M8_leave M9_leave [] σ := by
  have hI0 := hI
  obtain ⟨⟨n, r, hC⟩, hS⟩ := hI
  refine v8_leaveN hC.1.1.cv hC.2.1 (fun σ1 g1 => ?_)
  have s1 : sm sc σ σ1 := g1.mono (by decide)
  exact ⟨_, rfl, v9_leave (hC.sc s1).1 (hC.sc s1).2.1 (hC.sc s1).2.2.2.1 (fun σ2 g => ⟨by rw [lvS_sc s1]; rfl, (hI0.sc s1).mf g⟩)⟩
theorem st_strike {σ : St} {b w : Int32} (hI : Inv σ) : JtL M8_strike M9_strike [.int b, .int w] σ := by
  have hI0 := hI
  obtain ⟨⟨n, r, hC⟩, hS⟩ := hI
  by_cases hb : (0 ≤ b ∧ b ≤ 63) ∧ (w = 0 ∨ w = 1)
  · obtain ⟨h1, h3⟩ := hb
    obtain ⟨b, hb, rfl⟩ := b63n h1
    refine v8_strikeN hC.1.1.cv hb h3 (fun σ1 g1 => ?_)
    have s1 : sm sc σ σ1 := g1.mono (by decide)
    exact ⟨_, rfl, v9_strikeN (hC.sc s1).1 hb h3 (fun σ2 g => ⟨by rw [ww_sc s1, wv_sc s1], (hI0.sc s1).mf g⟩)⟩
  · exact v8_strike_bad hb ⟨_, rfl, v9_strike_bad hb ⟨rfl, hI0⟩⟩
theorem st_best {σ : St} {m : Int32} (hI : Inv σ) : JtI M8_best M9_best [.int m] σ := by
  have hI0 := hI
  obtain ⟨⟨n, r, hC⟩, hS⟩ := hI
  have hn := hC.1.1.mv.1
  by_cases hb : 0 ≤ m ∧ m < σ.1 5 1
  · have h1 := hb
    rw [hC.1.1.mv.2.1] at h1
    obtain ⟨m, hm, rfl⟩ := natLt (by omega) h1
    refine v8_bestN hC.1.1.cv hm (fun σ1 g1 => ?_)
    have s1 : sm sc σ σ1 := g1.mono (by decide)
    exact ⟨_, rfl, v9_bestN (hC.sc s1).1 hm (fun σ2 g => ⟨by rw [best_sc s1], (hI0.sc s1).mf g⟩)⟩
  · exact v8_best_bad hb ⟨_, rfl, v9_best_bad hC.1 hb (fun σ2 g => ⟨rfl, hI0.mf g⟩)⟩
theorem menK {k : Int32} {n : Nat} (hn : n ≤ 6) (h : 1 ≤ k ∧ k ≤ 3 ∧ k ≤ nI n) : ∃ j, (1 ≤ j ∧ j < 4) ∧ j ≤ n ∧ k = nI j := by
  obtain ⟨j, hj, rfl⟩ := natOf (x := k) (n := 3) rfl ⟨by have := h.1; clear h; grind, h.2.1⟩
  have h1 := (nI_leI (a := 1) (by decide) (by omega)).mp h.1
  exact ⟨j, by omega, (nI_leI (by omega) (by omega)).mp h.2.2, rfl⟩
theorem st_menu {σ : St} {k m : Int32} (hI : Inv σ) : JtI M8_menu M9_menu [.int k, .int m] σ := by
  have hI0 := hI
  obtain ⟨⟨n, r, hC⟩, hS⟩ := hI
  have hn := hC.1.1.mv.1
  by_cases hb : (1 ≤ k ∧ k ≤ 3 ∧ k ≤ σ.1 5 1) ∧ 0 ≤ m ∧ m < k
  · obtain ⟨h1, h2⟩ := hb
    rw [hC.1.1.mv.2.1] at h1
    obtain ⟨k, hk, hkn, rfl⟩ := menK hn h1
    obtain ⟨m, hm, rfl⟩ := natLt (by omega) h2
    refine v8_menuN hC.1.1.cv hk hkn hm (fun σ1 g1 => ?_)
    have s1 : sm sc σ σ1 := g1.mono (by decide)
    exact ⟨_, rfl, v9_menuN (hC.sc s1).1 hk hkn hm (fun σ2 g => ⟨by rw [AM_sc s1], (hI0.sc s1).mf g⟩)⟩
  · exact v8_menu_bad hb ⟨_, rfl, v9_menu_bad hC.1 hb (fun σ2 g => ⟨rfl, hI0.mf g⟩)⟩
theorem st_menuMean {σ : St} {k w : Int32} (hI : Inv σ) : JtL M8_menuMean M9_menuMean [.int k, .int w] σ := by
  have hI0 := hI
  obtain ⟨⟨n, r, hC⟩, hS⟩ := hI
  have hn := hC.1.1.mv.1
  by_cases hb : (1 ≤ k ∧ k ≤ 3 ∧ k ≤ σ.1 5 1) ∧ (w = 0 ∨ w = 1)
  · obtain ⟨h1, h3⟩ := hb
    rw [hC.1.1.mv.2.1] at h1
    obtain ⟨k, hk, hkn, rfl⟩ := menK hn h1
    refine v8_menuMeanN hC.1.1.cv hk hkn h3 (fun σ1 g1 => ?_)
    have s1 : sm sc σ σ1 := g1.mono (by decide)
    exact ⟨_, rfl, v9_menuMeanN (hC.sc s1).1 hk hkn h3 (fun σ2 g => ⟨by rw [AM_sc s1, wmn_sc s1], (hI0.sc s1).mf g⟩)⟩
  · exact v8_menuMean_bad hb ⟨_, rfl, v9_menuMean_bad hC.1 hb (fun σ2 g => ⟨rfl, hI0.mf g⟩)⟩
theorem st_dread {σ : St} {k w : Int32} (hI : Inv σ) : JtL M8_dread M9_dread [.int k, .int w] σ := by
  have hI0 := hI
  obtain ⟨⟨n, r, hC⟩, hS⟩ := hI
  by_cases hb : (0 ≤ k ∧ k ≤ 6) ∧ (w = 0 ∨ w = 1)
  · obtain ⟨h1, h3⟩ := hb
    obtain ⟨k, hk, rfl⟩ := natOf (n := 6) rfl h1
    refine v8_dreadN hC.1.1.cv hk h3 (fun σ1 g1 => ?_)
    have s1 : sm sc σ σ1 := g1.mono (by decide)
    exact ⟨_, rfl, v9_dreadN (hC.sc s1).1 hk h3 (fun σ2 g => ⟨by rw [ww_sc s1], (hI0.sc s1).mf g⟩)⟩
  · exact v8_dread_bad hb ⟨_, rfl, v9_dread_bad hb ⟨rfl, hI0⟩⟩
theorem st_rows {σ : St} {x y z t : Int32} (hI : Inv σ) : JtI M8_rows M9_rows [.int x, .int y, .int z, .int t] σ := by
  have hI0 := hI
  obtain ⟨⟨n, r, hC⟩, hS⟩ := hI
  by_cases hb : (0 ≤ x ∧ x ≤ 6) ∧ (0 ≤ y ∧ y ≤ 6) ∧ (0 ≤ z ∧ z ≤ 6) ∧ 0 ≤ t ∧ t ≤ 6
  · obtain ⟨f, w, g, h, hf, hw, hg, hh, rfl, rfl, rfl, rfl⟩ := pool_of hb
    refine v8_rowsN hC.1.1.cv hf hw hg hh (fun σ1 g1 => ?_)
    have s1 : sm sc σ σ1 := g1.mono (by decide)
    exact ⟨_, rfl, v9_rowsN (hC.sc s1).1 hf hw hg hh (fun σ2 g => ⟨by rw [ww_sc s1], (hI0.sc s1).mf g⟩)⟩
  · exact v8_rows_bad hb ⟨_, rfl, v9_rows_bad hb ⟨rfl, hI0⟩⟩
theorem st_may {σ : St} {x y z t m : Int32} (hI : Inv σ) : JtI M8_may M9_may [.int x, .int y, .int z, .int t, .int m] σ := by
  have hI0 := hI
  obtain ⟨⟨n, r, hC⟩, hS⟩ := hI
  have hn := hC.1.1.mv.1
  by_cases hb : ((0 ≤ x ∧ x ≤ 6) ∧ (0 ≤ y ∧ y ≤ 6) ∧ (0 ≤ z ∧ z ≤ 6) ∧ 0 ≤ t ∧ t ≤ 6) ∧ 0 ≤ m ∧ m < σ.1 5 1
  · obtain ⟨h1, h2⟩ := hb
    obtain ⟨f, w, g, h, hf, hw, hg, hh, rfl, rfl, rfl, rfl⟩ := pool_of h1
    rw [hC.1.1.mv.2.1] at h2
    obtain ⟨m, hm, rfl⟩ := natLt (by omega) h2
    refine v8_mayN hC.1.1.cv hf hw hg hh hm (fun σ1 g1 => ?_)
    have s1 : sm sc σ σ1 := g1.mono (by decide)
    exact ⟨_, rfl, v9_mayN (hC.sc s1).1 hf hw hg hh hm (fun σ2 g => ⟨by rw [ww_sc s1], (hI0.sc s1).mf g⟩)⟩
  · exact v8_may_bad hb ⟨_, rfl, v9_may_bad hC.1 hb (fun σ2 g => ⟨rfl, hI0.mf g⟩)⟩
theorem st_likeliest {σ : St} {x y z t m : Int32} (hI : Inv σ) : JtI M8_likeliest M9_likeliest [.int x, .int y, .int z, .int t, .int m] σ := by
  have hI0 := hI
  obtain ⟨⟨n, r, hC⟩, hS⟩ := hI
  have hn := hC.1.1.mv.1
  by_cases hb : ((0 ≤ x ∧ x ≤ 6) ∧ (0 ≤ y ∧ y ≤ 6) ∧ (0 ≤ z ∧ z ≤ 6) ∧ 0 ≤ t ∧ t ≤ 6) ∧ 0 ≤ m ∧ m < σ.1 5 1
  · obtain ⟨h1, h2⟩ := hb
    obtain ⟨f, w, g, h, hf, hw, hg, hh, rfl, rfl, rfl, rfl⟩ := pool_of h1
    rw [hC.1.1.mv.2.1] at h2
    obtain ⟨m, hm, rfl⟩ := natLt (by omega) h2
    refine v8_likeliestN hC.1.1.cv hf hw hg hh hm (fun σ1 g1 => ?_)
    have s1 : sm sc σ σ1 := g1.mono (by decide)
    exact ⟨_, rfl, v9_likeliestN (hC.sc s1).1 hf hw hg hh hm (fun σ2 g => ⟨by rw [ww_sc s1], (hI0.sc s1).mf g⟩)⟩
  · exact v8_likeliest_bad hb ⟨_, rfl, v9_likeliest_bad hC.1 hb (fun σ2 g => ⟨rfl, hI0.mf g⟩)⟩
theorem st_kept {σ : St} {x y z t : Int32} (hI : Inv σ) : JtI M8_kept M9_kept [.int x, .int y, .int z, .int t] σ := by
  have hI0 := hI
  obtain ⟨⟨n, r, hC⟩, hS⟩ := hI
  by_cases hb : (0 ≤ x ∧ x ≤ 6) ∧ (0 ≤ y ∧ y ≤ 6) ∧ (0 ≤ z ∧ z ≤ 6) ∧ 0 ≤ t ∧ t ≤ 6
  · obtain ⟨f, w, g, h, hf, hw, hg, hh, rfl, rfl, rfl, rfl⟩ := pool_of hb
    refine v8_keptN hC.1.1.mv hC.2.2.1 hf hw hg hh (fun σ1 g1 => ?_)
    have s1 : sm sc σ σ1 := g1.mono (by decide)
    exact ⟨_, rfl, v9_keptN (hC.sc s1).1 (hC.sc s1).2.2.1 (hC.sc s1).2.2.2.2.1 hf hw hg hh (fun σ2 g => ⟨by rw [(s1 32 (by decide)).1], (hI0.sc s1).mf g⟩)⟩
  · exact v8_kept_bad hb ⟨_, rfl, v9_kept_bad hb ⟨rfl, hI0⟩⟩
theorem st_week {σ : St} {sd x y : Int32} (hI : Inv σ) : JtI M8_week M9_week [.int sd, .int x, .int y] σ := by
  have hI0 := hI
  obtain ⟨⟨n, r, hC⟩, hS⟩ := hI
  by_cases hb : (1 ≤ x ∧ x ≤ 60) ∧ 0 ≤ y ∧ y ≤ 1
  · obtain ⟨h1, h2⟩ := hb
    obtain ⟨N, hN, rfl⟩ := natOf (x := x) (n := 60) rfl ⟨by have := h1.1; clear h1; grind, h1.2⟩
    have h0 := (nI_leI (a := 1) (by decide) (by omega)).mp h1.1
    refine v8_weekN hC.1.1.cv ⟨h0, hN⟩ h2 (fun σ1 g1 => ?_)
    have s1 : sm sc σ σ1 := g1.mono (by decide)
    exact ⟨_, rfl, v9_weekN (hC.sc s1).1 ⟨h0, hN⟩ h2 (fun σ2 g => ⟨by unfold wkR; rw [ww_sc s1, wv_sc s1], (hI0.sc s1).mf g⟩)⟩
  · exact v8_week_bad hb ⟨_, rfl, v9_week_bad hb ⟨rfl, hI0⟩⟩
theorem st_count {σ : St} {w : Int32} (hI : Inv σ) : JtI M8_count M9_count [.int w] σ := by
  have hI0 := hI
  obtain ⟨⟨n, r, hC⟩, hS⟩ := hI
  exact v8_count hC.1.1.mv hC.2.1 ⟨_, rfl, v9_count hC (fun σ2 g => ⟨rfl, hI0.mf g⟩)⟩
theorem cS_sc {σ σ' : St} {n : Nat} (hs : sm sc σ σ') : cS σ' n = cS σ n := by
  funext w
  unfold cS
  rw [(hs 5 (by decide)).1, (hs 7 (by decide)).1, (hs 1 (by decide)).1, (hs 2 (by decide)).1, (hs 29 (by decide)).1, pyo_sc hs, (hs 0 (by decide)).1]
theorem dgs_sc {σ σ' : St} {n r : Nat} (hs : sm sc σ σ') : dgs σ' n r = dgs σ n r := by
  have e1 : dHd σ' n = dHd σ n := by funext i; unfold dHd; rw [cS_sc hs]
  have e2 : dMem σ' n = dMem σ n := by funext m; exact dMem_sc hs
  have e3 : dRec σ' r = dRec σ r := by funext q; exact dRec_sc hs
  have e4 : dTl σ' n = dTl σ n := by
    unfold dTl dMn dMm
    rw [ww_sc hs, wv_sc hs, pyo_sc hs, AM_sc hs, AM_sc hs, wmn_sc hs, (hs 32 (by decide)).1]
  unfold dgs
  rw [e1, e2, e3, e4, (hs 5 (by decide)).1, (hs 7 (by decide)).1]
theorem st_digest {σ : St} (hI : Inv σ) : JtL M8_digest M9_digest [] σ := by
  have hI0 := hI
  obtain ⟨⟨n, r, hC⟩, hS⟩ := hI
  refine v8_digest hC.1.1.cv hC.2.1 hC.2.2.1 hC.1.1.kv hC.1.1.bk (fun σ1 s1 => ?_)
  exact ⟨_, rfl, v9_digest (hC.sc s1) (fun σ2 g => ⟨by rw [dgs_sc s1], (hI0.sc s1).mf g⟩)⟩
