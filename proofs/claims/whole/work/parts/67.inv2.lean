/-! what is typed, set -/
theorem SH_of {σ τ : St} {l fl : List Nat} (h : SH σ) (hs : sq l fl σ τ) (hl : ∀ o, o ∈ shl → o ∉ l) : SH τ := h.fr (fun o ho => (hs.1 o (hl o ho) (by rintro rfl; revert ho; decide)).1)
def txl : List Nat := [1, 2, 3, 4, 5, 6, 7, 8, 9, 10, 11, 36, 37]
theorem Inv_text {σ τ : St} {n r N0 N1 : Nat} (hC : CD σ n r) (hS : SH σ) (hs : sm txl σ τ) (hR : RO τ N0) (hK : KO τ N1) (t0 : TXT τ 0 N0 (τ.1 3)) (t1 : TXT τ 1 N1 (τ.1 4)) : Inv τ := by
  obtain ⟨⟨⟨a1, a2, a3, a4, a5, -⟩, a⟩, b, c, d, e, f⟩ := hC
  refine ⟨⟨_, _, ⟨⟨a1.sm hs (by decide) (by decide), ?_, ?_, ?_, ?_, N0, N1, hR, hK, t0, t1, rfl, rfl⟩, ?_⟩, b.sm hs (by decide), c.sm hs (by decide), ?_, ?_, ?_⟩, hS.fr (fun o ho => (hs o (by revert ho; revert o; decide)).1)⟩
  · rw [(hs 0 (by decide)).1]; exact a2
  · rw [(hs 0 (by decide)).1]; exact a3
  · rw [(hs 0 (by decide)).1, (hs 35 (by decide)).1]; exact a4
  · rw [(hs 0 (by decide)).1, (hs 35 (by decide)).1]; exact a5
  · rw [(hs 42 (by decide)).1, (hs 29 (by decide)).1]; exact a
  · rw [(hs 43 (by decide)).1, (hs 31 (by decide)).1]; exact d
  · rw [(hs 44 (by decide)).1, (hs 32 (by decide)).1]; exact e
  · rw [(hs 35 (by decide)).1, (hs 0 (by decide)).1]; exact f
theorem TXT.sm {σ τ : St} {t N : Nat} {b : Nat → Int32} {l : List Nat} (h : TXT σ t N b) (hs : sm l σ τ) (h1 : 36 ∉ l) (h2 : 37 ∉ l) : TXT τ t N b := by
  obtain ⟨a, c, d, e⟩ := h
  exact ⟨a, c, by rw [(hs 36 h1).1]; exact d, fun i hi => by rw [(hs 37 h2).1]; exact e i hi⟩
/-- the text's length alone is set -/
theorem TXT_len {σ : St} {t N L : Nat} {b : Nat → Int32} (h : TXT σ t N b) (hL : L ≤ 29) : TXT (si σ 36 t (nI L)) t L b := by
  obtain ⟨a, c, d, e⟩ := h
  refine ⟨a, hL, ?_, e⟩
  rw [si_1, if_pos rfl, upd_at]
theorem TXT_oth {σ : St} {t u N : Nat} {v : Int32} {b : Nat → Int32} (h : TXT σ t N b) (hu : u ≠ t) : TXT (si σ 36 u v) t N b := by
  obtain ⟨a, c, d, e⟩ := h
  refine ⟨a, c, ?_, e⟩
  rw [si_1, if_pos rfl, upd_ne (fun z => hu z.symm)]
  exact d
theorem TXT_put {σ : St} {t N : Nat} {v : Int32} {b : Nat → Int32} (h : TXT σ t N b) : TXT (si σ 37 (29 * t + N) v) t N (upd b N v) := by
  obtain ⟨a, c, d, e⟩ := h
  refine ⟨a, c, d, fun i hi => ?_⟩
  rw [si_1, if_pos rfl]
  by_cases q : i = N
  · subst q; rw [upd_at, upd_at]
  · rw [upd_ne q, upd_ne (by omega)]; exact e i hi
theorem TXT_put2 {σ : St} {t u N x : Nat} {v : Int32} {b : Nat → Int32} (h : TXT σ t N b) (hx : x < 29) (hu : u ≠ t) (hu2 : u < 2) : TXT (si σ 37 (29 * u + x) v) t N b := by
  obtain ⟨a, c, d, e⟩ := h
  refine ⟨a, c, d, fun i hi => ?_⟩
  rw [si_1, if_pos rfl, upd_ne (by omega)]
  exact e i hi
theorem st_type {σ : St} {t b : Int32} (hI : Inv σ) : JtI M8_type M9_type [.int t, .int b] σ := by
  have hI0 := hI
  obtain ⟨⟨n, r, hC⟩, hS⟩ := hI
  obtain ⟨a1, a2, a3, a4, a5, N0, N1, hR, hK, t0, t1, -, -⟩ := hC.1.1
  by_cases hb : (t = 0 ∨ t = 1) ∧ 0 ≤ b ∧ b ≤ 255
  · obtain ⟨ht, hb⟩ := hb
    rcases ht with rfl | rfl
    · refine v8_type0 hb hR (fun e => ⟨_, rfl, v9_typeN (t := 0) t0 hb (fun _ => ⟨rfl, hI0⟩) (fun q => by omega)⟩) (fun lt σ1 g1 g2 g3 => ?_)
      have u0 := t0.sm g1 (by decide) (by decide)
      have u1 := t1.sm g1 (by decide) (by decide)
      refine ⟨_, rfl, v9_typeN (t := 0) u0 hb (fun q => by omega) (fun _ => ⟨rfl, ?_⟩)⟩
      have s2 : sm [36, 37] σ1 (si (si σ1 37 (29 * 0 + N0) b) 36 0 (nI (N0 + 1))) := (sm.rfl'.si (by decide)).si (by decide)
      have s3 : sm txl σ (si (si σ1 37 (29 * 0 + N0) b) 36 0 (nI (N0 + 1))) := (g1.mono (by decide)).trans (s2.mono (by decide))
      refine Inv_text hC hS s3 (g2.sm s2 (by decide) (by decide) (by decide) (by decide)) ((hK.sm g1 (by decide) (by decide) (by decide) (by decide) (by decide) (by decide) (by decide)).sm s2 (by decide) (by decide) (by decide) (by decide) (by decide) (by decide) (by decide)) ?_ ?_
      · rw [(s2 3 (by decide)).1, g3]
        exact TXT_len (TXT_put u0) (by omega)
      · rw [(s2 4 (by decide)).1, (g1 4 (by decide)).1]
        exact TXT_oth (TXT_put2 u1 (by omega) (by decide) (by decide)) (by decide)
    · refine v8_type1 hb a1 hK (fun e => ⟨_, rfl, v9_typeN (t := 1) t1 hb (fun _ => ⟨rfl, hI0⟩) (fun q => by omega)⟩) (fun lt σ1 g1 g2 g3 => ?_)
      have u0 := t0.sm g1 (by decide) (by decide)
      have u1 := t1.sm g1 (by decide) (by decide)
      refine ⟨_, rfl, v9_typeN (t := 1) u1 hb (fun q => by omega) (fun _ => ⟨rfl, ?_⟩)⟩
      have s2 : sm [36, 37] σ1 (si (si σ1 37 (29 * 1 + N1) b) 36 1 (nI (N1 + 1))) := (sm.rfl'.si (by decide)).si (by decide)
      have s3 : sm txl σ (si (si σ1 37 (29 * 1 + N1) b) 36 1 (nI (N1 + 1))) := (g1.mono (by decide)).trans (s2.mono (by decide))
      refine Inv_text hC hS s3 ((hR.sm g1 (by decide) (by decide) (by decide) (by decide)).sm s2 (by decide) (by decide) (by decide) (by decide)) (g2.sm s2 (by decide) (by decide) (by decide) (by decide) (by decide) (by decide) (by decide)) ?_ ?_
      · rw [(s2 3 (by decide)).1, (g1 3 (by decide)).1]
        exact TXT_oth (TXT_put2 u0 (by omega) (by decide) (by decide)) (by decide)
      · rw [(s2 4 (by decide)).1, g3]
        exact TXT_len (TXT_put u1) (by omega)
  · exact v8_type_bad hb ⟨_, rfl, v9_type_bad hb ⟨rfl, hI0⟩⟩
theorem len0 {σ σ1 : St} {n r N0 N1 L : Nat} (hC : CD σ n r) (hS : SH σ) (g1 : sm [1, 5, 6] σ σ1) (g2 : RO σ1 L) (hK : KO σ N1) (t0 : TXT σ 0 N0 (σ.1 3)) (t1 : TXT σ 1 N1 (σ.1 4)) : Inv (si σ1 36 0 (nI L)) := by
  have s2 : sm [36] σ1 (si σ1 36 0 (nI L)) := sm.rfl'.si (by decide)
  refine Inv_text hC hS ((g1.mono (by decide)).trans (s2.mono (by decide))) (g2.sm s2 (by decide) (by decide) (by decide) (by decide)) ((hK.sm g1 (by decide) (by decide) (by decide) (by decide) (by decide) (by decide) (by decide)).sm s2 (by decide) (by decide) (by decide) (by decide) (by decide) (by decide) (by decide)) ?_ ?_
  · rw [(s2 3 (by decide)).1, (g1 3 (by decide)).1]
    exact TXT_len (t0.sm g1 (by decide) (by decide)) g2.1
  · rw [(s2 4 (by decide)).1, (g1 4 (by decide)).1]
    exact TXT_oth (t1.sm g1 (by decide) (by decide)) (by decide)
theorem len1 {σ σ1 : St} {n r N0 N1 L : Nat} (hC : CD σ n r) (hS : SH σ) (g1 : sm [2, 7, 8, 9, 10, 11] σ σ1) (g2 : KO σ1 L) (hR : RO σ N0) (t0 : TXT σ 0 N0 (σ.1 3)) (t1 : TXT σ 1 N1 (σ.1 4)) : Inv (si σ1 36 1 (nI L)) := by
  have s2 : sm [36] σ1 (si σ1 36 1 (nI L)) := sm.rfl'.si (by decide)
  refine Inv_text hC hS ((g1.mono (by decide)).trans (s2.mono (by decide))) ((hR.sm g1 (by decide) (by decide) (by decide) (by decide)).sm s2 (by decide) (by decide) (by decide) (by decide)) (g2.sm s2 (by decide) (by decide) (by decide) (by decide) (by decide) (by decide) (by decide)) ?_ ?_
  · rw [(s2 3 (by decide)).1, (g1 3 (by decide)).1]
    exact TXT_oth (t0.sm g1 (by decide) (by decide)) (by decide)
  · rw [(s2 4 (by decide)).1, (g1 4 (by decide)).1]
    exact TXT_len (t1.sm g1 (by decide) (by decide)) g2.1
theorem st_wipe {σ : St} {t : Int32} (hI : Inv σ) : JtI M8_wipe M9_wipe [.int t] σ := by
  have hI0 := hI
  obtain ⟨⟨n, r, hC⟩, hS⟩ := hI
  obtain ⟨a1, a2, a3, a4, a5, N0, N1, hR, hK, t0, t1, -, -⟩ := hC.1.1
  by_cases hb : t = 0 ∨ t = 1
  · rcases hb with rfl | rfl
    · refine v8_wipe0 hR (fun σ1 g1 g2 => ?_)
      exact ⟨_, rfl, v9_wipeN (t := 0) (t0.sm g1 (by decide) (by decide)) ⟨rfl, len0 hC hS g1 g2 hK t0 t1⟩⟩
    · refine v8_wipe1 a1 hK (fun σ1 g1 g2 => ?_)
      exact ⟨_, rfl, v9_wipeN (t := 1) (t1.sm g1 (by decide) (by decide)) ⟨rfl, len1 hC hS g1 g2 hR t0 t1⟩⟩
  · exact v8_wipe_bad hb ⟨_, rfl, v9_wipe_bad hb ⟨rfl, hI0⟩⟩
theorem st_undo {σ : St} {t : Int32} (hI : Inv σ) : JtI M8_undo M9_undo [.int t] σ := by
  have hI0 := hI
  obtain ⟨⟨n, r, hC⟩, hS⟩ := hI
  obtain ⟨a1, a2, a3, a4, a5, N0, N1, hR, hK, t0, t1, -, -⟩ := hC.1.1
  by_cases hb : t = 0 ∨ t = 1
  · rcases hb with rfl | rfl
    · refine v8_undo0 hR (fun e => ⟨_, rfl, v9_undoN (t := 0) t0 (fun _ => ⟨rfl, hI0⟩) (fun q => by omega)⟩) (fun h0 σ1 g1 g2 => ?_)
      exact ⟨_, rfl, v9_undoN (t := 0) (t0.sm g1 (by decide) (by decide)) (fun q => by omega) (fun _ => ⟨rfl, len0 hC hS g1 g2 hK t0 t1⟩)⟩
    · refine v8_undo1 a1 hK (fun e => ⟨_, rfl, v9_undoN (t := 1) t1 (fun _ => ⟨rfl, hI0⟩) (fun q => by omega)⟩) (fun h0 σ1 g1 g2 => ?_)
      exact ⟨_, rfl, v9_undoN (t := 1) (t1.sm g1 (by decide) (by decide)) (fun q => by omega) (fun _ => ⟨rfl, len1 hC hS g1 g2 hR t0 t1⟩)⟩
  · exact v8_undo_bad hb ⟨_, rfl, v9_undo_bad hb ⟨rfl, hI0⟩⟩
theorem st_supper {σ : St} {m k : Int32} (hI : Inv σ) : JtI M8_supper M9_supper [.int m, .int k] σ := by
  have hI0 := hI
  obtain ⟨⟨n, r, hC⟩, hS⟩ := hI
  by_cases hb : (0 ≤ m ∧ m < 6) ∧ (k = -1 ∨ 0 ≤ k ∧ k < 4)
  · obtain ⟨h1, h2⟩ := hb
    obtain ⟨m, hm, rfl⟩ := natL6 h1
    refine v8_supperN hm h2 ⟨_, rfl, v9_supperN hm h2 ⟨?_, ?_⟩⟩
    · have e : (si σ 29 m k).1 42 m = σ.1 29 m := by rw [si_1, if_neg (by decide), hC.1.2]
      rw [e]
    · have s2 : sq [29, 42] [] σ (si (si σ 29 m k) 42 m k) := (sq.rfl'.si (by decide) (by decide)).si (by decide) (by decide)
      obtain ⟨⟨j, a⟩, b, c, d, e, f⟩ := hC
      refine ⟨⟨n, r, ⟨j.sq s2 (by decide) (by decide), ?_⟩, b.sm s2.sm (by decide), c.sm s2.sm (by decide), ?_, ?_, ?_⟩, SH_of hS s2 (by decide)⟩
      · show upd (σ.1 42) m k = upd (σ.1 29) m k
        rw [a]
      · exact d
      · exact e
      · exact f
  · exact v8_supper_bad hb ⟨_, rfl, v9_supper_bad hb ⟨rfl, hI0⟩⟩
theorem st_dreamt {σ : St} {m k : Int32} (hI : Inv σ) : JtI M8_dreamt M9_dreamt [.int m, .int k] σ := by
  have hI0 := hI
  obtain ⟨⟨n, r, hC⟩, hS⟩ := hI
  by_cases hb : (0 ≤ m ∧ m < 6) ∧ (k = -1 ∨ 0 ≤ k ∧ k < 4)
  · obtain ⟨h1, h2⟩ := hb
    obtain ⟨m, hm, rfl⟩ := natL6 h1
    refine v8_dreamtN hm h2 ⟨_, rfl, v9_dreamtN hm h2 ⟨?_, ?_⟩⟩
    · have e : (si σ 32 m k).1 44 m = σ.1 32 m := by rw [si_1, if_neg (by decide), hC.2.2.2.2.1]
      rw [e]
    · have s2 : sq [32, 44] [] σ (si (si σ 32 m k) 44 m k) := (sq.rfl'.si (by decide) (by decide)).si (by decide) (by decide)
      obtain ⟨⟨j, a⟩, b, c, d, e, f⟩ := hC
      refine ⟨⟨n, r, ⟨j.sq s2 (by decide) (by decide), a⟩, b.sm s2.sm (by decide), ?_, d, ?_, f⟩, SH_of hS s2 (by decide)⟩
      · intro x hx
        show upd (σ.1 32) m k x = -1 ∨ ∃ k', k' < 4 ∧ upd (σ.1 32) m k x = nI k'
        by_cases q : x = m
        · subst q
          rw [upd_at]
          rcases h2 with h2 | h2
          · exact Or.inl h2
          · obtain ⟨k, hk, rfl⟩ := natL4 h2
            exact Or.inr ⟨k, hk, rfl⟩
        · rw [upd_ne q]; exact c x hx
      · show upd (σ.1 44) m k = upd (σ.1 32) m k
        rw [e]
  · exact v8_dreamt_bad hb ⟨_, rfl, v9_dreamt_bad hb ⟨rfl, hI0⟩⟩
theorem st_pay {σ : St} {m k : Int32} (hI : Inv σ) : JtI M8_pay M9_pay [.int m, .int k] σ := by
  have hI0 := hI
  obtain ⟨⟨n, r, hC⟩, hS⟩ := hI
  by_cases hb : (0 ≤ m ∧ m < 6) ∧ 0 ≤ k ∧ k ≤ 99
  · obtain ⟨h1, h2⟩ := hb
    obtain ⟨m, hm, rfl⟩ := natL6 h1
    refine v8_payN hm h2 ⟨_, rfl, v9_payN hm h2 ⟨?_, ?_⟩⟩
    · have e : (si σ 31 m k).1 43 m = σ.1 31 m := by rw [si_1, if_neg (by decide), hC.2.2.2.1]
      rw [e]
    · have s2 : sq [31, 43] [] σ (si (si σ 31 m k) 43 m k) := (sq.rfl'.si (by decide) (by decide)).si (by decide) (by decide)
      obtain ⟨⟨j, a⟩, b, c, d, e, f⟩ := hC
      refine ⟨⟨n, r, ⟨j.sq s2 (by decide) (by decide), a⟩, ?_, c.sm s2.sm (by decide), ?_, e, f⟩, SH_of hS s2 (by decide)⟩
      · intro x hx
        show ∃ k', k' ≤ 99 ∧ upd (σ.1 31) m k x = nI k'
        by_cases q : x = m
        · subst q
          rw [upd_at]
          obtain ⟨k, hk, rfl⟩ := natOf (n := 99) rfl h2
          exact ⟨k, hk, rfl⟩
        · rw [upd_ne q]; exact b x hx
      · show upd (σ.1 43) m k = upd (σ.1 31) m k
        rw [d]
  · exact v8_pay_bad hb ⟨_, rfl, v9_pay_bad hb ⟨rfl, hI0⟩⟩
theorem st_set {σ : St} {w v : Int32} (hI : Inv σ) : JtI M8_set M9_set [.int w, .int v] σ := by
  have hI0 := hI
  obtain ⟨⟨n, r, hC⟩, hS⟩ := hI
  obtain ⟨⟨⟨a1, a2, a3, a4, a5, N0, N1, hR, hK, t0, t1, en, er⟩, a⟩, b, c, d, e, f⟩ := hC
  refine v8_set (fun hb => ⟨_, rfl, v9_set (fun _ => ⟨rfl, hI0⟩) (fun q y => absurd ⟨Or.inl q, y⟩ hb) (fun q y => absurd ⟨Or.inr q, y⟩ hb)⟩) (fun q y => ?_) (fun q y => ?_)
  · subst q
    refine ⟨_, rfl, v9_set (fun z => absurd ⟨Or.inl rfl, y⟩ z) (fun _ _ => ⟨?_, ?_⟩) (fun z => absurd z (by decide))⟩
    · show some (Value.int (σ.1 35 9)) = _
      rw [a4]
    · obtain ⟨z, hz, rfl⟩ := natOf (n := 9) rfl y
      have s2 : sm [0, 35] σ (si (si σ 0 15 (nI z)) 35 9 (nI z)) := (sm.rfl'.si (by decide)).si (by decide)
      refine ⟨⟨n, r, ⟨⟨a1.sm s2 (by decide) (by decide), ⟨z, hz, rfl⟩, a3, rfl, a5, N0, N1, hR.sm s2 (by decide) (by decide) (by decide) (by decide), hK.sm s2 (by decide) (by decide) (by decide) (by decide) (by decide) (by decide) (by decide), t0, t1, en, er⟩, a⟩, b.sm s2 (by decide), c.sm s2 (by decide), d, e, f⟩, hS.fr (fun o ho => (s2 o (by revert ho; revert o; decide)).1)⟩
  · subst q
    refine ⟨_, rfl, v9_set (fun z => absurd ⟨Or.inr rfl, y⟩ z) (fun z => absurd z (by decide)) (fun _ _ => ⟨?_, ?_⟩)⟩
    · show some (Value.int (σ.1 35 10)) = _
      rw [a5]
    · obtain ⟨z, hz, rfl⟩ := natOf (n := 9) rfl y
      have s2 : sm [0, 35] σ (si (si σ 0 16 (nI z)) 35 10 (nI z)) := (sm.rfl'.si (by decide)).si (by decide)
      refine ⟨⟨n, r, ⟨⟨a1.sm s2 (by decide) (by decide), a2, ⟨z, hz, rfl⟩, a4, rfl, N0, N1, hR.sm s2 (by decide) (by decide) (by decide) (by decide), hK.sm s2 (by decide) (by decide) (by decide) (by decide) (by decide) (by decide) (by decide), t0, t1, en, er⟩, a⟩, b.sm s2 (by decide), c.sm s2 (by decide), d, e, f⟩, hS.fr (fun o ho => (s2 o (by revert ho; revert o; decide)).1)⟩
/-! sheets -/
theorem CD.found {σ : St} {n r : Nat} {v : Int32} (hC : CD σ n r) : CD (si (si σ 0 17 v) 35 30 v) n r := by
  obtain ⟨⟨⟨a1, a2, a3, a4, a5, N0, N1, hR, hK, t0, t1, en, er⟩, a⟩, b, c, d, e, f⟩ := hC
  have s2 : sm [0, 35] σ (si (si σ 0 17 v) 35 30 v) := (sm.rfl'.si (by decide)).si (by decide)
  exact ⟨⟨⟨a1.sm s2 (by decide) (by decide), a2, a3, a4, a5, N0, N1, hR.sm s2 (by decide) (by decide) (by decide) (by decide), hK.sm s2 (by decide) (by decide) (by decide) (by decide) (by decide) (by decide) (by decide), t0, t1, en, er⟩, a⟩, b.sm s2 (by decide), c.sm s2 (by decide), d, e, rfl⟩
theorem Inv.found {σ : St} {v : Int32} (hI : Inv σ) : Inv (si (si σ 0 17 v) 35 30 v) := by
  obtain ⟨⟨n, r, hC⟩, hS⟩ := hI
  have s2 : sm [0, 35] σ (si (si σ 0 17 v) 35 30 v) := (sm.rfl'.si (by decide)).si (by decide)
  exact ⟨⟨n, r, hC.found⟩, hS.fr (fun o ho => (s2 o (by revert ho; revert o; decide)).1)⟩
theorem shp {s : Nat} (hs : s < 4) : ∀ o, o ∈ [21 + s, 25 + s] → o ∈ [21, 22, 23, 24, 25, 26, 27, 28] := by rcases s4 hs with rfl | rfl | rfl | rfl <;> decide
theorem shq {s : Nat} (hs : s < 4) : 25 + s ∈ [21, 22, 23, 24, 25, 26, 27, 28] ∧ 21 + s ∈ [21, 22, 23, 24, 25, 26, 27, 28] := by rcases s4 hs with rfl | rfl | rfl | rfl <;> decide
def shm : List Nat := [21, 22, 23, 24, 25, 26, 27, 28, 51, 52, 53, 54, 55]
theorem CDsh {σ τ : St} {n r : Nat} (h : CD σ n r) (hs : sq shm [] σ τ) : CD τ n r := h.sq hs (by decide) (by decide)
theorem there_iff {σ : St} {s z : Nat} (h : SHs σ s z) : (σ.1 (21 + s) 3 = 0) ↔ ¬ σ.1 51 s = 0 := by
  rcases h.2.1 with ⟨a, b⟩ | ⟨a, b⟩ <;> rw [a, b] <;> decide
theorem st_sheet {σ : St} {t f m : Int32} (hI : Inv σ) : JtI M8_sheet M9_sheet [.int t, .int f, .int m] σ := by
  have hI0 := hI
  obtain ⟨⟨n, r, hC⟩, hS⟩ := hI
  by_cases hb : (0 ≤ t ∧ t < 4) ∧ (0 ≤ f ∧ f < 3) ∧ m ≤ 48
  · obtain ⟨h1, h2, h3⟩ := hb
    by_cases hm0 : m < 0
    · exact v8_sheet_neg h1 h2 hm0 ⟨_, rfl, v9_sheet_neg h1 h2 hm0 ⟨rfl, hI0.found⟩⟩
    · obtain ⟨s, hs, rfl⟩ := natL4 h1
      obtain ⟨m, hm, rfl⟩ := natOf (n := 48) rfl ⟨Int32.not_lt.mp hm0, h3⟩
      refine v8_sheetN hs h2 hm (fun σ1 g1 g2 g3 g4 g5 => ?_)
      refine ⟨_, rfl, v9_sheetN hs h2 hm (fun σ2 w1 w2 w3 w4 w5 w6 => ⟨rfl, ?_⟩)⟩
      have q1 : sq shm [] σ σ1 := ((g1.mono (shp hs)).sq (by decide)).mono (by decide) (by decide)
      refine ⟨⟨n, r, CDsh (CDsh hC q1) (w1.mono (by decide) (by decide))⟩, fun s' hs' => ?_⟩
      by_cases e : s' = s
      · subst e
        have a1 : σ2.1 (21 + s') = σ1.1 (21 + s') := (w1.1 _ (by simp; omega) (by omega)).1
        have a2 : σ2.1 (25 + s') = σ1.1 (25 + s') := (w1.1 _ (by simp; omega) (by omega)).1
        refine ⟨m, hm, Or.inl ⟨?_, ?_⟩, ?_, ?_, ?_, fun i hi => ?_⟩
        · rw [a1, g4]
        · rw [w2, upd_at]
        · rw [w3, upd_at, a1, g2]
        · rw [a1, g3]
        · rw [w4, upd_at]
        · rw [w5 i (by omega), a2, g5 i hi]
      · obtain ⟨z, hz⟩ := hS s' hs'
        have c1 : ∀ o, (o = 21 + s' ∨ o = 25 + s') → σ2.1 o = σ.1 o := fun o ho => by
          rw [(w1.1 o (by simp; omega) (by omega)).1, (g1 o (by simp; omega)).1]
        refine ⟨z, hz.fr (c1 _ (Or.inl rfl)) ?_ ?_ ?_ (fun i hi => ?_) (c1 _ (Or.inr rfl))⟩
        · rw [w2, upd_ne e, (g1 51 (by simp; omega)).1]
        · rw [w3, upd_ne e, (g1 52 (by simp; omega)).1]
        · rw [w4, upd_ne e, (g1 53 (by simp; omega)).1]
        · rw [w6 _ (by omega), (g1 54 (by simp; omega)).1]
  · exact v8_sheet_bad hb ⟨_, rfl, v9_sheet_bad hb ⟨rfl, hI0⟩⟩
theorem st_lose {σ : St} {t : Int32} (hI : Inv σ) : JtI M8_lose M9_lose [.int t] σ := by
  have hI0 := hI
  obtain ⟨⟨n, r, hC⟩, hS⟩ := hI
  by_cases hb : 0 ≤ t ∧ t < 4
  · obtain ⟨s, hs, rfl⟩ := natL4 hb
    obtain ⟨z, hz⟩ := hS s hs
    have hti := there_iff hz
    refine v8_loseN hs (fun q => ?_) (fun q => ?_)
    · have q2 : σ.1 51 s = 0 := Classical.not_not.mp (fun x => q (hti.mpr x))
      exact ⟨_, rfl, v9_loseN hs (fun _ => ⟨rfl, hI0.found⟩) (fun x => absurd q2 x)⟩
    · have q2 := hti.mp q
      have e51 : (si σ (21 + s) 3 1).1 51 = σ.1 51 := by rw [si_1, if_neg (by omega)]
      have e53 : (si σ (21 + s) 3 1).1 53 = σ.1 53 := by rw [si_1, if_neg (by omega)]
      refine ⟨_, rfl, v9_loseN hs (fun x => absurd x (by rw [e51]; exact q2)) (fun _ => ⟨?_, ?_⟩)⟩
      · rw [e53, hz.2.2.2.2.1, hz.2.2.2.1]
      · have s2 : sq shm [] σ (si (si σ (21 + s) 3 1) 51 s 0) := (sq.rfl'.si (by rcases s4 hs with rfl | rfl | rfl | rfl <;> decide) (by omega)).si (by decide) (by decide)
        refine ⟨⟨n, r, CDsh hC s2⟩, fun s' hs' => ?_⟩
        obtain ⟨z', hz'⟩ := hS s' hs'
        have i1 : ∀ o, o ≠ 21 + s → o ≠ 51 → (si (si σ (21 + s) 3 1) 51 s 0).1 o = σ.1 o := fun o h1 h2 => by rw [si_1, if_neg h2, si_1, if_neg h1]
        have i51 : (si (si σ (21 + s) 3 1) 51 s 0).1 51 = upd (σ.1 51) s 0 := by rw [si_1, if_pos rfl, e51]
        by_cases e : s' = s
        · subst e
          have i21 : (si (si σ (21 + s') 3 1) 51 s' 0).1 (21 + s') = upd (σ.1 (21 + s')) 3 1 := by rw [si_1, if_neg (by omega), si_1, if_pos rfl]
          refine ⟨z', hz'.1, Or.inr ⟨?_, ?_⟩, ?_, ?_, ?_, fun i hi => ?_⟩
          · rw [i21, upd_at]
          · rw [i51, upd_at]
          · rw [i1 52 (by omega) (by decide), i21, upd_ne (by decide)]; exact hz'.2.2.1
          · rw [i21, upd_ne (by decide)]; exact hz'.2.2.2.1
          · rw [i1 53 (by omega) (by decide)]; exact hz'.2.2.2.2.1
          · rw [i1 54 (by omega) (by decide), i1 (25 + s') (by omega) (by omega)]; exact hz'.2.2.2.2.2 i hi
        · refine ⟨z', hz'.fr (i1 _ (by omega) (by omega)) ?_ ?_ ?_ (fun i _ => ?_) (i1 _ (by omega) (by omega))⟩
          · rw [i51, upd_ne e]
          · rw [i1 52 (by omega) (by decide)]
          · rw [i1 53 (by omega) (by decide)]
          · rw [i1 54 (by omega) (by decide)]
  · exact v8_lose_bad hb ⟨_, rfl, v9_lose_bad hb ⟨rfl, hI0⟩⟩
theorem fnd_mfn {σ : St} {s z : Nat} {a i : Int32} (h : SHs σ s z) : mfn σ s a i = fnd σ s a i := by
  have hti := there_iff h
  unfold mfn fnd
  rw [h.2.2.1, h.2.2.2.1, h.2.2.2.2.1]
  by_cases q : σ.1 (21 + s) 3 = 0
  · rw [if_pos q, if_neg (hti.mp q)]
  · rw [if_neg q, if_pos (Classical.not_not.mp (fun x => q (hti.mpr x)))]
theorem st_get {σ : St} {t f i : Int32} (hI : Inv σ) : JtI M8_get M9_get [.int t, .int f, .int i] σ := by
  have hI0 := hI
  obtain ⟨⟨n, r, hC⟩, hS⟩ := hI
  by_cases hb : (0 ≤ t ∧ t < 4) ∧ (0 ≤ f ∧ f < 3)
  · obtain ⟨h1, h2⟩ := hb
    obtain ⟨s, hs, rfl⟩ := natL4 h1
    obtain ⟨z, hz⟩ := hS s hs
    have e := fnd_mfn (a := f) (i := i) hz
    refine v8_getN hs h2 hz.2.2.2.1 hz.1 (fun q => ?_) (fun q j hj ej => ?_)
    · have e0 : mfn (si σ 0 17 (fnd σ s f i)) s f i = fnd σ s f i := e
      exact ⟨_, rfl, v9_getN hs h2 hz.2.2.2.2.1 hz.1 (fun _ => ⟨rfl, by rw [e0]; exact hI0.found⟩) (fun x => absurd (e0 ▸ x) q)⟩
    · refine ⟨_, rfl, v9_getN hs h2 hz.2.2.2.2.1 hz.1 (fun x => absurd (e.trans q) x) (fun _ j' hj' ej' => ⟨?_, hI0⟩)⟩
      have : j' = j := (nI_eq (by have := hz.1; omega) (by have := hz.1; omega)).mp (ej'.symm.trans ej)
      subst this
      rw [hz.2.2.2.2.2 j' hj']
  · exact v8_get_bad hb ⟨_, rfl, v9_get_bad hb ⟨rfl, hI0⟩⟩
theorem st_put {σ : St} {t f i v : Int32} (hI : Inv σ) : JtI M8_put M9_put [.int t, .int f, .int i, .int v] σ := by
  have hI0 := hI
  obtain ⟨⟨n, r, hC⟩, hS⟩ := hI
  by_cases hb : (0 ≤ t ∧ t < 4) ∧ (0 ≤ f ∧ f < 3)
  · obtain ⟨h1, h2⟩ := hb
    obtain ⟨s, hs, rfl⟩ := natL4 h1
    obtain ⟨z, hz⟩ := hS s hs
    have e := fnd_mfn (a := f) (i := i) hz
    refine v8_putN hs h2 hz.2.2.2.1 hz.1 (fun q => ?_) (fun q j hj ej => ?_)
    · have e0 : mfn (si σ 0 17 (fnd σ s f i)) s f i = fnd σ s f i := e
      exact ⟨_, rfl, v9_putN hs h2 hz.2.2.2.2.1 hz.1 (fun _ => ⟨by rw [e0], by rw [e0]; exact hI0.found⟩) (fun x => absurd (e0 ▸ x) q)⟩
    · have n1 : ∀ o, o ≠ 25 + s → (si σ (25 + s) j (cvt f v)).1 o = σ.1 o := fun o ho => by rw [si_1, if_neg ho]
      have e0 : mfn (si σ (25 + s) j (cvt f v)) s f i = 0 := by
        rw [← q, ← e]
        unfold mfn
        rw [n1 51 (by omega), n1 52 (by omega), n1 53 (by omega)]
      refine ⟨_, rfl, v9_putN hs h2 (by rw [n1 53 (by omega)]; exact hz.2.2.2.2.1) hz.1 (fun x => absurd e0 x) (fun _ j' hj' ej' => ⟨rfl, ?_⟩)⟩
      have : j' = j := (nI_eq (by have := hz.1; omega) (by have := hz.1; omega)).mp (ej'.symm.trans ej)
      subst this
      have h48 := hz.1
      have s2 : sq shm [] σ (si (si σ (25 + s) j' (cvt f v)) 54 (48 * s + j') (cvt f v)) := (sq.rfl'.si (by rcases s4 hs with rfl | rfl | rfl | rfl <;> decide) (by omega)).si (by decide) (by decide)
      refine ⟨⟨n, r, CDsh hC s2⟩, fun s' hs' => ?_⟩
      obtain ⟨z', hz'⟩ := hS s' hs'
      have i1 : ∀ o, o ≠ 25 + s → o ≠ 54 → (si (si σ (25 + s) j' (cvt f v)) 54 (48 * s + j') (cvt f v)).1 o = σ.1 o := fun o h1 h2 => by rw [si_1, if_neg h2, si_1, if_neg h1]
      have i54 : (si (si σ (25 + s) j' (cvt f v)) 54 (48 * s + j') (cvt f v)).1 54 = upd (σ.1 54) (48 * s + j') (cvt f v) := by rw [si_1, if_pos rfl, n1 54 (by omega)]
      by_cases es : s' = s
      · subst es
        have i25 : (si (si σ (25 + s') j' (cvt f v)) 54 (48 * s' + j') (cvt f v)).1 (25 + s') = upd (σ.1 (25 + s')) j' (cvt f v) := by rw [si_1, if_neg (by omega), si_1, if_pos rfl]
        unfold SHs
        rw [i1 (21 + s') (by omega) (by omega), i1 51 (by omega) (by decide), i1 52 (by omega) (by decide), i1 53 (by omega) (by decide), i54, i25]
        refine ⟨z', hz'.1, hz'.2.1, hz'.2.2.1, hz'.2.2.2.1, hz'.2.2.2.2.1, fun x hx => ?_⟩
        by_cases q : x = j'
        · subst q; rw [upd_at, upd_at]
        · rw [upd_ne q, upd_ne (by omega)]; exact hz'.2.2.2.2.2 x hx
      · refine ⟨z', hz'.fr (i1 _ (by omega) (by omega)) ?_ ?_ ?_ (fun x hx => ?_) (i1 _ (by omega) (by omega))⟩
        · rw [i1 51 (by omega) (by decide)]
        · rw [i1 52 (by omega) (by decide)]
        · rw [i1 53 (by omega) (by decide)]
        · rw [i54, upd_ne (by omega)]
  · exact v8_put_bad hb ⟨_, rfl, v9_put_bad hb ⟨rfl, hI0⟩⟩
