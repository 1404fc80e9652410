/-! read, copy, write -/
theorem rdk_cg {f g : Nat → Int32} {z : Nat} (h : ∀ i, i < z → f i = g i) : ∀ d i, rdk f z d i = rdk g z d i := by
  intro d
  induction d with
  | zero => intro i; rfl
  | succ d ih =>
    intro i
    unfold rdk
    by_cases q : i < z
    · rw [h i q, ih]
    · rw [if_neg (fun y => q y.1), if_neg (fun y => q y.1)]
theorem rdk_ok {f : Nat → Int32} {z : Nat} : ∀ d i j, i ≤ j → j < rdk f z d i → j < z ∧ ipay (f j) = true := by
  intro d
  induction d with
  | zero => intro i j h1 h2; exact absurd h2 (by unfold rdk; omega)
  | succ d ih =>
    intro i j h1 h2
    unfold rdk at h2
    by_cases q : i < z ∧ ipay (f i) = true
    · rw [if_pos q] at h2
      by_cases e : i = j
      · subst e; exact q
      · exact ih (i + 1) j (by omega) h2
    · rw [if_neg q] at h2
      omega
theorem st_read {σ : St} {t : Int32} (hI : Inv σ) : JtI M8_read M9_read [.int t] σ := by
  have hI0 := hI
  obtain ⟨⟨n, r, hC⟩, hS⟩ := hI
  by_cases hb : 0 ≤ t ∧ t < 4
  · obtain ⟨s, hs, rfl⟩ := natL4 hb
    obtain ⟨z, hz⟩ := hS s hs
    have hti := there_iff hz
    refine v8_readN hs hz.2.2.2.1 hz.1 (fun q => ?_) (fun q => ?_)
    · have q2 : σ.1 51 s = 0 := Classical.not_not.mp (fun x => q (hti.mpr x))
      exact ⟨_, rfl, v9_readN hs hz.2.2.2.2.1 hz.1 (fun _ => ⟨rfl, hI0.found⟩) (fun x => absurd q2 x)⟩
    · have q2 := hti.mp q
      have hit : ∀ i, i < z → itm σ s i = σ.1 (25 + s) i := hz.2.2.2.2.2
      have ek : rdk (itm σ s) z 6 0 = rdk (σ.1 (25 + s)) z 6 0 := rdk_cg hit 6 0
      have ok := rdk_ok (f := σ.1 (25 + s)) (z := z) 6 0
      generalize hk : rdk (σ.1 (25 + s)) z 6 0 = k at ek ok
      have ep : rdp (itm σ s) (σ.1 43) k = rdp (σ.1 (25 + s)) (σ.1 31) k := by
        funext j
        unfold rdp
        by_cases y : j < k
        · rw [if_pos y, if_pos y]; exact hit j (ok j (Nat.zero_le _) y).1
        · rw [if_neg y, if_neg y, hC.2.2.2.1]
      refine ⟨_, rfl, v9_readN hs hz.2.2.2.2.1 hz.1 (fun x => absurd x q2) (fun _ => ?_)⟩
      have e1 : itm (sa σ 31 (rdp (σ.1 (25 + s)) (σ.1 31) k)) s = itm σ s := rfl
      have e2 : (sa σ 31 (rdp (σ.1 (25 + s)) (σ.1 31) k)).1 43 = σ.1 43 := rfl
      rw [e1, e2, ek, ep]
      refine ⟨rfl, ?_⟩
      have s2 : sq [31, 43] [] σ (sa (sa σ 31 (rdp (σ.1 (25 + s)) (σ.1 31) k)) 43 (rdp (σ.1 (25 + s)) (σ.1 31) k)) := (sq.rfl'.sa (by decide) (by decide)).sa (by decide) (by decide)
      obtain ⟨⟨j, a⟩, b, c, d, e, f⟩ := hC
      refine ⟨⟨n, r, ⟨j.sq s2 (by decide) (by decide), a⟩, fun x hx => ?_, c.sm s2.sm (by decide), rfl, e, f⟩, SH_of hS s2 (by decide)⟩
      show ∃ y, y ≤ 99 ∧ rdp (σ.1 (25 + s)) (σ.1 31) k x = nI y
      unfold rdp
      by_cases y : x < k
      · rw [if_pos y]
        have h2 := (ok x (Nat.zero_le _) y).2
        simp only [ipay, decide_eq_true_eq] at h2
        exact natOf (n := 99) rfl h2
      · rw [if_neg y]; exact b x hx
  · exact v8_read_bad hb ⟨_, rfl, v9_read_bad hb ⟨rfl, hI0⟩⟩
theorem hld_mhl {σ : St} {s z : Nat} {i m : Int32} (h : SHs σ s z) : mhl σ s i m ↔ hld σ s i m := by
  have h48 := h.1
  unfold mhl hld
  rw [h.2.2.2.1, h.2.2.2.2.1]
  have e0 : (0 : Int32).toInt = 0 := rfl
  have e1 := nI_toInt (show z < 2 ^ 31 by omega)
  have a1 := Int32.le_toInt i
  have a2 := Int32.toInt_lt i
  have b1 := Int32.le_toInt m
  have b2 := Int32.toInt_lt m
  rw [Int32.lt_iff_toInt_lt, Int32.lt_iff_toInt_lt, Int32.le_iff_toInt_le, Int32.le_iff_toInt_le, Int32.le_iff_toInt_le, Int32.le_iff_toInt_le, e0, e1]
  by_cases q : 0 ≤ m.toInt ∧ m.toInt ≤ (z : Int)
  · have e2 : (nI z - m).toInt = (z : Int) - m.toInt := by
      rw [Int32.toInt_sub, e1, Int.bmod_eq_of_le (by omega) (by omega)]
    rw [e2]
    omega
  · constructor
    · intro x; omega
    · intro x; omega
theorem st_copy {σ : St} {s i t j m : Int32} (hI : Inv σ) : JtI M8_copy M9_copy [.int s, .int i, .int t, .int j, .int m] σ := by
  have hI0 := hI
  obtain ⟨⟨n, r, hC⟩, hS⟩ := hI
  by_cases hb : (0 ≤ s ∧ s < 4) ∧ (0 ≤ t ∧ t < 4)
  · obtain ⟨h1, h2⟩ := hb
    obtain ⟨s, hs, rfl⟩ := natL4 h1
    obtain ⟨t, ht, rfl⟩ := natL4 h2
    obtain ⟨z, hz⟩ := hS s hs
    obtain ⟨y, hy⟩ := hS t ht
    have i1 := there_iff hz
    have i2 := there_iff hy
    have i3 : (σ.1 52 s = σ.1 52 t) ↔ (σ.1 (21 + s) 1 = σ.1 (21 + t) 1) := by rw [hz.2.2.1, hy.2.2.1]
    have j1 := hld_mhl (i := i) (m := m) hz
    have j2 := hld_mhl (i := j) (m := m) hy
    refine v8_copyN hs ht hz.2.2.2.1 hz.1 hy.2.2.2.1 hy.1 (fun q => ?_) (fun q q2 => ?_) (fun q q2 q3 => ?_) (fun q q2 q3 q4 a b c ea eb ec la lb => ?_)
    · refine ⟨_, rfl, v9_copyN hs ht hz.2.2.2.2.1 hz.1 hy.2.2.2.2.1 hy.1 (fun _ => ⟨rfl, hI0.found⟩) (fun x => ?_) (fun x => ?_) (fun x => ?_)⟩
      · exact absurd ⟨i1.mpr x.1, i2.mpr x.2⟩ q
      · exact absurd ⟨i1.mpr x.1, i2.mpr x.2⟩ q
      · exact absurd ⟨i1.mpr x.1, i2.mpr x.2⟩ q
    · refine ⟨_, rfl, v9_copyN hs ht hz.2.2.2.2.1 hz.1 hy.2.2.2.2.1 hy.1 (fun x => absurd ⟨i1.mp q.1, i2.mp q.2⟩ x) (fun _ _ => ⟨rfl, hI0.found⟩) (fun _ x => absurd (i3.mp x) q2) (fun _ x => absurd (i3.mp x) q2)⟩
    · refine ⟨_, rfl, v9_copyN hs ht hz.2.2.2.2.1 hz.1 hy.2.2.2.2.1 hy.1 (fun x => absurd ⟨i1.mp q.1, i2.mp q.2⟩ x) (fun _ x => absurd (i3.mpr q2) x) (fun _ _ _ => ⟨rfl, hI0.found⟩) (fun _ _ x x2 => absurd ⟨j1.mp x, j2.mp x2⟩ q3)⟩
    · have h48 := hz.1
      have h49 := hy.1
      have n1 : ∀ o, o ≠ 25 + t → (sa σ (25 + t) (va_cpy (σ.1 (25 + s)) (σ.1 (25 + t)) a b c)).1 o = σ.1 o := fun o ho => by rw [sa_1, if_neg ho]
      have m1 : ∀ u x, mhl (sa σ (25 + t) (va_cpy (σ.1 (25 + s)) (σ.1 (25 + t)) a b c)) u x m ↔ mhl σ u x m := fun u x => by unfold mhl; rw [n1 53 (by omega)]
      refine ⟨_, rfl, v9_copyN hs ht (by rw [n1 53 (by omega)]; exact hz.2.2.2.2.1) hz.1 (by rw [n1 53 (by omega)]; exact hy.2.2.2.2.1) hy.1 (fun x => ?_) (fun _ x => ?_) (fun _ _ x => ?_) (fun _ _ _ _ a' b' c' ea' eb' ec' _ _ σ2 w1 w2 => ⟨rfl, ?_⟩)⟩
      · rw [n1 51 (by omega)] at x
        exact absurd ⟨i1.mp q.1, i2.mp q.2⟩ x
      · rw [n1 52 (by omega)] at x
        exact absurd (i3.mpr q2) x
      · rw [m1, m1] at x
        exact absurd ⟨j1.mpr q3, j2.mpr q4⟩ x
      · have ha : a' = a := (nI_eq (by omega) (by omega)).mp (ea'.symm.trans ea)
        have hb' : b' = b := (nI_eq (by omega) (by omega)).mp (eb'.symm.trans eb)
        have hc : c' = c := (nI_eq (by omega) (by omega)).mp (ec'.symm.trans ec)
        subst ha hb' hc
        have s1 : sq shm [] σ (sa σ (25 + t) (va_cpy (σ.1 (25 + s)) (σ.1 (25 + t)) a' b' c')) := sq.rfl'.sa (by rcases s4 ht with rfl | rfl | rfl | rfl <;> decide) (by omega)
        refine ⟨⟨n, r, CDsh (CDsh hC s1) (w1.mono (by decide) (by decide))⟩, fun s' hs' => ?_⟩
        obtain ⟨z', hz'⟩ := hS s' hs'
        have k1 : ∀ o, o ≠ 25 + t → o ≠ 54 → o ≠ 55 → o ≠ 35 → σ2.1 o = σ.1 o := fun o h1 h2 h3 h4 => by rw [(w1.1 o (by simp; omega) h4).1, n1 o h1]
        by_cases es : s' = t
        · subst es
          have ez : z' = y := (nI_eq (by have := hz'.1; omega) (by omega)).mp (hz'.2.2.2.1.symm.trans hy.2.2.2.1)
          subst ez
          have k25 : σ2.1 (25 + s') = va_cpy (σ.1 (25 + s)) (σ.1 (25 + s')) a' b' c' := by rw [(w1.1 _ (by simp; omega) (by omega)).1, sa_1, if_pos rfl]
          unfold SHs
          rw [k1 (21 + s') (by omega) (by omega) (by omega) (by omega), k1 51 (by omega) (by decide) (by decide) (by decide), k1 52 (by omega) (by decide) (by decide) (by decide), k1 53 (by omega) (by decide) (by decide) (by decide), k25]
          refine ⟨z', hz'.1, hz'.2.1, hz'.2.2.1, hz'.2.2.2.1, hz'.2.2.2.2.1, fun x hx => ?_⟩
          rw [w2 (48 * s' + x), n1 54 (by omega)]
          unfold va_cpy
          by_cases v : b' ≤ x ∧ x < b' + c'
          · rw [if_pos (by omega), if_pos v, show 48 * s + a' + (48 * s' + x - (48 * s' + b')) = 48 * s + (a' + (x - b')) by omega]
            exact hz.2.2.2.2.2 _ (by omega)
          · rw [if_neg (by omega), if_neg v]
            exact hz'.2.2.2.2.2 x hx
        · refine ⟨z', hz'.fr (k1 _ (by omega) (by omega) (by omega) (by omega)) ?_ ?_ ?_ (fun x hx => ?_) (k1 _ (by omega) (by omega) (by omega) (by omega))⟩
          · rw [k1 51 (by omega) (by decide) (by decide) (by decide)]
          · rw [k1 52 (by omega) (by decide) (by decide) (by decide)]
          · rw [k1 53 (by omega) (by decide) (by decide) (by decide)]
          · rw [w2, n1 54 (by omega), if_neg (by omega)]
  · exact v8_copy_bad hb ⟨_, rfl, v9_copy_bad hb ⟨rfl, hI0⟩⟩
theorem st_write {σ : St} {sd t : Int32} (hI : Inv σ) : JtI M8_write M9_write [.int sd, .int t] σ := by
  have hI0 := hI
  obtain ⟨⟨n, r, hC⟩, hS⟩ := hI
  by_cases hb : 0 ≤ t ∧ t < 4
  · obtain ⟨s, hs, rfl⟩ := natL4 hb
    obtain ⟨z, hz⟩ := hS s hs
    have hti := there_iff hz
    have h48 := hz.1
    refine v8_writeN hC.1.1.cv hs hz.2.2.2.1 hz.1 (fun q => ?_) (fun q σ1 g1 g2 => ?_)
    · have q2 : σ.1 51 s = 0 := Classical.not_not.mp (fun x => q (hti.mpr x))
      exact ⟨_, rfl, v9_writeN (hC.found (v := 1)).1 hs hz.2.2.2.2.1 hz.1 (fun _ => ⟨rfl, hI0.found⟩) (fun x => absurd q2 x)⟩
    · have q2 := hti.mp q
      have n1 : ∀ o, o ≠ 19 → o ≠ 25 + s → σ1.1 o = σ.1 o := fun o h1 h2 => (g1 o (by simp; omega)).1
      have s1 : sq (19 :: shm) [] σ σ1 := (g1.mono (by rcases s4 hs with rfl | rfl | rfl | rfl <;> decide)).sq (by decide)
      have hC1 : CD σ1 n r := hC.sq s1 (by decide) (by decide)
      have ew : ww σ1 = ww σ := ww_sm s1.sm (by decide) (by decide) (by decide)
      have ev : wv σ1 = wv σ := by funext c; exact wv_sm s1.sm (by decide) (by decide)
      refine ⟨_, rfl, v9_writeN hC1.1 hs (by rw [n1 53 (by decide) (by omega)]; exact hz.2.2.2.2.1) hz.1 (fun x => ?_) (fun _ σ2 w1 w2 w3 => ⟨rfl, ?_⟩)⟩
      · rw [n1 51 (by decide) (by omega)] at x
        exact absurd x q2
      · rw [ew, ev, n1 52 (by decide) (by omega), hz.2.2.1] at w2
        refine ⟨⟨n, r, hC1.sq w1 (by decide) (by decide)⟩, fun s' hs' => ?_⟩
        obtain ⟨z', hz'⟩ := hS s' hs'
        have k2 : ∀ o, o ∈ [21, 22, 23, 24, 25, 26, 27, 28, 51, 52, 53] → σ2.1 o = σ1.1 o := fun o ho => (w1.1 o (by revert ho; revert o; decide) (by rintro rfl; revert ho; decide)).1
        have m1 : 21 + s' ∈ [21, 22, 23, 24, 25, 26, 27, 28, 51, 52, 53] ∧ 25 + s' ∈ [21, 22, 23, 24, 25, 26, 27, 28, 51, 52, 53] := by rcases s4 hs' with rfl | rfl | rfl | rfl <;> decide
        have k3 : σ2.1 (21 + s') = σ.1 (21 + s') := by rw [k2 _ m1.1, n1 _ (by omega) (by omega)]
        have k51 : σ2.1 51 = σ.1 51 := by rw [k2 51 (by decide), n1 51 (by decide) (by omega)]
        have k52 : σ2.1 52 = σ.1 52 := by rw [k2 52 (by decide), n1 52 (by decide) (by omega)]
        have k53 : σ2.1 53 = σ.1 53 := by rw [k2 53 (by decide), n1 53 (by decide) (by omega)]
        by_cases es : s' = s
        · subst es
          have ez : z' = z := (nI_eq (by have := hz'.1; omega) (by omega)).mp (hz'.2.2.2.1.symm.trans hz.2.2.2.1)
          subst ez
          unfold SHs
          rw [k3, k51, k52, k53, k2 _ m1.2]
          exact ⟨z', hz'.1, hz'.2.1, hz'.2.2.1, hz'.2.2.2.1, hz'.2.2.2.2.1, fun x hx => by rw [w2 x hx, g2 x hx]⟩
        · refine ⟨z', hz'.fr k3 (by rw [k51]) (by rw [k52]) (by rw [k53]) (fun x hx => ?_) ?_⟩
          · rw [w3 _ (by omega), n1 54 (by decide) (by omega)]
          · rw [k2 _ m1.2, n1 _ (by omega) (by omega)]
  · exact v8_write_bad hb ⟨_, rfl, v9_write_bad hb ⟨rfl, hI0⟩⟩
