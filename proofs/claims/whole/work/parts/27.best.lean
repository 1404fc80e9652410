/-! ===== part 27: what pools bring at the most, purely ===== -/
theorem dec_b : (List.range 2401).all (fun c => (List.range 4).all (fun k => dg c k == 0 || (decide (pw k ≤ c) && decide (c - pw k < 2401) && decide (sz (c - pw k) + 1 = sz c) && (List.range 4).all (fun j => dg (c - pw k) j + (if j = k then 1 else 0) == dg c j)))) = true := by decide +kernel
theorem dec_spec {c k : Nat} (hc : c < 2401) (hk : k < 4) (h : 0 < dg c k) : pw k ≤ c ∧ c - pw k < 2401 ∧ sz (c - pw k) + 1 = sz c ∧ ∀ j, j < 4 → dg (c - pw k) j + (if j = k then 1 else 0) = dg c j := by
  have h1 := all_lt (all_lt dec_b hc) hk
  simp only [Bool.or_eq_true, beq_iff_eq, Bool.and_eq_true, decide_eq_true_eq] at h1
  rcases h1 with q | ⟨⟨⟨a, b⟩, c'⟩, d⟩
  · omega
  · exact ⟨a, b, c', fun j hj => by have := all_lt d hj; simpa using this⟩
/-- what is left of a pool behind a recipe: kinds f, s (4: no second one) -/
def lvr (f s c : Nat) : Option Nat := if 0 < dg c f then (if s = 4 then some (c - pw f) else if 0 < dg (c - pw f) s then some (c - pw f - pw s) else none) else none
theorem lvr_spec {f s c x : Nat} (hc : c < 2401) (hf : f < 4) (hs : s ≤ 4) (h : lvr f s c = some x) : x < 2401 ∧ sz x < sz c ∧ sz c ≤ sz x + 2 ∧ (∀ j, j < 4 → dg x j + (if j = f then 1 else 0) + (if j = s then 1 else 0) = dg c j) ∧ x + pw f + (if s = 4 then 0 else pw s) = c := by
  unfold lvr at h
  split at h
  · rename_i h1
    obtain ⟨a1, a2, a3, a4⟩ := dec_spec hc hf h1
    split at h
    · rename_i h2
      cases h
      refine ⟨a2, by omega, by omega, fun j hj => ?_, by rw [if_pos h2]; omega⟩
      rw [a4 j hj, if_neg (by omega)]
      rfl
    · rename_i h2
      split at h
      · rename_i h3
        cases h
        obtain ⟨b1, b2, b3, b4⟩ := dec_spec a2 (show s < 4 by omega) h3
        refine ⟨b2, by omega, by omega, fun j hj => ?_, by rw [if_neg h2]; omega⟩
        have := a4 j hj
        have := b4 j hj
        omega
      · cases h
  · cases h
/-- pools are told by their figures -/
theorem dg_ext : (List.range 2401).all (fun c => decide (c = dg c 0 + 7 * dg c 1 + 49 * dg c 2 + 343 * dg c 3)) = true := by decide +kernel
theorem dg_eq {c c' : Nat} (hc : c < 2401) (hc' : c' < 2401) (h : ∀ j, j < 4 → dg c j = dg c' j) : c = c' := by
  have h1 := of_decide_eq_true (all_lt dg_ext hc)
  have h2 := of_decide_eq_true (all_lt dg_ext hc')
  rw [h1, h2, h 0 (by decide), h 1 (by decide), h 2 (by decide), h 3 (by decide)]
theorem lvr_of {f s c x : Nat} (hc : c < 2401) (hx : x < 2401) (hf : f < 4) (hs : s ≤ 4) (h : ∀ j, j < 4 → dg x j + (if j = f then 1 else 0) + (if j = s then 1 else 0) = dg c j) : lvr f s c = some x := by
  have h1 : 0 < dg c f := by have := h f hf; rw [if_pos rfl] at this; omega
  obtain ⟨a1, a2, a3, a4⟩ := dec_spec hc hf h1
  unfold lvr
  rw [if_pos h1]
  by_cases h2 : s = 4
  · rw [if_pos h2]
    congr 1
    refine dg_eq a2 hx (fun j hj => ?_)
    have := a4 j hj
    have := h j hj
    rw [if_neg (show ¬ j = s by omega)] at this
    omega
  · rw [if_neg h2]
    have h3 : 0 < dg (c - pw f) s := by
      have e1 := a4 s (by omega)
      have e2 := h s (by omega)
      rw [if_pos (show s = s from rfl)] at e2
      omega
    rw [if_pos h3]
    obtain ⟨b1, b2, b3, b4⟩ := dec_spec a2 (show s < 4 by omega) h3
    congr 1
    refine dg_eq b2 hx (fun j hj => ?_)
    have := a4 j hj
    have := b4 j hj
    have := h j hj
    omega
/-- the greatest of what recipes 0 .. j bring, each by its rest -/
def mxo (rf rs rp : Nat → Nat) (g : Nat → Nat) (c : Nat) : Nat → Nat
  | 0 => 0
  | j + 1 => max (mxo rf rs rp g c j) (match lvr (rf j) (rs j) c with | some x => rp j + g x | none => 0)
def bq (rf rs rp : Nat → Nat) (r : Nat) : Nat → Nat → Nat
  | 0, _ => 0
  | s + 1, c => mxo rf rs rp (bq rf rs rp r s) c r
def RV (rf rs rp : Nat → Nat) (r : Nat) : Prop := r ≤ 6 ∧ ∀ j, j < r → rf j < 4 ∧ rs j ≤ 4 ∧ 1 ≤ rp j ∧ rp j ≤ 9
theorem mxo_congr {rf rs rp : Nat → Nat} {g g' : Nat → Nat} {c r : Nat} (hR : RV rf rs rp r) (hc : c < 2401) (h : ∀ x, x < 2401 → sz x < sz c → g x = g' x) : ∀ j, j ≤ r → mxo rf rs rp g c j = mxo rf rs rp g' c j := by
  intro j
  induction j with
  | zero => intro _; rfl
  | succ j ih =>
    intro hj
    simp only [mxo]
    rw [ih (by omega)]
    cases hl : lvr (rf j) (rs j) c with
    | none => rfl
    | some x =>
      have := hR.2 j (by omega)
      obtain ⟨a, b, -⟩ := lvr_spec hc this.1 this.2.1 hl
      simp only [h x a b]
theorem bq_stable {rf rs rp : Nat → Nat} {r : Nat} (hR : RV rf rs rp r) : ∀ (s c : Nat), c < 2401 → sz c ≤ s → ∀ t, sz c ≤ t → bq rf rs rp r s c = bq rf rs rp r t c := by
  have z : ∀ c, c < 2401 → sz c = 0 → ∀ t, bq rf rs rp r t c = 0 := by
    intro c hc h0 t
    cases t with
    | zero => rfl
    | succ t =>
      simp only [bq]
      have k : ∀ j, j ≤ r → mxo rf rs rp (bq rf rs rp r t) c j = 0 := by
        intro j
        induction j with
        | zero => intro _; rfl
        | succ j ih =>
          intro hj
          simp only [mxo]
          rw [ih (by omega)]
          cases hl : lvr (rf j) (rs j) c with
          | none => rfl
          | some x =>
            have := hR.2 j (by omega)
            obtain ⟨a, b, -⟩ := lvr_spec hc this.1 this.2.1 hl
            omega
      exact k r (Nat.le_refl _)
  intro s
  induction s with
  | zero => intro c hc h0 t ht; rw [z c hc (by omega), z c hc (by omega)]
  | succ s ih =>
    intro c hc hs t ht
    cases t with
    | zero => rw [z c hc (by omega), z c hc (by omega)]
    | succ t =>
      simp only [bq]
      exact mxo_congr hR hc (fun x hx hxs => ih x hx (by omega) t (by omega)) r (Nat.le_refl _)
def BB (rf rs rp : Nat → Nat) (r c : Nat) : Nat := bq rf rs rp r (sz c) c
theorem BB_eq {rf rs rp : Nat → Nat} {r c : Nat} (hR : RV rf rs rp r) (hc : c < 2401) : BB rf rs rp r c = mxo rf rs rp (BB rf rs rp r) c r := by
  have h1 : BB rf rs rp r c = bq rf rs rp r (sz c + 1) c := bq_stable hR (sz c) c hc (Nat.le_refl _) (sz c + 1) (by omega)
  rw [h1]
  simp only [bq]
  exact mxo_congr hR hc (fun x hx hxs => bq_stable hR (sz c) x hx (by omega) (sz x) (Nat.le_refl _)) r (Nat.le_refl _)
theorem BB_le {rf rs rp : Nat → Nat} {r : Nat} (hR : RV rf rs rp r) : ∀ (s c : Nat), c < 2401 → sz c ≤ s → BB rf rs rp r c ≤ 9 * sz c := by
  intro s
  induction s with
  | zero =>
    intro c hc h0
    unfold BB
    rw [show sz c = 0 by omega]
    exact Nat.le_refl _
  | succ s ih =>
    intro c hc hs
    rw [BB_eq hR hc]
    have k : ∀ j, j ≤ r → mxo rf rs rp (BB rf rs rp r) c j ≤ 9 * sz c := by
      intro j
      induction j with
      | zero => intro _; exact Nat.zero_le _
      | succ j ihj =>
        intro hj
        simp only [mxo]
        refine Nat.max_le.mpr ⟨ihj (by omega), ?_⟩
        cases hl : lvr (rf j) (rs j) c with
        | none => exact Nat.zero_le _
        | some x =>
          have h3 := hR.2 j (by omega)
          obtain ⟨a, b, -⟩ := lvr_spec hc h3.1 h3.2.1 hl
          have := ih x a (by omega)
          show rp j + BB rf rs rp r x ≤ _
          omega
    exact k r (Nat.le_refl _)
theorem mxo_ge {rf rs rp : Nat → Nat} {g : Nat → Nat} {c : Nat} : ∀ {n j : Nat}, j < n → ∀ {x : Nat}, lvr (rf j) (rs j) c = some x → rp j + g x ≤ mxo rf rs rp g c n := by
  intro n
  induction n with
  | zero => intro j hj; omega
  | succ n ih =>
    intro j hj x hx
    simp only [mxo]
    rcases Nat.lt_or_ge j n with q | q
    · exact Nat.le_trans (ih q hx) (Nat.le_max_left _ _)
    · have : j = n := by omega
      subst this
      rw [hx]
      exact Nat.le_max_right _ _
theorem mxo_at {rf rs rp : Nat → Nat} {g : Nat → Nat} {c : Nat} : ∀ {n : Nat}, 0 < mxo rf rs rp g c n → ∃ j x, j < n ∧ lvr (rf j) (rs j) c = some x ∧ mxo rf rs rp g c n = rp j + g x := by
  intro n
  induction n with
  | zero => intro h; exact absurd h (Nat.lt_irrefl _)
  | succ n ih =>
    intro h
    simp only [mxo] at h ⊢
    rcases Nat.le_total (mxo rf rs rp g c n) (match lvr (rf n) (rs n) c with | some x => rp n + g x | none => 0) with q | q
    · rw [Nat.max_eq_right q] at h ⊢
      cases hl : lvr (rf n) (rs n) c with
      | none => rw [hl] at h; exact absurd h (Nat.lt_irrefl _)
      | some x => exact ⟨n, x, by omega, hl, rfl⟩
    · rw [Nat.max_eq_left q] at h ⊢
      obtain ⟨j, x, a, b, d⟩ := ih h
      exact ⟨j, x, by omega, b, d⟩
