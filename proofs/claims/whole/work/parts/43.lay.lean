/-! layers of recipes, purely -/
def ls (g : Nat → Nat) (f s p : Nat) : Nat → Nat → Nat
  | 0, _ => 0
  | k + 1, c => max (g c) (match lvr f s c with | some x => p + ls g f s p k x | none => 0)
theorem lvr_lt {f s c x : Nat} (hc : c < 2401) (hf : f < 4) (hs : s ≤ 4) (h : lvr f s c = some x) : x < c := by
  unfold lvr at h
  split at h
  · rename_i h1
    have a1 := (dec_spec hc hf h1).1
    have a2 := (pw_lt f hf).2
    split at h
    · cases h; omega
    · split at h
      · cases h; omega
      · cases h
  · cases h
theorem ls_st {g : Nat → Nat} {f s p : Nat} (hf : f < 4) (hs : s ≤ 4) : ∀ (k c : Nat), c < 2401 → c < k → ∀ t, c < t → ls g f s p k c = ls g f s p t c := by
  intro k
  induction k with
  | zero => intro c _ h; omega
  | succ k ih =>
    intro c hc hk t ht
    cases t with
    | zero => omega
    | succ t =>
      simp only [ls]
      cases hl : lvr f s c with
      | none => rfl
      | some x =>
        have := lvr_lt hc hf hs hl
        simp only [ih x (by omega) (by omega) t (by omega)]
/-- the best by the last d of r recipes -/
def lay (rf rs rp : Nat → Nat) (r : Nat) : Nat → Nat → Nat
  | 0, _ => 0
  | d + 1, c => ls (lay rf rs rp r d) (rf (r - 1 - d)) (rs (r - 1 - d)) (rp (r - 1 - d)) (c + 1) c
def L (rf rs rp : Nat → Nat) (r j c : Nat) : Nat := lay rf rs rp r (r - j) c
theorem L_end {rf rs rp : Nat → Nat} {r c : Nat} : L rf rs rp r r c = 0 := by unfold L; rw [Nat.sub_self]; rfl
theorem L_eq {rf rs rp : Nat → Nat} {r j c : Nat} (hR : RV rf rs rp r) (hj : j < r) (hc : c < 2401) : L rf rs rp r j c = max (L rf rs rp r (j + 1) c) (match lvr (rf j) (rs j) c with | some x => rp j + L rf rs rp r j x | none => 0) := by
  have hr := hR.2 j hj
  unfold L
  rw [show r - j = (r - (j + 1)) + 1 by omega]
  simp only [lay]
  rw [show r - 1 - (r - (j + 1)) = j by omega]
  show max _ _ = _
  cases hl : lvr (rf j) (rs j) c with
  | none => rfl
  | some x =>
    have hx := lvr_lt hc hr.1 hr.2.1 hl
    have := ls_st (g := lay rf rs rp r (r - (j + 1))) (p := rp j) hr.1 hr.2.1 c x (by omega) hx (x + 1) (by omega)
    simp only [this]
theorem L_mono {rf rs rp : Nat → Nat} {r j c : Nat} (hR : RV rf rs rp r) (hj : j < r) (hc : c < 2401) : L rf rs rp r (j + 1) c ≤ L rf rs rp r j c := by
  rw [L_eq hR hj hc]; exact Nat.le_max_left _ _
theorem L_take {rf rs rp : Nat → Nat} {r j c x : Nat} (hR : RV rf rs rp r) (hj : j < r) (hc : c < 2401) (hx : lvr (rf j) (rs j) c = some x) : rp j + L rf rs rp r j x ≤ L rf rs rp r j c := by
  rw [L_eq hR hj hc, hx]; exact Nat.le_max_right _ _
theorem L_or {rf rs rp : Nat → Nat} {r j c : Nat} (hR : RV rf rs rp r) (hj : j < r) (hc : c < 2401) : L rf rs rp r j c = L rf rs rp r (j + 1) c ∨ ∃ x, lvr (rf j) (rs j) c = some x ∧ L rf rs rp r j c = rp j + L rf rs rp r j x := by
  have h := L_eq hR hj hc
  cases hl : lvr (rf j) (rs j) c with
  | none => rw [hl] at h; left; rw [h]; exact Nat.max_eq_left (Nat.zero_le _)
  | some x =>
    rw [hl] at h
    rcases Nat.le_total (L rf rs rp r (j + 1) c) (rp j + L rf rs rp r j x) with q | q
    · right; exact ⟨x, rfl, by rw [h]; exact Nat.max_eq_right q⟩
    · left; rw [h]; exact Nat.max_eq_left q
/-- two recipes can be made in either order -/
theorem lvr_comm {f s f' s' c x y : Nat} (hc : c < 2401) (hf : f < 4) (hs : s ≤ 4) (hf' : f' < 4) (hs' : s' ≤ 4) (h : lvr f s c = some x) (h' : lvr f' s' x = some y) : ∃ z, lvr f' s' c = some z ∧ lvr f s z = some y := by
  obtain ⟨a1, a2, -, a3, -⟩ := lvr_spec hc hf hs h
  obtain ⟨b1, b2, -, b3, -⟩ := lvr_spec a1 hf' hs' h'
  have e1 : ∀ j, j < 4 → dg y j + (if j = f then 1 else 0) + (if j = s then 1 else 0) + (if j = f' then 1 else 0) + (if j = s' then 1 else 0) = dg c j := by
    intro j hj
    have := a3 j hj
    have := b3 j hj
    omega
  have p1 : 0 < dg c f' := by have := e1 f' hf'; rw [if_pos (rfl : f' = f')] at this; omega
  have key : ∃ z, lvr f' s' c = some z := by
    unfold lvr
    rw [if_pos p1]
    by_cases q : s' = 4
    · rw [if_pos q]; exact ⟨_, rfl⟩
    · rw [if_neg q]
      obtain ⟨-, d2, -, d4⟩ := dec_spec hc hf' p1
      have p2 : 0 < dg (c - pw f') s' := by
        have g1 := d4 s' (by omega)
        have g2 := e1 s' (by omega)
        rw [if_pos (rfl : s' = s')] at g2
        by_cases w : s' = f'
        · rw [if_pos w] at g1 g2; omega
        · rw [if_neg w] at g1 g2; omega
      rw [if_pos p2]; exact ⟨_, rfl⟩
  obtain ⟨z, hz⟩ := key
  obtain ⟨z1, z2, -, z3, -⟩ := lvr_spec hc hf' hs' hz
  refine ⟨z, hz, lvr_of z1 b1 hf hs (fun j hj => ?_)⟩
  have := e1 j hj
  have := z3 j hj
  omega
theorem L_ex {rf rs rp : Nat → Nat} {r : Nat} (hR : RV rf rs rp r) : ∀ (d i j : Nat), j + d = i → i < r → ∀ (N c : Nat), c < N → c < 2401 → ∀ x, lvr (rf i) (rs i) c = some x → rp i + L rf rs rp r j x ≤ L rf rs rp r j c := by
  intro d
  induction d with
  | zero =>
    intro i j hij hi N c _ hc x hx
    have : j = i := by omega
    subst this
    exact L_take hR hi hc hx
  | succ d ih =>
    intro i j hij hi N
    induction N with
    | zero => intro c h; omega
    | succ N ihN =>
      intro c hN hc x hx
      have ri := hR.2 i hi
      have rj := hR.2 j (by omega)
      have hxl := lvr_lt hc ri.1 ri.2.1 hx
      rcases L_or (rf := rf) (rs := rs) (rp := rp) (j := j) hR (by omega) (show x < 2401 by omega) with e | ⟨y, hy, e⟩
      · rw [e]
        exact Nat.le_trans (ih i (j + 1) (by omega) hi (c + 1) c (by omega) hc x hx) (L_mono hR (by omega) hc)
      · obtain ⟨z, z1, z2⟩ := lvr_comm hc ri.1 ri.2.1 rj.1 rj.2.1 hx hy
        have hzl := lvr_lt hc rj.1 rj.2.1 z1
        have h1 := ihN z (by omega) (by omega) y z2
        have h2 := L_take (rp := rp) hR (show j < r by omega) hc z1
        omega
theorem L_ex0 {rf rs rp : Nat → Nat} {r i c x : Nat} (hR : RV rf rs rp r) (hi : i < r) (hc : c < 2401) (hx : lvr (rf i) (rs i) c = some x) : rp i + L rf rs rp r 0 x ≤ L rf rs rp r 0 c := L_ex hR i i 0 (by omega) hi (c + 1) c (by omega) hc x hx
theorem L_m0 {rf rs rp : Nat → Nat} {r : Nat} (hR : RV rf rs rp r) : ∀ j, j ≤ r → ∀ c, c < 2401 → L rf rs rp r j c ≤ L rf rs rp r 0 c := by
  intro j
  induction j with
  | zero => intro _ c _; exact Nat.le_refl _
  | succ j ih => intro hj c hc; exact Nat.le_trans (L_mono hR (by omega) hc) (ih (by omega) c hc)
theorem L_le {rf rs rp : Nat → Nat} {r : Nat} (hR : RV rf rs rp r) : ∀ (N c : Nat), c < N → c < 2401 → ∀ (d j : Nat), j + d = r → L rf rs rp r j c ≤ BB rf rs rp r c := by
  intro N
  induction N with
  | zero => intro c h; omega
  | succ N ihN =>
    intro c hN hc d
    induction d with
    | zero =>
      intro j hj
      have : j = r := by omega
      subst this
      rw [L_end]; exact Nat.zero_le _
    | succ d ih =>
      intro j hj
      have rj := hR.2 j (by omega)
      rcases L_or (rf := rf) (rs := rs) (rp := rp) (j := j) hR (by omega) hc with e | ⟨y, hy, e⟩
      · rw [e]; exact ih (j + 1) (by omega)
      · have hl := lvr_lt hc rj.1 rj.2.1 hy
        have h1 := ihN y (by omega) (by omega) (d + 1) j hj
        have h2 := mxo_ge (rp := rp) (g := BB rf rs rp r) (show j < r by omega) hy
        rw [BB_eq hR hc, e]
        omega
theorem BB_L {rf rs rp : Nat → Nat} {r : Nat} (hR : RV rf rs rp r) : ∀ (N c : Nat), c < N → c < 2401 → BB rf rs rp r c ≤ L rf rs rp r 0 c := by
  intro N
  induction N with
  | zero => intro c h; omega
  | succ N ihN =>
    intro c hN hc
    rw [BB_eq hR hc]
    rcases Nat.eq_zero_or_pos (mxo rf rs rp (BB rf rs rp r) c r) with e | e
    · rw [e]; exact Nat.zero_le _
    · obtain ⟨j, x, hj, hx, e2⟩ := mxo_at e
      have rj := hR.2 j (by omega)
      have hl := lvr_lt hc rj.1 rj.2.1 hx
      have h1 := ihN x (by omega) (by omega)
      have h2 := L_ex0 hR hj hc hx
      omega
theorem L_BB {rf rs rp : Nat → Nat} {r c : Nat} (hR : RV rf rs rp r) (hc : c < 2401) : L rf rs rp r 0 c = BB rf rs rp r c := Nat.le_antisymm (L_le hR (c + 1) c (by omega) hc r 0 (by omega)) (BB_L hR (c + 1) c (by omega) hc)
/-- bounds -/
theorem sz_le (c : Nat) : sz c ≤ 24 := by
  have := dg_lt c 0
  have := dg_lt c 1
  have := dg_lt c 2
  have := dg_lt c 3
  unfold sz
  omega
theorem L_b {rf rs rp : Nat → Nat} {r j c : Nat} (hR : RV rf rs rp r) (hj : j ≤ r) (hc : c < 2401) : L rf rs rp r j c ≤ 216 := by
  have h1 := L_le hR (c + 1) c (by omega) hc (r - j) j (by omega)
  have h2 := BB_le hR (sz c) c hc (Nat.le_refl _)
  have := sz_le c
  omega
/-- no recipe before j can be in a best row -/
def XQ (rf rs rp : Nat → Nat) (r q c : Nat) : Prop := ∀ j, j < q → ∀ x, lvr (rf j) (rs j) c = some x → rp j + BB rf rs rp r x ≠ BB rf rs rp r c
theorem XQ_L {rf rs rp : Nat → Nat} {r c : Nat} (hR : RV rf rs rp r) (hc : c < 2401) : ∀ q, q ≤ r → XQ rf rs rp r q c → L rf rs rp r q c = BB rf rs rp r c := by
  intro q
  induction q with
  | zero => intro _ _; exact L_BB hR hc
  | succ q ih =>
    intro hq h
    have h1 := ih (by omega) (fun j hj => h j (by omega))
    rcases L_or (rf := rf) (rs := rs) (rp := rp) (j := q) hR (by omega) hc with e | ⟨x, hx, e⟩
    · rw [← e]; exact h1
    · exfalso
      have rj := hR.2 q (by omega)
      have hl := lvr_lt hc rj.1 rj.2.1 hx
      have a1 := L_m0 hR q (by omega) x (by omega)
      have a2 := L_ex0 hR (show q < r by omega) hc hx
      rw [L_BB hR (by omega)] at a1 a2
      rw [L_BB hR hc] at a2
      exact h q (by omega) x hx (by omega)
theorem XQ_next {rf rs rp : Nat → Nat} {r q c x : Nat} (hR : RV rf rs rp r) (hc : c < 2401) (hq : q < r) (h : XQ rf rs rp r q c) (hx : lvr (rf q) (rs q) c = some x) (he : rp q + BB rf rs rp r x = BB rf rs rp r c) : XQ rf rs rp r q x := by
  intro j hj y hy e
  have rq := hR.2 q hq
  have rj := hR.2 j (by omega)
  have hl := lvr_lt hc rq.1 rq.2.1 hx
  have hl2 := lvr_lt (show x < 2401 by omega) rj.1 rj.2.1 hy
  obtain ⟨z, z1, z2⟩ := lvr_comm hc rq.1 rq.2.1 rj.1 rj.2.1 hx hy
  have hl3 := lvr_lt hc rj.1 rj.2.1 z1
  have a1 := L_ex0 hR hq (show z < 2401 by omega) z2
  have a2 := L_ex0 hR (show j < r by omega) hc z1
  rw [L_BB hR (by omega), L_BB hR (by omega)] at a1 a2
  exact h j hj z z1 (by omega)
/-- by the whole or by the layer: the same recipe is made -/
theorem mk_iff {rf rs rp : Nat → Nat} {r q c x : Nat} (hR : RV rf rs rp r) (hc : c < 2401) (hq : q < r) (h : XQ rf rs rp r q c) (hx : lvr (rf q) (rs q) c = some x) : (rp q + L rf rs rp r q x = L rf rs rp r q c) ↔ rp q + BB rf rs rp r x = BB rf rs rp r c := by
  have rq := hR.2 q hq
  have hl := lvr_lt hc rq.1 rq.2.1 hx
  have e1 := XQ_L hR hc q (by omega) h
  have a1 := L_m0 hR q (by omega) x (by omega)
  have a2 := L_ex0 hR hq hc hx
  rw [L_BB hR (by omega)] at a1 a2
  rw [L_BB hR hc] at a2
  constructor
  · intro e; omega
  · intro e
    rw [e1, XQ_L hR (by omega) q (by omega) (XQ_next hR hc hq h hx e)]
    exact e
