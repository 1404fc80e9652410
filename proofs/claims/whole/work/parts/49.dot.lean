/-! odds of pools, purely -/
def sumN (f : Nat → Int) : Nat → Int
  | 0 => 0
  | n + 1 => sumN f n + f n
theorem sumN_congr {f g : Nat → Int} : ∀ {n : Nat}, (∀ i, i < n → f i = g i) → sumN f n = sumN g n := by
  intro n
  induction n with
  | zero => intro _; rfl
  | succ n ih => intro h; simp only [sumN]; rw [ih (fun i hi => h i (by omega)), h n (by omega)]
theorem sumN_zero {f : Nat → Int} : ∀ {n : Nat}, (∀ i, i < n → f i = 0) → sumN f n = 0 := by
  intro n
  induction n with
  | zero => intro _; rfl
  | succ n ih => intro h; simp only [sumN]; rw [ih (fun i hi => h i (by omega)), h n (by omega)]; rfl
theorem sumN_one {f : Nat → Int} {i : Nat} : ∀ {n : Nat}, i < n → (∀ j, j < n → j ≠ i → f j = 0) → sumN f n = f i := by
  intro n
  induction n with
  | zero => intro h; omega
  | succ n ih =>
    intro h h0
    simp only [sumN]
    by_cases e : i = n
    · subst e
      rw [sumN_zero (fun j hj => h0 j (by omega) (by omega))]
      omega
    · rw [ih (by omega) (fun j hj hne => h0 j (by omega) hne), h0 n (by omega) (by omega)]
      omega
def ad (g : Nat → Nat) (i a : Nat) : Nat → Nat := fun c => if c = i then g c + a else g c
def dot (od : Nat → Nat) (val : Nat → Int) (n : Nat) : Int := sumN (fun c => (od c : Int) * val c) n
theorem ad_0 {g : Nat → Nat} {i : Nat} : ad g i 0 = g := by funext c; unfold ad; split <;> rfl
theorem dot_ad_out {g : Nat → Nat} {i a : Nat} {val : Nat → Int} : ∀ {n : Nat}, n ≤ i → dot (ad g i a) val n = dot g val n := by
  intro n hn
  refine sumN_congr (fun c hc => ?_)
  unfold ad
  rw [if_neg (by omega)]
theorem dot_ad {g : Nat → Nat} {i a : Nat} {val : Nat → Int} : ∀ {n : Nat}, i < n → dot (ad g i a) val n = dot g val n + (a : Int) * val i := by
  intro n
  induction n with
  | zero => intro h; omega
  | succ n ih =>
    intro h
    by_cases e : i = n
    · subst e
      have h1 := dot_ad_out (g := g) (i := i) (a := a) (val := val) (Nat.le_refl i)
      unfold dot at h1 ⊢
      simp only [sumN]
      rw [h1]
      simp only [ad, if_true]
      push_cast
      grind
    · have h1 := ih (by omega)
      unfold dot at h1 ⊢
      simp only [sumN]
      rw [h1]
      simp only [ad, if_neg (show ¬ n = i by omega)]
      grind
def nxk (g od w : Nat → Nat) (p : Nat) : Nat → (Nat → Nat)
  | 0 => g
  | k + 1 => ad (nxk g od w p k) (p + pw k) (od p * w k)
def nxP (od w : Nat → Nat) : Nat → (Nat → Nat)
  | 0 => fun _ => 0
  | p + 1 => nxk (nxP od w p) od w p 4
theorem dot_nxk {g od w : Nat → Nat} {p : Nat} {val : Nat → Int} (h : od p ≠ 0 → ∀ k, k < 4 → p + pw k < 2401) : dot (nxk g od w p 4) val 2401 = dot g val 2401 + (od p : Int) * ((w 0 : Int) * val (p + pw 0) + (w 1 : Int) * val (p + pw 1) + (w 2 : Int) * val (p + pw 2) + (w 3 : Int) * val (p + pw 3)) := by
  by_cases z : od p = 0
  · simp only [nxk, z, Nat.zero_mul, ad_0]
    simp
  · have hh := h z
    simp only [nxk]
    rw [dot_ad (hh 3 (by decide)), dot_ad (hh 2 (by decide)), dot_ad (hh 1 (by decide)), dot_ad (hh 0 (by decide))]
    push_cast
    grind
theorem dot_nxP {od w : Nat → Nat} {val : Nat → Int} : ∀ (P : Nat), (∀ p, p < P → od p ≠ 0 → ∀ k, k < 4 → p + pw k < 2401) → dot (nxP od w P) val 2401 = dot od (fun p => (w 0 : Int) * val (p + pw 0) + (w 1 : Int) * val (p + pw 1) + (w 2 : Int) * val (p + pw 2) + (w 3 : Int) * val (p + pw 3)) P := by
  intro P
  induction P with
  | zero => intro _; exact sumN_zero (fun i _ => by simp [nxP])
  | succ P ih =>
    intro h
    simp only [nxP]
    rw [dot_nxk (h P (by omega)), ih (fun p hp => h p (by omega))]
    rfl
theorem nxk_sup {g od w : Nat → Nat} {p c : Nat} : ∀ {k : Nat}, nxk g od w p k c ≠ 0 → g c ≠ 0 ∨ (od p ≠ 0 ∧ ∃ j, j < k ∧ c = p + pw j) := by
  intro k
  induction k with
  | zero => intro h; exact Or.inl h
  | succ k ih =>
    intro h
    simp only [nxk, ad] at h
    by_cases e : c = p + pw k
    · rw [if_pos e] at h
      by_cases z : od p = 0
      · rw [z, Nat.zero_mul, Nat.add_zero] at h
        rcases ih h with q | ⟨q, j, hj, e2⟩
        · exact Or.inl q
        · exact Or.inr ⟨q, j, by omega, e2⟩
      · exact Or.inr ⟨z, k, by omega, e⟩
    · rw [if_neg e] at h
      rcases ih h with q | ⟨q, j, hj, e2⟩
      · exact Or.inl q
      · exact Or.inr ⟨q, j, by omega, e2⟩
theorem nxP_sup {od w : Nat → Nat} {c : Nat} : ∀ {P : Nat}, nxP od w P c ≠ 0 → ∃ p, p < P ∧ od p ≠ 0 ∧ ∃ j, j < 4 ∧ c = p + pw j := by
  intro P
  induction P with
  | zero => intro h; exact absurd rfl h
  | succ P ih =>
    intro h
    simp only [nxP] at h
    rcases nxk_sup h with q | ⟨q, j, hj, e⟩
    · obtain ⟨p, h1, h2⟩ := ih q
      exact ⟨p, by omega, h2⟩
    · exact ⟨P, by omega, q, j, hj, e⟩
/-- odds of the pools that some members dream -/
def OD (w : Nat → Nat → Nat) (ms : List Nat) (od : Nat → Nat) : Prop := (∀ c, c < 2401 → od c ≠ 0 → sz c = ms.length) ∧ ∀ val, dot od val 2401 = F w val ms 0
theorem OD_nil {w : Nat → Nat → Nat} : OD w [] (fun c => if c = 0 then 1 else 0) := by
  refine ⟨fun c _ h => ?_, fun val => ?_⟩
  · by_cases e : c = 0
    · subst e; rfl
    · simp only [if_neg e] at h; exact absurd rfl h
  · unfold dot
    rw [sumN_one (i := 0) (by decide) (fun j _ hj => by simp [hj])]
    simp [F]
theorem OD_sn {w : Nat → Nat → Nat} {ms : List Nat} {od : Nat → Nat} {m : Nat} (h : OD w ms od) (hl : ms.length < 6) : OD w (ms ++ [m]) (nxP od (w m) 2401) := by
  have hin : ∀ p, p < 2401 → od p ≠ 0 → ∀ k, k < 4 → p + pw k < 2401 ∧ sz (p + pw k) = sz p + 1 := by
    intro p hp h0 k hk
    have := h.1 p hp h0
    obtain ⟨a, b, -⟩ := inc_spec hp (show sz p < 6 by omega) hk
    exact ⟨a, b⟩
  refine ⟨fun c hc h0 => ?_, fun val => ?_⟩
  · obtain ⟨p, p1, p2, j, j1, e⟩ := nxP_sup h0
    rw [e, (hin p p1 p2 j j1).2, h.1 p p1 p2, List.length_append]
    rfl
  · rw [dot_nxP 2401 (fun p hp h0 k hk => (hin p hp h0 k hk).1), F_app]
    exact h.2 _
theorem OD_b {w : Nat → Nat → Nat} {ms : List Nat} {od : Nat → Nat} (h : OD w ms od) (hl : ms.length ≤ 6) {c : Nat} (hc : c < 2401) : od c ≤ PW w ms := by
  have h1 := h.2 (fun x => if x = c then 1 else 0)
  have h2 := F_bound (w := w) (val := fun x => if x = c then 1 else 0) (B := 1) (fun x _ _ => by
    split <;> decide) ms 0 (by decide) (by have : sz 0 = 0 := rfl; omega)
  unfold dot at h1
  rw [sumN_one (i := c) hc (fun j _ hj => by simp [hj])] at h1
  simp only [if_true, Int.mul_one] at h1
  rw [Nat.one_mul] at h2
  omega
