/-! rows of kinds, purely -/
theorem dper {x k d j : Nat} (h : j < d) : (4 ^ d * k + x) / 4 ^ j % 4 = x / 4 ^ j % 4 := by
  obtain ⟨t, rfl⟩ : ∃ t, d = j + 1 + t := ⟨d - j - 1, by omega⟩
  have e : 4 ^ (j + 1 + t) * k + x = 4 ^ j * (4 * (4 ^ t * k)) + x := by rw [Nat.pow_add, Nat.pow_succ, Nat.mul_assoc, Nat.mul_assoc]
  rw [e, Nat.mul_add_div (Nat.pow_pos (by decide)), Nat.mul_add_mod]
def PR (w : Nat → Nat → Nat) : Nat → Nat → Nat → Nat
  | 0, _, _ => 1
  | d + 1, m, s => w m (s / 4 ^ d % 4) * PR w d (m + 1) s
def PSm : Nat → Nat → Nat
  | 0, _ => 0
  | d + 1, s => PSm d s + pw (s / 4 ^ d % 4)
theorem PR_per {w : Nat → Nat → Nat} : ∀ {d D m s k : Nat}, d ≤ D → PR w d m (4 ^ D * k + s) = PR w d m s := by
  intro d
  induction d with
  | zero => intro D m s k _; rfl
  | succ d ih =>
    intro D m s k h
    simp only [PR]
    rw [dper (by omega), ih (by omega)]
theorem PSm_per : ∀ {d D s k : Nat}, d ≤ D → PSm d (4 ^ D * k + s) = PSm d s := by
  intro d
  induction d with
  | zero => intro D s k _; rfl
  | succ d ih =>
    intro D s k h
    simp only [PSm]
    rw [dper (by omega), ih (by omega)]
theorem top4 {d k s : Nat} (hk : k < 4) (hs : s < 4 ^ d) : (4 ^ d * k + s) / 4 ^ d % 4 = k := by
  rw [Nat.mul_add_div (Nat.pow_pos (by decide)), Nat.div_eq_of_lt hs, Nat.add_zero, Nat.mod_eq_of_lt hk]
theorem sumN_add {f : Nat → Int} {a : Nat} : ∀ b, sumN f (a + b) = sumN f a + sumN (fun i => f (a + i)) b := by
  intro b
  induction b with
  | zero => simp [sumN]
  | succ b ih => rw [← Nat.add_assoc]; simp only [sumN]; rw [ih]; omega
theorem sumN_mul {f : Nat → Int} {a : Int} : ∀ n, sumN (fun i => a * f i) n = a * sumN f n := by
  intro n
  induction n with
  | zero => simp [sumN]
  | succ n ih => simp only [sumN]; rw [ih, Int.mul_add]
/-- the fold is a sum over rows -/
theorem F_rows {w : Nat → Nat → Nat} {val : Nat → Int} : ∀ (d m c : Nat), F w val (rg m d) c = sumN (fun s => (PR w d m s : Int) * val (c + PSm d s)) (4 ^ d) := by
  intro d
  induction d with
  | zero => intro m c; simp [F, rg, sumN, PR, PSm]
  | succ d ih =>
    intro m c
    have blk : ∀ k, k < 4 → sumN (fun i => (fun s => (PR w (d + 1) m s : Int) * val (c + PSm (d + 1) s)) (4 ^ d * k + i)) (4 ^ d) = (w m k : Int) * F w val (rg (m + 1) d) (c + pw k) := by
      intro k hk
      rw [ih, ← sumN_mul]
      refine sumN_congr (fun i hi => ?_)
      simp only [PR, PSm]
      rw [top4 hk hi, PR_per (Nat.le_refl d), PSm_per (Nat.le_refl d), Int.natCast_mul, Int.mul_assoc, Nat.add_right_comm c (pw k), Nat.add_assoc c (PSm d i)]
    have e4 : 4 ^ (d + 1) = 4 ^ d + 4 ^ d + 4 ^ d + 4 ^ d := by rw [Nat.pow_succ]; omega
    rw [e4, sumN_add, sumN_add, sumN_add]
    have b0 := blk 0 (by decide)
    have b1 := blk 1 (by decide)
    have b2 := blk 2 (by decide)
    have b3 := blk 3 (by decide)
    simp only [Nat.mul_zero, Nat.zero_add] at b0
    simp only [Nat.mul_one] at b1
    rw [show 4 ^ d * 2 = 4 ^ d + 4 ^ d by omega] at b2
    rw [show 4 ^ d * 3 = 4 ^ d + 4 ^ d + 4 ^ d by omega] at b3
    rw [b0, b1, b2, b3]
    rfl
theorem PSm_spec {s : Nat} : ∀ d, d ≤ 6 → PSm d s < 2401 ∧ sz (PSm d s) = d := by
  intro d
  induction d with
  | zero => intro _; exact ⟨(by decide : 0 < 2401), (by decide : sz 0 = 0)⟩
  | succ d ih =>
    intro hd
    have h := ih (by omega)
    have h2 := inc_spec h.1 (show sz (PSm d s) < 6 by omega) (Nat.mod_lt (s / 4 ^ d) (by decide : 0 < 4))
    exact ⟨h2.1, by show sz (PSm d s + pw (s / 4 ^ d % 4)) = _; rw [h2.2.1, h.2]⟩
/-- a row's weight, as far as it makes the pool -/
def rv (w : Nat → Nat → Nat) (s : Nat) : Nat → Nat → Nat → Nat
  | 0, _, c => if c = 0 then 1 else 0
  | d + 1, m, c => if 0 < dg c (s / 4 ^ d % 4) then w m (s / 4 ^ d % 4) * rv w s d (m + 1) (c - pw (s / 4 ^ d % 4)) else 0
theorem rv_s {w : Nat → Nat → Nat} {s d m c : Nat} : rv w s (d + 1) m c = if 0 < dg c (s / 4 ^ d % 4) then w m (s / 4 ^ d % 4) * rv w s d (m + 1) (c - pw (s / 4 ^ d % 4)) else 0 := rfl
theorem rv_0 {w : Nat → Nat → Nat} {s m c : Nat} : rv w s 0 m c = if c = 0 then 1 else 0 := rfl
theorem PSm_s {s d : Nat} : PSm (d + 1) s = PSm d s + pw (s / 4 ^ d % 4) := rfl
theorem PSm_0 {s : Nat} : PSm 0 s = 0 := rfl
theorem PR_s {w : Nat → Nat → Nat} {s d m : Nat} : PR w (d + 1) m s = w m (s / 4 ^ d % 4) * PR w d (m + 1) s := rfl
theorem PR_0 {w : Nat → Nat → Nat} {s m : Nat} : PR w 0 m s = 1 := rfl
theorem rv_eq {w : Nat → Nat → Nat} {s : Nat} : ∀ (d m c : Nat), d ≤ 6 → c < 2401 → rv w s d m c = if PSm d s = c then PR w d m s else 0 := by
  intro d
  induction d with
  | zero =>
    intro m c _ _
    rw [rv_0, PSm_0, PR_0]
    by_cases q : c = 0
    · rw [if_pos q, if_pos q.symm]
    · rw [if_neg q, if_neg (fun z => q z.symm)]
  | succ d ih =>
    intro m c hd hc
    have hk := Nat.mod_lt (s / 4 ^ d) (by decide : 0 < 4)
    rw [rv_s, PSm_s, PR_s]
    generalize s / 4 ^ d % 4 = k at hk
    by_cases q : 0 < dg c k
    · have h := dec_spec hc hk q
      rw [if_pos q, ih (m + 1) (c - pw k) (by omega) h.2.1]
      by_cases z : PSm d s + pw k = c
      · rw [if_pos z, if_pos (by omega)]
      · rw [if_neg z, if_neg (by omega), Nat.mul_zero]
    · rw [if_neg q, if_neg (fun z => ?_)]
      have hp := PSm_spec (s := s) d (by omega)
      have := (inc_spec hp.1 (show sz (PSm d s) < 6 by omega) hk).2.2 k hk
      rw [z, if_pos rfl] at this
      omega
def rV (w : Nat → Nat → Nat) (n c s : Nat) : Nat := rv w s n 0 c
theorem rV_eq {w : Nat → Nat → Nat} {n c s : Nat} (hn : n ≤ 6) (hc : c < 2401) : rV w n c s = if PSm n s = c then PR w n 0 s else 0 := rv_eq n 0 c hn hc
theorem rV_ne {w : Nat → Nat → Nat} {n c s : Nat} (hn : n ≤ 6) (hc : c < 2401) (h : sz c ≠ n) : rV w n c s = 0 := by
  rw [rV_eq hn hc, if_neg (fun z => h (by rw [← z]; exact (PSm_spec n hn).2))]
theorem rV_int {w : Nat → Nat → Nat} {n c s : Nat} (hn : n ≤ 6) (hc : c < 2401) : (rV w n c s : Int) = (PR w n 0 s : Int) * dl c (0 + PSm n s) := by
  rw [rV_eq hn hc, Nat.zero_add]
  unfold dl
  by_cases q : PSm n s = c
  · rw [if_pos q, if_pos q, Int.mul_one]
  · rw [if_neg q, if_neg q, Int.mul_zero]; rfl
theorem al_rg : ∀ n, n < 7 → Tm (al n) 0 n = rg 0 n := by decide +kernel
theorem PR_w1 {w : Nat → Nat → Nat} {s : Nat} : ∀ (d m : Nat), PR (w1 w) d m s = if 0 < PR w d m s then 1 else 0 := by
  intro d
  induction d with
  | zero => intro m; rfl
  | succ d ih =>
    intro m
    rw [PR_s, PR_s, ih]
    show (if 0 < w m (s / 4 ^ d % 4) then 1 else 0) * (if 0 < PR w d (m + 1) s then 1 else 0) = _
    by_cases a : 0 < w m (s / 4 ^ d % 4)
    · by_cases b : 0 < PR w d (m + 1) s
      · rw [if_pos a, if_pos b, if_pos (Nat.mul_pos a b)]
      · rw [if_pos a, if_neg b, if_neg (fun z => b (Nat.pos_of_mul_pos_left z))]
    · rw [if_neg a, if_neg (fun z => a (Nat.pos_of_mul_pos_right z)), Nat.zero_mul]
/-! how many -/
def ct (V : Nat → Nat) : Nat → Nat
  | 0 => 0
  | i + 1 => ct V i + if 0 < V i then 1 else 0
theorem ct_le {V : Nat → Nat} : ∀ i, ct V i ≤ i := by
  intro i
  induction i with
  | zero => exact Nat.le_refl _
  | succ i ih => simp only [ct]; split <;> omega
theorem ct_sum {V : Nat → Nat} : ∀ i, (ct V i : Int) = sumN (fun s => if 0 < V s then 1 else 0) i := by
  intro i
  induction i with
  | zero => rfl
  | succ i ih =>
    simp only [ct, sumN]
    rw [Int.natCast_add, ih]
    congr 1
    split <;> rfl
theorem rows_ct {w : Nat → Nat → Nat} {n c : Nat} (hn : n ≤ 6) (hc : c < 2401) : rowsS w n c = (ct (rV w n c) (4 ^ n) : Int) := by
  rw [ct_sum]
  unfold rowsS
  by_cases h : sz c = n
  · rw [if_pos h, al_rg n (by omega), F_rows]
    refine sumN_congr (fun s _ => ?_)
    rw [PR_w1]
    have e := rV_eq (w := w) (s := s) hn hc
    rw [Nat.zero_add, e]
    unfold dl
    by_cases q : PSm n s = c
    · rw [if_pos q, if_pos q, Int.mul_one]
      split <;> rfl
    · rw [if_neg q, if_neg q, Int.mul_zero, if_neg (Nat.lt_irrefl 0)]
  · rw [if_neg h]
    refine (sumN_zero (fun s _ => ?_)).symm
    rw [rV_ne hn hc h, if_neg (Nat.lt_irrefl 0)]
/-! who may have dreamt what -/
theorem sumN_pos {f : Nat → Int} : ∀ {n : Nat}, (∀ i, i < n → 0 ≤ f i) → (0 ≤ sumN f n ∧ (0 < sumN f n ↔ ∃ i, i < n ∧ 0 < f i)) := by
  intro n
  induction n with
  | zero => intro _; exact ⟨Int.le_refl _, ⟨fun h => absurd h (Int.lt_irrefl _), fun ⟨i, h, _⟩ => by omega⟩⟩
  | succ n ih =>
    intro h
    obtain ⟨a, b⟩ := ih (fun i hi => h i (by omega))
    have hn := h n (by omega)
    simp only [sumN]
    refine ⟨by omega, ⟨fun z => ?_, fun ⟨i, hi, z⟩ => ?_⟩⟩
    · by_cases q : 0 < f n
      · exact ⟨n, by omega, q⟩
      · obtain ⟨i, hi, z2⟩ := b.mp (by omega)
        exact ⟨i, by omega, z2⟩
    · by_cases q : i = n
      · subst q; omega
      · have := b.mpr ⟨i, by omega, z⟩
        omega
theorem PR_pos {w : Nat → Nat → Nat} {s : Nat} : ∀ (d m : Nat), 0 < PR w d m s ↔ ∀ j, j < d → 0 < w (m + j) (s / 4 ^ (d - 1 - j) % 4) := by
  intro d
  induction d with
  | zero => intro m; exact ⟨fun _ j hj => by omega, fun _ => (by decide : 0 < 1)⟩
  | succ d ih =>
    intro m
    simp only [PR]
    constructor
    · intro h j hj
      cases j with
      | zero => rw [show d + 1 - 1 - 0 = d by omega]; exact Nat.pos_of_mul_pos_right h
      | succ j =>
        have := (ih (m + 1)).mp (Nat.pos_of_mul_pos_left h) j (by omega)
        rw [show d + 1 - 1 - (j + 1) = d - 1 - j by omega, show m + (j + 1) = m + 1 + j by omega]
        exact this
    · intro h
      refine Nat.mul_pos ?_ ((ih (m + 1)).mpr (fun j hj => ?_))
      · have := h 0 (by omega)
        rw [show d + 1 - 1 - 0 = d by omega] at this
        exact this
      · have := h (j + 1) (by omega)
        rw [show d + 1 - 1 - (j + 1) = d - 1 - j by omega, show m + (j + 1) = m + 1 + j by omega] at this
        exact this
def wk (w : Nat → Nat → Nat) (m k : Nat) : Nat → Nat → Nat := fun a j => if a = m ∧ j ≠ k then 0 else w a j
theorem wk_ne {w : Nat → Nat → Nat} {m k a j : Nat} (h : a ≠ m) : wk w m k a j = w a j := if_neg (fun z => h z.1)
theorem wk_0 {w : Nat → Nat → Nat} {m k j : Nat} (h : j ≠ k) : wk w m k m j = 0 := if_pos ⟨rfl, h⟩
theorem wk_k {w : Nat → Nat → Nat} {m k : Nat} : wk w m k m k = w m k := if_neg (fun z => z.2 rfl)
theorem mayP_iff {w : Nat → Nat → Nat} {n c m k : Nat} (hn : n ≤ 6) (hm : m < n) (hk : k < 4) (hc : c < 2401) : mayP w n c m k = true ↔ ∃ s, s < 4 ^ n ∧ 0 < rV w n c s ∧ dh s n m = k := by
  have e1 : F (w1 (wk w m k)) (dl c) (Tm (al n) 0 n) 0 = (w1 w m k : Int) * F (w1 w) (dl c) (oth n m) (pw k) := by
    rw [F_oth (w := w1 w) (by omega) hm (fun a ha j => by unfold w1; rw [wk_ne ha])]
    have z : ∀ j, j ≠ k → w1 (wk w m k) m j = 0 := fun j hj => by unfold w1; rw [wk_0 hj]; rfl
    have y : w1 (wk w m k) m k = w1 w m k := by unfold w1; rw [wk_k]
    simp only [F, Nat.zero_add]
    rcases s4 hk with rfl | rfl | rfl | rfl
    · rw [y, z 1 (by decide), z 2 (by decide), z 3 (by decide)]; simp
    · rw [y, z 0 (by decide), z 2 (by decide), z 3 (by decide)]; simp
    · rw [y, z 1 (by decide), z 0 (by decide), z 3 (by decide)]; simp
    · rw [y, z 1 (by decide), z 2 (by decide), z 0 (by decide)]; simp
  have e2 : F (w1 (wk w m k)) (dl c) (Tm (al n) 0 n) 0 = sumN (fun s => (PR (w1 (wk w m k)) n 0 s : Int) * dl c (0 + PSm n s)) (4 ^ n) := by rw [al_rg n (by omega), F_rows]
  have nn : ∀ s, s < 4 ^ n → 0 ≤ (PR (w1 (wk w m k)) n 0 s : Int) * dl c (0 + PSm n s) := fun s _ => by
    unfold dl
    split
    · rw [Int.mul_one]; exact Int.natCast_nonneg _
    · rw [Int.mul_zero]; exact Int.le_refl _
  have h1 : mayP w n c m k = true ↔ 0 < (w1 w m k : Int) * F (w1 w) (dl c) (oth n m) (pw k) := by
    unfold mayP w1
    by_cases a : 0 < w m k
    · simp [a]
    · simp [a]
  rw [h1, ← e1, e2, (sumN_pos nn).2]
  constructor
  · rintro ⟨s, hs, z⟩
    refine ⟨s, hs, ?_⟩
    rw [rV_eq hn hc]
    unfold dl at z
    rw [Nat.zero_add] at z
    by_cases q : PSm n s = c
    · rw [if_pos q, Int.mul_one, PR_w1] at z
      rw [if_pos q]
      by_cases p : 0 < PR (wk w m k) n 0 s
      · have hp := (PR_pos n 0).mp p
        have hd : dh s n m = k := by
          have := hp m hm
          unfold wk at this
          rw [Nat.zero_add] at this
          by_cases e : s / 4 ^ (n - 1 - m) % 4 = k
          · exact e
          · rw [if_pos ⟨rfl, e⟩] at this; omega
        refine ⟨(PR_pos n 0).mpr (fun j hj => ?_), hd⟩
        have := hp j hj
        unfold wk at this
        split at this
        · omega
        · exact this
      · rw [if_neg p] at z; simp at z
    · rw [if_neg q, Int.mul_zero] at z; simp at z
  · rintro ⟨s, hs, z, hd⟩
    refine ⟨s, hs, ?_⟩
    rw [rV_eq hn hc] at z
    unfold dl
    rw [Nat.zero_add]
    by_cases q : PSm n s = c
    · rw [if_pos q] at z
      rw [if_pos q, Int.mul_one, PR_w1, if_pos ((PR_pos n 0).mpr (fun j hj => ?_))]
      · decide
      · have := (PR_pos n 0).mp z j hj
        unfold wk
        rw [if_neg (fun y => ?_)]
        · exact this
        · have e : j = m := by omega
          subst e
          exact y.2 hd
    · rw [if_neg q] at z; omega
def mb (V q : Nat → Nat) : Nat → Nat
  | 0 => 0
  | i + 1 => mb V q i ||| (if 0 < V i then 2 ^ q i else 0)
theorem mb_bit {V q : Nat → Nat} {k : Nat} : ∀ i, (mb V q i).testBit k = true ↔ ∃ s, s < i ∧ 0 < V s ∧ q s = k := by
  intro i
  induction i with
  | zero => simp [mb]
  | succ i ih =>
    simp only [mb, Nat.testBit_or, Bool.or_eq_true, ih]
    constructor
    · rintro (⟨s, a, b, e⟩ | h)
      · exact ⟨s, by omega, b, e⟩
      · by_cases p : 0 < V i
        · rw [if_pos p, Nat.testBit_two_pow] at h
          exact ⟨i, by omega, p, of_decide_eq_true h⟩
        · rw [if_neg p] at h; simp at h
    · rintro ⟨s, a, b, e⟩
      by_cases p : s = i
      · subst p
        right
        rw [if_pos b, Nat.testBit_two_pow]
        exact decide_eq_true e
      · left
        exact ⟨s, by omega, b, e⟩
theorem mbs_bit {p : Nat → Bool} {k : Nat} : ∀ i, (mbs p i).testBit k = true ↔ (k < i ∧ p k = true) := by
  intro i
  induction i with
  | zero => simp [mbs]
  | succ i ih =>
    simp only [mbs, Nat.testBit_or, Bool.or_eq_true, ih]
    constructor
    · rintro (⟨a, b⟩ | h)
      · exact ⟨by omega, b⟩
      · by_cases q : p i = true
        · rw [if_pos q, Nat.testBit_two_pow] at h
          have := of_decide_eq_true h
          subst this
          exact ⟨by omega, q⟩
        · rw [if_neg q] at h; simp at h
    · rintro ⟨a, b⟩
      by_cases e : k = i
      · subst e
        right
        rw [if_pos b, Nat.testBit_two_pow]
        exact decide_eq_true rfl
      · left
        exact ⟨by omega, b⟩
theorem may_mb {w : Nat → Nat → Nat} {n c m : Nat} (hn : n ≤ 6) (hm : m < n) (hc : c < 2401) : mayS w n c m = mb (rV w n c) (fun s => dh s n m) (4 ^ n) := by
  apply Nat.eq_of_testBit_eq
  intro k
  rw [Bool.eq_iff_iff, mb_bit]
  unfold mayS
  by_cases h : sz c = n
  · rw [if_pos h, mbs_bit]
    constructor
    · rintro ⟨a, b⟩
      exact (mayP_iff hn hm a hc).mp b
    · rintro ⟨s, a, b, e⟩
      have hk : k < 4 := by rw [← e]; exact dh_lt s n m
      exact ⟨hk, (mayP_iff hn hm hk hc).mpr ⟨s, a, b, e⟩⟩
  · rw [if_neg h]
    constructor
    · intro z; simp at z
    · rintro ⟨s, a, b, e⟩
      rw [rV_ne hn hc h] at b
      omega
theorem mb_lt {V q : Nat → Nat} (hq : ∀ s, q s < 4) : ∀ i, mb V q i < 16 := by
  intro i
  induction i with
  | zero => exact (by decide : 0 < 16)
  | succ i ih =>
    simp only [mb]
    exact Nat.or_lt_two_pow (n := 4) ih (by split; exact (Nat.pow_lt_pow_right (by decide) (hq i)); decide)
/-! the likeliest row -/
def SV (w : Nat → Nat → Nat) (val : Nat → Int) (d j c s : Nat) : Int := (PR w d j s : Int) * val (c + PSm d s)
theorem SV_s {w : Nat → Nat → Nat} {val : Nat → Int} {d j c s : Nat} : SV w val (d + 1) j c s = (w j (s / 4 ^ d % 4) : Int) * SV w val d (j + 1) (c + pw (s / 4 ^ d % 4)) s := by
  unfold SV
  simp only [PR, PSm]
  rw [Int.natCast_mul, Int.mul_assoc, Nat.add_right_comm, Nat.add_assoc c (PSm d s)]
theorem mx4_ge (x0 x1 x2 x3 : Int) : x0 ≤ mx (mx (mx (mx 0 x0) x1) x2) x3 ∧ x1 ≤ mx (mx (mx (mx 0 x0) x1) x2) x3 ∧ x2 ≤ mx (mx (mx (mx 0 x0) x1) x2) x3 ∧ x3 ≤ mx (mx (mx (mx 0 x0) x1) x2) x3 := by
  have m1 : ∀ x y : Int, x ≤ mx x y ∧ y ≤ mx x y := fun x y => by unfold mx; split <;> omega
  have a0 := m1 0 x0
  have a1 := m1 (mx 0 x0) x1
  have a2 := m1 (mx (mx 0 x0) x1) x2
  have a3 := m1 (mx (mx (mx 0 x0) x1) x2) x3
  omega
theorem gv_ge {w : Nat → Nat → Nat} {val : Nat → Int} {n j c k : Nat} (hj : j < n) (hk : k < 4) : (w j k : Int) * gv w val n (j + 1) (c + pw k) ≤ gv w val n j c := by
  rw [gv_step hj]
  have h := mx4_ge ((w j 0 : Int) * gv w val n (j + 1) (c + pw 0)) ((w j 1 : Int) * gv w val n (j + 1) (c + pw 1)) ((w j 2 : Int) * gv w val n (j + 1) (c + pw 2)) ((w j 3 : Int) * gv w val n (j + 1) (c + pw 3))
  rcases s4 hk with rfl | rfl | rfl | rfl
  · exact h.1
  · exact h.2.1
  · exact h.2.2.1
  · exact h.2.2.2
theorem gv_end {w : Nat → Nat → Nat} {val : Nat → Int} {n c : Nat} : gv w val n n c = val c := by
  unfold gv
  rw [Nat.sub_self]
  rfl
theorem SV_le {w : Nat → Nat → Nat} {val : Nat → Int} {n : Nat} : ∀ (d j c s : Nat), j + d = n → SV w val d j c s ≤ gv w val n j c := by
  intro d
  induction d with
  | zero =>
    intro j c s h
    have : j = n := by omega
    subst this
    rw [gv_end]
    unfold SV
    simp [PR, PSm]
  | succ d ih =>
    intro j c s h
    have hk := Nat.mod_lt (s / 4 ^ d) (by decide : 0 < 4)
    rw [SV_s]
    exact Int.le_trans (Int.mul_le_mul_of_nonneg_left (ih (j + 1) _ s (by omega)) (Int.natCast_nonneg _)) (gv_ge (by omega) hk)
theorem kd_first {w : Nat → Nat → Nat} {val : Nat → Int} {n j c k : Nat} (hk : k < kd w val n j c) (hk4 : k < 4) : (w j k : Int) * gv w val n (j + 1) (c + pw k) ≠ gv w val n j c := by
  unfold kd at hk
  intro e
  rcases s4 hk4 with rfl | rfl | rfl | rfl
  · rw [if_pos e] at hk; omega
  · rw [if_pos e] at hk
    split at hk <;> omega
  · rw [if_pos e] at hk
    split at hk
    · omega
    · split at hk <;> omega
  · rw [if_pos e] at hk
    split at hk
    · omega
    · split at hk
      · omega
      · split at hk <;> omega
def gs (w : Nat → Nat → Nat) (val : Nat → Int) (n : Nat) : Nat → Nat → Nat → Nat
  | 0, _, _ => 0
  | d + 1, j, c => 4 ^ d * kd w val n j c + gs w val n d (j + 1) (c + pw (kd w val n j c))
theorem SV_per {w : Nat → Nat → Nat} {val : Nat → Int} {d j c s k : Nat} : SV w val d j c (4 ^ d * k + s) = SV w val d j c s := by
  unfold SV
  rw [PR_per (Nat.le_refl d), PSm_per (Nat.le_refl d)]
theorem gs_spec {w : Nat → Nat → Nat} {val : Nat → Int} {n : Nat} : ∀ (d j c : Nat), j + d = n → 0 < gv w val n j c → gs w val n d j c < 4 ^ d ∧ SV w val d j c (gs w val n d j c) = gv w val n j c ∧ ∀ s, s < gs w val n d j c → SV w val d j c s < gv w val n j c := by
  intro d
  induction d with
  | zero =>
    intro j c h _
    have : j = n := by omega
    subst this
    refine ⟨(by decide : 0 < 4 ^ 0), ?_, fun s hs => absurd hs (Nat.not_lt_zero s)⟩
    rw [gv_end]
    unfold SV
    simp [PR, PSm]
  | succ d ih =>
    intro j c h hg
    obtain ⟨k4, ke⟩ := kd_spec (show j < n by omega) hg
    have kf : ∀ k, k < kd w val n j c → (w j k : Int) * gv w val n (j + 1) (c + pw k) ≠ gv w val n j c := fun k hk => kd_first hk (by omega)
    simp only [gs]
    generalize kd w val n j c = K at k4 ke kf
    have hg2 : 0 < gv w val n (j + 1) (c + pw K) := by
      rcases Int.lt_or_le 0 (gv w val n (j + 1) (c + pw K)) with q | q
      · exact q
      · have := Int.mul_le_mul_of_nonneg_left q (Int.natCast_nonneg (w j K))
        rw [Int.mul_zero] at this
        omega
    have hw : 0 < (w j K : Int) := by
      rcases Nat.eq_zero_or_pos (w j K) with q | q
      · rw [q] at ke; simp at ke; omega
      · omega
    obtain ⟨i1, i2, i3⟩ := ih (j + 1) (c + pw K) (by omega) hg2
    generalize gs w val n d (j + 1) (c + pw K) = g at i1 i2 i3
    have hp : 4 ^ d * K + 4 ^ d ≤ 4 ^ (d + 1) := by
      rw [Nat.pow_succ]
      have := Nat.mul_le_mul_left (4 ^ d) (show K + 1 ≤ 4 by omega)
      rw [Nat.mul_add, Nat.mul_one] at this
      exact this
    refine ⟨by omega, ?_, fun s hs => ?_⟩
    · rw [SV_s, top4 k4 i1, SV_per, i2, ke]
    · have hs4 : s < 4 ^ (d + 1) := by omega
      have hq : s / 4 ^ d < 4 := by
        rw [Nat.pow_succ] at hs4
        exact Nat.div_lt_of_lt_mul hs4
      have es := Nat.div_add_mod s (4 ^ d)
      have hr := Nat.mod_lt s (Nat.pow_pos (n := d) (by decide : 0 < 4))
      generalize s / 4 ^ d = k at hq es
      generalize s % 4 ^ d = x at hr es
      subst es
      rw [SV_s, top4 hq hr, SV_per]
      rcases Nat.lt_trichotomy k K with q | q | q
      · have a1 := Int.mul_le_mul_of_nonneg_left (SV_le (w := w) (val := val) (n := n) d (j + 1) (c + pw k) x (by omega)) (Int.natCast_nonneg (w j k))
        have a2 := gv_ge (w := w) (val := val) (n := n) (j := j) (c := c) (k := k) (by omega) hq
        have a3 := kf k q
        omega
      · subst q
        have a1 := i3 x (by omega)
        have a2 := Int.mul_lt_mul_of_pos_left a1 hw
        omega
      · exfalso
        have := Nat.mul_le_mul_left (4 ^ d) (show K + 1 ≤ k by omega)
        rw [Nat.mul_add, Nat.mul_one] at this
        omega
def bst (V : Nat → Nat) : Nat → Option Nat × Nat
  | 0 => (none, 0)
  | i + 1 => if (bst V i).2 < V i then (some i, V i) else bst V i
theorem bst_spec {V : Nat → Nat} : ∀ i, (∀ r, r < i → V r ≤ (bst V i).2) ∧ ((bst V i).1 = none → (bst V i).2 = 0) ∧ ∀ b, (bst V i).1 = some b → b < i ∧ V b = (bst V i).2 ∧ 0 < V b ∧ ∀ r, r < b → V r < V b := by
  intro i
  induction i with
  | zero => exact ⟨fun r hr => by omega, fun _ => rfl, fun b h => by simp [bst] at h⟩
  | succ i ih =>
    obtain ⟨a, b, c⟩ := ih
    simp only [bst]
    by_cases q : (bst V i).2 < V i
    · rw [if_pos q]
      refine ⟨fun r hr => ?_, fun h => by simp at h, fun x h => ?_⟩
      · by_cases e : r = i
        · subst e; exact Nat.le_refl _
        · have := a r (by omega); simp only; omega
      · have e : i = x := by simpa using h
        subst e
        exact ⟨by omega, rfl, by omega, fun r hr => by have := a r hr; omega⟩
    · rw [if_neg q]
      refine ⟨fun r hr => ?_, b, fun x h => ?_⟩
      · by_cases e : r = i
        · subst e; omega
        · exact a r (by omega)
      · obtain ⟨c1, c2, c3, c4⟩ := c x h
        exact ⟨by omega, c2, c3, c4⟩
theorem gs_dig {w : Nat → Nat → Nat} {val : Nat → Int} {n : Nat} (hn : n ≤ 6) (hg : 0 < gv w val n 0 0) : ∀ (d j : Nat), j + d = n → ∀ i, i < d → gs w val n d j (gp w val n j) / 4 ^ (d - 1 - i) % 4 = kd w val n (j + i) (gp w val n (j + i)) := by
  intro d
  induction d with
  | zero => intro j _ i hi; omega
  | succ d ih =>
    intro j hj i hi
    have h0 := (gp_spec hn hg j (by omega)).2.2
    have h1 := (gp_spec hn hg (j + 1) (by omega)).2.2
    have hk := (kd_spec (show j < n by omega) h0).1
    have hl := (gs_spec d (j + 1) (gp w val n (j + 1)) (by omega) h1).1
    have e : gs w val n (d + 1) j (gp w val n j) = 4 ^ d * kd w val n j (gp w val n j) + gs w val n d (j + 1) (gp w val n (j + 1)) := rfl
    rw [e]
    cases i with
    | zero => rw [show d + 1 - 1 - 0 = d by omega, top4 hk hl]; rfl
    | succ i =>
      rw [show d + 1 - 1 - (i + 1) = d - 1 - i by omega, dper (by omega), ih (j + 1) (by omega) i (by omega)]
      rw [show j + 1 + i = j + (i + 1) by omega]
def liM (w : Nat → Nat → Nat) (n c m : Nat) : Int32 := match (bst (rV w n c) (4 ^ n)).1 with
  | none => -1
  | some b => nI (dh b n m)
theorem li_eq {w : Nat → Nat → Nat} {n c m : Nat} (hn : n ≤ 6) (hm : m < n) (hc : c < 2401) : liS w n c m = liM w n c m := by
  obtain ⟨a, b, e⟩ := bst_spec (V := rV w n c) (4 ^ n)
  unfold liS liM
  have none0 : (∀ s, rV w n c s = 0) → (bst (rV w n c) (4 ^ n)).1 = none := fun z => by
    cases hb : (bst (rV w n c) (4 ^ n)).1 with
    | none => rfl
    | some x => have := (e x hb).2.2.1; rw [z] at this; omega
  by_cases h : sz c = n
  · rw [if_pos h]
    have sv : ∀ s, (rV w n c s : Int) = SV w (dl c) n 0 0 s := fun s => rV_int hn hc
    by_cases g : 0 < gv w (dl c) n 0 0
    · rw [if_pos g]
      obtain ⟨g1, g2, g3⟩ := gs_spec (w := w) (val := dl c) (n := n) n 0 0 (by omega) g
      have gd := gs_dig hn g n 0 (by omega) m hm
      rw [Nat.zero_add] at gd
      have g0 : gp w (dl c) n 0 = 0 := rfl
      rw [g0] at gd
      rw [← sv] at g2
      cases hb : (bst (rV w n c) (4 ^ n)).1 with
      | none =>
        exfalso
        have := a _ g1
        rw [b hb] at this
        omega
      | some x =>
        obtain ⟨x1, x2, x3, x4⟩ := e x hb
        have y1 := SV_le (w := w) (val := dl c) (n := n) n 0 0 x (by omega)
        rw [← sv] at y1
        have y2 := a _ g1
        have ex : x = gs w (dl c) n n 0 0 := by
          rcases Nat.lt_trichotomy x (gs w (dl c) n n 0 0) with q | q | q
          · have := g3 x q
            rw [← sv] at this
            omega
          · exact q
          · have := x4 _ q
            omega
        simp only
        rw [← gd, ← ex]
        rfl
    · rw [if_neg g, none0 (fun s => ?_)]
      have := SV_le (w := w) (val := dl c) (n := n) n 0 0 s (by omega)
      rw [← sv] at this
      omega
  · rw [if_neg h, none0 (fun s => rV_ne hn hc h)]
