/-! ===== the state that the two constructors leave ===== -/
def m1a : Nat → Int32 := upd (upd (upd (upd (upd (upd (fun _ => 0) 0 (-1)) 1 (-1)) 2 (-1)) 3 (-1)) 4 (-1)) 5 (-1)
def s0I (F G : Nat → Int32) : Nat → Nat → Int32
  | 0 => upd (upd (fun _ => 0) 15 3) 16 2
  | 5 => upd (fun _ => 0) 2 (-1)
  | 7 => upd (fun _ => 0) 4 (-1)
  | 16 => F
  | 17 => G
  | 21 => upd (fun _ => 0) 3 1
  | 22 => upd (fun _ => 0) 3 1
  | 23 => upd (fun _ => 0) 3 1
  | 24 => upd (fun _ => 0) 3 1
  | 29 => m1a
  | 32 => m1a
  | 35 => upd (upd (fun _ => 0) 9 3) 10 2
  | 42 => m1a
  | 44 => m1a
  | _ => fun _ => 0
def s0L : Nat → Nat → Int64
  | 18 => vp_updL (fun _ => 0) 1 1
  | _ => fun _ => 0
def s0 (F G : Nat → Int32) : St := (s0I F G, s0L)
theorem f00 (b : Nat → Int32) : fault0 b 0 = none := by unfold fault0; simp only [ft0]; exact if_pos (Or.inl trivial)
theorem f10 (b : Nat → Int32) : fault1 b 0 = none := by
  unfold fault1
  simp only [ft1, rm]
  exact if_pos (Or.inl trivial)
theorem n10 (b : Nat → Int32) : num1 b 0 = 0 := by
  unfold num1
  rw [f10]
  rfl
theorem m1a_e : ∀ m, m < 6 → m1a m = -1 := by decide
theorem inv0 {F G : Nat → Int32} (hp : PTf F G) : Inv (s0 F G) := by
  have hRO : RO (s0 F G) 0 := ⟨by decide, rfl, fun j _ => ⟨0, by decide, rfl⟩, by rw [f00]; rfl, by rw [f00]; rfl, fun _ j hj => absurd hj (Nat.not_lt_zero j)⟩
  have hKO : KO (s0 F G) 0 := by
    refine ⟨by decide, rfl, by rw [f10]; rfl, ?_, ?_, ?_⟩
    · rw [n10]; exact ⟨by decide, rfl, fun j hj => absurd hj (Nat.not_lt_zero j)⟩
    · rw [n10]
      intro c _ _
      unfold BS
      rw [BB0]
      rfl
    · rw [n10]; exact fun j hj => absurd hj (Nat.not_lt_zero j)
  refine ⟨⟨0, 0, ⟨⟨hp, ⟨3, by decide, rfl⟩, ⟨2, by decide, rfl⟩, rfl, rfl, 0, 0, hRO, hKO, ⟨by decide, by decide, rfl, fun i _ => rfl⟩, ⟨by decide, by decide, rfl, fun i _ => rfl⟩, by rw [f00]; rfl, (n10 _).symm⟩, rfl⟩, fun m _ => ⟨0, by decide, rfl⟩, fun m hm => Or.inl (m1a_e m hm), rfl, rfl, rfl⟩, ?_⟩
  intro s hs
  refine ⟨0, by decide, ?_⟩
  rcases s4 hs with rfl | rfl | rfl | rfl
  · exact ⟨Or.inr ⟨rfl, rfl⟩, rfl, rfl, rfl, fun i hi => absurd hi (Nat.not_lt_zero i)⟩
  · exact ⟨Or.inr ⟨rfl, rfl⟩, rfl, rfl, rfl, fun i hi => absurd hi (Nat.not_lt_zero i)⟩
  · exact ⟨Or.inr ⟨rfl, rfl⟩, rfl, rfl, rfl, fun i hi => absurd hi (Nat.not_lt_zero i)⟩
  · exact ⟨Or.inr ⟨rfl, rfl⟩, rfl, rfl, rfl, fun i hi => absurd hi (Nat.not_lt_zero i)⟩
/-! from the list of cells to the numbered cells -/
theorem vaP_unset {D : va_G} {cl : List vw_C} {ws : va_W} {H : Heap} {k a : Nat} {e e' : va_E} (hP : va_P D cl (ws.set k (a, e)) H) (hk : ws[k]? = some (a, e')) (he : va_at D cl (a, e) H → va_at D cl (a, e') H) : va_P D cl ws H := by
  intro i q hq
  have hlt := (List.getElem?_eq_some_iff.mp hk).1
  by_cases hi : k = i
  · subst hi
    rw [hk] at hq
    cases hq
    exact he (hP k (a, e) (by rw [List.getElem?_set_self hlt]))
  · exact hP i q (by rw [List.getElem?_set_ne hi]; exact hq)
theorem vaD_unset {A : Nat → Prop} {ws : va_W} {k a : Nat} {e e' : va_E} (hD : va_D A (ws.set k (a, e))) (hk : ws[k]? = some (a, e')) : va_D A ws := by
  have hlt := (List.getElem?_eq_some_iff.mp hk).1
  have key : ∀ (i : Nat) (q : Nat × va_E), ws[i]? = some q → ∃ q' : Nat × va_E, (ws.set k (a, e))[i]? = some q' ∧ q'.1 = q.1 := by
    intro i q hq
    by_cases hi : k = i
    · subst hi
      rw [hk] at hq
      cases hq
      exact ⟨(a, e), by rw [List.getElem?_set_self hlt], rfl⟩
    · exact ⟨q, by rw [List.getElem?_set_ne hi]; exact hq, rfl⟩
  refine ⟨fun i j p q h1 h2 h3 => ?_, fun i q h1 => ?_⟩
  · obtain ⟨p', g1, g2⟩ := key i p h1
    obtain ⟨q', g3, g4⟩ := key j q h2
    exact hD.1 i j p' q' g1 g3 (by rw [g2, g4, h3])
  · obtain ⟨q', g1, g2⟩ := key i q h1
    rw [← g2]
    exact hD.2 i q' g1
theorem arrV_congr {cI : ClassId} {N : Nat} {f g : Nat → Value} (h : ∀ j, j < N → f j = g j) : arrV cI N f = arrV cI N g := by
  unfold arrV
  congr 1
  congr 1
  funext j
  exact h j.val j.isLt
