/-! what the class's steps keep -/
def c_sm (h h' : ab_H) : Prop := (∀ i, 14 ≤ i → h' i = h i) ∧ h' 3 6 = h 3 6 ∧ h' 0 = h 0
theorem c_sm_tr {a b c : ab_H} (h1 : c_sm a b) (h2 : c_sm b c) : c_sm a c := ⟨fun i hi => (h2.1 i hi).trans (h1.1 i hi), h2.2.1.trans h1.2.1, h2.2.2.trans h1.2.2⟩
theorem c_sm_rf (a : ab_H) : c_sm a a := ⟨fun _ _ => rfl, rfl, rfl⟩
theorem c_sm_up {h : ab_H} {i k : Nat} {v : Int32} (h1 : i < 14) (h2 : i ≠ 3) (h3 : i ≠ 0) : c_sm h (ab_up h i k v) := ⟨fun j hj => ab_up_ne (by omega), by rw [ab_up_ne (Ne.symm h2)], ab_up_ne (Ne.symm h3)⟩
theorem c_sm_upA {h : ab_H} {i : Nat} {g : Nat → Int32} (h1 : i < 14) (h2 : i ≠ 3) (h3 : i ≠ 0) : c_sm h (ab_upA h i g) := by
  have e : ∀ j, j ≠ i → ab_upA h i g j = h j := fun j hj => by simp [ab_upA, hj]
  exact ⟨fun j hj => e j (by omega), by rw [e 3 (Ne.symm h2)], e 0 (Ne.symm h3)⟩
theorem c_inv_up {h : ab_H} {i k : Nat} {v : Int32} (h1 : i < 14) (h2 : i ≠ 2) (h3 : i ≠ 3) (h9 : i ≠ 9) (h10 : i ≠ 10) (h11 : i ≠ 11) (H : c_inv h) : c_inv (ab_up h i k v) :=
  c_inv_of (fun j hj => ab_up_ne (by omega)) (ab_up_ne (Ne.symm h2)) (ab_up_ne (Ne.symm h3)) (ab_up_ne (Ne.symm h9)) (ab_up_ne (Ne.symm h10)) (ab_up_ne (Ne.symm h11)) H
theorem c_inv_upA {h : ab_H} {i : Nat} {g : Nat → Int32} (h1 : i < 14) (h2 : i ≠ 2) (h3 : i ≠ 3) (h9 : i ≠ 9) (h10 : i ≠ 10) (h11 : i ≠ 11) (H : c_inv h) : c_inv (ab_upA h i g) := by
  have e : ∀ j, j ≠ i → ab_upA h i g j = h j := fun j hj => by simp [ab_upA, hj]
  exact c_inv_of (fun j hj => e j (by omega)) (e 2 (Ne.symm h2)) (e 3 (Ne.symm h3)) (e 9 (Ne.symm h9)) (e 10 (Ne.symm h10)) (e 11 (Ne.symm h11)) H
/-- an entry that may be remembered -/
def c_ent (s a was : Int32) : Prop := (¬ s = 5 → ¬ s = 6 → ¬ s = 7 → vp_in a 8) ∧ (s = 7 → vp_in a 4) ∧ (s = 6 → ∀ i : Int32, ¬ i < 0 → ¬ was ≤ i → vp_in i 16)
theorem c_rem_keep {h : ab_H} {s a was : Int32} (H : c_inv h) (he : c_ent s a was) : c_inv (c_rem h s a was) ∧ c_sm h (c_rem h s a was) := by
  unfold c_rem
  split
  · next c =>
    obtain ⟨hst, hlg, hpl, u, hu2, hu, hok, hsc⟩ := H
    have hu3 := c_room_u hu hu2 c
    have hc : (h 3 5).toNatClampNeg = u := by rw [hu]; exact nI_clamp (by omega)
    have hs1 : ¬ h 3 6 = -1 := by
      simp only [c_room, Bool.and_eq_true, decide_eq_true_eq] at c
      exact c.1
    rw [hc]
    generalize hH : ab_up (ab_up (ab_up (ab_up h 9 u s) 10 u a) 11 u was) 3 5 (h 3 5 + 1) = H
    have e14 : ∀ i, 14 ≤ i → H i = h i := fun i hi => by rw [← hH, ab_up_ne (by omega), ab_up_ne (by omega), ab_up_ne (by omega), ab_up_ne (by omega)]
    have e36 : H 3 6 = h 3 6 := by rw [← hH]; simp [ab_rd]
    have e35 : H 3 5 = nI (u + 1) := by rw [← hH]; simp [ab_rd, hu, nI_1]
    have e0 : H 0 = h 0 := by rw [← hH, ab_up_ne (by omega), ab_up_ne (by omega), ab_up_ne (by omega), ab_up_ne (by omega)]
    have e2 : H 2 = h 2 := by rw [← hH, ab_up_ne (by omega), ab_up_ne (by omega), ab_up_ne (by omega), ab_up_ne (by omega)]
    have f9 : ∀ j, H 9 j = if j = u then s else h 9 j := fun j => by rw [← hH]; simp [ab_rd]
    have f10 : ∀ j, H 10 j = if j = u then a else h 10 j := fun j => by rw [← hH]; simp [ab_rd]
    have f11 : ∀ j, H 11 j = if j = u then was else h 11 j := fun j => by rw [← hH]; simp [ab_rd]
    refine ⟨⟨fun w hw => ?_, ?_, ?_, u + 1, by omega, e35, fun j hj => ?_, ?_⟩, e14, e36, e0⟩
    · rw [e14 (8 * w + 14) (by omega), e14 (8 * w + 15) (by omega), e14 (8 * w + 16) (by omega), e14 (8 * w + 17) (by omega), e14 (8 * w + 18) (by omega), e14 (8 * w + 19) (by omega)]
      exact hst w hw
    · rw [e2]; exact hlg
    · unfold c_pok
      rw [e2]
      exact hpl
    · rw [f9 j, f10 j, f11 j]
      by_cases hj2 : j = u
      · rw [if_pos hj2, if_pos hj2, if_pos hj2]
        exact he
      · rw [if_neg hj2, if_neg hj2, if_neg hj2]
        exact hok j (by omega)
    · rw [e36]
      rcases hsc with ⟨q, -⟩ | ⟨mk, q1, q2⟩
      · exact absurd q hs1
      · exact Or.inr ⟨mk, by omega, q2⟩
  · exact ⟨H, c_sm_rf h⟩
theorem c_note_keep {h : ab_H} {v : Int32} (H : c_inv h) : c_inv (c_note h v) ∧ c_sm h (c_note h v) := by
  unfold c_note
  split
  · exact ⟨H, c_sm_rf h⟩
  · next c =>
    obtain ⟨hst, ⟨g, hg, eg⟩, hpl, u, hu2, hu, hok, hsc⟩ := H
    have hg2 : g < 100 := by
      rw [eg] at c
      have c2 : ¬ nI 100 ≤ nI g := c
      rw [nI_leI (by omega) (by omega)] at c2
      omega
    generalize hH : ab_up (ab_up h 8 (h 2 6).toNatClampNeg v) 2 6 (h 2 6 + 1) = H
    have e : ∀ i, i ≠ 2 → i ≠ 8 → H i = h i := fun i h1 h2 => by rw [← hH, ab_up_ne h1, ab_up_ne h2]
    refine ⟨⟨fun w hw => ?_, ⟨g + 1, by omega, ?_⟩, ?_, u, hu2, ?_, ?_, ?_⟩, fun i hi => e i (by omega) (by omega), by rw [e 3 (by omega) (by omega)], e 0 (by omega) (by omega)⟩
    · rw [e (8 * w + 14) (by omega) (by omega), e (8 * w + 15) (by omega) (by omega), e (8 * w + 16) (by omega) (by omega), e (8 * w + 17) (by omega) (by omega), e (8 * w + 18) (by omega) (by omega), e (8 * w + 19) (by omega) (by omega)]
      exact hst w hw
    · rw [← hH]; simp [ab_rd, eg, nI_1]
    · intro i h1 h2
      exact hpl i h1 (by rw [← hH] at h2; simpa [ab_rd] using h2)
    · rw [e 3 (by omega) (by omega)]; exact hu
    · unfold c_uok
      rw [e 9 (by omega) (by omega), e 10 (by omega) (by omega), e 11 (by omega) (by omega)]
      exact hok
    · rw [e 3 (by omega) (by omega)]; exact hsc
theorem c_places_keep {h : ab_H} {v : Int32} (H : c_inv h) (hv : ∀ i : Int32, ¬ i < 0 → ¬ v ≤ i → vp_in i 16) : c_inv (ab_up h 2 2 v) := by
  obtain ⟨hst, ⟨g, hg, eg⟩, hpl, u, hu2, hu, hok, hsc⟩ := H
  refine ⟨fun w hw => ?_, ⟨g, hg, ?_⟩, ?_, u, hu2, hu, hok, hsc⟩
  · rw [ab_up_ne (by omega), ab_up_ne (by omega), ab_up_ne (by omega), ab_up_ne (by omega), ab_up_ne (by omega), ab_up_ne (by omega)]
    exact hst w hw
  · simpa [ab_rd] using eg
  · intro i h1 h2
    exact hv i h1 (by simpa [ab_rd] using h2)
theorem c_keep_keep {h : ab_H} (H : c_inv h) : c_inv (c_keep h) ∧ c_sm h (c_keep h) := by
  unfold c_keep
  split
  · exact ⟨H, c_sm_rf h⟩
  · next c =>
    obtain ⟨hst, hlg, hpl, u, hu2, hu, hok, hsc⟩ := H
    rcases hsc with ⟨q, -⟩ | ⟨mk, q1, q2⟩
    · exact absurd q c
    · refine ⟨⟨fun w hw => ?_, hlg, hpl, mk, by omega, ?_, fun j hj => hok j (by omega), Or.inr ⟨mk, Nat.le_refl mk, ?_⟩⟩, fun i hi => ab_up_ne (by omega), ?_, ab_up_ne (by omega)⟩
      · rw [ab_up_ne (by omega), ab_up_ne (by omega), ab_up_ne (by omega), ab_up_ne (by omega), ab_up_ne (by omega), ab_up_ne (by omega)]
        exact hst w hw
      · simp [ab_rd, q2]
      · simp [ab_rd, q2]
      · simp [ab_rd]
