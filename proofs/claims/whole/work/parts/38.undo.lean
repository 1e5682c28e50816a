/-! undoing, class beside reference; all plain steps together -/
section SUN
variable {u bx sc : Nat} {h g : ab_H}
theorem s_Us_less {a9 a10 a11 a12 a13 t13 t14 t15 t16 bk bc : Nat → Int32} (H : s_Us a9 a10 a11 a12 a13 t13 t14 t15 t16 bk bc (u + 1)) : s_Us a9 a10 a11 a12 a13 t13 t14 t15 t16 bk bc u := fun j hj => H j (by omega)
theorem s_B_less {sl t13 t15 : Nat → Int32} (H : s_B sl t13 t15 (u + 1) bx) : s_B sl t13 t15 u bx := ⟨fun i hi => H.1 i (by omega), fun i j hi hj => H.2 i j (by omega) (by omega)⟩
/-- one entry is undone -/
theorem s_undo (D : s_RD (u + 1) bx h g) (hu : u < 60) : s_RD u bx (c_undoAt h u) (m_undo g u) := by
  have D0 := D
  obtain ⟨d1, d2, d3, d4, d5, d6, d7, d8, d9, d10⟩ := D
  have L9 := s_Us_less d9
  have L10 := s_B_less d10
  have hc5 : h 3 7 + 1 = g 0 18 + 1 := by rw [d5.1]
  unfold c_undoAt m_undo
  rcases d9 u (by omega) with ⟨a1, a2, a3, a4, a5⟩ | ⟨a1, a2, a3, a4, a5⟩ | ⟨a1, a2, a3, a4⟩ | ⟨a1, a2, ⟨pl, p1, p2, p3⟩, a4⟩ | ⟨a1, a2, a3, a4, a5⟩
  · rw [if_neg (by rw [a1]; exact fun q => absurd q.1 (by decide)), if_neg (by rw [a2]; exact fun q => absurd q.1 (by decide)), c_undoB, m_undoB, if_pos a1, if_pos a2, ← a3, ← a4, d1 _ (vp_lt a5)]
    exact ⟨s_N_up d1 _ _, d2, d3, d4, ⟨hc5, d5.2⟩, d6, rfl, d8, L9, L10⟩
  · have n1 : ¬ h 9 u = 1 ∧ ¬ h 9 u = 5 ∧ ¬ h 9 u = 6 ∧ ¬ h 9 u = 7 := by
      rcases a1 with a1 | a1 <;> (rw [a1]; decide)
    rw [if_neg (fun q => n1.2.1 q.1), if_neg (by rw [a2]; exact fun q => absurd q.1 (by decide)), c_undoB, m_undoB, if_neg n1.1, if_neg n1.2.1, if_neg n1.2.2.1, if_neg n1.2.2.2, if_neg (by rw [a2]; decide), if_pos a2, ← a3, ← a4]
    exact ⟨s_N_up d1 _ _, d2, d3, d4, ⟨hc5, d5.2⟩, d6, rfl, d8, L9, L10⟩
  · rw [← a3]
    rcases s_place D0 (h 10 u) with ⟨c1, c2, c3⟩ | ⟨c1, c2⟩
    · have c4 : ¬ (h 10 u < 0 ∨ ¬ h 10 u < g 0 7) := by
        simpa only [Bool.or_eq_false_iff, decide_eq_false_iff_not, not_or] using c2
      rw [if_neg (by rw [c1]; exact fun q => absurd q.2 (by decide)), if_neg (fun q => c4 q.2), c_undoB, m_undoB, if_neg (by rw [a1]; decide), if_pos a1, if_neg (by rw [a2]; decide), if_neg (by rw [a2]; decide), if_pos a2, ← a4]
      exact ⟨d1, s_R_up d2 _ _, d3, d4, ⟨hc5, d5.2⟩, d6, rfl, d8, L9, L10⟩
    · have c4 : h 10 u < 0 ∨ ¬ h 10 u < g 0 7 := by
        simpa only [Bool.or_eq_true, decide_eq_true_eq] using c2
      rw [if_pos ⟨a1, c1⟩, if_pos ⟨a2, c4⟩]
      exact ⟨d1, d2, d3, d4, ⟨d5.1, by show h 3 8 + 1 = g 0 17 + 1; rw [d5.2.1], d5.2.2⟩, d6, rfl, d8, L9, L10⟩
  · rw [if_neg (by rw [a1]; exact fun q => absurd q.1 (by decide)), if_neg (by rw [a2]; exact fun q => absurd q.1 (by decide)), c_undoB, m_undoB, if_neg (by rw [a1]; decide), if_neg (by rw [a1]; decide), if_pos a1, if_neg (by rw [a2]; decide), if_neg (by rw [a2]; decide), if_neg (by rw [a2]; decide), if_neg (by rw [a2]; decide), p2, p3]
    refine ⟨d1, fun k hk => ?_, ⟨pl, p1, rfl, rfl⟩, d4, ⟨hc5, d5.2⟩, d6, rfl, d8, L9, L10⟩
    show va_cpy (h 13) (h 5) (u * 16) 0 16 k = va_cpy (g 16) (g 6) (16 * u) 0 16 k
    rw [pk_cpy_in (by omega) (by omega), pk_cpy_in (by omega) (by omega), Nat.sub_zero, Nat.mul_comm u 16]
    exact a4 k hk
  · obtain ⟨j, hj, ej⟩ := vp_in_of a4 (by omega)
    rw [if_neg (by rw [a1]; exact fun q => absurd q.1 (by decide)), if_neg (by rw [a2]; exact fun q => absurd q.1 (by decide)), c_undoB, m_undoB, if_neg (by rw [a1]; decide), if_neg (by rw [a1]; decide), if_neg (by rw [a1]; decide), if_pos a1, if_neg (by rw [a2]; decide), if_neg (by rw [a2]; decide), if_neg (by rw [a2]; decide), if_pos a2, ← a3, ej, nI_clamp (by omega)]
    refine ⟨d1, d2, d3, d4, ⟨hc5, d5.2⟩, s_X_set d6 a5, rfl, d8, L9, ?_⟩
    have e4 : s_rf (upd (g 7) j (g 15 u)) (g 13) (g 15) j = s_rf (g 7) (g 13) (g 15) (4 + u) := by
      rw [s_rf_lt hj, pk_us, s_rf_7 a2]
    show s_B (upd (g 7) j (g 15 u)) (g 13) (g 15) u bx
    refine ⟨fun i hi => ?_, fun i k hi hk hik hq => ?_⟩
    · by_cases c : i = j
      · rw [c, e4]; exact d10.1 (4 + u) (by omega)
      · rw [s_rf_sl c]; exact d10.1 i (by omega)
    · by_cases c : i = j
      · rw [c, e4] at hq ⊢
        rw [s_rf_sl (show k ≠ j from fun q => hik (by rw [c, q]))] at hq
        exact d10.2 (4 + u) k (by omega) (by omega) (by omega) hq
      · rw [s_rf_sl c] at hq ⊢
        by_cases c2 : k = j
        · rw [c2, e4] at hq
          exact d10.2 i (4 + u) (by omega) (by omega) (by omega) hq
        · rw [s_rf_sl c2] at hq
          exact d10.2 i k (by omega) (by omega) hik hq
theorem s_ua {mk : Nat} : ∀ (n : Nat) (h g : ab_H), mk + n ≤ 60 → s_RD (mk + n) bx h g → s_RD mk bx (c_ua mk n h) (m_ua mk n g) := by
  intro n
  induction n with
  | zero => intro h g _ D; exact D
  | succ n ih =>
    intro h g hn D
    exact ih _ _ (by omega) (s_undo (u := mk + n) D (by omega))
theorem s_uok (D : s_RD u bx h g) : m_uok g u ∧ m_pok g := by
  obtain ⟨d1, d2, ⟨pl, p1, p2, p3⟩, d4, d5, d6, d7, d8, d9, d10⟩ := D
  have hin : ∀ (p : Nat) (i : Int32), p ≤ 16 → ¬ i < 0 → i < nI p → vp_in i 16 := fun p i hp h1 h2 => by
    obtain ⟨q, hq, rfl⟩ := nI_of h1
    have := (nI_ltI hq (by omega)).mp h2
    exact vp_in_nI (by omega) (by omega)
  refine ⟨fun j hj => ?_, fun i h1 h2 => hin pl i p1 h1 (by rw [← p3]; exact h2)⟩
  rcases d9 j hj with ⟨a1, a2, a3, a4, a5⟩ | ⟨a1, a2, a3, a4, a5⟩ | ⟨a1, a2, a3, a4⟩ | ⟨a1, a2, ⟨pl, p1, p2, p3⟩, a4⟩ | ⟨a1, a2, a3, a4, a5⟩
  · exact ⟨fun _ => by rw [← a3]; exact a5, fun q => absurd (a2.symm.trans q) (by decide), fun q => absurd a2 q⟩
  · exact ⟨fun _ => by rw [← a3]; exact a5, fun q => absurd (a2.symm.trans q) (by decide), fun _ q => absurd a2 q⟩
  · refine ⟨fun q => ?_, fun q => absurd (a2.symm.trans q) (by decide), fun _ _ q => absurd a2 q⟩
    rw [a2] at q
    exact absurd q (by decide)
  · refine ⟨fun q => ?_, fun q => absurd (a2.symm.trans q) (by decide), fun _ _ _ _ i h1 h2 => hin pl i p1 h1 (by rw [← p3]; exact h2)⟩
    rw [a2] at q
    exact absurd q (by decide)
  · refine ⟨fun q => ?_, fun _ => by rw [← a3]; exact a4, fun _ _ _ q => absurd a2 q⟩
    rw [a2] at q
    exact absurd q (by decide)
/-- every plain step -/
theorem s_plain (D : s_RD u bx h g) (hz : h 3 5 = nI u) (hS : s_S sc h g) (hmk : ∀ mk, h 3 6 = nI mk → mk ≤ 60 → mk ≤ u) (hu : u < 60) (hb : bx < 80) {s a b : Int32} (ok : c_nok s a b) (h9 : ¬ s = 9) (h17 : ¬ s = 17) (h18 : ¬ s = 18) (h19 : ¬ s = 19) :
    s_St u bx g (c_step h s a b) (m_plain g s a b) (c_stepK h s a b) (c_stepN h s a b) (m_plainR g s a b) := by
  obtain ⟨o1, o2, o3, o4, o5⟩ := ok
  have hN : ∀ q : Int32, ¬ s = q → (s = q) = False := fun q hq => eq_false hq
  by_cases e0 : s = 0
  · subst e0; exact s_St_note D hz (o1 (Or.inl rfl))
  by_cases e1 : s = 1
  · subst e1; exact s_St_add D hz hS hu (o1 (by decide))
  by_cases e2 : s = 2
  · subst e2; exact s_St_set D hz hS hu (o1 (by decide))
  by_cases e3 : s = 3
  · subst e3; exact s_St_div D hz hS hu (o1 (by decide)) (o2 (by decide))
  by_cases e4 : s = 4
  · subst e4; exact s_St_read D hz (o2 (by decide))
  by_cases e5 : s = 5
  · subst e5; exact s_St_write D hz hS hu (o1 (by decide)) (o2 (by decide))
  by_cases e6 : s = 6
  · subst e6; exact s_St_make D hz hS hu (D.1 _ (vp_lt (o1 (by decide))))
  by_cases e7 : s = 7
  · subst e7; exact s_St_hold D hz hS hu hb (o3 (by decide))
  by_cases e8 : s = 8
  · subst e8; exact s_St_use D hz hb (o3 (by decide))
  by_cases e23 : s = 23
  · subst e23; exact s_St_keep D hz hS hmk
  · simp only [c_step, m_plain, c_stepK, c_stepN, m_plainR, if_neg e0, if_neg e1, if_neg e2, if_neg e3, if_neg e4, if_neg e5, if_neg e6, if_neg e7, if_neg e8, if_neg e23, if_neg h9, if_neg h17, if_neg h18, if_neg h19]
    exact ⟨u, bx, by omega, by omega, D, hz, s_ctl_rf g, fun _ => rfl, fun q => absurd rfl q⟩
end SUN
