/-! the class's data and the reference's: what is alike -/
def s_box (bk bc : Nat → Int32) (v hd ct : Int32) : Prop := (v = 0 → hd = 0) ∧ (¬ v = 0 → ¬ hd = 0 ∧ hd = bk v.toNatClampNeg ∧ ct = bc v.toNatClampNeg)
def s_U (a9 a10 a11 a12 a13 t13 t14 t15 t16 bk bc : Nat → Int32) (j : Nat) : Prop :=
  (a9 j = 1 ∧ t13 j = 1 ∧ a10 j = t14 j ∧ a11 j = t15 j ∧ vp_in (a10 j) 8) ∨
  ((a9 j = 2 ∨ a9 j = 3) ∧ t13 j = 2 ∧ a10 j = t14 j ∧ a11 j = t15 j ∧ vp_in (a10 j) 8) ∨
  (a9 j = 5 ∧ t13 j = 5 ∧ a10 j = t14 j ∧ a11 j = t15 j) ∨
  (a9 j = 6 ∧ t13 j = 6 ∧ (∃ pl, pl ≤ 16 ∧ a11 j = nI pl ∧ t15 j = nI pl) ∧ ∀ k, k < 16 → a13 (16 * j + k) = t16 (16 * j + k)) ∨
  (a9 j = 7 ∧ t13 j = 7 ∧ a10 j = t14 j ∧ vp_in (a10 j) 4 ∧ s_box bk bc (t15 j) (a12 j) (a11 j))
/-- the boxes that a SLOT or an entry has -/
def s_rf (sl t13 t15 : Nat → Int32) (i : Nat) : Int32 := if i < 4 then sl i else if t13 (i - 4) = 7 then t15 (i - 4) else 0
def s_B (sl t13 t15 : Nat → Int32) (u bx : Nat) : Prop := (∀ i, i < 4 + u → ∃ v, v < bx ∧ s_rf sl t13 t15 i = nI v) ∧ ∀ i j, i < 4 + u → j < 4 + u → i ≠ j → s_rf sl t13 t15 i = s_rf sl t13 t15 j → s_rf sl t13 t15 i = 0
def s_N (n n' : Nat → Int32) : Prop := ∀ k, k < 8 → n k = n' k
def s_R (n n' : Nat → Int32) : Prop := ∀ k, k < 16 → n k = n' k
def s_P (p p' : Int32) : Prop := ∃ pl, pl ≤ 16 ∧ p = nI pl ∧ p' = nI pl
def s_L (l l' : Int32) (f f' : Nat → Int32) : Prop := ∃ lg, lg ≤ 100 ∧ l = nI lg ∧ l' = nI lg ∧ ∀ k, k < lg → f k = f' k
def s_X (sl bk bc hd ct : Nat → Int32) : Prop := ∀ k, k < 4 → s_box bk bc (sl k) (hd k) (ct k)
def s_C (x y z x' y' z' : Int32) : Prop := x = x' ∧ y = y' ∧ z = z'
def s_Us (a9 a10 a11 a12 a13 t13 t14 t15 t16 bk bc : Nat → Int32) (u : Nat) : Prop := ∀ j, j < u → s_U a9 a10 a11 a12 a13 t13 t14 t15 t16 bk bc j
def s_bx (x : Int32) (bx : Nat) : Prop := x = nI bx ∧ 1 ≤ bx
def s_RD (u bx : Nat) (h g : ab_H) : Prop := s_N (h 4) (g 5) ∧ s_R (h 5) (g 6) ∧ s_P (h 2 2) (g 0 7) ∧ s_L (h 2 6) (g 0 15) (h 8) (g 12) ∧ s_C (h 3 7) (h 3 8) (h 0 5) (g 0 18) (g 0 17) (g 0 19) ∧ s_X (g 7) (g 8) (g 9) (h 6) (h 7) ∧
  g 0 28 = nI u ∧ s_bx (g 0 13) bx ∧ s_Us (h 9) (h 10) (h 11) (h 12) (h 13) (g 13) (g 14) (g 15) (g 16) (g 8) (g 9) u ∧ s_B (g 7) (g 13) (g 15) u bx
/-- what a step leaves alone in the reference -/
def s_ctl (g g' : ab_H) : Prop := (∀ i, (1 ≤ i ∧ i ≤ 4) ∨ 17 ≤ i → g' i = g i) ∧ ∀ k, k = 0 ∨ k = 16 ∨ k = 20 ∨ k = 23 ∨ k = 30 ∨ 39 ≤ k → g' 0 k = g 0 k
theorem s_ctl_rf (g : ab_H) : s_ctl g g := ⟨fun _ _ => rfl, fun _ _ => rfl⟩
theorem s_ctl_tr {a b c : ab_H} (h1 : s_ctl a b) (h2 : s_ctl b c) : s_ctl a c := ⟨fun i hi => (h2.1 i hi).trans (h1.1 i hi), fun i hi => (h2.2 i hi).trans (h1.2 i hi)⟩
theorem s_ctl_up {g : ab_H} {i k : Nat} {v : Int32} (h : 5 ≤ i ∧ i ≤ 16) : s_ctl g (ab_up g i k v) := ⟨fun j hj => ab_up_ne (by omega), fun k hk => by rw [ab_up_ne (by omega)]⟩
theorem s_ctl_upA {g : ab_H} {i : Nat} {f : Nat → Int32} (h : 5 ≤ i ∧ i ≤ 16) : s_ctl g (ab_upA g i f) := by
  have e : ∀ j, j ≠ i → ab_upA g i f j = g j := fun j hj => by simp [ab_upA, hj]
  exact ⟨fun j hj => e j (by omega), fun k hk => by rw [e 0 (by omega)]⟩
theorem s_ctl_0 {g : ab_H} {k : Nat} {v : Int32} (h : ¬ (k = 0 ∨ k = 16 ∨ k = 20 ∨ k = 23 ∨ k = 30 ∨ 39 ≤ k)) : s_ctl g (ab_up g 0 k v) := ⟨fun j hj => ab_up_ne (by omega), fun n hn => by
  rw [ab_rd, if_pos rfl, if_neg (fun e => h (by rw [← e]; exact hn))]⟩
/-- the scopes -/
def s_S (sc : Nat) (h g : ab_H) : Prop := g 0 30 = nI sc ∧ sc ≤ 60 ∧ ((sc = 0 ∧ h 3 6 = -1) ∨ (0 < sc ∧ ∃ mk, mk ≤ 60 ∧ h 3 6 = nI mk ∧ g 17 (sc - 1) = nI mk))
theorem s_N_up {n n' : Nat → Int32} (H : s_N n n') (j : Nat) (x : Int32) : s_N (upd n j x) (upd n' j x) := fun k hk => by
  unfold upd
  split
  · rfl
  · exact H k hk
theorem s_R_up {n n' : Nat → Int32} (H : s_R n n') (j : Nat) (x : Int32) : s_R (upd n j x) (upd n' j x) := fun k hk => by
  unfold upd
  split
  · rfl
  · exact H k hk
theorem s_U_push {a9 a10 a11 a12 a13 t13 t14 t15 t16 b12 b13 u16 bk bc : Nat → Int32} {u : Nat} {s a w t x v : Int32} (H : s_Us a9 a10 a11 a12 a13 t13 t14 t15 t16 bk bc u) (e12 : ∀ j, j < u → b12 j = a12 j) (e13 : ∀ j, j < 16 * u → b13 j = a13 j) (e16 : ∀ j, j < 16 * u → u16 j = t16 j)
    (hn : s_U (upd a9 u s) (upd a10 u a) (upd a11 u w) b12 b13 (upd t13 u t) (upd t14 u x) (upd t15 u v) u16 bk bc u) : s_Us (upd a9 u s) (upd a10 u a) (upd a11 u w) b12 b13 (upd t13 u t) (upd t14 u x) (upd t15 u v) u16 bk bc (u + 1) := by
  intro j hj
  by_cases e : j = u
  · subst e; exact hn
  · have hj2 : j < u := by omega
    unfold s_U
    rw [pk_un e, pk_un e, pk_un e, pk_un e, pk_un e, pk_un e, e12 j hj2]
    rcases H j hj2 with q | q | q | q | q
    · exact Or.inl q
    · exact Or.inr (Or.inl q)
    · exact Or.inr (Or.inr (Or.inl q))
    · refine Or.inr (Or.inr (Or.inr (Or.inl ⟨q.1, q.2.1, q.2.2.1, fun k hk => ?_⟩)))
      rw [e13 _ (by omega), e16 _ (by omega)]
      exact q.2.2.2 k hk
    · exact Or.inr (Or.inr (Or.inr (Or.inr q)))
theorem s_B_push {sl t13 t15 : Nat → Int32} {u bx : Nat} {t v : Int32} (h0 : 1 ≤ bx) (H : s_B sl t13 t15 u bx) (ht : ¬ t = 7) : s_B sl (upd t13 u t) (upd t15 u v) (u + 1) bx := by
  have e1 : ∀ i, i < 4 + u → s_rf sl (upd t13 u t) (upd t15 u v) i = s_rf sl t13 t15 i := fun i hi => by
    unfold s_rf
    split
    · rfl
    · rw [pk_un (by omega), pk_un (by omega)]
  have e2 : s_rf sl (upd t13 u t) (upd t15 u v) (4 + u) = 0 := by
    unfold s_rf
    rw [if_neg (by omega), show 4 + u - 4 = u by omega, pk_us, if_neg ht]
  refine ⟨fun i hi => ?_, fun i j hi hj hij hq => ?_⟩
  · by_cases e : i = 4 + u
    · rw [e, e2]; exact ⟨0, by omega, rfl⟩
    · rw [e1 i (by omega)]; exact H.1 i (by omega)
  · by_cases e : i = 4 + u
    · rw [e, e2]
    · by_cases f : j = 4 + u
      · rw [hq, f, e2]
      · rw [e1 i (by omega), e1 j (by omega)] at hq
        rw [e1 i (by omega)]
        exact H.2 i j (by omega) (by omega) hij hq
theorem s_room {sc u : Nat} {h g : ab_H} (hS : s_S sc h g) (hz : h 3 5 = nI u) (hu : u < 60) : (sc = 0 ∧ c_room h = false ∧ g 0 30 = 0) ∨ (0 < sc ∧ c_room h = true ∧ ¬ g 0 30 = 0) := by
  obtain ⟨h30, h60, ⟨h1, h2⟩ | ⟨h1, mk, hm, h2, -⟩⟩ := hS
  · exact Or.inl ⟨h1, by simp [c_room, h2], by rw [h30, h1]; rfl⟩
  · refine Or.inr ⟨h1, ?_, by rw [h30]; exact nI_ne0 h1 (by omega)⟩
    simp only [c_room, Bool.and_eq_true, decide_eq_true_eq]
    refine ⟨by rw [h2]; exact nI_m mk (by omega), by rw [hz]; exact nI_ge (b := 60) hu (by omega)⟩
theorem c_rem_t {h : ab_H} {u : Nat} {s a w : Int32} (hz : h 3 5 = nI u) (hu : u < 60) (c : c_room h = true) : c_rem h s a w = ab_up (ab_up (ab_up (ab_up h 9 u s) 10 u a) 11 u w) 3 5 (nI (u + 1)) := by
  unfold c_rem
  rw [if_pos c, hz, nI_clamp (by omega), nI_1]
theorem c_rem_f {h : ab_H} {s a w : Int32} (c : c_room h = false) : c_rem h s a w = h := by
  unfold c_rem
  rw [if_neg (by rw [c]; decide)]
theorem m_rem_t {g : ab_H} {u : Nat} {s a w : Int32} (hz : g 0 28 = nI u) (hu : u < 60) (c : ¬ g 0 30 = 0) (hs : ¬ s = 6) : m_rem g s a w = ab_up (ab_up (ab_up (ab_up g 13 u s) 14 u a) 15 u w) 0 28 (nI (u + 1)) := by
  unfold m_rem
  rw [if_neg c, hz, nI_clamp (by omega), nI_1, if_neg hs]
theorem m_rem_t6 {g : ab_H} {u : Nat} {a w : Int32} (hz : g 0 28 = nI u) (hu : u < 60) (c : ¬ g 0 30 = 0) : m_rem g 6 a w = ab_up (ab_upA (ab_up (ab_up (ab_up g 13 u 6) 14 u a) 15 u w) 16 (va_cpy (g 6) (g 16) 0 (16 * u) 16)) 0 28 (nI (u + 1)) := by
  unfold m_rem
  rw [if_neg c, hz, nI_clamp (by omega), nI_1, if_pos rfl]
theorem m_rem_f {g : ab_H} {s a w : Int32} (c : g 0 30 = 0) : m_rem g s a w = g := by
  unfold m_rem
  rw [if_pos c]
theorem m_rem_ctl {g : ab_H} {s a w : Int32} : s_ctl g (m_rem g s a w) := by
  unfold m_rem
  split
  · exact s_ctl_rf g
  · split
    · exact s_ctl_tr (s_ctl_tr (s_ctl_tr (s_ctl_tr (s_ctl_up (by decide)) (s_ctl_up (by decide))) (s_ctl_up (by decide))) (s_ctl_upA (by decide))) (s_ctl_0 (by decide))
    · exact s_ctl_tr (s_ctl_tr (s_ctl_tr (s_ctl_up (by decide)) (s_ctl_up (by decide))) (s_ctl_up (by decide))) (s_ctl_0 (by decide))
/-- an entry of another sort than a SLOT's or a ROW's -/
def s_ent (s t a : Int32) : Prop := (s = 1 ∧ t = 1 ∧ vp_in a 8) ∨ ((s = 2 ∨ s = 3) ∧ t = 2 ∧ vp_in a 8) ∨ (s = 5 ∧ t = 5)
theorem s_rem {u bx sc : Nat} {h g : ab_H} {s t a w : Int32} (D : s_RD u bx h g) (hz : h 3 5 = nI u) (hS : s_S sc h g) (hu : u < 60) (he : s_ent s t a) : ∃ u', u' ≤ u + 1 ∧ s_RD u' bx (c_rem h s a w) (m_rem g t a w) ∧ c_rem h s a w 3 5 = nI u' ∧ c_rem h s a w 4 = h 4 ∧ c_rem h s a w 5 = h 5 ∧ m_rem g t a w 5 = g 5 ∧ m_rem g t a w 6 = g 6 := by
  obtain ⟨d1, d2, d3, d4, d5, d6, d7, d8, d9, d10⟩ := D
  rcases s_room hS hz hu with ⟨-, c1, c2⟩ | ⟨-, c1, c2⟩
  · rw [c_rem_f c1, m_rem_f c2]
    exact ⟨u, by omega, ⟨d1, d2, d3, d4, d5, d6, d7, d8, d9, d10⟩, hz, rfl, rfl, rfl, rfl⟩
  · have ht6 : ¬ t = 6 := by
      rcases he with ⟨-, e, -⟩ | ⟨-, e, -⟩ | ⟨-, e⟩ <;> (rw [e]; decide)
    have ht7 : ¬ t = 7 := by
      rcases he with ⟨-, e, -⟩ | ⟨-, e, -⟩ | ⟨-, e⟩ <;> (rw [e]; decide)
    rw [c_rem_t hz hu c1, m_rem_t d7 hu c2 ht6]
    refine ⟨u + 1, by omega, ⟨d1, d2, d3, d4, d5, d6, rfl, d8, s_U_push d9 (fun _ _ => rfl) (fun _ _ => rfl) (fun _ _ => rfl) ?_, s_B_push d8.2 d10 ht7⟩, rfl, rfl, rfl, rfl, rfl⟩
    unfold s_U
    rw [pk_us, pk_us, pk_us, pk_us, pk_us, pk_us]
    rcases he with ⟨e1, e2, e3⟩ | ⟨e1, e2, e3⟩ | ⟨e1, e2⟩
    · exact Or.inl ⟨e1, e2, rfl, rfl, e3⟩
    · exact Or.inr (Or.inl ⟨e1, e2, rfl, rfl, e3⟩)
    · exact Or.inr (Or.inr (Or.inl ⟨e1, e2, rfl, rfl⟩))
