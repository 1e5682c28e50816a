/-! the plain steps, class beside reference -/
def s_St (u bx : Nat) (g h' g' : ab_H) (K N R : Int32) : Prop := ∃ u' bx', u' ≤ u + 1 ∧ bx' ≤ bx + 1 ∧ s_RD u' bx' h' g' ∧ h' 3 5 = nI u' ∧ s_ctl g g' ∧ (K = 0 → R = 0) ∧ (¬ K = 0 → K = 4 ∧ R = 1 ∧ g' 0 21 = N)
section SST
variable {u bx sc : Nat} {h g : ab_H}
theorem s_num (D : s_RD u bx h g) (j : Nat) (x : Int32) : s_RD u bx (ab_up h 4 j x) (ab_up g 5 j x) := by
  obtain ⟨d1, d2, d3, d4, d5, d6, d7, d8, d9, d10⟩ := D
  exact ⟨s_N_up d1 j x, d2, d3, d4, d5, d6, d7, d8, d9, d10⟩
theorem s_row (D : s_RD u bx h g) (j : Nat) (x : Int32) : s_RD u bx (ab_up h 5 j x) (ab_up g 6 j x) := by
  obtain ⟨d1, d2, d3, d4, d5, d6, d7, d8, d9, d10⟩ := D
  exact ⟨d1, s_R_up d2 j x, d3, d4, d5, d6, d7, d8, d9, d10⟩
theorem s_kind (D : s_RD u bx h g) (x : Int32) : s_RD u bx h (ab_up g 0 21 x) := by
  obtain ⟨d1, d2, d3, d4, d5, d6, d7, d8, d9, d10⟩ := D
  exact ⟨d1, d2, d3, d4, d5, d6, d7, d8, d9, d10⟩
theorem s_note (D : s_RD u bx h g) (v : Int32) : s_RD u bx (c_note h v) (m_note g v) ∧ c_note h v 3 = h 3 ∧ s_ctl g (m_note g v) := by
  obtain ⟨d1, d2, d3, ⟨lg, l1, l2, l3, l4⟩, d5, d6, d7, d8, d9, d10⟩ := D
  unfold c_note m_note
  by_cases e : lg = 100
  · subst e
    rw [if_pos (by rw [l2]; decide), if_pos (by rw [l3]; decide)]
    exact ⟨⟨d1, d2, d3, ⟨100, l1, l2, l3, l4⟩, d5, d6, d7, d8, d9, d10⟩, rfl, s_ctl_rf g⟩
  · rw [if_neg (by rw [l2]; exact nI_ge (b := 100) (by omega) (by omega)), if_neg (by rw [l3]; exact fun q => e ((nI_eq (b := 100) (by omega) (by omega)).mp q)), l2, l3, nI_clamp (by omega), nI_1]
    refine ⟨⟨d1, d2, d3, ⟨lg + 1, by omega, rfl, rfl, fun k hk => ?_⟩, d5, d6, d7, d8, d9, d10⟩, rfl, s_ctl_tr (s_ctl_up (by decide)) (s_ctl_0 (by decide))⟩
    show upd (h 8) lg v k = upd (g 12) lg v k
    unfold upd
    split
    · rfl
    · exact l4 k (by omega)
theorem s_St_note (D : s_RD u bx h g) (hz : h 3 5 = nI u) {a : Int32} (ha : vp_in a 8) : s_St u bx g (c_note h (h 4 a.toNatClampNeg)) (m_note g (g 5 a.toNatClampNeg)) 0 0 0 := by
  rw [D.1 _ (vp_lt ha)]
  obtain ⟨D2, e3, hc⟩ := s_note D (g 5 a.toNatClampNeg)
  exact ⟨u, bx, by omega, by omega, D2, by rw [e3]; exact hz, hc, fun _ => rfl, fun q => absurd rfl q⟩
theorem ab_comm {h : ab_H} {i k j n : Nat} {v w : Int32} (e : i ≠ j) : ab_up (ab_up h i k v) j n w = ab_up (ab_up h j n w) i k v := by
  funext x y
  simp only [ab_rd]
  by_cases e1 : x = j
  · subst e1
    simp [Ne.symm e]
  · by_cases e2 : x = i
    · subst e2
      simp [e]
    · simp [e1, e2]
theorem m_rem_comm {s a w : Int32} (hs : ¬ s = 6) (j : Nat) (x : Int32) : m_rem (ab_up g 5 j x) s a w = ab_up (m_rem g s a w) 5 j x := by
  have e0 : ab_up g 5 j x 0 = g 0 := ab_up_ne (by omega)
  simp only [m_rem, if_neg hs, e0]
  split
  · rfl
  · rw [ab_comm (i := 0) (j := 5) (by omega), ab_comm (i := 15) (j := 5) (by omega), ab_comm (i := 14) (j := 5) (by omega), ab_comm (i := 13) (j := 5) (by omega)]
theorem s_St_add (D : s_RD u bx h g) (hz : h 3 5 = nI u) (hS : s_S sc h g) (hu : u < 60) {a b : Int32} (ha : vp_in a 8) : s_St u bx g (c_add h a b) (m_rem (ab_up g 5 a.toNatClampNeg (g 5 a.toNatClampNeg + b)) 1 a b) 0 0 0 := by
  obtain ⟨u', hu', D2, hz2, e4, e5, f5, f6⟩ := s_rem (w := b) D hz hS hu (s := 1) (t := 1) (a := a) (Or.inl ⟨rfl, rfl, ha⟩)
  rw [m_rem_comm (by decide)]
  unfold c_add
  rw [e4, D.1 _ (vp_lt ha)]
  exact ⟨u', bx, hu', by omega, s_num D2 _ _, hz2, s_ctl_tr m_rem_ctl (s_ctl_up (by decide)), fun _ => rfl, fun q => absurd rfl q⟩
theorem s_St_set (D : s_RD u bx h g) (hz : h 3 5 = nI u) (hS : s_S sc h g) (hu : u < 60) {a b : Int32} (ha : vp_in a 8) : s_St u bx g (c_set h a b) (ab_up (m_rem g 2 a (g 5 a.toNatClampNeg)) 5 a.toNatClampNeg b) 0 0 0 := by
  unfold c_set
  rw [D.1 _ (vp_lt ha)]
  obtain ⟨u', hu', D2, hz2, e4, e5, f5, f6⟩ := s_rem (w := g 5 a.toNatClampNeg) D hz hS hu (s := 2) (t := 2) (a := a) (Or.inr (Or.inl ⟨Or.inl rfl, rfl, ha⟩))
  exact ⟨u', bx, hu', by omega, s_num D2 _ _, hz2, s_ctl_tr m_rem_ctl (s_ctl_up (by decide)), fun _ => rfl, fun q => absurd rfl q⟩
theorem s_St_div (D : s_RD u bx h g) (hz : h 3 5 = nI u) (hS : s_S sc h g) (hu : u < 60) {a b : Int32} (ha : vp_in a 8) (hb : vp_in b 8) : s_St u bx g (c_div h a b)
    (if g 5 b.toNatClampNeg = 0 then ab_up g 0 21 1 else ab_up (m_rem g 2 a (g 5 a.toNatClampNeg)) 5 a.toNatClampNeg (m_rem g 2 a (g 5 a.toNatClampNeg) 5 a.toNatClampNeg / m_rem g 2 a (g 5 a.toNatClampNeg) 5 b.toNatClampNeg))
    (if h 4 b.toNatClampNeg = 0 then 4 else 0) (if h 4 b.toNatClampNeg = 0 then 1 else 0) (if g 5 b.toNatClampNeg = 0 then 1 else 0) := by
  unfold c_div
  rw [D.1 _ (vp_lt ha), D.1 _ (vp_lt hb)]
  by_cases c : g 5 b.toNatClampNeg = 0
  · simp only [if_pos c]
    exact ⟨u, bx, by omega, by omega, s_kind D 1, hz, s_ctl_0 (by decide), fun q => absurd q (by decide), fun _ => ⟨rfl, rfl, rfl⟩⟩
  · simp only [if_neg c]
    obtain ⟨u', hu', D2, hz2, e4, e5, f5, f6⟩ := s_rem (w := g 5 a.toNatClampNeg) D hz hS hu (s := 3) (t := 2) (a := a) (Or.inr (Or.inl ⟨Or.inr rfl, rfl, ha⟩))
    rw [e4, f5, D.1 _ (vp_lt ha)]
    exact ⟨u', bx, hu', by omega, s_num D2 _ _, hz2, s_ctl_tr m_rem_ctl (s_ctl_up (by decide)), fun _ => rfl, fun q => absurd rfl q⟩
/-- a place of the row -/
theorem s_place (D : s_RD u bx h g) (p : Int32) : (c_hasPlace h p = true ∧ (decide (p < 0) || decide (¬ p < g 0 7)) = false ∧ p.toNatClampNeg < 16) ∨ (c_hasPlace h p = false ∧ (decide (p < 0) || decide (¬ p < g 0 7)) = true) := by
  obtain ⟨pl, hp, e1, e2⟩ := D.2.2.1
  unfold c_hasPlace
  rw [e1, e2]
  by_cases c : p < 0
  · right
    simp [c]
  · obtain ⟨q, hq, rfl⟩ := nI_of c
    by_cases c2 : q < pl
    · left
      have h1 : ¬ nI pl ≤ nI q := nI_ge c2 (by omega)
      have h2 : nI q < nI pl := nI_lt c2 (by omega)
      refine ⟨?_, ?_, by rw [nI_clamp hq]; omega⟩
      · rw [decide_eq_true c, decide_eq_true h1]; rfl
      · rw [decide_eq_false c, decide_eq_false (fun z => z h2)]; rfl
    · right
      have h1 : nI pl ≤ nI q := nI_le (by omega) hq
      have h2 : ¬ nI q < nI pl := nI_nlt (by omega) hq
      refine ⟨?_, ?_⟩
      · rw [decide_eq_true c, decide_eq_false (fun z => z h1)]; rfl
      · rw [decide_eq_false c, decide_eq_true h2]; rfl
theorem s_St_read (D : s_RD u bx h g) (hz : h 3 5 = nI u) {a b : Int32} (hb : vp_in b 8) : s_St u bx g (c_read h a b) (m_onRow g 4 a b) (if c_hasPlace h (h 4 b.toNatClampNeg) = true then 0 else 4) (if c_hasPlace h (h 4 b.toNatClampNeg) = true then 0 else 2) (b2i (m_rowOut g 4 a b)) := by
  unfold c_read m_onRow m_rowOut m_rowI
  rw [if_pos rfl, D.1 _ (vp_lt hb)]
  rcases s_place D (g 5 b.toNatClampNeg) with ⟨c1, c2, c3⟩ | ⟨c1, c2⟩
  · simp only [c1, c2, reduceIte, Bool.false_eq_true]
    rw [D.2.1 _ c3]
    exact ⟨u, bx, by omega, by omega, s_num D _ _, hz, s_ctl_up (by decide), fun _ => rfl, fun q => absurd rfl q⟩
  · simp only [c1, c2, reduceIte, Bool.false_eq_true]
    exact ⟨u, bx, by omega, by omega, s_kind D 2, hz, s_ctl_0 (by decide), fun q => absurd q (by decide), fun _ => ⟨rfl, rfl, rfl⟩⟩
theorem s_St_write (D : s_RD u bx h g) (hz : h 3 5 = nI u) (hS : s_S sc h g) (hu : u < 60) {a b : Int32} (ha : vp_in a 8) (hb : vp_in b 8) : s_St u bx g (c_write h a b) (m_onRow g 5 a b) (if c_hasPlace h (h 4 a.toNatClampNeg) = true then 0 else 4) (if c_hasPlace h (h 4 a.toNatClampNeg) = true then 0 else 2) (b2i (m_rowOut g 5 a b)) := by
  unfold c_write m_onRow m_rowOut m_rowI
  rw [if_neg (show ¬ (5 : Int32) = 4 by decide), D.1 _ (vp_lt ha)]
  rcases s_place D (g 5 a.toNatClampNeg) with ⟨c1, c2, c3⟩ | ⟨c1, c2⟩
  · simp only [c1, c2, reduceIte, Bool.false_eq_true, if_neg (show ¬ (5 : Int32) = 4 by decide)]
    rw [D.2.1 _ c3]
    obtain ⟨u', hu', D2, hz2, e4, e5, f5, f6⟩ := s_rem (w := g 6 (g 5 a.toNatClampNeg).toNatClampNeg) D hz hS hu (s := 5) (t := 5) (a := g 5 a.toNatClampNeg) (Or.inr (Or.inr ⟨rfl, rfl⟩))
    rw [e4, f5, D.1 _ (vp_lt hb)]
    exact ⟨u', bx, hu', by omega, s_row D2 _ _, hz2, s_ctl_tr m_rem_ctl (s_ctl_up (by decide)), fun _ => rfl, fun q => absurd rfl q⟩
  · simp only [c1, c2, reduceIte, Bool.false_eq_true]
    exact ⟨u, bx, by omega, by omega, s_kind D 2, hz, s_ctl_0 (by decide), fun q => absurd q (by decide), fun _ => ⟨rfl, rfl, rfl⟩⟩
theorem s_remRow (D : s_RD u bx h g) (hz : h 3 5 = nI u) (hS : s_S sc h g) (hu : u < 60) : ∃ u', u' ≤ u + 1 ∧ s_RD u' bx (c_remRow h) (m_rem g 6 0 (g 0 7)) ∧ c_remRow h 3 5 = nI u' := by
  obtain ⟨d1, d2, d3, d4, d5, d6, d7, d8, d9, d10⟩ := D
  unfold c_remRow
  rcases s_room hS hz hu with ⟨-, c1, c2⟩ | ⟨-, c1, c2⟩
  · rw [if_neg (by rw [c1]; decide), m_rem_f c2]
    exact ⟨u, by omega, ⟨d1, d2, d3, d4, d5, d6, d7, d8, d9, d10⟩, hz⟩
  · rw [if_pos c1, c_16 hz, nI_clamp (by omega), c_rem_t (h := ab_upA h 13 (va_cpy (h 5) (h 13) 0 (u * 16) 16)) (u := u) hz hu c1, m_rem_t6 d7 hu c2]
    refine ⟨u + 1, by omega, ⟨d1, d2, d3, d4, d5, d6, rfl, d8, s_U_push d9 (fun _ _ => rfl) (fun j hj => ?_) (fun j hj => ?_) ?_, s_B_push d8.2 d10 (by decide)⟩, rfl⟩
    · exact pk_cpy_out (Or.inl (by omega))
    · exact pk_cpy_out (Or.inl (by omega))
    · unfold s_U
      rw [pk_us, pk_us, pk_us, pk_us, pk_us, pk_us]
      refine Or.inr (Or.inr (Or.inr (Or.inl ⟨rfl, rfl, d3, fun k hk => ?_⟩)))
      show va_cpy (h 5) (h 13) 0 (u * 16) 16 (16 * u + k) = va_cpy (g 6) (g 16) 0 (16 * u) 16 (16 * u + k)
      rw [pk_cpy_in (by omega) (by omega), pk_cpy_in (by omega) (by omega), show 0 + (16 * u + k - u * 16) = k by omega, show 0 + (16 * u + k - 16 * u) = k by omega]
      exact d2 k hk
theorem s_St_make (D : s_RD u bx h g) (hz : h 3 5 = nI u) (hS : s_S sc h g) (hu : u < 60) {n n' : Int32} (hn : n = n') : s_St u bx g (c_make h n) (m_makes g n') (if 0 ≤ n then (if n ≤ 16 then 0 else 4) else 4) (if 0 ≤ n then (if n ≤ 16 then 0 else 4) else 3) (m_makesR n') := by
  subst hn
  unfold c_make m_makes m_makesR
  by_cases c1 : 0 ≤ n
  · simp only [if_pos c1]
    by_cases c2 : n ≤ 16
    · simp only [if_pos c2]
      obtain ⟨u', hu', D2, hz2⟩ := s_remRow D hz hS hu
      unfold c_makeRow
      obtain ⟨d1, d2, d3, d4, d5, d6, d7, d8, d9, d10⟩ := D2
      have hn0 : ¬ n < 0 := by
        rw [Int32.lt_iff_toInt_lt]
        rw [Int32.le_iff_toInt_le] at c1
        omega
      obtain ⟨pl, hp, rfl⟩ := nI_of2 (M := 16) (n := 16) (by decide) hn0 c2
      refine ⟨u', bx, hu', by omega, ⟨d1, fun k hk => ?_, ⟨pl, hp, rfl, rfl⟩, d4, d5, d6, d7, d8, d9, d10⟩, hz2, s_ctl_tr (s_ctl_tr m_rem_ctl (s_ctl_0 (by decide))) (s_ctl_upA (by decide)), fun _ => rfl, fun q => absurd rfl q⟩
      show m_z _ 16 k = m_z _ 16 k
      unfold m_z
      rw [if_pos hk, if_pos hk]
    · simp only [if_neg c2]
      exact ⟨u, bx, by omega, by omega, s_kind D 4, hz, s_ctl_0 (by decide), fun q => absurd q (by decide), fun _ => ⟨rfl, rfl, rfl⟩⟩
  · simp only [if_neg c1]
    exact ⟨u, bx, by omega, by omega, s_kind D 3, hz, s_ctl_0 (by decide), fun q => absurd q (by decide), fun _ => ⟨rfl, rfl, rfl⟩⟩
theorem s_St_keep (D : s_RD u bx h g) (hz : h 3 5 = nI u) (hS : s_S sc h g) (hmk : ∀ mk, h 3 6 = nI mk → mk ≤ 60 → mk ≤ u) : s_St u bx g (c_keep h) (if g 0 30 ≤ 0 then g else ab_up g 0 28 (g 17 (g 0 30 - 1).toNatClampNeg)) 0 0 0 := by
  unfold c_keep
  obtain ⟨h30, h60, ⟨h1, h2⟩ | ⟨h1, mk, hm, h2, h3⟩⟩ := hS
  · rw [if_pos h2, if_pos (by rw [h30, h1]; decide)]
    exact ⟨u, bx, by omega, by omega, D, hz, s_ctl_rf g, fun _ => rfl, fun q => absurd rfl q⟩
  · have e : (g 0 30 - 1).toNatClampNeg = sc - 1 := by
      rw [h30]
      obtain ⟨c, rfl⟩ : ∃ c, sc = c + 1 := ⟨sc - 1, by omega⟩
      rw [nI_pred, nI_clamp (by omega)]
      rfl
    rw [if_neg (by rw [h2]; exact nI_m mk (by omega)), if_neg (by rw [h30]; exact nI_nle h1 (by omega)), e, h3, h2]
    have hle := hmk mk h2 hm
    obtain ⟨d1, d2, d3, d4, d5, d6, d7, d8, d9, d10⟩ := D
    exact ⟨mk, bx, by omega, by omega, ⟨d1, d2, d3, d4, d5, d6, rfl, d8, fun j hj => d9 j (by omega), fun i hi => d10.1 i (by omega), fun i j hi hj => d10.2 i j (by omega) (by omega)⟩, rfl, s_ctl_0 (by decide), fun _ => rfl, fun q => absurd rfl q⟩
end SST
