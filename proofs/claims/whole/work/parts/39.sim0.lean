/-! a run of the class beside a run of the reference: what is alike on the way -/
def s_dat (g g' : ab_H) : Prop := (∀ i, 5 ≤ i → i ≤ 16 → g' i = g i) ∧ ∀ k, k = 7 ∨ k = 13 ∨ k = 15 ∨ k = 17 ∨ k = 18 ∨ k = 19 ∨ k = 28 → g' 0 k = g 0 k
theorem s_dat_rf (g : ab_H) : s_dat g g := ⟨fun _ _ _ => rfl, fun _ _ => rfl⟩
theorem s_dat_tr {a b c : ab_H} (h1 : s_dat a b) (h2 : s_dat b c) : s_dat a c := ⟨fun i h h' => (h2.1 i h h').trans (h1.1 i h h'), fun i hi => (h2.2 i hi).trans (h1.2 i hi)⟩
theorem s_dat_up {g : ab_H} {i k : Nat} {v : Int32} (h : 17 ≤ i) : s_dat g (ab_up g i k v) := ⟨fun j h1 h2 => ab_up_ne (by omega), fun k hk => by rw [ab_up_ne (by omega)]⟩
theorem s_dat_0 {g : ab_H} {k : Nat} {v : Int32} (h : ¬ (k = 7 ∨ k = 13 ∨ k = 15 ∨ k = 17 ∨ k = 18 ∨ k = 19 ∨ k = 28)) : s_dat g (ab_up g 0 k v) := ⟨fun j h1 h2 => ab_up_ne (by omega), fun n hn => by
  rw [ab_rd, if_pos rfl, if_neg (fun e => h (by rw [← e]; exact hn))]⟩
theorem s_dat_RD {u bx : Nat} {h g g' : ab_H} (d : s_dat g g') (D : s_RD u bx h g) : s_RD u bx h g' := by
  unfold s_RD at *
  rw [d.1 5 (by decide) (by decide), d.1 6 (by decide) (by decide), d.1 7 (by decide) (by decide), d.1 8 (by decide) (by decide), d.1 9 (by decide) (by decide), d.1 12 (by decide) (by decide), d.1 13 (by decide) (by decide), d.1 14 (by decide) (by decide), d.1 15 (by decide) (by decide), d.1 16 (by decide) (by decide),
    d.2 7 (by decide), d.2 13 (by decide), d.2 15 (by decide), d.2 17 (by decide), d.2 18 (by decide), d.2 19 (by decide), d.2 28 (by decide)]
  exact D
/-- what stays, of the frames below o and the marks below sc -/
def s_kp (o sc : Nat) (g g' : ab_H) : Prop := (∀ i, 1 ≤ i → i ≤ 4 → g' i = g i) ∧ (∀ i, 18 ≤ i → ∀ j, j < o → g' i j = g i j) ∧ (∀ j, j < sc → g' 17 j = g 17 j) ∧ g' 0 20 = g 0 20 ∧ g' 0 0 = g 0 0
theorem s_kp_rf (o sc : Nat) (g : ab_H) : s_kp o sc g g := ⟨fun _ _ _ => rfl, fun _ _ _ _ => rfl, fun _ _ => rfl, rfl, rfl⟩
theorem s_kp_tr {o sc : Nat} {a b c : ab_H} (h1 : s_kp o sc a b) (h2 : s_kp o sc b c) : s_kp o sc a c := ⟨fun i p q => (h2.1 i p q).trans (h1.1 i p q), fun i p j q => (h2.2.1 i p j q).trans (h1.2.1 i p j q), fun j q => (h2.2.2.1 j q).trans (h1.2.2.1 j q), h2.2.2.2.1.trans h1.2.2.2.1, h2.2.2.2.2.trans h1.2.2.2.2⟩
theorem s_kp_le {o sc o' sc' : Nat} {a b : ab_H} (H : s_kp o sc a b) (h1 : o' ≤ o) (h2 : sc' ≤ sc) : s_kp o' sc' a b := ⟨H.1, fun i p j q => H.2.1 i p j (by omega), fun j q => H.2.2.1 j (by omega), H.2.2.2⟩
theorem s_kp_up {o sc : Nat} {g : ab_H} {i k : Nat} {v : Int32} (h : (5 ≤ i ∧ i ≤ 16) ∨ (18 ≤ i ∧ o ≤ k) ∨ (i = 17 ∧ sc ≤ k)) : s_kp o sc g (ab_up g i k v) := by
  refine ⟨fun j h1 h2 => ab_up_ne (by omega), fun j h1 n h2 => ?_, fun n h2 => ?_, by rw [ab_up_ne (by omega)], by rw [ab_up_ne (by omega)]⟩
  · rw [ab_rd]
    split
    · next e => rw [if_neg (by omega), e]
    · rfl
  · rw [ab_rd]
    split
    · next e => rw [if_neg (by omega), e]
    · rfl
theorem s_kp_0 {o sc : Nat} {g : ab_H} {k : Nat} {v : Int32} (h0 : k ≠ 0) (h20 : k ≠ 20) : s_kp o sc g (ab_up g 0 k v) := by
  refine ⟨fun j h1 h2 => ab_up_ne (by omega), fun j h1 n h2 => by rw [ab_up_ne (by omega)], fun n h2 => by rw [ab_up_ne (by omega)], ?_, ?_⟩
  · rw [ab_rd, if_pos rfl, if_neg (Ne.symm h20)]
  · rw [ab_rd, if_pos rfl, if_neg (Ne.symm h0)]
theorem s_kp_ctl {o sc : Nat} {g g' : ab_H} (h : s_ctl g g') : s_kp o sc g g' := ⟨fun i h1 h2 => h.1 i (Or.inl ⟨h1, h2⟩), fun i h1 j _ => by rw [h.1 i (Or.inr (by omega))], fun j _ => by rw [h.1 17 (Or.inr (by omega))], h.2 20 (by decide), h.2 0 (by decide)⟩
/-- turns of the reference's loop -/
def m_st : Nat → ab_H → ab_H → Prop
  | 0, a, b => b = a
  | n + 1, a, b => ¬ a 0 39 ≤ 0 ∧ ∃ c, m_turn a c ∧ m_st n c b
def m_to (a b : ab_H) : Prop := ∃ n, m_st n a b
theorem m_to_rf (a : ab_H) : m_to a a := ⟨0, rfl⟩
theorem m_st_tr : ∀ (n : Nat) {k : Nat} {a b c : ab_H}, m_st n a b → m_st k b c → m_st (n + k) a c
  | 0, k, a, b, c, h1, h2 => by
    have e : b = a := h1
    rw [Nat.zero_add, ← e]
    exact h2
  | n + 1, k, a, b, c, h1, h2 => by
    obtain ⟨h0, d, h3, h4⟩ := h1
    rw [Nat.succ_add]
    exact ⟨h0, d, h3, m_st_tr n h4 h2⟩
theorem m_to_tr {a b c : ab_H} (h1 : m_to a b) (h2 : m_to b c) : m_to a c := by
  obtain ⟨n, h1⟩ := h1
  obtain ⟨k, h2⟩ := h2
  exact ⟨n + k, m_st_tr n h1 h2⟩
theorem m_to_1 {a b : ab_H} (h : ¬ a 0 39 ≤ 0) (t : m_turn a b) : m_to a b := ⟨1, h, b, t, rfl⟩
theorem m_st_runs : ∀ (n : Nat) {k : Nat} {a b g : ab_H}, m_st n a b → m_runs k b g → m_runs (n + k) a g
  | 0, k, a, b, g, h1, h2 => by
    have e : b = a := h1
    rw [Nat.zero_add, ← e]
    exact h2
  | n + 1, k, a, b, g, h1, h2 => by
    obtain ⟨h0, d, h3, h4⟩ := h1
    rw [Nat.succ_add]
    exact ⟨h0, d, h3, m_st_runs n h4 h2⟩
/-- a workflow, in the class and in the reference -/
def s_F (h g : ab_H) (w z : Nat) : Prop := h (8 * w + 14) 8 = nI z ∧ g 4 w = nI z ∧ (∀ i, i < z → g 1 (60 * w + i) = h (8 * w + 15) i ∧ g 2 (60 * w + i) = h (8 * w + 16) i ∧ g 3 (60 * w + i) = h (8 * w + 17) i) ∧
  z_I (h (8 * w + 15)) (h (8 * w + 17)) (h (8 * w + 18)) (h (8 * w + 19)) z ∧ h (8 * w + 14) 7 = nI (z_D (h (8 * w + 15)) z)
theorem s_F_mv {h h' g g' : ab_H} {w z : Nat} (e1 : ∀ i, 14 ≤ i → h' i = h i) (e2 : ∀ i, 1 ≤ i → i ≤ 4 → g' i = g i) (F : s_F h g w z) : s_F h' g' w z := by
  unfold s_F at *
  rw [e1 (8 * w + 14) (by omega), e1 (8 * w + 15) (by omega), e1 (8 * w + 16) (by omega), e1 (8 * w + 17) (by omega), e1 (8 * w + 18) (by omega), e1 (8 * w + 19) (by omega), e2 1 (by decide) (by decide), e2 2 (by decide) (by decide), e2 3 (by decide) (by decide), e2 4 (by decide) (by decide)]
  exact F
def s_Fs (h g : ab_H) : Prop := ∀ w, w < 8 → ∃ z, s_F h g w z
theorem s_Fs_mv {h h' g g' : ab_H} (e1 : ∀ i, 14 ≤ i → h' i = h i) (e2 : ∀ i, 1 ≤ i → i ≤ 4 → g' i = g i) (F : s_Fs h g) : s_Fs h' g' := fun w hw => by
  obtain ⟨z, hz⟩ := F w hw
  exact ⟨z, s_F_mv e1 e2 hz⟩
def s_dp (deep : Int32) (g : ab_H) : Prop := g 0 23 = deep ∧ ∃ dd, dd ≤ 6 ∧ deep = nI dd
def s_E (K : Nat) (h g : ab_H) : Prop := ∃ u bx, u ≤ K ∧ bx ≤ 5 + K ∧ s_RD u bx h g ∧ h 3 5 = nI u
/-- what is alike: K bounds the lists, c is the COST, o frames are open, sc SCOPEs -/
def s_Q (K c o sc : Nat) (deep : Int32) (h g : ab_H) : Prop := s_Fs h g ∧ c_inv h ∧ s_E K h g ∧ s_S sc h g ∧ s_dp deep g ∧ (g 0 39 = nI o ∧ 1 ≤ o ∧ o ≤ K + 1 ∧ sc ≤ K) ∧ (h 0 3 = nI c ∧ g 0 16 = nI c ∧ c ≤ 60 ∧ K ≤ c)
theorem s_S_mv {sc : Nat} {h h' g g' : ab_H} (e1 : h' 3 6 = h 3 6) (e2 : g' 0 30 = g 0 30) (e3 : ∀ j, j < sc → g' 17 j = g 17 j) (S : s_S sc h g) : s_S sc h' g' := by
  unfold s_S at *
  rw [e1, e2]
  refine ⟨S.1, S.2.1, ?_⟩
  rcases S.2.2 with q | ⟨q1, mk, q2, q3, q4⟩
  · exact Or.inl q
  · exact Or.inr ⟨q1, mk, q2, q3, by rw [e3 _ (by omega)]; exact q4⟩
theorem s_Q_g {K c o o' sc : Nat} {deep : Int32} {h g g' : ab_H} (Q : s_Q K c o sc deep h g) (d : s_dat g g') (k : s_kp 0 sc g g') (e30 : g' 0 30 = g 0 30) (e23 : g' 0 23 = g 0 23) (e16 : g' 0 16 = g 0 16) (e39 : g' 0 39 = nI o') (h1 : 1 ≤ o') (h2 : o' ≤ K + 1) : s_Q K c o' sc deep h g' := by
  obtain ⟨q1, q2, ⟨u, bx, q3, q4, q5, q6⟩, q7, q8, q9, q10⟩ := Q
  exact ⟨s_Fs_mv (fun _ _ => rfl) k.1 q1, q2, ⟨u, bx, q3, q4, s_dat_RD d q5, q6⟩, s_S_mv rfl e30 k.2.2.1 q7, ⟨e23.trans q8.1, q8.2⟩, ⟨e39, h1, h2, q9.2.2.2⟩, q10.1, e16.trans q10.2.1, q10.2.2⟩
theorem s_Q_K {K K' c o sc : Nat} {deep : Int32} {h g : ab_H} (Q : s_Q K c o sc deep h g) (h1 : K ≤ K') (h2 : K' ≤ c) : s_Q K' c o sc deep h g := by
  obtain ⟨q1, q2, ⟨u, bx, q3, q4, q5, q6⟩, q7, q8, q9, q10⟩ := Q
  exact ⟨q1, q2, ⟨u, bx, by omega, by omega, q5, q6⟩, q7, q8, ⟨q9.1, q9.2.1, by omega, by omega⟩, q10.1, q10.2.1, q10.2.2.1, h2⟩
theorem s_Q_pay {K c o sc : Nat} {deep : Int32} {h g : ab_H} (Q : s_Q K c o sc deep h g) (hc : c < 60) : s_Q K (c + 1) o sc deep (c_pay h) (ab_up g 0 16 (g 0 16 + 1)) := by
  obtain ⟨q1, q2, ⟨u, bx, q3, q4, q5, q6⟩, q7, q8, q9, q10⟩ := Q
  obtain ⟨d1, d2, d3, d4, d5, d6, d7, d8, d9, d10⟩ := q5
  refine ⟨s_Fs_mv (fun i hi => ab_up_ne (by omega)) (fun i _ _ => ab_up_ne (by omega)) q1, c_inv_0 q2, ⟨u, bx, q3, q4, ⟨d1, d2, d3, d4, d5, d6, d7, d8, d9, d10⟩, q6⟩, q7, q8, q9, ?_, ?_, by omega, by omega⟩
  · show h 0 3 + 1 = _
    rw [q10.1, nI_1]
  · show g 0 16 + 1 = _
    rw [q10.2.1, nI_1]
/-- the WAY that is under way -/
def s_way (lp : Nat) (k n : Int32) (g : ab_H) : Prop := (k = 0 ∧ g 0 41 = 0) ∨ (k = 1 ∧ ∃ m, m < 11 ∧ m < lp ∧ n = nI m ∧ g 0 41 = nI (100 + m)) ∨ (k = 2 ∧ ∃ m, m < 11 ∧ m < lp ∧ n = nI m ∧ g 0 41 = nI (200 + m)) ∨
  (k = 3 ∧ g 0 41 = 2 ∧ g 0 22 = n) ∨ (k = 4 ∧ g 0 41 = 1 ∧ g 0 21 = n) ∨ (k = 5 ∧ g 0 41 = 3)
theorem s_way_mv {lp : Nat} {k n : Int32} {g g' : ab_H} (e1 : g' 0 41 = g 0 41) (e2 : g' 0 21 = g 0 21) (e3 : g' 0 22 = g 0 22) (H : s_way lp k n g) : s_way lp k n g' := by
  unfold s_way at *
  rw [e1, e2, e3]
  exact H
theorem nI_41 {m n : Nat} (h : m < 300) (e : nI m = nI n) (hn : n < 300) : m = n := (nI_eq (by omega) (by omega)).mp e
theorem s_way_0 {lp : Nat} {k n : Int32} {g : ab_H} (H : s_way lp k n g) : k = 0 ↔ g 0 41 = 0 := by
  have h0 : ∀ m : Nat, 0 < m → m < 300 → ¬ nI m = 0 := fun m h1 h2 => nI_ne0 h1 (by omega)
  rcases H with ⟨a, b⟩ | ⟨a, m, h1, -, -, b⟩ | ⟨a, m, h1, -, -, b⟩ | ⟨a, b, -⟩ | ⟨a, b, -⟩ | ⟨a, b⟩
  · exact ⟨fun _ => b, fun _ => a⟩
  · refine ⟨fun q => absurd (a.symm.trans q) (by decide), fun q => absurd (b.symm.trans q) (h0 _ (by omega) (by omega))⟩
  · refine ⟨fun q => absurd (a.symm.trans q) (by decide), fun q => absurd (b.symm.trans q) (h0 _ (by omega) (by omega))⟩
  · exact ⟨fun q => absurd (a.symm.trans q) (by decide), fun q => absurd (b.symm.trans q) (by decide)⟩
  · exact ⟨fun q => absurd (a.symm.trans q) (by decide), fun q => absurd (b.symm.trans q) (by decide)⟩
  · exact ⟨fun q => absurd (a.symm.trans q) (by decide), fun q => absurd (b.symm.trans q) (by decide)⟩
theorem s_way_1 {lp : Nat} {k n : Int32} {g : ab_H} (H : s_way lp k n g) : k = 4 ↔ g 0 41 = 1 := by
  have h0 : ∀ m : Nat, 3 < m → m < 300 → ¬ nI m = 1 := fun m h1 h2 q => by
    have := nI_41 (n := 1) h2 q (by omega)
    omega
  rcases H with ⟨a, b⟩ | ⟨a, m, h1, -, -, b⟩ | ⟨a, m, h1, -, -, b⟩ | ⟨a, b, -⟩ | ⟨a, b, -⟩ | ⟨a, b⟩
  · exact ⟨fun q => absurd (a.symm.trans q) (by decide), fun q => absurd (b.symm.trans q) (by decide)⟩
  · refine ⟨fun q => absurd (a.symm.trans q) (by decide), fun q => absurd (b.symm.trans q) (h0 _ (by omega) (by omega))⟩
  · refine ⟨fun q => absurd (a.symm.trans q) (by decide), fun q => absurd (b.symm.trans q) (h0 _ (by omega) (by omega))⟩
  · exact ⟨fun q => absurd (a.symm.trans q) (by decide), fun q => absurd (b.symm.trans q) (by decide)⟩
  · exact ⟨fun _ => b, fun _ => a⟩
  · exact ⟨fun q => absurd (a.symm.trans q) (by decide), fun q => absurd (b.symm.trans q) (by decide)⟩
theorem s_way_3 {lp : Nat} {k n : Int32} {g : ab_H} (H : s_way lp k n g) : k = 5 ↔ g 0 41 = 3 := by
  have h0 : ∀ m : Nat, 3 < m → m < 300 → ¬ nI m = 3 := fun m h1 h2 q => by
    have := nI_41 (n := 3) h2 q (by omega)
    omega
  rcases H with ⟨a, b⟩ | ⟨a, m, h1, -, -, b⟩ | ⟨a, m, h1, -, -, b⟩ | ⟨a, b, -⟩ | ⟨a, b, -⟩ | ⟨a, b⟩
  · exact ⟨fun q => absurd (a.symm.trans q) (by decide), fun q => absurd (b.symm.trans q) (by decide)⟩
  · refine ⟨fun q => absurd (a.symm.trans q) (by decide), fun q => absurd (b.symm.trans q) (h0 _ (by omega) (by omega))⟩
  · refine ⟨fun q => absurd (a.symm.trans q) (by decide), fun q => absurd (b.symm.trans q) (h0 _ (by omega) (by omega))⟩
  · exact ⟨fun q => absurd (a.symm.trans q) (by decide), fun q => absurd (b.symm.trans q) (by decide)⟩
  · exact ⟨fun q => absurd (a.symm.trans q) (by decide), fun q => absurd (b.symm.trans q) (by decide)⟩
  · exact ⟨fun _ => b, fun _ => a⟩
theorem s_way_2 {lp : Nat} {k n : Int32} {g : ab_H} (H : s_way lp k n g) : k = 3 ↔ g 0 41 = 2 := by
  have h0 : ∀ m : Nat, 3 < m → m < 300 → ¬ nI m = 2 := fun m h1 h2 q => by
    have := nI_41 (n := 2) h2 q (by omega)
    omega
  rcases H with ⟨a, b⟩ | ⟨a, m, h1, -, -, b⟩ | ⟨a, m, h1, -, -, b⟩ | ⟨a, b, -⟩ | ⟨a, b, -⟩ | ⟨a, b⟩
  · exact ⟨fun q => absurd (a.symm.trans q) (by decide), fun q => absurd (b.symm.trans q) (by decide)⟩
  · refine ⟨fun q => absurd (a.symm.trans q) (by decide), fun q => absurd (b.symm.trans q) (h0 _ (by omega) (by omega))⟩
  · refine ⟨fun q => absurd (a.symm.trans q) (by decide), fun q => absurd (b.symm.trans q) (h0 _ (by omega) (by omega))⟩
  · exact ⟨fun _ => b, fun _ => a⟩
  · exact ⟨fun q => absurd (a.symm.trans q) (by decide), fun q => absurd (b.symm.trans q) (by decide)⟩
  · exact ⟨fun q => absurd (a.symm.trans q) (by decide), fun q => absurd (b.symm.trans q) (by decide)⟩
/-- the reference's way to where the class comes with x -/
def s_End (c o sc : Nat) (deep : Int32) (lp at_ : Nat) (g : ab_H) (x : c_R) : Prop := ∃ g' c', c ≤ c' ∧ m_to g g' ∧ s_Q c' c' o sc deep x.2.2 g' ∧ s_kp o sc g g' ∧ s_way lp x.1 x.2.1 g' ∧ (x.1 = 0 → g' 0 40 = nI at_)
theorem s_End_pre {c c1 o sc lp at_ : Nat} {deep : Int32} {g g1 : ab_H} {x : c_R} (h1 : c ≤ c1) (h2 : m_to g g1) (h3 : s_kp o sc g g1) (E : s_End c1 o sc deep lp at_ g1 x) : s_End c o sc deep lp at_ g x := by
  obtain ⟨g', c', e1, e2, e3, e4, e5, e6⟩ := E
  exact ⟨g', c', by omega, m_to_tr h2 e2, e3, s_kp_tr h3 e4, e5, e6⟩
/-- the frame on top, whose part ends at q -/
def s_top (g : ab_H) (o w q : Nat) (f : Nat → Int32) (z : Nat) : Prop := (g 18 (o - 1) = 0 ∧ g 20 (o - 1) = nI (60 * w + q)) ∨ (¬ g 18 (o - 1) = 0 ∧ q < z ∧ m_part (f q) = true)
def s_SP (n : Nat) (P : c_PT) : Prop := ∀ (h g : ab_H) (w z lo q c o sc : Nat) (part deep : Int32), w < 8 → s_F h g w z → z_sk (h (8 * w + 15)) z = [] → part + 1 = nI lo → (part = -1 ∨ vp_in part 60) →
  (if part = -1 then h (8 * w + 14) 8 else h (8 * w + 18) part.toNatClampNeg) = nI q → z_R (h (8 * w + 15)) lo q → q ≤ z → c_cost n h → s_Q c c o sc deep h g → s_top g o w q (h (8 * w + 15)) z → g 0 41 = 0 → g 0 40 = nI (60 * w + lo) →
  s_End c o sc deep (z_lp (h (8 * w + 15)) lo) (60 * w + q) g (P h w part deep)
