/-! clear, run, given, number, row, log, count: class beside reference -/
section SF
variable {h g : ab_H}
theorem s_Y_z (Y : s_Y h g) (v : Int32) : s_Y h (ab_up g 0 0 v) := s_Y_kp Y y_kp_0
theorem s_numY (Y : s_Y h g) {i : Int32} (hi : m_within i 7 = true) : g 5 i.toNatClampNeg = h 4 i.toNatClampNeg ∧ vp_in i 8 := by
  obtain ⟨j, hj, rfl⟩ := m_within_of (n := 7) (by decide) hi
  obtain ⟨bx, -, D⟩ := Y.1.2.2.1
  rw [nI_clamp (by omega)]
  exact ⟨(D.1 j (by omega)).symm, vp_in_nI (by omega) (by omega)⟩
theorem s_rowP (Y : s_Y h g) (i : Int32) : h 2 2 = g 0 7 ∧ (¬ i < 0 → i < g 0 7 → vp_in i 16 ∧ g 6 i.toNatClampNeg = h 5 i.toNatClampNeg) := by
  obtain ⟨bx, -, D⟩ := Y.1.2.2.1
  obtain ⟨pl, p1, p2, p3⟩ := D.2.2.1
  refine ⟨p2.trans p3.symm, fun h0 h1 => ?_⟩
  rw [p3] at h1
  obtain ⟨j, hj, rfl⟩ := nI_of h0
  have hlt := (nI_ltI hj (by omega)).mp h1
  rw [nI_clamp hj]
  exact ⟨vp_in_nI (by omega) (by omega), (D.2.1 j (by omega)).symm⟩
theorem s_logP (Y : s_Y h g) (i : Int32) : h 2 6 = g 0 15 ∧ (¬ i < 0 → i < g 0 15 → vp_in i 100 ∧ g 12 i.toNatClampNeg = h 8 i.toNatClampNeg) := by
  obtain ⟨bx, -, D⟩ := Y.1.2.2.1
  obtain ⟨pl, p1, p2, p3, p4⟩ := D.2.2.2.1
  refine ⟨p2.trans p3.symm, fun h0 h1 => ?_⟩
  rw [p3] at h1
  obtain ⟨j, hj, rfl⟩ := nI_of h0
  have hlt := (nI_ltI hj (by omega)).mp h1
  rw [nI_clamp hj]
  exact ⟨vp_in_nI (by omega) (by omega), (p4 j hlt).symm⟩
theorem s_givY (Y : s_Y h g) : h 0 4 = g 0 20 := Y.1.2.2.2.2.2.1
theorem s_slotsY (Y : s_Y h g) : ∀ k, k < 4 → vp_in (g 7 k) 80 := fun k hk => by
  obtain ⟨bx, hb, D⟩ := Y.1.2.2.1
  obtain ⟨v, v1, v2⟩ := D.2.2.2.2.2.2.2.2.2.1 k (by omega)
  unfold s_rf at v2
  rw [if_pos hk] at v2
  rw [v2]
  exact vp_in_nI (by omega) (by omega)
theorem m_sum_eq {f f' : Nat → Int32} : ∀ n, (∀ k, k < n → f k = f' k) → m_sum f n = m_sum f' n
  | 0, _ => rfl
  | n + 1, e => by
    unfold m_sum
    rw [m_sum_eq n fun k hk => e k (by omega), e n (by omega)]
theorem s_cntY (Y : s_Y h g) (w : Int32) : m_count g w = c_count h w := by
  obtain ⟨bx, -, D⟩ := Y.1.2.2.1
  obtain ⟨c, -, c1, c2⟩ := Y.1.2.2.2.2.2.2
  have b : ∀ k, k < 4 → (if g 7 k = 0 then 0 else g 8 (g 7 k).toNatClampNeg) = h 6 k := fun k hk => by
    have q := D.2.2.2.2.2.1 k hk
    by_cases e : g 7 k = 0
    · rw [if_pos e]
      exact (q.1 e).symm
    · rw [if_neg e]
      exact (q.2 e).2.1.symm
  unfold m_count c_count
  by_cases e0 : w = 0
  · rw [if_pos e0, if_pos e0]; exact (s_rowP Y 0).1.symm
  rw [if_neg e0, if_neg e0]
  by_cases e1 : w = 1
  · rw [if_pos e1, if_pos e1]; exact (s_logP Y 0).1.symm
  rw [if_neg e1, if_neg e1]
  by_cases e2 : w = 2
  · rw [if_pos e2, if_pos e2, c1, c2]
  rw [if_neg e2, if_neg e2]
  by_cases e3 : w = 3
  · rw [if_pos e3, if_pos e3]; exact D.2.2.2.2.1.2.1.symm
  rw [if_neg e3, if_neg e3]
  by_cases e4 : w = 4
  · rw [if_pos e4, if_pos e4]; exact D.2.2.2.2.1.1.symm
  rw [if_neg e4, if_neg e4]
  by_cases e5 : w = 5
  · rw [if_pos e5, if_pos e5]
    refine m_sum_eq 8 fun k hk => ?_
    obtain ⟨z, F, -⟩ := Y.2 k hk
    show g 4 k = h (8 * k + 14) 8
    rw [F.1, F.2.1]
  rw [if_neg e5, if_neg e5]
  by_cases e6 : w = 6
  · rw [if_pos e6, if_pos e6]; exact D.2.2.2.2.1.2.2.symm
  rw [if_neg e6, if_neg e6]
  by_cases e10 : w = 10 ∨ w = 11 ∨ w = 12 ∨ w = 13
  · rw [if_pos e10, if_pos e10]
    rcases e10 with e | e | e | e
    · subst e; exact b 0 (by decide)
    · subst e; exact b 1 (by decide)
    · subst e; exact b 2 (by decide)
    · subst e; exact b 3 (by decide)
  rw [if_neg e10, if_neg e10]
/-- clear -/
def c_clearX (w : Int32) : Nat := if m_within w 7 = true then 0 else 1
def c_clearH (h : ab_H) (w : Int32) : ab_H := if m_within w 7 = true then c_empty h w.toNatClampNeg else h
def m_clearH (g : ab_H) (w : Int32) : ab_H := if m_within w 7 = true then ab_up (ab_up g 0 0 0) 4 w.toNatClampNeg 0 else ab_up g 0 0 1
theorem s_clearY (Y : s_Y h g) (w : Int32) : m_clearH g w 0 0 = nI (c_clearX w) ∧ s_Y (c_clearH h w) (m_clearH g w) := by
  unfold m_clearH c_clearX c_clearH
  cases hwi : m_within w 7 with
  | false =>
    simp only [Bool.false_eq_true, if_false]
    exact ⟨rfl, s_Y_z Y 1⟩
  | true =>
    obtain ⟨W, hW, rfl⟩ := m_within_of (n := 7) (by decide) hwi
    simp only [if_true]
    rw [nI_clamp (by omega)]
    have en : ∀ j, j ≠ 8 * W + 14 → c_empty h W j = h j := fun j hj => by
      unfold c_empty
      rw [ab_up_ne hj, ab_up_ne hj]
    have gn : ∀ i, i ≠ 0 → i ≠ 4 → ab_up (ab_up g 0 0 0) 4 W 0 i = g i := fun i i0 i4 => by rw [ab_up_ne i4, ab_up_ne i0]
    have g4 : ab_up (ab_up g 0 0 0) 4 W 0 4 = upd (g 4) W 0 := by rw [ab_up_eq, ab_up_ne (by decide)]
    have g0 : ∀ j, j ≠ 0 → ab_up (ab_up g 0 0 0) 4 W 0 0 j = g 0 j := fun j hj => by rw [ab_up_ne (by decide), ab_rd, if_pos rfl, if_neg hj]
    have h14 : c_empty h W (8 * W + 14) 7 = 0 ∧ c_empty h W (8 * W + 14) 8 = 0 := by
      unfold c_empty
      rw [ab_up_eq, ab_up_eq]
      exact ⟨rfl, rfl⟩
    have hnew : ∀ w', w' < 8 → ∃ z', s_F (c_empty h W) (ab_up (ab_up g 0 0 0) 4 W 0) w' z' ∧ y_st (c_empty h W (8 * w' + 20)) (c_empty h W (8 * w' + 21)) (z_sk (c_empty h W (8 * w' + 15)) z') ∧ z_D (c_empty h W (8 * w' + 15)) z' ≤ 10 := fun w' hw' => by
      by_cases ew : w' = W
      · subst ew
        refine ⟨0, ⟨h14.2, by rw [g4, pk_us]; rfl, fun i hi => absurd hi (by omega), ⟨fun k hk => absurd hk (by omega), by omega, fun i hi => absurd hi (by omega), fun i hi => absurd hi (by omega), fun i hi => absurd hi (by omega), fun i hi => absurd hi (by omega)⟩, h14.1⟩, trivial, Nat.zero_le _⟩
      · obtain ⟨z', F', st', hD'⟩ := Y.2 w' hw'
        have eo : ∀ i, 8 * w' + 14 ≤ i → i ≤ 8 * w' + 21 → c_empty h W i = h i := fun i i1 i2 => en i (by omega)
        refine ⟨z', s_F_oth hw' eo (fun i hi => ?_) (by rw [g4, pk_un ew]) F', ?_, ?_⟩
        · rw [gn 1 (by decide) (by decide), gn 2 (by decide) (by decide), gn 3 (by decide) (by decide)]
          exact ⟨rfl, rfl, rfl⟩
        · rw [eo _ (by omega) (by omega), eo _ (by omega) (by omega), eo _ (by omega) (by omega)]
          exact st'
        · rw [eo _ (by omega) (by omega)]
          exact hD'
    refine ⟨rfl, s_T_of Y.1 (fun j hj => en j (by omega)) ⟨fun i i1 i2 => gn i (by omega) (by omega), fun k hk => g0 k (by omega)⟩ (fun w' hw' => ?_) (fun w' hw' => ?_) (g0 20 (by decide)) (g0 16 (by decide)), hnew⟩
    · obtain ⟨z', q, -⟩ := hnew w' hw'
      exact ⟨z', q⟩
    · obtain ⟨z', q, -⟩ := hnew w' hw'
      refine ⟨⟨z', q.2.2.2.1.2.1, q.1⟩, fun i hi => ?_⟩
      rw [en (8 * w' + 15) (by omega), en (8 * w' + 16) (by omega), en (8 * w' + 17) (by omega), en (8 * w' + 18) (by omega), en (8 * w' + 19) (by omega)]
      exact (Y.1.2.1.1 w' hw').2 i hi
/-- run -/
def c_runX (h : ab_H) (w : Int32) : Nat := if m_within w 7 = true then (if c_whole h w.toNatClampNeg = true then 0 else 2) else 1
def c_runE (h : ab_H) (w : Int32) : c_R := cP 60 (c_run0 h) w.toNatClampNeg (-1) 1
def c_runF (h : ab_H) (w : Int32) : ab_H := ab_up (c_runE h w).2.2 0 4 (if (c_runE h w).1 = 3 then (c_runE h w).2.1 else 0)
def c_runH (h : ab_H) (w : Int32) : ab_H := if m_within w 7 = true then (if c_whole h w.toNatClampNeg = true then c_runF h w else h) else h
def m_runA (G : ab_H) (w z : Int32) : Int32 := if m_within w 7 = true then (if z = 0 then m_ans G else 0) else 0
def m_runH (g G : ab_H) (w z : Int32) : ab_H := if m_within w 7 = true then (if z = 0 then m_fin G else ab_up g 0 0 2) else ab_up g 0 0 1
theorem s_runsY (Y : s_Y h g) (w : Int32) : ∃ z G, (m_within w 7 = true → m_unended g w = some z) ∧ (m_within w 7 = true → z = 0 → ∃ n, m_runs n (m_init g w) G) ∧ m_runH g G w z 0 0 = nI (c_runX h w) ∧ (c_runX h w = 0 → m_runA G w z = c_ans (c_runE h w).1 (c_runE h w).2.1 ∧ c_kw (c_runE h w).1) ∧ s_Y (c_runH h w) (m_runH g G w z) := by
  unfold m_runH m_runA c_runX c_runH
  cases hwi : m_within w 7 with
  | false =>
    refine ⟨0, g, (fun q => by cases q), (fun q => by cases q), ?_⟩
    simp only [Bool.false_eq_true, if_false]
    exact ⟨rfl, fun q => absurd q (by decide), s_Y_z Y 1⟩
  | true =>
    obtain ⟨W, hW, rfl⟩ := m_within_of (n := 7) (by decide) hwi
    have hW8 : W < 8 := by omega
    obtain ⟨z, oN, F, hz, h8, h7, hoN, ho10, st, hin⟩ := s_Y_w Y hW8
    have cW : (nI W).toNatClampNeg = W := nI_clamp (by omega)
    have g4 : g 4 W = nI z := F.2.1
    have e60 := i_60 W
    have hun : m_unended g (nI W) = some (nI oN) := by
      have := z_uneL (o := 60 * W) (G := g 1) F.2.2.2.1.1 (fun j hj => (F.2.2.1 j hj).1) (by omega) 481 0 (by omega) (by omega)
      unfold m_unended
      rw [cW, g4, e60, nI_add, hoN]
      exact this
    simp only [if_true]
    unfold c_runF c_runE
    rw [cW]
    by_cases c0 : oN = 0
    · have hw : z_sk (h (8 * W + 15)) z = [] := List.eq_nil_of_length_eq_zero (show z_D (h (8 * W + 15)) z = 0 by omega)
      have cw : c_whole h W = true := by
        unfold c_whole
        rw [h7, c0]
        rfl
      obtain ⟨G, n, r1, r2, r3, r4, r5, r6⟩ := s_run Y.1 hW8 F hw
      refine ⟨nI oN, G, fun _ => hun, fun _ _ => ⟨n, r1⟩, ?_⟩
      rw [cw, if_pos rfl, if_pos rfl, c0, if_pos (show nI 0 = 0 from rfl), if_pos (show nI 0 = 0 from rfl)]
      refine ⟨r3, fun _ => ⟨r2, r4.2.1⟩, r5, fun w' hw' => ?_⟩
      have e14 : ∀ j, 14 ≤ j → ab_up (cP 60 (c_run0 h) W (-1) 1).2.2 0 4 (if (cP 60 (c_run0 h) W (-1) 1).1 = 3 then (cP 60 (c_run0 h) W (-1) 1).2.1 else 0) j = h j := fun j hj => by
        rw [ab_up_ne (by omega), r4.2.2.2.1 j hj]
        exact (ab_up_ne (by omega)).trans ((ab_up_ne (by omega)).trans (ab_up_ne (by omega)))
      obtain ⟨z', F', st', hD'⟩ := Y.2 w' hw'
      refine ⟨z', s_F_mv e14 r6 F', ?_, ?_⟩
      · rw [e14 _ (by omega), e14 _ (by omega), e14 _ (by omega)]
        exact st'
      · rw [e14 _ (by omega)]
        exact hD'
    · have hne : ¬ nI oN = 0 := nI_ne0 (by omega) (by omega)
      have cw : c_whole h W = false := by
        unfold c_whole
        rw [h7]
        exact decide_eq_false hne
      refine ⟨nI oN, g, fun _ => hun, fun _ q => absurd q hne, ?_⟩
      rw [cw, if_neg hne, if_neg hne]
      simp only [Bool.false_eq_true, if_false]
      exact ⟨rfl, fun q => absurd q (by decide), s_Y_z Y 2⟩
end SF
