/-! node, class beside reference -/
theorem ab_up_eq {h : ab_H} {i k : Nat} {v : Int32} : ab_up h i k v i = upd (h i) k v := by
  funext n
  rw [ab_rd, if_pos rfl]
  rfl
def c_BA (s : Int32) : Int32 := if s = 7 ∨ s = 8 then 4 else if s = 0 ∨ s = 1 ∨ s = 2 ∨ s = 3 ∨ s = 4 ∨ s = 5 ∨ s = 6 ∨ s = 19 ∨ s = 20 ∨ s = 21 then 8 else 0
def c_BB (s : Int32) : Int32 := if s = 3 ∨ s = 4 ∨ s = 5 ∨ s = 20 then 8 else if s = 7 then 3 else if s = 9 ∨ s = 13 ∨ s = 17 ∨ s = 18 then 10 else if s = 10 then 1024 else 0
def c_rng (s a b : Int32) : Bool := m_within s 23 && (c_below a (c_BA s) && c_below b (c_BB s))
theorem c_wb {v n m : Int32} (h : m.toInt = n.toInt + 1) (h0 : ¬ m = 0) : m_within v n = c_below v m := by
  unfold m_within c_below
  rw [decide_eq_false h0, Bool.false_or]
  congr 1
  rw [decide_eq_decide, Int32.lt_iff_toInt_lt, Int32.le_iff_toInt_le, h]
  omega
theorem c_b0 (v : Int32) : c_below v 0 = true := rfl
theorem m_within_of {v M : Int32} {n : Nat} (hM : M.toInt = n) (h : m_within v M = true) : ∃ j : Nat, j ≤ n ∧ v = nI j := by
  unfold m_within at h
  simp only [Bool.and_eq_true, decide_eq_true_eq] at h
  refine nI_of2 hM h.1 ?_
  have := h.2
  rw [Int32.lt_iff_toInt_lt] at this
  rw [Int32.le_iff_toInt_le]
  omega
theorem c_rng_eq (s a b : Int32) : m_right s a b = c_rng s a b := by
  have e7 : ∀ v, m_within v 7 = c_below v 8 := fun v => c_wb (by decide) (by decide)
  have e3 : ∀ v, m_within v 3 = c_below v 4 := fun v => c_wb (by decide) (by decide)
  have e2 : ∀ v, m_within v 2 = c_below v 3 := fun v => c_wb (by decide) (by decide)
  have e9 : ∀ v, m_within v 9 = c_below v 10 := fun v => c_wb (by decide) (by decide)
  have e1023 : ∀ v, m_within v 1023 = c_below v 1024 := fun v => c_wb (by decide) (by decide)
  cases hs : m_within s 23 with
  | true =>
    obtain ⟨j, hj, rfl⟩ := m_within_of (n := 23) (by decide) hs
    unfold c_rng
    rw [hs, Bool.true_and]
    match j, hj with
    | 0, _ => show m_within a 7 = (c_below a 8 && c_below b 0); rw [c_b0, Bool.and_true]; exact e7 a
    | 1, _ => show m_within a 7 = (c_below a 8 && c_below b 0); rw [c_b0, Bool.and_true]; exact e7 a
    | 2, _ => show m_within a 7 = (c_below a 8 && c_below b 0); rw [c_b0, Bool.and_true]; exact e7 a
    | 3, _ => show (m_within a 7 && m_within b 7) = (c_below a 8 && c_below b 8); rw [e7, e7]
    | 4, _ => show (m_within a 7 && m_within b 7) = (c_below a 8 && c_below b 8); rw [e7, e7]
    | 5, _ => show (m_within a 7 && m_within b 7) = (c_below a 8 && c_below b 8); rw [e7, e7]
    | 6, _ => show m_within a 7 = (c_below a 8 && c_below b 0); rw [c_b0, Bool.and_true]; exact e7 a
    | 7, _ => show (m_within a 3 && m_within b 2) = (c_below a 4 && c_below b 3); rw [e3, e2]
    | 8, _ => show m_within a 3 = (c_below a 4 && c_below b 0); rw [c_b0, Bool.and_true]; exact e3 a
    | 9, _ => show m_within b 9 = (c_below a 0 && c_below b 10); rw [c_b0, Bool.true_and]; exact e9 b
    | 10, _ => show m_within b 1023 = (c_below a 0 && c_below b 1024); rw [c_b0, Bool.true_and]; exact e1023 b
    | 11, _ => rfl
    | 12, _ => rfl
    | 13, _ => show m_within b 9 = (c_below a 0 && c_below b 10); rw [c_b0, Bool.true_and]; exact e9 b
    | 14, _ => rfl
    | 15, _ => rfl
    | 16, _ => rfl
    | 17, _ => show m_within b 9 = (c_below a 0 && c_below b 10); rw [c_b0, Bool.true_and]; exact e9 b
    | 18, _ => show m_within b 9 = (c_below a 0 && c_below b 10); rw [c_b0, Bool.true_and]; exact e9 b
    | 19, _ => show m_within a 7 = (c_below a 8 && c_below b 0); rw [c_b0, Bool.and_true]; exact e7 a
    | 20, _ => show (m_within a 7 && m_within b 7) = (c_below a 8 && c_below b 8); rw [e7, e7]
    | 21, _ => show m_within a 7 = (c_below a 8 && c_below b 0); rw [c_b0, Bool.and_true]; exact e7 a
    | 22, _ => rfl
    | 23, _ => rfl
    | j + 24, h => exact absurd h (by omega)
  | false =>
    unfold c_rng
    rw [hs, Bool.false_and]
    have n : ∀ j : Nat, j < 24 → ¬ s = nI j := fun j hj e => by
      have : m_within (nI j) 23 = true := by
        unfold m_within
        simp only [Bool.and_eq_true, decide_eq_true_eq]
        exact ⟨nI_pos (by omega), fun q => absurd ((nI_ltI (a := 23) (by omega) (by omega)).mp q) (by omega)⟩
      rw [← e, hs] at this
      cases this
    unfold m_right
    rw [if_neg (fun q => q.elim (n 0 (by omega)) fun q => q.elim (n 1 (by omega)) fun q => q.elim (n 2 (by omega)) fun q => q.elim (n 6 (by omega)) fun q => q.elim (n 19 (by omega)) (n 21 (by omega))),
      if_neg (fun q => q.elim (n 3 (by omega)) fun q => q.elim (n 4 (by omega)) (n 5 (by omega))), if_neg (show ¬ s = 7 from n 7 (by omega)), if_neg (show ¬ s = 8 from n 8 (by omega)), if_neg (fun q => q.elim (n 9 (by omega)) fun q => q.elim (n 13 (by omega)) fun q => q.elim (n 17 (by omega)) (n 18 (by omega))),
      if_neg (show ¬ s = 10 from n 10 (by omega)), if_neg (show ¬ s = 20 from n 20 (by omega)), hs]
theorem c_below_of {v m : Int32} (h : c_below v m = true) (h0 : ¬ m = 0) : ¬ v < 0 ∧ ¬ m ≤ v := by
  unfold c_below at h
  rw [decide_eq_false h0, Bool.false_or] at h
  simpa only [Bool.and_eq_true, decide_eq_true_eq] using h
theorem c_below_in {v m : Int32} {n : Nat} (hn : m.toInt = n) (h : c_below v m = true) (h0 : ¬ m = 0) : vp_in v n := by
  have := c_below_of h h0
  rw [Int32.lt_iff_toInt_lt, Int32.le_iff_toInt_le, hn] at this
  rw [vp_in_iff]
  have e : (0 : Int32).toInt = 0 := by decide
  omega
theorem c_rng_nok {s a b : Int32} (h : c_rng s a b = true) : c_nok s a b := by
  unfold c_rng at h
  rw [Bool.and_eq_true, Bool.and_eq_true] at h
  obtain ⟨-, h1, h2⟩ := h
  have b9 : c_below b 10 = true → ¬ b < 0 ∧ ¬ 9 < b := fun q => by
    have := c_below_of q (by decide)
    rw [Int32.le_iff_toInt_le] at this
    refine ⟨this.1, ?_⟩
    rw [Int32.lt_iff_toInt_lt]
    have e : (10 : Int32).toInt = 10 := by decide
    have e2 : (9 : Int32).toInt = 9 := by decide
    omega
  refine ⟨fun q => ?_, fun q => ?_, fun q => ?_, fun q => ?_, fun q => ?_⟩
  · have e : c_BA s = 8 := by rcases q with q | q | q | q | q | q | q | q | q | q <;> (subst q; rfl)
    rw [e] at h1
    exact c_below_in (by decide) h1 (by decide)
  · have e : c_BB s = 8 := by rcases q with q | q | q | q <;> (subst q; rfl)
    rw [e] at h2
    exact c_below_in (by decide) h2 (by decide)
  · have e : c_BA s = 4 := by rcases q with q | q <;> (subst q; rfl)
    rw [e] at h1
    exact c_below_in (by decide) h1 (by decide)
  · have e : c_BB s = 10 := by subst q; rfl
    rw [e] at h2
    exact b9 h2
  · have e : c_BB s = 10 := by rcases q with q | q | q <;> (subst q; rfl)
    rw [e] at h2
    exact b9 h2
section SN
variable {h g G : ab_H} {w z : Nat}
theorem c_latest_0 (h7 : h (8 * w + 14) 7 = nI 0) : c_latest h w = -1 := by
  unfold c_latest
  rw [h7, if_pos (by decide)]
theorem c_latest_s {x : Nat × Nat} {L : List (Nat × Nat)} (h7 : h (8 * w + 14) 7 = nI (L.length + 1)) (hl : L.length < 60) (hx : x.2 < 60) (Y : y_st (h (8 * w + 20)) (h (8 * w + 21)) (x :: L)) : c_latest h w = h (8 * w + 15) x.2 := by
  unfold c_latest
  rw [h7, if_neg (nI_nle (by omega) (by omega)), nI_pred, nI_clamp (by omega), Y.2.1, nI_clamp (by omega)]
theorem m_in_0 (h39 : G 0 39 = nI 0) : m_in G = -1 ∧ m_pt G = 0 := by
  unfold m_in m_pt
  rw [h39, if_pos (by decide), if_pos (by decide)]
  exact ⟨rfl, rfl⟩
theorem m_in_s {f : Nat → Int32} {x : Nat × Nat} {L : List (Nat × Nat)} (h39 : G 0 39 = nI (L.length + 1)) (hl : L.length < 60) (Y : y_lk f (G 18) (G 21) (x :: L)) : m_in G = f x.1 ∧ m_pt G = (if x.2 = x.1 then 0 else if f x.2 = 12 then 2 else 1) := by
  unfold m_in m_pt
  rw [h39, if_neg (nI_ne0 (by omega) (by omega)), if_neg (nI_ne0 (by omega) (by omega)), nI_pred, nI_clamp (by omega)]
  exact ⟨Y.1, Y.2.1⟩
/-- the class takes a NODE where the reference lets it stand -/
theorem s_can (F : s_F h g w z) (hz : z < 60) (Y : y_st (h (8 * w + 20)) (h (8 * w + 21)) (z_sk (h (8 * w + 15)) z)) (h39 : G 0 39 = nI (z_D (h (8 * w + 15)) z)) (h42 : G 0 42 = nI (z_lp (h (8 * w + 15)) z)) (YG : y_lk (h (8 * w + 15)) (G 18) (G 21) (z_sk (h (8 * w + 15)) z)) (s b : Int32) : c_can h w (z_lp (h (8 * w + 15)) z) s b = m_stands G s b := by
  obtain ⟨F1, F2, F3, F4, F5⟩ := F
  have c60 : h (8 * w + 14) 8 < 60 := by rw [F1]; exact nI_lt (b := 60) hz (by omega)
  have ok := F4.1
  have hDz := z_le ok z (Nat.le_refl z)
  have key : (c_latest h w = 10 ↔ m_in G = 10 ∧ m_pt G = 0) ∧ (c_latest h w = 10 ∨ c_latest h w = 11 ↔ m_in G = 10 ∧ ¬ 2 ≤ m_pt G) ∧ (c_latest h w = 21 ↔ m_in G = 21 ∧ m_pt G = 0) := by
    generalize hsk : z_sk (h (8 * w + 15)) z = S at *
    cases S with
    | nil =>
      have d0 : z_D (h (8 * w + 15)) z = 0 := by unfold z_D; rw [hsk]; rfl
      rw [d0] at F5 h39
      rw [c_latest_0 F5, (m_in_0 h39).1, (m_in_0 h39).2]
      decide
    | cons x L =>
      have d0 : z_D (h (8 * w + 15)) z = L.length + 1 := by unfold z_D; rw [hsk]; rfl
      have T := z_top ok [] x.1 x.2 L (by rw [hsk]; rfl)
      rw [d0] at F5 h39
      obtain ⟨a1, a2, a3, -, -, -, -, a8⟩ := T
      rw [c_latest_s F5 (by omega) (by omega) Y, (m_in_s h39 (by omega) YG).1, (m_in_s h39 (by omega) YG).2]
      rcases a8 with q | ⟨q1, q2⟩ | ⟨q1, q2⟩
      · rw [q, if_pos rfl]
        rcases z_op.mp a3 with e | e | e | e | e <;> (rw [e]; decide)
      · have hne : ¬ x.2 = x.1 := fun c => by
          rw [c, q1] at q2
          revert q2
          decide
        rw [if_neg hne, q1]
        rcases q2 with e | e <;> (rw [e]; decide)
      · have hne : ¬ x.2 = x.1 := fun c => by
          rw [c, q1] at q2
          revert q2
          decide
        rw [if_neg hne, q1, q2]
        decide
  obtain ⟨k1, k2, k3⟩ := key
  by_cases cop : s = 10 ∨ s = 13 ∨ s = 14 ∨ s = 15 ∨ s = 21
  · have hn : ¬ s = 11 ∧ ¬ s = 12 ∧ ¬ s = 22 ∧ ¬ s = 16 ∧ ¬ s = 17 ∧ ¬ s = 18 := by rcases cop with e | e | e | e | e <;> (subst e; decide)
    rw [c_can_t c60 cop, m_stands_d hn, z_op.mpr cop, F5, h39]
    rfl
  by_cases c11 : s = 11
  · subst c11
    rw [c_can_11 c60 rfl]
    show _ = (decide (m_in G = 10) && decide (m_pt G = 0))
    rw [← Bool.decide_and, decide_eq_decide]
    exact k1
  by_cases c12 : s = 12
  · subst c12
    rw [c_can_12 c60 rfl]
    show _ = (decide (m_in G = 10) && decide (¬ 2 ≤ m_pt G))
    rw [← Bool.decide_and, ← Bool.decide_or, decide_eq_decide]
    exact k2
  by_cases c22 : s = 22
  · subst c22
    rw [c_can_22 c60 rfl]
    show _ = (decide (m_in G = 21) && decide (m_pt G = 0))
    rw [← Bool.decide_and, decide_eq_decide]
    exact k3
  by_cases c16 : s = 16
  · subst c16
    rw [c_can_16 c60 rfl]
    show _ = decide (¬ G 0 39 ≤ 0)
    rw [F5, h39]
  by_cases c17 : s = 17 ∨ s = 18
  · rw [c_can_17 c60 c17, m_stands, if_neg c11, if_neg c12, if_neg c22, if_neg c16, if_pos c17, h42]
  have hop : m_opens s = false := by
    cases e : m_opens s with
    | false => rfl
    | true => exact absurd (z_op.mp e) cop
  rw [c_can_d c60 ⟨fun e => cop (Or.inl e), c11, c12, fun e => cop (Or.inr (Or.inl e)), fun e => cop (Or.inr (Or.inr (Or.inl e))), fun e => cop (Or.inr (Or.inr (Or.inr (Or.inl e)))), c16, fun e => c17 (Or.inl e), fun e => c17 (Or.inr e), fun e => cop (Or.inr (Or.inr (Or.inr (Or.inr e)))), c22⟩,
    m_stands_d ⟨c11, c12, c22, c16, fun e => c17 (Or.inl e), fun e => c17 (Or.inr e)⟩, hop]
  rfl
/-- what the class takes may stand there -/
theorem s_al (F : s_F h g w z) (hz : z < 60) (Y : y_st (h (8 * w + 20)) (h (8 * w + 21)) (z_sk (h (8 * w + 15)) z)) {s a b : Int32} (hc : c_can h w (z_lp (h (8 * w + 15)) z) s b = true) (hr : c_nok s a b) : z_al (h (8 * w + 15)) z s b ∧ (m_opens s = true → z_D (h (8 * w + 15)) z < 10) := by
  obtain ⟨F1, F2, F3, F4, F5⟩ := F
  have c60 : h (8 * w + 14) 8 < 60 := by rw [F1]; exact nI_lt (b := 60) hz (by omega)
  have ok := F4.1
  have hDz := z_le ok z (Nat.le_refl z)
  have key : ∀ v : Int32, ¬ v = -1 → c_latest h w = v → ∃ b p L, z_sk (h (8 * w + 15)) z = (b, p) :: L ∧ h (8 * w + 15) p = v := fun v hv e => by
    cases hsk : z_sk (h (8 * w + 15)) z with
    | nil =>
      have d0 : z_D (h (8 * w + 15)) z = 0 := by unfold z_D; rw [hsk]; rfl
      rw [d0] at F5
      rw [c_latest_0 F5] at e
      exact absurd e.symm hv
    | cons x L =>
      have d0 : z_D (h (8 * w + 15)) z = L.length + 1 := by unfold z_D; rw [hsk]; rfl
      have hm := z_mem ok (x := x) (by rw [hsk]; exact List.mem_cons_self)
      rw [d0] at F5
      rw [hsk] at Y
      rw [c_latest_s F5 (by omega) (by omega) Y] at e
      exact ⟨x.1, x.2, L, rfl, e⟩
  refine ⟨⟨fun q => ?_, fun q => ?_, fun q => ?_⟩, fun q => ?_⟩
  · rw [c_can_16 c60 q, decide_eq_true_eq, F5] at hc
    cases hsk : z_sk (h (8 * w + 15)) z with
    | nil =>
      have d0 : z_D (h (8 * w + 15)) z = 0 := by unfold z_D; rw [hsk]; rfl
      rw [d0] at hc
      exact absurd (by decide) hc
    | cons x L => exact ⟨x, L, rfl⟩
  · rcases q with q | q | q
    · rw [c_can_11 c60 q, decide_eq_true_eq] at hc
      obtain ⟨b, p, L, e1, e2⟩ := key 10 (by decide) hc
      exact ⟨b, p, L, e1, Or.inl ⟨e2, Or.inl q⟩⟩
    · rw [c_can_12 c60 q, Bool.or_eq_true, decide_eq_true_eq, decide_eq_true_eq] at hc
      rcases hc with hc | hc
      · obtain ⟨b, p, L, e1, e2⟩ := key 10 (by decide) hc
        exact ⟨b, p, L, e1, Or.inl ⟨e2, Or.inr q⟩⟩
      · obtain ⟨b, p, L, e1, e2⟩ := key 11 (by decide) hc
        exact ⟨b, p, L, e1, Or.inr (Or.inl ⟨e2, q⟩)⟩
    · rw [c_can_22 c60 q, decide_eq_true_eq] at hc
      obtain ⟨b, p, L, e1, e2⟩ := key 21 (by decide) hc
      exact ⟨b, p, L, e1, Or.inr (Or.inr ⟨e2, q⟩)⟩
  · rw [c_can_17 c60 q, decide_eq_true_eq] at hc
    have h9 := hr.2.2.2.2 (Or.inr q)
    obtain ⟨n, hn, e⟩ := nI_of2 (x := b) (M := 9) (n := 9) (by decide) h9.1 (by have := h9.2; rw [Int32.lt_iff_toInt_lt] at this; rw [Int32.le_iff_toInt_le]; omega)
    refine ⟨n, by omega, e, ?_⟩
    rw [e] at hc
    have hlp : z_lp (h (8 * w + 15)) z ≤ z := by
      unfold z_lp
      have := List.length_filter_le (fun b => decide (h (8 * w + 15) b = 13)) (z_hd (h (8 * w + 15)) z)
      rw [z_hd_len] at this
      omega
    refine Nat.lt_of_not_le fun q => hc (nI_le q (by omega))
  · rw [c_can_t c60 (z_op.mp q), decide_eq_true_eq, F5] at hc
    exact Nat.lt_of_not_le fun q => hc (nI_le (a := 10) q (by omega))
end SN
