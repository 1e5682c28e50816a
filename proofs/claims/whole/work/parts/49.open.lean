/-! a NODE more: what stands open, as class and reference keep it -/
theorem z_sk_eq {f f' : Nat → Int32} : ∀ k, (∀ i, i < k → f' i = f i) → z_sk f' k = z_sk f k
  | 0, _ => rfl
  | k + 1, h => by
    rw [z_sk, z_sk, h k (by omega), z_sk_eq k fun i hi => h i (by omega)]
theorem z_D_eq {f f' : Nat → Int32} {k : Nat} (h : ∀ i, i < k → f' i = f i) : z_D f' k = z_D f k := by
  unfold z_D
  rw [z_sk_eq k h]
theorem z_mem {f : Nat → Int32} {z : Nat} (ok : z_ok f z) {x : Nat × Nat} (hx : x ∈ z_sk f z) : x.1 ≤ x.2 ∧ x.2 < z := by
  obtain ⟨A, B, e⟩ := List.append_of_mem hx
  have t := z_top ok A x.1 x.2 B e
  exact ⟨t.1, t.2.1⟩
theorem z_hd_eq {f f' : Nat → Int32} {k : Nat} (h : ∀ i, i < k → f' i = f i) : z_hd f' k = z_hd f k := by
  unfold z_hd
  rw [z_sk_eq k h]
theorem z_lp_eq {f f' : Nat → Int32} {k : Nat} (ok : z_ok f k) (h : ∀ i, i < k → f' i = f i) : z_lp f' k = z_lp f k := by
  unfold z_lp
  rw [z_hd_eq h]
  congr 1
  refine List.filter_congr fun b hb => ?_
  unfold z_hd at hb
  obtain ⟨x, hx, e⟩ := List.mem_map.mp hb
  have := z_mem ok hx
  rw [h b (by omega)]
/-- the open blocks, in two rows of numbers -/
def y_st (oB oP : Nat → Int32) : List (Nat × Nat) → Prop
  | [] => True
  | x :: L => oB L.length = nI x.1 ∧ oP L.length = nI x.2 ∧ y_st oB oP L
theorem y_st_ne {oB oP oB' oP' : Nat → Int32} : ∀ {L : List (Nat × Nat)}, (∀ j, j < L.length → oB' j = oB j ∧ oP' j = oP j) → y_st oB oP L → y_st oB' oP' L
  | [], _, _ => trivial
  | x :: L, h, H => by
    have h1 := h L.length (by simp)
    refine ⟨h1.1.trans H.1, h1.2.trans H.2.1, y_st_ne (fun j hj => h j ?_) H.2.2⟩
    simp only [List.length_cons]
    omega
theorem y_st_at {oB oP : Nat → Int32} : ∀ {L : List (Nat × Nat)}, y_st oB oP L → ∀ j, j < L.length → ∃ x, x ∈ L ∧ oB j = nI x.1 ∧ oP j = nI x.2
  | [], _, j, h => absurd h (by simp)
  | x :: L, H, j, h => by
    by_cases e : j = L.length
    · subst e
      exact ⟨x, List.mem_cons_self, H.1, H.2.1⟩
    · simp only [List.length_cons] at h
      obtain ⟨y, h1, h2⟩ := y_st_at H.2.2 j (by omega)
      exact ⟨y, List.mem_cons_of_mem _ h1, h2⟩
/-- the open blocks, as the reference looks at them -/
def y_lk (f oS oP : Nat → Int32) : List (Nat × Nat) → Prop
  | [] => True
  | x :: L => oS L.length = f x.1 ∧ oP L.length = (if x.2 = x.1 then 0 else if f x.2 = 12 then 2 else 1) ∧ y_lk f oS oP L
theorem y_lk_ne {f oS oP oS' oP' : Nat → Int32} : ∀ {L : List (Nat × Nat)}, (∀ j, j < L.length → oS' j = oS j ∧ oP' j = oP j) → y_lk f oS oP L → y_lk f oS' oP' L
  | [], _, _ => trivial
  | x :: L, h, H => by
    have h1 := h L.length (by simp)
    refine ⟨h1.1.trans H.1, h1.2.trans H.2.1, y_lk_ne (fun j hj => h j ?_) H.2.2⟩
    simp only [List.length_cons]
    omega
theorem y_lk_cnt {f oS oP : Nat → Int32} : ∀ {L : List (Nat × Nat)}, y_lk f oS oP L → m_cnt oS L.length = ((L.map Prod.fst).filter fun b => decide (f b = 13)).length
  | [], _ => rfl
  | x :: L, H => by
    have ih := y_lk_cnt H.2.2
    rw [List.length_cons, m_cnt, ih, H.1, List.map_cons]
    by_cases c : f x.1 = 13
    · rw [if_pos c, List.filter_cons_of_pos (by simp [c]), List.length_cons]
    · rw [if_neg c, List.filter_cons_of_neg (by simp [c])]
      rfl
theorem y_st_cnt {f oB oP : Nat → Int32} : ∀ {L : List (Nat × Nat)}, (∀ x, x ∈ L → x.1 < 60) → y_st oB oP L → m_cnt (fun j => f (oB j).toNatClampNeg) L.length = ((L.map Prod.fst).filter fun b => decide (f b = 13)).length
  | [], _, _ => rfl
  | x :: L, hx, H => by
    have ih := y_st_cnt (f := f) (fun y hy => hx y (List.mem_cons_of_mem _ hy)) H.2.2
    have h1 := hx x List.mem_cons_self
    rw [List.length_cons, m_cnt, ih, H.1, nI_clamp (by omega), List.map_cons]
    by_cases c : f x.1 = 13
    · rw [if_pos c, List.filter_cons_of_pos (by simp [c]), List.length_cons]
    · rw [if_neg c, List.filter_cons_of_neg (by simp [c])]
      rfl
/-- the reference looks at a workflow -/
theorem y_look {f : Nat → Int32} {z o : Nat} (ok : z_ok f z) (hz : z ≤ 60) (ho : o + z ≤ 480) : ∀ (n k : Nat) (h : ab_H), k + n = z → (∀ i, i < z → h 1 (o + i) = f i) → h 0 39 = nI (z_D f k) → y_lk f (h 18) (h 21) (z_sk f k) →
    ∃ g, m_lk (nI (o + z)) n (nI (o + k)) h g ∧ g 0 39 = nI (z_D f z) ∧ y_lk f (g 18) (g 21) (z_sk f z) ∧ (∀ i, i ≠ 0 → i ≠ 18 → i ≠ 21 → g i = h i) ∧ ∀ j, j ≠ 39 → g 0 j = h 0 j := by
  intro n
  induction n with
  | zero =>
    intro k h hk h1 h2 h3
    have e : k = z := by omega
    subst e
    exact ⟨h, ⟨nI_le (Nat.le_refl _) (by omega), rfl⟩, h2, h3, fun _ _ _ _ => rfl, fun _ _ => rfl⟩
  | succ n ih =>
    intro k h hk h1 h2 h3
    have hD := z_le ok k (by omega)
    have hl : (z_sk f k).length = z_D f k := rfl
    have hc : (nI (o + k)).toNatClampNeg = o + k := nI_clamp (by omega)
    have hs := h1 k (by omega)
    have key : ∃ h', m_lkS h (f k) = h' ∧ h' 0 39 = nI (z_D f (k + 1)) ∧ y_lk f (h' 18) (h' 21) (z_sk f (k + 1)) ∧ (∀ i, i ≠ 0 → i ≠ 18 → i ≠ 21 → h' i = h i) ∧ (∀ j, j ≠ 39 → h' 0 j = h 0 j) ∧ (m_opens (f k) = true → vp_in (h 0 39) 80) ∧ (f k = 11 ∨ f k = 12 ∨ f k = 22 → vp_in (h 0 39 - 1) 80) := by
      rcases z_cases ok (show k < z by omega) with ⟨q1, q2, e1⟩ | ⟨q1, q2, x, L, e1, e2⟩ | ⟨q1, q2, b, p, L, e1, e2, q3⟩ | ⟨q1, q2, e1⟩
      · have eD : z_D f (k + 1) = z_D f k + 1 := by unfold z_D; rw [e1]; rfl
        refine ⟨ab_up (ab_up (ab_up h 18 (z_D f k) (f k)) 21 (z_D f k) 0) 0 39 (nI (z_D f k + 1)), ?_, ?_, ?_, fun i i1 i2 i3 => ?_, fun j hj => ?_, fun _ => ?_, fun q => ?_⟩
        · unfold m_lkS
          rw [if_pos q1, h2, nI_clamp (by omega), nI_1]
        · rw [eD]; rfl
        · rw [e1]
          refine ⟨?_, ?_, y_lk_ne (fun j hj => ⟨?_, ?_⟩) h3⟩
          · show ab_up h 18 (z_D f k) (f k) 18 (z_D f k) = _
            rw [ab_rd, if_pos rfl, if_pos rfl]
          · show ab_up (ab_up h 18 (z_D f k) (f k)) 21 (z_D f k) 0 21 (z_D f k) = _
            rw [ab_rd, if_pos rfl, if_pos rfl, if_pos rfl]
          · show ab_up h 18 (z_D f k) (f k) 18 j = _
            rw [ab_rd, if_pos rfl, if_neg (by omega)]
          · show ab_up (ab_up h 18 (z_D f k) (f k)) 21 (z_D f k) 0 21 j = _
            rw [ab_rd, if_pos rfl, if_neg (by omega)]
            rfl
        · rw [ab_up_ne i1, ab_up_ne i3, ab_up_ne i2]
        · rw [ab_rd, if_pos rfl, if_neg hj]
          rfl
        · rw [h2]
          exact vp_in_nI (by omega) (by omega)
        · exact absurd q2 (by rw [z_pt.mpr (by rcases q with q | q | q <;> simp [q])]; decide)
      · have eD : z_D f k = z_D f (k + 1) + 1 := by unfold z_D; rw [e1, e2]; rfl
        refine ⟨ab_up h 0 39 (nI (z_D f (k + 1))), ?_, rfl, ?_, fun i i1 i2 i3 => ab_up_ne i1, fun j hj => ?_, fun q => ?_, fun q => ?_⟩
        · unfold m_lkS
          rw [if_neg (by rw [q1]; decide), if_pos q2, h2, eD, nI_pred]
        · rw [e2]
          rw [e1] at h3
          exact h3.2.2
        · rw [ab_rd, if_pos rfl, if_neg hj]
        · rw [q1] at q; cases q
        · rw [q2] at q; exact absurd q (by decide)
      · have eD : z_D f (k + 1) = z_D f k := by unfold z_D; rw [e1, e2]; rfl
        have eL : z_D f k = L.length + 1 := by unfold z_D; rw [e1]; rfl
        have hm := z_mem (z_ok_le ok (show k ≤ z by omega)) (x := (b, p)) (by rw [e1]; exact List.mem_cons_self)
        simp only at hm
        have hx : h 0 39 - 1 = nI L.length := by rw [h2, eL, nI_pred]
        have hn16 : ¬ f k = 16 := fun c => by rw [c] at q2; revert q2; decide
        refine ⟨ab_up h 21 L.length (if f k = 12 then 2 else 1), ?_, ?_, ?_, fun i i1 i2 i3 => ab_up_ne i3, fun j hj => rfl, fun q => ?_, fun q => ?_⟩
        · unfold m_lkS
          rw [if_neg (by rw [q1]; decide), if_neg hn16, if_pos q2, hx, nI_clamp (by omega)]
        · rw [eD]; exact h2
        · rw [e2]
          rw [e1] at h3
          refine ⟨h3.1, ?_, y_lk_ne (fun j hj => ⟨rfl, ?_⟩) h3.2.2⟩
          · show ab_up h 21 L.length (if f k = 12 then 2 else 1) 21 L.length = _
            rw [ab_rd, if_pos rfl, if_pos rfl, if_neg (show ¬ (b, k).2 = (b, k).1 by simp only; omega)]
          · show ab_up h 21 L.length (if f k = 12 then 2 else 1) 21 j = _
            rw [ab_rd, if_pos rfl, if_neg (by omega)]
        · rw [q1] at q; cases q
        · rw [hx]
          exact vp_in_nI (by omega) (by omega)
      · have eD : z_D f (k + 1) = z_D f k := by unfold z_D; rw [e1]
        have hp := z_pf.mp q2
        refine ⟨h, ?_, ?_, ?_, fun _ _ _ _ => rfl, fun _ _ => rfl, fun q => ?_, fun q => ?_⟩
        · unfold m_lkS
          rw [if_neg (by rw [q1]; decide), if_neg hp.2.2.2, if_neg (fun q => q.elim hp.1 (fun q => q.elim hp.2.1 hp.2.2.1))]
        · rw [eD]; exact h2
        · rw [e1]; exact h3
        · rw [q1] at q; cases q
        · exact absurd q (fun q => q.elim hp.1 (fun q => q.elim hp.2.1 hp.2.2.1))
    obtain ⟨h', k1, k2, k3, k4, k5, k6, k7⟩ := key
    obtain ⟨g, g1, g2, g3, g4, g5⟩ := ih (k + 1) h' (by omega) (fun i hi => by rw [k4 1 (by decide) (by decide) (by decide)]; exact h1 i hi) k2 k3
    refine ⟨g, ?_, g2, g3, fun i i1 i2 i3 => (g4 i i1 i2 i3).trans (k4 i i1 i2 i3), fun j hj => (g5 j hj).trans (k5 j hj)⟩
    refine ⟨fun q => ?_, vp_in_nI (by omega) (by omega), ?_, ?_, ?_⟩
    · have := (nI_leI (by omega) (by omega)).mp q
      omega
    · rw [hc, hs]; exact k6
    · rw [hc, hs]; exact k7
    · rw [hc, hs, k1, nI_1]
      exact g1
