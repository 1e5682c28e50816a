/-! what doPart keeps, and its contract, for every cost -/
theorem c_undo_26 (h : ab_H) (j : Nat) : c_undoAt h j 2 6 = h 2 6 := by
  unfold c_undoAt c_undoB
  repeat' split
  all_goals simp [ab_rd, ab_rdA]
theorem c_ua_keep {mk : Nat} : ∀ (n : Nat) (h : ab_H), c_uok h (mk + n) → c_pok h → c_pok (c_ua mk n h) ∧ (∀ i, i ≠ 2 → i ≠ 3 → i ≠ 4 → i ≠ 5 → i ≠ 6 → i ≠ 7 → c_ua mk n h i = h i) ∧ c_ua mk n h 2 6 = h 2 6
  | 0, h, _, hp => ⟨hp, fun _ _ _ _ _ _ _ => rfl, rfl⟩
  | n + 1, h, hu, hp => by
    obtain ⟨h1, h2, h3⟩ := c_ua_keep n (c_undoAt h (mk + n)) (c_undo_uok hu) (c_undo_pok hu hp)
    refine ⟨h1, fun i a b c d e f => (h2 i a b c d e f).trans (c_undo_ne h _ i a b c d e f), h3.trans (c_undo_26 h _)⟩
/-- behind a SCOPE's block, undone or not -/
theorem c_scope_mid {n : Nat} {h : ab_H} {x : c_R} {u : Nat} (hu : h 3 5 = nI u) (hu2 : u ≤ 60) (H : c_post n (ab_up h 3 6 (h 3 5)) x) :
    ∃ v, u ≤ v ∧ v ≤ 60 ∧ (if x.1 = 4 then c_undoS x.2.2 else x.2.2) 3 5 = nI v ∧ c_uok (if x.1 = 4 then c_undoS x.2.2 else x.2.2) v ∧ c_pok (if x.1 = 4 then c_undoS x.2.2 else x.2.2) ∧ (if x.1 = 4 then c_undoS x.2.2 else x.2.2) 2 6 = x.2.2 2 6 ∧ (∀ i, 14 ≤ i ∨ i = 0 → (if x.1 = 4 then c_undoS x.2.2 else x.2.2) i = x.2.2 i) := by
  obtain ⟨k, g1, g2, g3, g4, g5⟩ := c_scope_at hu hu2 H
  split
  · rw [← c_undoS_eq g1 g2 g3]
    obtain ⟨q1, q2, q3⟩ := c_ua_keep k x.2.2 g4 g5
    refine ⟨u, Nat.le_refl u, hu2, ?_, fun j hj => ?_, ?_, ?_, fun i hi => ?_⟩
    · rw [ab_rd, if_pos rfl, if_pos rfl]
    · rw [ab_up_ne (by omega), ab_up_ne (by omega), ab_up_ne (by omega), q2 9 (by omega) (by omega) (by omega) (by omega) (by omega) (by omega), q2 10 (by omega) (by omega) (by omega) (by omega) (by omega) (by omega), q2 11 (by omega) (by omega) (by omega) (by omega) (by omega) (by omega)]
      exact g4 j (by omega)
    · unfold c_pok
      rw [ab_up_ne (by omega)]
      exact q1
    · rw [ab_up_ne (by omega)]
      exact q3
    · rw [ab_up_ne (by omega)]
      exact q2 i (by omega) (by omega) (by omega) (by omega) (by omega) (by omega)
  · exact ⟨u + k, by omega, g3, g2, g4, g5, rfl, fun _ _ => rfl⟩
theorem c_scope_post {n : Nat} {P : c_PT} (hI : c_IP n P) {h : ab_H} {w : Nat} {x deep : Int32} (hp : c_pre n h w x) : c_post n h (c_scope P h w x deep) := by
  obtain ⟨hinv, hw, hx, hc⟩ := hp
  obtain ⟨hst, hlg, hpl, u, hu2, hu, hok, hsc⟩ := id hinv
  have R := hI (ab_up h 3 6 (h 3 5)) w x deep ⟨c_inv_enter hinv, hw, hx, c_cost_up (by omega) hc⟩
  obtain ⟨v, v1, v2, v3, v4, v5, v6, v7⟩ := c_scope_mid hu hu2 R
  obtain ⟨i1, k1, z1, st1, sc1, co1⟩ := R
  unfold c_scope
  generalize hy : P (ab_up h 3 6 (h 3 5)) w x deep = y at *
  generalize hm : (if y.1 = 4 then c_undoS y.2.2 else y.2.2) = m at *
  have e14 : ∀ i, 14 ≤ i → m i = h i := fun i hi => (v7 i (Or.inl hi)).trans ((st1 i hi).trans (ab_up_ne (by omega)))
  have eL : ∀ i, i ≠ 3 → c_leave m (h 3 6) i = m i := fun i hi => by
    unfold c_leave
    split
    · rw [ab_up_ne hi, ab_up_ne hi]
    · rw [ab_up_ne hi]
  have e6 : c_leave m (h 3 6) 3 6 = h 3 6 := by
    unfold c_leave
    split <;> simp [ab_rd]
  refine ⟨⟨fun w2 hw2 => ?_, ?_, ?_, ?_⟩, k1, z1, fun i hi => (eL i (by omega)).trans (e14 i hi), e6, ?_⟩
  · show _ ∧ _
    dsimp only
    rw [eL (8 * w2 + 14) (by omega), eL (8 * w2 + 15) (by omega), eL (8 * w2 + 16) (by omega), eL (8 * w2 + 17) (by omega), eL (8 * w2 + 18) (by omega), eL (8 * w2 + 19) (by omega), e14 (8 * w2 + 14) (by omega), e14 (8 * w2 + 15) (by omega), e14 (8 * w2 + 16) (by omega), e14 (8 * w2 + 17) (by omega), e14 (8 * w2 + 18) (by omega), e14 (8 * w2 + 19) (by omega)]
    exact hst w2 hw2
  · obtain ⟨g, g1, g2⟩ := i1.2.1
    refine ⟨g, g1, ?_⟩
    show c_leave m (h 3 6) 2 6 = nI g
    rw [eL 2 (by omega), v6]
    exact g2
  · intro i h1 h2
    refine v5 i h1 ?_
    have h3 : ¬ c_leave m (h 3 6) 2 2 ≤ i := h2
    rw [eL 2 (by omega)] at h3
    exact h3
  · rcases hsc with ⟨q1, q2⟩ | ⟨mk, q1, q2⟩
    · refine ⟨0, by omega, ?_, fun j hj => absurd hj (Nat.not_lt_zero j), Or.inl ⟨?_, rfl⟩⟩
      · show c_leave m (h 3 6) 3 5 = nI 0
        rw [c_leave, if_pos q1]
        simp [ab_rd]
        rfl
      · exact e6.trans q1
    · refine ⟨v, v2, ?_, ?_, Or.inr ⟨mk, by omega, e6.trans q2⟩⟩
      · show c_leave m (h 3 6) 3 5 = nI v
        rw [c_leave, if_neg (by rw [q2]; exact nI_m mk (by omega))]
        rw [← v3]
        simp [ab_rd]
      · show c_uok (c_leave m (h 3 6)) v
        unfold c_uok
        rw [eL 9 (by omega), eL 10 (by omega), eL 11 (by omega)]
        exact v4
  · show ∃ c, c ≤ 60 ∧ c_leave m (h 3 6) 0 3 = nI c ∧ 60 ≤ c + n
    rw [eL 0 (by omega), v7 0 (Or.inr rfl)]
    exact co1
theorem c_nodeS_post {n : Nat} {P : c_PT} (hI : c_IP n P) {h : ab_H} {w : Nat} {x deep s a b : Int32} (hp : c_pre n h w x) (hx : vp_in x 60) (ok : c_nok s a b) : c_post n h (c_nodeS P h w x deep s a b) := by
  have T : ∀ k v : Int32, c_kw k → (k = 0 → v = 0) → c_post n h (k, v, h) := fun k v hk h0 => c_post_sm hp.2.2.2 hp.1 (c_sm_rf h) hk h0
  unfold c_nodeS
  split
  · exact T 4 b (Or.inr (Or.inr (Or.inr (Or.inr (Or.inl rfl))))) (fun z => absurd z (by decide))
  · split
    · exact c_try_post hI hp hx
    · split
      · exact c_loop_post hI 11 0 h hp
      · split
        · exact c_scope_post hI hp
        · split
          · exact c_mute_post hI hp
          · split
            · exact T 1 b (Or.inr (Or.inl rfl)) (fun z => absurd z (by decide))
            · split
              · exact T 2 b (Or.inr (Or.inr (Or.inl rfl))) (fun z => absurd z (by decide))
              · split
                · exact T 3 _ (Or.inr (Or.inr (Or.inr (Or.inl rfl)))) (fun z => absurd z (by decide))
                · split
                  · next q => exact c_call_post hI hp.1 hp.2.2.2 (ok.2.1 (by simp [q]))
                  · split
                    · exact c_if_post hI hp hx
                    · have K := c_step_keep hp.1 ok
                      have N := c_stepK_kw h s a b
                      exact c_post_sm hp.2.2.2 K.1 K.2 N.1 N.2
/-- a NODE, at a cost that leaves N -/
theorem c_node_post {N : Nat} {P : c_PT} (hI : ∀ n, N = n + 1 → c_IP n P) {h : ab_H} {w : Nat} {x deep : Int32} (hi : c_inv h) (hw : w < 8) (hx : vp_in x 60) (hc : c_cost N h) : c_post N h (c_node P h w x deep) := by
  unfold c_node
  split
  · next q =>
    cases N with
    | zero =>
      obtain ⟨c, h1, h2, h3⟩ := hc
      rw [h2] at q
      have q2 : nI c < nI 60 := q
      rw [nI_ltI (by omega) (by omega)] at q2
      omega
    | succ n =>
      have hp : c_pre n (c_pay h) w x := c_pre_pay ⟨hi, hw, Or.inr hx, hc⟩ q
      have X := c_nodeS_post (hI n rfl) (deep := deep) hp hx (c_ok hi hw hx)
      have X2 := c_post_tr (h := h) (fun i hi => ab_up_ne (by omega)) (show c_pay h 3 6 = h 3 6 by rw [c_pay, ab_up_ne (by omega)]) X
      obtain ⟨a1, a2, a3, a4, a5, c, a6, a7, a8⟩ := X2
      exact ⟨a1, a2, a3, a4, a5, c, a6, a7, by omega⟩
  · exact c_post_sm hc hi (c_sm_rf h) (Or.inr (Or.inr (Or.inr (Or.inr (Or.inr rfl))))) (fun z => absurd z (by decide))
theorem c_partL_post {N : Nat} {P : c_PT} (hI : ∀ n, N = n + 1 → c_IP n P) {w : Nat} {deep : Int32} {zE : Nat} (hw : w < 8) (hz : zE ≤ 60) : ∀ (m a : Nat) (h : ab_H), c_inv h → c_cost N h → a ≤ 60 → c_post N h (c_partL P w deep (nI zE) m (nI a) h) := by
  intro m
  induction m with
  | zero =>
    intro a h hi hc ha
    exact c_post_sm hc hi (c_sm_rf h) c_kw0 (fun _ => rfl)
  | succ m ih =>
    intro a h hi hc ha
    rw [c_partL]
    split
    · exact c_post_sm hc hi (c_sm_rf h) c_kw0 (fun _ => rfl)
    · next q =>
      have ha2 : a < zE := by
        rcases Nat.lt_or_ge a zE with z | z
        · exact z
        · exact absurd (nI_le z (by omega)) q
      have hx : vp_in (nI a) 60 := vp_in_nI (by omega) (by omega)
      have X := c_node_post hI (deep := deep) hi hw hx hc
      split
      · obtain ⟨b, hb, eb⟩ := vp_in_of ((X.1.1 w hw).2 (nI a).toNatClampNeg (vp_lt hx)).2.2 (by omega)
        rw [eb, c_max_next (by omega) hb]
        exact c_post_tr X.2.2.2.1 X.2.2.2.2.1 (ih _ _ X.1 X.2.2.2.2.2 (by omega))
      · exact X
theorem c_part_post {N : Nat} {P : c_PT} (hI : ∀ n, N = n + 1 → c_IP n P) : c_IP N (c_part P) := by
  intro h w part deep hp
  obtain ⟨hi, hw, hpt, hc⟩ := hp
  unfold c_part
  split
  · next q =>
    obtain ⟨zE, hz, ez⟩ := (hi.1 w hw).1
    rw [ez, show part + 1 = nI 0 by rw [q]; rfl]
    exact c_partL_post hI hw hz 61 0 h hi hc (by omega)
  · next q =>
    have hx := hpt.resolve_left q
    obtain ⟨zE, hz, ez⟩ := vp_in_of (c_pe hi hw hx) (by omega)
    obtain ⟨p, hp, ep⟩ := vp_in_of hx (by omega)
    rw [ez, show part + 1 = nI (p + 1) by rw [ep, nI_1]]
    exact c_partL_post hI hw (by omega) 61 (p + 1) h hi hc (by omega)
theorem cP_post : ∀ n, c_IP n (cP n)
  | 0 => c_part_post (fun n e => absurd e (by omega))
  | n + 1 => c_part_post (fun m e => by
      have : n = m := by omega
      subst this
      exact cP_post n)
theorem c_cost0 {h : ab_H} (hc : c_cost 0 h) : ¬ h 0 3 < 60 := by
  obtain ⟨c, h1, h2, h3⟩ := hc
  rw [h2]
  intro q
  have q2 : nI c < nI 60 := q
  rw [nI_ltI (by omega) (by omega)] at q2
  omega
theorem cP_met {l : Launch} : ∀ n, c_KP l (3 * n + 9) n (cP n)
  | 0 => fun h w part deep hp => kX3_doPart (d := 0) (P := fun h _ _ _ => (5, 0, h)) (N := 0) hp
      (fun h x hi hx hc => kX3_doNode (d := 0) (n := 0) (fun q => absurd q (c_cost0 hc)) (fun q => absurd q (c_cost0 hc)) (fun q => absurd q (c_cost0 hc)) hi hp.2.1 hx)
      (fun h x hi hx hc => c_node_post (fun n e => absurd e (by omega)) hi hp.2.1 hx hc)
  | n + 1 => fun h w part deep hp => kX3_doPart (d := 3 * n + 3) (P := cP n) (N := n + 1) hp
      (fun h x hi hx hc => kX3_doNode (d := 3 * n + 3) (n := n) (fun _ => cP_met n) (fun _ => cP_post n) (fun q => c_pre_pay ⟨hi, hp.2.1, Or.inr hx, hc⟩ q) hi hp.2.1 hx)
      (fun h x hi hx hc => c_node_post (fun m e => by
        have : n = m := by omega
        subst this
        exact cP_post n) hi hp.2.1 hx hc)
