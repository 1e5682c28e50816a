/-! what the class's blocks keep, given what doPart keeps -/
theorem c_n16 {n : Int32} (h2 : n ≤ 16) : ∀ i : Int32, ¬ i < 0 → ¬ n ≤ i → vp_in i 16 := by
  intro i h0 h1
  obtain ⟨j, hj, rfl⟩ := nI_of h0
  refine vp_in_nI ?_ (by omega)
  rw [Int32.le_iff_toInt_le, nI_toInt hj] at h1
  rw [Int32.le_iff_toInt_le, show (16 : Int32).toInt = 16 from rfl] at h2
  omega
theorem c_step_keep {h : ab_H} {s a b : Int32} (H : c_inv h) (ok : c_nok s a b) : c_inv (c_step h s a b) ∧ c_sm h (c_step h s a b) := by
  have A : s = 1 ∨ s = 2 ∨ s = 3 → vp_in a 8 := fun q => ok.1 (by rcases q with q | q | q <;> simp [q])
  unfold c_step
  split
  · exact c_note_keep H
  · split
    · next q =>
      have K := c_rem_keep (s := 1) (a := a) (was := b) H ⟨fun _ _ _ => A (Or.inl q), fun z => absurd z (by decide), fun z => absurd z (by decide)⟩
      exact ⟨c_inv_4 K.1, c_sm_tr K.2 (c_sm_up (by omega) (by omega) (by omega))⟩
    · split
      · next q =>
        have K := c_rem_keep (s := 2) (a := a) (was := h 4 a.toNatClampNeg) H ⟨fun _ _ _ => A (Or.inr (Or.inl q)), fun z => absurd z (by decide), fun z => absurd z (by decide)⟩
        exact ⟨c_inv_4 K.1, c_sm_tr K.2 (c_sm_up (by omega) (by omega) (by omega))⟩
      · split
        · next q =>
          unfold c_div
          split
          · exact ⟨H, c_sm_rf h⟩
          · have K := c_rem_keep (s := 3) (a := a) (was := h 4 a.toNatClampNeg) H ⟨fun _ _ _ => A (Or.inr (Or.inr q)), fun z => absurd z (by decide), fun z => absurd z (by decide)⟩
            exact ⟨c_inv_4 K.1, c_sm_tr K.2 (c_sm_up (by omega) (by omega) (by omega))⟩
        · split
          · unfold c_read
            split
            · exact ⟨c_inv_4 H, c_sm_up (by omega) (by omega) (by omega)⟩
            · exact ⟨H, c_sm_rf h⟩
          · split
            · unfold c_write
              split
              · have K := c_rem_keep (s := 5) (a := h 4 a.toNatClampNeg) (was := h 5 (h 4 a.toNatClampNeg).toNatClampNeg) H ⟨fun z => absurd rfl z, fun z => absurd z (by decide), fun z => absurd z (by decide)⟩
                exact ⟨c_inv_up (by omega) (by omega) (by omega) (by omega) (by omega) (by omega) K.1, c_sm_tr K.2 (c_sm_up (by omega) (by omega) (by omega))⟩
              · exact ⟨H, c_sm_rf h⟩
            · split
              · unfold c_make
                split
                · split
                  · next q16 =>
                    have K : c_inv (c_remRow h) ∧ c_sm h (c_remRow h) := by
                      unfold c_remRow
                      split
                      · have K := c_rem_keep (h := ab_upA h 13 (va_cpy (h 5) (h 13) 0 (h 3 5 * 16).toNatClampNeg 16)) (s := 6) (a := 0) (was := h 2 2) (c_inv_upA (by omega) (by omega) (by omega) (by omega) (by omega) (by omega) H) ⟨fun _ z => absurd rfl z, fun z => absurd z (by decide), fun _ => H.2.2.1⟩
                        exact ⟨K.1, c_sm_tr (c_sm_upA (by omega) (by omega) (by omega)) K.2⟩
                      · exact ⟨H, c_sm_rf h⟩
                    unfold c_makeRow
                    exact ⟨c_places_keep (c_inv_upA (by omega) (by omega) (by omega) (by omega) (by omega) (by omega) K.1) (c_n16 q16), c_sm_tr K.2 (c_sm_tr (c_sm_upA (by omega) (by omega) (by omega)) (c_sm_up (by omega) (by omega) (by omega)))⟩
                  · exact ⟨H, c_sm_rf h⟩
                · exact ⟨H, c_sm_rf h⟩
              · split
                · next q =>
                  have K : c_inv (c_remSlot h a) ∧ c_sm h (c_remSlot h a) := by
                    unfold c_remSlot
                    split
                    · have K := c_rem_keep (h := ab_up h 12 (h 3 5).toNatClampNeg (h 6 a.toNatClampNeg)) (s := 7) (a := a) (was := h 7 a.toNatClampNeg) (c_inv_up (by omega) (by omega) (by omega) (by omega) (by omega) (by omega) H) ⟨fun _ _ z => absurd rfl z, fun _ => ok.2.2.1 (Or.inl q), fun z => absurd z (by decide)⟩
                      exact ⟨K.1, c_sm_tr (c_sm_up (by omega) (by omega) (by omega)) K.2⟩
                    · exact ⟨H, c_sm_rf h⟩
                  unfold c_hold
                  exact ⟨c_inv_up (by omega) (by omega) (by omega) (by omega) (by omega) (by omega) (c_inv_up (by omega) (by omega) (by omega) (by omega) (by omega) (by omega) K.1), c_sm_tr K.2 (c_sm_tr (c_sm_up (by omega) (by omega) (by omega)) (c_sm_up (by omega) (by omega) (by omega)))⟩
                · split
                  · unfold c_use
                    split
                    · exact ⟨H, c_sm_rf h⟩
                    · split
                      · exact ⟨H, c_sm_rf h⟩
                      · have K := c_note_keep (h := ab_up h 7 a.toNatClampNeg (h 7 a.toNatClampNeg + 1)) (v := h 7 a.toNatClampNeg + 1) (c_inv_up (by omega) (by omega) (by omega) (by omega) (by omega) (by omega) H)
                        exact ⟨K.1, c_sm_tr (c_sm_up (by omega) (by omega) (by omega)) K.2⟩
                  · split
                    · exact c_keep_keep H
                    · exact ⟨H, c_sm_rf h⟩
theorem c_stepK_kw (h : ab_H) (s a b : Int32) : c_kw (c_stepK h s a b) ∧ (c_stepK h s a b = 0 → c_stepN h s a b = 0) := by
  unfold c_stepK c_stepN c_kw
  repeat' split
  all_goals (first | exact ⟨Or.inl rfl, fun _ => rfl⟩ | exact ⟨Or.inr (Or.inr (Or.inr (Or.inr (Or.inl rfl)))), fun z => absurd z (by decide)⟩ | (exfalso; contradiction))
theorem c_post_sm {n : Nat} {h h' : ab_H} {k v : Int32} (Hc : c_cost n h) (H : c_inv h') (S : c_sm h h') (hk : c_kw k) (h0 : k = 0 → v = 0) : c_post n h (k, v, h') := by
  refine ⟨H, hk, h0, S.1, S.2.1, ?_⟩
  show ∃ c, c ≤ 60 ∧ h' 0 3 = nI c ∧ 60 ≤ c + n
  rw [S.2.2]
  exact Hc
theorem c_post_tr {n : Nat} {h h' : ab_H} {x : c_R} (A : ∀ i, 14 ≤ i → h' i = h i) (B : h' 3 6 = h 3 6) (X : c_post n h' x) : c_post n h x :=
  ⟨X.1, X.2.1, X.2.2.1, fun i hi => (X.2.2.2.1 i hi).trans (A i hi), X.2.2.2.2.1.trans B, X.2.2.2.2.2⟩
/-- another way, the same heap -/
theorem c_post_way {n : Nat} {h : ab_H} {x : c_R} {k v : Int32} (X : c_post n h x) (hk : c_kw k) (h0 : k = 0 → v = 0) : c_post n h (k, v, x.2.2) :=
  ⟨X.1, hk, h0, X.2.2.2.1, X.2.2.2.2.1, X.2.2.2.2.2⟩
theorem c_kw0 : c_kw 0 := Or.inl rfl
section CPO
variable {n : Nat} {P : c_PT} (hI : c_IP n P)
theorem c_tryF_post (hI : c_IP n P) {h : ab_H} {r : c_R} {w : Nat} {p deep : Int32} (hw : w < 8) (hp : vp_in p 60) (R : c_post n h r) : c_post n h (c_tryF P r w p deep) := by
  have X := hI r.2.2 w p deep ⟨R.1, hw, Or.inr hp, R.2.2.2.2.2⟩
  have X2 := c_post_tr R.2.2.2.1 R.2.2.2.2.1 X
  unfold c_tryF
  split
  · split
    · exact R
    · split
      · exact c_post_way X2 R.2.1 R.2.2.1
      · exact X2
  · exact R
theorem c_tryC_post (hI : c_IP n P) {h : ab_H} {r : c_R} {w : Nat} {x p deep : Int32} (hw : w < 8) (hp : vp_in p 60) (R : c_post n h r) : c_post n h (c_tryC P r w x p deep) := by
  unfold c_tryC
  split
  · split
    · have X := hI (ab_up r.2.2 4 7 r.2.1) w p deep ⟨c_inv_4 R.1, hw, Or.inr hp, c_cost_up (by omega) R.2.2.2.2.2⟩
      exact c_post_tr (fun i hi => (ab_up_ne (by omega)).trans (R.2.2.2.1 i hi)) ((show ab_up r.2.2 4 7 r.2.1 3 6 = r.2.2 3 6 by rw [ab_up_ne (by omega)]).trans R.2.2.2.2.1) X
    · exact R
  · exact R
theorem c_try_post (hI : c_IP n P) {h : ab_H} {w : Nat} {x deep : Int32} (hp : c_pre n h w x) (hx : vp_in x 60) : c_post n h (c_try P h w x deep) := by
  have R := hI h w x deep hp
  have hp1 := c_pe R.1 hp.2.1 hx
  unfold c_try
  split
  · have C := c_tryC_post hI (x := x) (deep := deep) hp.2.1 hp1 R
    exact c_tryF_post hI hp.2.1 (c_pe C.1 hp.2.1 hp1) C
  · exact c_tryF_post hI hp.2.1 hp1 R
theorem c_loop_post (hI : c_IP n P) {w : Nat} {x deep : Int32} : ∀ (m : Nat) (r : Int32) (h : ab_H), c_pre n h w x → c_post n h (c_loop P w x deep m r h) := by
  intro m
  induction m with
  | zero =>
    intro r h hp
    exact c_post_sm hp.2.2.2 hp.1 (c_sm_rf h) c_kw0 (fun _ => rfl)
  | succ m ih =>
    intro r h hp
    rw [c_loop]
    split
    · exact c_post_sm hp.2.2.2 hp.1 (c_sm_rf h) c_kw0 (fun _ => rfl)
    · split
      · next q =>
        have hp2 := c_pre_mono hp q
        have X0 := hI (c_pay h) w x deep hp2
        have X := c_post_tr (h := h) (fun i hi => ab_up_ne (by omega)) (show c_pay h 3 6 = h 3 6 by rw [c_pay, ab_up_ne (by omega)]) X0
        have Y := ih (r + 1) (P (c_pay h) w x deep).2.2 ⟨X.1, hp.2.1, hp.2.2.1, X.2.2.2.2.2⟩
        have Y2 := c_post_tr X.2.2.2.1 X.2.2.2.2.1 Y
        split
        · next q12 =>
          split
          · split
            · exact c_post_way X c_kw0 (fun _ => rfl)
            · exact Y2
          · exact c_post_way X X.2.1 (fun z => by rcases q12 with q | q <;> rw [q] at z <;> exact absurd z (by decide))
        · split
          · exact Y2
          · exact X
      · exact c_post_sm hp.2.2.2 hp.1 (c_sm_rf h) (Or.inr (Or.inr (Or.inr (Or.inr (Or.inr rfl))))) (fun z => absurd z (by decide))
theorem c_mute_post (hI : c_IP n P) {h : ab_H} {w : Nat} {x deep : Int32} (hp : c_pre n h w x) : c_post n h (c_mute P h w x deep) := by
  have R := hI h w x deep hp
  unfold c_mute
  split
  · exact R
  · exact c_post_way R c_kw0 (fun _ => rfl)
theorem c_if_post (hI : c_IP n P) {h : ab_H} {w : Nat} {x deep : Int32} (hp : c_pre n h w x) (hx : vp_in x 60) : c_post n h (c_if P h w x deep) := by
  unfold c_if
  split
  · split
    · exact hI _ _ _ _ ⟨hp.1, hp.2.1, Or.inr (c_pe hp.1 hp.2.1 hx), hp.2.2.2⟩
    · exact c_post_sm hp.2.2.2 hp.1 (c_sm_rf h) c_kw0 (fun _ => rfl)
  · exact hI _ _ _ _ hp
theorem c_call_post (hI : c_IP n P) {h : ab_H} {a b deep : Int32} (hi : c_inv h) (hc : c_cost n h) (hb : vp_in b 8) : c_post n h (c_call P h a b deep) := by
  have F : c_post n h (4, 7, h) := c_post_sm hc hi (c_sm_rf h) (Or.inr (Or.inr (Or.inr (Or.inr (Or.inl rfl))))) (fun z => absurd z (by decide))
  unfold c_call
  split
  · split
    · have R := hI h b.toNatClampNeg (-1) (deep + 1) ⟨hi, vp_lt hb, Or.inl rfl, hc⟩
      split
      · exact R
      · refine ⟨c_inv_4 R.1, c_kw0, fun _ => rfl, fun i hi => (ab_up_ne (by omega)).trans (R.2.2.2.1 i hi), ?_, c_cost_up (by omega) R.2.2.2.2.2⟩
        refine Eq.trans ?_ R.2.2.2.2.1
        dsimp only
        rw [ab_up_ne (by omega)]
    · exact F
  · exact F
end CPO
