/-! a NODE more, in the class's rows -/
def y_A (h : ab_H) (w z : Nat) (s a b : Int32) : ab_H := ab_up (ab_up (ab_up (ab_up (ab_up (ab_up h (8 * w + 15) z s) (8 * w + 16) z a) (8 * w + 17) z b) (8 * w + 18) z (nI z)) (8 * w + 19) z (nI z)) (8 * w + 14) 8 (nI (z + 1))
section YA
variable {h : ab_H} {w z : Nat} {s a b : Int32}
theorem c_app0_eq (h8 : h (8 * w + 14) 8 = nI z) (hz : z < 60) : c_app0 h w s a b = y_A h w z s a b := by
  unfold c_app0 y_A
  rw [h8, nI_clamp (by omega), nI_1]
theorem y_A_15 : y_A h w z s a b (8 * w + 15) = upd (h (8 * w + 15)) z s := by
  unfold y_A
  rw [ab_up_ne (by omega), ab_up_ne (by omega), ab_up_ne (by omega), ab_up_ne (by omega), ab_up_ne (by omega), ab_up_eq]
theorem y_A_16 : y_A h w z s a b (8 * w + 16) = upd (h (8 * w + 16)) z a := by
  unfold y_A
  rw [ab_up_ne (by omega), ab_up_ne (by omega), ab_up_ne (by omega), ab_up_ne (by omega), ab_up_eq, ab_up_ne (by omega)]
theorem y_A_17 : y_A h w z s a b (8 * w + 17) = upd (h (8 * w + 17)) z b := by
  unfold y_A
  rw [ab_up_ne (by omega), ab_up_ne (by omega), ab_up_ne (by omega), ab_up_eq, ab_up_ne (by omega), ab_up_ne (by omega)]
theorem y_A_18 : y_A h w z s a b (8 * w + 18) = upd (h (8 * w + 18)) z (nI z) := by
  unfold y_A
  rw [ab_up_ne (by omega), ab_up_ne (by omega), ab_up_eq, ab_up_ne (by omega), ab_up_ne (by omega), ab_up_ne (by omega)]
theorem y_A_19 : y_A h w z s a b (8 * w + 19) = upd (h (8 * w + 19)) z (nI z) := by
  unfold y_A
  rw [ab_up_ne (by omega), ab_up_eq, ab_up_ne (by omega), ab_up_ne (by omega), ab_up_ne (by omega), ab_up_ne (by omega)]
theorem y_A_14 : y_A h w z s a b (8 * w + 14) = upd (h (8 * w + 14)) 8 (nI (z + 1)) := by
  unfold y_A
  rw [ab_up_eq, ab_up_ne (by omega), ab_up_ne (by omega), ab_up_ne (by omega), ab_up_ne (by omega), ab_up_ne (by omega)]
theorem y_A_ne {j : Nat} (hj : j < 8 * w + 14 ∨ 8 * w + 19 < j) : y_A h w z s a b j = h j := by
  unfold y_A
  rw [ab_up_ne (by omega), ab_up_ne (by omega), ab_up_ne (by omega), ab_up_ne (by omega), ab_up_ne (by omega), ab_up_ne (by omega)]
theorem y_A_7 : y_A h w z s a b (8 * w + 14) 7 = h (8 * w + 14) 7 := by
  rw [y_A_14]
  rfl
/-- what a workflow has behind a NODE more -/
def y_R (h h' : ab_H) (w z : Nat) (s a b : Int32) : Prop := h' (8 * w + 14) 8 = nI (z + 1) ∧ h' (8 * w + 14) 7 = nI (z_D (h' (8 * w + 15)) (z + 1)) ∧ h' (8 * w + 15) = upd (h (8 * w + 15)) z s ∧ h' (8 * w + 16) = upd (h (8 * w + 16)) z a ∧ h' (8 * w + 17) = upd (h (8 * w + 17)) z b ∧
  z_I (h' (8 * w + 15)) (h' (8 * w + 17)) (h' (8 * w + 18)) (h' (8 * w + 19)) (z + 1) ∧ y_st (h' (8 * w + 20)) (h' (8 * w + 21)) (z_sk (h' (8 * w + 15)) (z + 1)) ∧ z_D (h' (8 * w + 15)) (z + 1) ≤ 10 ∧ (∀ j, j < 8 * w + 14 ∨ 8 * w + 21 < j → h' j = h j) ∧
  ∀ i, i < 60 → (vp_in (h (8 * w + 18) i) 60 → vp_in (h' (8 * w + 18) i) 60) ∧ (vp_in (h (8 * w + 19) i) 60 → vp_in (h' (8 * w + 19) i) 60)
theorem vp_upd {f : Nat → Int32} {k i n : Nat} {v : Int32} (hv : vp_in v n) (hf : vp_in (f i) n) : vp_in (upd f k v i) n := by
  unfold upd
  split
  · exact hv
  · exact hf
theorem s_app (I : z_I (h (8 * w + 15)) (h (8 * w + 17)) (h (8 * w + 18)) (h (8 * w + 19)) z) (h8 : h (8 * w + 14) 8 = nI z) (h7 : h (8 * w + 14) 7 = nI (z_D (h (8 * w + 15)) z)) (hz : z < 60) (Y : y_st (h (8 * w + 20)) (h (8 * w + 21)) (z_sk (h (8 * w + 15)) z)) (hD : z_D (h (8 * w + 15)) z ≤ 10)
    (al : z_al (h (8 * w + 15)) z s b) (hop : m_opens s = true → z_D (h (8 * w + 15)) z < 10) : y_R h (c_app h w s a b) w z s a b := by
  have ok := I.1
  have inz : vp_in (nI z) 60 := vp_in_nI hz (by omega)
  have es : z_sk (upd (h (8 * w + 15)) z s) z = z_sk (h (8 * w + 15)) z := z_sk_eq z fun i hi => pk_un (by omega)
  have I0 : ¬ s = 16 → m_part s = false → z_I (upd (h (8 * w + 15)) z s) (upd (h (8 * w + 17)) z b) (upd (h (8 * w + 18)) z (nI z)) (upd (h (8 * w + 19)) z (nI z)) (z + 1) := fun n16 np =>
    z_I_app I hz (fun i hi => pk_un (by omega)) (fun i hi => pk_un (by omega)) (by rw [pk_us, pk_us]; exact al) (fun _ => pk_us) (fun q => by rw [pk_us] at q; exact absurd q n16) (fun i hi _ => pk_un (by omega)) (fun q => by rw [pk_us, np] at q; cases q) (fun p hp _ => pk_un (by omega))
  by_cases cop : s = 10 ∨ s = 13 ∨ s = 14 ∨ s = 15 ∨ s = 21
  · have ho := z_op.mpr cop
    have hd := hop ho
    have n16 : ¬ s = 16 := fun e => by rw [e] at ho; exact absurd ho (by decide)
    have e : c_app h w s a b = ab_up (ab_up (ab_up (y_A h w z s a b) (8 * w + 20) (z_D (h (8 * w + 15)) z) (nI z)) (8 * w + 21) (z_D (h (8 * w + 15)) z) (nI z)) (8 * w + 14) 7 (nI (z_D (h (8 * w + 15)) z + 1)) := by
      unfold c_app
      rw [if_pos cop, c_app0_eq h8 hz, h8]
      unfold c_openAt
      rw [y_A_7, h7, if_neg (show ¬ (10 : Int32) ≤ nI (z_D (h (8 * w + 15)) z) from fun q => absurd ((nI_leI (a := 10) (b := z_D (h (8 * w + 15)) z) (by omega) (by omega)).mp q) (by omega)), nI_clamp (by omega), nI_1]
    have e15 : c_app h w s a b (8 * w + 15) = upd (h (8 * w + 15)) z s := by rw [e, ab_up_ne (by omega), ab_up_ne (by omega), ab_up_ne (by omega), y_A_15]
    have e17 : c_app h w s a b (8 * w + 17) = upd (h (8 * w + 17)) z b := by rw [e, ab_up_ne (by omega), ab_up_ne (by omega), ab_up_ne (by omega), y_A_17]
    have e18 : c_app h w s a b (8 * w + 18) = upd (h (8 * w + 18)) z (nI z) := by rw [e, ab_up_ne (by omega), ab_up_ne (by omega), ab_up_ne (by omega), y_A_18]
    have e19 : c_app h w s a b (8 * w + 19) = upd (h (8 * w + 19)) z (nI z) := by rw [e, ab_up_ne (by omega), ab_up_ne (by omega), ab_up_ne (by omega), y_A_19]
    have e20 : c_app h w s a b (8 * w + 20) = upd (h (8 * w + 20)) (z_D (h (8 * w + 15)) z) (nI z) := by rw [e, ab_up_ne (by omega), ab_up_ne (by omega), ab_up_eq, y_A_ne (by omega)]
    have e21 : c_app h w s a b (8 * w + 21) = upd (h (8 * w + 21)) (z_D (h (8 * w + 15)) z) (nI z) := by rw [e, ab_up_ne (by omega), ab_up_eq, ab_up_ne (by omega), y_A_ne (by omega)]
    have sk : z_sk (upd (h (8 * w + 15)) z s) (z + 1) = (z, z) :: z_sk (h (8 * w + 15)) z := by rw [z_sk, pk_us, if_pos ho, es]
    have d1 : z_D (upd (h (8 * w + 15)) z s) (z + 1) = z_D (h (8 * w + 15)) z + 1 := by unfold z_D; rw [sk]; rfl
    refine ⟨?_, ?_, e15, ?_, e17, ?_, ?_, ?_, fun j hj => ?_, fun i hi => ⟨fun q => ?_, fun q => ?_⟩⟩
    · rw [e, ab_up_eq, ab_up_ne (by omega), ab_up_ne (by omega), y_A_14]; rfl
    · rw [e15, d1, e, ab_up_eq, pk_us]
    · rw [e, ab_up_ne (by omega), ab_up_ne (by omega), ab_up_ne (by omega), y_A_16]
    · rw [e15, e17, e18, e19]
      exact I0 n16 (z_opf ho)
    · rw [e15, e20, e21, sk]
      exact ⟨pk_us, pk_us, y_st_ne (fun j hj => ⟨pk_un (Nat.ne_of_lt hj), pk_un (Nat.ne_of_lt hj)⟩) Y⟩
    · rw [e15, d1]; omega
    · rw [e, ab_up_ne (by omega), ab_up_ne (by omega), ab_up_ne (by omega), y_A_ne (by omega)]
    · rw [e18]; exact vp_upd inz q
    · rw [e19]; exact vp_upd inz q
  have hno : ¬ m_opens s = true := fun q => cop (z_op.mp q)
  have hnf : m_opens s = false := by
    cases q : m_opens s with
    | false => rfl
    | true => exact absurd q hno
  by_cases cpt : s = 11 ∨ s = 12 ∨ s = 22
  · obtain ⟨b0, p0, L, sk0, nx⟩ := al.2.1 cpt
    have hm := z_mem ok (x := (b0, p0)) (by rw [sk0]; exact List.mem_cons_self)
    simp only at hm
    have n16 : ¬ s = 16 := fun e => by rw [e] at cpt; revert cpt; decide
    have hp : m_part s = true := z_pt.mpr (by rcases cpt with q | q | q <;> simp [q])
    have d0 : z_D (h (8 * w + 15)) z = L.length + 1 := by unfold z_D; rw [sk0]; rfl
    rw [sk0] at Y
    rw [d0] at h7 hD
    have e : c_app h w s a b = ab_up (ab_up (y_A h w z s a b) (8 * w + 18) p0 (nI z)) (8 * w + 21) L.length (nI z) := by
      unfold c_app
      rw [if_neg cop, if_pos cpt, c_app0_eq h8 hz, h8]
      unfold c_partAt
      rw [y_A_7, h7, if_neg (nI_nle (by omega) (by omega)), nI_pred, nI_clamp (by omega), y_A_ne (by omega), Y.2.1, nI_clamp (by omega)]
    have e15 : c_app h w s a b (8 * w + 15) = upd (h (8 * w + 15)) z s := by rw [e, ab_up_ne (by omega), ab_up_ne (by omega), y_A_15]
    have e17 : c_app h w s a b (8 * w + 17) = upd (h (8 * w + 17)) z b := by rw [e, ab_up_ne (by omega), ab_up_ne (by omega), y_A_17]
    have e18 : c_app h w s a b (8 * w + 18) = upd (upd (h (8 * w + 18)) z (nI z)) p0 (nI z) := by rw [e, ab_up_ne (by omega), ab_up_eq, y_A_18]
    have e19 : c_app h w s a b (8 * w + 19) = upd (h (8 * w + 19)) z (nI z) := by rw [e, ab_up_ne (by omega), ab_up_ne (by omega), y_A_19]
    have e20 : c_app h w s a b (8 * w + 20) = h (8 * w + 20) := by rw [e, ab_up_ne (by omega), ab_up_ne (by omega), y_A_ne (by omega)]
    have e21 : c_app h w s a b (8 * w + 21) = upd (h (8 * w + 21)) L.length (nI z) := by rw [e, ab_up_eq, ab_up_ne (by omega), y_A_ne (by omega)]
    have sk : z_sk (upd (h (8 * w + 15)) z s) (z + 1) = (b0, z) :: L := by rw [z_sk, pk_us, if_neg hno, if_neg n16, if_pos cpt, es, sk0]
    have d1 : z_D (upd (h (8 * w + 15)) z s) (z + 1) = L.length + 1 := by unfold z_D; rw [sk]; rfl
    refine ⟨?_, ?_, e15, ?_, e17, ?_, ?_, ?_, fun j hj => ?_, fun i hi => ⟨fun q => ?_, fun q => ?_⟩⟩
    · rw [e, ab_up_ne (by omega), ab_up_ne (by omega), y_A_14]; rfl
    · rw [e15, d1, e, ab_up_ne (by omega), ab_up_ne (by omega), y_A_7, h7]
    · rw [e, ab_up_ne (by omega), ab_up_ne (by omega), y_A_16]
    · rw [e15, e17, e18, e19]
      refine z_I_app I hz (fun i hi => pk_un (by omega)) (fun i hi => pk_un (by omega)) (by rw [pk_us, pk_us]; exact al) (fun _ => pk_us) (fun q => by rw [pk_us] at q; exact absurd q n16) (fun i hi _ => pk_un (by omega)) (fun _ x L' q => ?_) (fun p hp2 q => ?_)
      · rw [sk0] at q
        simp only [List.cons.injEq] at q
        rw [← q.1]
        exact pk_us
      · have hne := q (by rw [pk_us]; exact hp) _ _ sk0
        rw [pk_un hne, pk_un (by omega)]
    · rw [e15, e20, e21, sk]
      exact ⟨Y.1, pk_us, y_st_ne (fun j hj => ⟨rfl, pk_un (Nat.ne_of_lt hj)⟩) Y.2.2⟩
    · rw [e15, d1]; omega
    · rw [e, ab_up_ne (by omega), ab_up_ne (by omega), y_A_ne (by omega)]
    · rw [e18]; exact vp_upd inz (vp_upd inz q)
    · rw [e19]; exact vp_upd inz q
  by_cases c16 : s = 16
  · obtain ⟨⟨b0, p0⟩, L, sk0⟩ := al.1 c16
    have hm := z_mem ok (x := (b0, p0)) (by rw [sk0]; exact List.mem_cons_self)
    simp only at hm
    have hp : m_part s = true := z_pt.mpr (Or.inr (Or.inr (Or.inr c16)))
    have d0 : z_D (h (8 * w + 15)) z = L.length + 1 := by unfold z_D; rw [sk0]; rfl
    rw [sk0] at Y
    rw [d0] at h7 hD
    have e : c_app h w s a b = ab_up (ab_up (ab_up (y_A h w z s a b) (8 * w + 14) 7 (nI L.length)) (8 * w + 18) p0 (nI z)) (8 * w + 19) b0 (nI z) := by
      unfold c_app
      rw [if_neg cop, if_neg cpt, if_pos c16, c_app0_eq h8 hz, h8]
      unfold c_closeAt
      rw [y_A_7, h7, if_neg (nI_nle (by omega) (by omega)), nI_pred, nI_clamp (by omega), y_A_ne (j := 8 * w + 21) (by omega), y_A_ne (j := 8 * w + 20) (by omega), Y.2.1, Y.1, nI_clamp (by omega), nI_clamp (by omega)]
    have e15 : c_app h w s a b (8 * w + 15) = upd (h (8 * w + 15)) z s := by rw [e, ab_up_ne (by omega), ab_up_ne (by omega), ab_up_ne (by omega), y_A_15]
    have e17 : c_app h w s a b (8 * w + 17) = upd (h (8 * w + 17)) z b := by rw [e, ab_up_ne (by omega), ab_up_ne (by omega), ab_up_ne (by omega), y_A_17]
    have e18 : c_app h w s a b (8 * w + 18) = upd (upd (h (8 * w + 18)) z (nI z)) p0 (nI z) := by rw [e, ab_up_ne (by omega), ab_up_eq, ab_up_ne (by omega), y_A_18]
    have e19 : c_app h w s a b (8 * w + 19) = upd (upd (h (8 * w + 19)) z (nI z)) b0 (nI z) := by rw [e, ab_up_eq, ab_up_ne (by omega), ab_up_ne (by omega), y_A_19]
    have e20 : c_app h w s a b (8 * w + 20) = h (8 * w + 20) := by rw [e, ab_up_ne (by omega), ab_up_ne (by omega), ab_up_ne (by omega), y_A_ne (by omega)]
    have e21 : c_app h w s a b (8 * w + 21) = h (8 * w + 21) := by rw [e, ab_up_ne (by omega), ab_up_ne (by omega), ab_up_ne (by omega), y_A_ne (by omega)]
    have sk : z_sk (upd (h (8 * w + 15)) z s) (z + 1) = L := by rw [z_sk, pk_us, if_neg hno, if_pos c16, es, sk0]; rfl
    have d1 : z_D (upd (h (8 * w + 15)) z s) (z + 1) = L.length := by unfold z_D; rw [sk]
    refine ⟨?_, ?_, e15, ?_, e17, ?_, ?_, ?_, fun j hj => ?_, fun i hi => ⟨fun q => ?_, fun q => ?_⟩⟩
    · rw [e, ab_up_ne (by omega), ab_up_ne (by omega), ab_up_eq, y_A_14]; rfl
    · rw [e15, d1, e, ab_up_ne (by omega), ab_up_ne (by omega), ab_up_eq, pk_us]
    · rw [e, ab_up_ne (by omega), ab_up_ne (by omega), ab_up_ne (by omega), y_A_16]
    · rw [e15, e17, e18, e19]
      refine z_I_app I hz (fun i hi => pk_un (by omega)) (fun i hi => pk_un (by omega)) (by rw [pk_us, pk_us]; exact al) (fun _ => ?_) (fun _ x L' q => ?_) (fun i hi q => ?_) (fun _ x L' q => ?_) (fun p hp2 q => ?_)
      · rw [pk_un (by omega), pk_us]
      · rw [sk0] at q
        simp only [List.cons.injEq] at q
        rw [← q.1]
        exact pk_us
      · have hne := q (by rw [pk_us]; exact c16) _ _ sk0
        rw [pk_un hne, pk_un (by omega)]
      · rw [sk0] at q
        simp only [List.cons.injEq] at q
        rw [← q.1]
        exact pk_us
      · have hne := q (by rw [pk_us]; exact hp) _ _ sk0
        rw [pk_un hne, pk_un (by omega)]
    · rw [e15, e20, e21, sk]
      exact Y.2.2
    · rw [e15, d1]; omega
    · rw [e, ab_up_ne (by omega), ab_up_ne (by omega), ab_up_ne (by omega), y_A_ne (by omega)]
    · rw [e18]; exact vp_upd inz (vp_upd inz q)
    · rw [e19]; exact vp_upd inz (vp_upd inz q)
  · have np : m_part s = false := z_pf.mpr ⟨fun q => cpt (Or.inl q), fun q => cpt (Or.inr (Or.inl q)), fun q => cpt (Or.inr (Or.inr q)), c16⟩
    have e : c_app h w s a b = y_A h w z s a b := by
      unfold c_app
      rw [if_neg cop, if_neg cpt, if_neg c16, c_app0_eq h8 hz]
    have sk : z_sk (upd (h (8 * w + 15)) z s) (z + 1) = z_sk (h (8 * w + 15)) z := by rw [z_sk, pk_us, if_neg hno, if_neg c16, if_neg cpt, es]
    have d1 : z_D (upd (h (8 * w + 15)) z s) (z + 1) = z_D (h (8 * w + 15)) z := by unfold z_D; rw [sk]
    unfold y_R
    rw [e, y_A_15, y_A_16, y_A_17, y_A_18, y_A_19, y_A_7, y_A_14, y_A_ne (j := 8 * w + 20) (by omega), y_A_ne (j := 8 * w + 21) (by omega), sk, d1]
    exact ⟨pk_us, h7, rfl, rfl, rfl, I0 c16 np, Y, hD, fun j hj => y_A_ne (by omega), fun i hi => ⟨vp_upd inz, vp_upd inz⟩⟩
end YA
