/-! the law: from its entry to its end -/
section LWX
variable {p : Program} {e : Env} {s : State} {m : MethodId} {below : List Frame} {meth : Method} {c : Code}
set_option maxRecDepth 100000 in
set_option maxHeartbeats 1000000 in
theorem whole_start (l : Launch) (hl9 : l.stackTraces = false) {b L : Nat} {xs : Nat → Int32} (hL : L ≤ 320) (C0 : lw_At p s m meth c b L xs) : W p l e room_1 s m #[Value.ref b] below meth c s.heap [] 0 0 (lw_Z below #[Value.ref b] s) (entryFrame m ([Value.ref b] : List Value).toArray 7) := by
  obtain ⟨hx, hb, hr, hml, hown, hts0, hXs, hbl, hlk, hgv⟩ := C0
  have hts : ∀ w ∈ ab_all, w.before #[Value.ref b] s = true := fun w h => hts0 w (ab_all_in h)
  obtain ⟨hX, hNc, hN⟩ := ag_start hts0 (flat_of_before _ hgv)
  obtain ⟨dC, dI, cI, cW, cJ, hK⟩ := lw_known hts0
  have hK2 : va_K (dC, dI) vwCl (ab_tys cI cW) s := hK.sub [0, 1] rfl
  have X : lw_K dC dI cI cW cJ p s m #[Value.ref b] meth c b L xs := ⟨hx, hb, hml, hown, hts, hK, hX, hNc, hXs, hbl⟩
  have hl := lv_entry ([.ref b] : List Value) (n := 7) (Nat.le_of_ble_eq_true rfl)
  rw [lg_entry_eq]
  generalize (lg_sl ([Value.ref b] : List Value) ++ List.replicate (7 - (lg_sl ([Value.ref b] : List Value)).length) Slot.unset).toArray = ls at hl ⊢
  refine lw_new3 hx hb hml hown hts hK2 hN hl.1 (fun aC H2 locs2 hP2 hD2 hS2 => ?_)
  refine lv_astore_n hx hb dL_law_7 rfl hl (by decide) rfl (fun ls1 hl1 => ?_)
  refine cn_makeP (d := 1) (own := RL) (ws := ab_w layC cI cW aC c_h0) (A := lw_A s.heap.size) (H0 := s.heap) hx hb hml hown hts hK2 (fun q h => h) cN4 cM4 (by decide) cK4 (kn4 (d := 0)) hP2 (hD2.to cI cW c_h0) hS2 hl1.1 (Nat.le_of_ble_eq_true rfl) (by decide) (by decide) (by decide) (by decide) dL_law_8 dL_law_11 dL_law_12 (fun q qs H3 locs3 hP3 hD3 hS3 => ?_)
  refine lv_astore_n hx hb dL_law_15 rfl hl1 (by decide) rfl (fun ls2 hl2 => ?_)
  refine lv_iconst hx hb dL_law_16 (v := 1) (by decide) ?_
  refine va_newa (atype := .long) (a0 := (1, .inr (.inl (fun _ => 0)))) hx hb (hts _ cn_al) rfl hK hP3 hD3 hS3 (fun q h => h) (fun _ => rfl) (by decide) (N' := 1) (by decide) (by decide) (by decide) (by decide) dL_law_17 (fun o cA H4 hK4 hP4 hD4 hS4 => ?_)
  have eJ := va_K.oneL (i := 2) hK4 rfl
  subst eJ
  refine lv_astore_n hx hb dL_law_19 rfl hl2 (by decide) rfl (fun ls3 hl3 => ?_)
  refine lv_iconst hx hb dL_law_20 (v := 0) (by decide) ?_
  refine lv_istore hx hb dL_law_21 hl3 (by decide) rfl (fun ls4 hl4 => ?_)
  have lenC : (ab_w layC cI cW aC c_h0).length = 78 := by
    unfold ab_w
    rw [List.length_mapIdx]
    rfl
  have atC : ∀ i, i < layC.length → ∃ z, ((ab_w layC cI cW aC c_h0 ++ cn_w4 cI q qs) ++ [(o, .inl (cA, (1, .inr (.inl (fun _ => 0)))))])[i]? = some (aC i, z) := fun i hi => by
    refine ⟨ab_e cI cW aC (c_h0 i) (layC[i]), ?_⟩
    rw [List.getElem?_append_left (by rw [List.length_append, lenC]; rw [layC_len] at hi; omega), List.getElem?_append_left (by rw [lenC]; rw [layC_len] at hi; exact hi)]
    exact ab_w_at (List.getElem?_eq_getElem hi)
  have atM : ∀ j, j < layM.length → ∃ z, ((ab_w layC cI cW aC c_h0 ++ cn_w4 cI q qs) ++ [(o, .inl (cA, (1, .inr (.inl (fun _ => 0)))))])[78 + j]? = some (cn_adM q qs j, z) := fun j hj => by
    rw [layM_len] at hj
    obtain ⟨en, -, e2⟩ := cn_isM (cI := cI) (cW := cW) (o := q) (q := qs) j hj
    refine ⟨ab_e cI cW (cn_adM q qs) (m_h0 j) en, ?_⟩
    rw [List.getElem?_append_left (by rw [List.length_append, lenC]; show 78 + j < 78 + 26; omega), List.getElem?_append_right (by rw [lenC]; omega), lenC, Nat.add_sub_cancel_left]
    exact e2
  have atO : ((ab_w layC cI cW aC c_h0 ++ cn_w4 cI q qs) ++ [(o, .inl (cA, (1, .inr (.inl (fun _ => 0)))))])[104]? = some (o, .inl (cA, (1, .inr (.inl (fun _ => 0))))) := by
    rw [List.getElem?_append_right (by rw [List.length_append, lenC]; show 78 + 26 ≤ 104; omega), List.length_append, lenC]
    rfl
  have G : lw_G s.heap.size aC (cn_adM q qs) o := by
    refine ⟨hD2, ⟨fun i j hi hj e => ?_, fun i hi => ?_⟩, hD4.2 _ _ atO, fun i hi e => ?_, fun j hj e => ?_, fun i j hi hj e => ?_⟩
    · obtain ⟨z1, h1⟩ := atM i hi
      obtain ⟨z2, h2⟩ := atM j hj
      have := hD4.1 _ _ _ _ h1 h2 e
      omega
    · obtain ⟨z1, h1⟩ := atM i hi
      exact hD4.2 _ _ h1
    · obtain ⟨z1, h1⟩ := atC i hi
      have := hD4.1 _ _ _ _ atO h1 e
      rw [layC_len] at hi
      omega
    · obtain ⟨z1, h1⟩ := atM j hj
      have := hD4.1 _ _ _ _ atO h1 e
      rw [layM_len] at hj
      omega
    · obtain ⟨z1, h1⟩ := atC i hi
      obtain ⟨z2, h2⟩ := atM j hj
      have := hD4.1 _ _ _ _ h2 h1 e
      rw [layC_len] at hi
      omega
  have V : lw_V dC dI cI cW cA aC (cn_adM q qs) o c_h0 m_h0 (fun _ => 0) H4 := by
    refine ⟨fun k x hx => ?_, cn_finM (cI := cI) (cW := cW) fun k x hx => ?_, fun k x hx => ?_⟩
    · have hk := (List.getElem?_eq_some_iff.mp hx).1
      exact hP4 k x (by rw [List.getElem?_append_left (by rw [List.length_append]; omega), List.getElem?_append_left hk]; exact hx)
    · have hk := (List.getElem?_eq_some_iff.mp hx).1
      exact hP4 (78 + k) x (by rw [List.getElem?_append_left (by rw [List.length_append, lenC]; omega), List.getElem?_append_right (by rw [lenC]; omega), lenC, Nat.add_sub_cancel_left]; exact hx)
    · obtain ⟨hk, e⟩ := List.getElem?_eq_some_iff.mp hx
      have : k = 0 := by simp only [lw_out, List.length_cons, List.length_nil] at hk; omega
      subst this
      exact hP4 104 x (by rw [atO]; exact hx)
  exact lw_loop hl9 X G hr hlk hL 65 0 c_h0 m_h0 (fun _ => 0) H4 locs3 ls4 rfl s_Y0 V hS4 (lv_sub hl4 [4, 3, 2, 1, 0] rfl)
end LWX
