/-! the law's other cases -/
section LC2
variable {p : Program} {l : Launch} {e : Env} {s : State} {m : MethodId} {args : Array Value} {below : List Frame} {meth : Method} {c : Code} {H : Heap} {locs : List Loc} {cells slots : Nat} {Q : State → Prop}
variable {dC : Nat → ClassId} {dI : Nat → Nat → Nat} {cI cW cJ : ClassId} {aC aM : Nat → Nat} {o b L : Nat} {xs : Nat → Int32} {h g : ab_H} {f : Nat → Int64} {ls : Array Slot} {k : Nat}
theorem lr_c {h h' : ab_H} {w kk : Int32} {f' : Nat → Int64} (hp : lw_pv (fun h' => c_clearX w = 0 ∧ h' = c_clearH h w) (fun E h' => E = xI ∧ c_clearX w = 1 ∧ h' = h) kk h' f') : kk = nI (c_clearX w) ∧ h' = c_clearH h w := by
  rcases hp with ⟨e, q1, q2⟩ | ⟨e, -, q1, q2⟩ | ⟨-, q, -⟩
  · rw [q1, e]
    exact ⟨rfl, q2⟩
  · rw [q1, e, q2]
    refine ⟨rfl, ?_⟩
    unfold c_clearX at q1
    unfold c_clearH
    split
    · next c => rw [if_pos c] at q1; exact absurd q1 (by decide)
    · rfl
  · exact absurd q.symm xIS
set_option maxRecDepth 100000 in
set_option maxHeartbeats 1000000 in
theorem lw_clear (hl9 : l.stackTraces = false) (X : lw_K dC dI cI cW cJ p s m args meth c b L xs) (G : lw_G s.heap.size aC aM o) (Y : s_Y h g) (hL : L ≤ 320) (hk5 : 5 * k + 5 ≤ L) (V : lw_V dC dI cI cW cJ aC aM o h g f H) (hS : va_S (lw_A s.heap.size) s.heap H locs) (hl : lv_has ls 7 (lw_ls aC aM o b (nI (5 * k)))) (hR : lw_cs cells slots) (kont : lw_kont p l e s m args below meth c cells slots Q dC dI cI cW cJ aC aM o b k) : W p l e room_1 s m args below meth c H locs cells slots Q (F0 m 176 ls []) := by
  have hx := X.1
  have hb := X.2.1
  refine lv_aload_n hx hb dL_law_176 rfl (lv_at hl 1 rfl) ?_
  refine lw_arg (dd := 1) X hS hl (Or.inl rfl) (List.mem_of_getElem? (i := 4) rfl) (by omega) hL rfl dL_law_177 dL_law_178 dL_law_180 dL_law_181 dL_law_182 ?_
  obtain ⟨f1x, f3x⟩ := s_clearY Y (xs (5 * k + 1))
  refine lw_callW (d := 9) (K := 1) (W9 := 6) (As := [.ref (aC 0), .int (xs (5 * k + 1))]) (rest := []) X G V hS hl.1 (by decide) (by decide) (show cells + 1 ≤ room_1.cells by have := hR.1; omega) (show slots + 6 ≤ room_1.slots by have := hR.2; omega) dL_law_183 mwL_clear rfl (Nat.le_of_ble_eq_true rfl) (wL_clear (d := 8) (kX3_clear (d := 0) hl9) (fun E h' q => q.1)) (fun kk h1 f1 H1 locs1 hp V1 hS1 => ?_)
  obtain ⟨r1, r2⟩ := lr_c hp
  rw [r2] at V1
  refine lv_istore hx hb dL_law_186 hl (by decide) rfl (fun ls1 hl1 => ?_)
  refine lv_aload_n hx hb dL_law_188 rfl (lv_at hl1 3 rfl) ?_
  refine lw_arg (dd := 1) X hS1 hl1 (Or.inr (List.mem_of_getElem? (i := 1) rfl)) (List.mem_of_getElem? (i := 5) rfl) (by omega) hL rfl dL_law_189 dL_law_190 dL_law_192 dL_law_193 dL_law_194 ?_
  refine lw_callM (d := 1) (As := [ab_I (xs (5 * k + 1))]) (rest := []) X G V1 hS1 hl1.1 ⟨by decide, by decide, by have := hR.1; omega, by have := hR.2; omega⟩ dL_law_195 mvM_51 rfl (Nat.le_of_ble_eq_true rfl) (kX4_clear (d := 0)) (fun v2 g2 H2 locs2 hq V2 hS2 => ?_)
  obtain ⟨rfl, hg2⟩ := hq
  replace V2 : lw_V dC dI cI cW cJ aC aM o (c_clearH h (xs (5 * k + 1))) (m_clearH g (xs (5 * k + 1))) f1 H2 := by rw [hg2] at V2; exact V2
  refine lv_aload_n hx hb dL_law_198 rfl (lv_at hl1 3 rfl) ?_
  refine lw_callM (d := 0) (As := []) (rest := []) X G V2 hS2 hl1.1 ⟨by decide, by decide, by have := hR.1; omega, by have := hR.2; omega⟩ dL_law_199 mvM_44 rfl (Nat.le_of_ble_eq_true rfl) kX4_thrown (fun v3 g3 H3 locs3 hq V3 hS3 => ?_)
  obtain ⟨r, rfl, hr, hg3⟩ := hq
  rw [hg3] at V3
  rw [hr, f1x]
  refine lv_iload hx hb dL_law_202 (lv_at hl1 0 rfl) ?_
  refine lv_icmp_eq hx hb dL_law_204 (tgt := 209) (by decide) (fun _ => ?_) (fun q => absurd r1.symm q)
  refine lv_goto hx hb dL_law_209 (tgt := 474) (by decide) ?_
  exact W.widen (by omega) (by omega) (kont _ _ _ H3 locs3 ls1 f3x V3 hS3 (lv_sub hl1 [1, 2, 3, 4, 5] rfl))
set_option maxRecDepth 100000 in
set_option maxHeartbeats 1000000 in
theorem lw_given (X : lw_K dC dI cI cW cJ p s m args meth c b L xs) (G : lw_G s.heap.size aC aM o) (Y : s_Y h g) (V : lw_V dC dI cI cW cJ aC aM o h g f H) (hS : va_S (lw_A s.heap.size) s.heap H locs) (hl : lv_has ls 7 (lw_ls aC aM o b (nI (5 * k)))) (hR : lw_cs cells slots) (kont : lw_kont p l e s m args below meth c cells slots Q dC dI cI cW cJ aC aM o b k) : W p l e room_1 s m args below meth c H locs cells slots Q (F0 m 268 ls []) := by
  have hx := X.1
  have hb := X.2.1
  refine lv_aload_n hx hb dL_law_268 rfl (lv_at hl 1 rfl) ?_
  refine lw_callC (d := 0) (As := []) (rest := []) X G V hS hl.1 ⟨by decide, by decide, by have := hR.1; omega, by have := hR.2; omega⟩ dL_law_269 mvK_56 rfl (Nat.le_of_ble_eq_true rfl) kX3_given (fun v1 h1 H1 locs1 hq V1 hS1 => ?_)
  obtain ⟨r1, rfl, hr1, hh1⟩ := hq
  rw [hh1] at V1
  refine lv_aload_n hx hb dL_law_272 rfl (lv_at hl 2 rfl) ?_
  refine lw_callM (d := 0) (As := []) (rest := [.int r1]) X G V1 hS1 hl.1 ⟨by decide, by decide, by have := hR.1; omega, by have := hR.2; omega⟩ dL_law_273 mvM_59 rfl (Nat.le_of_ble_eq_true rfl) kX4_given (fun v2 g2 H2 locs2 hq V2 hS2 => ?_)
  obtain ⟨r2, rfl, hr2, hg2⟩ := hq
  rw [hg2] at V2
  refine lv_icmp_eq hx hb dL_law_276 (tgt := 474) (by decide) (fun _ => ?_) (fun q => absurd (by rw [hr1, hr2]; exact s_givY Y) q)
  exact W.widen (by omega) (by omega) (kont _ _ _ H2 locs2 ls (s_Y_z Y 0) V2 hS2 hl)
set_option maxRecDepth 100000 in
set_option maxHeartbeats 1000000 in
theorem lw_count (X : lw_K dC dI cI cW cJ p s m args meth c b L xs) (G : lw_G s.heap.size aC aM o) (Y : s_Y h g) (hL : L ≤ 320) (hk5 : 5 * k + 5 ≤ L) (V : lw_V dC dI cI cW cJ aC aM o h g f H) (hS : va_S (lw_A s.heap.size) s.heap H locs) (hl : lv_has ls 7 (lw_ls aC aM o b (nI (5 * k)))) (hR : lw_cs cells slots) (kont : lw_kont p l e s m args below meth c cells slots Q dC dI cI cW cJ aC aM o b k) : W p l e room_1 s m args below meth c H locs cells slots Q (F0 m 449 ls []) := by
  have hx := X.1
  have hb := X.2.1
  refine lv_aload_n hx hb dL_law_449 rfl (lv_at hl 1 rfl) ?_
  refine lw_arg (dd := 1) X hS hl (Or.inl rfl) (List.mem_of_getElem? (i := 4) rfl) (by omega) hL rfl dL_law_450 dL_law_451 dL_law_453 dL_law_454 dL_law_455 ?_
  refine lw_callC (d := 1) (As := [ab_I (xs (5 * k + 1))]) (rest := []) X G V hS hl.1 ⟨by decide, by decide, by have := hR.1; omega, by have := hR.2; omega⟩ dL_law_456 mvK_69 rfl (Nat.le_of_ble_eq_true rfl) (kX3_count (d := 0)) (fun v1 h1 H1 locs1 hq V1 hS1 => ?_)
  obtain ⟨r1, rfl, hr1, hh1⟩ := hq
  rw [hh1] at V1
  refine lv_aload_n hx hb dL_law_459 rfl (lv_at hl 2 rfl) ?_
  refine lw_arg (dd := 1) X hS1 hl (Or.inl rfl) (List.mem_of_getElem? (i := 4) rfl) (by omega) hL rfl dL_law_460 dL_law_461 dL_law_463 dL_law_464 dL_law_465 ?_
  refine lw_callM (d := 0) (As := [ab_I (xs (5 * k + 1))]) (rest := [.int r1]) X G V1 hS1 hl.1 ⟨by decide, by decide, by have := hR.1; omega, by have := hR.2; omega⟩ dL_law_466 mvM_72 rfl (Nat.le_of_ble_eq_true rfl) (kX4_count (s_slotsY Y)) (fun v2 g2 H2 locs2 hq V2 hS2 => ?_)
  obtain ⟨r2, rfl, hr2, hg2⟩ := hq
  rw [hg2] at V2
  refine lv_icmp_eq hx hb dL_law_469 (tgt := 474) (by decide) (fun _ => ?_) (fun q => absurd (by rw [hr1, hr2]; exact (s_cntY Y _).symm) q)
  exact W.widen (by omega) (by omega) (kont _ _ _ H2 locs2 ls (s_Y_z Y 0) V2 hS2 hl)
end LC2
