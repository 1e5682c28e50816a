/-! the law's cases, one by one -/
section LF
variable {h g : ab_H}
theorem c_dr_iff {v m : Int32} : c_dr v m = true ↔ ¬ v < 0 ∧ v < m := by
  refine ⟨c_dr_in, fun q => ?_⟩
  unfold c_dr
  rw [Bool.and_eq_true, decide_eq_true_eq, decide_eq_true_eq]
  refine ⟨q.1, fun z => ?_⟩
  have := q.2
  rw [Int32.le_iff_toInt_le] at z
  rw [Int32.lt_iff_toInt_lt] at this
  omega
def c_bX (b : Bool) : Nat := if b = true then 0 else 1
theorem lf_number (Y : s_Y h g) (i : Int32) : (if m_within i 7 = true then ab_up g 0 0 0 else ab_up g 0 0 1) 0 0 = nI (c_bX (m_within i 7)) ∧ (c_bX (m_within i 7) = 0 → (if m_within i 7 = true then g 5 i.toNatClampNeg else 0) = h 4 i.toNatClampNeg) ∧ s_Y h (if m_within i 7 = true then ab_up g 0 0 0 else ab_up g 0 0 1) := by
  cases q : m_within i 7 with
  | true =>
    rw [if_pos rfl, if_pos rfl]
    exact ⟨rfl, fun _ => (s_numY Y q).1, s_Y_z Y 0⟩
  | false =>
    rw [if_neg (by decide), if_neg (by decide)]
    exact ⟨rfl, fun z => absurd z (by decide), s_Y_z Y 1⟩
theorem lf_row (Y : s_Y h g) (i : Int32) : (if ¬ i < 0 ∧ i < g 0 7 then ab_up g 0 0 0 else ab_up g 0 0 1) 0 0 = nI (c_bX (c_dr i (h 2 2))) ∧ (c_bX (c_dr i (h 2 2)) = 0 → (if ¬ i < 0 ∧ i < g 0 7 then g 6 i.toNatClampNeg else 0) = h 5 i.toNatClampNeg) ∧ s_Y h (if ¬ i < 0 ∧ i < g 0 7 then ab_up g 0 0 0 else ab_up g 0 0 1) := by
  obtain ⟨e, q⟩ := s_rowP Y i
  rw [e]
  by_cases c : ¬ i < 0 ∧ i < g 0 7
  · rw [if_pos c, if_pos c, c_dr_iff.mpr c]
    exact ⟨rfl, fun _ => (q c.1 c.2).2, s_Y_z Y 0⟩
  · have cf : c_dr i (g 0 7) = false := by
      cases z : c_dr i (g 0 7) with
      | false => rfl
      | true => exact absurd (c_dr_iff.mp z) c
    rw [if_neg c, if_neg c, cf]
    exact ⟨rfl, fun z => absurd z (by decide), s_Y_z Y 1⟩
theorem lf_log (Y : s_Y h g) (i : Int32) : (if ¬ i < 0 ∧ i < g 0 15 then ab_up g 0 0 0 else ab_up g 0 0 1) 0 0 = nI (c_bX (c_dr i (h 2 6))) ∧ (c_bX (c_dr i (h 2 6)) = 0 → (if ¬ i < 0 ∧ i < g 0 15 then g 12 i.toNatClampNeg else 0) = h 8 i.toNatClampNeg) ∧ s_Y h (if ¬ i < 0 ∧ i < g 0 15 then ab_up g 0 0 0 else ab_up g 0 0 1) := by
  obtain ⟨e, q⟩ := s_logP Y i
  rw [e]
  by_cases c : ¬ i < 0 ∧ i < g 0 15
  · rw [if_pos c, if_pos c, c_dr_iff.mpr c]
    exact ⟨rfl, fun _ => (q c.1 c.2).2, s_Y_z Y 0⟩
  · have cf : c_dr i (g 0 15) = false := by
      cases z : c_dr i (g 0 15) with
      | false => rfl
      | true => exact absurd (c_dr_iff.mp z) c
    rw [if_neg c, if_neg c, cf]
    exact ⟨rfl, fun z => absurd z (by decide), s_Y_z Y 1⟩
/-- one handler -/
theorem lr_1 {b : Bool} {r : Int32} {k : Int32} {h' : ab_H} {f' : Nat → Int64} (hp : lw_po (fun r' h' => b = true ∧ r' = r ∧ h' = h) (fun E h' => E = xI ∧ b = false ∧ h' = h) k h' f') : lw_res k (c_bX b) h' h f' r := by
  rcases hp with ⟨e, r', ⟨q1, q2, q3⟩, hf⟩ | ⟨e, -, q1, q2⟩ | ⟨-, q, -⟩
  · rw [q1, e, q3]
    exact ⟨rfl, rfl, fun _ => by rw [hf, q2]⟩
  · rw [q1, e, q2]
    exact ⟨rfl, rfl, fun z => absurd z (by decide)⟩
  · exact absurd q.symm xIS
/-- two handlers -/
theorem lr_2 {X : Nat} {r : Int32} {k : Int32} {h' hN : ab_H} {f' : Nat → Int64} (hN1 : ¬ X = 0 → hN = h) (hp : lw_po (fun r' h' => X = 0 ∧ r' = r ∧ h' = hN) (fun E h' => h' = h ∧ ((E = xI ∧ X = 1) ∨ (E = xS ∧ X = 2))) k h' f') : lw_res k X h' hN f' r := by
  rcases hp with ⟨e, r', ⟨q1, q2, q3⟩, hf⟩ | ⟨e, q1, q2⟩ | ⟨e, q1, q2⟩
  · rw [q1, e, q3]
    exact ⟨rfl, rfl, fun _ => by rw [hf, q2]⟩
  · rcases q2 with ⟨-, q2⟩ | ⟨q2, -⟩
    · rw [q1, e, hN1 (by omega), q2]
      exact ⟨rfl, rfl, fun z => absurd z (by decide)⟩
    · exact absurd q2 xIS
  · rcases q2 with ⟨q2, -⟩ | ⟨-, q2⟩
    · exact absurd q2.symm xIS
    · rw [q1, e, hN1 (by omega), q2]
      exact ⟨rfl, rfl, fun z => absurd z (by decide)⟩
theorem c_nodeH_h {w s a b : Int32} (q : ¬ c_nodeX h w s a b = 0) : c_nodeH h w s a b = h := by
  unfold c_nodeX at q
  unfold c_nodeH
  split
  · next c =>
    rw [if_pos c] at q
    split
    · next c2 => rw [if_pos c2] at q; exact absurd rfl q
    · rfl
  · rfl
theorem c_runH_h {w : Int32} (q : ¬ c_runX h w = 0) : c_runH h w = h := by
  unfold c_runX at q
  unfold c_runH
  split
  · next c =>
    rw [if_pos c] at q
    split
    · next c2 => rw [if_pos c2] at q; exact absurd rfl q
    · rfl
  · rfl
theorem c_nodeX_3 {w s a b : Int32} : c_nodeX h w s a b < 3 := by
  unfold c_nodeX
  split
  · split <;> omega
  · omega
theorem c_runX_3 {w : Int32} : c_runX h w < 3 := by
  unfold c_runX
  split
  · split <;> omega
  · omega
theorem c_bX_3 {b : Bool} : c_bX b < 3 := by
  cases b <;> decide
end LF
section LC
variable {p : Program} {l : Launch} {e : Env} {s : State} {m : MethodId} {args : Array Value} {below : List Frame} {meth : Method} {c : Code} {H : Heap} {locs : List Loc} {cells slots : Nat} {Q : State → Prop}
variable {dC : Nat → ClassId} {dI : Nat → Nat → Nat} {cI cW cJ : ClassId} {aC aM : Nat → Nat} {o b L : Nat} {xs : Nat → Int32} {h g : ab_H} {f : Nat → Int64} {ls : Array Slot} {k : Nat}
/-- where a case goes on -/
def lw_kont (p : Program) (l : Launch) (e : Env) (s : State) (m : MethodId) (args : Array Value) (below : List Frame) (meth : Method) (c : Code) (cells slots : Nat) (Q : State → Prop) (dC : Nat → ClassId) (dI : Nat → Nat → Nat) (cI cW cJ : ClassId) (aC aM : Nat → Nat) (o b k : Nat) : Prop :=
  ∀ h' g' f' H1 locs1 ls1, s_Y h' g' → lw_V dC dI cI cW cJ aC aM o h' g' f' H1 → va_S (lw_A s.heap.size) s.heap H1 locs1 → lv_has ls1 7 (lw_ls aC aM o b (nI (5 * k))) → W p l e room_1 s m args below meth c H1 locs1 (cells + 4) (slots + 24) Q (F0 m 474 ls1 [])
def lw_cs (cells slots : Nat) : Prop := cells + 4 ≤ room_1.cells ∧ slots + 24 ≤ room_1.slots
set_option maxRecDepth 100000 in
set_option maxHeartbeats 1000000 in
theorem lw_number (hl9 : l.stackTraces = false) (X : lw_K dC dI cI cW cJ p s m args meth c b L xs) (G : lw_G s.heap.size aC aM o) (Y : s_Y h g) (hL : L ≤ 320) (hk5 : 5 * k + 5 ≤ L) (V : lw_V dC dI cI cW cJ aC aM o h g f H) (hS : va_S (lw_A s.heap.size) s.heap H locs) (hl : lv_has ls 7 (lw_ls aC aM o b (nI (5 * k)))) (hR : lw_cs cells slots) (kont : lw_kont p l e s m args below meth c cells slots Q dC dI cI cW cJ aC aM o b k) : W p l e room_1 s m args below meth c H locs cells slots Q (F0 m 281 ls []) := by
  have hx := X.1
  have hb := X.2.1
  refine lv_aload_n hx hb dL_law_281 rfl (lv_at hl 1 rfl) ?_
  refine lw_arg (dd := 1) X hS hl (Or.inr (List.mem_of_getElem? (i := 0) rfl)) (List.mem_of_getElem? (i := 4) rfl) (by omega) hL rfl dL_law_282 dL_law_283 dL_law_285 dL_law_286 dL_law_287 ?_
  refine lv_aload_n hx hb dL_law_288 rfl (lv_at hl 3 rfl) ?_
  obtain ⟨f1x, f2x, f3x⟩ := lf_number Y (xs (5 * k + 1))
  refine lw_callW (d := 9) (K := 1) (W9 := 6) (As := [.ref (aC 0), .int (xs (5 * k + 1)), .ref o]) (rest := []) X G V hS hl.1 (by decide) (by decide) (show cells + 1 ≤ room_1.cells by have := hR.1; omega) (show slots + 6 ≤ room_1.slots by have := hR.2; omega) dL_law_289 mwL_number rfl (Nat.le_of_ble_eq_true rfl) (wL_number (d := 8) (kX3_number (d := 0) hl9) (fun E h' q => q.1)) (fun kk h1 f1 H1 locs1 hp V1 hS1 => ?_)
  obtain ⟨r1, r2, r3⟩ := lr_1 hp
  rw [r2] at V1
  refine lv_istore hx hb dL_law_292 hl (by decide) rfl (fun ls1 hl1 => ?_)
  refine lv_aload_n hx hb dL_law_294 rfl (lv_at hl1 3 rfl) ?_
  refine lw_arg (dd := 1) X hS1 hl1 (Or.inr (List.mem_of_getElem? (i := 1) rfl)) (List.mem_of_getElem? (i := 5) rfl) (by omega) hL rfl dL_law_295 dL_law_296 dL_law_298 dL_law_299 dL_law_300 ?_
  refine lw_callM (d := 1) (As := [ab_I (xs (5 * k + 1))]) (rest := []) X G V1 hS1 hl1.1 ⟨by decide, by decide, by have := hR.1; omega, by have := hR.2; omega⟩ dL_law_301 mvM_62 rfl (Nat.le_of_ble_eq_true rfl) (kX4_number (d := 0)) (fun v2 g2 H2 locs2 hq V2 hS2 => ?_)
  obtain ⟨rM, rfl, hrM, hg2⟩ := hq
  rw [hg2] at V2
  refine lv_istore hx hb dL_law_304 hl1 (by decide) rfl (fun ls2 hl2 => ?_)
  refine lw_tail (K := 0) (P := 306) (r := h 4 (xs (5 * k + 1)).toNatClampNeg) X G V2 hS2 hl2 (List.mem_of_getElem? (i := 4) rfl) (List.mem_of_getElem? (i := 5) rfl) (List.mem_of_getElem? (i := 1) rfl) (List.mem_of_getElem? (i := 0) rfl) r1 f1x r3 (fun z => hrM.trans (f2x z)) c_bX_3 (by have := hR.1; omega) (by have := hR.2; omega) dL_law_306 dL_law_307 dL_law_310 dL_law_312 dL_law_317 dL_law_319 dL_law_322 dL_law_323 dL_law_324 dL_law_325 dL_law_327 dL_law_328 dL_law_329 dL_law_334 (by decide) (fun H3 locs3 V3 hS3 => ?_)
  exact W.widen (by omega) (by omega) (kont _ _ _ H3 locs3 ls2 f3x V3 hS3 (lv_sub hl2 [2, 3, 4, 5, 6] rfl))
set_option maxRecDepth 100000 in
set_option maxHeartbeats 1000000 in
theorem lw_row (hl9 : l.stackTraces = false) (X : lw_K dC dI cI cW cJ p s m args meth c b L xs) (G : lw_G s.heap.size aC aM o) (Y : s_Y h g) (hL : L ≤ 320) (hk5 : 5 * k + 5 ≤ L) (V : lw_V dC dI cI cW cJ aC aM o h g f H) (hS : va_S (lw_A s.heap.size) s.heap H locs) (hl : lv_has ls 7 (lw_ls aC aM o b (nI (5 * k)))) (hR : lw_cs cells slots) (kont : lw_kont p l e s m args below meth c cells slots Q dC dI cI cW cJ aC aM o b k) : W p l e room_1 s m args below meth c H locs cells slots Q (F0 m 337 ls []) := by
  have hx := X.1
  have hb := X.2.1
  refine lv_aload_n hx hb dL_law_337 rfl (lv_at hl 1 rfl) ?_
  refine lw_arg (dd := 1) X hS hl (Or.inr (List.mem_of_getElem? (i := 0) rfl)) (List.mem_of_getElem? (i := 4) rfl) (by omega) hL rfl dL_law_338 dL_law_339 dL_law_341 dL_law_342 dL_law_343 ?_
  refine lv_aload_n hx hb dL_law_344 rfl (lv_at hl 3 rfl) ?_
  obtain ⟨f1x, f2x, f3x⟩ := lf_row Y (xs (5 * k + 1))
  refine lw_callW (d := 9) (K := 1) (W9 := 6) (As := [.ref (aC 0), .int (xs (5 * k + 1)), .ref o]) (rest := []) X G V hS hl.1 (by decide) (by decide) (show cells + 1 ≤ room_1.cells by have := hR.1; omega) (show slots + 6 ≤ room_1.slots by have := hR.2; omega) dL_law_345 mwL_row rfl (Nat.le_of_ble_eq_true rfl) (wL_row (d := 8) (kX3_row (d := 0) hl9 (fun a b => ((s_rowP Y (xs (5 * k + 1))).2 a (by rw [← (s_rowP Y (xs (5 * k + 1))).1]; exact b)).1)) (fun E h' q => q.1)) (fun kk h1 f1 H1 locs1 hp V1 hS1 => ?_)
  obtain ⟨r1, r2, r3⟩ := lr_1 hp
  rw [r2] at V1
  refine lv_istore hx hb dL_law_348 hl (by decide) rfl (fun ls1 hl1 => ?_)
  refine lv_aload_n hx hb dL_law_350 rfl (lv_at hl1 3 rfl) ?_
  refine lw_arg (dd := 1) X hS1 hl1 (Or.inr (List.mem_of_getElem? (i := 1) rfl)) (List.mem_of_getElem? (i := 5) rfl) (by omega) hL rfl dL_law_351 dL_law_352 dL_law_354 dL_law_355 dL_law_356 ?_
  refine lw_callM (d := 1) (As := [ab_I (xs (5 * k + 1))]) (rest := []) X G V1 hS1 hl1.1 ⟨by decide, by decide, by have := hR.1; omega, by have := hR.2; omega⟩ dL_law_357 mvM_65 rfl (Nat.le_of_ble_eq_true rfl) (kX4_row (d := 0) (fun a b => ((s_rowP Y (xs (5 * k + 1))).2 a b).1)) (fun v2 g2 H2 locs2 hq V2 hS2 => ?_)
  obtain ⟨rM, rfl, hrM, hg2⟩ := hq
  rw [hg2] at V2
  refine lv_istore hx hb dL_law_360 hl1 (by decide) rfl (fun ls2 hl2 => ?_)
  refine lw_tail (K := 0) (P := 362) (r := h 5 (xs (5 * k + 1)).toNatClampNeg) X G V2 hS2 hl2 (List.mem_of_getElem? (i := 4) rfl) (List.mem_of_getElem? (i := 5) rfl) (List.mem_of_getElem? (i := 1) rfl) (List.mem_of_getElem? (i := 0) rfl) r1 f1x r3 (fun z => hrM.trans (f2x z)) c_bX_3 (by have := hR.1; omega) (by have := hR.2; omega) dL_law_362 dL_law_363 dL_law_366 dL_law_368 dL_law_373 dL_law_375 dL_law_378 dL_law_379 dL_law_380 dL_law_381 dL_law_383 dL_law_384 dL_law_385 dL_law_390 (by decide) (fun H3 locs3 V3 hS3 => ?_)
  exact W.widen (by omega) (by omega) (kont _ _ _ H3 locs3 ls2 f3x V3 hS3 (lv_sub hl2 [2, 3, 4, 5, 6] rfl))
set_option maxRecDepth 100000 in
set_option maxHeartbeats 1000000 in
theorem lw_log (hl9 : l.stackTraces = false) (X : lw_K dC dI cI cW cJ p s m args meth c b L xs) (G : lw_G s.heap.size aC aM o) (Y : s_Y h g) (hL : L ≤ 320) (hk5 : 5 * k + 5 ≤ L) (V : lw_V dC dI cI cW cJ aC aM o h g f H) (hS : va_S (lw_A s.heap.size) s.heap H locs) (hl : lv_has ls 7 (lw_ls aC aM o b (nI (5 * k)))) (hR : lw_cs cells slots) (kont : lw_kont p l e s m args below meth c cells slots Q dC dI cI cW cJ aC aM o b k) : W p l e room_1 s m args below meth c H locs cells slots Q (F0 m 393 ls []) := by
  have hx := X.1
  have hb := X.2.1
  refine lv_aload_n hx hb dL_law_393 rfl (lv_at hl 1 rfl) ?_
  refine lw_arg (dd := 1) X hS hl (Or.inr (List.mem_of_getElem? (i := 0) rfl)) (List.mem_of_getElem? (i := 4) rfl) (by omega) hL rfl dL_law_394 dL_law_395 dL_law_397 dL_law_398 dL_law_399 ?_
  refine lv_aload_n hx hb dL_law_400 rfl (lv_at hl 3 rfl) ?_
  obtain ⟨f1x, f2x, f3x⟩ := lf_log Y (xs (5 * k + 1))
  refine lw_callW (d := 9) (K := 1) (W9 := 6) (As := [.ref (aC 0), .int (xs (5 * k + 1)), .ref o]) (rest := []) X G V hS hl.1 (by decide) (by decide) (show cells + 1 ≤ room_1.cells by have := hR.1; omega) (show slots + 6 ≤ room_1.slots by have := hR.2; omega) dL_law_401 mwL_log rfl (Nat.le_of_ble_eq_true rfl) (wL_log (d := 8) (kX3_log (d := 0) hl9 (fun a b => ((s_logP Y (xs (5 * k + 1))).2 a (by rw [← (s_logP Y (xs (5 * k + 1))).1]; exact b)).1)) (fun E h' q => q.1)) (fun kk h1 f1 H1 locs1 hp V1 hS1 => ?_)
  obtain ⟨r1, r2, r3⟩ := lr_1 hp
  rw [r2] at V1
  refine lv_istore hx hb dL_law_404 hl (by decide) rfl (fun ls1 hl1 => ?_)
  refine lv_aload_n hx hb dL_law_406 rfl (lv_at hl1 3 rfl) ?_
  refine lw_arg (dd := 1) X hS1 hl1 (Or.inr (List.mem_of_getElem? (i := 1) rfl)) (List.mem_of_getElem? (i := 5) rfl) (by omega) hL rfl dL_law_407 dL_law_408 dL_law_410 dL_law_411 dL_law_412 ?_
  refine lw_callM (d := 1) (As := [ab_I (xs (5 * k + 1))]) (rest := []) X G V1 hS1 hl1.1 ⟨by decide, by decide, by have := hR.1; omega, by have := hR.2; omega⟩ dL_law_413 mvM_68 rfl (Nat.le_of_ble_eq_true rfl) (kX4_log (d := 0) (fun a b => ((s_logP Y (xs (5 * k + 1))).2 a b).1)) (fun v2 g2 H2 locs2 hq V2 hS2 => ?_)
  obtain ⟨rM, rfl, hrM, hg2⟩ := hq
  rw [hg2] at V2
  refine lv_istore hx hb dL_law_416 hl1 (by decide) rfl (fun ls2 hl2 => ?_)
  refine lw_tail (K := 0) (P := 418) (r := h 8 (xs (5 * k + 1)).toNatClampNeg) X G V2 hS2 hl2 (List.mem_of_getElem? (i := 4) rfl) (List.mem_of_getElem? (i := 5) rfl) (List.mem_of_getElem? (i := 1) rfl) (List.mem_of_getElem? (i := 0) rfl) r1 f1x r3 (fun z => hrM.trans (f2x z)) c_bX_3 (by have := hR.1; omega) (by have := hR.2; omega) dL_law_418 dL_law_419 dL_law_422 dL_law_424 dL_law_429 dL_law_431 dL_law_434 dL_law_435 dL_law_436 dL_law_437 dL_law_439 dL_law_440 dL_law_441 dL_law_446 (by decide) (fun H3 locs3 V3 hS3 => ?_)
  exact W.widen (by omega) (by omega) (kont _ _ _ H3 locs3 ls2 f3x V3 hS3 (lv_sub hl2 [2, 3, 4, 5, 6] rfl))
set_option maxRecDepth 100000 in
set_option maxHeartbeats 1000000 in
theorem lw_run (hl9 : l.stackTraces = false) (X : lw_K dC dI cI cW cJ p s m args meth c b L xs) (G : lw_G s.heap.size aC aM o) (Y : s_Y h g) (hL : L ≤ 320) (hk5 : 5 * k + 5 ≤ L) (V : lw_V dC dI cI cW cJ aC aM o h g f H) (hS : va_S (lw_A s.heap.size) s.heap H locs) (hl : lv_has ls 7 (lw_ls aC aM o b (nI (5 * k)))) (hR : lw_cs cells slots) (kont : lw_kont p l e s m args below meth c cells slots Q dC dI cI cW cJ aC aM o b k) : W p l e room_1 s m args below meth c H locs cells slots Q (F0 m 212 ls []) := by
  have hx := X.1
  have hb := X.2.1
  refine lv_aload_n hx hb dL_law_212 rfl (lv_at hl 1 rfl) ?_
  refine lw_arg (dd := 1) X hS hl (Or.inr (List.mem_of_getElem? (i := 0) rfl)) (List.mem_of_getElem? (i := 4) rfl) (by omega) hL rfl dL_law_213 dL_law_214 dL_law_216 dL_law_217 dL_law_218 ?_
  refine lv_aload_n hx hb dL_law_219 rfl (lv_at hl 3 rfl) ?_
  obtain ⟨zz, GG, u1, u2, f1x, f2a, f3x⟩ := s_runsY Y (xs (5 * k + 1))
  have f2x := fun z => (f2a z).1
  refine lw_callW (d := 191) (K := 2) (W9 := 12) (As := [.ref (aC 0), .int (xs (5 * k + 1)), .ref o]) (rest := []) X G V hS hl.1 (by decide) (by decide) (show cells + 2 ≤ room_1.cells by have := hR.1; omega) (show slots + 12 ≤ room_1.slots by have := hR.2; omega) dL_law_220 mwL_run rfl (Nat.le_of_ble_eq_true rfl) (wL_run (d := 190) (kX3_run hl9 Y.1.2.1) (fun E h' q => q.2.elim (fun z => Or.inl z.1) (fun z => Or.inr z.1))) (fun kk h1 f1 H1 locs1 hp V1 hS1 => ?_)
  obtain ⟨r1, r2, r3⟩ := lr_2 c_runH_h hp
  rw [r2] at V1
  refine lv_istore hx hb dL_law_223 hl (by decide) rfl (fun ls1 hl1 => ?_)
  refine lv_aload_n hx hb dL_law_225 rfl (lv_at hl1 3 rfl) ?_
  refine lw_arg (dd := 1) X hS1 hl1 (Or.inr (List.mem_of_getElem? (i := 1) rfl)) (List.mem_of_getElem? (i := 5) rfl) (by omega) hL rfl dL_law_226 dL_law_227 dL_law_229 dL_law_230 dL_law_231 ?_
  refine lw_callM (d := 5) (As := [ab_I (xs (5 * k + 1))]) (rest := []) X G V1 hS1 hl1.1 ⟨by decide, by decide, by have := hR.1; omega, by have := hR.2; omega⟩ dL_law_232 mvM_55 rfl (Nat.le_of_ble_eq_true rfl) (kX4_run (d := 0) u1 (s_slotsY Y) u2) (fun v2 g2 H2 locs2 hq V2 hS2 => ?_)
  obtain ⟨rM, rfl, hrM, hg2⟩ := hq
  rw [hg2] at V2
  refine lv_istore hx hb dL_law_235 hl1 (by decide) rfl (fun ls2 hl2 => ?_)
  refine lw_tail (K := 0) (P := 237) (r := c_ans (c_runE h (xs (5 * k + 1))).1 (c_runE h (xs (5 * k + 1))).2.1) X G V2 hS2 hl2 (List.mem_of_getElem? (i := 4) rfl) (List.mem_of_getElem? (i := 5) rfl) (List.mem_of_getElem? (i := 1) rfl) (List.mem_of_getElem? (i := 0) rfl) r1 f1x r3 (fun z => hrM.trans (f2x z)) c_runX_3 (by have := hR.1; omega) (by have := hR.2; omega) dL_law_237 dL_law_238 dL_law_241 dL_law_243 dL_law_248 dL_law_250 dL_law_253 dL_law_254 dL_law_255 dL_law_256 dL_law_258 dL_law_259 dL_law_260 dL_law_265 (by decide) (fun H3 locs3 V3 hS3 => ?_)
  exact W.widen (by omega) (by omega) (kont _ _ _ H3 locs3 ls2 f3x V3 hS3 (lv_sub hl2 [2, 3, 4, 5, 6] rfl))
set_option maxRecDepth 100000 in
set_option maxHeartbeats 1000000 in
theorem lw_node (hl9 : l.stackTraces = false) (X : lw_K dC dI cI cW cJ p s m args meth c b L xs) (G : lw_G s.heap.size aC aM o) (Y : s_Y h g) (hL : L ≤ 320) (hk5 : 5 * k + 5 ≤ L) (V : lw_V dC dI cI cW cJ aC aM o h g f H) (hS : va_S (lw_A s.heap.size) s.heap H locs) (hl : lv_has ls 7 (lw_ls aC aM o b (nI (5 * k)))) (hR : lw_cs cells slots) (kont : lw_kont p l e s m args below meth c cells slots Q dC dI cI cW cJ aC aM o b k) : W p l e room_1 s m args below meth c H locs cells slots Q (F0 m 84 ls []) := by
  have hx := X.1
  have hb := X.2.1
  refine lv_aload_n hx hb dL_law_84 rfl (lv_at hl 1 rfl) ?_
  refine lw_arg (dd := 1) X hS hl (Or.inr (List.mem_of_getElem? (i := 0) rfl)) (List.mem_of_getElem? (i := 4) rfl) (by omega) hL rfl dL_law_85 dL_law_86 dL_law_88 dL_law_89 dL_law_90 ?_
  refine lw_arg (dd := 2) X hS hl (Or.inr (List.mem_of_getElem? (i := 0) rfl)) (List.mem_of_getElem? (i := 4) rfl) (by omega) hL rfl dL_law_91 dL_law_92 dL_law_94 dL_law_95 dL_law_96 ?_
  refine lw_arg (dd := 3) X hS hl (Or.inr (List.mem_of_getElem? (i := 0) rfl)) (List.mem_of_getElem? (i := 4) rfl) (by omega) hL rfl dL_law_97 dL_law_98 dL_law_100 dL_law_101 dL_law_102 ?_
  refine lw_arg (dd := 4) X hS hl (Or.inr (List.mem_of_getElem? (i := 0) rfl)) (List.mem_of_getElem? (i := 4) rfl) (by omega) hL rfl dL_law_103 dL_law_104 dL_law_106 dL_law_107 dL_law_108 ?_
  refine lv_aload_n hx hb dL_law_109 rfl (lv_at hl 3 rfl) ?_
  obtain ⟨nn, oN, gl, u0, u1, u2, u3, u4, f1x, f2x, f3x⟩ := s_nodeY Y (xs (5 * k + 1)) (xs (5 * k + 2)) (xs (5 * k + 3)) (xs (5 * k + 4))
  refine lw_callW (d := 10) (K := 4) (W9 := 24) (As := [.ref (aC 0), .int (xs (5 * k + 1)), .int (xs (5 * k + 2)), .int (xs (5 * k + 3)), .int (xs (5 * k + 4)), .ref o]) (rest := []) X G V hS hl.1 (by decide) (by decide) (show cells + 4 ≤ room_1.cells by have := hR.1; omega) (show slots + 24 ≤ room_1.slots by have := hR.2; omega) dL_law_110 mwL_node rfl (Nat.le_of_ble_eq_true rfl) (wL_node (d := 9) (kX3_node (d := 0) hl9 (c_wf_of Y)) (fun E h' q => q.2.elim (fun z => Or.inl z.1) (fun z => Or.inr z.1))) (fun kk h1 f1 H1 locs1 hp V1 hS1 => ?_)
  obtain ⟨r1, r2, r3⟩ := lr_2 c_nodeH_h hp
  rw [r2] at V1
  refine lv_istore hx hb dL_law_113 hl (by decide) rfl (fun ls1 hl1 => ?_)
  refine lv_aload_n hx hb dL_law_115 rfl (lv_at hl1 3 rfl) ?_
  refine lw_arg (dd := 1) X hS1 hl1 (Or.inr (List.mem_of_getElem? (i := 1) rfl)) (List.mem_of_getElem? (i := 5) rfl) (by omega) hL rfl dL_law_116 dL_law_117 dL_law_119 dL_law_120 dL_law_121 ?_
  refine lw_arg (dd := 2) X hS1 hl1 (Or.inr (List.mem_of_getElem? (i := 1) rfl)) (List.mem_of_getElem? (i := 5) rfl) (by omega) hL rfl dL_law_122 dL_law_123 dL_law_125 dL_law_126 dL_law_127 ?_
  refine lw_arg (dd := 3) X hS1 hl1 (Or.inr (List.mem_of_getElem? (i := 1) rfl)) (List.mem_of_getElem? (i := 5) rfl) (by omega) hL rfl dL_law_128 dL_law_129 dL_law_131 dL_law_132 dL_law_133 ?_
  refine lw_arg (dd := 4) X hS1 hl1 (Or.inr (List.mem_of_getElem? (i := 1) rfl)) (List.mem_of_getElem? (i := 5) rfl) (by omega) hL rfl dL_law_134 dL_law_135 dL_law_137 dL_law_138 dL_law_139 ?_
  refine lw_callM (d := 2) (As := [ab_I (xs (5 * k + 1)), ab_I (xs (5 * k + 2)), ab_I (xs (5 * k + 3)), ab_I (xs (5 * k + 4))]) (rest := []) X G V1 hS1 hl1.1 ⟨by decide, by decide, by have := hR.1; omega, by have := hR.2; omega⟩ dL_law_140 mvM_43 rfl (Nat.le_of_ble_eq_true rfl) (kX4_node (d := 0) u1 u2 u3 u0 u4) (fun v2 g2 H2 locs2 hq V2 hS2 => ?_)
  obtain ⟨rM, rfl, hrM, hg2⟩ := hq
  rw [hg2] at V2
  refine lv_istore hx hb dL_law_143 hl1 (by decide) rfl (fun ls2 hl2 => ?_)
  refine lw_tail (K := 0) (P := 145) (r := c_nodeH h (xs (5 * k + 1)) (xs (5 * k + 2)) (xs (5 * k + 3)) (xs (5 * k + 4)) (8 * (xs (5 * k + 1)).toNatClampNeg + 14) 8) X G V2 hS2 hl2 (List.mem_of_getElem? (i := 4) rfl) (List.mem_of_getElem? (i := 5) rfl) (List.mem_of_getElem? (i := 1) rfl) (List.mem_of_getElem? (i := 0) rfl) r1 f1x r3 (fun z => hrM.trans (f2x z)) c_nodeX_3 (by have := hR.1; omega) (by have := hR.2; omega) dL_law_145 dL_law_146 dL_law_149 dL_law_151 dL_law_156 dL_law_158 dL_law_161 dL_law_162 dL_law_163 dL_law_164 dL_law_166 dL_law_167 dL_law_168 dL_law_173 (by decide) (fun H3 locs3 V3 hS3 => ?_)
  exact W.widen (by omega) (by omega) (kont _ _ _ H3 locs3 ls2 f3x V3 hS3 (lv_sub hl2 [2, 3, 4, 5, 6] rfl))
end LC
