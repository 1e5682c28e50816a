/-! the law: its loop -/
/-- the law's own end, with 1 on the stack, nothing written that was there before, its room as the claim has it -/
theorem lw_ret {p : Program} {l : Launch} {e : Env} {s : State} {m : MethodId} {below : List Frame} {meth : Method} {c : Code} {b : Nat} (hx : p.tables.exec = Jvm.exec) (hb : c.code = code) (hr : meth.sig.returnType = ret) (hlocks : meth.locks = false) {pc : Nat} {H : Heap} {ls : Array Slot} (hdg : decode code pc = .ok (.ireturn, 1)) : W p l e room_1 s m #[Value.ref b] below meth c H [] 600128 7301098 (lw_Z below #[Value.ref b] s) (F0 m pc ls [.int 1]) := by
  intro T hT X
  obtain ⟨fs, hret, hrun, hended, hW, hframe⟩ := X.leave (v := some (.int 1)) (hlocks := hlocks) (fun h => by rw [hr] at h; cases h)
  have hmeth' : T.vm.method? m = some meth := X.method'
  refine ⟨T.setFrames fs, ?_, .returned (some (.int 1)), hrun, hended, rfl, ⟨_, rfl⟩, hW, hframe⟩
  jvm_step X.here [X.here.top, hx, hb, hdg, hmeth', hr, ret, narrow_b1]
  (try refine ⟨rfl, ?_⟩); (try refine ⟨rfl, ?_⟩)
  first | (intro acts; rw [hret _ acts rfl rfl rfl]) | rw [hret _ _ rfl rfl rfl]
  exact Steps.refl _
theorem i_gt {L k : Nat} (hL : L ≤ 320) (hk : k ≤ 65) : nI L - 5 < nI (5 * k) ↔ L < 5 * k + 5 := by
  by_cases c : L < 5
  · have h0 : nI L - 5 < 0 := by
      match L, c with
      | 0, _ => decide
      | 1, _ => decide
      | 2, _ => decide
      | 3, _ => decide
      | 4, _ => decide
      | L + 5, h => exact absurd h (by omega)
    refine ⟨fun _ => by omega, fun _ => ?_⟩
    rw [Int32.lt_iff_toInt_lt] at h0 ⊢
    rw [nI_toInt (by omega)]
    have e : (0 : Int32).toInt = 0 := by decide
    omega
  · obtain ⟨M, rfl⟩ : ∃ M, L = M + 5 := ⟨L - 5, by omega⟩
    have e : nI (M + 5) - 5 = nI M := by
      rw [← nI_add]
      exact Int32.add_sub_cancel (nI M) (nI 5)
    rw [e, nI_ltI (by omega) (by omega)]
    omega
section LWO
variable {p : Program} {l : Launch} {e : Env} {s : State} {m : MethodId} {below : List Frame} {meth : Method} {c : Code}
variable {dC : Nat → ClassId} {dI : Nat → Nat → Nat} {cI cW cJ : ClassId} {aC aM : Nat → Nat} {o b L : Nat} {xs : Nat → Int32}
set_option maxRecDepth 100000 in
set_option maxHeartbeats 1000000 in
theorem lw_loop (hl9 : l.stackTraces = false) (X : lw_K dC dI cI cW cJ p s m #[Value.ref b] meth c b L xs) (G : lw_G s.heap.size aC aM o) (hr : meth.sig.returnType = ret) (hlk : meth.locks = false) (hL : L ≤ 320) :
    ∀ (n k : Nat) (h g : ab_H) (f : Nat → Int64) (H : Heap) (locs : List Loc) (ls : Array Slot), k + n = 65 → s_Y h g → lw_V dC dI cI cW cJ aC aM o h g f H → va_S (lw_A s.heap.size) s.heap H locs → lv_has ls 7 (lw_ls aC aM o b (nI (5 * k))) →
      W p l e room_1 s m #[Value.ref b] below meth c H locs (105 + 4 * k) (7822 + 24 * k) (lw_Z below #[Value.ref b] s) (F0 m 23 ls []) := by
  have hx := X.1
  have hb := X.2.1
  obtain ⟨-, -, -, -, -, -, -, -, hXs, hbl⟩ := id X
  have hbA : ¬ lw_A s.heap.size b := Nat.not_le.mpr hbl
  have ex : ∀ (H : Heap) (locs : List Loc) (ls : Array Slot) (cells slots : Nat), va_S (lw_A s.heap.size) s.heap H locs → cells ≤ 600128 → slots ≤ 7301098 → W p l e room_1 s m #[Value.ref b] below meth c H locs cells slots (lw_Z below #[Value.ref b] s) (F0 m 480 ls []) := fun H locs ls cells slots hS h1 h2 => by
    refine lv_iconst hx hb dL_law_480 (v := 1) (by decide) ?_
    exact va_forget (fun q hq => hS.2.2 q hq) (W.widen h1 h2 (lw_ret hx hb hr hlk dL_law_481))
  have pre : ∀ (k : Nat) (H : Heap) (locs : List Loc) (ls : Array Slot) (cells slots : Nat), k ≤ 65 → va_S (lw_A s.heap.size) s.heap H locs → lv_has ls 7 (lw_ls aC aM o b (nI (5 * k))) → cells ≤ 600128 → slots ≤ 7301098 → (5 * k + 5 ≤ L → W p l e room_1 s m #[Value.ref b] below meth c H locs cells slots (lw_Z below #[Value.ref b] s) (F0 m 32 ls [])) → W p l e room_1 s m #[Value.ref b] below meth c H locs cells slots (lw_Z below #[Value.ref b] s) (F0 m 23 ls []) := fun k H locs ls cells slots hk hS hl h1 h2 kk => by
    refine lv_iload hx hb dL_law_23 (lv_at hl 4 rfl) ?_
    refine lv_aload_n hx hb dL_law_25 rfl (lv_at hl 0 rfl) ?_
    refine va_slen hx hb hXs hbl hbA hS dL_law_26 ?_
    refine lv_iconst hx hb dL_law_27 (v := 5) (by decide) ?_
    refine lv_isub hx hb dL_law_28 ?_
    refine lv_icmp_gt hx hb dL_law_29 (tgt := 480) (by decide) (fun _ => ex H locs ls cells slots hS h1 h2) (fun q => kk ?_)
    have := (not_congr (i_gt hL hk)).mp q
    omega
  intro n
  induction n with
  | zero =>
    intro k h g f H locs ls hk Y V hS hl
    exact pre k H locs ls _ _ (by omega) hS hl (by omega) (by omega) (fun q => absurd q (by omega))
  | succ n ih =>
    intro k h g f H locs ls hk Y V hS hl
    refine pre k H locs ls _ _ (by omega) hS hl (by omega) (by omega) (fun hk5 => ?_)
    have kont : lw_kont p l e s m #[Value.ref b] below meth c (105 + 4 * k) (7822 + 24 * k) (lw_Z below #[Value.ref b] s) dC dI cI cW cJ aC aM o b k := fun h' g' f' H1 locs1 ls1 Y1 V1 hS1 hl1 => by
      refine lv_iinc (k := 4) hx hb dL_law_474 hl1 rfl rfl (by decide) rfl (fun ls2 hl2 => ?_)
      refine lv_goto hx hb dL_law_477 (tgt := 23) (by decide) ?_
      refine W.widen (k := 105 + 4 * (k + 1)) (n := 7822 + 24 * (k + 1)) (by omega) (by omega) (ih (k + 1) h' g' f' H1 locs1 ls2 (by omega) Y1 V1 hS1 ?_)
      have h9 := lv_sub hl2 [1, 2, 3, 4, 0] rfl
      rw [show nI (5 * k) + Int32.ofInt 5 = nI (5 * (k + 1)) from (nI_add (5 * k) 5)] at h9
      exact h9
    have hR : lw_cs (105 + 4 * k) (7822 + 24 * k) := ⟨show 105 + 4 * k + 4 ≤ 600128 by omega, show 7822 + 24 * k + 24 ≤ 7301098 by omega⟩
    refine lv_aload_n hx hb dL_law_32 rfl (lv_at hl 0 rfl) ?_
    refine lv_iload hx hb dL_law_33 (lv_at hl 4 rfl) ?_
    refine va_sld hx hb hXs hbl hbA hS (vp_in_nI (by omega) (by omega)) dL_law_35 ?_
    refine lv_bipush hx hb dL_law_36 (v := 7) (by decide) ?_
    refine lv_iand hx hb dL_law_38 ?_
    obtain ⟨j, hj, ej⟩ := vp_in_of (pk_andIn (xs (nI (5 * k)).toNatClampNeg) (m := 7) 3 (by decide) (by decide)) (by decide)
    rw [ej]
    have hj8 : j < 8 := hj
    match j, hj8 with
    | 0, _ => exact lv_tableIn hx hb dL_law_39 (off := 45) (tgt := 84) (by decide) (by decide) (by decide) (by decide) (lw_node hl9 X G Y hL hk5 V hS hl hR kont)
    | 1, _ => exact lv_tableIn hx hb dL_law_39 (off := 137) (tgt := 176) (by decide) (by decide) (by decide) (by decide) (lw_clear hl9 X G Y hL hk5 V hS hl hR kont)
    | 2, _ => exact lv_tableIn hx hb dL_law_39 (off := 173) (tgt := 212) (by decide) (by decide) (by decide) (by decide) (lw_run hl9 X G Y hL hk5 V hS hl hR kont)
    | 3, _ => exact lv_tableIn hx hb dL_law_39 (off := 229) (tgt := 268) (by decide) (by decide) (by decide) (by decide) (lw_given X G Y V hS hl hR kont)
    | 4, _ => exact lv_tableIn hx hb dL_law_39 (off := 242) (tgt := 281) (by decide) (by decide) (by decide) (by decide) (lw_number hl9 X G Y hL hk5 V hS hl hR kont)
    | 5, _ => exact lv_tableIn hx hb dL_law_39 (off := 298) (tgt := 337) (by decide) (by decide) (by decide) (by decide) (lw_row hl9 X G Y hL hk5 V hS hl hR kont)
    | 6, _ => exact lv_tableIn hx hb dL_law_39 (off := 354) (tgt := 393) (by decide) (by decide) (by decide) (by decide) (lw_log hl9 X G Y hL hk5 V hS hl hR kont)
    | 7, _ => exact lv_tableIn hx hb dL_law_39 (off := 410) (tgt := 449) (by decide) (by decide) (by decide) (by decide) (lw_count X G Y hL hk5 V hS hl hR kont)
    | j + 8, h => exact absurd h (by omega)
end LWO
