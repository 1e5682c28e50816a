/-! the law's cases -/
def R_law : String := "UndoWorksLaw"
def lw_P (b : Addr) (xs : List Int32) (args : Array Value) (s : State) : Prop := args = #[.ref b] ∧ s.IntsAt b xs ∧ xs.length ≤ 320 ∧ (Jvm.Cond.and given_1 narrow_1).before args s = true
def lw_Q (_ : Array Value) (s : State) (o : Outcome) (t : State) : Prop := o = .returned (some (.int 1)) ∧ Framed s o t [] 600128 7301098
def lw_Z (below : List Frame) (a : Array Value) (s : State) : State → Prop := fun t => ∃ o, t.status = .running ∧ Ended t below o ∧ lw_Q a s o t
theorem mvM_43 : ab_MV RL 43 4 4 mX4_node := ⟨⟨⟨by decide +kernel, by decide +kernel, by decide +kernel⟩, by decide, by decide +kernel, by decide +kernel, by decide +kernel⟩, ⟨_, rfl, rfl⟩, by decide +kernel, by decide +kernel⟩
theorem mvM_51 : ab_MV RL 51 4 1 mX4_clear := ⟨⟨⟨by decide +kernel, by decide +kernel, by decide +kernel⟩, by decide, by decide +kernel, by decide +kernel, by decide +kernel⟩, ⟨_, rfl, rfl⟩, by decide +kernel, by decide +kernel⟩
theorem mvM_55 : ab_MV RL 55 4 1 mX4_run := ⟨⟨⟨by decide +kernel, by decide +kernel, by decide +kernel⟩, by decide, by decide +kernel, by decide +kernel, by decide +kernel⟩, ⟨_, rfl, rfl⟩, by decide +kernel, by decide +kernel⟩
theorem mvM_59 : ab_MV RL 59 4 0 mX4_given := ⟨⟨⟨by decide +kernel, by decide +kernel, by decide +kernel⟩, by decide, by decide +kernel, by decide +kernel, by decide +kernel⟩, ⟨_, rfl, rfl⟩, by decide +kernel, by decide +kernel⟩
theorem mvM_62 : ab_MV RL 62 4 1 mX4_number := ⟨⟨⟨by decide +kernel, by decide +kernel, by decide +kernel⟩, by decide, by decide +kernel, by decide +kernel, by decide +kernel⟩, ⟨_, rfl, rfl⟩, by decide +kernel, by decide +kernel⟩
theorem mvM_65 : ab_MV RL 65 4 1 mX4_row := ⟨⟨⟨by decide +kernel, by decide +kernel, by decide +kernel⟩, by decide, by decide +kernel, by decide +kernel, by decide +kernel⟩, ⟨_, rfl, rfl⟩, by decide +kernel, by decide +kernel⟩
theorem mvM_68 : ab_MV RL 68 4 1 mX4_log := ⟨⟨⟨by decide +kernel, by decide +kernel, by decide +kernel⟩, by decide, by decide +kernel, by decide +kernel, by decide +kernel⟩, ⟨_, rfl, rfl⟩, by decide +kernel, by decide +kernel⟩
theorem mvM_72 : ab_MV RL 72 4 1 mX4_count := ⟨⟨⟨by decide +kernel, by decide +kernel, by decide +kernel⟩, by decide, by decide +kernel, by decide +kernel, by decide +kernel⟩, ⟨_, rfl, rfl⟩, by decide +kernel, by decide +kernel⟩
theorem mvM_44 : ab_MV RL 44 4 0 mX4_thrown := ⟨⟨⟨by decide +kernel, by decide +kernel, by decide +kernel⟩, by decide, by decide +kernel, by decide +kernel, by decide +kernel⟩, ⟨_, rfl, rfl⟩, by decide +kernel, by decide +kernel⟩
theorem mvK_56 : ab_MV RL 56 3 0 mX3_given := ⟨⟨⟨by decide +kernel, by decide +kernel, by decide +kernel⟩, by decide, by decide +kernel, by decide +kernel, by decide +kernel⟩, ⟨_, rfl, rfl⟩, by decide +kernel, by decide +kernel⟩
theorem mvK_69 : ab_MV RL 69 3 1 mX3_count := ⟨⟨⟨by decide +kernel, by decide +kernel, by decide +kernel⟩, by decide, by decide +kernel, by decide +kernel, by decide +kernel⟩, ⟨_, rfl, rfl⟩, by decide +kernel, by decide +kernel⟩
theorem mwL_node : lw_MW yL_node 38 6 cL_node 7 hhL_node := ⟨⟨by decide +kernel, by decide +kernel, by decide +kernel⟩, by decide, by decide +kernel, by decide +kernel, by decide +kernel, by decide +kernel⟩
theorem mwL_clear : lw_MW yL_clear 48 2 cL_clear 3 hhL_clear := ⟨⟨by decide +kernel, by decide +kernel, by decide +kernel⟩, by decide, by decide +kernel, by decide +kernel, by decide +kernel, by decide +kernel⟩
theorem mwL_run : lw_MW yL_run 52 3 cL_run 4 hhL_run := ⟨⟨by decide +kernel, by decide +kernel, by decide +kernel⟩, by decide, by decide +kernel, by decide +kernel, by decide +kernel, by decide +kernel⟩
theorem mwL_number : lw_MW yL_number 60 3 cL_number 4 hhL_number := ⟨⟨by decide +kernel, by decide +kernel, by decide +kernel⟩, by decide, by decide +kernel, by decide +kernel, by decide +kernel, by decide +kernel⟩
theorem mwL_row : lw_MW yL_row 63 3 cL_row 4 hhL_row := ⟨⟨by decide +kernel, by decide +kernel, by decide +kernel⟩, by decide, by decide +kernel, by decide +kernel, by decide +kernel, by decide +kernel⟩
theorem mwL_log : lw_MW yL_log 66 3 cL_log 4 hhL_log := ⟨⟨by decide +kernel, by decide +kernel, by decide +kernel⟩, by decide, by decide +kernel, by decide +kernel, by decide +kernel, by decide +kernel⟩
theorem xIS : ¬ xI = xS := by decide
theorem lg_same (x : Int64) : lg_cmp x x = 0 := by
  unfold lg_cmp
  rw [if_neg (Int64.lt_irrefl), if_pos rfl]
abbrev lw_ls (aC aM : Nat → Nat) (o b : Nat) (i : Int32) : List (Nat × Value) := [(0, .ref b), (1, .ref (aC 0)), (2, .ref (aM 0)), (3, .ref o), (4, .int i)]
/-- what one of the law's small methods comes back with, in one form -/
def lw_res (k : Int32) (X : Nat) (h' hN : ab_H) (f' : Nat → Int64) (r : Int32) : Prop := k = nI X ∧ h' = hN ∧ (X = 0 → f' 0 = r.toInt64)
section LWR
variable {p : Program} {l : Launch} {e : Env} {s : State} {m : MethodId} {args : Array Value} {below : List Frame} {meth : Method} {c : Code} {H : Heap} {locs : List Loc} {cells slots : Nat} {Q : State → Prop}
variable {dC : Nat → ClassId} {dI : Nat → Nat → Nat} {cI cW cJ : ClassId} {aC aM : Nat → Nat} {o b L pc : Nat} {xs : Nat → Int32} {h g : ab_H} {f : Nat → Int64} {ls : Array Slot} {rest : List Value} {k : Nat}
/-- an int of the script: aload_0, iload 4, iconst, iadd, iaload -/
theorem lw_arg {dd : Nat} {n : Int} {lv : List (Nat × Value)} (X : lw_K dC dI cI cW cJ p s m args meth c b L xs) (hS : va_S (lw_A s.heap.size) s.heap H locs) (hl : lv_has ls 7 lv) (h0 : lv[0]? = some (0, .ref b) ∨ (0, .ref b) ∈ lv) (h4 : (4, .int (nI (5 * k))) ∈ lv) (hk : 5 * k + dd < L) (hL : L ≤ 320) (hn : Int32.ofInt n = nI dd)
    (d0 : decode code pc = .ok (.aload_n 0, 1)) (d1 : decode code (pc + 1) = .ok (.iload 4, 2)) (d3 : decode code (pc + 3) = .ok (.iconst n, 1)) (d4 : decode code (pc + 4) = .ok (.iadd, 1)) (d5 : decode code (pc + 5) = .ok (.iaload, 1))
    (kk : W p l e room_1 s m args below meth c H locs cells slots Q (F0 m (pc + 6) ls (.int (xs (5 * k + dd)) :: rest))) : W p l e room_1 s m args below meth c H locs cells slots Q (F0 m pc ls rest) := by
  obtain ⟨hx, hb, hml, hown, hts, hK, hX, hNc, hXs, hbl⟩ := X
  have h0' : (0, Value.ref b) ∈ lv := h0.elim (fun q => List.mem_of_getElem? q) id
  refine lv_aload_n hx hb d0 rfl (hl.2.2 _ h0') ?_
  refine lv_iload hx hb d1 (hl.2.2 _ h4) ?_
  refine lv_iconst hx hb d3 (v := nI dd) hn ?_
  refine lv_iadd hx hb d4 ?_
  rw [nI_add]
  refine va_sld hx hb hXs hbl (show ¬ s.heap.size ≤ b from Nat.not_le.mpr hbl) hS (vp_in_nI hk (by omega)) d5 ?_
  rw [nI_clamp (by omega)]
  exact kk
/-- thrown is asked, the answers are compared -/
theorem lw_tail {K X : Nat} {kk r rM : Int32} {P : Nat} {lv : List (Nat × Value)} (Xc : lw_K dC dI cI cW cJ p s m args meth c b L xs) (G : lw_G s.heap.size aC aM o) (V : lw_V dC dI cI cW cJ aC aM o h g f H) (hS : va_S (lw_A s.heap.size) s.heap H locs) (hl : lv_has ls 7 lv) (h2 : (2, .ref (aM 0)) ∈ lv) (h3 : (3, .ref o) ∈ lv) (h5 : (5, .int kk) ∈ lv) (h6 : (6, .int rM) ∈ lv)
    (hk : kk = nI X) (ht : g 0 0 = nI X) (hf : X = 0 → f 0 = r.toInt64) (hr : X = 0 → rM = r) (hX : X < 3) (hc : cells ≤ room_1.cells) (hs : slots ≤ room_1.slots)
    (e0 : decode code P = .ok (.aload_n 2, 1)) (e1 : decode code (P + 1) = .ok (.invokevirtual 44, 3)) (e4 : decode code (P + 4) = .ok (.iload 5, 2)) (e6 : decode code (P + 6) = .ok (.if_icmp .eq 5, 3)) (e11 : decode code (P + 11) = .ok (.iload 5, 2)) (e13 : decode code (P + 13) = .ok (.ifCond .ne 15, 3)) (e16 : decode code (P + 16) = .ok (.aload_n 3, 1)) (e17 : decode code (P + 17) = .ok (.iconst 0, 1)) (e18 : decode code (P + 18) = .ok (.laload, 1)) (e19 : decode code (P + 19) = .ok (.iload 6, 2)) (e21 : decode code (P + 21) = .ok (.i2l, 1)) (e22 : decode code (P + 22) = .ok (.lcmp, 1)) (e23 : decode code (P + 23) = .ok (.ifCond .eq 5, 3)) {off : Int} (e28 : decode code (P + 28) = .ok (.goto off, 3)) (ho : ((P + 28 : Nat) : Int) + off = ((474 : Nat) : Int))
    (kont : ∀ H1 locs1, lw_V dC dI cI cW cJ aC aM o h g f H1 → va_S (lw_A s.heap.size) s.heap H1 locs1 → W p l e room_1 s m args below meth c H1 locs1 cells slots Q (F0 m 474 ls [])) : W p l e room_1 s m args below meth c H locs cells slots Q (F0 m P ls []) := by
  have hx := Xc.1
  have hb := Xc.2.1
  refine lv_aload_n hx hb e0 rfl (hl.2.2 _ h2) ?_
  refine lw_callM (d := 0) (As := []) (rest := []) Xc G V hS hl.1 ⟨by decide, by decide, hc, hs⟩ e1 mvM_44 rfl (Nat.le_of_ble_eq_true rfl) kX4_thrown (fun v' g' H1 locs1 hq V1 hS1 => ?_)
  obtain ⟨r1, rfl, hr1, hg1⟩ := hq
  rw [hg1] at V1
  rw [hr1, ht]
  have fin : W p l e room_1 s m args below meth c H1 locs1 cells slots Q (F0 m (P + 28) ls []) := lv_goto hx hb e28 ho (kont H1 locs1 V1 hS1)
  refine lv_iload hx hb e4 (hl.2.2 _ h5) ?_
  refine lv_icmp_eq hx hb e6 (tgt := P + 11) (by omega) (fun _ => ?_) (fun q => absurd hk.symm q)
  refine lv_iload hx hb e11 (hl.2.2 _ h5) ?_
  refine lv_if_ne hx hb e13 (tgt := P + 28) (by omega) (fun _ => fin) (fun q => ?_)
  have hX0 : X = 0 := by
    rw [hk] at q
    exact (nI_eq (b := 0) (by omega) (by omega)).mp q
  refine lv_aload_n hx hb e16 rfl (hl.2.2 _ h3) ?_
  refine lv_iconst hx hb e17 (v := 0) (by decide) ?_
  refine va_lald (D := (dC, dI)) (cl := vwCl) (i := 0) hx hb Xc.2.2.2.2.2.1 V1.2.2 0 2 rfl rfl (nI_in (c := 0) (N := 1) (by decide) (by decide)) e18 ?_
  refine lv_iload hx hb e19 (hl.2.2 _ h6) ?_
  refine lv_i2l hx hb e21 rfl ?_
  refine W.lcmp hx hb e22 ?_
  rw [show f (0 : Int32).toNatClampNeg = r.toInt64 from hf hX0, hr hX0, lg_same]
  exact lv_if_eq hx hb e23 (tgt := P + 28) (by omega) (fun _ => fin) (fun q => absurd rfl q)
end LWR
