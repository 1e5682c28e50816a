/-! the law: its entry -/
/-- what holds at the law's entry: the machine, the code, the tables' words, the script, what the Statement gives of the start -/
def lw_At (p : Program) (s : State) (m : MethodId) (meth : Method) (c : Code) (b L : Nat) (xs : Nat → Int32) : Prop :=
  p.tables.exec = Jvm.exec ∧ c.code = code ∧ meth.sig.returnType = ret ∧ c.maxLocals = 7 ∧ s.vm.findClass R_law = some m.cls ∧ (∀ w ∈ lw_tbl, w.before #[Value.ref b] s = true) ∧ va_X b L xs s s.heap ∧ b < s.heap.size ∧ meth.locks = false ∧ (Jvm.Cond.and given_1 narrow_1).before #[Value.ref b] s = true
theorem cN3 : cn_N RL RX3 8 3 6 cn_f3 := ⟨TX3, tyX3, rfl, ab_in3, tyX3_ok, by decide +kernel, by decide +kernel, by decide +kernel, by decide +kernel⟩
theorem cN4 : cn_N RL RX4 35 4 43 cn_f4 := ⟨TX4, tyX4, rfl, ab_in4, tyX4_ok, by decide +kernel, by decide +kernel, by decide +kernel, by decide +kernel⟩
theorem cM3 : cn_M yX3_init cX3_init 2 := ⟨⟨by decide +kernel, by decide +kernel, by decide +kernel⟩, rfl, by decide +kernel, by decide +kernel, by decide +kernel⟩
theorem cM4 : cn_M yX4_init cX4_init 1 := ⟨⟨by decide +kernel, by decide +kernel, by decide +kernel⟩, rfl, by decide +kernel, by decide +kernel, by decide +kernel⟩
theorem cK3 : Cond.methodLink RL 34 yX3_init ∈ ab_all := by decide +kernel
theorem cK4 : Cond.methodLink RL 37 yX4_init ∈ ab_all := by decide +kernel
theorem cn_al : Cond.arrayClass .long ∈ ab_all := by decide +kernel
theorem cn_blind3 {D : va_G} {tys : List (ClassId × FieldType)} {sz : Nat} {ws : va_W} {av : List Value} : FrameBlind (va_Pc av (fun U => U.heap.size = sz ∧ va_P D vwCl ws U.heap ∧ va_K D vwCl tys U ∧ cn_nest U)) :=
  fun a U g mk q => by
    obtain ⟨q0, q1, qP, qK, qN⟩ := q
    exact ⟨q0, q1, qP, va_K.moved (u := U) (U := U.calling g mk a) (Vm.Alike.refl U.vm) qK, qN.go (U := U.calling g mk a) (State.WarmedH.refl U)⟩
section LWE
variable {p : Program} {l : Launch} {e : Env} {s : State} {m : MethodId} {args : Array Value} {below : List Frame} {meth : Method} {c : Code} {Q : State → Prop}
variable {dC : Nat → ClassId} {dI : Nat → Nat → Nat} {cI cW : ClassId} {ls : Array Slot}
/-- new UndoWorks() at the law's entry -/
theorem lw_new3 (hx : p.tables.exec = Jvm.exec) (hb : c.code = code) (hml : c.maxLocals = 7) (hown : s.vm.findClass RL = some m.cls) (hts : ∀ w ∈ ab_all, w.before args s = true) (hK : va_K (dC, dI) vwCl (ab_tys cI cW) s) (hN : cn_nest s) (hls : ls.size = 7)
    (kk : ∀ (aC : Nat → Nat) (H2 : Heap) (locs2 : List Loc), va_P (dC, dI) vwCl (ab_w layC cI cW aC c_h0) H2 → ab_D layC aC (lw_A s.heap.size) → va_S (lw_A s.heap.size) s.heap H2 locs2 → W p l e room_1 s m args below meth c H2 locs2 78 3994 Q (F0 m 7 ls [.ref (aC 0)])) :
    W p l e room_1 s m args below meth c s.heap [] 0 0 Q (F0 m 0 ls []) := by
  obtain ⟨T, ty, hcl, hin, hty, h1, h2, h3, h4⟩ := cN3
  obtain ⟨hy, hyn, hyi, hyc, hco⟩ := cM3
  refine va_new (ws := []) (A := lw_A s.heap.size) hx hb hts hin ty hty hown (hts _ h1) (hts _ h2) (hts _ h3) hK (fun k q hq => by cases hq) ⟨fun i j p q hp => (by cases hp), fun k q hq => (by cases hq)⟩ va_S.rf (fun q h => h) hcl h4 (by decide) (by decide) dL_law_0 (fun x H1 hP1 hD1 hS1 => ?_)
  refine lv_dup hx hb dL_law_3 rfl ?_
  have cw : CallB room_1 s args RL 34 yX3_init cX3_init 2 none (Cond.code yX3_init cX3_init 2 none :: ab_all) (ag_rm 2 77 3988) 77 3988 0 := callB_of 0 hts (cn_G hco) rfl rfl rfl (hts _ hyc) (hts _ cK3) hy ⟨by decide, by decide⟩
  have run := va_runI (p := p) (e := e) (below := below) (meth := meth) (H := H1) (locs := []) (cells := 0 + 1) (slots := 0 + 6) (g := F0 m 4 ls [.ref x, .ref x]) (As := []) (rest := [.ref x]) (b := x) ⟨hx, hb, hml, hown, hts⟩ (kn3 (l := l) (d := 0) dC dI cI cW x H1.size) ⟨cw, hyn, hts _ hyi⟩ ⟨cn_blind3, fun U hU hW => ⟨rfl, by rw [hU], by rw [hU]; exact hP1, va_K.moved hW.alike hK, hN.go hW⟩⟩ rfl rfl hls rfl (lv_room (Nat.le_of_ble_eq_true rfl)) dL_law_4 ⟨by decide, by decide⟩
  have hxA : lw_A s.heap.size x := hD1.2 0 _ rfl
  have hsub : ∀ z, cn_A x H1.size z → lw_A s.heap.size z := fun z hz => by
    rcases hz with e | hz
    · rw [e]; exact hxA
    · exact Nat.le_trans hS1.1 hz
  intro T hT XT
  obtain ⟨v, st₀, t, T', Lc, h0, X', hL, e1, e2, ⟨⟨aC, hv, hP2, hD2, ha0, hK2⟩, hz, hk⟩, st⟩ := run T hT XT
  cases hv
  rw [h0] at hz hk
  have hS2 : va_S (lw_A s.heap.size) s.heap T'.heap ([] ++ Lc) := ⟨Nat.le_trans hS1.1 (by rw [e1]; exact hz), fun z h1 h2 => by rw [e1, hk z (Nat.lt_of_lt_of_le h1 hS1.1) (fun y => h2 (hsub z y))]; exact hS1.2.1 z h1 h2, fun z hz => hsub _ (hL z hz)⟩
  obtain ⟨t2, a1, b1⟩ := kk aC T'.heap ([] ++ Lc) (by rw [e1]; exact hP2) ⟨hD2.1, fun i hi => hsub _ (hD2.2 i hi)⟩ hS2 T' rfl X'
  refine ⟨t2, st t2 ?_, b1⟩
  rw [ha0] at a1
  exact a1
end LWE
theorem va_K.oneL {D : va_G} {s : State} {cA cB : ClassId} {tys : List (ClassId × FieldType)} {i : Nat} (hK : va_K D vwCl (tys ++ [(cA, .long)]) s) (hi : tys[i]? = some (cB, .long)) : cA = cB := by
  have h1 := (hK.2 tys.length (cA, .long) (by simp)).2
  have h2 := (hK.2 i (cB, .long) (by rw [List.getElem?_append_left (List.getElem?_eq_some_iff.mp hi).1]; exact hi)).2
  exact Option.some.inj (h1.symm.trans h2)
theorem ag_memA : ∀ j, j < 24 → Cond.eq (.elem (.static "UndoWorks" "BELOW_A" "[I") (.int (Int32.ofNat j))) (.int (ag_fA j)) ∈ flatC (Jvm.Cond.and given_1 narrow_1) := by decide +kernel
theorem ag_memB : ∀ j, j < 24 → Cond.eq (.elem (.static "UndoWorks" "BELOW_B" "[I") (.int (Int32.ofNat j))) (.int (ag_fB j)) ∈ flatC (Jvm.Cond.and given_1 narrow_1) := by decide +kernel
theorem ag_start {s : State} {args : Array Value} (hts0 : ∀ w ∈ lw_tbl, w.before args s = true) (hs : ∀ c ∈ flatC (Jvm.Cond.and given_1 narrow_1), c.before args s = true) : ag_X (lw_A s.heap.size) s s.heap ∧ va_Nc xS xI s ∧ cn_nest s := by
  have hA : ∀ a : Nat, a < s.heap.size → ¬ lw_A s.heap.size a := fun a h q => Nat.not_le.mpr h q
  obtain ⟨a1, _, _, _, q1, -⟩ := Cond.exactly_spec (args := args) (first := s) (o := none) (s := s) (idx := []) (t := .string "UndoWorks" 129) (cls := "java/lang/String") (hs _ (by decide +kernel))
  obtain ⟨a2, _, _, _, q2, -⟩ := Cond.exactly_spec (args := args) (first := s) (o := none) (s := s) (idx := []) (t := .string "UndoWorks" 54) (cls := "java/lang/String") (hs _ (by decide +kernel))
  obtain ⟨a3, _, _, _, q3, -⟩ := Cond.exactly_spec (args := args) (first := s) (o := none) (s := s) (idx := []) (t := .string "UndoWorks" 74) (cls := "java/lang/String") (hs _ (by decide +kernel))
  obtain ⟨tA, hA1, hA2⟩ := va_Tof (tm := .static "UndoWorks" "BELOW_A" "[I") (ty := .int) (N := 24) (f := fun k => .int (ag_fA k)) (A := lw_A s.heap.size) (by decide) (hs _ (by decide +kernel)) (va_eqt (hs (.eq (.length (.static "UndoWorks" "BELOW_A" "[I")) (.int 24)) (by decide +kernel))) (fun j hj => va_eqt (hs _ (ag_memA j hj))) hA
  obtain ⟨tB, hB1, hB2⟩ := va_Tof (tm := .static "UndoWorks" "BELOW_B" "[I") (ty := .int) (N := 24) (f := fun k => .int (ag_fB k)) (A := lw_A s.heap.size) (by decide) (hs _ (by decide +kernel)) (va_eqt (hs (.eq (.length (.static "UndoWorks" "BELOW_B" "[I")) (.int 24)) (by decide +kernel))) (fun j hj => va_eqt (hs _ (ag_memB j hj))) hA
  have hini : (Cond.initialized "UndoWorks").before args s = true := hts0 _ (by decide +kernel)
  refine ⟨⟨vx_Zqof (hts0 _ (by decide +kernel)) (hts0 _ (by decide +kernel)) (hs _ (by decide +kernel)) hA, vx_Zqof (hts0 _ (by decide +kernel)) (hts0 _ (by decide +kernel)) (hs _ (by decide +kernel)) hA, ⟨⟨a1, vk_R.of (A := args) (hts0 _ (by decide +kernel)) q1⟩, ⟨a2, vk_R.of (A := args) (hts0 _ (by decide +kernel)) q2⟩, ⟨a3, vk_R.of (A := args) (hts0 _ (by decide +kernel)) q3⟩⟩,
    ⟨tA, va_Zref (hts0 _ (by decide +kernel)) hini hA1 hA, hA2⟩, ⟨tB, va_Zref (hts0 _ (by decide +kernel)) hini hB1 hA, hB2⟩, fun w hw => ?_⟩, va_Nc.of (args := args) (hs _ (by decide +kernel)), va_Nw.of rfl (hts0 _ (by decide +kernel)), va_Nw.of rfl (hts0 _ (by decide +kernel)), va_Nw.of rfl (hts0 _ (by decide +kernel)), va_AO.of (A := args) (hts0 _ (by decide +kernel))⟩
  have hin : ∀ w ∈ ag_ngl, w ∈ lw_tbl := by decide +kernel
  exact va_Nw.of (ag_ngl_ot w hw) (hts0 w (hin w hw))
theorem lw_known {s : State} {args : Array Value} (hts0 : ∀ w ∈ lw_tbl, w.before args s = true) : ∃ (dC : Nat → ClassId) (dI : Nat → Nat → Nat) (cI cW cJ : ClassId), va_K (dC, dI) vwCl (lw_tys cI cW cJ) s := by
  obtain ⟨c0, i0, k0⟩ := u_known (C := RX0) (T := TX0) (N := 7) (n := 7) hts0 inX0 (hts0 (.instantiable RX0 7) (by decide +kernel))
  obtain ⟨c1, i1, k1⟩ := u_known (C := RX1) (T := TX1) (N := 9) (n := 9) hts0 inX1 (hts0 (.instantiable RX1 9) (by decide +kernel))
  obtain ⟨c2, i2, k2⟩ := u_known (C := RX2) (T := TX2) (N := 9) (n := 9) hts0 inX2 (hts0 (.instantiable RX2 9) (by decide +kernel))
  obtain ⟨c3, i3, k3⟩ := u_known (C := RX3) (T := TX3) (N := 6) (n := 6) hts0 inX3 (hts0 (.instantiable RX3 6) (by decide +kernel))
  obtain ⟨c4, i4, k4⟩ := u_known (C := RX4) (T := TX4) (N := 43) (n := 43) hts0 inX4 (hts0 (.instantiable RX4 43) (by decide +kernel))
  obtain ⟨cI, kI, pI, fI, gI, tI⟩ := Cond.arrayClass_spec (hts0 (.arrayClass .int) (by decide +kernel))
  obtain ⟨cJ, kJ, pJ, fJ, gJ, tJ⟩ := Cond.arrayClass_spec (hts0 (.arrayClass .long) (by decide +kernel))
  obtain ⟨comp, cW, kW, fC, -, gW, tW, fW⟩ := Cond.arrayOver_spec (hts0 (.arrayOver (.object RX2)) (by decide +kernel))
  refine ⟨fun c => match c with | 0 => c0 | 1 => c1 | 2 => c2 | 3 => c3 | _ => c4, fun c => match c with | 0 => i0 | 1 => i1 | 2 => i2 | 3 => i3 | _ => i4, cI, cW, cJ, fun c q hq => ?_, fun k q hk => ?_⟩
  · match c, hq with
    | 0, hq => cases hq; exact k0
    | 1, hq => cases hq; exact k1
    | 2, hq => cases hq; exact k2
    | 3, hq => cases hq; exact k3
    | 4, hq => cases hq; exact k4
    | c + 5, hq => cases hq
  · match k, hk with
    | 0, hk => cases hk; exact ⟨fun n z => ⟨fun k h => (by cases h), kI, gI, pI, tI⟩, fI⟩
    | 1, hk => cases hk; exact ⟨fun n z => ⟨fun k h => (by cases h), kW, gW, comp, tW⟩, kW, comp, gW, tW, fC, fW⟩
    | 2, hk => cases hk; exact ⟨fun n z => ⟨fun k h => (by cases h), kJ, gJ, pJ, tJ⟩, fJ⟩
    | k + 3, hk => cases hk
