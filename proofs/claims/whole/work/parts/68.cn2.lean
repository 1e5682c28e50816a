/-! constructors of the leaves: a row each of int arrays -/
def cn_A (o sz : Nat) : Nat → Prop := fun q => q = o ∨ sz ≤ q
def cn_Qc (D : va_G) (tys : List (ClassId × FieldType)) (A : Nat → Prop) (W' : (Nat → Nat) → va_W) : Array Value → State → Outcome → State → Prop := fun _ st oc t => (∃ q : Nat → Nat, oc = .returned none ∧ va_P D vwCl (W' q) t.heap ∧ va_D A (W' q) ∧ va_K D vwCl tys t) ∧ va_F A st t
/-- a constructor of a fresh object: the world that it leaves -/
def cn_C (l : Launch) (y : MethodName) (cc : ByteArray) (nL d K V ci : Nat) (fs0 : List Value) (W' : ClassId → Nat → (Nat → Nat) → va_W) : Prop :=
  ∀ (dC : Nat → ClassId) (dI : Nat → Nat → Nat) (cI cW : ClassId) (o sz : Nat), Met l y (Cond.code y cc nL none :: ab_all) (ag_rm d K V) (va_Pc [.ref o] (fun U => U.heap.size = sz ∧ va_P (dC, dI) vwCl [(o, .inr (ci, fs0))] U.heap ∧ va_K (dC, dI) vwCl (ab_tys cI cW) U)) (cn_Qc (dC, dI) (ab_tys cI cW) (cn_A o sz) (W' cI o)) K V (cn_A o sz)
theorem cn_D0 {A : Nat → Prop} {o : Nat} {x : va_E} (hA : A o) : va_D A [(o, x)] := by
  refine ⟨fun i j p q hp hq _ => ?_, fun k q hq => ?_⟩
  · have hi := (List.getElem?_eq_some_iff.mp hp).1
    have hj := (List.getElem?_eq_some_iff.mp hq).1
    simp only [List.length_cons, List.length_nil] at hi hj
    omega
  · obtain ⟨hk, e⟩ := List.getElem?_eq_some_iff.mp hq
    have : k = 0 := by simp only [List.length_cons, List.length_nil] at hk; omega
    subst this
    rw [← e]
    exact hA
abbrev cn_z (cI : ClassId) (q n : Nat) : Nat × va_E := (q, .inl (cI, n, .inl (fun _ => 0)))
theorem cF0_9 : cn_F RX0 9 0 0 true "[I" := ⟨RX0, TX0, 7, tyX0, rfl, by decide, ab_in0, tyX0_ok, nmX0, by decide +kernel, rfl, rfl, rfl⟩
theorem cF0_15 : cn_F RX0 15 0 1 true "[I" := ⟨RX0, TX0, 7, tyX0, rfl, by decide, ab_in0, tyX0_ok, nmX0, by decide +kernel, rfl, rfl, rfl⟩
theorem cF0_18 : cn_F RX0 18 0 2 false "I" := ⟨RX0, TX0, 7, tyX0, rfl, by decide, ab_in0, tyX0_ok, nmX0, by decide +kernel, rfl, rfl, rfl⟩
theorem cF0_22 : cn_F RX0 22 0 3 true "[I" := ⟨RX0, TX0, 7, tyX0, rfl, by decide, ab_in0, tyX0_ok, nmX0, by decide +kernel, rfl, rfl, rfl⟩
theorem cF0_25 : cn_F RX0 25 0 4 true "[I" := ⟨RX0, TX0, 7, tyX0, rfl, by decide, ab_in0, tyX0_ok, nmX0, by decide +kernel, rfl, rfl, rfl⟩
theorem cF0_28 : cn_F RX0 28 0 5 true "[I" := ⟨RX0, TX0, 7, tyX0, rfl, by decide, ab_in0, tyX0_ok, nmX0, by decide +kernel, rfl, rfl, rfl⟩
abbrev cn_f0 : List Value := [.null, .null, .int 0, .null, .null, .null, .int 0]
abbrev cn_w0 (cI : ClassId) (o : Nat) (q : Nat → Nat) : va_W := [(o, .inr (0, [.ref (q 0), .ref (q 1), .int 8, .ref (q 2), .ref (q 3), .ref (q 4), .int 0])), cn_z cI (q 0) 8, cn_z cI (q 1) 16, cn_z cI (q 2) 4, cn_z cI (q 3) 4, cn_z cI (q 4) 100]
theorem cO0 : Cond.methodLink RX0 3 objectInit ∈ ab_all := by decide +kernel
set_option maxRecDepth 100000 in
set_option maxHeartbeats 2000000 in
theorem kn0 {l : Launch} {d : Nat} : cn_C l yX0_init cX0_init 1 (d + 1) 5 132 0 cn_f0 cn_w0 := by
  intro dC dI cI cW o sz
  refine Met.ofW (cc := cX0_init) (maxL := 1) (ret := none) (by decide) rfl ?_
  intro p e s m args below meth c s₁ B hml hv
  obtain ⟨rfl, hsz, hP, hK⟩ := hv
  have hts0 := atoms_spec (ws := Cond.code yX0_init cX0_init 1 none :: ab_all) B.pre
  subst hsz
  have X : cn_Cx RX0 cX0_init 1 (dC, dI) (ab_tys cI cW) cI s.heap (cn_A o s.heap.size) p s m #[.ref o] meth c := ⟨B.exec, B.bytes, hml, findClass_of_methodNamed B.named, fun w h => hts0 w (List.mem_cons_of_mem _ h), (name_of_methodNamed B.named B.method).1, hK, rfl, fun q h => Or.inr h⟩
  have hl := lv_entry ([.ref o] : List Value) (n := 1) (Nat.le_of_ble_eq_true rfl)
  rw [lg_entry_eq]
  generalize (lg_sl ([.ref o] : List Value) ++ List.replicate (1 - (lg_sl ([.ref o] : List Value)).length) Slot.unset).toArray = ls at hl ⊢
  have hl0 : ls[0]? = some (.val (.ref o)) := lv_at hl 0 rfl
  have hD : va_D (cn_A o s.heap.size) [(o, .inr (0, cn_f0))] := cn_D0 (Or.inl rfl)
  have hS : va_S (cn_A o s.heap.size) s.heap s.heap [] := va_S.rf
  refine lv_aload_n X.1 X.2.1 dX0_init_0 rfl hl0 ?_
  refine cn_obj X cO0 hl.1 (Nat.succ_le_succ (Nat.zero_le d)) (show 0 + 12 ≤ 40 * (d + 1) by omega) dX0_init_1 ?_
  refine cn_arr (pc := 4) (len := 2) (n := 8) (N' := 8) X cF0_9 hP hD hS hl0 dX0_init_4 (fun w => lv_bipush X.1 X.2.1 dX0_init_5 (v := 8) (by decide) w) (by decide) (by decide) (by decide) (show 0 + 1 ≤ 5 by decide) (show 0 + 8 ≤ 132 by decide) dX0_init_7 dX0_init_9 (Nat.le_of_ble_eq_true rfl) (fun q0 H0 locs0 hP0 hD0 hS0 => ?_)
  replace hP0 : va_P (dC, dI) vwCl [(o, .inr (0, [.ref q0, .null, .int 0, .null, .null, .null, .int 0])), cn_z cI q0 8] H0 := hP0
  replace hD0 : va_D (cn_A o s.heap.size) [(o, .inr (0, [.ref q0, .null, .int 0, .null, .null, .null, .int 0])), cn_z cI q0 8] := hD0
  refine cn_arr (pc := 12) (len := 2) (n := 16) (N' := 16) X cF0_15 hP0 hD0 hS0 hl0 dX0_init_12 (fun w => lv_bipush X.1 X.2.1 dX0_init_13 (v := 16) (by decide) w) (by decide) (by decide) (by decide) (show (0 + 1) + 1 ≤ 5 by decide) (show (0 + 8) + 16 ≤ 132 by decide) dX0_init_15 dX0_init_17 (Nat.le_of_ble_eq_true rfl) (fun q1 H1 locs1 hP1 hD1 hS1 => ?_)
  replace hP1 : va_P (dC, dI) vwCl [(o, .inr (0, [.ref q0, .ref q1, .int 0, .null, .null, .null, .int 0])), cn_z cI q0 8, cn_z cI q1 16] H1 := hP1
  replace hD1 : va_D (cn_A o s.heap.size) [(o, .inr (0, [.ref q0, .ref q1, .int 0, .null, .null, .null, .int 0])), cn_z cI q0 8, cn_z cI q1 16] := hD1
  refine lv_aload_n X.1 X.2.1 dX0_init_20 rfl hl0 ?_
  refine lv_bipush X.1 X.2.1 dX0_init_21 (v := 8) (by decide) ?_
  refine cn_puti (v := 8) X cF0_18 hP1 hD1 hS1 (Nat.le_of_ble_eq_true rfl) dX0_init_23 (fun H2 locs2 hP2 hD2 hS2 => ?_)
  replace hP2 : va_P (dC, dI) vwCl [(o, .inr (0, [.ref q0, .ref q1, .int 8, .null, .null, .null, .int 0])), cn_z cI q0 8, cn_z cI q1 16] H2 := hP2
  replace hD2 : va_D (cn_A o s.heap.size) [(o, .inr (0, [.ref q0, .ref q1, .int 8, .null, .null, .null, .int 0])), cn_z cI q0 8, cn_z cI q1 16] := hD2
  refine cn_arr (pc := 26) (len := 1) (n := 4) (N' := 4) X cF0_22 hP2 hD2 hS2 hl0 dX0_init_26 (fun w => lv_iconst X.1 X.2.1 dX0_init_27 (v := 4) (by decide) w) (by decide) (by decide) (by decide) (show ((0 + 1) + 1) + 1 ≤ 5 by decide) (show ((0 + 8) + 16) + 4 ≤ 132 by decide) dX0_init_28 dX0_init_30 (Nat.le_of_ble_eq_true rfl) (fun q2 H3 locs3 hP3 hD3 hS3 => ?_)
  replace hP3 : va_P (dC, dI) vwCl [(o, .inr (0, [.ref q0, .ref q1, .int 8, .ref q2, .null, .null, .int 0])), cn_z cI q0 8, cn_z cI q1 16, cn_z cI q2 4] H3 := hP3
  replace hD3 : va_D (cn_A o s.heap.size) [(o, .inr (0, [.ref q0, .ref q1, .int 8, .ref q2, .null, .null, .int 0])), cn_z cI q0 8, cn_z cI q1 16, cn_z cI q2 4] := hD3
  refine cn_arr (pc := 33) (len := 1) (n := 4) (N' := 4) X cF0_25 hP3 hD3 hS3 hl0 dX0_init_33 (fun w => lv_iconst X.1 X.2.1 dX0_init_34 (v := 4) (by decide) w) (by decide) (by decide) (by decide) (show (((0 + 1) + 1) + 1) + 1 ≤ 5 by decide) (show (((0 + 8) + 16) + 4) + 4 ≤ 132 by decide) dX0_init_35 dX0_init_37 (Nat.le_of_ble_eq_true rfl) (fun q3 H4 locs4 hP4 hD4 hS4 => ?_)
  replace hP4 : va_P (dC, dI) vwCl [(o, .inr (0, [.ref q0, .ref q1, .int 8, .ref q2, .ref q3, .null, .int 0])), cn_z cI q0 8, cn_z cI q1 16, cn_z cI q2 4, cn_z cI q3 4] H4 := hP4
  replace hD4 : va_D (cn_A o s.heap.size) [(o, .inr (0, [.ref q0, .ref q1, .int 8, .ref q2, .ref q3, .null, .int 0])), cn_z cI q0 8, cn_z cI q1 16, cn_z cI q2 4, cn_z cI q3 4] := hD4
  refine cn_arr (pc := 40) (len := 2) (n := 100) (N' := 100) X cF0_28 hP4 hD4 hS4 hl0 dX0_init_40 (fun w => lv_bipush X.1 X.2.1 dX0_init_41 (v := 100) (by decide) w) (by decide) (by decide) (by decide) (show ((((0 + 1) + 1) + 1) + 1) + 1 ≤ 5 by decide) (show ((((0 + 8) + 16) + 4) + 4) + 100 ≤ 132 by decide) dX0_init_43 dX0_init_45 (Nat.le_of_ble_eq_true rfl) (fun q4 H5 locs5 hP5 hD5 hS5 => ?_)
  replace hP5 : va_P (dC, dI) vwCl [(o, .inr (0, [.ref q0, .ref q1, .int 8, .ref q2, .ref q3, .ref q4, .int 0])), cn_z cI q0 8, cn_z cI q1 16, cn_z cI q2 4, cn_z cI q3 4, cn_z cI q4 100] H5 := hP5
  replace hD5 : va_D (cn_A o s.heap.size) [(o, .inr (0, [.ref q0, .ref q1, .int 8, .ref q2, .ref q3, .ref q4, .int 0])), cn_z cI q0 8, cn_z cI q1 16, cn_z cI q2 4, cn_z cI q3 4, cn_z cI q4 100] := hD5
  exact W.vret X.1 X.2.1 B.returns (fun t ht hW => ⟨⟨fun k => ([q0, q1, q2, q3, q4] : List Nat).getD k 0, rfl, by rw [ht]; exact hP5, hD5, va_K.moved hW.alike hK⟩, hS5.F ht⟩) hS5.2.2 dX0_init_48 B.notSynchronized
theorem cF1_11 : cn_F RX1 11 1 0 true "[I" := ⟨RX1, TX1, 9, tyX1, rfl, by decide, ab_in1, tyX1_ok, nmX1, by decide +kernel, rfl, rfl, rfl⟩
theorem cF1_15 : cn_F RX1 15 1 1 true "[I" := ⟨RX1, TX1, 9, tyX1, rfl, by decide, ab_in1, tyX1_ok, nmX1, by decide +kernel, rfl, rfl, rfl⟩
theorem cF1_18 : cn_F RX1 18 1 2 true "[I" := ⟨RX1, TX1, 9, tyX1, rfl, by decide, ab_in1, tyX1_ok, nmX1, by decide +kernel, rfl, rfl, rfl⟩
theorem cF1_21 : cn_F RX1 21 1 3 true "[I" := ⟨RX1, TX1, 9, tyX1, rfl, by decide, ab_in1, tyX1_ok, nmX1, by decide +kernel, rfl, rfl, rfl⟩
theorem cF1_24 : cn_F RX1 24 1 4 true "[I" := ⟨RX1, TX1, 9, tyX1, rfl, by decide, ab_in1, tyX1_ok, nmX1, by decide +kernel, rfl, rfl, rfl⟩
theorem cF1_27 : cn_F RX1 27 1 6 false "I" := ⟨RX1, TX1, 9, tyX1, rfl, by decide, ab_in1, tyX1_ok, nmX1, by decide +kernel, rfl, rfl, rfl⟩
abbrev cn_f1 : List Value := [.null, .null, .null, .null, .null, .int 0, .int 0, .int 0, .int 0]
abbrev cn_w1 (cI : ClassId) (o : Nat) (q : Nat → Nat) : va_W := [(o, .inr (1, [.ref (q 0), .ref (q 1), .ref (q 2), .ref (q 3), .ref (q 4), .int 0, .int (-1), .int 0, .int 0])), cn_z cI (q 0) 60, cn_z cI (q 1) 60, cn_z cI (q 2) 60, cn_z cI (q 3) 60, cn_z cI (q 4) 960]
theorem cO1 : Cond.methodLink RX1 3 objectInit ∈ ab_all := by decide +kernel
set_option maxRecDepth 100000 in
set_option maxHeartbeats 2000000 in
theorem kn1 {l : Launch} {d : Nat} : cn_C l yX1_init cX1_init 1 (d + 1) 5 1200 1 cn_f1 cn_w1 := by
  intro dC dI cI cW o sz
  refine Met.ofW (cc := cX1_init) (maxL := 1) (ret := none) (by decide) rfl ?_
  intro p e s m args below meth c s₁ B hml hv
  obtain ⟨rfl, hsz, hP, hK⟩ := hv
  have hts0 := atoms_spec (ws := Cond.code yX1_init cX1_init 1 none :: ab_all) B.pre
  subst hsz
  have X : cn_Cx RX1 cX1_init 1 (dC, dI) (ab_tys cI cW) cI s.heap (cn_A o s.heap.size) p s m #[.ref o] meth c := ⟨B.exec, B.bytes, hml, findClass_of_methodNamed B.named, fun w h => hts0 w (List.mem_cons_of_mem _ h), (name_of_methodNamed B.named B.method).1, hK, rfl, fun q h => Or.inr h⟩
  have hl := lv_entry ([.ref o] : List Value) (n := 1) (Nat.le_of_ble_eq_true rfl)
  rw [lg_entry_eq]
  generalize (lg_sl ([.ref o] : List Value) ++ List.replicate (1 - (lg_sl ([.ref o] : List Value)).length) Slot.unset).toArray = ls at hl ⊢
  have hl0 : ls[0]? = some (.val (.ref o)) := lv_at hl 0 rfl
  have hD : va_D (cn_A o s.heap.size) [(o, .inr (1, cn_f1))] := cn_D0 (Or.inl rfl)
  have hS : va_S (cn_A o s.heap.size) s.heap s.heap [] := va_S.rf
  refine lv_aload_n X.1 X.2.1 dX1_init_0 rfl hl0 ?_
  refine cn_obj X cO1 hl.1 (Nat.succ_le_succ (Nat.zero_le d)) (show 0 + 12 ≤ 40 * (d + 1) by omega) dX1_init_1 ?_
  refine cn_arr (pc := 4) (len := 2) (n := 60) (N' := 60) X cF1_11 hP hD hS hl0 dX1_init_4 (fun w => lv_bipush X.1 X.2.1 dX1_init_5 (v := 60) (by decide) w) (by decide) (by decide) (by decide) (show 0 + 1 ≤ 5 by decide) (show 0 + 60 ≤ 1200 by decide) dX1_init_7 dX1_init_9 (Nat.le_of_ble_eq_true rfl) (fun q0 H0 locs0 hP0 hD0 hS0 => ?_)
  replace hP0 : va_P (dC, dI) vwCl [(o, .inr (1, [.ref q0, .null, .null, .null, .null, .int 0, .int 0, .int 0, .int 0])), cn_z cI q0 60] H0 := hP0
  replace hD0 : va_D (cn_A o s.heap.size) [(o, .inr (1, [.ref q0, .null, .null, .null, .null, .int 0, .int 0, .int 0, .int 0])), cn_z cI q0 60] := hD0
  refine cn_arr (pc := 12) (len := 2) (n := 60) (N' := 60) X cF1_15 hP0 hD0 hS0 hl0 dX1_init_12 (fun w => lv_bipush X.1 X.2.1 dX1_init_13 (v := 60) (by decide) w) (by decide) (by decide) (by decide) (show (0 + 1) + 1 ≤ 5 by decide) (show (0 + 60) + 60 ≤ 1200 by decide) dX1_init_15 dX1_init_17 (Nat.le_of_ble_eq_true rfl) (fun q1 H1 locs1 hP1 hD1 hS1 => ?_)
  replace hP1 : va_P (dC, dI) vwCl [(o, .inr (1, [.ref q0, .ref q1, .null, .null, .null, .int 0, .int 0, .int 0, .int 0])), cn_z cI q0 60, cn_z cI q1 60] H1 := hP1
  replace hD1 : va_D (cn_A o s.heap.size) [(o, .inr (1, [.ref q0, .ref q1, .null, .null, .null, .int 0, .int 0, .int 0, .int 0])), cn_z cI q0 60, cn_z cI q1 60] := hD1
  refine cn_arr (pc := 20) (len := 2) (n := 60) (N' := 60) X cF1_18 hP1 hD1 hS1 hl0 dX1_init_20 (fun w => lv_bipush X.1 X.2.1 dX1_init_21 (v := 60) (by decide) w) (by decide) (by decide) (by decide) (show ((0 + 1) + 1) + 1 ≤ 5 by decide) (show ((0 + 60) + 60) + 60 ≤ 1200 by decide) dX1_init_23 dX1_init_25 (Nat.le_of_ble_eq_true rfl) (fun q2 H2 locs2 hP2 hD2 hS2 => ?_)
  replace hP2 : va_P (dC, dI) vwCl [(o, .inr (1, [.ref q0, .ref q1, .ref q2, .null, .null, .int 0, .int 0, .int 0, .int 0])), cn_z cI q0 60, cn_z cI q1 60, cn_z cI q2 60] H2 := hP2
  replace hD2 : va_D (cn_A o s.heap.size) [(o, .inr (1, [.ref q0, .ref q1, .ref q2, .null, .null, .int 0, .int 0, .int 0, .int 0])), cn_z cI q0 60, cn_z cI q1 60, cn_z cI q2 60] := hD2
  refine cn_arr (pc := 28) (len := 2) (n := 60) (N' := 60) X cF1_21 hP2 hD2 hS2 hl0 dX1_init_28 (fun w => lv_bipush X.1 X.2.1 dX1_init_29 (v := 60) (by decide) w) (by decide) (by decide) (by decide) (show (((0 + 1) + 1) + 1) + 1 ≤ 5 by decide) (show (((0 + 60) + 60) + 60) + 60 ≤ 1200 by decide) dX1_init_31 dX1_init_33 (Nat.le_of_ble_eq_true rfl) (fun q3 H3 locs3 hP3 hD3 hS3 => ?_)
  replace hP3 : va_P (dC, dI) vwCl [(o, .inr (1, [.ref q0, .ref q1, .ref q2, .ref q3, .null, .int 0, .int 0, .int 0, .int 0])), cn_z cI q0 60, cn_z cI q1 60, cn_z cI q2 60, cn_z cI q3 60] H3 := hP3
  replace hD3 : va_D (cn_A o s.heap.size) [(o, .inr (1, [.ref q0, .ref q1, .ref q2, .ref q3, .null, .int 0, .int 0, .int 0, .int 0])), cn_z cI q0 60, cn_z cI q1 60, cn_z cI q2 60, cn_z cI q3 60] := hD3
  refine cn_arr (pc := 36) (len := 3) (n := 960) (N' := 960) X cF1_24 hP3 hD3 hS3 hl0 dX1_init_36 (fun w => lv_sipush X.1 X.2.1 dX1_init_37 (v := 960) (by decide) w) (by decide) (by decide) (by decide) (show ((((0 + 1) + 1) + 1) + 1) + 1 ≤ 5 by decide) (show ((((0 + 60) + 60) + 60) + 60) + 960 ≤ 1200 by decide) dX1_init_40 dX1_init_42 (Nat.le_of_ble_eq_true rfl) (fun q4 H4 locs4 hP4 hD4 hS4 => ?_)
  replace hP4 : va_P (dC, dI) vwCl [(o, .inr (1, [.ref q0, .ref q1, .ref q2, .ref q3, .ref q4, .int 0, .int 0, .int 0, .int 0])), cn_z cI q0 60, cn_z cI q1 60, cn_z cI q2 60, cn_z cI q3 60, cn_z cI q4 960] H4 := hP4
  replace hD4 : va_D (cn_A o s.heap.size) [(o, .inr (1, [.ref q0, .ref q1, .ref q2, .ref q3, .ref q4, .int 0, .int 0, .int 0, .int 0])), cn_z cI q0 60, cn_z cI q1 60, cn_z cI q2 60, cn_z cI q3 60, cn_z cI q4 960] := hD4
  refine lv_aload_n X.1 X.2.1 dX1_init_45 rfl hl0 ?_
  refine lv_iconst X.1 X.2.1 dX1_init_46 (v := (-1)) (by decide) ?_
  refine cn_puti (v := (-1)) X cF1_27 hP4 hD4 hS4 (Nat.le_of_ble_eq_true rfl) dX1_init_47 (fun H5 locs5 hP5 hD5 hS5 => ?_)
  replace hP5 : va_P (dC, dI) vwCl [(o, .inr (1, [.ref q0, .ref q1, .ref q2, .ref q3, .ref q4, .int 0, .int (-1), .int 0, .int 0])), cn_z cI q0 60, cn_z cI q1 60, cn_z cI q2 60, cn_z cI q3 60, cn_z cI q4 960] H5 := hP5
  replace hD5 : va_D (cn_A o s.heap.size) [(o, .inr (1, [.ref q0, .ref q1, .ref q2, .ref q3, .ref q4, .int 0, .int (-1), .int 0, .int 0])), cn_z cI q0 60, cn_z cI q1 60, cn_z cI q2 60, cn_z cI q3 60, cn_z cI q4 960] := hD5
  exact W.vret X.1 X.2.1 B.returns (fun t ht hW => ⟨⟨fun k => ([q0, q1, q2, q3, q4] : List Nat).getD k 0, rfl, by rw [ht]; exact hP5, hD5, va_K.moved hW.alike hK⟩, hS5.F ht⟩) hS5.2.2 dX1_init_50 B.notSynchronized
theorem cF2_9 : cn_F RX2 9 2 0 true "[I" := ⟨RX2, TX2, 9, tyX2, rfl, by decide, ab_in2, tyX2_ok, nmX2, by decide +kernel, rfl, rfl, rfl⟩
theorem cF2_15 : cn_F RX2 15 2 1 true "[I" := ⟨RX2, TX2, 9, tyX2, rfl, by decide, ab_in2, tyX2_ok, nmX2, by decide +kernel, rfl, rfl, rfl⟩
theorem cF2_18 : cn_F RX2 18 2 2 true "[I" := ⟨RX2, TX2, 9, tyX2, rfl, by decide, ab_in2, tyX2_ok, nmX2, by decide +kernel, rfl, rfl, rfl⟩
theorem cF2_21 : cn_F RX2 21 2 3 true "[I" := ⟨RX2, TX2, 9, tyX2, rfl, by decide, ab_in2, tyX2_ok, nmX2, by decide +kernel, rfl, rfl, rfl⟩
theorem cF2_24 : cn_F RX2 24 2 4 true "[I" := ⟨RX2, TX2, 9, tyX2, rfl, by decide, ab_in2, tyX2_ok, nmX2, by decide +kernel, rfl, rfl, rfl⟩
theorem cF2_27 : cn_F RX2 27 2 5 true "[I" := ⟨RX2, TX2, 9, tyX2, rfl, by decide, ab_in2, tyX2_ok, nmX2, by decide +kernel, rfl, rfl, rfl⟩
theorem cF2_30 : cn_F RX2 30 2 6 true "[I" := ⟨RX2, TX2, 9, tyX2, rfl, by decide, ab_in2, tyX2_ok, nmX2, by decide +kernel, rfl, rfl, rfl⟩
abbrev cn_f2 : List Value := [.null, .null, .null, .null, .null, .null, .null, .int 0, .int 0]
abbrev cn_w2 (cI : ClassId) (o : Nat) (q : Nat → Nat) : va_W := [(o, .inr (2, [.ref (q 0), .ref (q 1), .ref (q 2), .ref (q 3), .ref (q 4), .ref (q 5), .ref (q 6), .int 0, .int 0])), cn_z cI (q 0) 60, cn_z cI (q 1) 60, cn_z cI (q 2) 60, cn_z cI (q 3) 60, cn_z cI (q 4) 60, cn_z cI (q 5) 10, cn_z cI (q 6) 10]
theorem cO2 : Cond.methodLink RX2 3 objectInit ∈ ab_all := by decide +kernel
set_option maxRecDepth 100000 in
set_option maxHeartbeats 2000000 in
theorem kn2 {l : Launch} {d : Nat} : cn_C l yX2_init cX2_init 1 (d + 1) 7 320 2 cn_f2 cn_w2 := by
  intro dC dI cI cW o sz
  refine Met.ofW (cc := cX2_init) (maxL := 1) (ret := none) (by decide) rfl ?_
  intro p e s m args below meth c s₁ B hml hv
  obtain ⟨rfl, hsz, hP, hK⟩ := hv
  have hts0 := atoms_spec (ws := Cond.code yX2_init cX2_init 1 none :: ab_all) B.pre
  subst hsz
  have X : cn_Cx RX2 cX2_init 1 (dC, dI) (ab_tys cI cW) cI s.heap (cn_A o s.heap.size) p s m #[.ref o] meth c := ⟨B.exec, B.bytes, hml, findClass_of_methodNamed B.named, fun w h => hts0 w (List.mem_cons_of_mem _ h), (name_of_methodNamed B.named B.method).1, hK, rfl, fun q h => Or.inr h⟩
  have hl := lv_entry ([.ref o] : List Value) (n := 1) (Nat.le_of_ble_eq_true rfl)
  rw [lg_entry_eq]
  generalize (lg_sl ([.ref o] : List Value) ++ List.replicate (1 - (lg_sl ([.ref o] : List Value)).length) Slot.unset).toArray = ls at hl ⊢
  have hl0 : ls[0]? = some (.val (.ref o)) := lv_at hl 0 rfl
  have hD : va_D (cn_A o s.heap.size) [(o, .inr (2, cn_f2))] := cn_D0 (Or.inl rfl)
  have hS : va_S (cn_A o s.heap.size) s.heap s.heap [] := va_S.rf
  refine lv_aload_n X.1 X.2.1 dX2_init_0 rfl hl0 ?_
  refine cn_obj X cO2 hl.1 (Nat.succ_le_succ (Nat.zero_le d)) (show 0 + 12 ≤ 40 * (d + 1) by omega) dX2_init_1 ?_
  refine cn_arr (pc := 4) (len := 2) (n := 60) (N' := 60) X cF2_9 hP hD hS hl0 dX2_init_4 (fun w => lv_bipush X.1 X.2.1 dX2_init_5 (v := 60) (by decide) w) (by decide) (by decide) (by decide) (show 0 + 1 ≤ 7 by decide) (show 0 + 60 ≤ 320 by decide) dX2_init_7 dX2_init_9 (Nat.le_of_ble_eq_true rfl) (fun q0 H0 locs0 hP0 hD0 hS0 => ?_)
  replace hP0 : va_P (dC, dI) vwCl [(o, .inr (2, [.ref q0, .null, .null, .null, .null, .null, .null, .int 0, .int 0])), cn_z cI q0 60] H0 := hP0
  replace hD0 : va_D (cn_A o s.heap.size) [(o, .inr (2, [.ref q0, .null, .null, .null, .null, .null, .null, .int 0, .int 0])), cn_z cI q0 60] := hD0
  refine cn_arr (pc := 12) (len := 2) (n := 60) (N' := 60) X cF2_15 hP0 hD0 hS0 hl0 dX2_init_12 (fun w => lv_bipush X.1 X.2.1 dX2_init_13 (v := 60) (by decide) w) (by decide) (by decide) (by decide) (show (0 + 1) + 1 ≤ 7 by decide) (show (0 + 60) + 60 ≤ 320 by decide) dX2_init_15 dX2_init_17 (Nat.le_of_ble_eq_true rfl) (fun q1 H1 locs1 hP1 hD1 hS1 => ?_)
  replace hP1 : va_P (dC, dI) vwCl [(o, .inr (2, [.ref q0, .ref q1, .null, .null, .null, .null, .null, .int 0, .int 0])), cn_z cI q0 60, cn_z cI q1 60] H1 := hP1
  replace hD1 : va_D (cn_A o s.heap.size) [(o, .inr (2, [.ref q0, .ref q1, .null, .null, .null, .null, .null, .int 0, .int 0])), cn_z cI q0 60, cn_z cI q1 60] := hD1
  refine cn_arr (pc := 20) (len := 2) (n := 60) (N' := 60) X cF2_18 hP1 hD1 hS1 hl0 dX2_init_20 (fun w => lv_bipush X.1 X.2.1 dX2_init_21 (v := 60) (by decide) w) (by decide) (by decide) (by decide) (show ((0 + 1) + 1) + 1 ≤ 7 by decide) (show ((0 + 60) + 60) + 60 ≤ 320 by decide) dX2_init_23 dX2_init_25 (Nat.le_of_ble_eq_true rfl) (fun q2 H2 locs2 hP2 hD2 hS2 => ?_)
  replace hP2 : va_P (dC, dI) vwCl [(o, .inr (2, [.ref q0, .ref q1, .ref q2, .null, .null, .null, .null, .int 0, .int 0])), cn_z cI q0 60, cn_z cI q1 60, cn_z cI q2 60] H2 := hP2
  replace hD2 : va_D (cn_A o s.heap.size) [(o, .inr (2, [.ref q0, .ref q1, .ref q2, .null, .null, .null, .null, .int 0, .int 0])), cn_z cI q0 60, cn_z cI q1 60, cn_z cI q2 60] := hD2
  refine cn_arr (pc := 28) (len := 2) (n := 60) (N' := 60) X cF2_21 hP2 hD2 hS2 hl0 dX2_init_28 (fun w => lv_bipush X.1 X.2.1 dX2_init_29 (v := 60) (by decide) w) (by decide) (by decide) (by decide) (show (((0 + 1) + 1) + 1) + 1 ≤ 7 by decide) (show (((0 + 60) + 60) + 60) + 60 ≤ 320 by decide) dX2_init_31 dX2_init_33 (Nat.le_of_ble_eq_true rfl) (fun q3 H3 locs3 hP3 hD3 hS3 => ?_)
  replace hP3 : va_P (dC, dI) vwCl [(o, .inr (2, [.ref q0, .ref q1, .ref q2, .ref q3, .null, .null, .null, .int 0, .int 0])), cn_z cI q0 60, cn_z cI q1 60, cn_z cI q2 60, cn_z cI q3 60] H3 := hP3
  replace hD3 : va_D (cn_A o s.heap.size) [(o, .inr (2, [.ref q0, .ref q1, .ref q2, .ref q3, .null, .null, .null, .int 0, .int 0])), cn_z cI q0 60, cn_z cI q1 60, cn_z cI q2 60, cn_z cI q3 60] := hD3
  refine cn_arr (pc := 36) (len := 2) (n := 60) (N' := 60) X cF2_24 hP3 hD3 hS3 hl0 dX2_init_36 (fun w => lv_bipush X.1 X.2.1 dX2_init_37 (v := 60) (by decide) w) (by decide) (by decide) (by decide) (show ((((0 + 1) + 1) + 1) + 1) + 1 ≤ 7 by decide) (show ((((0 + 60) + 60) + 60) + 60) + 60 ≤ 320 by decide) dX2_init_39 dX2_init_41 (Nat.le_of_ble_eq_true rfl) (fun q4 H4 locs4 hP4 hD4 hS4 => ?_)
  replace hP4 : va_P (dC, dI) vwCl [(o, .inr (2, [.ref q0, .ref q1, .ref q2, .ref q3, .ref q4, .null, .null, .int 0, .int 0])), cn_z cI q0 60, cn_z cI q1 60, cn_z cI q2 60, cn_z cI q3 60, cn_z cI q4 60] H4 := hP4
  replace hD4 : va_D (cn_A o s.heap.size) [(o, .inr (2, [.ref q0, .ref q1, .ref q2, .ref q3, .ref q4, .null, .null, .int 0, .int 0])), cn_z cI q0 60, cn_z cI q1 60, cn_z cI q2 60, cn_z cI q3 60, cn_z cI q4 60] := hD4
  refine cn_arr (pc := 44) (len := 2) (n := 10) (N' := 10) X cF2_27 hP4 hD4 hS4 hl0 dX2_init_44 (fun w => lv_bipush X.1 X.2.1 dX2_init_45 (v := 10) (by decide) w) (by decide) (by decide) (by decide) (show (((((0 + 1) + 1) + 1) + 1) + 1) + 1 ≤ 7 by decide) (show (((((0 + 60) + 60) + 60) + 60) + 60) + 10 ≤ 320 by decide) dX2_init_47 dX2_init_49 (Nat.le_of_ble_eq_true rfl) (fun q5 H5 locs5 hP5 hD5 hS5 => ?_)
  replace hP5 : va_P (dC, dI) vwCl [(o, .inr (2, [.ref q0, .ref q1, .ref q2, .ref q3, .ref q4, .ref q5, .null, .int 0, .int 0])), cn_z cI q0 60, cn_z cI q1 60, cn_z cI q2 60, cn_z cI q3 60, cn_z cI q4 60, cn_z cI q5 10] H5 := hP5
  replace hD5 : va_D (cn_A o s.heap.size) [(o, .inr (2, [.ref q0, .ref q1, .ref q2, .ref q3, .ref q4, .ref q5, .null, .int 0, .int 0])), cn_z cI q0 60, cn_z cI q1 60, cn_z cI q2 60, cn_z cI q3 60, cn_z cI q4 60, cn_z cI q5 10] := hD5
  refine cn_arr (pc := 52) (len := 2) (n := 10) (N' := 10) X cF2_30 hP5 hD5 hS5 hl0 dX2_init_52 (fun w => lv_bipush X.1 X.2.1 dX2_init_53 (v := 10) (by decide) w) (by decide) (by decide) (by decide) (show ((((((0 + 1) + 1) + 1) + 1) + 1) + 1) + 1 ≤ 7 by decide) (show ((((((0 + 60) + 60) + 60) + 60) + 60) + 10) + 10 ≤ 320 by decide) dX2_init_55 dX2_init_57 (Nat.le_of_ble_eq_true rfl) (fun q6 H6 locs6 hP6 hD6 hS6 => ?_)
  replace hP6 : va_P (dC, dI) vwCl [(o, .inr (2, [.ref q0, .ref q1, .ref q2, .ref q3, .ref q4, .ref q5, .ref q6, .int 0, .int 0])), cn_z cI q0 60, cn_z cI q1 60, cn_z cI q2 60, cn_z cI q3 60, cn_z cI q4 60, cn_z cI q5 10, cn_z cI q6 10] H6 := hP6
  replace hD6 : va_D (cn_A o s.heap.size) [(o, .inr (2, [.ref q0, .ref q1, .ref q2, .ref q3, .ref q4, .ref q5, .ref q6, .int 0, .int 0])), cn_z cI q0 60, cn_z cI q1 60, cn_z cI q2 60, cn_z cI q3 60, cn_z cI q4 60, cn_z cI q5 10, cn_z cI q6 10] := hD6
  exact W.vret X.1 X.2.1 B.returns (fun t ht hW => ⟨⟨fun k => ([q0, q1, q2, q3, q4, q5, q6] : List Nat).getD k 0, rfl, by rw [ht]; exact hP6, hD6, va_K.moved hW.alike hK⟩, hS6.F ht⟩) hS6.2.2 dX2_init_60 B.notSynchronized
