/-! the law's six small methods: a call, and what is caught -/
abbrev lw_tys (cI cW cJ : ClassId) : List (ClassId × FieldType) := [(cI, .int), (cW, .object RX2), (cJ, .long)]
abbrev lw_out (cJ : ClassId) (o : Nat) (f : Nat → Int64) : va_W := [(o, .inl (cJ, 1, .inr (.inl f)))]
def lw_Aw (aC : Nat → Nat) (o sz : Nat) : Nat → Prop := fun q => q = o ∨ ab_A layC aC sz q
def lw_Pw (dC : Nat → ClassId) (dI : Nat → Nat → Nat) (cI cW cJ : ClassId) (aC : Nat → Nat) (o sz : Nat) (h : ab_H) (f : Nat → Int64) (U : State) : Prop := U.heap.size = sz ∧ va_P (dC, dI) vwCl (ab_w layC cI cW aC h) U.heap ∧ va_P (dC, dI) vwCl (lw_out cJ o f) U.heap ∧ va_K (dC, dI) vwCl (lw_tys cI cW cJ) U ∧ ab_D layC aC (fun _ => True) ∧ (∀ i, i < layC.length → o ≠ aC i) ∧ ag_X (lw_Aw aC o sz) U U.heap ∧ va_Nc xS xI U
def lw_Qw (dC : Nat → ClassId) (dI : Nat → Nat → Nat) (cI cW cJ : ClassId) (aC : Nat → Nat) (o sz : Nat) (P : Int32 → ab_H → (Nat → Int64) → Prop) : Array Value → State → Outcome → State → Prop := fun _ st oc t =>
  (∃ (k : Int32) (h' : ab_H) (f' : Nat → Int64), oc = .returned (some (.int k)) ∧ P k h' f' ∧ va_P (dC, dI) vwCl (ab_w layC cI cW aC h') t.heap ∧ va_P (dC, dI) vwCl (lw_out cJ o f') t.heap ∧ va_K (dC, dI) vwCl (lw_tys cI cW cJ) t) ∧ va_F (lw_Aw aC o sz) st t
/-- what such a method answers, out of what its callee does -/
def lw_po (N : Int32 → ab_H → Prop) (Ex : String → ab_H → Prop) (k : Int32) (h' : ab_H) (f' : Nat → Int64) : Prop := (k = 0 ∧ ∃ r, N r h' ∧ f' 0 = r.toInt64) ∨ (k = 1 ∧ Ex xI h') ∨ (k = 2 ∧ Ex xS h')
def lw_pv (N : ab_H → Prop) (Ex : String → ab_H → Prop) (k : Int32) (h' : ab_H) (_ : Nat → Int64) : Prop := (k = 0 ∧ N h') ∨ (k = 1 ∧ Ex xI h') ∨ (k = 2 ∧ Ex xS h')
theorem lw_blind {dC : Nat → ClassId} {dI : Nat → Nat → Nat} {cI cW cJ : ClassId} {aC : Nat → Nat} {o sz : Nat} {h : ab_H} {f : Nat → Int64} {av : List Value} : FrameBlind (va_Pc av (lw_Pw dC dI cI cW cJ aC o sz h f)) :=
  fun a U g mk q => by
    obtain ⟨q0, q1, q2, q3, q4, q5, q6, q7, q8⟩ := q
    exact ⟨q0, q1, q2, q3, va_K.moved (u := U) (U := U.calling g mk a) (Vm.Alike.refl U.vm) q4, q5, q6, q7.go (U := U.calling g mk a) (State.WarmedH.refl U) (fun _ _ _ => rfl) (Nat.le_refl _) (fun _ q => q), va_Nc.moved (u := U) (U := U.calling g mk a) (Vm.Alike.refl U.vm) q8⟩
theorem lkI : Cond.classLink RL 13 xI ∈ ab_all := by decide +kernel
theorem lkS : Cond.classLink RL 15 xS ∈ ab_all := by decide +kernel
theorem lw_oD {A : Nat → Prop} {cJ : ClassId} {o : Nat} {f : Nat → Int64} (hA : A o) : va_D A (lw_out cJ o f) := by
  refine ⟨fun i j p q hp hq _ => ?_, fun k q hq => ?_⟩
  · have hi := (List.getElem?_eq_some_iff.mp hp).1
    have hj := (List.getElem?_eq_some_iff.mp hq).1
    simp only [lw_out, List.length_cons, List.length_nil] at hi hj
    omega
  · obtain ⟨hk, e⟩ := List.getElem?_eq_some_iff.mp hq
    have : k = 0 := by simp only [lw_out, List.length_cons, List.length_nil] at hk; omega
    subst this
    rw [← e]
    exact hA
theorem lw_on {cJ : ClassId} {o : Nat} {f : Nat → Int64} {aC : Nat → Nat} (hn : ∀ i, i < layC.length → o ≠ aC i) : ∀ (j : Nat) (q : Nat × va_E), (lw_out cJ o f)[j]? = some q → ∀ i, i < layC.length → q.1 ≠ aC i := fun j q hq i hi => by
  obtain ⟨hk, e⟩ := List.getElem?_eq_some_iff.mp hq
  have : j = 0 := by simp only [lw_out, List.length_cons, List.length_nil] at hk; omega
  subst this
  rw [← e]
  exact hn i hi
theorem lw_cn {cI cW : ClassId} {o : Nat} {aC : Nat → Nat} {h : ab_H} (hn : ∀ i, i < layC.length → o ≠ aC i) : ∀ (k : Nat) (q : Nat × va_E), (ab_w layC cI cW aC h)[k]? = some q → q.1 ≠ o := fun k q hq => by
  obtain ⟨k1, e1⟩ := ab_w_in hq
  rw [e1]
  exact (hn k k1).symm
section LWS
variable {p : Program} {l : Launch} {e : Env} {R : Room} {s : State} {m : MethodId} {args : Array Value} {below : List Frame} {meth : Method} {c : Code} {H H0 : Heap} {locs : List Loc} {cells slots : Nat} {Q : State → Prop} {cc : ByteArray} {pc : Nat} {ls : Array Slot} {rest : List Value}
variable {D : va_G} {cl : List vw_C} {tys : List (ClassId × FieldType)} {cJ : ClassId} {o : Nat} {CW : va_W} {f : Nat → Int64} {A : Nat → Prop}
theorem lw_store {x : Int64} (hx : p.tables.exec = Jvm.exec) (hb : c.code = cc) (hK : va_K D cl tys s) (t0 : Nat) (ht : tys[t0]? = some (cJ, .long)) (hPo : va_P D cl (lw_out cJ o f) H) (hPC : va_P D cl CW H) (hD : va_D A CW) (hAo : A o) (hno : ∀ (k : Nat) (q : Nat × va_E), CW[k]? = some q → q.1 ≠ o) (hS : va_S A H0 H locs) (hdg : decode cc pc = .ok (.lastore, 1))
    (kk : ∀ (H1 : Heap) (locs1 : List Loc) (f' : Nat → Int64), f' 0 = x → va_P D cl (lw_out cJ o f') H1 → va_P D cl CW H1 → va_S A H0 H1 locs1 → W p l e R s m args below meth c H1 locs1 cells slots Q (F0 m (pc + 1) ls rest)) : W p l e R s m args below meth c H locs cells slots Q (F0 m pc ls (.long x :: .int 0 :: .ref o :: rest)) := by
  have hDD : va_D A (lw_out cJ o f ++ CW) := va_D.app (lw_oD hAo) hD (fun i j p q hp hq e => by
    obtain ⟨hk, e1⟩ := List.getElem?_eq_some_iff.mp hp
    have h0 : i = 0 := by simp only [lw_out, List.length_cons, List.length_nil] at hk; omega
    subst h0
    rw [← e1] at e
    exact hno j q hq e.symm)
  refine va_last (D := D) (cl := cl) (ws := lw_out cJ o f ++ CW) (i := 0) (n := 1) hx hb hK (hPo.app hPC) hDD hS 0 t0 rfl ht (nI_in (c := 0) (N := 1) (by decide) (by decide)) hdg (fun H2 locs2 hP2 hD2 hS2 => ?_)
  refine kk H2 locs2 (vp_updL f (0 : Int32).toNatClampNeg x) ?_ (fun k q hq => ?_) (fun k q hq => hP2 (k + 1) q hq) hS2
  · unfold vp_updL
    rw [if_pos (by decide)]
  · obtain ⟨hk, e⟩ := List.getElem?_eq_some_iff.mp hq
    have : k = 0 := by simp only [lw_out, List.length_cons, List.length_nil] at hk; omega
    subst this
    exact hP2 0 q hq
end LWS
section LWW
variable {l : Launch} {d : Nat} {dC : Nat → ClassId} {dI : Nat → Nat → Nat} {cI cW cJ : ClassId} {aC : Nat → Nat} {o sz : Nat} {h : ab_H} {f : Nat → Int64}
theorem mvL_25 : ab_MV RL 25 3 1 mX3_number := ⟨⟨⟨by decide +kernel, by decide +kernel, by decide +kernel⟩, by decide, by decide +kernel, by decide +kernel, by decide +kernel⟩, ⟨_, rfl, rfl⟩, by decide +kernel, by decide +kernel⟩
abbrev hhL_number : List (Nat × Nat × Nat × Nat) := [(0, 9, 12, 13)]
set_option maxRecDepth 100000 in
set_option maxHeartbeats 1000000 in
theorem wL_number {i : Int32} {N : Int32 → ab_H → Prop} {Ex : String → ab_H → Prop} (hc : ag_C l layC d 1 6 mX3_number (ab_R 0 :: [ab_I i]) h (ab_qi N) Ex) (hE : ∀ E h', Ex E h' → E = xI) : Met l yL_number (Cond.codeWith yL_number cL_number 4 (some .int) hhL_number :: ab_all) (ag_rm (d + 1) 1 6) (va_Pc [.ref (aC 0), .int i, .ref o] (lw_Pw dC dI cI cW cJ aC o sz h f)) (lw_Qw dC dI cI cW cJ aC o sz (lw_po N Ex)) 1 6 (lw_Aw aC o sz) := by
  refine va_MetW (cc := cL_number) (maxL := 4) (ret := some .int) (hh := hhL_number) (by decide) rfl ?_
  intro p e s m args below meth c s₁ B hml hv
  obtain ⟨rfl, hsz, hPC, hPo, hK3, hD0, hno, hX, hNc⟩ := hv
  have hts0 := atoms_spec (ws := Cond.codeWith yL_number cL_number 4 (some .int) hhL_number :: ab_all) B.pre
  have hts : ∀ w ∈ ab_all, w.before _ s = true := fun w hw => hts0 w (List.mem_cons_of_mem _ hw)
  have htab := vx_table (x := yL_law) B (hts0 _ List.mem_cons_self)
  have hown := findClass_of_methodNamed B.named
  subst hsz
  have hK : va_K (dC, dI) vwCl (ab_tys cI cW) s := hK3.sub [0, 1] rfl
  have hI : lw_in layC aC (lw_Aw aC o s.heap.size) s := ⟨⟨hD0.1, fun i hi => Or.inr (Or.inl ⟨i, hi, rfl⟩)⟩, fun q hq => Or.inr (Or.inr hq)⟩
  have hl := lv_entry ([.ref (aC 0), .int i, .ref o] : List Value) (n := 4) (Nat.le_of_ble_eq_true rfl)
  rw [lg_entry_eq]
  generalize ((lg_sl ([.ref (aC 0), .int i, .ref o] : List Value) ++ List.replicate (4 - (lg_sl ([.ref (aC 0), .int i, .ref o] : List Value)).length) Slot.unset).toArray) = ls at hl ⊢
  have hx := B.exec
  have hb := B.bytes
  have fin : ∀ (k : Int32) (h' : ab_H) (f' : Nat → Int64) (H1 : Heap) (locs1 : List Loc) (pc : Nat) (ls1 : Array Slot), lw_po N Ex k h' f' → va_P (dC, dI) vwCl (ab_w layC cI cW aC h') H1 → va_P (dC, dI) vwCl (lw_out cJ o f') H1 → va_S (lw_Aw aC o s.heap.size) s.heap H1 locs1 → decode cL_number pc = .ok (.ireturn, 1) →
      W p l e (ag_rm (d + 1) 1 6) s m #[.ref (aC 0), .int i, .ref o] below meth c H1 locs1 (0 + 1) (0 + 6) (MQ below (lw_Qw dC dI cI cW cJ aC o s.heap.size (lw_po N Ex)) #[.ref (aC 0), .int i, .ref o] s 1 6 (lw_Aw aC o s.heap.size)) (F0 m pc ls1 [.int k]) := fun k h' f' H1 locs1 pc ls1 hp h1 h2 h3 hdec => by
    refine W.iret hx hb B.returns (fun t ht hW => ⟨⟨k, h', f', rfl, hp, by rw [ht]; exact h1, by rw [ht]; exact h2, va_K.moved hW.alike hK3⟩, h3.F ht⟩) h3.2.2 hdec B.notSynchronized
  refine lv_aload_n hx hb dL_number_0 rfl (lv_at hl 2 rfl) ?_
  refine lv_iconst hx hb dL_number_1 (v := 0) (by decide) ?_
  refine lv_aload_n hx hb dL_number_2 rfl (lv_at hl 0 rfl) ?_
  refine lv_iload_n hx hb dL_number_3 rfl (lv_at hl 1 rfl) ?_
  refine lw_callX (As := [ab_I i]) (rest := [.int 0, .ref o]) (own := RL) (nL := 4) (i := 0) hx hb hml hown hts hK hI hX hPC va_S.rf hl.1 (ag_fits rfl rfl) dL_number_4 mvL_25 rfl rfl (Nat.le_of_ble_eq_true rfl) hc (fun E h' H1 locs1 q ce hEx hP1 hS1 hkp hce hcv hcl => ?_) (fun v' h' H1 locs1 hq hP1 hS1 hkp => ?_)
  · have hPo1 : va_P (dC, dI) vwCl (lw_out cJ o f) H1 := hkp.P hPo (lw_on hno)
    have e := hE E h' hEx
    subst e
    refine vy_catch (own := RL) (name := xI) hown [] ⟨0, 9, 12, 13⟩ [] (by rw [htab]; rfl) (fun z hz => by cases hz) rfl (by decide) (hts _ lkI) (va_Nw.use rfl (hX.2.2.2.2.2 (.castable xI xI) (by decide))) hce hcv hcl ?_
    refine lv_astore_n hx hb dL_number_12 rfl hl (by decide) rfl (fun ls1 hl1 => ?_)
    refine lv_iconst hx hb dL_number_13 (v := 1) (by decide) ?_
    exact fin 1 h' f H1 locs1 _ ls1 (Or.inr (Or.inl ⟨rfl, hEx⟩)) hP1 hPo1 hS1 dL_number_14
  · obtain ⟨r, rfl, hq⟩ := hq
    refine lv_i2l hx hb dL_number_7 rfl ?_
    refine lw_store hx hb hK3 2 rfl (hkp.P hPo (lw_on hno)) hP1 (hI.1.to cI cW h') (Or.inl rfl) (lw_cn hno) hS1 dL_number_8 (fun H2 locs2 f2 hf2 hPo2 hPC2 hS2 => ?_)
    refine lv_goto hx hb dL_number_9 (tgt := 15) (by decide) ?_
    refine lv_iconst hx hb dL_number_15 (v := 0) (by decide) ?_
    exact fin 0 h' f2 H2 locs2 _ ls (Or.inl ⟨rfl, r, hq, hf2⟩) hPC2 hPo2 hS2 dL_number_16
theorem mvL_28 : ab_MV RL 28 3 1 mX3_row := ⟨⟨⟨by decide +kernel, by decide +kernel, by decide +kernel⟩, by decide, by decide +kernel, by decide +kernel, by decide +kernel⟩, ⟨_, rfl, rfl⟩, by decide +kernel, by decide +kernel⟩
abbrev hhL_row : List (Nat × Nat × Nat × Nat) := [(0, 9, 12, 13)]
set_option maxRecDepth 100000 in
set_option maxHeartbeats 1000000 in
theorem wL_row {i : Int32} {N : Int32 → ab_H → Prop} {Ex : String → ab_H → Prop} (hc : ag_C l layC d 1 6 mX3_row (ab_R 0 :: [ab_I i]) h (ab_qi N) Ex) (hE : ∀ E h', Ex E h' → E = xI) : Met l yL_row (Cond.codeWith yL_row cL_row 4 (some .int) hhL_row :: ab_all) (ag_rm (d + 1) 1 6) (va_Pc [.ref (aC 0), .int i, .ref o] (lw_Pw dC dI cI cW cJ aC o sz h f)) (lw_Qw dC dI cI cW cJ aC o sz (lw_po N Ex)) 1 6 (lw_Aw aC o sz) := by
  refine va_MetW (cc := cL_row) (maxL := 4) (ret := some .int) (hh := hhL_row) (by decide) rfl ?_
  intro p e s m args below meth c s₁ B hml hv
  obtain ⟨rfl, hsz, hPC, hPo, hK3, hD0, hno, hX, hNc⟩ := hv
  have hts0 := atoms_spec (ws := Cond.codeWith yL_row cL_row 4 (some .int) hhL_row :: ab_all) B.pre
  have hts : ∀ w ∈ ab_all, w.before _ s = true := fun w hw => hts0 w (List.mem_cons_of_mem _ hw)
  have htab := vx_table (x := yL_law) B (hts0 _ List.mem_cons_self)
  have hown := findClass_of_methodNamed B.named
  subst hsz
  have hK : va_K (dC, dI) vwCl (ab_tys cI cW) s := hK3.sub [0, 1] rfl
  have hI : lw_in layC aC (lw_Aw aC o s.heap.size) s := ⟨⟨hD0.1, fun i hi => Or.inr (Or.inl ⟨i, hi, rfl⟩)⟩, fun q hq => Or.inr (Or.inr hq)⟩
  have hl := lv_entry ([.ref (aC 0), .int i, .ref o] : List Value) (n := 4) (Nat.le_of_ble_eq_true rfl)
  rw [lg_entry_eq]
  generalize ((lg_sl ([.ref (aC 0), .int i, .ref o] : List Value) ++ List.replicate (4 - (lg_sl ([.ref (aC 0), .int i, .ref o] : List Value)).length) Slot.unset).toArray) = ls at hl ⊢
  have hx := B.exec
  have hb := B.bytes
  have fin : ∀ (k : Int32) (h' : ab_H) (f' : Nat → Int64) (H1 : Heap) (locs1 : List Loc) (pc : Nat) (ls1 : Array Slot), lw_po N Ex k h' f' → va_P (dC, dI) vwCl (ab_w layC cI cW aC h') H1 → va_P (dC, dI) vwCl (lw_out cJ o f') H1 → va_S (lw_Aw aC o s.heap.size) s.heap H1 locs1 → decode cL_row pc = .ok (.ireturn, 1) →
      W p l e (ag_rm (d + 1) 1 6) s m #[.ref (aC 0), .int i, .ref o] below meth c H1 locs1 (0 + 1) (0 + 6) (MQ below (lw_Qw dC dI cI cW cJ aC o s.heap.size (lw_po N Ex)) #[.ref (aC 0), .int i, .ref o] s 1 6 (lw_Aw aC o s.heap.size)) (F0 m pc ls1 [.int k]) := fun k h' f' H1 locs1 pc ls1 hp h1 h2 h3 hdec => by
    refine W.iret hx hb B.returns (fun t ht hW => ⟨⟨k, h', f', rfl, hp, by rw [ht]; exact h1, by rw [ht]; exact h2, va_K.moved hW.alike hK3⟩, h3.F ht⟩) h3.2.2 hdec B.notSynchronized
  refine lv_aload_n hx hb dL_row_0 rfl (lv_at hl 2 rfl) ?_
  refine lv_iconst hx hb dL_row_1 (v := 0) (by decide) ?_
  refine lv_aload_n hx hb dL_row_2 rfl (lv_at hl 0 rfl) ?_
  refine lv_iload_n hx hb dL_row_3 rfl (lv_at hl 1 rfl) ?_
  refine lw_callX (As := [ab_I i]) (rest := [.int 0, .ref o]) (own := RL) (nL := 4) (i := 0) hx hb hml hown hts hK hI hX hPC va_S.rf hl.1 (ag_fits rfl rfl) dL_row_4 mvL_28 rfl rfl (Nat.le_of_ble_eq_true rfl) hc (fun E h' H1 locs1 q ce hEx hP1 hS1 hkp hce hcv hcl => ?_) (fun v' h' H1 locs1 hq hP1 hS1 hkp => ?_)
  · have hPo1 : va_P (dC, dI) vwCl (lw_out cJ o f) H1 := hkp.P hPo (lw_on hno)
    have e := hE E h' hEx
    subst e
    refine vy_catch (own := RL) (name := xI) hown [] ⟨0, 9, 12, 13⟩ [] (by rw [htab]; rfl) (fun z hz => by cases hz) rfl (by decide) (hts _ lkI) (va_Nw.use rfl (hX.2.2.2.2.2 (.castable xI xI) (by decide))) hce hcv hcl ?_
    refine lv_astore_n hx hb dL_row_12 rfl hl (by decide) rfl (fun ls1 hl1 => ?_)
    refine lv_iconst hx hb dL_row_13 (v := 1) (by decide) ?_
    exact fin 1 h' f H1 locs1 _ ls1 (Or.inr (Or.inl ⟨rfl, hEx⟩)) hP1 hPo1 hS1 dL_row_14
  · obtain ⟨r, rfl, hq⟩ := hq
    refine lv_i2l hx hb dL_row_7 rfl ?_
    refine lw_store hx hb hK3 2 rfl (hkp.P hPo (lw_on hno)) hP1 (hI.1.to cI cW h') (Or.inl rfl) (lw_cn hno) hS1 dL_row_8 (fun H2 locs2 f2 hf2 hPo2 hPC2 hS2 => ?_)
    refine lv_goto hx hb dL_row_9 (tgt := 15) (by decide) ?_
    refine lv_iconst hx hb dL_row_15 (v := 0) (by decide) ?_
    exact fin 0 h' f2 H2 locs2 _ ls (Or.inl ⟨rfl, r, hq, hf2⟩) hPC2 hPo2 hS2 dL_row_16
theorem mvL_31 : ab_MV RL 31 3 1 mX3_log := ⟨⟨⟨by decide +kernel, by decide +kernel, by decide +kernel⟩, by decide, by decide +kernel, by decide +kernel, by decide +kernel⟩, ⟨_, rfl, rfl⟩, by decide +kernel, by decide +kernel⟩
abbrev hhL_log : List (Nat × Nat × Nat × Nat) := [(0, 9, 12, 13)]
set_option maxRecDepth 100000 in
set_option maxHeartbeats 1000000 in
theorem wL_log {i : Int32} {N : Int32 → ab_H → Prop} {Ex : String → ab_H → Prop} (hc : ag_C l layC d 1 6 mX3_log (ab_R 0 :: [ab_I i]) h (ab_qi N) Ex) (hE : ∀ E h', Ex E h' → E = xI) : Met l yL_log (Cond.codeWith yL_log cL_log 4 (some .int) hhL_log :: ab_all) (ag_rm (d + 1) 1 6) (va_Pc [.ref (aC 0), .int i, .ref o] (lw_Pw dC dI cI cW cJ aC o sz h f)) (lw_Qw dC dI cI cW cJ aC o sz (lw_po N Ex)) 1 6 (lw_Aw aC o sz) := by
  refine va_MetW (cc := cL_log) (maxL := 4) (ret := some .int) (hh := hhL_log) (by decide) rfl ?_
  intro p e s m args below meth c s₁ B hml hv
  obtain ⟨rfl, hsz, hPC, hPo, hK3, hD0, hno, hX, hNc⟩ := hv
  have hts0 := atoms_spec (ws := Cond.codeWith yL_log cL_log 4 (some .int) hhL_log :: ab_all) B.pre
  have hts : ∀ w ∈ ab_all, w.before _ s = true := fun w hw => hts0 w (List.mem_cons_of_mem _ hw)
  have htab := vx_table (x := yL_law) B (hts0 _ List.mem_cons_self)
  have hown := findClass_of_methodNamed B.named
  subst hsz
  have hK : va_K (dC, dI) vwCl (ab_tys cI cW) s := hK3.sub [0, 1] rfl
  have hI : lw_in layC aC (lw_Aw aC o s.heap.size) s := ⟨⟨hD0.1, fun i hi => Or.inr (Or.inl ⟨i, hi, rfl⟩)⟩, fun q hq => Or.inr (Or.inr hq)⟩
  have hl := lv_entry ([.ref (aC 0), .int i, .ref o] : List Value) (n := 4) (Nat.le_of_ble_eq_true rfl)
  rw [lg_entry_eq]
  generalize ((lg_sl ([.ref (aC 0), .int i, .ref o] : List Value) ++ List.replicate (4 - (lg_sl ([.ref (aC 0), .int i, .ref o] : List Value)).length) Slot.unset).toArray) = ls at hl ⊢
  have hx := B.exec
  have hb := B.bytes
  have fin : ∀ (k : Int32) (h' : ab_H) (f' : Nat → Int64) (H1 : Heap) (locs1 : List Loc) (pc : Nat) (ls1 : Array Slot), lw_po N Ex k h' f' → va_P (dC, dI) vwCl (ab_w layC cI cW aC h') H1 → va_P (dC, dI) vwCl (lw_out cJ o f') H1 → va_S (lw_Aw aC o s.heap.size) s.heap H1 locs1 → decode cL_log pc = .ok (.ireturn, 1) →
      W p l e (ag_rm (d + 1) 1 6) s m #[.ref (aC 0), .int i, .ref o] below meth c H1 locs1 (0 + 1) (0 + 6) (MQ below (lw_Qw dC dI cI cW cJ aC o s.heap.size (lw_po N Ex)) #[.ref (aC 0), .int i, .ref o] s 1 6 (lw_Aw aC o s.heap.size)) (F0 m pc ls1 [.int k]) := fun k h' f' H1 locs1 pc ls1 hp h1 h2 h3 hdec => by
    refine W.iret hx hb B.returns (fun t ht hW => ⟨⟨k, h', f', rfl, hp, by rw [ht]; exact h1, by rw [ht]; exact h2, va_K.moved hW.alike hK3⟩, h3.F ht⟩) h3.2.2 hdec B.notSynchronized
  refine lv_aload_n hx hb dL_log_0 rfl (lv_at hl 2 rfl) ?_
  refine lv_iconst hx hb dL_log_1 (v := 0) (by decide) ?_
  refine lv_aload_n hx hb dL_log_2 rfl (lv_at hl 0 rfl) ?_
  refine lv_iload_n hx hb dL_log_3 rfl (lv_at hl 1 rfl) ?_
  refine lw_callX (As := [ab_I i]) (rest := [.int 0, .ref o]) (own := RL) (nL := 4) (i := 0) hx hb hml hown hts hK hI hX hPC va_S.rf hl.1 (ag_fits rfl rfl) dL_log_4 mvL_31 rfl rfl (Nat.le_of_ble_eq_true rfl) hc (fun E h' H1 locs1 q ce hEx hP1 hS1 hkp hce hcv hcl => ?_) (fun v' h' H1 locs1 hq hP1 hS1 hkp => ?_)
  · have hPo1 : va_P (dC, dI) vwCl (lw_out cJ o f) H1 := hkp.P hPo (lw_on hno)
    have e := hE E h' hEx
    subst e
    refine vy_catch (own := RL) (name := xI) hown [] ⟨0, 9, 12, 13⟩ [] (by rw [htab]; rfl) (fun z hz => by cases hz) rfl (by decide) (hts _ lkI) (va_Nw.use rfl (hX.2.2.2.2.2 (.castable xI xI) (by decide))) hce hcv hcl ?_
    refine lv_astore_n hx hb dL_log_12 rfl hl (by decide) rfl (fun ls1 hl1 => ?_)
    refine lv_iconst hx hb dL_log_13 (v := 1) (by decide) ?_
    exact fin 1 h' f H1 locs1 _ ls1 (Or.inr (Or.inl ⟨rfl, hEx⟩)) hP1 hPo1 hS1 dL_log_14
  · obtain ⟨r, rfl, hq⟩ := hq
    refine lv_i2l hx hb dL_log_7 rfl ?_
    refine lw_store hx hb hK3 2 rfl (hkp.P hPo (lw_on hno)) hP1 (hI.1.to cI cW h') (Or.inl rfl) (lw_cn hno) hS1 dL_log_8 (fun H2 locs2 f2 hf2 hPo2 hPC2 hS2 => ?_)
    refine lv_goto hx hb dL_log_9 (tgt := 15) (by decide) ?_
    refine lv_iconst hx hb dL_log_15 (v := 0) (by decide) ?_
    exact fin 0 h' f2 H2 locs2 _ ls (Or.inl ⟨rfl, r, hq, hf2⟩) hPC2 hPo2 hS2 dL_log_16
theorem mvL_21 : ab_MV RL 21 3 1 mX3_run := ⟨⟨⟨by decide +kernel, by decide +kernel, by decide +kernel⟩, by decide, by decide +kernel, by decide +kernel, by decide +kernel⟩, ⟨_, rfl, rfl⟩, by decide +kernel, by decide +kernel⟩
abbrev hhL_run : List (Nat × Nat × Nat × Nat) := [(0, 9, 12, 13), (0, 9, 15, 15)]
set_option maxRecDepth 100000 in
set_option maxHeartbeats 1000000 in
theorem wL_run {i : Int32} {N : Int32 → ab_H → Prop} {Ex : String → ab_H → Prop} (hc : ag_C l layC d 2 12 mX3_run (ab_R 0 :: [ab_I i]) h (ab_qi N) Ex) (hE : ∀ E h', Ex E h' → E = xI ∨ E = xS) : Met l yL_run (Cond.codeWith yL_run cL_run 4 (some .int) hhL_run :: ab_all) (ag_rm (d + 1) 2 12) (va_Pc [.ref (aC 0), .int i, .ref o] (lw_Pw dC dI cI cW cJ aC o sz h f)) (lw_Qw dC dI cI cW cJ aC o sz (lw_po N Ex)) 2 12 (lw_Aw aC o sz) := by
  refine va_MetW (cc := cL_run) (maxL := 4) (ret := some .int) (hh := hhL_run) (by decide) rfl ?_
  intro p e s m args below meth c s₁ B hml hv
  obtain ⟨rfl, hsz, hPC, hPo, hK3, hD0, hno, hX, hNc⟩ := hv
  have hts0 := atoms_spec (ws := Cond.codeWith yL_run cL_run 4 (some .int) hhL_run :: ab_all) B.pre
  have hts : ∀ w ∈ ab_all, w.before _ s = true := fun w hw => hts0 w (List.mem_cons_of_mem _ hw)
  have htab := vx_table (x := yL_law) B (hts0 _ List.mem_cons_self)
  have hown := findClass_of_methodNamed B.named
  subst hsz
  have hK : va_K (dC, dI) vwCl (ab_tys cI cW) s := hK3.sub [0, 1] rfl
  have hI : lw_in layC aC (lw_Aw aC o s.heap.size) s := ⟨⟨hD0.1, fun i hi => Or.inr (Or.inl ⟨i, hi, rfl⟩)⟩, fun q hq => Or.inr (Or.inr hq)⟩
  have hl := lv_entry ([.ref (aC 0), .int i, .ref o] : List Value) (n := 4) (Nat.le_of_ble_eq_true rfl)
  rw [lg_entry_eq]
  generalize ((lg_sl ([.ref (aC 0), .int i, .ref o] : List Value) ++ List.replicate (4 - (lg_sl ([.ref (aC 0), .int i, .ref o] : List Value)).length) Slot.unset).toArray) = ls at hl ⊢
  have hx := B.exec
  have hb := B.bytes
  have fin : ∀ (k : Int32) (h' : ab_H) (f' : Nat → Int64) (H1 : Heap) (locs1 : List Loc) (pc : Nat) (ls1 : Array Slot), lw_po N Ex k h' f' → va_P (dC, dI) vwCl (ab_w layC cI cW aC h') H1 → va_P (dC, dI) vwCl (lw_out cJ o f') H1 → va_S (lw_Aw aC o s.heap.size) s.heap H1 locs1 → decode cL_run pc = .ok (.ireturn, 1) →
      W p l e (ag_rm (d + 1) 2 12) s m #[.ref (aC 0), .int i, .ref o] below meth c H1 locs1 (0 + 2) (0 + 12) (MQ below (lw_Qw dC dI cI cW cJ aC o s.heap.size (lw_po N Ex)) #[.ref (aC 0), .int i, .ref o] s 2 12 (lw_Aw aC o s.heap.size)) (F0 m pc ls1 [.int k]) := fun k h' f' H1 locs1 pc ls1 hp h1 h2 h3 hdec => by
    refine W.iret hx hb B.returns (fun t ht hW => ⟨⟨k, h', f', rfl, hp, by rw [ht]; exact h1, by rw [ht]; exact h2, va_K.moved hW.alike hK3⟩, h3.F ht⟩) h3.2.2 hdec B.notSynchronized
  refine lv_aload_n hx hb dL_run_0 rfl (lv_at hl 2 rfl) ?_
  refine lv_iconst hx hb dL_run_1 (v := 0) (by decide) ?_
  refine lv_aload_n hx hb dL_run_2 rfl (lv_at hl 0 rfl) ?_
  refine lv_iload_n hx hb dL_run_3 rfl (lv_at hl 1 rfl) ?_
  refine lw_callX (As := [ab_I i]) (rest := [.int 0, .ref o]) (own := RL) (nL := 4) (i := 0) hx hb hml hown hts hK hI hX hPC va_S.rf hl.1 (ag_fits rfl rfl) dL_run_4 mvL_21 rfl rfl (Nat.le_of_ble_eq_true rfl) hc (fun E h' H1 locs1 q ce hEx hP1 hS1 hkp hce hcv hcl => ?_) (fun v' h' H1 locs1 hq hP1 hS1 hkp => ?_)
  · have hPo1 : va_P (dC, dI) vwCl (lw_out cJ o f) H1 := hkp.P hPo (lw_on hno)
    rcases hE E h' hEx with e | e
    · subst e
      refine vy_catch (own := RL) (name := xI) hown [] ⟨0, 9, 12, 13⟩ [⟨0, 9, 15, 15⟩] (by rw [htab]; rfl) (fun z hz => by cases hz) rfl (by decide) (hts _ lkI) (va_Nw.use rfl (hX.2.2.2.2.2 (.castable xI xI) (by decide))) hce hcv hcl ?_
      refine lv_astore_n hx hb dL_run_12 rfl hl (by decide) rfl (fun ls1 hl1 => ?_)
      refine lv_iconst hx hb dL_run_13 (v := 1) (by decide) ?_
      exact fin 1 h' f H1 locs1 _ ls1 (Or.inr (Or.inl ⟨rfl, hEx⟩)) hP1 hPo1 hS1 dL_run_14
    · subst e
      refine vy_catch (own := RL) (name := xS) hown [⟨0, 9, 12, 13⟩] ⟨0, 9, 15, 15⟩ [] (by rw [htab]; rfl) (fun z hz => by
        rcases List.mem_cons.mp hz with q | q
        · subst q
          exact Or.inr ⟨by decide, xI, hts _ lkI, hNc⟩
        · cases q) rfl (by decide) (hts _ lkS) (va_Nw.use rfl (hX.2.2.2.2.2 (.castable xS xS) (by decide))) hce hcv hcl ?_
      refine lv_astore_n hx hb dL_run_15 rfl hl (by decide) rfl (fun ls1 hl1 => ?_)
      refine lv_iconst hx hb dL_run_16 (v := 2) (by decide) ?_
      exact fin 2 h' f H1 locs1 _ ls1 (Or.inr (Or.inr ⟨rfl, hEx⟩)) hP1 hPo1 hS1 dL_run_17
  · obtain ⟨r, rfl, hq⟩ := hq
    refine lv_i2l hx hb dL_run_7 rfl ?_
    refine lw_store hx hb hK3 2 rfl (hkp.P hPo (lw_on hno)) hP1 (hI.1.to cI cW h') (Or.inl rfl) (lw_cn hno) hS1 dL_run_8 (fun H2 locs2 f2 hf2 hPo2 hPC2 hS2 => ?_)
    refine lv_goto hx hb dL_run_9 (tgt := 18) (by decide) ?_
    refine lv_iconst hx hb dL_run_18 (v := 0) (by decide) ?_
    exact fin 0 h' f2 H2 locs2 _ ls (Or.inl ⟨rfl, r, hq, hf2⟩) hPC2 hPo2 hS2 dL_run_19
theorem mvL_17 : ab_MV RL 17 3 1 mX3_clear := ⟨⟨⟨by decide +kernel, by decide +kernel, by decide +kernel⟩, by decide, by decide +kernel, by decide +kernel, by decide +kernel⟩, ⟨_, rfl, rfl⟩, by decide +kernel, by decide +kernel⟩
abbrev hhL_clear : List (Nat × Nat × Nat × Nat) := [(0, 5, 8, 13)]
set_option maxRecDepth 100000 in
set_option maxHeartbeats 1000000 in
theorem wL_clear {i : Int32} {N : ab_H → Prop} {Ex : String → ab_H → Prop} (hc : ag_C l layC d 1 6 mX3_clear (ab_R 0 :: [ab_I i]) h (ab_qv N) Ex) (hE : ∀ E h', Ex E h' → E = xI) : Met l yL_clear (Cond.codeWith yL_clear cL_clear 3 (some .int) hhL_clear :: ab_all) (ag_rm (d + 1) 1 6) (va_Pc [.ref (aC 0), .int i] (lw_Pw dC dI cI cW cJ aC o sz h f)) (lw_Qw dC dI cI cW cJ aC o sz (lw_pv N Ex)) 1 6 (lw_Aw aC o sz) := by
  refine va_MetW (cc := cL_clear) (maxL := 3) (ret := some .int) (hh := hhL_clear) (by decide) rfl ?_
  intro p e s m args below meth c s₁ B hml hv
  obtain ⟨rfl, hsz, hPC, hPo, hK3, hD0, hno, hX, hNc⟩ := hv
  have hts0 := atoms_spec (ws := Cond.codeWith yL_clear cL_clear 3 (some .int) hhL_clear :: ab_all) B.pre
  have hts : ∀ w ∈ ab_all, w.before _ s = true := fun w hw => hts0 w (List.mem_cons_of_mem _ hw)
  have htab := vx_table (x := yL_law) B (hts0 _ List.mem_cons_self)
  have hown := findClass_of_methodNamed B.named
  subst hsz
  have hK : va_K (dC, dI) vwCl (ab_tys cI cW) s := hK3.sub [0, 1] rfl
  have hI : lw_in layC aC (lw_Aw aC o s.heap.size) s := ⟨⟨hD0.1, fun i hi => Or.inr (Or.inl ⟨i, hi, rfl⟩)⟩, fun q hq => Or.inr (Or.inr hq)⟩
  have hl := lv_entry ([.ref (aC 0), .int i] : List Value) (n := 3) (Nat.le_of_ble_eq_true rfl)
  rw [lg_entry_eq]
  generalize ((lg_sl ([.ref (aC 0), .int i] : List Value) ++ List.replicate (3 - (lg_sl ([.ref (aC 0), .int i] : List Value)).length) Slot.unset).toArray) = ls at hl ⊢
  have hx := B.exec
  have hb := B.bytes
  have fin : ∀ (k : Int32) (h' : ab_H) (f' : Nat → Int64) (H1 : Heap) (locs1 : List Loc) (pc : Nat) (ls1 : Array Slot), lw_pv N Ex k h' f' → va_P (dC, dI) vwCl (ab_w layC cI cW aC h') H1 → va_P (dC, dI) vwCl (lw_out cJ o f') H1 → va_S (lw_Aw aC o s.heap.size) s.heap H1 locs1 → decode cL_clear pc = .ok (.ireturn, 1) →
      W p l e (ag_rm (d + 1) 1 6) s m #[.ref (aC 0), .int i] below meth c H1 locs1 (0 + 1) (0 + 6) (MQ below (lw_Qw dC dI cI cW cJ aC o s.heap.size (lw_pv N Ex)) #[.ref (aC 0), .int i] s 1 6 (lw_Aw aC o s.heap.size)) (F0 m pc ls1 [.int k]) := fun k h' f' H1 locs1 pc ls1 hp h1 h2 h3 hdec => by
    refine W.iret hx hb B.returns (fun t ht hW => ⟨⟨k, h', f', rfl, hp, by rw [ht]; exact h1, by rw [ht]; exact h2, va_K.moved hW.alike hK3⟩, h3.F ht⟩) h3.2.2 hdec B.notSynchronized
  refine lv_aload_n hx hb dL_clear_0 rfl (lv_at hl 0 rfl) ?_
  refine lv_iload_n hx hb dL_clear_1 rfl (lv_at hl 1 rfl) ?_
  refine lw_callX (As := [ab_I i]) (rest := []) (own := RL) (nL := 3) (i := 0) hx hb hml hown hts hK hI hX hPC va_S.rf hl.1 (ag_fits rfl rfl) dL_clear_2 mvL_17 rfl rfl (Nat.le_of_ble_eq_true rfl) hc (fun E h' H1 locs1 q ce hEx hP1 hS1 hkp hce hcv hcl => ?_) (fun v' h' H1 locs1 hq hP1 hS1 hkp => ?_)
  · have hPo1 : va_P (dC, dI) vwCl (lw_out cJ o f) H1 := hkp.P hPo (lw_on hno)
    have e := hE E h' hEx
    subst e
    refine vy_catch (own := RL) (name := xI) hown [] ⟨0, 5, 8, 13⟩ [] (by rw [htab]; rfl) (fun z hz => by cases hz) rfl (by decide) (hts _ lkI) (va_Nw.use rfl (hX.2.2.2.2.2 (.castable xI xI) (by decide))) hce hcv hcl ?_
    refine lv_astore_n hx hb dL_clear_8 rfl hl (by decide) rfl (fun ls1 hl1 => ?_)
    refine lv_iconst hx hb dL_clear_9 (v := 1) (by decide) ?_
    exact fin 1 h' f H1 locs1 _ ls1 (Or.inr (Or.inl ⟨rfl, hEx⟩)) hP1 hPo1 hS1 dL_clear_10
  · obtain ⟨rfl, hq⟩ := hq
    refine lv_goto hx hb dL_clear_5 (tgt := 11) (by decide) ?_
    refine lv_iconst hx hb dL_clear_11 (v := 0) (by decide) ?_
    exact fin 0 h' f H1 locs1 _ ls (Or.inl ⟨rfl, hq⟩) hP1 (hkp.P hPo (lw_on hno)) hS1 dL_clear_12
theorem mvL_7 : ab_MV RL 7 3 4 mX3_node := ⟨⟨⟨by decide +kernel, by decide +kernel, by decide +kernel⟩, by decide, by decide +kernel, by decide +kernel, by decide +kernel⟩, ⟨_, rfl, rfl⟩, by decide +kernel, by decide +kernel⟩
abbrev hhL_node : List (Nat × Nat × Nat × Nat) := [(0, 14, 17, 13), (0, 14, 21, 15)]
set_option maxRecDepth 100000 in
set_option maxHeartbeats 1000000 in
theorem wL_node {w s0 a b : Int32} {N : Int32 → ab_H → Prop} {Ex : String → ab_H → Prop} (hc : ag_C l layC d 4 24 mX3_node (ab_R 0 :: [ab_I w, ab_I s0, ab_I a, ab_I b]) h (ab_qi N) Ex) (hE : ∀ E h', Ex E h' → E = xI ∨ E = xS) : Met l yL_node (Cond.codeWith yL_node cL_node 7 (some .int) hhL_node :: ab_all) (ag_rm (d + 1) 4 24) (va_Pc [.ref (aC 0), .int w, .int s0, .int a, .int b, .ref o] (lw_Pw dC dI cI cW cJ aC o sz h f)) (lw_Qw dC dI cI cW cJ aC o sz (lw_po N Ex)) 4 24 (lw_Aw aC o sz) := by
  refine va_MetW (cc := cL_node) (maxL := 7) (ret := some .int) (hh := hhL_node) (by decide) rfl ?_
  intro p e s m args below meth c s₁ B hml hv
  obtain ⟨rfl, hsz, hPC, hPo, hK3, hD0, hno, hX, hNc⟩ := hv
  have hts0 := atoms_spec (ws := Cond.codeWith yL_node cL_node 7 (some .int) hhL_node :: ab_all) B.pre
  have hts : ∀ w ∈ ab_all, w.before _ s = true := fun w hw => hts0 w (List.mem_cons_of_mem _ hw)
  have htab := vx_table (x := yL_law) B (hts0 _ List.mem_cons_self)
  have hown := findClass_of_methodNamed B.named
  subst hsz
  have hK : va_K (dC, dI) vwCl (ab_tys cI cW) s := hK3.sub [0, 1] rfl
  have hI : lw_in layC aC (lw_Aw aC o s.heap.size) s := ⟨⟨hD0.1, fun i hi => Or.inr (Or.inl ⟨i, hi, rfl⟩)⟩, fun q hq => Or.inr (Or.inr hq)⟩
  have hl := lv_entry ([.ref (aC 0), .int w, .int s0, .int a, .int b, .ref o] : List Value) (n := 7) (Nat.le_of_ble_eq_true rfl)
  rw [lg_entry_eq]
  generalize ((lg_sl ([.ref (aC 0), .int w, .int s0, .int a, .int b, .ref o] : List Value) ++ List.replicate (7 - (lg_sl ([.ref (aC 0), .int w, .int s0, .int a, .int b, .ref o] : List Value)).length) Slot.unset).toArray) = ls at hl ⊢
  have hx := B.exec
  have hb := B.bytes
  have fin : ∀ (k : Int32) (h' : ab_H) (f' : Nat → Int64) (H1 : Heap) (locs1 : List Loc) (pc : Nat) (ls1 : Array Slot), lw_po N Ex k h' f' → va_P (dC, dI) vwCl (ab_w layC cI cW aC h') H1 → va_P (dC, dI) vwCl (lw_out cJ o f') H1 → va_S (lw_Aw aC o s.heap.size) s.heap H1 locs1 → decode cL_node pc = .ok (.ireturn, 1) →
      W p l e (ag_rm (d + 1) 4 24) s m #[.ref (aC 0), .int w, .int s0, .int a, .int b, .ref o] below meth c H1 locs1 (0 + 4) (0 + 24) (MQ below (lw_Qw dC dI cI cW cJ aC o s.heap.size (lw_po N Ex)) #[.ref (aC 0), .int w, .int s0, .int a, .int b, .ref o] s 4 24 (lw_Aw aC o s.heap.size)) (F0 m pc ls1 [.int k]) := fun k h' f' H1 locs1 pc ls1 hp h1 h2 h3 hdec => by
    refine W.iret hx hb B.returns (fun t ht hW => ⟨⟨k, h', f', rfl, hp, by rw [ht]; exact h1, by rw [ht]; exact h2, va_K.moved hW.alike hK3⟩, h3.F ht⟩) h3.2.2 hdec B.notSynchronized
  refine lv_aload hx hb dL_node_0 (lv_at hl 5 rfl) ?_
  refine lv_iconst hx hb dL_node_2 (v := 0) (by decide) ?_
  refine lv_aload_n hx hb dL_node_3 rfl (lv_at hl 0 rfl) ?_
  refine lv_iload_n hx hb dL_node_4 rfl (lv_at hl 1 rfl) ?_
  refine lv_iload_n hx hb dL_node_5 rfl (lv_at hl 2 rfl) ?_
  refine lv_iload_n hx hb dL_node_6 rfl (lv_at hl 3 rfl) ?_
  refine lv_iload hx hb dL_node_7 (lv_at hl 4 rfl) ?_
  refine lw_callX (As := [ab_I w, ab_I s0, ab_I a, ab_I b]) (rest := [.int 0, .ref o]) (own := RL) (nL := 7) (i := 0) hx hb hml hown hts hK hI hX hPC va_S.rf hl.1 (ag_fits rfl rfl) dL_node_9 mvL_7 rfl rfl (Nat.le_of_ble_eq_true rfl) hc (fun E h' H1 locs1 q ce hEx hP1 hS1 hkp hce hcv hcl => ?_) (fun v' h' H1 locs1 hq hP1 hS1 hkp => ?_)
  · have hPo1 : va_P (dC, dI) vwCl (lw_out cJ o f) H1 := hkp.P hPo (lw_on hno)
    rcases hE E h' hEx with e | e
    · subst e
      refine vy_catch (own := RL) (name := xI) hown [] ⟨0, 14, 17, 13⟩ [⟨0, 14, 21, 15⟩] (by rw [htab]; rfl) (fun z hz => by cases hz) rfl (by decide) (hts _ lkI) (va_Nw.use rfl (hX.2.2.2.2.2 (.castable xI xI) (by decide))) hce hcv hcl ?_
      refine lv_astore hx hb dL_node_17 hl (by decide) rfl (fun ls1 hl1 => ?_)
      refine lv_iconst hx hb dL_node_19 (v := 1) (by decide) ?_
      exact fin 1 h' f H1 locs1 _ ls1 (Or.inr (Or.inl ⟨rfl, hEx⟩)) hP1 hPo1 hS1 dL_node_20
    · subst e
      refine vy_catch (own := RL) (name := xS) hown [⟨0, 14, 17, 13⟩] ⟨0, 14, 21, 15⟩ [] (by rw [htab]; rfl) (fun z hz => by
        rcases List.mem_cons.mp hz with q | q
        · subst q
          exact Or.inr ⟨by decide, xI, hts _ lkI, hNc⟩
        · cases q) rfl (by decide) (hts _ lkS) (va_Nw.use rfl (hX.2.2.2.2.2 (.castable xS xS) (by decide))) hce hcv hcl ?_
      refine lv_astore hx hb dL_node_21 hl (by decide) rfl (fun ls1 hl1 => ?_)
      refine lv_iconst hx hb dL_node_23 (v := 2) (by decide) ?_
      exact fin 2 h' f H1 locs1 _ ls1 (Or.inr (Or.inr ⟨rfl, hEx⟩)) hP1 hPo1 hS1 dL_node_24
  · obtain ⟨r, rfl, hq⟩ := hq
    refine lv_i2l hx hb dL_node_12 rfl ?_
    refine lw_store hx hb hK3 2 rfl (hkp.P hPo (lw_on hno)) hP1 (hI.1.to cI cW h') (Or.inl rfl) (lw_cn hno) hS1 dL_node_13 (fun H2 locs2 f2 hf2 hPo2 hPC2 hS2 => ?_)
    refine lv_goto hx hb dL_node_14 (tgt := 25) (by decide) ?_
    refine lv_iconst hx hb dL_node_25 (v := 0) (by decide) ?_
    exact fin 0 h' f2 H2 locs2 _ ls (Or.inl ⟨rfl, r, hq, hf2⟩) hPC2 hPo2 hS2 dL_node_26
end LWW
