/-! new C(): the object and what its constructor makes, beside the world that was there -/
theorem cn_blind {D : va_G} {tys : List (ClassId × FieldType)} {sz : Nat} {ws : va_W} {av : List Value} : FrameBlind (va_Pc av (fun U => U.heap.size = sz ∧ va_P D vwCl ws U.heap ∧ va_K D vwCl tys U)) :=
  fun a U g mk q => by
    obtain ⟨q0, q1, qP, qK⟩ := q
    exact ⟨q0, q1, qP, va_K.moved (u := U) (U := U.calling g mk a) (Vm.Alike.refl U.vm) qK⟩
/-- a class of ours, as 'new' wants it -/
def cn_N (own C : String) (ik ci N : Nat) (fs0 : List Value) : Prop := ∃ (T : u_T) (ty : Nat → FieldType), vwCl[ci]? = some (C, T, N) ∧ (∀ w ∈ u_ws C T N, w ∈ ab_all) ∧ (∀ k, k < N → parseFieldDescriptor (T k).2.2.1 = some (ty k)) ∧ Cond.classLink own ik C ∈ ab_all ∧ Cond.instantiable C N ∈ ab_all ∧ Cond.initialized C ∈ ab_all ∧ ∀ j, j < N → defaultValue (ty j) = vp_V fs0 j
/-- its constructor, as a call wants it -/
def cn_M (y : MethodName) (cc : ByteArray) (nL : Nat) : Prop := (y.cls ≠ "java/lang/invoke/MethodHandle" ∧ y.cls ≠ "java/lang/invoke/VarHandle" ∧ (parseMethodDescriptor y.desc).map (fun d => d.parameters.length) = some 0) ∧ y.name = "<init>" ∧ Cond.instanceMethod y ∈ ab_all ∧ Cond.initialized y.cls ∈ ab_all ∧ Cond.code y cc nL none ∈ ab_all
theorem cn_G {y : MethodName} {cc : ByteArray} {nL : Nat} (hc : Cond.code y cc nL none ∈ ab_all) : GoodIn ab_all (Cond.code y cc nL none :: ab_all) := fun w hw => by
  have hm : w ∈ ab_all := by
    rcases List.mem_cons.mp hw with e | h
    · rw [e]; exact hc
    · exact h
  exact ⟨hm, good_of_word (List.mem_filter.mp hm).2⟩
section CM
variable {p : Program} {l : Launch} {e : Env} {R : Room} {s : State} {m : MethodId} {args : Array Value} {below : List Frame} {meth : Method} {c : Code} {H H0 : Heap} {locs : List Loc} {cells slots : Nat} {Q : State → Prop}
variable {own : String} {cc : ByteArray} {nL pc : Nat} {dC : Nat → ClassId} {dI : Nat → Nat → Nat} {cI cW : ClassId} {A : Nat → Prop} {ls : Array Slot} {rest : List Value} {o ci : Nat} {ws : va_W}
/-- behind the constructor's run -/
theorem cn_behind {q K V : Nat} {fs0 : List Value} {W' : (Nat → Nat) → va_W} {H1 : Heap} {av : Array Value} {st0 : List Value} (hA : ∀ q, H0.size ≤ q → A q) (hP1 : va_P (dC, dI) vwCl (ws ++ [(q, .inr (ci, fs0))]) H1) (hD : va_D A ws) (hD1 : va_D A (ws ++ [(q, .inr (ci, fs0))])) (hS1 : va_S A H0 H1 locs)
    (run : va_Run p l e R s m args below meth c H1 locs cells slots K V (F0 m pc ls st0) rest (cn_Qc (dC, dI) (ab_tys cI cW) (cn_A q H1.size) W' av) (cn_A q H1.size))
    (kk : ∀ (qs : Nat → Nat) (H2 : Heap) (locs2 : List Loc), va_P (dC, dI) vwCl (ws ++ W' qs) H2 → va_D A (ws ++ W' qs) → va_S A H0 H2 locs2 → W p l e R s m args below meth c H2 locs2 (cells + K) (slots + V) Q (F0 m (pc + 3) ls rest)) : W p l e R s m args below meth c H1 locs cells slots Q (F0 m pc ls st0) := by
  intro T hT XT
  obtain ⟨v, st₀, t, T', Lc, h0, X', hL, e1, e2, ⟨⟨qs, hv, hP2, hD2, hK2⟩, hz, hk⟩, st⟩ := run T hT XT
  cases hv
  rw [h0] at hz hk
  have hPw : va_P (dC, dI) vwCl ws H1 := fun k x hx => hP1 k x (by rw [List.getElem?_append_left (List.getElem?_eq_some_iff.mp hx).1]; exact hx)
  have hq : ∀ (k : Nat) (x : Nat × va_E), ws[k]? = some x → x.1 ≠ q ∧ x.1 < H1.size := fun k x hx => by
    refine ⟨fun e => ?_, vx_lt hPw hx⟩
    have hl := (List.getElem?_eq_some_iff.mp hx).1
    have := hD1.1 k ws.length x (q, .inr (ci, fs0)) (by rw [List.getElem?_append_left hl]; exact hx) (by simp) e
    omega
  have hqA : A q := hD1.2 ws.length (q, .inr (ci, fs0)) (by simp)
  have hsub : ∀ z, cn_A q H1.size z → A z := fun z hz => by
    rcases hz with e | hz
    · rw [e]; exact hqA
    · exact hA z (Nat.le_trans hS1.1 hz)
  have hPk : va_P (dC, dI) vwCl ws T'.heap := hPw.kept fun k x hx => by
    rw [e1]
    exact hk x.1 (hq k x hx).2 (fun z => by
      rcases z with z | z
      · exact (hq k x hx).1 z
      · have := (hq k x hx).2; omega)
  have hD3 : va_D A (ws ++ W' qs) := va_D.app hD (hD2.weaken fun k x _ z => hsub _ z) (fun i j x y hx hy e => by
    rcases hD2.2 j y hy with z | z
    · exact (hq i x hx).1 (e.trans z)
    · have := (hq i x hx).2; omega)
  have hS2 : va_S A H0 T'.heap (locs ++ Lc) := ⟨Nat.le_trans hS1.1 (by rw [e1]; exact hz), fun z h1 h2 => by rw [e1, hk z (Nat.lt_of_lt_of_le h1 hS1.1) (fun y => h2 (hsub z y))]; exact hS1.2.1 z h1 h2, fun z hz => by
    rcases List.mem_append.mp hz with h | h
    · exact hS1.2.2 z h
    · exact hsub _ (hL z h)⟩
  obtain ⟨t2, a1, b1⟩ := kk qs T'.heap (locs ++ Lc) (hPk.app (by rw [e1]; exact hP2)) hD3 hS2 T' rfl X'
  exact ⟨t2, st t2 a1, b1⟩
theorem cn_makeN {C host : String} {ik ic N d K V nL' : Nat} {y : MethodName} {cc' : ByteArray} {fs0 : List Value} {W' : ClassId → Nat → (Nat → Nat) → va_W} (X : cn_Cx own cc nL (dC, dI) (ab_tys cI cW) cI H0 A p s m args meth c) (hN : cn_N own C ik ci N fs0) (hM : cn_M y cc' nL') (hnL : nL' ≤ 21) (hnest : va_Nw (.methodLinkNest own ic y host) s) (hC : cn_C l y cc' nL' d K V ci fs0 W')
    (hP : va_P (dC, dI) vwCl ws H) (hD : va_D A ws) (hS : va_S A H0 H locs) (hls : ls.size = nL) (hrest : (rest.map fun v => v.category).sum ≤ 7) (hF : d + 1 ≤ R.frames) (hLo : 40 * (d + 1) ≤ R.locals) (hRc : cells + 1 + K ≤ R.cells) (hRs : slots + N + V ≤ R.slots)
    (d0 : decode cc pc = .ok (.new ik, 3)) (d3 : decode cc (pc + 3) = .ok (.dup, 1)) (d4 : decode cc (pc + 4) = .ok (.invokespecial ic, 3))
    (kk : ∀ (q : Nat) (qs : Nat → Nat) (H2 : Heap) (locs2 : List Loc), va_P (dC, dI) vwCl (ws ++ W' cI q qs) H2 → va_D A (ws ++ W' cI q qs) → va_S A H0 H2 locs2 → W p l e R s m args below meth c H2 locs2 (cells + 1 + K) (slots + N + V) Q (F0 m (pc + 7) ls (.ref q :: rest))) :
    W p l e R s m args below meth c H locs cells slots Q (F0 m pc ls rest) := by
  obtain ⟨hx, hb, hml, hown, hts, hmn, hK, hI0, hA⟩ := X
  obtain ⟨T, ty, hcl, hin, hty, h1, h2, h3, h4⟩ := hN
  obtain ⟨hy, hyn, hyi, hyc, hco⟩ := hM
  refine va_new hx hb hts hin ty hty hown (hts _ h1) (hts _ h2) (hts _ h3) hK hP hD hS hA hcl h4 (by omega) (by omega) d0 (fun q H1 hP1 hD1 hS1 => ?_)
  refine lv_dup hx hb d3 rfl ?_
  have cw : va_CN R s args own ic y host cc' nL' none (Cond.code y cc' nL' none :: ab_all) (ag_rm d K V) K V 0 := va_cnB 0 hts (cn_G hco) rfl rfl rfl hnest (hts _ hyc) hy ⟨hF, by show 8 + (nL' + 11) + 40 * d ≤ R.locals; omega⟩
  refine cn_behind (W' := W' cI q) (pc := pc + 4) hA hP1 hD hD1 hS1 (va_runIN (As := []) (rest := .ref q :: rest) (b := q) ⟨hx, hb, hml, hown, hts⟩ (hC dC dI cI cW q H1.size) ⟨cw, hyn, hts _ hyi⟩ ⟨cn_blind, fun U hU hW => ⟨rfl, by rw [hU], ?_, va_K.moved hW.alike hK⟩⟩ rfl rfl hls rfl (lv_room ?_) d4 ⟨by omega, by omega⟩) (fun qs H2 locs2 a b c => kk q qs H2 locs2 a b c)
  · rw [hU]
    intro k x hx
    obtain ⟨hk, e⟩ := List.getElem?_eq_some_iff.mp hx
    have : k = 0 := by simp only [List.length_cons, List.length_nil] at hk; omega
    subst this
    exact hP1 ws.length x (by rw [List.getElem?_append_right (Nat.le_refl _), Nat.sub_self]; exact hx)
  · simp only [List.map_cons, List.sum_cons]
    have : (Value.ref q).category = 1 := rfl
    omega
theorem cn_makeP {C : String} {ik ic N d K V nL' : Nat} {y : MethodName} {cc' : ByteArray} {fs0 : List Value} {W' : ClassId → Nat → (Nat → Nat) → va_W} (hx : p.tables.exec = Jvm.exec) (hb : c.code = cc) (hml : c.maxLocals = nL) (hown : s.vm.findClass own = some m.cls) (hts : ∀ w ∈ ab_all, w.before args s = true) (hK : va_K (dC, dI) vwCl (ab_tys cI cW) s) (hA : ∀ q, H0.size ≤ q → A q)
    (hN : cn_N own C ik ci N fs0) (hM : cn_M y cc' nL') (hnL : nL' ≤ 21) (hlink : Cond.methodLink own ic y ∈ ab_all) (hC : cn_C l y cc' nL' d K V ci fs0 W')
    (hP : va_P (dC, dI) vwCl ws H) (hD : va_D A ws) (hS : va_S A H0 H locs) (hls : ls.size = nL) (hrest : (rest.map fun v => v.category).sum ≤ 7) (hF : d + 1 ≤ R.frames) (hLo : 40 * (d + 1) ≤ R.locals) (hRc : cells + 1 + K ≤ R.cells) (hRs : slots + N + V ≤ R.slots)
    (d0 : decode cc pc = .ok (.new ik, 3)) (d3 : decode cc (pc + 3) = .ok (.dup, 1)) (d4 : decode cc (pc + 4) = .ok (.invokespecial ic, 3))
    (kk : ∀ (q : Nat) (qs : Nat → Nat) (H2 : Heap) (locs2 : List Loc), va_P (dC, dI) vwCl (ws ++ W' cI q qs) H2 → va_D A (ws ++ W' cI q qs) → va_S A H0 H2 locs2 → W p l e R s m args below meth c H2 locs2 (cells + 1 + K) (slots + N + V) Q (F0 m (pc + 7) ls (.ref q :: rest))) :
    W p l e R s m args below meth c H locs cells slots Q (F0 m pc ls rest) := by
  obtain ⟨T, ty, hcl, hin, hty, h1, h2, h3, h4⟩ := hN
  obtain ⟨hy, hyn, hyi, hyc, hco⟩ := hM
  refine va_new hx hb hts hin ty hty hown (hts _ h1) (hts _ h2) (hts _ h3) hK hP hD hS hA hcl h4 (by omega) (by omega) d0 (fun q H1 hP1 hD1 hS1 => ?_)
  refine lv_dup hx hb d3 rfl ?_
  have cw : CallB R s args own ic y cc' nL' none (Cond.code y cc' nL' none :: ab_all) (ag_rm d K V) K V 0 := callB_of 0 hts (cn_G hco) rfl rfl rfl (hts _ hyc) (hts _ hlink) hy ⟨hF, by show 8 + (nL' + 11) + 40 * d ≤ R.locals; omega⟩
  refine cn_behind (W' := W' cI q) (pc := pc + 4) hA hP1 hD hD1 hS1 (va_runI (As := []) (rest := .ref q :: rest) (b := q) ⟨hx, hb, hml, hown, hts⟩ (hC dC dI cI cW q H1.size) ⟨cw, hyn, hts _ hyi⟩ ⟨cn_blind, fun U hU hW => ⟨rfl, by rw [hU], ?_, va_K.moved hW.alike hK⟩⟩ rfl rfl hls rfl (lv_room ?_) d4 ⟨by omega, by omega⟩) (fun qs H2 locs2 a b c => kk q qs H2 locs2 a b c)
  · rw [hU]
    intro k x hx
    obtain ⟨hk, e⟩ := List.getElem?_eq_some_iff.mp hx
    have : k = 0 := by simp only [List.length_cons, List.length_nil] at hk; omega
    subst this
    exact hP1 ws.length x (by rw [List.getElem?_append_right (Nat.le_refl _), Nat.sub_self]; exact hx)
  · simp only [List.map_cons, List.sum_cons]
    have : (Value.ref q).category = 1 := rfl
    omega
end CM
