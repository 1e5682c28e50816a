/-! calls and throws in a body that may throw -/
theorem ag_row.go {n : String} {f : Nat → Int32} {A B : Nat → Prop} {s U : State} {H0 H : Heap} (h : ag_row n f A s H0) (hW : s.vm.Alike U.vm) (hk : ∀ a : Nat, a < H0.size → ¬ A a → H[a]? = H0[a]?) (hz : H0.size ≤ H.size) (hAB : ∀ q, B q → A q) : ag_row n f B U H := by
  obtain ⟨b, h1, h2⟩ := h
  exact ⟨b, ((h1.kept hk).moved hW).narrow hAB, ((h2.kept hk).moved hW).narrow hAB⟩
theorem ag_nw.go {s U : State} (h : ag_nw s) (hW : s.WarmedH U.vm) : ag_nw U := fun w hw => by
  have q := h w hw
  simp only [ag_ngl, List.mem_cons, List.not_mem_nil, or_false] at hw
  rcases hw with e | e | e | e | e <;> subst e
  · exact va_Nw.warmD hW q
  · exact va_Nw.warmD hW q
  · exact va_Nw.warmD hW q
  · exact va_Nw.warmC hW q
  · exact va_Nw.warmC hW q
theorem ag_ngl_ot : ∀ w ∈ ag_ngl, w.onTables = true := by decide
theorem ag_X.go {A B : Nat → Prop} {s U : State} {H0 H : Heap} (h : ag_X A s H0) (hW : s.WarmedH U.vm) (hk : ∀ a : Nat, a < H0.size → ¬ A a → H[a]? = H0[a]?) (hz : H0.size ≤ H.size) (hAB : ∀ q, B q → A q) : ag_X B U H := by
  obtain ⟨h1, h2, ⟨⟨a1, t1⟩, ⟨a2, t2⟩, ⟨a3, t3⟩⟩, h4, h5, h6⟩ := h
  exact ⟨((h1.kept hk).moved hW.alike).narrow hAB, ((h2.kept hk).moved hW.alike).narrow hAB, ⟨⟨a1, vk_R.warm hW t1⟩, ⟨a2, vk_R.warm hW t2⟩, ⟨a3, vk_R.warm hW t3⟩⟩, h4.go hW.alike hk hz hAB, h5.go hW.alike hk hz hAB, h6.go hW⟩
section AGC
variable {l : Launch} {lay : List ab_E} {M : ab_M} {R : Room} {K V : Nat} {Q : Option ab_V → ab_H → Prop} {Ex : String → ab_H → Prop} {cc cs : Nat} {pc : Nat} {L : List (Nat × ab_V)} {S : List ab_V} {h : ab_H} {d : Nat}
/-- the room that a callee wants -/
def ag_fit (R : Room) (d cc cs : Nat) : Prop := d + 1 ≤ R.frames ∧ 40 * (d + 1) ≤ R.locals ∧ cc ≤ R.cells ∧ cs ≤ R.slots
theorem ag_callB {s : State} {args : Array Value} {own : String} {idx n : Nat} {M' : ab_M} {k v : Nat} (hf : d + 1 ≤ R.frames) (hl : 40 * (d + 1) ≤ R.locals) (hts : ∀ w ∈ ab_all, w.before args s = true) (hm : ab_MB own idx n M') : CallB R s args own idx M'.1 M'.2.1 M'.2.2.1 M'.2.2.2 (ab_ws M') (ag_rm d k v) k v n :=
  callB_of n hts (ab_ws_good hm.2.2.2.2) rfl rfl rfl (hts _ hm.2.2.2.1) (hts _ hm.2.2.1) hm.1 ⟨hf, by have := hm.2.1; show 8 + (M'.2.2.1 + 11) + 40 * d ≤ R.locals; omega⟩
theorem ag_in {p : Program} {s : State} {m : MethodId} {args : Array Value} {meth : Method} {c : Code} {dC : Nat → ClassId} {dI : Nat → Nat → Nat} {cI cW : ClassId} {adr : Nat → Nat} {A : Nat → Prop} {H : Heap} {locs : List Loc} {ls : Array Slot}
    (X : ab_Cx lay M p s m args meth c dC dI cI cW adr A) (Y : ab_Dy lay M.2.2.1 s dC dI cI cW adr A H locs ls L h) : ∀ q, ab_A lay adr H.size q → A q := fun q hq => by
  rcases hq with ⟨i, hi, rfl⟩ | hq
  · exact X.2.2.2.2.2.2.2.2.1.2 i hi
  · exact X.2.2.2.2.2.2.2.2.2 q (Nat.le_trans Y.2.1.1 hq)
theorem ag_next {s : State} {A : Nat → Prop} {adr : Nat → Nat} {H : Heap} {locs Lc : List Loc} {T' : State} (hAA : ∀ q, ab_A lay adr H.size q → A q) (hS : va_S A s.heap H locs) (hz : H.size ≤ T'.heap.size) (hk : ∀ q : Nat, q < H.size → ¬ ab_A lay adr H.size q → T'.heap[q]? = H[q]?) (hL : ∀ q ∈ Lc, ab_A lay adr H.size q.base) : va_S A s.heap T'.heap (locs ++ Lc) :=
  ⟨Nat.le_trans hS.1 hz, fun q h1 h2 => by rw [hk q (Nat.lt_of_lt_of_le h1 hS.1) (fun z => h2 (hAA q z))]; exact hS.2.1 q h1 h2, fun q hq => by
    rcases List.mem_append.mp hq with h | h
    · exact hS.2.2 q h
    · exact hAA _ (hL q h)⟩
/-- behind a call of a method that throws nothing -/
theorem ag_back {p : Program} {e : Env} {s : State} {m : MethodId} {args : Array Value} {below : List Frame} {meth : Method} {c : Code} {dC : Nat → ClassId} {dI : Nat → Nat → Nat} {cI cW : ClassId} {adr : Nat → Nat} {A : Nat → Prop} {H : Heap} {locs : List Loc} {ls : Array Slot} {st0 : List Value} {av : Array Value} {Q' : Option ab_V → ab_H → Prop}
    (X : ab_Cx lay M p s m args meth c dC dI cI cW adr A) (Z : ag_Z c A s) (Y : ab_Dy lay M.2.2.1 s dC dI cI cW adr A H locs ls L h)
    (hr : va_Run p l e R s m args below meth c H locs cc cs 0 0 (F0 m pc ls st0) (S.map (ab_c adr)) (ab_Qc lay dC dI cI cW adr (ab_A lay adr H.size) Q' av) (ab_A lay adr H.size))
    (kk : ∀ v h', Q' v h' → ag_J l lay M R K V Q Ex cc cs (pc + 3) L (v.toList ++ S) h') : W p l e R s m args below meth c H locs cc cs (vx_MQ below (ab_Qc lay dC dI cI cW adr A Q) (ag_XC lay dC dI cI cW adr A Ex) args s K V A) (F0 m pc ls st0) := by
  intro T hT XT
  obtain ⟨v, st₀, t, T', Lc, h0, X', hL, e1, e2, ⟨⟨v', h', hv, hq, hP1, hK1⟩, hz, hk⟩, st⟩ := hr T hT XT
  cases hv
  rw [h0] at hz hk
  have hS1 : va_S A s.heap T'.heap (locs ++ Lc) := ag_next (ag_in X Y) Y.2.1 (by rw [e1]; exact hz) (by rw [e1]; exact hk) hL
  obtain ⟨t2, a1, b1⟩ := kk v' h' hq p e s m args below meth c dC dI cI cW adr A X Z T'.heap (locs ++ Lc) ls ⟨by rw [e1]; exact hP1, hS1, Y.2.2⟩ T' rfl X'
  refine ⟨t2, st t2 ?_, b1⟩
  have e3 : (v'.map (ab_c adr)).toList ++ S.map (ab_c adr) = (v'.toList ++ S).map (ab_c adr) := by cases v' <;> rfl
  rw [show ({ F0 m pc ls st0 with pc := (F0 m pc ls st0).pc + 3, stack := (v'.map (ab_c adr)).toList ++ S.map (ab_c adr) } : JFrame) = F0 m (pc + 3) ls ((v'.toList ++ S).map (ab_c adr)) by rw [e3]]
  exact a1
theorem ag_callV {M' : ab_M} {idx ci i n : Nat} {fl : List (Option Nat)} {As : List ab_V} {Q' : Option ab_V → ab_H → Prop} (hR : ag_fit R d cc cs) (hd : decode M.2.1 pc = .ok (.invokevirtual idx, 3)) (hm : ab_MV M.1.cls idx ci n M') (he : lay[i]? = some (.inr (.inr (ci, fl)))) (hn : As.length = n) (hS : (S.map ab_cat).sum ≤ 8)
    (hc : ab_C l lay d M' (ab_R i :: As) h Q') (kk : ∀ v h', Q' v h' → ag_J l lay M R K V Q Ex cc cs (pc + 3) L (v.toList ++ S) h') : ag_J l lay M R K V Q Ex cc cs pc L (As.reverse ++ ab_R i :: S) h := by
  intro p e s m args below meth c dC dI cI cW adr A X Z H locs ls Y
  obtain ⟨hx, hb, hr, hml, hown, hts, hlk, hK, hD, hA⟩ := id X
  obtain ⟨hP, hSs, hl⟩ := id Y
  obtain ⟨hmB, ⟨q, hq1, hq2⟩, hins, hsel⟩ := hm
  have cw : CallW R s args M.1.cls M'.1.cls idx M'.1 M'.2.1 M'.2.2.1 M'.2.2.2 (ab_ws M') (ag_rm d 0 0) 0 0 n := ⟨ag_callB hR.1 hR.2.1 hts hmB, hts _ hins, hts _ hsel⟩
  refine ag_back X Z Y (va_runV (As := As.map (ab_c adr)) (rest := S.map (ab_c adr)) (b := adr i) ⟨hx, hb, hml, hown, hts⟩ (hc dC dI cI cW adr H.size) cw ⟨ab_blind, ?_, fun U hU hW => ⟨rfl, by rw [hU], by rw [hU]; exact hP, va_K.moved hW.alike hK, hD.1, fun _ _ => trivial⟩⟩ rfl (by rw [List.length_map]; exact hn) hl.1 ?_ (lv_room (by rw [ab_catS]; exact hS)) hd ⟨hR.2.2.1, hR.2.2.2⟩) kk
  · rw [← hq2]
    exact va_recv hK hP hq1 (ab_w_at he)
  · show (As.reverse ++ ab_R i :: S).map (ab_c adr) = _
    rw [List.map_append, List.map_reverse]
    rfl
theorem ag_callS {M' : ab_M} {idx n : Nat} {As : List ab_V} {Q' : Option ab_V → ab_H → Prop} (hR : ag_fit R d cc cs) (hd : decode M.2.1 pc = .ok (.invokestatic idx, 3)) (hm : ab_MS M.1.cls idx n M') (hn : As.length = n) (hS : (S.map ab_cat).sum ≤ 8)
    (hc : ab_C l lay d M' As h Q') (kk : ∀ v h', Q' v h' → ag_J l lay M R K V Q Ex cc cs (pc + 3) L (v.toList ++ S) h') : ag_J l lay M R K V Q Ex cc cs pc L (As.reverse ++ S) h := by
  intro p e s m args below meth c dC dI cI cW adr A X Z H locs ls Y
  obtain ⟨hx, hb, hr, hml, hown, hts, hlk, hK, hD, hA⟩ := id X
  obtain ⟨hP, hSs, hl⟩ := id Y
  obtain ⟨hmB, hstat⟩ := hm
  have cw : CallB R s args M.1.cls idx M'.1 M'.2.1 M'.2.2.1 M'.2.2.2 (ab_ws M') (ag_rm d 0 0) 0 0 n := ag_callB hR.1 hR.2.1 hts hmB
  refine ag_back X Z Y (va_runS (As := As.map (ab_c adr)) (rest := S.map (ab_c adr)) ⟨hx, hb, hml, hown, hts⟩ (hc dC dI cI cW adr H.size) ⟨cw, hts _ hstat⟩ ⟨ab_blind, fun U hU hW => ⟨rfl, by rw [hU], by rw [hU]; exact hP, va_K.moved hW.alike hK, hD.1, fun _ _ => trivial⟩⟩ rfl (by rw [List.length_map]; exact hn) hl.1 ?_ (lv_room (by rw [ab_catS]; exact hS)) hd ⟨hR.2.2.1, hR.2.2.2⟩) kk
  show (As.reverse ++ S).map (ab_c adr) = _
  rw [List.map_append, List.map_reverse]
theorem ag_blind {dC : Nat → ClassId} {dI : Nat → Nat → Nat} {cI cW : ClassId} {adr : Nat → Nat} {sz : Nat} {av : List Value} {A : Nat → Prop} : FrameBlind (va_Pc av (fun U => U.heap.size = sz ∧ va_P (dC, dI) vwCl (ab_w lay cI cW adr h) U.heap ∧ va_K (dC, dI) vwCl (ab_tys cI cW) U ∧ ab_D lay adr (fun _ => True) ∧ ag_X A U U.heap)) :=
  fun a U g mk q => by
    obtain ⟨q0, q1, qP, qK, qD, qX⟩ := q
    exact ⟨q0, q1, qP, va_K.moved (u := U) (U := U.calling g mk a) (Vm.Alike.refl U.vm) qK, qD, qX.go (U := U.calling g mk a) (State.WarmedH.refl U) (fun _ _ _ => rfl) (Nat.le_refl _) (fun _ q => q)⟩
/-- a static method that may throw, and is not caught here -/
theorem ag_callX {M' : ab_M} {idx n k v : Nat} {As : List ab_V} {Q' : Option ab_V → ab_H → Prop} {Ex' : String → ab_H → Prop} (hR : ag_fit R d (cc + k) (cs + v)) (hk : cc + k ≤ K) (hv : cs + v ≤ V) (hd : decode M.2.1 pc = .ok (.invokestatic idx, 3)) (hm : ab_MS M.1.cls idx n M') (hn : As.length = n) (hS : (S.map ab_cat).sum ≤ 8)
    (hc : ag_C l lay d k v M' As h Q' Ex') (kx : ∀ E h', Ex' E h' → Ex E h') (kk : ∀ v' h', Q' v' h' → ag_J l lay M R K V Q Ex (cc + k) (cs + v) (pc + 3) L (v'.toList ++ S) h') : ag_J l lay M R K V Q Ex cc cs pc L (As.reverse ++ S) h := by
  intro p e s m args below meth c dC dI cI cW adr A X Z H locs ls Y
  obtain ⟨hx, hb, hr, hml, hown, hts, hlk, hK, hD, hA⟩ := id X
  obtain ⟨hP, hSs, hl⟩ := id Y
  obtain ⟨hmB, hstat⟩ := hm
  have cw : CallB R s args M.1.cls idx M'.1 M'.2.1 M'.2.2.1 M'.2.2.2 (ab_ws M') (ag_rm d k v) k v n := ag_callB hR.1 hR.2.1 hts hmB
  have run := vx_runS (As := As.map (ab_c adr)) (rest := S.map (ab_c adr)) (p := p) (e := e) (below := below) (meth := meth) (H := H) (locs := locs) (cells := cc) (slots := cs) (g := F0 m pc ls ((As.reverse ++ S).map (ab_c adr))) ⟨hx, hb, hml, hown, hts⟩ (hc dC dI cI cW adr H.size) ⟨cw, hts _ hstat⟩ ⟨ag_blind, fun U hU hW => ⟨rfl, by rw [hU], by rw [hU]; exact hP, va_K.moved hW.alike hK, ⟨hD.1, fun _ _ => trivial⟩, by rw [hU]; exact Z.2.go hW hSs.2.1 hSs.1 (ag_in X Y)⟩⟩ rfl (by rw [List.length_map]; exact hn) hl.1
    (by show (As.reverse ++ S).map (ab_c adr) = _; rw [List.map_append, List.map_reverse]) (lv_room (by rw [ab_catS]; exact hS)) hd ⟨hR.2.2.1, hR.2.2.2⟩
  intro T hT XT
  rcases run T hT XT with ⟨v1, st₀, t, T', Lc, h0, X', hL, e1, e2, ⟨⟨v', h', hv1, hq, hP1, hK1⟩, hz, hk1⟩, st⟩ | ⟨q, st₀, t, T', Lc, E, ce, h0, X', hL, e1, e2, ⟨h', -, ⟨hE, hP1, hK1⟩, hz, hk1⟩, hce, hcv, hcl, st⟩
  · cases hv1
    rw [h0] at hz hk1
    have hS1 : va_S A s.heap T'.heap (locs ++ Lc) := ag_next (ag_in X Y) hSs (by rw [e1]; exact hz) (by rw [e1]; exact hk1) hL
    obtain ⟨t2, a1, b1⟩ := kk v' h' hq p e s m args below meth c dC dI cI cW adr A X Z T'.heap (locs ++ Lc) ls ⟨by rw [e1]; exact hP1, hS1, hl⟩ T' rfl X'
    refine ⟨t2, st t2 ?_, b1⟩
    have e3 : (v'.map (ab_c adr)).toList ++ S.map (ab_c adr) = (v'.toList ++ S).map (ab_c adr) := by cases v' <;> rfl
    rw [show ({ F0 m pc ls ((As.reverse ++ S).map (ab_c adr)) with pc := (F0 m pc ls ((As.reverse ++ S).map (ab_c adr))).pc + 3, stack := (v'.map (ab_c adr)).toList ++ S.map (ab_c adr) } : JFrame) = F0 m (pc + 3) ls ((v'.toList ++ S).map (ab_c adr)) by rw [e3]]
    exact a1
  · rw [h0] at hz hk1
    have hS1 : va_S A s.heap T'.heap (locs ++ Lc) := ag_next (ag_in X Y) hSs (by rw [e1]; exact hz) (by rw [e1]; exact hk1) hL
    obtain ⟨t2, a1, b1⟩ := vx_out (p := p) (l := l) (e := e) (R := R) (s := s) (m := m) (args := args) (below := below) (meth := meth) (c := c) (H := T'.heap) (locs := locs ++ Lc) (cells := cc + k) (slots := cs + v) (free := A) (Qc := ab_Qc lay dC dI cI cW adr A Q) (XC := ag_XC lay dC dI cI cW adr A Ex) (pc := pc) (ls := ls) (rest := S.map (ab_c adr)) (E := E) (ce := ce) (q := q) (mc := K) (ms := V)
      (fun x hx => (Z.1 x hx).elim) hlk (by rw [e1]; exact hce) hcv hcl (fun u hu hal => ⟨h', trivial, ⟨kx E h' hE, by rw [hu, e1]; exact hP1, va_K.moved hal hK⟩, hS1.F hu⟩) hS1.2.2 hk hv T' rfl X'
    exact ⟨t2, st.trans a1, b1⟩
/-- throw new E("text") -/
theorem ag_throw {ik is ic : Nat} {cls text : String} {names : List String} (hl9 : l.stackTraces = false) (hcls : Bundle.fit cls = true) (hnames : ∀ n ∈ names, Bundle.fit n = true) (hk : Cond.classLink M.1.cls ik cls ∈ ab_all) (hini : Cond.initialized cls ∈ ab_all) (hstr : ∀ s, ag_txt s → ∃ sa, vk_R M.1.cls is text sa s)
    (hat : ∀ w ∈ vx_atS M.1.cls ic cls names, w ∈ ab_all ∨ w ∈ ag_ngl)
    (d0 : decode M.2.1 pc = .ok (.new ik, 3)) (d3 : decode M.2.1 (pc + 3) = .ok (.dup, 1)) (d4 : decode M.2.1 (pc + 4) = .ok (.ldc is, 2)) (d6 : decode M.2.1 (pc + 6) = .ok (.invokespecial ic, 3)) (d9 : decode M.2.1 (pc + 9) = .ok (.athrow, 1))
    (hF : names.length + 3 < R.frames) (hLo : (S.map ab_cat).sum + (13 * (names.length + 1) + 43) ≤ R.locals) (hRc : cc + 1 ≤ R.cells) (hRs : cs + 6 ≤ R.slots) (hc : cc + 1 ≤ K) (hs : cs + 6 ≤ V) (hE : Ex cls h) : ag_J l lay M R K V Q Ex cc cs pc L S h := by
  intro p e s m args below meth c dC dI cI cW adr A X Z H locs ls Y
  obtain ⟨hx, hb, hr, hml, hown, hts, hlk, hK, hD, hA⟩ := id X
  obtain ⟨hP, hSs, hl⟩ := id Y
  obtain ⟨sa, hsa⟩ := hstr s Z.2.2.2.1
  refine vx_throwS hx hb hl9 (names := names) (sa := sa) (A := A) hown hcls hnames (hts _ hk) (hts _ hini) hsa (fun w hw => (hat w hw).elim (hts w) (fun q => va_Nw.use (ag_ngl_ot w q) (Z.2.2.2.2.2.2 w q))) ?_ Z.2.1 Z.2.2.1 hSs (hl.1.trans hml.symm) d0 d3 d4 d6 d9 (fun x hx => (Z.1 x hx).elim) hF (by rw [ab_catS]; exact hLo) hRc hRs hlk ?_ hSs.2.2 hc hs
  · intro w hw
    unfold vx_ot
    rw [Bool.or_eq_true]
    rcases List.mem_cons.mp hw with q | hw
    · rw [q]; exact Or.inr (List.mem_filter.mp hk).2
    · rcases List.mem_cons.mp hw with q | hw
      · rw [q]; exact Or.inr (List.mem_filter.mp hini).2
      · rcases hat w hw with q | q
        · exact Or.inr (List.mem_filter.mp q).2
        · exact Or.inl (ag_ngl_ot w q)
  · intro t hal hz hk1
    refine ⟨h, trivial, ⟨hE, hP.kept fun k q hq => hk1 q.1 (vx_lt hP hq), va_K.moved hal hK⟩, Nat.le_trans hSs.1 hz, fun q q1 q2 => ?_⟩
    rw [hk1 q (Nat.lt_of_lt_of_le q1 hSs.1)]
    exact hSs.2.1 q q1 q2
/-- a constant row's element: getstatic, the index, iaload -/
theorem ag_getrow {n : String} {f : Nat → Int32} {idx : Nat} {j : Fin 4} {i : Nat} {x : Int32} (hX : ∀ A s H, ag_X A s H → ag_row n f A s H) (hlink : Cond.fieldLink M.1.cls idx "UndoWorks" n "[I" ∈ ab_all) (d0 : decode M.2.1 pc = .ok (.getstatic idx, 3)) (d3 : decode M.2.1 (pc + 3) = .ok (.iload_n j, 1)) (d4 : decode M.2.1 (pc + 4) = .ok (.iaload, 1)) (hi : (j : Nat) = i) (hl : ab_lk L i = some (ab_I x)) (hin : vp_in x 24)
    (k : ag_J l lay M R K V Q Ex cc cs (pc + 5) L (ab_I (f x.toNatClampNeg) :: S) h) : ag_J l lay M R K V Q Ex cc cs pc L S h := by
  intro p e s m args below meth c dC dI cI cW adr A X Z H locs ls Y
  obtain ⟨b, h1, h2⟩ := hX _ _ _ Z.2
  refine va_gets X.1 X.2.1 h1 Y.2.1 X.2.2.2.2.1 (X.2.2.2.2.2.1 _ hlink) (fun _ h => h) d0 ?_
  refine lv_iload_n X.1 X.2.1 d3 hi (ab_lkp Y.2.2 hl) ?_
  exact va_ti (v := .int (f x.toNatClampNeg)) X.1 X.2.1 h2 Y.2.1 hin rfl d4 (k p e s m args below meth c dC dI cI cW adr A X Z H locs ls Y)
end AGC
