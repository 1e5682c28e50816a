/-! the law's frame: the class's world, the reference's world, the long -/
def lw_A (sz : Nat) : Nat → Prop := fun q => sz ≤ q
/-- what stays, from the law's entry on -/
def lw_K (dC : Nat → ClassId) (dI : Nat → Nat → Nat) (cI cW cJ : ClassId) (p : Program) (s : State) (m : MethodId) (args : Array Value) (meth : Method) (c : Code) (b L : Nat) (xs : Nat → Int32) : Prop :=
  p.tables.exec = Jvm.exec ∧ c.code = code ∧ c.maxLocals = 7 ∧ s.vm.findClass RL = some m.cls ∧ (∀ w ∈ ab_all, w.before args s = true) ∧ va_K (dC, dI) vwCl (lw_tys cI cW cJ) s ∧ ag_X (lw_A s.heap.size) s s.heap ∧ va_Nc xS xI s ∧ va_X b L xs s s.heap ∧ b < s.heap.size
/-- the three worlds, apart -/
def lw_G (sz : Nat) (aC aM : Nat → Nat) (o : Nat) : Prop := ab_D layC aC (lw_A sz) ∧ ab_D layM aM (lw_A sz) ∧ sz ≤ o ∧ (∀ i, i < layC.length → o ≠ aC i) ∧ (∀ i, i < layM.length → o ≠ aM i) ∧ ∀ i j, i < layC.length → j < layM.length → aM j ≠ aC i
def lw_V (dC : Nat → ClassId) (dI : Nat → Nat → Nat) (cI cW cJ : ClassId) (aC aM : Nat → Nat) (o : Nat) (h g : ab_H) (f : Nat → Int64) (H : Heap) : Prop := va_P (dC, dI) vwCl (ab_w layC cI cW aC h) H ∧ va_P (dC, dI) vwCl (ab_w layM cI cW aM g) H ∧ va_P (dC, dI) vwCl (lw_out cJ o f) H
section LWL
variable {p : Program} {l : Launch} {e : Env} {R : Room} {s : State} {m : MethodId} {args : Array Value} {below : List Frame} {meth : Method} {c : Code} {H : Heap} {locs : List Loc} {cells slots : Nat} {Q : State → Prop}
variable {dC : Nat → ClassId} {dI : Nat → Nat → Nat} {cI cW cJ : ClassId} {aC aM : Nat → Nat} {o b L pc d : Nat} {xs : Nat → Int32} {h g : ab_H} {f : Nat → Int64} {ls : Array Slot} {rest : List Value}
theorem lw_wM {h : ab_H} (G : lw_G s.heap.size aC aM o) : ∀ (j : Nat) (q : Nat × va_E), (ab_w layM cI cW aM h)[j]? = some q → ∀ i, i < layC.length → q.1 ≠ aC i := fun j q hq i hi => by
  obtain ⟨k1, e1⟩ := ab_w_in hq
  rw [e1]
  exact G.2.2.2.2.2 i j hi k1
theorem lw_wC {h : ab_H} (G : lw_G s.heap.size aC aM o) : ∀ (j : Nat) (q : Nat × va_E), (ab_w layC cI cW aC h)[j]? = some q → ∀ i, i < layM.length → q.1 ≠ aM i := fun j q hq i hi e => by
  obtain ⟨k1, e1⟩ := ab_w_in hq
  rw [e1] at e
  exact G.2.2.2.2.2 j i k1 hi e.symm
theorem lw_wO {f : Nat → Int64} (G : lw_G s.heap.size aC aM o) : ∀ (j : Nat) (q : Nat × va_E), (lw_out cJ o f)[j]? = some q → ∀ i, i < layM.length → q.1 ≠ aM i := fun j q hq i hi => by
  obtain ⟨hk, e⟩ := List.getElem?_eq_some_iff.mp hq
  have : j = 0 := by simp only [lw_out, List.length_cons, List.length_nil] at hk; omega
  subst this
  rw [← e]
  exact G.2.2.2.2.1 i hi
theorem lw_in_q (G : ab_D layC aC (lw_A s.heap.size)) : lw_in layC aC (lw_A s.heap.size) s := ⟨G, fun _ h => h⟩
/-- a call of the reference -/
theorem lw_callM {M' : ab_M} {idx n : Nat} {As : List ab_V} {Q' : Option ab_V → ab_H → Prop} (X : lw_K dC dI cI cW cJ p s m args meth c b L xs) (G : lw_G s.heap.size aC aM o) (V : lw_V dC dI cI cW cJ aC aM o h g f H) (hS : va_S (lw_A s.heap.size) s.heap H locs) (hls : ls.size = 7) (hR : ag_fit R d cells slots) (hd : decode code pc = .ok (.invokevirtual idx, 3)) (hm : ab_MV RL idx 4 n M') (hn : As.length = n) (hrest : (rest.map fun v => v.category).sum ≤ 8)
    (hc : ab_C l layM d M' (ab_R 0 :: As) g Q')
    (kk : ∀ v' g' H1 locs1, Q' v' g' → lw_V dC dI cI cW cJ aC aM o h g' f H1 → va_S (lw_A s.heap.size) s.heap H1 locs1 → W p l e R s m args below meth c H1 locs1 cells slots Q (F0 m (pc + 3) ls ((v'.map (ab_c aM)).toList ++ rest))) :
    W p l e R s m args below meth c H locs cells slots Q (F0 m pc ls ((As.map (ab_c aM)).reverse ++ .ref (aM 0) :: rest)) := by
  obtain ⟨hx, hb, hml, hown, hts, hK, -⟩ := X
  refine lw_callV (lay := layM) (own := RL) hx hb hml hown hts (hK.sub [0, 1] rfl) ⟨G.2.1, fun _ h => h⟩ V.2.1 hS hls hR hd hm rfl hn hrest hc (fun v' g' H1 locs1 hq hP1 hS1 hk => kk v' g' H1 locs1 hq ⟨?_, hP1, ?_⟩ hS1)
  · exact hk.P V.1 (lw_wC G)
  · exact hk.P V.2.2 (lw_wO G)
/-- a call of the class that throws nothing -/
theorem lw_callC {M' : ab_M} {idx n : Nat} {As : List ab_V} {Q' : Option ab_V → ab_H → Prop} (X : lw_K dC dI cI cW cJ p s m args meth c b L xs) (G : lw_G s.heap.size aC aM o) (V : lw_V dC dI cI cW cJ aC aM o h g f H) (hS : va_S (lw_A s.heap.size) s.heap H locs) (hls : ls.size = 7) (hR : ag_fit R d cells slots) (hd : decode code pc = .ok (.invokevirtual idx, 3)) (hm : ab_MV RL idx 3 n M') (hn : As.length = n) (hrest : (rest.map fun v => v.category).sum ≤ 8)
    (hc : ab_C l layC d M' (ab_R 0 :: As) h Q')
    (kk : ∀ v' h' H1 locs1, Q' v' h' → lw_V dC dI cI cW cJ aC aM o h' g f H1 → va_S (lw_A s.heap.size) s.heap H1 locs1 → W p l e R s m args below meth c H1 locs1 cells slots Q (F0 m (pc + 3) ls ((v'.map (ab_c aC)).toList ++ rest))) :
    W p l e R s m args below meth c H locs cells slots Q (F0 m pc ls ((As.map (ab_c aC)).reverse ++ .ref (aC 0) :: rest)) := by
  obtain ⟨hx, hb, hml, hown, hts, hK, -⟩ := X
  refine lw_callV (lay := layC) (own := RL) hx hb hml hown hts (hK.sub [0, 1] rfl) ⟨G.1, fun _ h => h⟩ V.1 hS hls hR hd hm rfl hn hrest hc (fun v' h' H1 locs1 hq hP1 hS1 hk => kk v' h' H1 locs1 hq ⟨hP1, ?_, ?_⟩ hS1)
  · exact hk.P V.2.1 (lw_wM G)
  · exact hk.P V.2.2 (lw_on G.2.2.2.1)
def lw_MW (y : MethodName) (idx n : Nat) (cc' : ByteArray) (nL' : Nat) (hh : List (Nat × Nat × Nat × Nat)) : Prop := (y.cls ≠ "java/lang/invoke/MethodHandle" ∧ y.cls ≠ "java/lang/invoke/VarHandle" ∧ (parseMethodDescriptor y.desc).map (fun d => d.parameters.length) = some n) ∧ nL' ≤ 21 ∧ Cond.methodLink RL idx y ∈ ab_all ∧ Cond.static y ∈ ab_all ∧ Cond.initialized y.cls ∈ ab_all ∧ Cond.codeWith y cc' nL' (some .int) hh ∈ ab_all
theorem lw_MW.good {y : MethodName} {idx n : Nat} {cc' : ByteArray} {nL' : Nat} {hh : List (Nat × Nat × Nat × Nat)} (hm : lw_MW y idx n cc' nL' hh) : GoodIn ab_all (va_wsS RL idx y (Cond.codeWith y cc' nL' (some .int) hh :: ab_all)) := fun w hw => by
  have hm' : w ∈ ab_all := by
    unfold va_wsS at hw
    simp only [List.cons_append, List.nil_append, List.mem_cons] at hw
    rcases hw with e | e | e | e | e
    · rw [e]; exact hm.2.2.1
    · rw [e]; exact hm.2.2.2.1
    · rw [e]; exact hm.2.2.2.2.1
    · rw [e]; exact hm.2.2.2.2.2
    · exact e
  exact ⟨hm', good_of_word (List.mem_filter.mp hm').2⟩
/-- a call of one of the law's small methods -/
theorem lw_callW {y : MethodName} {idx n nL' K W9 : Nat} {cc' : ByteArray} {hh : List (Nat × Nat × Nat × Nat)} {As : List Value} {P : Int32 → ab_H → (Nat → Int64) → Prop} (X : lw_K dC dI cI cW cJ p s m args meth c b L xs) (G : lw_G s.heap.size aC aM o) (V : lw_V dC dI cI cW cJ aC aM o h g f H) (hS : va_S (lw_A s.heap.size) s.heap H locs) (hls : ls.size = 7) (hF : d + 1 ≤ R.frames) (hLo : 40 * (d + 1) ≤ R.locals) (hRc : cells + K ≤ R.cells) (hRs : slots + W9 ≤ R.slots) (hd : decode code pc = .ok (.invokestatic idx, 3)) (hm : lw_MW y idx n cc' nL' hh) (hn : As.length = n) (hrest : (rest.map fun v => v.category).sum ≤ 8)
    (hM : Met l y (Cond.codeWith y cc' nL' (some .int) hh :: ab_all) (ag_rm d K W9) (va_Pc As (lw_Pw dC dI cI cW cJ aC o H.size h f)) (lw_Qw dC dI cI cW cJ aC o H.size P) K W9 (lw_Aw aC o H.size))
    (kk : ∀ k h' f' H1 locs1, P k h' f' → lw_V dC dI cI cW cJ aC aM o h' g f' H1 → va_S (lw_A s.heap.size) s.heap H1 locs1 → W p l e R s m args below meth c H1 locs1 (cells + K) (slots + W9) Q (F0 m (pc + 3) ls (.int k :: rest))) :
    W p l e R s m args below meth c H locs cells slots Q (F0 m pc ls (As.reverse ++ rest)) := by
  obtain ⟨hx, hb, hml, hown, hts, hK, hX, hNc, -⟩ := X
  have hsub : ∀ q, lw_Aw aC o H.size q → lw_A s.heap.size q := fun q hq => by
    rcases hq with e | ⟨i, hi, e⟩ | hq
    · rw [e]; exact G.2.2.1
    · rw [e]; exact G.1.2 i hi
    · exact Nat.le_trans hS.1 hq
  have cw : vx_CSW R s args RL idx y cc' nL' (some .int) hh (Cond.codeWith y cc' nL' (some .int) hh :: ab_all) (ag_rm d K W9) K W9 n := vx_cwSW n hts hm.good rfl rfl rfl hm.1 ⟨hF, by have := hm.2.1; show 8 + (nL' + 11) + 40 * d ≤ R.locals; omega⟩
  have run := vx_runSW (As := As) (rest := rest) (p := p) (e := e) (below := below) (meth := meth) (H := H) (locs := locs) (cells := cells) (slots := slots) (g := F0 m pc ls (As.reverse ++ rest)) ⟨hx, hb, hml, hown, hts⟩ hM cw
    ⟨lw_blind, fun U hU hW => ⟨rfl, by rw [hU], by rw [hU]; exact V.1, by rw [hU]; exact V.2.2, va_K.moved hW.alike hK, ⟨G.1.1, fun _ _ => trivial⟩, G.2.2.2.1, by rw [hU]; exact hX.go hW hS.2.1 hS.1 hsub, va_Nc.moved hW.alike hNc⟩⟩ rfl hn hls rfl (lv_room hrest) hd ⟨hRc, hRs⟩
  intro T hT XT
  obtain ⟨v, st₀, t, T', Lc, h0, X', hL, e1, e2, ⟨⟨k, h', f', hv, hq, hP1, hPo1, hK1⟩, hz, hk⟩, st⟩ := run T hT XT
  cases hv
  rw [h0] at hz hk
  have hS1 : va_S (lw_A s.heap.size) s.heap T'.heap (locs ++ Lc) := ⟨Nat.le_trans hS.1 (by rw [e1]; exact hz), fun z h1 h2 => by rw [e1, hk z (Nat.lt_of_lt_of_le h1 hS.1) (fun y => h2 (hsub z y))]; exact hS.2.1 z h1 h2, fun z hz => by
    rcases List.mem_append.mp hz with h | h
    · exact hS.2.2 z h
    · exact hsub _ (hL z h)⟩
  have hM1 : va_P (dC, dI) vwCl (ab_w layM cI cW aM g) T'.heap := V.2.1.kept fun j q hq => by
    rw [e1]
    refine hk q.1 (vx_lt V.2.1 hq) (fun z => ?_)
    rcases z with z | ⟨i, hi, z⟩ | z
    · obtain ⟨k1, e3⟩ := ab_w_in hq
      exact G.2.2.2.2.1 j k1 (z.symm.trans e3)
    · exact lw_wM G j q hq i hi z
    · have := vx_lt V.2.1 hq
      omega
  obtain ⟨t2, a1, b1⟩ := kk k h' f' T'.heap (locs ++ Lc) hq ⟨by rw [e1]; exact hP1, hM1, by rw [e1]; exact hPo1⟩ hS1 T' rfl X'
  exact ⟨t2, st t2 a1, b1⟩
end LWL
