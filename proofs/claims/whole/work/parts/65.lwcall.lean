/-! calls out of a frame that has more than one world: what the callee cannot reach stays -/
section LWC
variable {p : Program} {l : Launch} {e : Env} {R : Room} {s : State} {m : MethodId} {args : Array Value} {below : List Frame} {meth : Method} {c : Code} {H : Heap} {locs : List Loc} {cells slots : Nat} {Q : State → Prop}
variable {lay : List ab_E} {dC : Nat → ClassId} {dI : Nat → Nat → Nat} {cI cW : ClassId} {adr : Nat → Nat} {A : Nat → Prop} {h : ab_H} {cc : ByteArray} {nL pc : Nat} {ls : Array Slot} {rest : List Value} {own : String} {d : Nat}
/-- what a call leaves as it was -/
def lw_kp (lay : List ab_E) (adr : Nat → Nat) (H H1 : Heap) : Prop := H.size ≤ H1.size ∧ ∀ q : Nat, q < H.size → ¬ ab_A lay adr H.size q → H1[q]? = H[q]?
theorem lw_kp.P {D : va_G} {cl : List vw_C} {ws : va_W} {H1 : Heap} (k : lw_kp lay adr H H1) (hP : va_P D cl ws H) (hn : ∀ (j : Nat) (q : Nat × va_E), ws[j]? = some q → ∀ i, i < lay.length → q.1 ≠ adr i) : va_P D cl ws H1 := hP.kept fun j q hq => k.2 q.1 (vx_lt hP hq) fun z => by
  rcases z with ⟨i, hi, e⟩ | z
  · exact hn j q hq i hi e
  · exact absurd (vx_lt hP hq) (Nat.not_lt.mpr z)
def lw_in (lay : List ab_E) (adr : Nat → Nat) (A : Nat → Prop) (s : State) : Prop := ab_D lay adr A ∧ ∀ q, s.heap.size ≤ q → A q
theorem lw_in_A (hI : lw_in lay adr A s) (hS : va_S A s.heap H locs) : ∀ q, ab_A lay adr H.size q → A q := fun q hq => by
  rcases hq with ⟨i, hi, rfl⟩ | hq
  · exact hI.1.2 i hi
  · exact hI.2 q (Nat.le_trans hS.1 hq)
theorem lw_callV {M' : ab_M} {idx ci i n : Nat} {fl : List (Option Nat)} {As : List ab_V} {Q' : Option ab_V → ab_H → Prop} (hx : p.tables.exec = Jvm.exec) (hb : c.code = cc) (hml : c.maxLocals = nL) (hown : s.vm.findClass own = some m.cls) (hts : ∀ w ∈ ab_all, w.before args s = true) (hK : va_K (dC, dI) vwCl (ab_tys cI cW) s) (hI : lw_in lay adr A s)
    (hP : va_P (dC, dI) vwCl (ab_w lay cI cW adr h) H) (hS : va_S A s.heap H locs) (hls : ls.size = nL) (hR : ag_fit R d cells slots) (hd : decode cc pc = .ok (.invokevirtual idx, 3)) (hm : ab_MV own idx ci n M') (he : lay[i]? = some (.inr (.inr (ci, fl)))) (hn : As.length = n) (hrest : (rest.map fun v => v.category).sum ≤ 8)
    (hc : ab_C l lay d M' (ab_R i :: As) h Q')
    (kk : ∀ v' h' H1 locs1, Q' v' h' → va_P (dC, dI) vwCl (ab_w lay cI cW adr h') H1 → va_S A s.heap H1 locs1 → lw_kp lay adr H H1 → W p l e R s m args below meth c H1 locs1 cells slots Q (F0 m (pc + 3) ls ((v'.map (ab_c adr)).toList ++ rest))) :
    W p l e R s m args below meth c H locs cells slots Q (F0 m pc ls ((As.map (ab_c adr)).reverse ++ .ref (adr i) :: rest)) := by
  obtain ⟨hmB, ⟨q, hq1, hq2⟩, hins, hsel⟩ := hm
  have cw : CallW R s args own M'.1.cls idx M'.1 M'.2.1 M'.2.2.1 M'.2.2.2 (ab_ws M') (ag_rm d 0 0) 0 0 n := ⟨ag_callB hR.1 hR.2.1 hts hmB, hts _ hins, hts _ hsel⟩
  have run := va_runV (As := As.map (ab_c adr)) (rest := rest) (b := adr i) (p := p) (e := e) (below := below) (meth := meth) (H := H) (locs := locs) (cells := cells) (slots := slots) (g := F0 m pc ls ((As.map (ab_c adr)).reverse ++ .ref (adr i) :: rest)) ⟨hx, hb, hml, hown, hts⟩ (hc dC dI cI cW adr H.size) cw
    ⟨ab_blind, by rw [← hq2]; exact va_recv hK hP hq1 (ab_w_at he), fun U hU hW => ⟨rfl, by rw [hU], by rw [hU]; exact hP, va_K.moved hW.alike hK, hI.1.1, fun _ _ => trivial⟩⟩ rfl (by rw [List.length_map]; exact hn) hls rfl (lv_room hrest) hd ⟨hR.2.2.1, hR.2.2.2⟩
  intro T hT XT
  obtain ⟨v, st₀, t, T', Lc, h0, X', hL, e1, e2, ⟨⟨v', h', hv, hq, hP1, hK1⟩, hz, hk⟩, st⟩ := run T hT XT
  cases hv
  rw [h0] at hz hk
  have hS1 : va_S A s.heap T'.heap (locs ++ Lc) := ag_next (lay := lay) (lw_in_A hI hS) hS (by rw [e1]; exact hz) (by rw [e1]; exact hk) hL
  obtain ⟨t2, a1, b1⟩ := kk v' h' T'.heap (locs ++ Lc) hq (by rw [e1]; exact hP1) hS1 ⟨by rw [e1]; exact hz, by rw [e1]; exact hk⟩ T' rfl X'
  exact ⟨t2, st t2 a1, b1⟩
theorem lw_callX {M' : ab_M} {idx ci i n k v : Nat} {fl : List (Option Nat)} {As : List ab_V} {Q' : Option ab_V → ab_H → Prop} {Ex' : String → ab_H → Prop} (hx : p.tables.exec = Jvm.exec) (hb : c.code = cc) (hml : c.maxLocals = nL) (hown : s.vm.findClass own = some m.cls) (hts : ∀ w ∈ ab_all, w.before args s = true) (hK : va_K (dC, dI) vwCl (ab_tys cI cW) s) (hI : lw_in lay adr A s) (hX : ag_X A s s.heap)
    (hP : va_P (dC, dI) vwCl (ab_w lay cI cW adr h) H) (hS : va_S A s.heap H locs) (hls : ls.size = nL) (hR : ag_fit R d (cells + k) (slots + v)) (hd : decode cc pc = .ok (.invokevirtual idx, 3)) (hm : ab_MV own idx ci n M') (he : lay[i]? = some (.inr (.inr (ci, fl)))) (hn : As.length = n) (hrest : (rest.map fun v => v.category).sum ≤ 8)
    (hc : ag_C l lay d k v M' (ab_R i :: As) h Q' Ex')
    (kx : ∀ E h' H1 locs1 q ce, Ex' E h' → va_P (dC, dI) vwCl (ab_w lay cI cW adr h') H1 → va_S A s.heap H1 locs1 → lw_kp lay adr H H1 → H1[q]? = some ce → ce.vm = .none → s.vm.findClass E = some ce.cls → vx_W p l e R s m args below meth c H1 locs1 (cells + k) (slots + v) Q (F0 m pc ls rest) q)
    (kk : ∀ v' h' H1 locs1, Q' v' h' → va_P (dC, dI) vwCl (ab_w lay cI cW adr h') H1 → va_S A s.heap H1 locs1 → lw_kp lay adr H H1 → W p l e R s m args below meth c H1 locs1 (cells + k) (slots + v) Q (F0 m (pc + 3) ls ((v'.map (ab_c adr)).toList ++ rest))) :
    W p l e R s m args below meth c H locs cells slots Q (F0 m pc ls ((As.map (ab_c adr)).reverse ++ .ref (adr i) :: rest)) := by
  obtain ⟨hmB, ⟨q, hq1, hq2⟩, hins, hsel⟩ := hm
  have cw : CallW R s args own M'.1.cls idx M'.1 M'.2.1 M'.2.2.1 M'.2.2.2 (ab_ws M') (ag_rm d k v) k v n := ⟨ag_callB hR.1 hR.2.1 hts hmB, hts _ hins, hts _ hsel⟩
  have run := vx_runV (As := As.map (ab_c adr)) (rest := rest) (b := adr i) (p := p) (e := e) (below := below) (meth := meth) (H := H) (locs := locs) (cells := cells) (slots := slots) (g := F0 m pc ls ((As.map (ab_c adr)).reverse ++ .ref (adr i) :: rest)) ⟨hx, hb, hml, hown, hts⟩ (hc dC dI cI cW adr H.size) cw
    ⟨ag_blind, by rw [← hq2]; exact va_recv hK hP hq1 (ab_w_at he), fun U hU hW => ⟨rfl, by rw [hU], by rw [hU]; exact hP, va_K.moved hW.alike hK, ⟨hI.1.1, fun _ _ => trivial⟩, by rw [hU]; exact hX.go hW hS.2.1 hS.1 (lw_in_A hI hS)⟩⟩ rfl (by rw [List.length_map]; exact hn) hls rfl (lv_room hrest) hd ⟨hR.2.2.1, hR.2.2.2⟩
  intro T hT XT
  rcases run T hT XT with ⟨v1, st₀, t, T', Lc, h0, X', hL, e1, e2, ⟨⟨v', h', hv1, hq, hP1, hK1⟩, hz, hk1⟩, st⟩ | ⟨q, st₀, t, T', Lc, E, ce, h0, X', hL, e1, e2, ⟨h', -, ⟨hE, hP1, hK1⟩, hz, hk1⟩, hce, hcv, hcl, st⟩
  · cases hv1
    rw [h0] at hz hk1
    have hS1 : va_S A s.heap T'.heap (locs ++ Lc) := ag_next (lay := lay) (lw_in_A hI hS) hS (by rw [e1]; exact hz) (by rw [e1]; exact hk1) hL
    obtain ⟨t2, a1, b1⟩ := kk v' h' T'.heap (locs ++ Lc) hq (by rw [e1]; exact hP1) hS1 ⟨by rw [e1]; exact hz, by rw [e1]; exact hk1⟩ T' rfl X'
    exact ⟨t2, st t2 a1, b1⟩
  · rw [h0] at hz hk1
    have hS1 : va_S A s.heap T'.heap (locs ++ Lc) := ag_next (lay := lay) (lw_in_A hI hS) hS (by rw [e1]; exact hz) (by rw [e1]; exact hk1) hL
    obtain ⟨t2, a1, b1⟩ := kx E h' T'.heap (locs ++ Lc) q ce hE (by rw [e1]; exact hP1) hS1 ⟨by rw [e1]; exact hz, by rw [e1]; exact hk1⟩ (by rw [e1]; exact hce) hcv hcl T' rfl X'
    exact ⟨t2, st.trans a1, b1⟩
end LWC
