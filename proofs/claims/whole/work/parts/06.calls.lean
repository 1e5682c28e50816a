/-! calls within one world: the callee has the caller's whole world -/
section ABC
variable {l : Launch} {lay : List ab_E} {M : ab_M} {d : Nat} {Q : Option ab_V → ab_H → Prop} {pc : Nat} {L : List (Nat × ab_V)} {S : List ab_V} {h : ab_H}
theorem ab_ws_good {M' : ab_M} (hc : Cond.code M'.1 M'.2.1 M'.2.2.1 M'.2.2.2 ∈ ab_all) : GoodIn ab_all (ab_ws M') := fun w hw => by
  have hm : w ∈ ab_all := by
    rcases List.mem_cons.mp hw with e | h
    · rw [e]; exact hc
    · exact h
  exact ⟨hm, good_of_word (List.mem_filter.mp hm).2⟩
theorem ab_callB {s : State} {args : Array Value} {own : String} {idx n : Nat} {M' : ab_M} (hts : ∀ w ∈ ab_all, w.before args s = true) (hm : ab_MB own idx n M') : CallB (ab_rm (d + 1)) s args own idx M'.1 M'.2.1 M'.2.2.1 M'.2.2.2 (ab_ws M') (ab_rm d) 0 0 n :=
  callB_of n hts (ab_ws_good hm.2.2.2.2) rfl rfl rfl (hts _ hm.2.2.2.1) (hts _ hm.2.2.1) hm.1 ⟨Nat.le_refl _, by have := hm.2.1; show 8 + (M'.2.2.1 + 11) + 40 * d ≤ 40 * (d + 1); omega⟩
theorem ab_blind {dC : Nat → ClassId} {dI : Nat → Nat → Nat} {cI cW : ClassId} {adr : Nat → Nat} {sz : Nat} {av : List Value} : FrameBlind (va_Pc av (fun U => U.heap.size = sz ∧ va_P (dC, dI) vwCl (ab_w lay cI cW adr h) U.heap ∧ va_K (dC, dI) vwCl (ab_tys cI cW) U ∧ ab_D lay adr (fun _ => True))) :=
  fun a U g mk q => by
    obtain ⟨q0, q1, qP, qK, qD⟩ := q
    exact ⟨q0, q1, qP, va_K.moved (u := U) (U := U.calling g mk a) (Vm.Alike.refl U.vm) qK, qD⟩
/-- behind a call -/
theorem ab_back {p : Program} {e : Env} {s : State} {m : MethodId} {args : Array Value} {below : List Frame} {meth : Method} {c : Code} {dC : Nat → ClassId} {dI : Nat → Nat → Nat} {cI cW : ClassId} {adr : Nat → Nat} {A : Nat → Prop} {H : Heap} {locs : List Loc} {ls : Array Slot} {st0 : List Value} {av : Array Value} {Q' : Option ab_V → ab_H → Prop}
    (X : ab_Cx lay M p s m args meth c dC dI cI cW adr A) (Y : ab_Dy lay M.2.2.1 s dC dI cI cW adr A H locs ls L h)
    (hr : va_Run p l e (ab_rm (d + 1)) s m args below meth c H locs 0 0 0 0 (F0 m pc ls st0) (S.map (ab_c adr)) (ab_Qc lay dC dI cI cW adr (ab_A lay adr H.size) Q' av) (ab_A lay adr H.size))
    (kk : ∀ v h', Q' v h' → ab_J l lay M (d + 1) Q (pc + 3) L (v.toList ++ S) h') : W p l e (ab_rm (d + 1)) s m args below meth c H locs 0 0 (MQ below (ab_Qc lay dC dI cI cW adr A Q) args s 0 0 A) (F0 m pc ls st0) := by
  intro T hT XT
  obtain ⟨v, st₀, t, T', Lc, h0, X', hL, e1, e2, ⟨⟨v', h', hv, hq, hP1, hK1⟩, hz, hk⟩, st⟩ := hr T hT XT
  cases hv
  rw [h0] at hz hk
  have hAA : ∀ q, ab_A lay adr H.size q → A q := fun q hq => by
    rcases hq with ⟨i, hi, rfl⟩ | hq
    · exact X.2.2.2.2.2.2.2.2.1.2 i hi
    · exact X.2.2.2.2.2.2.2.2.2 q (Nat.le_trans Y.2.1.1 hq)
  have hS1 : va_S A s.heap T'.heap (locs ++ Lc) := ⟨Nat.le_trans Y.2.1.1 (by rw [e1]; exact hz), fun q h1 h2 => by rw [e1, hk q (Nat.lt_of_lt_of_le h1 Y.2.1.1) (fun z => h2 (hAA q z))]; exact Y.2.1.2.1 q h1 h2, fun q hq => by
      rcases List.mem_append.mp hq with h | h
      · exact Y.2.1.2.2 q h
      · exact hAA _ (hL q h)⟩
  obtain ⟨t2, a1, b1⟩ := kk v' h' hq p e s m args below meth c dC dI cI cW adr A X T'.heap (locs ++ Lc) ls ⟨by rw [e1]; exact hP1, hS1, Y.2.2⟩ T' rfl X'
  refine ⟨t2, st t2 ?_, b1⟩
  have e3 : (v'.map (ab_c adr)).toList ++ S.map (ab_c adr) = (v'.toList ++ S).map (ab_c adr) := by cases v' <;> rfl
  rw [show ({ F0 m pc ls st0 with pc := (F0 m pc ls st0).pc + 3, stack := (v'.map (ab_c adr)).toList ++ S.map (ab_c adr) } : JFrame) = F0 m (pc + 3) ls ((v'.toList ++ S).map (ab_c adr)) by rw [e3]]
  exact a1
theorem ab_catS (adr : Nat → Nat) (S : List ab_V) : ((S.map (ab_c adr)).map fun v => v.category).sum = (S.map ab_cat).sum := by
  rw [List.map_map]
  congr 1
  exact List.map_congr_left fun v _ => ab_cat_c adr v
theorem ab_callV {M' : ab_M} {idx ci i n : Nat} {fl : List (Option Nat)} {As : List ab_V} {Q' : Option ab_V → ab_H → Prop} (hd : decode M.2.1 pc = .ok (.invokevirtual idx, 3)) (hm : ab_MV M.1.cls idx ci n M') (he : lay[i]? = some (.inr (.inr (ci, fl)))) (hn : As.length = n) (hS : (S.map ab_cat).sum ≤ 8)
    (hc : ab_C l lay d M' (ab_R i :: As) h Q') (kk : ∀ v h', Q' v h' → ab_J l lay M (d + 1) Q (pc + 3) L (v.toList ++ S) h') : ab_J l lay M (d + 1) Q pc L (As.reverse ++ ab_R i :: S) h := by
  intro p e s m args below meth c dC dI cI cW adr A X H locs ls Y
  obtain ⟨hx, hb, hr, hml, hown, hts, hlk, hK, hD, hA⟩ := id X
  obtain ⟨hP, hSs, hl⟩ := id Y
  obtain ⟨hmB, ⟨q, hq1, hq2⟩, hins, hsel⟩ := hm
  have cw : CallW (ab_rm (d + 1)) s args M.1.cls M'.1.cls idx M'.1 M'.2.1 M'.2.2.1 M'.2.2.2 (ab_ws M') (ab_rm d) 0 0 n := ⟨ab_callB hts hmB, hts _ hins, hts _ hsel⟩
  refine ab_back X Y (va_runV (As := As.map (ab_c adr)) (rest := S.map (ab_c adr)) (b := adr i) ⟨hx, hb, hml, hown, hts⟩ (hc dC dI cI cW adr H.size) cw ⟨ab_blind, ?_, fun U hU hW => ⟨rfl, by rw [hU], by rw [hU]; exact hP, va_K.moved hW.alike hK, hD.1, fun _ _ => trivial⟩⟩ rfl (by rw [List.length_map]; exact hn) hl.1 ?_ (lv_room (by rw [ab_catS]; exact hS)) hd ⟨Nat.zero_le _, Nat.zero_le _⟩) kk
  · rw [← hq2]
    exact va_recv hK hP hq1 (ab_w_at he)
  · show (As.reverse ++ ab_R i :: S).map (ab_c adr) = _
    rw [List.map_append, List.map_reverse]
    rfl
theorem ab_callS {M' : ab_M} {idx n : Nat} {As : List ab_V} {Q' : Option ab_V → ab_H → Prop} (hd : decode M.2.1 pc = .ok (.invokestatic idx, 3)) (hm : ab_MS M.1.cls idx n M') (hn : As.length = n) (hS : (S.map ab_cat).sum ≤ 8)
    (hc : ab_C l lay d M' As h Q') (kk : ∀ v h', Q' v h' → ab_J l lay M (d + 1) Q (pc + 3) L (v.toList ++ S) h') : ab_J l lay M (d + 1) Q pc L (As.reverse ++ S) h := by
  intro p e s m args below meth c dC dI cI cW adr A X H locs ls Y
  obtain ⟨hx, hb, hr, hml, hown, hts, hlk, hK, hD, hA⟩ := id X
  obtain ⟨hP, hSs, hl⟩ := id Y
  obtain ⟨hmB, hstat⟩ := hm
  refine ab_back X Y (va_runS (As := As.map (ab_c adr)) (rest := S.map (ab_c adr)) ⟨hx, hb, hml, hown, hts⟩ (hc dC dI cI cW adr H.size) ⟨ab_callB hts hmB, hts _ hstat⟩ ⟨ab_blind, fun U hU hW => ⟨rfl, by rw [hU], by rw [hU]; exact hP, va_K.moved hW.alike hK, hD.1, fun _ _ => trivial⟩⟩ rfl (by rw [List.length_map]; exact hn) hl.1 ?_ (lv_room (by rw [ab_catS]; exact hS)) hd ⟨Nat.zero_le _, Nat.zero_le _⟩) kk
  show (As.reverse ++ S).map (ab_c adr) = _
  rw [List.map_append, List.map_reverse]
theorem ab_V0 {M' : ab_M} {idx ci i : Nat} {fl : List (Option Nat)} {Q' : Option ab_V → ab_H → Prop} (hd : decode M.2.1 pc = .ok (.invokevirtual idx, 3)) (hm : ab_MV M.1.cls idx ci 0 M') (he : lay[i]? = some (.inr (.inr (ci, fl)))) (hS : Nat.ble (S.map ab_cat).sum 8 = true)
    (hc : ab_C l lay d M' [ab_R i] h Q') (kk : ∀ v h', Q' v h' → ab_J l lay M (d + 1) Q (pc + 3) L (v.toList ++ S) h') : ab_J l lay M (d + 1) Q pc L (ab_R i :: S) h := ab_callV (As := []) hd hm he rfl (Nat.le_of_ble_eq_true hS) hc kk
theorem ab_V1 {M' : ab_M} {idx ci i : Nat} {fl : List (Option Nat)} {a1 : ab_V} {Q' : Option ab_V → ab_H → Prop} (hd : decode M.2.1 pc = .ok (.invokevirtual idx, 3)) (hm : ab_MV M.1.cls idx ci 1 M') (he : lay[i]? = some (.inr (.inr (ci, fl)))) (hS : Nat.ble (S.map ab_cat).sum 8 = true)
    (hc : ab_C l lay d M' [ab_R i, a1] h Q') (kk : ∀ v h', Q' v h' → ab_J l lay M (d + 1) Q (pc + 3) L (v.toList ++ S) h') : ab_J l lay M (d + 1) Q pc L (a1 :: ab_R i :: S) h := ab_callV (As := [a1]) hd hm he rfl (Nat.le_of_ble_eq_true hS) hc kk
theorem ab_V2 {M' : ab_M} {idx ci i : Nat} {fl : List (Option Nat)} {a1 a2 : ab_V} {Q' : Option ab_V → ab_H → Prop} (hd : decode M.2.1 pc = .ok (.invokevirtual idx, 3)) (hm : ab_MV M.1.cls idx ci 2 M') (he : lay[i]? = some (.inr (.inr (ci, fl)))) (hS : Nat.ble (S.map ab_cat).sum 8 = true)
    (hc : ab_C l lay d M' [ab_R i, a1, a2] h Q') (kk : ∀ v h', Q' v h' → ab_J l lay M (d + 1) Q (pc + 3) L (v.toList ++ S) h') : ab_J l lay M (d + 1) Q pc L (a2 :: a1 :: ab_R i :: S) h := ab_callV (As := [a1, a2]) hd hm he rfl (Nat.le_of_ble_eq_true hS) hc kk
theorem ab_V3 {M' : ab_M} {idx ci i : Nat} {fl : List (Option Nat)} {a1 a2 a3 : ab_V} {Q' : Option ab_V → ab_H → Prop} (hd : decode M.2.1 pc = .ok (.invokevirtual idx, 3)) (hm : ab_MV M.1.cls idx ci 3 M') (he : lay[i]? = some (.inr (.inr (ci, fl)))) (hS : Nat.ble (S.map ab_cat).sum 8 = true)
    (hc : ab_C l lay d M' [ab_R i, a1, a2, a3] h Q') (kk : ∀ v h', Q' v h' → ab_J l lay M (d + 1) Q (pc + 3) L (v.toList ++ S) h') : ab_J l lay M (d + 1) Q pc L (a3 :: a2 :: a1 :: ab_R i :: S) h := ab_callV (As := [a1, a2, a3]) hd hm he rfl (Nat.le_of_ble_eq_true hS) hc kk
theorem ab_S1 {M' : ab_M} {idx : Nat} {a1 : ab_V} {Q' : Option ab_V → ab_H → Prop} (hd : decode M.2.1 pc = .ok (.invokestatic idx, 3)) (hm : ab_MS M.1.cls idx 1 M') (hS : Nat.ble (S.map ab_cat).sum 8 = true)
    (hc : ab_C l lay d M' [a1] h Q') (kk : ∀ v h', Q' v h' → ab_J l lay M (d + 1) Q (pc + 3) L (v.toList ++ S) h') : ab_J l lay M (d + 1) Q pc L (a1 :: S) h := ab_callS (As := [a1]) hd hm rfl (Nat.le_of_ble_eq_true hS) hc kk
theorem ab_S2 {M' : ab_M} {idx : Nat} {a1 a2 : ab_V} {Q' : Option ab_V → ab_H → Prop} (hd : decode M.2.1 pc = .ok (.invokestatic idx, 3)) (hm : ab_MS M.1.cls idx 2 M') (hS : Nat.ble (S.map ab_cat).sum 8 = true)
    (hc : ab_C l lay d M' [a1, a2] h Q') (kk : ∀ v h', Q' v h' → ab_J l lay M (d + 1) Q (pc + 3) L (v.toList ++ S) h') : ab_J l lay M (d + 1) Q pc L (a2 :: a1 :: S) h := ab_callS (As := [a1, a2]) hd hm rfl (Nat.le_of_ble_eq_true hS) hc kk
theorem ab_S3 {M' : ab_M} {idx : Nat} {a1 a2 a3 : ab_V} {Q' : Option ab_V → ab_H → Prop} (hd : decode M.2.1 pc = .ok (.invokestatic idx, 3)) (hm : ab_MS M.1.cls idx 3 M') (hS : Nat.ble (S.map ab_cat).sum 8 = true)
    (hc : ab_C l lay d M' [a1, a2, a3] h Q') (kk : ∀ v h', Q' v h' → ab_J l lay M (d + 1) Q (pc + 3) L (v.toList ++ S) h') : ab_J l lay M (d + 1) Q pc L (a3 :: a2 :: a1 :: S) h := ab_callS (As := [a1, a2, a3]) hd hm rfl (Nat.le_of_ble_eq_true hS) hc kk
theorem ab_max {idx : Nat} {x y : Int32} (hd : decode M.2.1 pc = .ok (.invokestatic idx, 3)) (h1 : Cond.methodLink M.1.cls idx Lib.Math.max.name ∈ ab_all) (h2 : Cond.static Lib.Math.max.name ∈ ab_all) (h3 : Cond.initialized "java/lang/Math" ∈ ab_all) (h4 : Cond.code Lib.Math.max.name Lib.Math.max.code 2 (some .int) ∈ ab_all) (hS : Nat.ble (S.map ab_cat).sum 8 = true)
    (k : ab_J l lay M (d + 1) Q (pc + 3) L (ab_I (if x < y then y else x) :: S) h) : ab_J l lay M (d + 1) Q pc L (ab_I y :: ab_I x :: S) h := by
  intro p e s m args below meth c dC dI cI cW adr A X H locs ls Y
  obtain ⟨hx, hb, hr, hml, hown, hts, hlk, hK, hD, hA⟩ := id X
  have h8 := Nat.le_of_ble_eq_true hS
  exact va_mmax hx hb (hml.trans Y.2.2.1.symm) hown (hts _ h1) (hts _ h2) (hts _ h3) (hts _ h4) (Nat.succ_le_succ (Nat.zero_le d)) (by rw [ab_catS]; show _ ≤ 40 * (d + 1); omega) (Nat.zero_le _) (Nat.zero_le _) hd (k p e s m args below meth c dC dI cI cW adr A X H locs ls Y)
theorem ab_copy {idx i j n0 n1 : Nat} {sp dp n : Int32} (hd : decode M.2.1 pc = .ok (.invokestatic idx, 3)) (h1 : Cond.methodLink M.1.cls idx arraycopyName ∈ ab_all) (h2 : Cond.native arraycopyName ∈ ab_all) (h3 : Cond.static arraycopyName ∈ ab_all) (h4 : Cond.initialized "java/lang/System" ∈ ab_all) (hS : Nat.ble (S.map ab_cat).sum 8 = true)
    (hi : lay[i]? = some (.inl n0)) (hj : lay[j]? = some (.inl n1)) (g1 : ¬ sp < 0) (g2 : ¬ dp < 0) (g3 : ¬ n < 0) (g4 : sp.toNatClampNeg + n.toNatClampNeg ≤ n0) (g5 : dp.toNatClampNeg + n.toNatClampNeg ≤ n1)
    (k : ab_J l lay M (d + 1) Q (pc + 3) L S (ab_upA h j (va_cpy (h i) (h j) sp.toNatClampNeg dp.toNatClampNeg n.toNatClampNeg))) : ab_J l lay M (d + 1) Q pc L (ab_I n :: ab_I dp :: ab_R j :: ab_I sp :: ab_R i :: S) h := by
  intro p e s m args below meth c dC dI cI cW adr A X H locs ls Y
  obtain ⟨hx, hb, hr, hml, hown, hts, hlk, hK, hD, hA⟩ := id X
  have h8 := Nat.le_of_ble_eq_true hS
  refine va_copyi (D := (dC, dI)) hx hb (hml.trans Y.2.2.1.symm) hown (hts _ h1) (hts _ h2) (hts _ h3) (hts _ h4) hK Y.1 (hD.to cI cW h) Y.2.1 i j 0 0 (ab_w_at hi) (ab_w_at hj) rfl rfl rfl g1 g2 g3 g4 g5 (fun _ _ => rfl) (Nat.succ_le_succ (Nat.zero_le d)) ?_ hd (fun H1 locs1 hP1 _ hS1 => ?_)
  · rw [ab_catS]
    show _ + (nativeFrameWords "java/lang/System" "arraycopy" 5 + 11) ≤ 40 * (d + 1)
    have : nativeFrameWords "java/lang/System" "arraycopy" 5 ≤ 20 := by decide +kernel
    omega
  · have h9 := hP1
    rw [show (adr j, (Sum.inl (cI, n1, .inl (va_cpy (h i) (h j) sp.toNatClampNeg dp.toNatClampNeg n.toNatClampNeg)) : va_E)) = (adr j, ab_e cI cW adr (va_cpy (h i) (h j) sp.toNatClampNeg dp.toNatClampNeg n.toNatClampNeg) (.inl n1)) from rfl, ab_w_set hj] at h9
    exact k p e s m args below meth c dC dI cI cW adr A X H1 locs1 ls ⟨h9, hS1, Y.2.2⟩
end ABC
