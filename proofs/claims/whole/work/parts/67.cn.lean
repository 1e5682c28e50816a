/-! constructors: the steps -/
theorem cn_ai : Cond.arrayClass .int ∈ ab_all := by decide +kernel
theorem cn_oi : Cond.instanceMethod objectInit ∈ ab_all := by decide +kernel
theorem cn_oc : Cond.code objectInit ⟨#[0xb1]⟩ 1 none ∈ ab_all := by decide +kernel
/-- what a constructor's frame has -/
def cn_Cx (own : String) (cc : ByteArray) (nL : Nat) (D : va_G) (tys : List (ClassId × FieldType)) (cI : ClassId) (H0 : Heap) (A : Nat → Prop) (p : Program) (s : State) (m : MethodId) (args : Array Value) (meth : Method) (c : Code) : Prop :=
  p.tables.exec = Jvm.exec ∧ c.code = cc ∧ c.maxLocals = nL ∧ s.vm.findClass own = some m.cls ∧ (∀ w ∈ ab_all, w.before args s = true) ∧ meth.name = "<init>" ∧ va_K D vwCl tys s ∧ tys[0]? = some (cI, .int) ∧ ∀ q, H0.size ≤ q → A q
/-- a field of the object that is made, by an entry of the class's pool -/
def cn_F (own : String) (idx ci k : Nat) (fin : Bool) (d : String) : Prop := ∃ (C : String) (T : u_T) (N : Nat) (ty0 : Nat → FieldType), vwCl[ci]? = some (C, T, N) ∧ k < N ∧ (∀ w ∈ u_ws C T N, w ∈ ab_all) ∧ (∀ k, k < N → parseFieldDescriptor (T k).2.2.1 = some (ty0 k)) ∧ (∀ a, a < N → ∀ b, b < N → a ≠ b → (T a).2.1 ≠ (T b).2.1) ∧ Cond.fieldLink own idx (T k).1 (T k).2.1 (T k).2.2.1 ∈ ab_all ∧ (T k).2.2.2 = fin ∧ (T k).1 = own ∧ (T k).2.2.1 = d
section CN
variable {p : Program} {l : Launch} {e : Env} {R : Room} {s : State} {m : MethodId} {args : Array Value} {below : List Frame} {meth : Method} {c : Code} {H H0 : Heap} {locs : List Loc} {cells slots : Nat} {Q : State → Prop}
variable {own : String} {cc : ByteArray} {nL pc : Nat} {D : va_G} {tys : List (ClassId × FieldType)} {cI : ClassId} {A : Nat → Prop} {ls : Array Slot} {rest : List Value} {o ci k : Nat} {fs : List Value} {Rw : va_W}
theorem va_K.one {cA cB : ClassId} {tys : List (ClassId × FieldType)} {i : Nat} (hK : va_K D vwCl (tys ++ [(cA, .int)]) s) (hi : tys[i]? = some (cB, .int)) : cA = cB := by
  have h1 := (hK.2 tys.length (cA, .int) (by simp)).2
  have h2 := (hK.2 i (cB, .int) (by rw [List.getElem?_append_left (List.getElem?_eq_some_iff.mp hi).1]; exact hi)).2
  exact Option.some.inj (h1.symm.trans h2)
theorem cn_newa {n : Int32} {N' : Nat} (X : cn_Cx own cc nL D tys cI H0 A p s m args meth c) (hP : va_P D vwCl Rw H) (hD : va_D A Rw) (hS : va_S A H0 H locs) (hn : ¬ n < 0) (hN : n.toNatClampNeg = N') (hb9 : N' * 4 ≤ 536870912) (hc : cells + 1 ≤ R.cells) (hs : slots + N' ≤ R.slots) (hd : decode cc pc = .ok (.newarray .int, 2))
    (kk : ∀ (q : Nat) (H1 : Heap), va_P D vwCl (Rw ++ [(q, .inl (cI, N', .inl (fun _ => 0)))]) H1 → va_D A (Rw ++ [(q, .inl (cI, N', .inl (fun _ => 0)))]) → va_S A H0 H1 locs → W p l e R s m args below meth c H1 locs (cells + 1) (slots + N') Q (F0 m (pc + 2) ls (.ref q :: rest))) :
    W p l e R s m args below meth c H locs cells slots Q (F0 m pc ls (.int n :: rest)) := by
  obtain ⟨hx, hb, hml, hown, hts, hmn, hK, hI0, hA⟩ := X
  refine va_newa (atype := .int) (a0 := (N', .inl (fun _ => 0))) hx hb (hts _ cn_ai) rfl hK hP hD hS hA (fun _ => rfl) hn hN hb9 hc hs hd (fun q cA H1 hK1 hP1 hD1 hS1 => ?_)
  have e := va_K.one hK1 hI0
  subst e
  exact kk q H1 hP1 hD1 hS1
theorem cn_putF {idx : Nat} {d : String} {ty : FieldType} {v : Value} (X : cn_Cx own cc nL D tys cI H0 A p s m args meth c) (hF : cn_F own idx ci k true d) (hP : va_P D vwCl ((o, .inr (ci, fs)) :: Rw) H) (hD : va_D A ((o, .inr (ci, fs)) :: Rw)) (hS : va_S A H0 H locs) (hty : parseFieldDescriptor d = some ty) (hn : narrow ty v = v) (hfit : fits ty v = true) (hkl : k < fs.length) (hd : decode cc pc = .ok (.putfield idx, 3))
    (kk : ∀ (H1 : Heap) (locs1 : List Loc), va_P D vwCl ((o, .inr (ci, fs.set k v)) :: Rw) H1 → va_D A ((o, .inr (ci, fs.set k v)) :: Rw) → va_S A H0 H1 locs1 → W p l e R s m args below meth c H1 locs1 cells slots Q (F0 m (pc + 3) ls rest)) :
    W p l e R s m args below meth c H locs cells slots Q (F0 m pc ls (v :: .ref o :: rest)) := by
  obtain ⟨hx, hb, hml, hown, hts, hmn, hK, hI0, hA⟩ := X
  obtain ⟨C, T, N, ty0, hcl, hkN, hin, hty0, hnm, hlink, hfin, hdecl, hdsc⟩ := hF
  exact va_putF hx hb hts hin ty0 hty0 hnm hown hK hP hD hS 0 rfl hcl k hkN (hts _ hlink) (fun _ h => h) hfin hmn hdecl (by rw [hdsc]; exact hty) hn hfit hkl hd kk
theorem cn_puti {idx : Nat} {v : Int32} (X : cn_Cx own cc nL D tys cI H0 A p s m args meth c) (hF : cn_F own idx ci k false "I") (hP : va_P D vwCl ((o, .inr (ci, fs)) :: Rw) H) (hD : va_D A ((o, .inr (ci, fs)) :: Rw)) (hS : va_S A H0 H locs) (hkl : k < fs.length) (hd : decode cc pc = .ok (.putfield idx, 3))
    (kk : ∀ (H1 : Heap) (locs1 : List Loc), va_P D vwCl ((o, .inr (ci, fs.set k (.int v))) :: Rw) H1 → va_D A ((o, .inr (ci, fs.set k (.int v))) :: Rw) → va_S A H0 H1 locs1 → W p l e R s m args below meth c H1 locs1 cells slots Q (F0 m (pc + 3) ls rest)) :
    W p l e R s m args below meth c H locs cells slots Q (F0 m pc ls (.int v :: .ref o :: rest)) := by
  obtain ⟨hx, hb, hml, hown, hts, hmn, hK, hI0, hA⟩ := X
  obtain ⟨C, T, N, ty0, hcl, hkN, hin, hty0, hnm, hlink, hfin, hdecl, hdsc⟩ := hF
  exact va_put (ty := .int) hx hb hts hin ty0 hty0 hnm hown hK hP hD hS 0 rfl hcl k hkN (hts _ hlink) (fun _ h => h) hfin (by rw [hdsc]; decide +kernel) rfl rfl hkl hd kk
theorem cn_obj {idx : Nat} (X : cn_Cx own cc nL D tys cI H0 A p s m args meth c) (hlink : Cond.methodLink own idx objectInit ∈ ab_all) (hls : ls.size = nL) (hf : 1 ≤ R.frames) (hl : (rest.map fun v => v.category).sum + 12 ≤ R.locals) (hd : decode cc pc = .ok (.invokespecial idx, 3))
    (kk : W p l e R s m args below meth c H locs cells slots Q (F0 m (pc + 3) ls rest)) : W p l e R s m args below meth c H locs cells slots Q (F0 m pc ls (.ref o :: rest)) := by
  obtain ⟨hx, hb, hml, hown, hts, hmn, hK, hI0, hA⟩ := X
  refine W.objInit hx hb hown (hts _ hlink) (hts _ cn_oi) (hts _ cn_oc) rfl (by rw [hml]; exact hls) rfl hd hf (by rw [show (F0 m pc ls (Value.ref o :: rest)).monitorRoom = 0 from rfl]; omega) ?_
  exact W.eq (g2 := F0 m (pc + 3) ls rest) rfl kk
/-- this.f = new int[n] -/
theorem cn_arr {n : Int32} {N' idx len : Nat} (X : cn_Cx own cc nL D tys cI H0 A p s m args meth c) (hF : cn_F own idx ci k true "[I") (hP : va_P D vwCl ((o, .inr (ci, fs)) :: Rw) H) (hD : va_D A ((o, .inr (ci, fs)) :: Rw)) (hS : va_S A H0 H locs) (hl0 : ls[0]? = some (.val (.ref o))) (d0 : decode cc pc = .ok (.aload_n 0, 1))
    (push : W p l e R s m args below meth c H locs cells slots Q (F0 m (pc + 1 + len) ls [.int n, .ref o]) → W p l e R s m args below meth c H locs cells slots Q (F0 m (pc + 1) ls [.ref o])) (hn : ¬ n < 0) (hN : n.toNatClampNeg = N') (hb9 : N' * 4 ≤ 536870912) (hc : cells + 1 ≤ R.cells) (hs : slots + N' ≤ R.slots) (d2 : decode cc (pc + 1 + len) = .ok (.newarray .int, 2)) (d4 : decode cc (pc + 1 + len + 2) = .ok (.putfield idx, 3)) (hkl : k < fs.length)
    (kk : ∀ (q : Nat) (H1 : Heap) (locs1 : List Loc), va_P D vwCl ((o, .inr (ci, fs.set k (.ref q))) :: (Rw ++ [(q, .inl (cI, N', .inl (fun _ => 0)))])) H1 → va_D A ((o, .inr (ci, fs.set k (.ref q))) :: (Rw ++ [(q, .inl (cI, N', .inl (fun _ => 0)))])) → va_S A H0 H1 locs1 → W p l e R s m args below meth c H1 locs1 (cells + 1) (slots + N') Q (F0 m (pc + 1 + len + 2 + 3) ls [])) :
    W p l e R s m args below meth c H locs cells slots Q (F0 m pc ls []) := by
  refine lv_aload_n X.1 X.2.1 d0 rfl hl0 ?_
  refine push ?_
  refine cn_newa X hP hD hS hn hN hb9 hc hs d2 (fun q H1 hP1 hD1 hS1 => ?_)
  exact cn_putF X hF hP1 hD1 hS1 (ty := .array .int) (by decide +kernel) rfl rfl hkl d4 (fun H2 locs2 hP2 hD2 hS2 => kk q H2 locs2 hP2 hD2 hS2)
end CN
