/-! An abstract picture of a method's run: values are ints, longs and numbers of cells; the heap is a function of cell number and place. -/
abbrev ab_V : Type := Int32 ⊕ (Int64 ⊕ Nat)
abbrev ab_I (x : Int32) : ab_V := Sum.inl x
abbrev ab_L (x : Int64) : ab_V := Sum.inr (Sum.inl x)
abbrev ab_R (i : Nat) : ab_V := Sum.inr (Sum.inr i)
def ab_c (adr : Nat → Nat) (v : ab_V) : Value := match v with
  | .inl x => .int x
  | .inr (.inl x) => .long x
  | .inr (.inr i) => .ref (adr i)
def ab_cat (v : ab_V) : Nat := match v with
  | .inl _ => 1
  | .inr (.inl _) => 2
  | .inr (.inr _) => 1
theorem ab_cat_c (adr : Nat → Nat) (v : ab_V) : (ab_c adr v).category = ab_cat v := by
  rcases v with x | x | i <;> rfl
abbrev ab_H : Type := Nat → Nat → Int32
/-- a cell: an array of so many ints; an array of cells; an object of a class with its fields (an int, or a cell) -/
abbrev ab_E : Type := Nat ⊕ (List Nat ⊕ (Nat × List (Option Nat)))
def ab_f (adr : Nat → Nat) (f : Nat → Int32) (k : Nat) (o : Option Nat) : Value := match o with
  | none => .int (f k)
  | some j => .ref (adr j)
def ab_e (cI cW : ClassId) (adr : Nat → Nat) (f : Nat → Int32) (en : ab_E) : va_E := match en with
  | .inl n => .inl (cI, n, .inl f)
  | .inr (.inl js) => .inl (cW, js.length, .inr (.inr (.inr (.inr (fun k => (js[k]?).map adr)))))
  | .inr (.inr (ci, fl)) => .inr (ci, fl.mapIdx (ab_f adr f))
def ab_w (lay : List ab_E) (cI cW : ClassId) (adr : Nat → Nat) (h : ab_H) : va_W := lay.mapIdx fun i en => (adr i, ab_e cI cW adr (h i) en)
def ab_up (h : ab_H) (i k : Nat) (v : Int32) : ab_H := fun j => if j = i then upd (h i) k v else h j
/-- the contents of a whole cell are new -/
def ab_upA (h : ab_H) (i : Nat) (g : Nat → Int32) : ab_H := fun j => if j = i then g else h j
theorem ab_w_at {lay : List ab_E} {cI cW : ClassId} {adr : Nat → Nat} {h : ab_H} {i : Nat} {en : ab_E} (he : lay[i]? = some en) : (ab_w lay cI cW adr h)[i]? = some (adr i, ab_e cI cW adr (h i) en) := by
  simp [ab_w, he]
theorem ab_w_set {lay : List ab_E} {cI cW : ClassId} {adr : Nat → Nat} {h : ab_H} {i : Nat} {en : ab_E} {g : Nat → Int32} (he : lay[i]? = some en) : (ab_w lay cI cW adr h).set i (adr i, ab_e cI cW adr g en) = ab_w lay cI cW adr (ab_upA h i g) := by
  apply List.ext_getElem?
  intro j
  rw [List.getElem?_set]
  have hl : i < lay.length := (List.getElem?_eq_some_iff.mp he).1
  by_cases hj : i = j
  · subst hj
    have hl2 : i < (ab_w lay cI cW adr h).length := by simpa [ab_w] using hl
    rw [if_pos rfl, if_pos hl2, ab_w_at he]
    simp [ab_upA]
  · simp [ab_w, hj, Ne.symm hj, ab_upA]
theorem ab_f_set {adr : Nat → Nat} {f : Nat → Int32} {fl : List (Option Nat)} {k : Nat} {v : Int32} (hk : fl[k]? = some none) : (fl.mapIdx (ab_f adr f)).set k (.int v) = fl.mapIdx (ab_f adr (upd f k v)) := by
  apply List.ext_getElem?
  intro j
  rw [List.getElem?_set]
  have hl : k < fl.length := (List.getElem?_eq_some_iff.mp hk).1
  by_cases hj : k = j
  · subst hj
    have hl2 : k < (fl.mapIdx (ab_f adr f)).length := by simpa using hl
    rw [if_pos rfl, if_pos hl2, List.getElem?_mapIdx, hk]
    simp [ab_f, upd]
  · rw [if_neg hj, List.getElem?_mapIdx, List.getElem?_mapIdx]
    cases hf : fl[j]? with
    | none => rfl
    | some o =>
      cases o with
      | none => simp [ab_f, upd, Ne.symm hj]
      | some q => rfl
def ab_A (lay : List ab_E) (adr : Nat → Nat) (sz : Nat) : Nat → Prop := fun q => (∃ i, i < lay.length ∧ q = adr i) ∨ sz ≤ q
/-- the cells are apart, and of a kind -/
def ab_D (lay : List ab_E) (adr : Nat → Nat) (A : Nat → Prop) : Prop := (∀ i j, i < lay.length → j < lay.length → adr i = adr j → i = j) ∧ ∀ i, i < lay.length → A (adr i)
theorem ab_w_in {lay : List ab_E} {cI cW : ClassId} {adr : Nat → Nat} {h : ab_H} {i : Nat} {q : Nat × va_E} (hq : (ab_w lay cI cW adr h)[i]? = some q) : i < lay.length ∧ q.1 = adr i := by
  simp only [ab_w, List.getElem?_mapIdx] at hq
  cases he : lay[i]? with
  | none => rw [he] at hq; cases hq
  | some en =>
    rw [he] at hq
    have := Option.some.inj hq
    exact ⟨(List.getElem?_eq_some_iff.mp he).1, by rw [← this]⟩
theorem ab_D.to {lay : List ab_E} {adr : Nat → Nat} {A : Nat → Prop} (hD : ab_D lay adr A) (cI cW : ClassId) (h : ab_H) : va_D A (ab_w lay cI cW adr h) := by
  refine ⟨fun i j p q hp hq e => ?_, fun k q hk => ?_⟩
  · obtain ⟨i1, e1⟩ := ab_w_in hp
    obtain ⟨j1, e2⟩ := ab_w_in hq
    exact hD.1 i j i1 j1 (by rw [← e1, ← e2]; exact e)
  · obtain ⟨k1, e1⟩ := ab_w_in hk
    rw [e1]
    exact hD.2 k k1
theorem ab_D.of {lay : List ab_E} {adr : Nat → Nat} {A : Nat → Prop} {cI cW : ClassId} {h : ab_H} (hD : va_D A (ab_w lay cI cW adr h)) : ab_D lay adr A := by
  refine ⟨fun i j hi hj e => ?_, fun i hi => ?_⟩
  · exact hD.1 i j _ _ (ab_w_at (List.getElem?_eq_getElem hi)) (ab_w_at (List.getElem?_eq_getElem hj)) e
  · exact hD.2 i _ (ab_w_at (List.getElem?_eq_getElem hi))
theorem ab_D.self {lay : List ab_E} {adr : Nat → Nat} {A : Nat → Prop} (hD : ab_D lay adr A) (sz : Nat) : ab_D lay adr (ab_A lay adr sz) := ⟨hD.1, fun i hi => Or.inl ⟨i, hi, rfl⟩⟩
/-- a method: its name, its bytes, its locals, what it answers -/
abbrev ab_M : Type := MethodName × ByteArray × Nat × Option FieldType
def ab_rm (d : Nat) : Room := { frames := d, cells := 0, slots := 0, locals := 40 * d }
def ab_tys (cI cW : ClassId) : List (ClassId × FieldType) := [(cI, .int), (cW, .object RX2)]
def ab_all : List Cond := lw_tbl.filter goodWord
def ab_ws (M : ab_M) : List Cond := Cond.code M.1 M.2.1 M.2.2.1 M.2.2.2 :: ab_all
theorem ab_all_in {w : Cond} (h : w ∈ ab_all) : w ∈ lw_tbl := (List.mem_filter.mp h).1
theorem ab_all_good {Ts : List Cond} (h : ∀ w ∈ ab_all, w ∈ Ts) : GoodIn Ts ab_all := fun w hw => ⟨h w hw, good_of_word (List.mem_filter.mp hw).2⟩
def ab_Qc (lay : List ab_E) (dC : Nat → ClassId) (dI : Nat → Nat → Nat) (cI cW : ClassId) (adr : Nat → Nat) (A : Nat → Prop) (Q : Option ab_V → ab_H → Prop) : Array Value → State → Outcome → State → Prop := fun _ st oc t =>
  (∃ (v : Option ab_V) (h : ab_H), oc = .returned (v.map (ab_c adr)) ∧ Q v h ∧ va_P (dC, dI) vwCl (ab_w lay cI cW adr h) t.heap ∧ va_K (dC, dI) vwCl (ab_tys cI cW) t) ∧ va_F A st t
/-- what a method answers, and does to its world -/
def ab_C (l : Launch) (lay : List ab_E) (d : Nat) (M : ab_M) (As : List ab_V) (h : ab_H) (Q : Option ab_V → ab_H → Prop) : Prop :=
  ∀ (dC : Nat → ClassId) (dI : Nat → Nat → Nat) (cI cW : ClassId) (adr : Nat → Nat) (sz : Nat),
    Met l M.1 (ab_ws M) (ab_rm d) (va_Pc (As.map (ab_c adr)) (fun U => U.heap.size = sz ∧ va_P (dC, dI) vwCl (ab_w lay cI cW adr h) U.heap ∧ va_K (dC, dI) vwCl (ab_tys cI cW) U ∧ ab_D lay adr (fun _ => True)))
      (ab_Qc lay dC dI cI cW adr (ab_A lay adr sz) Q) 0 0 (ab_A lay adr sz)
def ab_Cx (lay : List ab_E) (M : ab_M) (p : Program) (s : State) (m : MethodId) (args : Array Value) (meth : Method) (c : Code) (dC : Nat → ClassId) (dI : Nat → Nat → Nat) (cI cW : ClassId) (adr : Nat → Nat) (A : Nat → Prop) : Prop :=
  p.tables.exec = Jvm.exec ∧ c.code = M.2.1 ∧ meth.sig.returnType = M.2.2.2 ∧ c.maxLocals = M.2.2.1 ∧ s.vm.findClass M.1.cls = some m.cls ∧ (∀ w ∈ ab_all, w.before args s = true) ∧ meth.locks = false ∧ va_K (dC, dI) vwCl (ab_tys cI cW) s ∧ ab_D lay adr A ∧ ∀ q, s.heap.size ≤ q → A q
def ab_ls (adr : Nat → Nat) (L : List (Nat × ab_V)) : List (Nat × Value) := L.map fun q => (q.1, ab_c adr q.2)
def ab_Dy (lay : List ab_E) (nL : Nat) (s : State) (dC : Nat → ClassId) (dI : Nat → Nat → Nat) (cI cW : ClassId) (adr : Nat → Nat) (A : Nat → Prop) (H : Heap) (locs : List Loc) (ls : Array Slot) (L : List (Nat × ab_V)) (h : ab_H) : Prop :=
  va_P (dC, dI) vwCl (ab_w lay cI cW adr h) H ∧ va_S A s.heap H locs ∧ lv_has ls nL (ab_ls adr L)
/-- the judgement: from here the method comes to its end with Q -/
def ab_J (l : Launch) (lay : List ab_E) (M : ab_M) (d : Nat) (Q : Option ab_V → ab_H → Prop) (pc : Nat) (L : List (Nat × ab_V)) (S : List ab_V) (h : ab_H) : Prop :=
  ∀ (p : Program) (e : Env) (s : State) (m : MethodId) (args : Array Value) (below : List Frame) (meth : Method) (c : Code) (dC : Nat → ClassId) (dI : Nat → Nat → Nat) (cI cW : ClassId) (adr : Nat → Nat) (A : Nat → Prop),
    ab_Cx lay M p s m args meth c dC dI cI cW adr A → ∀ (H : Heap) (locs : List Loc) (ls : Array Slot), ab_Dy lay M.2.2.1 s dC dI cI cW adr A H locs ls L h →
      W p l e (ab_rm d) s m args below meth c H locs 0 0 (MQ below (ab_Qc lay dC dI cI cW adr A Q) args s 0 0 A) (F0 m pc ls (S.map (ab_c adr)))
def ab_args : Nat → List ab_V → List (Nat × ab_V)
  | _, [] => []
  | i, v :: vs => (i, v) :: ab_args (i + ab_cat v) vs
theorem ab_args_c (adr : Nat → Nat) : ∀ (As : List ab_V) (i : Nat), lv_args i (As.map (ab_c adr)) = ab_ls adr (ab_args i As)
  | [], _ => rfl
  | v :: vs, i => by
    show (i, ab_c adr v) :: lv_args (if (ab_c adr v).category = 2 then i + 2 else i + 1) (vs.map (ab_c adr)) = (i, ab_c adr v) :: ab_ls adr (ab_args (i + ab_cat v) vs)
    rw [← ab_args_c adr vs, ab_cat_c]
    rcases v with x | x | j <;> rfl
theorem ab_sl_len (adr : Nat → Nat) : ∀ (As : List ab_V), (lg_sl (As.map (ab_c adr))).length = (As.map ab_cat).sum
  | [] => rfl
  | v :: vs => by
    have ih := ab_sl_len adr vs
    simp only [lg_sl] at ih
    simp only [lg_sl, List.map_cons, List.flatMap_cons, List.length_append, List.sum_cons, ih, ab_cat_c]
    rcases v with x | x | j <;> rfl
theorem ab_enter {l : Launch} {lay : List ab_E} {M : ab_M} {d : Nat} {As : List ab_V} {h : ab_H} {Q : Option ab_V → ab_H → Prop} (hp : plainName M.1.cls = true) (hn : (As.map ab_cat).sum ≤ M.2.2.1)
    (k : ab_J l lay M d Q 0 (ab_args 0 As) [] h) : ab_C l lay d M As h Q := by
  intro dC dI cI cW adr sz
  refine Met.ofW (cc := M.2.1) (maxL := M.2.2.1) (ret := M.2.2.2) hp rfl ?_
  intro p e s m args below meth c s₁ B hml hv
  obtain ⟨rfl, hsz, hP, hK, hD0⟩ := hv
  have hts := atoms_spec (ws := ab_ws M) B.pre
  subst hsz
  have hl := lv_entry (As.map (ab_c adr)) (n := M.2.2.1) (by rw [ab_sl_len]; exact hn)
  rw [ab_args_c] at hl
  rw [lg_entry_eq]
  exact k p e s m _ below meth c dC dI cI cW adr (ab_A lay adr s.heap.size) ⟨B.exec, B.bytes, B.returns, hml, findClass_of_methodNamed B.named, fun w h => hts w (List.mem_cons_of_mem _ h), B.notSynchronized, hK, hD0.self _, fun q h => Or.inr h⟩ s.heap [] _ ⟨hP, va_S.rf, hl⟩
