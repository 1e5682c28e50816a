/-! the rules of the judgement, one for each instruction -/
def ab_lk : List (Nat × ab_V) → Nat → Option ab_V
  | [], _ => none
  | q :: r, i => match Nat.beq q.1 i with
    | true => some q.2
    | false => ab_lk r i
theorem ab_lk_mem : ∀ {L : List (Nat × ab_V)} {i : Nat} {v : ab_V}, ab_lk L i = some v → (i, v) ∈ L
  | [], _, _, h => by cases h
  | q :: r, i, v, h => by
    simp only [ab_lk] at h
    cases hb : Nat.beq q.1 i with
    | true =>
      rw [hb] at h
      have e1 : q.1 = i := Nat.eq_of_beq_eq_true hb
      have e2 : q.2 = v := Option.some.inj h
      rw [← e1, ← e2]
      exact List.mem_cons_self
    | false =>
      rw [hb] at h
      exact List.mem_cons_of_mem _ (ab_lk_mem h)
theorem ab_lkp {adr : Nat → Nat} {ls : Array Slot} {nL : Nat} {L : List (Nat × ab_V)} {i : Nat} {v : ab_V} (h : lv_has ls nL (ab_ls adr L)) (hk : ab_lk L i = some v) : ls[i]? = some (.val (ab_c adr v)) :=
  h.2.2 (i, ab_c adr v) (List.mem_map.mpr ⟨(i, v), ab_lk_mem hk, rfl⟩)
def ab_st (i : Nat) (v : ab_V) (L : List (Nat × ab_V)) : List (Nat × ab_V) := (i, v) :: L.filter (fun q => !(q.1 == i) && !(q.1 + 1 == i && ab_cat q.2 == 2))
def ab_st2 (i : Nat) (v : ab_V) (L : List (Nat × ab_V)) : List (Nat × ab_V) := (i, v) :: L.filter (fun q => !(q.1 == i) && (!(q.1 == i + 1) && !(q.1 + 1 == i && ab_cat q.2 == 2)))
theorem ab_st_c (adr : Nat → Nat) (i : Nat) (v : ab_V) (L : List (Nat × ab_V)) : (i, ab_c adr v) :: (ab_ls adr L).filter (fun q => !(q.1 == i) && !(q.1 + 1 == i && q.2.category == 2)) = ab_ls adr (ab_st i v L) := by
  simp only [ab_ls, ab_st, List.map_cons, List.filter_map, Function.comp_def, ab_cat_c]
theorem ab_st2_c (adr : Nat → Nat) (i : Nat) (v : ab_V) (L : List (Nat × ab_V)) : (i, ab_c adr v) :: (ab_ls adr L).filter (fun q => !(q.1 == i) && (!(q.1 == i + 1) && !(q.1 + 1 == i && q.2.category == 2))) = ab_ls adr (ab_st2 i v L) := by
  simp only [ab_ls, ab_st2, List.map_cons, List.filter_map, Function.comp_def, ab_cat_c]
def ab_sub (L : List (Nat × ab_V)) : List (Nat × ab_V) → Prop
  | [] => True
  | q :: r => ab_lk L q.1 = some q.2 ∧ ab_sub L r
theorem ab_sub_mem {L : List (Nat × ab_V)} : ∀ {L' : List (Nat × ab_V)}, ab_sub L L' → ∀ q ∈ L', q ∈ L
  | [], _, q, h => by cases h
  | a :: r, hs, q, h => by
    rcases List.mem_cons.mp h with e | h
    · subst e
      exact ab_lk_mem hs.1
    · exact ab_sub_mem hs.2 q h
/-- a field of a class by an entry of another's pool -/
def ab_F (own : String) (idx ci k : Nat) : Prop := ∃ (C : String) (T : u_T) (N : Nat) (ty0 : Nat → FieldType), vwCl[ci]? = some (C, T, N) ∧ k < N ∧ (∀ w ∈ u_ws C T N, w ∈ ab_all) ∧ (∀ k, k < N → parseFieldDescriptor (T k).2.2.1 = some (ty0 k)) ∧ (∀ a, a < N → ∀ b, b < N → a ≠ b → (T a).2.1 ≠ (T b).2.1) ∧ Cond.fieldLink own idx (T k).1 (T k).2.1 (T k).2.2.1 ∈ ab_all
/-- and it is an int that may be written -/
def ab_Fw (own : String) (idx ci k : Nat) : Prop := ∃ (C : String) (T : u_T) (N : Nat) (ty0 : Nat → FieldType), vwCl[ci]? = some (C, T, N) ∧ k < N ∧ (∀ w ∈ u_ws C T N, w ∈ ab_all) ∧ (∀ k, k < N → parseFieldDescriptor (T k).2.2.1 = some (ty0 k)) ∧ (∀ a, a < N → ∀ b, b < N → a ≠ b → (T a).2.1 ≠ (T b).2.1) ∧ Cond.fieldLink own idx (T k).1 (T k).2.1 (T k).2.2.1 ∈ ab_all ∧ (T k).2.2.2 = false ∧ parseFieldDescriptor (T k).2.2.1 = some .int
def ab_MB (own : String) (idx n : Nat) (M : ab_M) : Prop := (M.1.cls ≠ "java/lang/invoke/MethodHandle" ∧ M.1.cls ≠ "java/lang/invoke/VarHandle" ∧ (parseMethodDescriptor M.1.desc).map (fun d => d.parameters.length) = some n) ∧ M.2.2.1 ≤ 21 ∧ Cond.methodLink own idx M.1 ∈ ab_all ∧ Cond.initialized M.1.cls ∈ ab_all ∧ Cond.code M.1 M.2.1 M.2.2.1 M.2.2.2 ∈ ab_all
def ab_MV (own : String) (idx ci n : Nat) (M : ab_M) : Prop := ab_MB own idx n M ∧ (∃ q : vw_C, vwCl[ci]? = some q ∧ q.1 = M.1.cls) ∧ Cond.instanceMethod M.1 ∈ ab_all ∧ Cond.selects M.1.cls M.1 M.1 ∈ ab_all
def ab_MS (own : String) (idx n : Nat) (M : ab_M) : Prop := ab_MB own idx n M ∧ Cond.static M.1 ∈ ab_all
def ab_qi (P : Int32 → ab_H → Prop) : Option ab_V → ab_H → Prop := fun v h => ∃ r, v = some (ab_I r) ∧ P r h
def ab_ql (P : Int64 → ab_H → Prop) : Option ab_V → ab_H → Prop := fun v h => ∃ r, v = some (ab_L r) ∧ P r h
def ab_qv (P : ab_H → Prop) : Option ab_V → ab_H → Prop := fun v h => v = none ∧ P h
section ABR
variable {l : Launch} {lay : List ab_E} {M : ab_M} {d : Nat} {Q : Option ab_V → ab_H → Prop} {pc : Nat} {L : List (Nat × ab_V)} {S : List ab_V} {h : ab_H}
theorem ab_weak (L' : List (Nat × ab_V)) (hs : ab_sub L L') (k : ab_J l lay M d Q pc L' S h) : ab_J l lay M d Q pc L S h := by
  intro p e s m args below meth c dC dI cI cW adr A X H locs ls Y
  refine k p e s m args below meth c dC dI cI cW adr A X H locs ls ⟨Y.1, Y.2.1, Y.2.2.1, Y.2.2.2.1, fun q hq => ?_⟩
  obtain ⟨a, ha, rfl⟩ := List.mem_map.mp hq
  exact Y.2.2.2.2 _ (List.mem_map.mpr ⟨a, ab_sub_mem hs a ha, rfl⟩)
theorem ab_ki {P : Int32 → ab_H → Prop} (kk : ∀ r h', P r h' → ab_J l lay M d Q pc L (ab_I r :: S) h') : ∀ v h', ab_qi P v h' → ab_J l lay M d Q pc L (v.toList ++ S) h' := by
  rintro v h' ⟨r, rfl, hp⟩
  exact kk r h' hp
theorem ab_kl {P : Int64 → ab_H → Prop} (kk : ∀ r h', P r h' → ab_J l lay M d Q pc L (ab_L r :: S) h') : ∀ v h', ab_ql P v h' → ab_J l lay M d Q pc L (v.toList ++ S) h' := by
  rintro v h' ⟨r, rfl, hp⟩
  exact kk r h' hp
theorem ab_kv {P : ab_H → Prop} (kk : ∀ h', P h' → ab_J l lay M d Q pc L S h') : ∀ v h', ab_qv P v h' → ab_J l lay M d Q pc L (v.toList ++ S) h' := by
  rintro v h' ⟨rfl, hp⟩
  exact kk h' hp
theorem ab_iconst {n : Int} {v : Int32} (hd : decode M.2.1 pc = .ok (.iconst n, 1)) (hv : Int32.ofInt n = v) (k : ab_J l lay M d Q (pc + 1) (L) (ab_I v :: S) (h)) : ab_J l lay M d Q (pc) (L) (S) (h) := by
  intro p e s m args below meth c dC dI cI cW adr A X H locs ls Y
  exact lv_iconst X.1 X.2.1 hd hv (k p e s m args below meth c dC dI cI cW adr A X H locs ls Y)
theorem ab_bipush {n : Int} {v : Int32} (hd : decode M.2.1 pc = .ok (.bipush n, 2)) (hv : (Int8.ofInt n).toInt32 = v) (k : ab_J l lay M d Q (pc + 2) (L) (ab_I v :: S) (h)) : ab_J l lay M d Q (pc) (L) (S) (h) := by
  intro p e s m args below meth c dC dI cI cW adr A X H locs ls Y
  exact lv_bipush X.1 X.2.1 hd hv (k p e s m args below meth c dC dI cI cW adr A X H locs ls Y)
theorem ab_sipush {n : Int} {v : Int32} (hd : decode M.2.1 pc = .ok (.sipush n, 3)) (hv : (Int16.ofInt n).toInt32 = v) (k : ab_J l lay M d Q (pc + 3) (L) (ab_I v :: S) (h)) : ab_J l lay M d Q (pc) (L) (S) (h) := by
  intro p e s m args below meth c dC dI cI cW adr A X H locs ls Y
  exact lv_sipush X.1 X.2.1 hd hv (k p e s m args below meth c dC dI cI cW adr A X H locs ls Y)
theorem ab_lconst {n : Fin 2} {v : Int64} (hd : decode M.2.1 pc = .ok (.lconst n, 1)) (hv : Int64.ofNat (n : Nat) = v) (k : ab_J l lay M d Q (pc + 1) (L) (ab_L v :: S) (h)) : ab_J l lay M d Q (pc) (L) (S) (h) := by
  intro p e s m args below meth c dC dI cI cW adr A X H locs ls Y
  exact lv_lconst X.1 X.2.1 hd hv (k p e s m args below meth c dC dI cI cW adr A X H locs ls Y)
theorem ab_ldc2 {idx : Nat} {v : Int64} (hd : decode M.2.1 pc = .ok (.ldc2_w idx, 3)) (hw : Cond.constantLong M.1.cls idx v ∈ ab_all) (k : ab_J l lay M d Q (pc + 3) (L) (ab_L v :: S) (h)) : ab_J l lay M d Q (pc) (L) (S) (h) := by
  intro p e s m args below meth c dC dI cI cW adr A X H locs ls Y
  exact lv_ldc2 X.1 X.2.1 X.2.2.2.2.1 (X.2.2.2.2.2.1 _ hw) hd (k p e s m args below meth c dC dI cI cW adr A X H locs ls Y)
theorem ab_iload_n {j : Fin 4} {i : Nat} {x : Int32} (hd : decode M.2.1 pc = .ok (.iload_n j, 1)) (hi : (j : Nat) = i) (hl : ab_lk L i = some (ab_I x)) (k : ab_J l lay M d Q (pc + 1) (L) (ab_I x :: S) (h)) : ab_J l lay M d Q (pc) (L) (S) (h) := by
  intro p e s m args below meth c dC dI cI cW adr A X H locs ls Y
  exact lv_iload_n X.1 X.2.1 hd hi (ab_lkp Y.2.2 hl) (k p e s m args below meth c dC dI cI cW adr A X H locs ls Y)
theorem ab_iload {i : Nat} {x : Int32} (hd : decode M.2.1 pc = .ok (.iload i, 2)) (hl : ab_lk L i = some (ab_I x)) (k : ab_J l lay M d Q (pc + 2) (L) (ab_I x :: S) (h)) : ab_J l lay M d Q (pc) (L) (S) (h) := by
  intro p e s m args below meth c dC dI cI cW adr A X H locs ls Y
  exact lv_iload X.1 X.2.1 hd (ab_lkp Y.2.2 hl) (k p e s m args below meth c dC dI cI cW adr A X H locs ls Y)
theorem ab_istore_n {j : Fin 4} {i : Nat} {x : Int32} (hd : decode M.2.1 pc = .ok (.istore_n j, 1)) (hi : (j : Nat) = i) (hn : Nat.ble (i + 1) M.2.2.1 = true) (k : ab_J l lay M d Q (pc + 1) (ab_st i (ab_I x) L) (S) (h)) : ab_J l lay M d Q (pc) (L) (ab_I x :: S) (h) := by
  intro p e s m args below meth c dC dI cI cW adr A X H locs ls Y
  exact lv_istore_n X.1 X.2.1 hd hi Y.2.2 (Nat.le_of_ble_eq_true hn) (ab_st_c adr i (ab_I x) L) (fun ls hl => k p e s m args below meth c dC dI cI cW adr A X H locs ls ⟨Y.1, Y.2.1, hl⟩)
theorem ab_istore {i : Nat} {x : Int32} (hd : decode M.2.1 pc = .ok (.istore i, 2)) (hn : Nat.ble (i + 1) M.2.2.1 = true) (k : ab_J l lay M d Q (pc + 2) (ab_st i (ab_I x) L) (S) (h)) : ab_J l lay M d Q (pc) (L) (ab_I x :: S) (h) := by
  intro p e s m args below meth c dC dI cI cW adr A X H locs ls Y
  exact lv_istore X.1 X.2.1 hd Y.2.2 (Nat.le_of_ble_eq_true hn) (ab_st_c adr i (ab_I x) L) (fun ls hl => k p e s m args below meth c dC dI cI cW adr A X H locs ls ⟨Y.1, Y.2.1, hl⟩)
theorem ab_lload_n {j : Fin 4} {i : Nat} {x : Int64} (hd : decode M.2.1 pc = .ok (.lload_n j, 1)) (hi : (j : Nat) = i) (hl : ab_lk L i = some (ab_L x)) (k : ab_J l lay M d Q (pc + 1) (L) (ab_L x :: S) (h)) : ab_J l lay M d Q (pc) (L) (S) (h) := by
  intro p e s m args below meth c dC dI cI cW adr A X H locs ls Y
  exact lv_lload_n X.1 X.2.1 hd hi (ab_lkp Y.2.2 hl) (k p e s m args below meth c dC dI cI cW adr A X H locs ls Y)
theorem ab_lload {i : Nat} {x : Int64} (hd : decode M.2.1 pc = .ok (.lload i, 2)) (hl : ab_lk L i = some (ab_L x)) (k : ab_J l lay M d Q (pc + 2) (L) (ab_L x :: S) (h)) : ab_J l lay M d Q (pc) (L) (S) (h) := by
  intro p e s m args below meth c dC dI cI cW adr A X H locs ls Y
  exact lv_lload X.1 X.2.1 hd (ab_lkp Y.2.2 hl) (k p e s m args below meth c dC dI cI cW adr A X H locs ls Y)
theorem ab_lstore_n {j : Fin 4} {i : Nat} {x : Int64} (hd : decode M.2.1 pc = .ok (.lstore_n j, 1)) (hi : (j : Nat) = i) (hn : Nat.ble (i + 1 + 1) M.2.2.1 = true) (k : ab_J l lay M d Q (pc + 1) (ab_st2 i (ab_L x) L) (S) (h)) : ab_J l lay M d Q (pc) (L) (ab_L x :: S) (h) := by
  intro p e s m args below meth c dC dI cI cW adr A X H locs ls Y
  exact lv_lstore_n X.1 X.2.1 hd hi Y.2.2 (Nat.le_of_ble_eq_true hn) (ab_st2_c adr i (ab_L x) L) (fun ls hl => k p e s m args below meth c dC dI cI cW adr A X H locs ls ⟨Y.1, Y.2.1, hl⟩)
theorem ab_lstore {i : Nat} {x : Int64} (hd : decode M.2.1 pc = .ok (.lstore i, 2)) (hn : Nat.ble (i + 1 + 1) M.2.2.1 = true) (k : ab_J l lay M d Q (pc + 2) (ab_st2 i (ab_L x) L) (S) (h)) : ab_J l lay M d Q (pc) (L) (ab_L x :: S) (h) := by
  intro p e s m args below meth c dC dI cI cW adr A X H locs ls Y
  exact lv_lstore X.1 X.2.1 hd Y.2.2 (Nat.le_of_ble_eq_true hn) (ab_st2_c adr i (ab_L x) L) (fun ls hl => k p e s m args below meth c dC dI cI cW adr A X H locs ls ⟨Y.1, Y.2.1, hl⟩)
theorem ab_aload_n {j : Fin 4} {i : Nat} {x : Nat} (hd : decode M.2.1 pc = .ok (.aload_n j, 1)) (hi : (j : Nat) = i) (hl : ab_lk L i = some (ab_R x)) (k : ab_J l lay M d Q (pc + 1) (L) (ab_R x :: S) (h)) : ab_J l lay M d Q (pc) (L) (S) (h) := by
  intro p e s m args below meth c dC dI cI cW adr A X H locs ls Y
  exact lv_aload_n X.1 X.2.1 hd hi (ab_lkp Y.2.2 hl) (k p e s m args below meth c dC dI cI cW adr A X H locs ls Y)
theorem ab_aload {i : Nat} {x : Nat} (hd : decode M.2.1 pc = .ok (.aload i, 2)) (hl : ab_lk L i = some (ab_R x)) (k : ab_J l lay M d Q (pc + 2) (L) (ab_R x :: S) (h)) : ab_J l lay M d Q (pc) (L) (S) (h) := by
  intro p e s m args below meth c dC dI cI cW adr A X H locs ls Y
  exact lv_aload X.1 X.2.1 hd (ab_lkp Y.2.2 hl) (k p e s m args below meth c dC dI cI cW adr A X H locs ls Y)
theorem ab_astore_n {j : Fin 4} {i : Nat} {x : Nat} (hd : decode M.2.1 pc = .ok (.astore_n j, 1)) (hi : (j : Nat) = i) (hn : Nat.ble (i + 1) M.2.2.1 = true) (k : ab_J l lay M d Q (pc + 1) (ab_st i (ab_R x) L) (S) (h)) : ab_J l lay M d Q (pc) (L) (ab_R x :: S) (h) := by
  intro p e s m args below meth c dC dI cI cW adr A X H locs ls Y
  exact lv_astore_n X.1 X.2.1 hd hi Y.2.2 (Nat.le_of_ble_eq_true hn) (ab_st_c adr i (ab_R x) L) (fun ls hl => k p e s m args below meth c dC dI cI cW adr A X H locs ls ⟨Y.1, Y.2.1, hl⟩)
theorem ab_astore {i : Nat} {x : Nat} (hd : decode M.2.1 pc = .ok (.astore i, 2)) (hn : Nat.ble (i + 1) M.2.2.1 = true) (k : ab_J l lay M d Q (pc + 2) (ab_st i (ab_R x) L) (S) (h)) : ab_J l lay M d Q (pc) (L) (ab_R x :: S) (h) := by
  intro p e s m args below meth c dC dI cI cW adr A X H locs ls Y
  exact lv_astore X.1 X.2.1 hd Y.2.2 (Nat.le_of_ble_eq_true hn) (ab_st_c adr i (ab_R x) L) (fun ls hl => k p e s m args below meth c dC dI cI cW adr A X H locs ls ⟨Y.1, Y.2.1, hl⟩)
theorem ab_iinc {i : Nat} {n : Int} {x v : Int32} (hd : decode M.2.1 pc = .ok (.iinc i n, 3)) (hl : ab_lk L i = some (ab_I x)) (hv : Int32.ofInt n = v) (hn : Nat.ble (i + 1) M.2.2.1 = true) (k : ab_J l lay M d Q (pc + 3) (ab_st i (ab_I (x + v)) L) (S) (h)) : ab_J l lay M d Q (pc) (L) (S) (h) := by
  intro p e s m args below meth c dC dI cI cW adr A X H locs ls Y
  obtain ⟨j, hj⟩ := List.getElem?_of_mem (List.mem_map.mpr ⟨(i, ab_I x), ab_lk_mem hl, rfl⟩ : (i, ab_c adr (ab_I x)) ∈ ab_ls adr L)
  exact lv_iinc (k := j) X.1 X.2.1 hd Y.2.2 hj (by rw [hv]) (Nat.le_of_ble_eq_true hn) (ab_st_c adr i (ab_I (x + v)) L) (fun ls hl => k p e s m args below meth c dC dI cI cW adr A X H locs ls ⟨Y.1, Y.2.1, hl⟩)
theorem ab_iadd {x y : Int32} (hd : decode M.2.1 pc = .ok (.iadd, 1)) (k : ab_J l lay M d Q (pc + 1) (L) (ab_I (x + y) :: S) (h)) : ab_J l lay M d Q (pc) (L) (ab_I y :: ab_I x :: S) (h) := by
  intro p e s m args below meth c dC dI cI cW adr A X H locs ls Y
  exact lv_iadd X.1 X.2.1 hd (k p e s m args below meth c dC dI cI cW adr A X H locs ls Y)
theorem ab_isub {x y : Int32} (hd : decode M.2.1 pc = .ok (.isub, 1)) (k : ab_J l lay M d Q (pc + 1) (L) (ab_I (x - y) :: S) (h)) : ab_J l lay M d Q (pc) (L) (ab_I y :: ab_I x :: S) (h) := by
  intro p e s m args below meth c dC dI cI cW adr A X H locs ls Y
  exact lv_isub X.1 X.2.1 hd (k p e s m args below meth c dC dI cI cW adr A X H locs ls Y)
theorem ab_imul {x y : Int32} (hd : decode M.2.1 pc = .ok (.imul, 1)) (k : ab_J l lay M d Q (pc + 1) (L) (ab_I (x * y) :: S) (h)) : ab_J l lay M d Q (pc) (L) (ab_I y :: ab_I x :: S) (h) := by
  intro p e s m args below meth c dC dI cI cW adr A X H locs ls Y
  exact lv_imul X.1 X.2.1 hd (k p e s m args below meth c dC dI cI cW adr A X H locs ls Y)
theorem ab_iand {x y : Int32} (hd : decode M.2.1 pc = .ok (.iand, 1)) (k : ab_J l lay M d Q (pc + 1) (L) (ab_I (x &&& y) :: S) (h)) : ab_J l lay M d Q (pc) (L) (ab_I y :: ab_I x :: S) (h) := by
  intro p e s m args below meth c dC dI cI cW adr A X H locs ls Y
  exact lv_iand X.1 X.2.1 hd (k p e s m args below meth c dC dI cI cW adr A X H locs ls Y)
theorem ab_ishr {x y : Int32} (hd : decode M.2.1 pc = .ok (.ishr, 1)) (k : ab_J l lay M d Q (pc + 1) (L) (ab_I (x >>> (y &&& 31)) :: S) (h)) : ab_J l lay M d Q (pc) (L) (ab_I y :: ab_I x :: S) (h) := by
  intro p e s m args below meth c dC dI cI cW adr A X H locs ls Y
  exact lv_ishr X.1 X.2.1 hd (k p e s m args below meth c dC dI cI cW adr A X H locs ls Y)
theorem ab_idiv {x y : Int32} (hd : decode M.2.1 pc = .ok (.idiv, 1)) (hne : ¬ y = 0) (k : ab_J l lay M d Q (pc + 1) (L) (ab_I (x / y) :: S) (h)) : ab_J l lay M d Q (pc) (L) (ab_I y :: ab_I x :: S) (h) := by
  intro p e s m args below meth c dC dI cI cW adr A X H locs ls Y
  exact lv_idiv X.1 X.2.1 hd hne (k p e s m args below meth c dC dI cI cW adr A X H locs ls Y)
theorem ab_land {x y : Int64} (hd : decode M.2.1 pc = .ok (.land, 1)) (k : ab_J l lay M d Q (pc + 1) (L) (ab_L (x &&& y) :: S) (h)) : ab_J l lay M d Q (pc) (L) (ab_L y :: ab_L x :: S) (h) := by
  intro p e s m args below meth c dC dI cI cW adr A X H locs ls Y
  exact lv_land X.1 X.2.1 hd (k p e s m args below meth c dC dI cI cW adr A X H locs ls Y)
theorem ab_lor {x y : Int64} (hd : decode M.2.1 pc = .ok (.lor, 1)) (k : ab_J l lay M d Q (pc + 1) (L) (ab_L (x ||| y) :: S) (h)) : ab_J l lay M d Q (pc) (L) (ab_L y :: ab_L x :: S) (h) := by
  intro p e s m args below meth c dC dI cI cW adr A X H locs ls Y
  exact lv_lor X.1 X.2.1 hd (k p e s m args below meth c dC dI cI cW adr A X H locs ls Y)
theorem ab_lshl {x : Int64} {y : Int32} (hd : decode M.2.1 pc = .ok (.lshl, 1)) (k : ab_J l lay M d Q (pc + 1) (L) (ab_L (x <<< (y.toInt64 &&& 63)) :: S) (h)) : ab_J l lay M d Q (pc) (L) (ab_I y :: ab_L x :: S) (h) := by
  intro p e s m args below meth c dC dI cI cW adr A X H locs ls Y
  exact lv_lshl X.1 X.2.1 hd rfl (k p e s m args below meth c dC dI cI cW adr A X H locs ls Y)
theorem ab_lshr {x : Int64} {y : Int32} (hd : decode M.2.1 pc = .ok (.lshr, 1)) (k : ab_J l lay M d Q (pc + 1) (L) (ab_L (x >>> (y.toInt64 &&& 63)) :: S) (h)) : ab_J l lay M d Q (pc) (L) (ab_I y :: ab_L x :: S) (h) := by
  intro p e s m args below meth c dC dI cI cW adr A X H locs ls Y
  exact lv_lshr X.1 X.2.1 hd rfl (k p e s m args below meth c dC dI cI cW adr A X H locs ls Y)
theorem ab_i2l {x : Int32} (hd : decode M.2.1 pc = .ok (.i2l, 1)) (k : ab_J l lay M d Q (pc + 1) (L) (ab_L x.toInt64 :: S) (h)) : ab_J l lay M d Q (pc) (L) (ab_I x :: S) (h) := by
  intro p e s m args below meth c dC dI cI cW adr A X H locs ls Y
  exact lv_i2l X.1 X.2.1 hd rfl (k p e s m args below meth c dC dI cI cW adr A X H locs ls Y)
theorem ab_l2i {x : Int64} (hd : decode M.2.1 pc = .ok (.l2i, 1)) (k : ab_J l lay M d Q (pc + 1) (L) (ab_I x.toInt32 :: S) (h)) : ab_J l lay M d Q (pc) (L) (ab_L x :: S) (h) := by
  intro p e s m args below meth c dC dI cI cW adr A X H locs ls Y
  exact lv_l2i X.1 X.2.1 hd rfl (k p e s m args below meth c dC dI cI cW adr A X H locs ls Y)
theorem ab_lcmp {x y : Int64} (hd : decode M.2.1 pc = .ok (.lcmp, 1)) (k : ab_J l lay M d Q (pc + 1) (L) (ab_I (lg_cmp x y) :: S) (h)) : ab_J l lay M d Q (pc) (L) (ab_L y :: ab_L x :: S) (h) := by
  intro p e s m args below meth c dC dI cI cW adr A X H locs ls Y
  exact W.lcmp X.1 X.2.1 hd (k p e s m args below meth c dC dI cI cW adr A X H locs ls Y)
theorem ab_dup {v : ab_V} (hd : decode M.2.1 pc = .ok (.dup, 1)) (hc : ab_cat v = 1) (k : ab_J l lay M d Q (pc + 1) (L) (v :: v :: S) (h)) : ab_J l lay M d Q (pc) (L) (v :: S) (h) := by
  intro p e s m args below meth c dC dI cI cW adr A X H locs ls Y
  exact lv_dup X.1 X.2.1 hd ((ab_cat_c adr v).trans hc) (k p e s m args below meth c dC dI cI cW adr A X H locs ls Y)
theorem ab_dup2 {v w : ab_V} (hd : decode M.2.1 pc = .ok (.dup2, 1)) (hc : ab_cat v = 1) (hc2 : ab_cat w = 1) (k : ab_J l lay M d Q (pc + 1) (L) (v :: w :: v :: w :: S) (h)) : ab_J l lay M d Q (pc) (L) (v :: w :: S) (h) := by
  intro p e s m args below meth c dC dI cI cW adr A X H locs ls Y
  exact lv_dup2_11 X.1 X.2.1 hd ((ab_cat_c adr v).trans hc) ((ab_cat_c adr w).trans hc2) (k p e s m args below meth c dC dI cI cW adr A X H locs ls Y)
theorem ab_pop {v : ab_V} (hd : decode M.2.1 pc = .ok (.pop, 1)) (hc : ab_cat v = 1) (k : ab_J l lay M d Q (pc + 1) (L) (S) (h)) : ab_J l lay M d Q (pc) (L) (v :: S) (h) := by
  intro p e s m args below meth c dC dI cI cW adr A X H locs ls Y
  exact lv_pop X.1 X.2.1 hd ((ab_cat_c adr v).trans hc) (k p e s m args below meth c dC dI cI cW adr A X H locs ls Y)
theorem ab_if_eq {x : Int32} {off : Int} (tgt : Nat) (hd : decode M.2.1 pc = .ok (.ifCond .eq off, 3)) (ht : ((pc : Nat) : Int) + off = (tgt : Int)) (kt : x = 0 → ab_J l lay M d Q (tgt) (L) (S) (h)) (kf : ¬ (x = 0) → ab_J l lay M d Q (pc + 3) (L) (S) (h)) : ab_J l lay M d Q (pc) (L) (ab_I x :: S) (h) := by
  intro p e s m args below meth c dC dI cI cW adr A X H locs ls Y
  exact lv_if_eq X.1 X.2.1 hd ht (fun q => kt q p e s m args below meth c dC dI cI cW adr A X H locs ls Y) (fun q => kf q p e s m args below meth c dC dI cI cW adr A X H locs ls Y)
theorem ab_icmp_eq {x y : Int32} {off : Int} (tgt : Nat) (hd : decode M.2.1 pc = .ok (.if_icmp .eq off, 3)) (ht : ((pc : Nat) : Int) + off = (tgt : Int)) (kt : x = y → ab_J l lay M d Q (tgt) (L) (S) (h)) (kf : ¬ (x = y) → ab_J l lay M d Q (pc + 3) (L) (S) (h)) : ab_J l lay M d Q (pc) (L) (ab_I y :: ab_I x :: S) (h) := by
  intro p e s m args below meth c dC dI cI cW adr A X H locs ls Y
  exact lv_icmp_eq X.1 X.2.1 hd ht (fun q => kt q p e s m args below meth c dC dI cI cW adr A X H locs ls Y) (fun q => kf q p e s m args below meth c dC dI cI cW adr A X H locs ls Y)
theorem ab_if_ne {x : Int32} {off : Int} (tgt : Nat) (hd : decode M.2.1 pc = .ok (.ifCond .ne off, 3)) (ht : ((pc : Nat) : Int) + off = (tgt : Int)) (kt : ¬ x = 0 → ab_J l lay M d Q (tgt) (L) (S) (h)) (kf : x = 0 → ab_J l lay M d Q (pc + 3) (L) (S) (h)) : ab_J l lay M d Q (pc) (L) (ab_I x :: S) (h) := by
  intro p e s m args below meth c dC dI cI cW adr A X H locs ls Y
  exact lv_if_ne X.1 X.2.1 hd ht (fun q => kt q p e s m args below meth c dC dI cI cW adr A X H locs ls Y) (fun q => kf q p e s m args below meth c dC dI cI cW adr A X H locs ls Y)
theorem ab_icmp_ne {x y : Int32} {off : Int} (tgt : Nat) (hd : decode M.2.1 pc = .ok (.if_icmp .ne off, 3)) (ht : ((pc : Nat) : Int) + off = (tgt : Int)) (kt : ¬ x = y → ab_J l lay M d Q (tgt) (L) (S) (h)) (kf : x = y → ab_J l lay M d Q (pc + 3) (L) (S) (h)) : ab_J l lay M d Q (pc) (L) (ab_I y :: ab_I x :: S) (h) := by
  intro p e s m args below meth c dC dI cI cW adr A X H locs ls Y
  exact lv_icmp_ne X.1 X.2.1 hd ht (fun q => kt q p e s m args below meth c dC dI cI cW adr A X H locs ls Y) (fun q => kf q p e s m args below meth c dC dI cI cW adr A X H locs ls Y)
theorem ab_if_lt {x : Int32} {off : Int} (tgt : Nat) (hd : decode M.2.1 pc = .ok (.ifCond .lt off, 3)) (ht : ((pc : Nat) : Int) + off = (tgt : Int)) (kt : x < 0 → ab_J l lay M d Q (tgt) (L) (S) (h)) (kf : ¬ (x < 0) → ab_J l lay M d Q (pc + 3) (L) (S) (h)) : ab_J l lay M d Q (pc) (L) (ab_I x :: S) (h) := by
  intro p e s m args below meth c dC dI cI cW adr A X H locs ls Y
  exact lv_if_lt X.1 X.2.1 hd ht (fun q => kt q p e s m args below meth c dC dI cI cW adr A X H locs ls Y) (fun q => kf q p e s m args below meth c dC dI cI cW adr A X H locs ls Y)
theorem ab_icmp_lt {x y : Int32} {off : Int} (tgt : Nat) (hd : decode M.2.1 pc = .ok (.if_icmp .lt off, 3)) (ht : ((pc : Nat) : Int) + off = (tgt : Int)) (kt : x < y → ab_J l lay M d Q (tgt) (L) (S) (h)) (kf : ¬ (x < y) → ab_J l lay M d Q (pc + 3) (L) (S) (h)) : ab_J l lay M d Q (pc) (L) (ab_I y :: ab_I x :: S) (h) := by
  intro p e s m args below meth c dC dI cI cW adr A X H locs ls Y
  exact lv_icmp_lt X.1 X.2.1 hd ht (fun q => kt q p e s m args below meth c dC dI cI cW adr A X H locs ls Y) (fun q => kf q p e s m args below meth c dC dI cI cW adr A X H locs ls Y)
theorem ab_if_ge {x : Int32} {off : Int} (tgt : Nat) (hd : decode M.2.1 pc = .ok (.ifCond .ge off, 3)) (ht : ((pc : Nat) : Int) + off = (tgt : Int)) (kt : 0 ≤ x → ab_J l lay M d Q (tgt) (L) (S) (h)) (kf : ¬ (0 ≤ x) → ab_J l lay M d Q (pc + 3) (L) (S) (h)) : ab_J l lay M d Q (pc) (L) (ab_I x :: S) (h) := by
  intro p e s m args below meth c dC dI cI cW adr A X H locs ls Y
  exact lv_if_ge X.1 X.2.1 hd ht (fun q => kt q p e s m args below meth c dC dI cI cW adr A X H locs ls Y) (fun q => kf q p e s m args below meth c dC dI cI cW adr A X H locs ls Y)
theorem ab_icmp_ge {x y : Int32} {off : Int} (tgt : Nat) (hd : decode M.2.1 pc = .ok (.if_icmp .ge off, 3)) (ht : ((pc : Nat) : Int) + off = (tgt : Int)) (kt : y ≤ x → ab_J l lay M d Q (tgt) (L) (S) (h)) (kf : ¬ (y ≤ x) → ab_J l lay M d Q (pc + 3) (L) (S) (h)) : ab_J l lay M d Q (pc) (L) (ab_I y :: ab_I x :: S) (h) := by
  intro p e s m args below meth c dC dI cI cW adr A X H locs ls Y
  exact lv_icmp_ge X.1 X.2.1 hd ht (fun q => kt q p e s m args below meth c dC dI cI cW adr A X H locs ls Y) (fun q => kf q p e s m args below meth c dC dI cI cW adr A X H locs ls Y)
theorem ab_if_gt {x : Int32} {off : Int} (tgt : Nat) (hd : decode M.2.1 pc = .ok (.ifCond .gt off, 3)) (ht : ((pc : Nat) : Int) + off = (tgt : Int)) (kt : 0 < x → ab_J l lay M d Q (tgt) (L) (S) (h)) (kf : ¬ (0 < x) → ab_J l lay M d Q (pc + 3) (L) (S) (h)) : ab_J l lay M d Q (pc) (L) (ab_I x :: S) (h) := by
  intro p e s m args below meth c dC dI cI cW adr A X H locs ls Y
  exact lv_if_gt X.1 X.2.1 hd ht (fun q => kt q p e s m args below meth c dC dI cI cW adr A X H locs ls Y) (fun q => kf q p e s m args below meth c dC dI cI cW adr A X H locs ls Y)
theorem ab_icmp_gt {x y : Int32} {off : Int} (tgt : Nat) (hd : decode M.2.1 pc = .ok (.if_icmp .gt off, 3)) (ht : ((pc : Nat) : Int) + off = (tgt : Int)) (kt : y < x → ab_J l lay M d Q (tgt) (L) (S) (h)) (kf : ¬ (y < x) → ab_J l lay M d Q (pc + 3) (L) (S) (h)) : ab_J l lay M d Q (pc) (L) (ab_I y :: ab_I x :: S) (h) := by
  intro p e s m args below meth c dC dI cI cW adr A X H locs ls Y
  exact lv_icmp_gt X.1 X.2.1 hd ht (fun q => kt q p e s m args below meth c dC dI cI cW adr A X H locs ls Y) (fun q => kf q p e s m args below meth c dC dI cI cW adr A X H locs ls Y)
theorem ab_if_le {x : Int32} {off : Int} (tgt : Nat) (hd : decode M.2.1 pc = .ok (.ifCond .le off, 3)) (ht : ((pc : Nat) : Int) + off = (tgt : Int)) (kt : x ≤ 0 → ab_J l lay M d Q (tgt) (L) (S) (h)) (kf : ¬ (x ≤ 0) → ab_J l lay M d Q (pc + 3) (L) (S) (h)) : ab_J l lay M d Q (pc) (L) (ab_I x :: S) (h) := by
  intro p e s m args below meth c dC dI cI cW adr A X H locs ls Y
  exact lv_if_le X.1 X.2.1 hd ht (fun q => kt q p e s m args below meth c dC dI cI cW adr A X H locs ls Y) (fun q => kf q p e s m args below meth c dC dI cI cW adr A X H locs ls Y)
theorem ab_icmp_le {x y : Int32} {off : Int} (tgt : Nat) (hd : decode M.2.1 pc = .ok (.if_icmp .le off, 3)) (ht : ((pc : Nat) : Int) + off = (tgt : Int)) (kt : x ≤ y → ab_J l lay M d Q (tgt) (L) (S) (h)) (kf : ¬ (x ≤ y) → ab_J l lay M d Q (pc + 3) (L) (S) (h)) : ab_J l lay M d Q (pc) (L) (ab_I y :: ab_I x :: S) (h) := by
  intro p e s m args below meth c dC dI cI cW adr A X H locs ls Y
  exact lv_icmp_le X.1 X.2.1 hd ht (fun q => kt q p e s m args below meth c dC dI cI cW adr A X H locs ls Y) (fun q => kf q p e s m args below meth c dC dI cI cW adr A X H locs ls Y)
theorem ab_goto {off : Int} (tgt : Nat) (hd : decode M.2.1 pc = .ok (.goto off, 3)) (ht : ((pc : Nat) : Int) + off = (tgt : Int)) (k : ab_J l lay M d Q (tgt) (L) (S) (h)) : ab_J l lay M d Q (pc) (L) (S) (h) := by
  intro p e s m args below meth c dC dI cI cW adr A X H locs ls Y
  exact lv_goto X.1 X.2.1 hd ht (k p e s m args below meth c dC dI cI cW adr A X H locs ls Y)
theorem ab_tableOut {dflt lo hi : Int} {offs : Array Int} {len : Nat} {x : Int32} (tgt : Nat) (hd : decode M.2.1 pc = .ok (.tableswitch dflt lo hi offs, len)) (hr : x.toInt < lo ∨ hi < x.toInt) (ht : ((pc : Nat) : Int) + dflt = (tgt : Int)) (k : ab_J l lay M d Q (tgt) (L) (S) (h)) : ab_J l lay M d Q (pc) (L) (ab_I x :: S) (h) := by
  intro p e s m args below meth c dC dI cI cW adr A X H locs ls Y
  exact lv_tableOut X.1 X.2.1 hd hr ht (k p e s m args below meth c dC dI cI cW adr A X H locs ls Y)
theorem ab_tableIn {dflt lo hi : Int} {offs : Array Int} {len : Nat} {x : Int32} {off : Int} (tgt : Nat) (hd : decode M.2.1 pc = .ok (.tableswitch dflt lo hi offs, len)) (h1 : ¬ x.toInt < lo) (h2 : ¬ hi < x.toInt) (ho : offs[(x.toInt - lo).toNat]? = some off) (ht : ((pc : Nat) : Int) + off = (tgt : Int)) (k : ab_J l lay M d Q (tgt) (L) (S) (h)) : ab_J l lay M d Q (pc) (L) (ab_I x :: S) (h) := by
  intro p e s m args below meth c dC dI cI cW adr A X H locs ls Y
  exact lv_tableIn X.1 X.2.1 hd h1 h2 ho ht (k p e s m args below meth c dC dI cI cW adr A X H locs ls Y)
theorem ab_lookup {dflt : Int} {ps : Array (Int × Int)} {len : Nat} {x : Int32} {off : Int} (tgt : Nat) (hd : decode M.2.1 pc = .ok (.lookupswitch dflt ps, len)) (hp : (ps.toList.zip (ps.toList.drop 1)).all (fun (a, next) => a.1 < next.1) = true) (ho : Op.lookupswitch.offset ps.toList dflt x.toInt = off) (ht : ((pc : Nat) : Int) + off = (tgt : Int)) (k : ab_J l lay M d Q (tgt) (L) (S) (h)) : ab_J l lay M d Q (pc) (L) (ab_I x :: S) (h) := by
  intro p e s m args below meth c dC dI cI cW adr A X H locs ls Y
  exact lv_lookup X.1 X.2.1 hd hp ho ht (k p e s m args below meth c dC dI cI cW adr A X H locs ls Y)
theorem ab_geti {idx ci n i : Nat} {fl : List (Option Nat)} (hd : decode M.2.1 pc = .ok (.getfield idx, 3)) (hf : ab_F M.1.cls idx ci n) (he : lay[i]? = some (.inr (.inr (ci, fl)))) (hk : fl[n]? = some none) (k : ab_J l lay M d Q (pc + 3) (L) (ab_I (h i n) :: S) (h)) : ab_J l lay M d Q (pc) (L) (ab_R i :: S) (h) := by
  intro p e s m args below meth c dC dI cI cW adr A X H locs ls Y
  obtain ⟨C, T, N, ty0, hcl, hkN, hin, hty, hnm, hlink⟩ := hf
  exact va_get (D := (dC, dI)) (ci := ci) (v := .int (h i n)) X.1 X.2.1 X.2.2.2.2.2.1 hin X.2.2.2.2.1 X.2.2.2.2.2.2.2.1 Y.1 i (ab_w_at he) hcl n hkN (X.2.2.2.2.2.1 _ hlink) (fun _ h => h) (by rw [List.getElem?_mapIdx, hk]; rfl) hd (k p e s m args below meth c dC dI cI cW adr A X H locs ls Y)
theorem ab_getr {idx ci n i j : Nat} {fl : List (Option Nat)} (hd : decode M.2.1 pc = .ok (.getfield idx, 3)) (hf : ab_F M.1.cls idx ci n) (he : lay[i]? = some (.inr (.inr (ci, fl)))) (hk : fl[n]? = some (some j)) (k : ab_J l lay M d Q (pc + 3) (L) (ab_R j :: S) (h)) : ab_J l lay M d Q (pc) (L) (ab_R i :: S) (h) := by
  intro p e s m args below meth c dC dI cI cW adr A X H locs ls Y
  obtain ⟨C, T, N, ty0, hcl, hkN, hin, hty, hnm, hlink⟩ := hf
  exact va_get (D := (dC, dI)) (ci := ci) (v := .ref (adr j)) X.1 X.2.1 X.2.2.2.2.2.1 hin X.2.2.2.2.1 X.2.2.2.2.2.2.2.1 Y.1 i (ab_w_at he) hcl n hkN (X.2.2.2.2.2.1 _ hlink) (fun _ h => h) (by rw [List.getElem?_mapIdx, hk]; rfl) hd (k p e s m args below meth c dC dI cI cW adr A X H locs ls Y)
theorem ab_puti {idx ci n i : Nat} {x : Int32} {fl : List (Option Nat)} (hd : decode M.2.1 pc = .ok (.putfield idx, 3)) (hf : ab_Fw M.1.cls idx ci n) (he : lay[i]? = some (.inr (.inr (ci, fl)))) (hk : fl[n]? = some none) (k : ab_J l lay M d Q (pc + 3) (L) (S) (ab_up h i n x)) : ab_J l lay M d Q (pc) (L) (ab_I x :: ab_R i :: S) (h) := by
  intro p e s m args below meth c dC dI cI cW adr A X H locs ls Y
  obtain ⟨C, T, N, ty0, hcl, hkN, hin, hty, hnm, hlink, hfin, hdsc⟩ := hf
  have hl : n < (fl.mapIdx (ab_f adr (h i))).length := by rw [List.length_mapIdx]; exact (List.getElem?_eq_some_iff.mp hk).1
  refine va_put (D := (dC, dI)) (ci := ci) (v := .int x) (ty := .int) X.1 X.2.1 X.2.2.2.2.2.1 hin ty0 hty hnm X.2.2.2.2.1 X.2.2.2.2.2.2.2.1 Y.1 (X.2.2.2.2.2.2.2.2.1.to cI cW h) Y.2.1 i (ab_w_at he) hcl n hkN (X.2.2.2.2.2.1 _ hlink) (fun _ h => h) hfin hdsc rfl rfl hl hd (fun H1 locs1 hP1 _ hS1 => ?_)
  rw [ab_f_set hk] at hP1
  exact k p e s m args below meth c dC dI cI cW adr A X H1 locs1 ls ⟨by have h9 := hP1; rw [show (adr i, (Sum.inr (ci, fl.mapIdx (ab_f adr (upd (h i) n x))) : va_E)) = (adr i, ab_e cI cW adr (upd (h i) n x) (.inr (.inr (ci, fl)))) from rfl, ab_w_set he] at h9; exact h9, hS1, Y.2.2⟩
theorem ab_iald {n i : Nat} {x : Int32} (hd : decode M.2.1 pc = .ok (.iaload, 1)) (he : lay[i]? = some (.inl n)) (hin : vp_in x n) (k : ab_J l lay M d Q (pc + 1) (L) (ab_I (h i x.toNatClampNeg) :: S) (h)) : ab_J l lay M d Q (pc) (L) (ab_I x :: ab_R i :: S) (h) := by
  intro p e s m args below meth c dC dI cI cW adr A X H locs ls Y
  exact va_iald (D := (dC, dI)) X.1 X.2.1 X.2.2.2.2.2.2.2.1 Y.1 i 0 (ab_w_at he) rfl hin hd (k p e s m args below meth c dC dI cI cW adr A X H locs ls Y)
theorem ab_iast {n i : Nat} {x y : Int32} (hd : decode M.2.1 pc = .ok (.iastore, 1)) (he : lay[i]? = some (.inl n)) (hin : vp_in x n) (k : ab_J l lay M d Q (pc + 1) (L) (S) (ab_up h i x.toNatClampNeg y)) : ab_J l lay M d Q (pc) (L) (ab_I y :: ab_I x :: ab_R i :: S) (h) := by
  intro p e s m args below meth c dC dI cI cW adr A X H locs ls Y
  refine va_iast (D := (dC, dI)) X.1 X.2.1 X.2.2.2.2.2.2.2.1 Y.1 (X.2.2.2.2.2.2.2.2.1.to cI cW h) Y.2.1 i 0 (ab_w_at he) rfl hin hd (fun H1 locs1 hP1 _ hS1 => ?_)
  exact k p e s m args below meth c dC dI cI cW adr A X H1 locs1 ls ⟨by have h9 := hP1; rw [show (adr i, (Sum.inl (cI, n, .inl (upd (h i) x.toNatClampNeg y)) : va_E)) = (adr i, ab_e cI cW adr (upd (h i) x.toNatClampNeg y) (.inl n)) from rfl, ab_w_set he] at h9; exact h9, hS1, Y.2.2⟩
theorem ab_aald {i j : Nat} {js : List Nat} {x : Int32} (hd : decode M.2.1 pc = .ok (.aaload, 1)) (he : lay[i]? = some (.inr (.inl js))) (hj : js[x.toNatClampNeg]? = some j) (h0 : ¬ x < 0) (k : ab_J l lay M d Q (pc + 1) (L) (ab_R j :: S) (h)) : ab_J l lay M d Q (pc) (L) (ab_I x :: ab_R i :: S) (h) := by
  intro p e s m args below meth c dC dI cI cW adr A X H locs ls Y
  have hin : vp_in x js.length := fun q => q.elim h0 (fun q => absurd (List.getElem?_eq_some_iff.mp hj).1 (Nat.not_lt.mpr q))
  refine va_aldq (D := (dC, dI)) (C := RX2) X.1 X.2.1 X.2.2.2.2.2.2.2.1 Y.1 i 1 (ab_w_at he) rfl hin hd ?_
  rw [show va_rf ((js[x.toNatClampNeg]?).map adr) = .ref (adr j) by rw [hj]; rfl]
  exact k p e s m args below meth c dC dI cI cW adr A X H locs ls Y
end ABR
section ABE
variable {l : Launch} {lay : List ab_E} {M : ab_M} {d : Nat} {Q : Option ab_V → ab_H → Prop} {pc : Nat} {L : List (Nat × ab_V)} {h : ab_H}
theorem ab_end {dC : Nat → ClassId} {dI : Nat → Nat → Nat} {cI cW : ClassId} {adr : Nat → Nat} {A : Nat → Prop} {s : State} {H : Heap} {locs : List Loc} {args : Array Value} (hK : va_K (dC, dI) vwCl (ab_tys cI cW) s) (hP : va_P (dC, dI) vwCl (ab_w lay cI cW adr h) H) (hS : va_S A s.heap H locs) {v : Option ab_V} (hq : Q v h) : ∀ t : State, t.heap = H → s.WarmedH t.vm → ab_Qc lay dC dI cI cW adr A Q args s (.returned (v.map (ab_c adr))) t :=
  fun t ht hW => ⟨⟨v, h, rfl, hq, by rw [ht]; exact hP, va_K.moved hW.alike hK⟩, hS.F ht⟩
theorem ab_reti {x : Int32} (hd : decode M.2.1 pc = .ok (.ireturn, 1)) (hr : M.2.2.2 = some .int) (hq : Q (some (ab_I x)) h) : ab_J l lay M d Q pc L [ab_I x] h := by
  intro p e s m args below meth c dC dI cI cW adr A X H locs ls Y
  exact W.iret X.1 X.2.1 (X.2.2.1.trans hr) (ab_end (v := some (ab_I x)) X.2.2.2.2.2.2.2.1 Y.1 Y.2.1 hq) Y.2.1.2.2 hd X.2.2.2.2.2.2.1
theorem ab_retz {x : Int32} (hd : decode M.2.1 pc = .ok (.ireturn, 1)) (hr : M.2.2.2 = some .boolean) (hx : narrow .boolean (.int x) = .int x) (hq : Q (some (ab_I x)) h) : ab_J l lay M d Q pc L [ab_I x] h := by
  intro p e s m args below meth c dC dI cI cW adr A X H locs ls Y
  exact W.zret X.1 X.2.1 (X.2.2.1.trans hr) hx (ab_end (v := some (ab_I x)) X.2.2.2.2.2.2.2.1 Y.1 Y.2.1 hq) Y.2.1.2.2 hd X.2.2.2.2.2.2.1
theorem ab_retl {x : Int64} (hd : decode M.2.1 pc = .ok (.lreturn, 1)) (hr : M.2.2.2 = some .long) (hq : Q (some (ab_L x)) h) : ab_J l lay M d Q pc L [ab_L x] h := by
  intro p e s m args below meth c dC dI cI cW adr A X H locs ls Y
  exact W.lret X.1 X.2.1 (X.2.2.1.trans hr) (ab_end (v := some (ab_L x)) X.2.2.2.2.2.2.2.1 Y.1 Y.2.1 hq) Y.2.1.2.2 hd X.2.2.2.2.2.2.1
theorem ab_retv (hd : decode M.2.1 pc = .ok (.return_, 1)) (hr : M.2.2.2 = none) (hq : Q none h) : ab_J l lay M d Q pc L [] h := by
  intro p e s m args below meth c dC dI cI cW adr A X H locs ls Y
  exact W.vret X.1 X.2.1 (X.2.2.1.trans hr) (ab_end (v := none) X.2.2.2.2.2.2.2.1 Y.1 Y.2.1 hq) Y.2.1.2.2 hd X.2.2.2.2.2.2.1
end ABE
