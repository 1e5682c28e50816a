/-! the judgement for a body that may throw: K new cells of V slots at the most, cc and cs of them are spent -/
/-- what a throw, and the class's two constant rows, want of the machine -/
def ag_fA : Nat → Int32 := fun k => c_BA (nI k)
def ag_fB : Nat → Int32 := fun k => c_BB (nI k)
def ag_row (n : String) (f : Nat → Int32) (A : Nat → Prop) (U : State) (H : Heap) : Prop := ∃ b : Nat, va_Z "UndoWorks" n "[I" (.ref b) A U H ∧ va_T .int b 24 (fun k => .int (f k)) A U H
def ag_txt (U : State) : Prop := (∃ a, vk_R "UndoWorks" 129 "a number is out of range" a U) ∧ (∃ a, vk_R "UndoWorks" 54 "the node can't stand there" a U) ∧ (∃ a, vk_R "UndoWorks" 74 "a block has no END" a U)
abbrev xI : String := "java/lang/IllegalArgumentException"
abbrev xS : String := "java/lang/IllegalStateException"
abbrev ag_sup : List String := ["java/lang/RuntimeException", "java/lang/Exception"]
/-- the words of a throw that are kept, and are not good ones -/
def ag_ngl : List Cond := [.declares (Bundle.initS "java/lang/RuntimeException"), .declares (Bundle.initS "java/lang/Exception"), .declares (Bundle.initS "java/lang/Throwable"), .castable xI xI, .castable xS xS]
def ag_nw (U : State) : Prop := ∀ w ∈ ag_ngl, va_Nw w U
def ag_X (A : Nat → Prop) (U : State) (H : Heap) : Prop := vx_Zq Bundle.tN "UNASSIGNED_STACK" Bundle.steD A U H ∧ vx_Zq Bundle.tN "SUPPRESSED_SENTINEL" Bundle.listD A U H ∧ ag_txt U ∧ ag_row "BELOW_A" ag_fA A U H ∧ ag_row "BELOW_B" ag_fB A U H ∧ ag_nw U
def ag_XC (lay : List ab_E) (dC : Nat → ClassId) (dI : Nat → Nat → Nat) (cI cW : ClassId) (adr : Nat → Nat) (A : Nat → Prop) (Ex : String → ab_H → Prop) : String → State → State → Prop :=
  vx_X (S := ab_H) (fun _ => True) (fun E h' t => Ex E h' ∧ va_P (dC, dI) vwCl (ab_w lay cI cW adr h') t.heap ∧ va_K (dC, dI) vwCl (ab_tys cI cW) t) A
def ag_rm (d K V : Nat) : Room := { frames := d, cells := K, slots := V, locals := 40 * d }
/-- what a method that may throw answers, throws, and does to its world -/
def ag_C (l : Launch) (lay : List ab_E) (d K V : Nat) (M : ab_M) (As : List ab_V) (h : ab_H) (Q : Option ab_V → ab_H → Prop) (Ex : String → ab_H → Prop) : Prop :=
  ∀ (dC : Nat → ClassId) (dI : Nat → Nat → Nat) (cI cW : ClassId) (adr : Nat → Nat) (sz : Nat),
    vx_Met l M.1 (ab_ws M) (ag_rm d K V) (va_Pc (As.map (ab_c adr)) (fun U => U.heap.size = sz ∧ va_P (dC, dI) vwCl (ab_w lay cI cW adr h) U.heap ∧ va_K (dC, dI) vwCl (ab_tys cI cW) U ∧ ab_D lay adr (fun _ => True) ∧ ag_X (ab_A lay adr sz) U U.heap))
      (ab_Qc lay dC dI cI cW adr (ab_A lay adr sz) Q) (ag_XC lay dC dI cI cW adr (ab_A lay adr sz) Ex) K V (ab_A lay adr sz)
def ag_Z (c : Code) (A : Nat → Prop) (s : State) : Prop := (∀ x ∈ c.exceptionTable.toList, False) ∧ ag_X A s s.heap
def ag_J (l : Launch) (lay : List ab_E) (M : ab_M) (R : Room) (K V : Nat) (Q : Option ab_V → ab_H → Prop) (Ex : String → ab_H → Prop) (cc cs : Nat) (pc : Nat) (L : List (Nat × ab_V)) (S : List ab_V) (h : ab_H) : Prop :=
  ∀ (p : Program) (e : Env) (s : State) (m : MethodId) (args : Array Value) (below : List Frame) (meth : Method) (c : Code) (dC : Nat → ClassId) (dI : Nat → Nat → Nat) (cI cW : ClassId) (adr : Nat → Nat) (A : Nat → Prop),
    ab_Cx lay M p s m args meth c dC dI cI cW adr A → ag_Z c A s → ∀ (H : Heap) (locs : List Loc) (ls : Array Slot), ab_Dy lay M.2.2.1 s dC dI cI cW adr A H locs ls L h →
      W p l e R s m args below meth c H locs cc cs (vx_MQ below (ab_Qc lay dC dI cI cW adr A Q) (ag_XC lay dC dI cI cW adr A Ex) args s K V A) (F0 m pc ls (S.map (ab_c adr)))
theorem ag_enter {l : Launch} {lay : List ab_E} {M : ab_M} {d K V : Nat} {As : List ab_V} {h : ab_H} {Q : Option ab_V → ab_H → Prop} {Ex : String → ab_H → Prop} (hp : plainName M.1.cls = true) (hn : (As.map ab_cat).sum ≤ M.2.2.1)
    (k : ag_J l lay M (ag_rm d K V) K V Q Ex 0 0 0 (ab_args 0 As) [] h) : ag_C l lay d K V M As h Q Ex := by
  intro dC dI cI cW adr sz
  refine vx_ofW (cc := M.2.1) (maxL := M.2.2.1) (ret := M.2.2.2) hp rfl ?_
  intro p e s m args below meth c s₁ B hml ht hv
  obtain ⟨rfl, hsz, hP, hK, hD0, hX0⟩ := hv
  have hts := atoms_spec (ws := ab_ws M) B.pre
  subst hsz
  have hl := lv_entry (As.map (ab_c adr)) (n := M.2.2.1) (by rw [ab_sl_len]; exact hn)
  rw [ab_args_c] at hl
  rw [lg_entry_eq]
  exact k p e s m _ below meth c dC dI cI cW adr (ab_A lay adr s.heap.size) ⟨B.exec, B.bytes, B.returns, hml, findClass_of_methodNamed B.named, fun w h => hts w (List.mem_cons_of_mem _ h), B.notSynchronized, hK, hD0.self _, fun q h => Or.inr h⟩ ⟨ht, hX0⟩ s.heap [] _ ⟨hP, va_S.rf, hl⟩
section AGR
variable {l : Launch} {lay : List ab_E} {M : ab_M} {R : Room} {K V : Nat} {Q : Option ab_V → ab_H → Prop} {Ex : String → ab_H → Prop} {cc cs : Nat} {pc : Nat} {L : List (Nat × ab_V)} {S : List ab_V} {h : ab_H}
theorem ag_weak (L' : List (Nat × ab_V)) (hs : ab_sub L L') (k : ag_J l lay M R K V Q Ex cc cs pc L' S h) : ag_J l lay M R K V Q Ex cc cs pc L S h := by
  intro p e s m args below meth c dC dI cI cW adr A X Z H locs ls Y
  refine k p e s m args below meth c dC dI cI cW adr A X Z H locs ls ⟨Y.1, Y.2.1, Y.2.2.1, Y.2.2.2.1, fun q hq => ?_⟩
  obtain ⟨a, ha, rfl⟩ := List.mem_map.mp hq
  exact Y.2.2.2.2 _ (List.mem_map.mpr ⟨a, ab_sub_mem hs a ha, rfl⟩)
theorem ag_ki {P : Int32 → ab_H → Prop} (kk : ∀ r h', P r h' → ag_J l lay M R K V Q Ex cc cs pc L (ab_I r :: S) h') : ∀ v h', ab_qi P v h' → ag_J l lay M R K V Q Ex cc cs pc L (v.toList ++ S) h' := by
  rintro v h' ⟨r, rfl, hp⟩
  exact kk r h' hp
theorem ag_kl {P : Int64 → ab_H → Prop} (kk : ∀ r h', P r h' → ag_J l lay M R K V Q Ex cc cs pc L (ab_L r :: S) h') : ∀ v h', ab_ql P v h' → ag_J l lay M R K V Q Ex cc cs pc L (v.toList ++ S) h' := by
  rintro v h' ⟨r, rfl, hp⟩
  exact kk r h' hp
theorem ag_kv {P : ab_H → Prop} (kk : ∀ h', P h' → ag_J l lay M R K V Q Ex cc cs pc L S h') : ∀ v h', ab_qv P v h' → ag_J l lay M R K V Q Ex cc cs pc L (v.toList ++ S) h' := by
  rintro v h' ⟨rfl, hp⟩
  exact kk h' hp
theorem ag_iconst {n : Int} {v : Int32} (hd : decode M.2.1 pc = .ok (.iconst n, 1)) (hv : Int32.ofInt n = v) (k : ag_J l lay M R K V Q Ex cc cs (pc + 1) (L) (ab_I v :: S) (h)) : ag_J l lay M R K V Q Ex cc cs (pc) (L) (S) (h) := by
  intro p e s m args below meth c dC dI cI cW adr A X Z H locs ls Y
  exact lv_iconst X.1 X.2.1 hd hv (k p e s m args below meth c dC dI cI cW adr A X Z H locs ls Y)
theorem ag_bipush {n : Int} {v : Int32} (hd : decode M.2.1 pc = .ok (.bipush n, 2)) (hv : (Int8.ofInt n).toInt32 = v) (k : ag_J l lay M R K V Q Ex cc cs (pc + 2) (L) (ab_I v :: S) (h)) : ag_J l lay M R K V Q Ex cc cs (pc) (L) (S) (h) := by
  intro p e s m args below meth c dC dI cI cW adr A X Z H locs ls Y
  exact lv_bipush X.1 X.2.1 hd hv (k p e s m args below meth c dC dI cI cW adr A X Z H locs ls Y)
theorem ag_iload_n {j : Fin 4} {i : Nat} {x : Int32} (hd : decode M.2.1 pc = .ok (.iload_n j, 1)) (hi : (j : Nat) = i) (hl : ab_lk L i = some (ab_I x)) (k : ag_J l lay M R K V Q Ex cc cs (pc + 1) (L) (ab_I x :: S) (h)) : ag_J l lay M R K V Q Ex cc cs (pc) (L) (S) (h) := by
  intro p e s m args below meth c dC dI cI cW adr A X Z H locs ls Y
  exact lv_iload_n X.1 X.2.1 hd hi (ab_lkp Y.2.2 hl) (k p e s m args below meth c dC dI cI cW adr A X Z H locs ls Y)
theorem ag_iload {i : Nat} {x : Int32} (hd : decode M.2.1 pc = .ok (.iload i, 2)) (hl : ab_lk L i = some (ab_I x)) (k : ag_J l lay M R K V Q Ex cc cs (pc + 2) (L) (ab_I x :: S) (h)) : ag_J l lay M R K V Q Ex cc cs (pc) (L) (S) (h) := by
  intro p e s m args below meth c dC dI cI cW adr A X Z H locs ls Y
  exact lv_iload X.1 X.2.1 hd (ab_lkp Y.2.2 hl) (k p e s m args below meth c dC dI cI cW adr A X Z H locs ls Y)
theorem ag_lload_n {j : Fin 4} {i : Nat} {x : Int64} (hd : decode M.2.1 pc = .ok (.lload_n j, 1)) (hi : (j : Nat) = i) (hl : ab_lk L i = some (ab_L x)) (k : ag_J l lay M R K V Q Ex cc cs (pc + 1) (L) (ab_L x :: S) (h)) : ag_J l lay M R K V Q Ex cc cs (pc) (L) (S) (h) := by
  intro p e s m args below meth c dC dI cI cW adr A X Z H locs ls Y
  exact lv_lload_n X.1 X.2.1 hd hi (ab_lkp Y.2.2 hl) (k p e s m args below meth c dC dI cI cW adr A X Z H locs ls Y)
theorem ag_lstore_n {j : Fin 4} {i : Nat} {x : Int64} (hd : decode M.2.1 pc = .ok (.lstore_n j, 1)) (hi : (j : Nat) = i) (hn : Nat.ble (i + 1 + 1) M.2.2.1 = true) (k : ag_J l lay M R K V Q Ex cc cs (pc + 1) (ab_st2 i (ab_L x) L) (S) (h)) : ag_J l lay M R K V Q Ex cc cs (pc) (L) (ab_L x :: S) (h) := by
  intro p e s m args below meth c dC dI cI cW adr A X Z H locs ls Y
  exact lv_lstore_n X.1 X.2.1 hd hi Y.2.2 (Nat.le_of_ble_eq_true hn) (ab_st2_c adr i (ab_L x) L) (fun ls hl => k p e s m args below meth c dC dI cI cW adr A X Z H locs ls ⟨Y.1, Y.2.1, hl⟩)
theorem ag_aload_n {j : Fin 4} {i : Nat} {x : Nat} (hd : decode M.2.1 pc = .ok (.aload_n j, 1)) (hi : (j : Nat) = i) (hl : ab_lk L i = some (ab_R x)) (k : ag_J l lay M R K V Q Ex cc cs (pc + 1) (L) (ab_R x :: S) (h)) : ag_J l lay M R K V Q Ex cc cs (pc) (L) (S) (h) := by
  intro p e s m args below meth c dC dI cI cW adr A X Z H locs ls Y
  exact lv_aload_n X.1 X.2.1 hd hi (ab_lkp Y.2.2 hl) (k p e s m args below meth c dC dI cI cW adr A X Z H locs ls Y)
theorem ag_aload {i : Nat} {x : Nat} (hd : decode M.2.1 pc = .ok (.aload i, 2)) (hl : ab_lk L i = some (ab_R x)) (k : ag_J l lay M R K V Q Ex cc cs (pc + 2) (L) (ab_R x :: S) (h)) : ag_J l lay M R K V Q Ex cc cs (pc) (L) (S) (h) := by
  intro p e s m args below meth c dC dI cI cW adr A X Z H locs ls Y
  exact lv_aload X.1 X.2.1 hd (ab_lkp Y.2.2 hl) (k p e s m args below meth c dC dI cI cW adr A X Z H locs ls Y)
theorem ag_astore_n {j : Fin 4} {i : Nat} {x : Nat} (hd : decode M.2.1 pc = .ok (.astore_n j, 1)) (hi : (j : Nat) = i) (hn : Nat.ble (i + 1) M.2.2.1 = true) (k : ag_J l lay M R K V Q Ex cc cs (pc + 1) (ab_st i (ab_R x) L) (S) (h)) : ag_J l lay M R K V Q Ex cc cs (pc) (L) (ab_R x :: S) (h) := by
  intro p e s m args below meth c dC dI cI cW adr A X Z H locs ls Y
  exact lv_astore_n X.1 X.2.1 hd hi Y.2.2 (Nat.le_of_ble_eq_true hn) (ab_st_c adr i (ab_R x) L) (fun ls hl => k p e s m args below meth c dC dI cI cW adr A X Z H locs ls ⟨Y.1, Y.2.1, hl⟩)
theorem ag_astore {i : Nat} {x : Nat} (hd : decode M.2.1 pc = .ok (.astore i, 2)) (hn : Nat.ble (i + 1) M.2.2.1 = true) (k : ag_J l lay M R K V Q Ex cc cs (pc + 2) (ab_st i (ab_R x) L) (S) (h)) : ag_J l lay M R K V Q Ex cc cs (pc) (L) (ab_R x :: S) (h) := by
  intro p e s m args below meth c dC dI cI cW adr A X Z H locs ls Y
  exact lv_astore X.1 X.2.1 hd Y.2.2 (Nat.le_of_ble_eq_true hn) (ab_st_c adr i (ab_R x) L) (fun ls hl => k p e s m args below meth c dC dI cI cW adr A X Z H locs ls ⟨Y.1, Y.2.1, hl⟩)
theorem ag_iadd {x y : Int32} (hd : decode M.2.1 pc = .ok (.iadd, 1)) (k : ag_J l lay M R K V Q Ex cc cs (pc + 1) (L) (ab_I (x + y) :: S) (h)) : ag_J l lay M R K V Q Ex cc cs (pc) (L) (ab_I y :: ab_I x :: S) (h) := by
  intro p e s m args below meth c dC dI cI cW adr A X Z H locs ls Y
  exact lv_iadd X.1 X.2.1 hd (k p e s m args below meth c dC dI cI cW adr A X Z H locs ls Y)
theorem ag_dup {v : ab_V} (hd : decode M.2.1 pc = .ok (.dup, 1)) (hc : ab_cat v = 1) (k : ag_J l lay M R K V Q Ex cc cs (pc + 1) (L) (v :: v :: S) (h)) : ag_J l lay M R K V Q Ex cc cs (pc) (L) (v :: S) (h) := by
  intro p e s m args below meth c dC dI cI cW adr A X Z H locs ls Y
  exact lv_dup X.1 X.2.1 hd ((ab_cat_c adr v).trans hc) (k p e s m args below meth c dC dI cI cW adr A X Z H locs ls Y)
theorem ag_if_eq {x : Int32} {off : Int} (tgt : Nat) (hd : decode M.2.1 pc = .ok (.ifCond .eq off, 3)) (ht : ((pc : Nat) : Int) + off = (tgt : Int)) (kt : x = 0 → ag_J l lay M R K V Q Ex cc cs (tgt) (L) (S) (h)) (kf : ¬ (x = 0) → ag_J l lay M R K V Q Ex cc cs (pc + 3) (L) (S) (h)) : ag_J l lay M R K V Q Ex cc cs (pc) (L) (ab_I x :: S) (h) := by
  intro p e s m args below meth c dC dI cI cW adr A X Z H locs ls Y
  exact lv_if_eq X.1 X.2.1 hd ht (fun q => kt q p e s m args below meth c dC dI cI cW adr A X Z H locs ls Y) (fun q => kf q p e s m args below meth c dC dI cI cW adr A X Z H locs ls Y)
theorem ag_if_ne {x : Int32} {off : Int} (tgt : Nat) (hd : decode M.2.1 pc = .ok (.ifCond .ne off, 3)) (ht : ((pc : Nat) : Int) + off = (tgt : Int)) (kt : ¬ x = 0 → ag_J l lay M R K V Q Ex cc cs (tgt) (L) (S) (h)) (kf : x = 0 → ag_J l lay M R K V Q Ex cc cs (pc + 3) (L) (S) (h)) : ag_J l lay M R K V Q Ex cc cs (pc) (L) (ab_I x :: S) (h) := by
  intro p e s m args below meth c dC dI cI cW adr A X Z H locs ls Y
  exact lv_if_ne X.1 X.2.1 hd ht (fun q => kt q p e s m args below meth c dC dI cI cW adr A X Z H locs ls Y) (fun q => kf q p e s m args below meth c dC dI cI cW adr A X Z H locs ls Y)
theorem ag_icmp_ne {x y : Int32} {off : Int} (tgt : Nat) (hd : decode M.2.1 pc = .ok (.if_icmp .ne off, 3)) (ht : ((pc : Nat) : Int) + off = (tgt : Int)) (kt : ¬ x = y → ag_J l lay M R K V Q Ex cc cs (tgt) (L) (S) (h)) (kf : x = y → ag_J l lay M R K V Q Ex cc cs (pc + 3) (L) (S) (h)) : ag_J l lay M R K V Q Ex cc cs (pc) (L) (ab_I y :: ab_I x :: S) (h) := by
  intro p e s m args below meth c dC dI cI cW adr A X Z H locs ls Y
  exact lv_icmp_ne X.1 X.2.1 hd ht (fun q => kt q p e s m args below meth c dC dI cI cW adr A X Z H locs ls Y) (fun q => kf q p e s m args below meth c dC dI cI cW adr A X Z H locs ls Y)
theorem ag_if_lt {x : Int32} {off : Int} (tgt : Nat) (hd : decode M.2.1 pc = .ok (.ifCond .lt off, 3)) (ht : ((pc : Nat) : Int) + off = (tgt : Int)) (kt : x < 0 → ag_J l lay M R K V Q Ex cc cs (tgt) (L) (S) (h)) (kf : ¬ (x < 0) → ag_J l lay M R K V Q Ex cc cs (pc + 3) (L) (S) (h)) : ag_J l lay M R K V Q Ex cc cs (pc) (L) (ab_I x :: S) (h) := by
  intro p e s m args below meth c dC dI cI cW adr A X Z H locs ls Y
  exact lv_if_lt X.1 X.2.1 hd ht (fun q => kt q p e s m args below meth c dC dI cI cW adr A X Z H locs ls Y) (fun q => kf q p e s m args below meth c dC dI cI cW adr A X Z H locs ls Y)
theorem ag_icmp_ge {x y : Int32} {off : Int} (tgt : Nat) (hd : decode M.2.1 pc = .ok (.if_icmp .ge off, 3)) (ht : ((pc : Nat) : Int) + off = (tgt : Int)) (kt : y ≤ x → ag_J l lay M R K V Q Ex cc cs (tgt) (L) (S) (h)) (kf : ¬ (y ≤ x) → ag_J l lay M R K V Q Ex cc cs (pc + 3) (L) (S) (h)) : ag_J l lay M R K V Q Ex cc cs (pc) (L) (ab_I y :: ab_I x :: S) (h) := by
  intro p e s m args below meth c dC dI cI cW adr A X Z H locs ls Y
  exact lv_icmp_ge X.1 X.2.1 hd ht (fun q => kt q p e s m args below meth c dC dI cI cW adr A X Z H locs ls Y) (fun q => kf q p e s m args below meth c dC dI cI cW adr A X Z H locs ls Y)
theorem ag_goto {off : Int} (tgt : Nat) (hd : decode M.2.1 pc = .ok (.goto off, 3)) (ht : ((pc : Nat) : Int) + off = (tgt : Int)) (k : ag_J l lay M R K V Q Ex cc cs (tgt) (L) (S) (h)) : ag_J l lay M R K V Q Ex cc cs (pc) (L) (S) (h) := by
  intro p e s m args below meth c dC dI cI cW adr A X Z H locs ls Y
  exact lv_goto X.1 X.2.1 hd ht (k p e s m args below meth c dC dI cI cW adr A X Z H locs ls Y)
theorem ag_geti {idx ci n i : Nat} {fl : List (Option Nat)} (hd : decode M.2.1 pc = .ok (.getfield idx, 3)) (hf : ab_F M.1.cls idx ci n) (he : lay[i]? = some (.inr (.inr (ci, fl)))) (hk : fl[n]? = some none) (k : ag_J l lay M R K V Q Ex cc cs (pc + 3) (L) (ab_I (h i n) :: S) (h)) : ag_J l lay M R K V Q Ex cc cs (pc) (L) (ab_R i :: S) (h) := by
  intro p e s m args below meth c dC dI cI cW adr A X Z H locs ls Y
  obtain ⟨C, T, N, ty0, hcl, hkN, hin, hty, hnm, hlink⟩ := hf
  exact va_get (D := (dC, dI)) (ci := ci) (v := .int (h i n)) X.1 X.2.1 X.2.2.2.2.2.1 hin X.2.2.2.2.1 X.2.2.2.2.2.2.2.1 Y.1 i (ab_w_at he) hcl n hkN (X.2.2.2.2.2.1 _ hlink) (fun _ h => h) (by rw [List.getElem?_mapIdx, hk]; rfl) hd (k p e s m args below meth c dC dI cI cW adr A X Z H locs ls Y)
theorem ag_getr {idx ci n i j : Nat} {fl : List (Option Nat)} (hd : decode M.2.1 pc = .ok (.getfield idx, 3)) (hf : ab_F M.1.cls idx ci n) (he : lay[i]? = some (.inr (.inr (ci, fl)))) (hk : fl[n]? = some (some j)) (k : ag_J l lay M R K V Q Ex cc cs (pc + 3) (L) (ab_R j :: S) (h)) : ag_J l lay M R K V Q Ex cc cs (pc) (L) (ab_R i :: S) (h) := by
  intro p e s m args below meth c dC dI cI cW adr A X Z H locs ls Y
  obtain ⟨C, T, N, ty0, hcl, hkN, hin, hty, hnm, hlink⟩ := hf
  exact va_get (D := (dC, dI)) (ci := ci) (v := .ref (adr j)) X.1 X.2.1 X.2.2.2.2.2.1 hin X.2.2.2.2.1 X.2.2.2.2.2.2.2.1 Y.1 i (ab_w_at he) hcl n hkN (X.2.2.2.2.2.1 _ hlink) (fun _ h => h) (by rw [List.getElem?_mapIdx, hk]; rfl) hd (k p e s m args below meth c dC dI cI cW adr A X Z H locs ls Y)
theorem ag_puti {idx ci n i : Nat} {x : Int32} {fl : List (Option Nat)} (hd : decode M.2.1 pc = .ok (.putfield idx, 3)) (hf : ab_Fw M.1.cls idx ci n) (he : lay[i]? = some (.inr (.inr (ci, fl)))) (hk : fl[n]? = some none) (k : ag_J l lay M R K V Q Ex cc cs (pc + 3) (L) (S) (ab_up h i n x)) : ag_J l lay M R K V Q Ex cc cs (pc) (L) (ab_I x :: ab_R i :: S) (h) := by
  intro p e s m args below meth c dC dI cI cW adr A X Z H locs ls Y
  obtain ⟨C, T, N, ty0, hcl, hkN, hin, hty, hnm, hlink, hfin, hdsc⟩ := hf
  have hl : n < (fl.mapIdx (ab_f adr (h i))).length := by rw [List.length_mapIdx]; exact (List.getElem?_eq_some_iff.mp hk).1
  refine va_put (D := (dC, dI)) (ci := ci) (v := .int x) (ty := .int) X.1 X.2.1 X.2.2.2.2.2.1 hin ty0 hty hnm X.2.2.2.2.1 X.2.2.2.2.2.2.2.1 Y.1 (X.2.2.2.2.2.2.2.2.1.to cI cW h) Y.2.1 i (ab_w_at he) hcl n hkN (X.2.2.2.2.2.1 _ hlink) (fun _ h => h) hfin hdsc rfl rfl hl hd (fun H1 locs1 hP1 _ hS1 => ?_)
  rw [ab_f_set hk] at hP1
  exact k p e s m args below meth c dC dI cI cW adr A X Z H1 locs1 ls ⟨by have h9 := hP1; rw [show (adr i, (Sum.inr (ci, fl.mapIdx (ab_f adr (upd (h i) n x))) : va_E)) = (adr i, ab_e cI cW adr (upd (h i) n x) (.inr (.inr (ci, fl)))) from rfl, ab_w_set he] at h9; exact h9, hS1, Y.2.2⟩
theorem ag_iald {n i : Nat} {x : Int32} (hd : decode M.2.1 pc = .ok (.iaload, 1)) (he : lay[i]? = some (.inl n)) (hin : vp_in x n) (k : ag_J l lay M R K V Q Ex cc cs (pc + 1) (L) (ab_I (h i x.toNatClampNeg) :: S) (h)) : ag_J l lay M R K V Q Ex cc cs (pc) (L) (ab_I x :: ab_R i :: S) (h) := by
  intro p e s m args below meth c dC dI cI cW adr A X Z H locs ls Y
  exact va_iald (D := (dC, dI)) X.1 X.2.1 X.2.2.2.2.2.2.2.1 Y.1 i 0 (ab_w_at he) rfl hin hd (k p e s m args below meth c dC dI cI cW adr A X Z H locs ls Y)
theorem ag_aald {i j : Nat} {js : List Nat} {x : Int32} (hd : decode M.2.1 pc = .ok (.aaload, 1)) (he : lay[i]? = some (.inr (.inl js))) (hj : js[x.toNatClampNeg]? = some j) (h0 : ¬ x < 0) (k : ag_J l lay M R K V Q Ex cc cs (pc + 1) (L) (ab_R j :: S) (h)) : ag_J l lay M R K V Q Ex cc cs (pc) (L) (ab_I x :: ab_R i :: S) (h) := by
  intro p e s m args below meth c dC dI cI cW adr A X Z H locs ls Y
  have hin : vp_in x js.length := fun q => q.elim h0 (fun q => absurd (List.getElem?_eq_some_iff.mp hj).1 (Nat.not_lt.mpr q))
  refine va_aldq (D := (dC, dI)) (C := RX2) X.1 X.2.1 X.2.2.2.2.2.2.2.1 Y.1 i 1 (ab_w_at he) rfl hin hd ?_
  rw [show va_rf ((js[x.toNatClampNeg]?).map adr) = .ref (adr j) by rw [hj]; rfl]
  exact k p e s m args below meth c dC dI cI cW adr A X Z H locs ls Y
theorem ag_widen {k n : Nat} (h1 : cc ≤ k) (h2 : cs ≤ n) (kk : ag_J l lay M R K V Q Ex k n pc L S h) : ag_J l lay M R K V Q Ex cc cs pc L S h := by
  intro p e s m args below meth c dC dI cI cW adr A X Z H locs ls Y
  exact W.widen h1 h2 (kk p e s m args below meth c dC dI cI cW adr A X Z H locs ls Y)
theorem ag_reti {x : Int32} (hc : Nat.ble cc K = true) (hs : Nat.ble cs V = true) (hd : decode M.2.1 pc = .ok (.ireturn, 1)) (hr : M.2.2.2 = some .int) (hq : Q (some (ab_I x)) h) : ag_J l lay M R K V Q Ex cc cs pc L [ab_I x] h := by
  intro p e s m args below meth c dC dI cI cW adr A X Z H locs ls Y
  exact W.widen (Nat.le_of_ble_eq_true hc) (Nat.le_of_ble_eq_true hs) (vx_ret (W.iret X.1 X.2.1 (X.2.2.1.trans hr) (ab_end (v := some (ab_I x)) X.2.2.2.2.2.2.2.1 Y.1 Y.2.1 hq) Y.2.1.2.2 hd X.2.2.2.2.2.2.1))
theorem ag_retv (hc : Nat.ble cc K = true) (hs : Nat.ble cs V = true) (hd : decode M.2.1 pc = .ok (.return_, 1)) (hr : M.2.2.2 = none) (hq : Q none h) : ag_J l lay M R K V Q Ex cc cs pc L [] h := by
  intro p e s m args below meth c dC dI cI cW adr A X Z H locs ls Y
  exact W.widen (Nat.le_of_ble_eq_true hc) (Nat.le_of_ble_eq_true hs) (vx_ret (W.vret X.1 X.2.1 (X.2.2.1.trans hr) (ab_end (v := none) X.2.2.2.2.2.2.2.1 Y.1 Y.2.1 hq) Y.2.1.2.2 hd X.2.2.2.2.2.2.1))
end AGR
