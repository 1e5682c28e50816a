/-! switches: one goal for each value -/
def ab_tw (l : Launch) (lay : List ab_E) (M : ab_M) (d : Nat) (Q : Option ab_V → ab_H → Prop) (pc : Nat) (L : List (Nat × ab_V)) (S : List ab_V) (h : ab_H) (x : Int32) (dflt : Int) : Int → List Int → Prop
  | _, [] => ab_J l lay M d Q ((pc : Int) + dflt).toNat L S h
  | v, o :: r => (x = Int32.ofInt v → ab_J l lay M d Q ((pc : Int) + o).toNat L S h) ∧ (¬ x = Int32.ofInt v → ab_tw l lay M d Q pc L S h x dflt (v + 1) r)
def ab_lw (l : Launch) (lay : List ab_E) (M : ab_M) (d : Nat) (Q : Option ab_V → ab_H → Prop) (pc : Nat) (L : List (Nat × ab_V)) (S : List ab_V) (h : ab_H) (x : Int32) (dflt : Int) : List (Int × Int) → Prop
  | [] => ab_J l lay M d Q ((pc : Int) + dflt).toNat L S h
  | o :: r => (x = Int32.ofInt o.1 → ab_J l lay M d Q ((pc : Int) + o.2).toNat L S h) ∧ (¬ x = Int32.ofInt o.1 → ab_lw l lay M d Q pc L S h x dflt r)
section ABT
variable {l : Launch} {lay : List ab_E} {M : ab_M} {d : Nat} {Q : Option ab_V → ab_H → Prop} {pc : Nat} {L : List (Nat × ab_V)} {S : List ab_V} {h : ab_H}
theorem ab_i32 {x : Int32} {v : Int} (h1 : -2147483648 ≤ v) (h2 : v < 2147483648) : x = Int32.ofInt v ↔ x.toInt = v := by
  constructor
  · intro e
    rw [e]
    exact Int32.toInt_ofInt_of_le (by omega) (by omega)
  · intro e
    apply Int32.toInt_inj.mp
    rw [e]
    exact (Int32.toInt_ofInt_of_le (by omega) (by omega)).symm
theorem ab_table {dflt lo hi : Int} {offs : Array Int} {len : Nat} {x : Int32} (hd : decode M.2.1 pc = .ok (.tableswitch dflt lo hi offs, len)) (hr : hi + 1 = lo + offs.toList.length) (hlo : -2147483648 ≤ lo) (hhi : hi < 2147483648) (hj : ((dflt :: offs.toList).all fun o => decide (0 ≤ (pc : Int) + o)) = true)
    (k : ab_tw l lay M d Q pc L S h x dflt lo offs.toList) : ab_J l lay M d Q pc L (ab_I x :: S) h := by
  have hj2 : ∀ o ∈ dflt :: offs.toList, 0 ≤ (pc : Int) + o := fun o ho => of_decide_eq_true (List.all_eq_true.mp hj o ho)
  have key : ∀ (r pre : List Int), offs.toList = pre ++ r → (∀ j : Nat, j < pre.length → ¬ x.toInt = lo + j) → ab_tw l lay M d Q pc L S h x dflt (lo + pre.length) r → ab_J l lay M d Q pc L (ab_I x :: S) h := by
    intro r
    induction r with
    | nil =>
      intro pre e hn k
      rw [List.append_nil] at e
      refine ab_tableOut (tgt := ((pc : Int) + dflt).toNat) hd ?_ ?_ k
      · rw [e] at hr
        by_cases h1 : x.toInt < lo
        · exact Or.inl h1
        · refine Or.inr ?_
          by_cases h2 : hi < x.toInt
          · exact h2
          · have := hn (x.toInt - lo).toNat (by omega)
            omega
      · rw [Int.toNat_of_nonneg (hj2 dflt List.mem_cons_self)]
    | cons o r ih =>
      intro pre e hn k
      have hlen : offs.toList.length = pre.length + (r.length + 1) := by rw [e]; simp
      by_cases hx : x = Int32.ofInt (lo + pre.length)
      · have hx2 : x.toInt = lo + pre.length := (ab_i32 (by omega) (by omega)).mp hx
        refine ab_tableIn (tgt := ((pc : Int) + o).toNat) (off := o) hd (by omega) (by omega) ?_ ?_ (k.1 hx)
        · have e2 : (x.toInt - lo).toNat = pre.length := by omega
          rw [e2, ← Array.getElem?_toList, e]
          simp
        · rw [Int.toNat_of_nonneg (hj2 o (List.mem_cons_of_mem _ (by rw [e]; simp)))]
      · refine ih (pre ++ [o]) (by rw [e]; simp) (fun j hj => ?_) ?_
        · rw [List.length_append, List.length_singleton] at hj
          rcases Nat.lt_or_ge j pre.length with h1 | h1
          · exact hn j h1
          · have : j = pre.length := by omega
            subst this
            exact fun q => hx ((ab_i32 (by omega) (by omega)).mpr q)
        · have := k.2 hx
          rw [List.length_append, List.length_singleton]
          rw [show lo + ((pre.length + 1 : Nat) : Int) = lo + pre.length + 1 by omega]
          exact this
  exact key offs.toList [] rfl (fun j hj => absurd hj (Nat.not_lt_zero _)) (by rw [List.length_nil]; rw [show lo + ((0 : Nat) : Int) = lo by omega]; exact k)
theorem ab_look {dflt : Int} {ps : Array (Int × Int)} {len : Nat} {x : Int32} (hd : decode M.2.1 pc = .ok (.lookupswitch dflt ps, len)) (hp : (ps.toList.zip (ps.toList.drop 1)).all (fun (a, next) => a.1 < next.1) = true) (hr : (ps.toList.all fun o => decide (-2147483648 ≤ o.1) && decide (o.1 < 2147483648)) = true) (hj : ((dflt :: ps.toList.map (·.2)).all fun o => decide (0 ≤ (pc : Int) + o)) = true)
    (k : ab_lw l lay M d Q pc L S h x dflt ps.toList) : ab_J l lay M d Q pc L (ab_I x :: S) h := by
  have hj2 : ∀ o ∈ dflt :: ps.toList.map (·.2), 0 ≤ (pc : Int) + o := fun o ho => of_decide_eq_true (List.all_eq_true.mp hj o ho)
  have hr2 : ∀ o ∈ ps.toList, -2147483648 ≤ o.1 ∧ o.1 < 2147483648 := fun o ho => by
    have := List.all_eq_true.mp hr o ho
    simpa using this
  have key : ∀ (r : List (Int × Int)), (∀ o ∈ r, o ∈ ps.toList) → Op.lookupswitch.offset ps.toList dflt x.toInt = Op.lookupswitch.offset r dflt x.toInt → ab_lw l lay M d Q pc L S h x dflt r → ab_J l lay M d Q pc L (ab_I x :: S) h := by
    intro r
    induction r with
    | nil =>
      intro _ e k
      refine ab_lookup (tgt := ((pc : Int) + dflt).toNat) (off := dflt) hd hp (e.trans rfl) ?_ k
      rw [Int.toNat_of_nonneg (hj2 dflt List.mem_cons_self)]
    | cons o r ih =>
      intro hm e k
      have ho := hm o List.mem_cons_self
      by_cases hx : x = Int32.ofInt o.1
      · have hx2 : x.toInt = o.1 := (ab_i32 (hr2 o ho).1 (hr2 o ho).2).mp hx
        refine ab_lookup (tgt := ((pc : Int) + o.2).toNat) (off := o.2) hd hp ?_ ?_ (k.1 hx)
        · rw [e, show o = (o.1, o.2) from rfl, Op.lookupswitch.offset_cons, if_pos hx2.symm]
        · rw [Int.toNat_of_nonneg (hj2 o.2 (List.mem_cons_of_mem _ (List.mem_map.mpr ⟨o, ho, rfl⟩)))]
      · refine ih (fun q hq => hm q (List.mem_cons_of_mem _ hq)) ?_ (k.2 hx)
        rw [e, show o = (o.1, o.2) from rfl, Op.lookupswitch.offset_cons, if_neg]
        exact fun q => hx ((ab_i32 (hr2 o ho).1 (hr2 o ho).2).mpr q.symm)
  exact key ps.toList (fun o ho => ho) rfl k
end ABT
section ABT2
variable {l : Launch} {lay : List ab_E} {M : ab_M} {d : Nat} {Q : Option ab_V → ab_H → Prop} {pc : Nat} {L : List (Nat × ab_V)} {S : List ab_V} {h : ab_H} {x : Int32} {dflt : Int}
theorem ab_tw_c {v o : Int} {r : List Int} (c : Int32) (tgt : Nat) (hc : Int32.ofInt v = c) (ht : ((pc : Int) + o).toNat = tgt) (a : x = c → ab_J l lay M d Q tgt L S h) (b : ¬ x = c → ab_tw l lay M d Q pc L S h x dflt (v + 1) r) : ab_tw l lay M d Q pc L S h x dflt v (o :: r) := by
  subst hc
  subst ht
  exact ⟨a, b⟩
theorem ab_tw_n {v : Int} (tgt : Nat) (ht : ((pc : Int) + dflt).toNat = tgt) (a : ab_J l lay M d Q tgt L S h) : ab_tw l lay M d Q pc L S h x dflt v [] := by
  subst ht
  exact a
theorem ab_lw_c {v o : Int} {r : List (Int × Int)} (c : Int32) (tgt : Nat) (hc : Int32.ofInt v = c) (ht : ((pc : Int) + o).toNat = tgt) (a : x = c → ab_J l lay M d Q tgt L S h) (b : ¬ x = c → ab_lw l lay M d Q pc L S h x dflt r) : ab_lw l lay M d Q pc L S h x dflt ((v, o) :: r) := by
  subst hc
  subst ht
  exact ⟨a, b⟩
theorem ab_lw_n (tgt : Nat) (ht : ((pc : Int) + dflt).toNat = tgt) (a : ab_J l lay M d Q tgt L S h) : ab_lw l lay M d Q pc L S h x dflt [] := by
  subst ht
  exact a
end ABT2
/-- the reference's world: its object, and its 25 arrays -/
abbrev layM : List ab_E := [.inr (.inr (4, [none, some 1, some 2, some 3, some 4, some 5, some 6, none, some 7, some 8, some 9, some 10, some 11, none, some 12, none, none, none, none, none, none, none, none, none, some 13, some 14, some 15, some 16, none, some 17, none, some 18, some 19, some 20, some 21, some 22, some 23, some 24, some 25, none, none, none, none])),
  .inl 480, .inl 480, .inl 480, .inl 8, .inl 8, .inl 16, .inl 4, .inl 80, .inl 80, .inl 4, .inl 4, .inl 100, .inl 70, .inl 70, .inl 70, .inl 1120, .inl 70, .inl 80, .inl 80, .inl 80, .inl 80, .inl 80, .inl 80, .inl 80, .inl 80]
abbrev ab_wf (w : Nat) : List ab_E := [.inr (.inr (2, [some (8 * w + 15), some (8 * w + 16), some (8 * w + 17), some (8 * w + 18), some (8 * w + 19), some (8 * w + 20), some (8 * w + 21), none, none])), .inl 60, .inl 60, .inl 60, .inl 60, .inl 60, .inl 10, .inl 10]
/-- the class's world: its object, its row of workflows, its data, its list, their arrays, the workflows -/
abbrev layC : List ab_E := [.inr (.inr (3, [some 1, some 2, some 3, none, none, none])), .inr (.inl [14, 22, 30, 38, 46, 54, 62, 70]), .inr (.inr (0, [some 4, some 5, none, some 6, some 7, some 8, none])), .inr (.inr (1, [some 9, some 10, some 11, some 12, some 13, none, none, none, none])),
  .inl 8, .inl 16, .inl 4, .inl 4, .inl 100, .inl 60, .inl 60, .inl 60, .inl 60, .inl 960] ++ (ab_wf 0 ++ (ab_wf 1 ++ (ab_wf 2 ++ (ab_wf 3 ++ (ab_wf 4 ++ (ab_wf 5 ++ (ab_wf 6 ++ ab_wf 7)))))))
theorem ab_8 {P : Nat → Prop} (h0 : P 0) (h1 : P 1) (h2 : P 2) (h3 : P 3) (h4 : P 4) (h5 : P 5) (h6 : P 6) (h7 : P 7) : ∀ w, w < 8 → P w
  | 0, _ => h0
  | 1, _ => h1
  | 2, _ => h2
  | 3, _ => h3
  | 4, _ => h4
  | 5, _ => h5
  | 6, _ => h6
  | 7, _ => h7
  | w + 8, h => absurd h (by omega)
theorem layC_o : ∀ w, w < 8 → layC[8 * w + 14]? = some (.inr (.inr (2, [some (8 * w + 15), some (8 * w + 16), some (8 * w + 17), some (8 * w + 18), some (8 * w + 19), some (8 * w + 20), some (8 * w + 21), none, none]))) := ab_8 rfl rfl rfl rfl rfl rfl rfl rfl
theorem layC_1 : ∀ w, w < 8 → layC[8 * w + 15]? = some (.inl 60) := ab_8 rfl rfl rfl rfl rfl rfl rfl rfl
theorem layC_2 : ∀ w, w < 8 → layC[8 * w + 16]? = some (.inl 60) := ab_8 rfl rfl rfl rfl rfl rfl rfl rfl
theorem layC_3 : ∀ w, w < 8 → layC[8 * w + 17]? = some (.inl 60) := ab_8 rfl rfl rfl rfl rfl rfl rfl rfl
theorem layC_4 : ∀ w, w < 8 → layC[8 * w + 18]? = some (.inl 60) := ab_8 rfl rfl rfl rfl rfl rfl rfl rfl
theorem layC_5 : ∀ w, w < 8 → layC[8 * w + 19]? = some (.inl 60) := ab_8 rfl rfl rfl rfl rfl rfl rfl rfl
theorem layC_6 : ∀ w, w < 8 → layC[8 * w + 20]? = some (.inl 10) := ab_8 rfl rfl rfl rfl rfl rfl rfl rfl
theorem layC_7 : ∀ w, w < 8 → layC[8 * w + 21]? = some (.inl 10) := ab_8 rfl rfl rfl rfl rfl rfl rfl rfl
