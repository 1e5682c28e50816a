/-! the class's constructor -/
abbrev cn_host : String := "UndoWorks"
def cn_nest (U : State) : Prop := va_Nw (.methodLinkNest RX3 15 yX2_init cn_host) U ∧ va_Nw (.methodLinkNest RX3 18 yX0_init cn_host) U ∧ va_Nw (.methodLinkNest RX3 25 yX1_init cn_host) U ∧ va_AO RX2 U
theorem cn_nest.go {s U : State} (h : cn_nest s) (hW : s.WarmedH U.vm) : cn_nest U := ⟨va_Nw.warmM hW h.1, va_Nw.warmM hW h.2.1, va_Nw.warmM hW h.2.2.1, va_AO.moved hW.alike h.2.2.2⟩
theorem cN2 : cn_N RX3 RX2 9 2 9 cn_f2 := ⟨TX2, tyX2, rfl, ab_in2, tyX2_ok, by decide +kernel, by decide +kernel, by decide +kernel, by decide +kernel⟩
theorem cN0 : cn_N RX3 RX0 16 0 7 cn_f0 := ⟨TX0, tyX0, rfl, ab_in0, tyX0_ok, by decide +kernel, by decide +kernel, by decide +kernel, by decide +kernel⟩
theorem cN1 : cn_N RX3 RX1 23 1 9 cn_f1 := ⟨TX1, tyX1, rfl, ab_in1, tyX1_ok, by decide +kernel, by decide +kernel, by decide +kernel, by decide +kernel⟩
theorem cM2 : cn_M yX2_init cX2_init 1 := ⟨⟨by decide +kernel, by decide +kernel, by decide +kernel⟩, rfl, by decide +kernel, by decide +kernel, by decide +kernel⟩
theorem cM0 : cn_M yX0_init cX0_init 1 := ⟨⟨by decide +kernel, by decide +kernel, by decide +kernel⟩, rfl, by decide +kernel, by decide +kernel, by decide +kernel⟩
theorem cM1 : cn_M yX1_init cX1_init 1 := ⟨⟨by decide +kernel, by decide +kernel, by decide +kernel⟩, rfl, by decide +kernel, by decide +kernel, by decide +kernel⟩
theorem cF3_11 : cn_F RX3 11 3 0 true "[LUndoWorks$Workflow;" := ⟨RX3, TX3, 6, tyX3, rfl, by decide, ab_in3, tyX3_ok, nmX3, by decide +kernel, rfl, rfl, rfl⟩
theorem cF3_19 : cn_F RX3 19 3 1 true "LUndoWorks$Data;" := ⟨RX3, TX3, 6, tyX3, rfl, by decide, ab_in3, tyX3_ok, nmX3, by decide +kernel, rfl, rfl, rfl⟩
theorem cF3_26 : cn_F RX3 26 3 2 true "LUndoWorks$UndoList;" := ⟨RX3, TX3, 6, tyX3, rfl, by decide, ab_in3, tyX3_ok, nmX3, by decide +kernel, rfl, rfl, rfl⟩
theorem cO3 : Cond.methodLink RX3 1 objectInit ∈ ab_all := by decide +kernel
theorem cL3_9 : Cond.classLink RX3 9 RX2 ∈ ab_all := by decide +kernel
/-- the workflows made so far -/
def cn_fl (cI : ClassId) (a : Nat → Nat) : Nat → va_W
  | 0 => []
  | w + 1 => cn_fl cI a w ++ cn_w2 cI (a (8 * w)) (fun j => a (8 * w + 1 + j))
theorem cn_fl_eq {cI : ClassId} {a b : Nat → Nat} : ∀ w, (∀ j, j < 8 * w → b j = a j) → cn_fl cI b w = cn_fl cI a w
  | 0, _ => rfl
  | w + 1, h => by
    rw [cn_fl, cn_fl, cn_fl_eq w fun j hj => h j (by omega)]
    congr 1
    have e0 := h (8 * w) (by omega)
    have e1 := h (8 * w + 1 + 0) (by omega)
    have e2 := h (8 * w + 1 + 1) (by omega)
    have e3 := h (8 * w + 1 + 2) (by omega)
    have e4 := h (8 * w + 1 + 3) (by omega)
    have e5 := h (8 * w + 1 + 4) (by omega)
    have e6 := h (8 * w + 1 + 5) (by omega)
    have e7 := h (8 * w + 1 + 6) (by omega)
    simp only [cn_w2, e0, e1, e2, e3, e4, e5, e6, e7]
def cn_fw (a : Nat → Nat) (w : Nat) : Nat → Option Nat := fun k => if k < w then some (a (8 * k)) else none
abbrev cn_rw (cW : ClassId) (aw : Nat) (f : Nat → Option Nat) : Nat × va_E := (aw, .inl (cW, 8, .inr (.inr (.inr (.inr f)))))
abbrev cn_x (o aw : Nat) : Nat × va_E := (o, .inr (3, [.ref aw, .null, .null, .int 0, .int 0, .int 0]))
abbrev cn_f3 : List Value := [.null, .null, .null, .int 0, .int 0, .int 0]
/-- what the class's cells hold at first -/
def c_h0 : ab_H := fun i => match i with
  | 2 => fun k => if k = 2 then 8 else 0
  | 3 => fun k => if k = 6 then -1 else 0
  | _ => fun _ => 0
def cn_adr (o aw dq uq : Nat) (d u a : Nat → Nat) : Nat → Nat := fun i => match i with
  | 0 => o
  | 1 => aw
  | 2 => dq
  | 3 => uq
  | 4 => d 0
  | 5 => d 1
  | 6 => d 2
  | 7 => d 3
  | 8 => d 4
  | 9 => u 0
  | 10 => u 1
  | 11 => u 2
  | 12 => u 3
  | 13 => u 4
  | n + 14 => a n
def cn_Q3 (D : va_G) (cI cW : ClassId) (lay : List ab_E) (h0 : ab_H) (o : Nat) (A : Nat → Prop) : Array Value → State → Outcome → State → Prop := fun _ st oc t => (∃ adr : Nat → Nat, oc = .returned none ∧ va_P D vwCl (ab_w lay cI cW adr h0) t.heap ∧ ab_D lay adr A ∧ adr 0 = o ∧ va_K D vwCl (ab_tys cI cW) t) ∧ va_F A st t
theorem va_K.oneW {D : va_G} {s : State} {cA cB : ClassId} {C : String} {tys : List (ClassId × FieldType)} {i : Nat} (hK : va_K D vwCl (tys ++ [(cA, .object C)]) s) (hi : tys[i]? = some (cB, .object C)) : cA = cB := by
  obtain ⟨_, _, _, _, _, h1⟩ := (hK.2 tys.length (cA, .object C) (by simp)).2
  obtain ⟨_, _, _, _, _, h2⟩ := (hK.2 i (cB, .object C) (by rw [List.getElem?_append_left (List.getElem?_eq_some_iff.mp hi).1]; exact hi)).2
  exact Option.some.inj (h1.symm.trans h2)
theorem cn_fl_len {cI : ClassId} {a : Nat → Nat} : ∀ n, (cn_fl cI a n).length = 8 * n
  | 0 => rfl
  | n + 1 => by
    rw [cn_fl, List.length_append, cn_fl_len n]
    show 8 * n + 8 = 8 * (n + 1)
    omega
theorem cn_fl_at {cI : ClassId} {a : Nat → Nat} {w j : Nat} (hj : j < 8) : ∀ n, w < n → (cn_fl cI a n)[8 * w + j]? = (cn_w2 cI (a (8 * w)) (fun j => a (8 * w + 1 + j)))[j]?
  | 0, h => absurd h (by omega)
  | n + 1, h => by
    rw [cn_fl]
    by_cases e : w = n
    · subst e
      rw [List.getElem?_append_right (by rw [cn_fl_len]; omega), cn_fl_len]
      congr 1
      omega
    · rw [List.getElem?_append_left (by rw [cn_fl_len]; omega)]
      exact cn_fl_at hj n (by omega)
/-- where a cell of the layout lies in the order of making -/
def cn_pos (i : Nat) : Nat := if i < 2 then i else if i = 2 then 66 else if i = 3 then 72 else if i < 9 then i + 63 else if i < 14 then i + 64 else i - 12
theorem cn_pos_inj {i j : Nat} (hi : i < 78) (hj : j < 78) (e : cn_pos i = cn_pos j) : i = j := by
  unfold cn_pos at e
  repeat' split at e
  all_goals omega
section CF
variable {cI cW : ClassId} {o aw dq uq : Nat} {d u a : Nat → Nat}
def cn_all (cI cW : ClassId) (o aw dq uq : Nat) (d u a : Nat → Nat) : va_W := (o, .inr (3, [.ref aw, .ref dq, .ref uq, .int 0, .int 0, .int 0])) :: (cn_rw cW aw (cn_fw a 8) :: (cn_fl cI a 8 ++ (cn_w0 cI dq d ++ cn_w1 cI uq u)))
theorem cn_hi (k : Nat) : (cn_all cI cW o aw dq uq d u a)[66 + k]? = (cn_w0 cI dq d ++ cn_w1 cI uq u)[k]? := by
  unfold cn_all
  rw [show 66 + k = (64 + k) + 1 + 1 by omega, List.getElem?_cons_succ, List.getElem?_cons_succ, List.getElem?_append_right (by rw [cn_fl_len]; omega), cn_fl_len]
  congr 1
  omega
theorem cn_lo {w j : Nat} (hw : w < 8) (hj : j < 8) : (cn_all cI cW o aw dq uq d u a)[8 * w + j + 2]? = (cn_w2 cI (a (8 * w)) (fun j => a (8 * w + 1 + j)))[j]? := by
  unfold cn_all
  rw [List.getElem?_cons_succ, List.getElem?_cons_succ, List.getElem?_append_left (by rw [cn_fl_len]; omega)]
  exact cn_fl_at hj 8 hw
theorem cn_hf : cn_fw a 8 = fun k => (([14, 22, 30, 38, 46, 54, 62, 70] : List Nat)[k]?).map (cn_adr o aw dq uq d u a) := by
  funext k
  match k with
  | 0 => rfl
  | 1 => rfl
  | 2 => rfl
  | 3 => rfl
  | 4 => rfl
  | 5 => rfl
  | 6 => rfl
  | 7 => rfl
  | k + 8 =>
    unfold cn_fw
    rw [if_neg (by omega)]
    rfl
def cn_is (cI cW : ClassId) (o aw dq uq : Nat) (d u a : Nat → Nat) (i : Nat) : Prop := ∃ en, layC[i]? = some en ∧ (cn_all cI cW o aw dq uq d u a)[cn_pos i]? = some (cn_adr o aw dq uq d u a i, ab_e cI cW (cn_adr o aw dq uq d u a) (c_h0 i) en)
theorem cn_is_w {w : Nat} (hw : w < 8) : ∀ j, j < 8 → cn_is cI cW o aw dq uq d u a (8 * w + 14 + j) := fun j hj => by
  have hp : cn_pos (8 * w + 14 + j) = 8 * w + j + 2 := by
    unfold cn_pos
    rw [if_neg (by omega), if_neg (by omega), if_neg (by omega), if_neg (by omega), if_neg (by omega)]
    omega
  unfold cn_is
  rw [hp, cn_lo hw hj]
  match j, hj with
  | 0, _ => exact ⟨_, layC_o w hw, rfl⟩
  | 1, _ => exact ⟨_, layC_1 w hw, rfl⟩
  | 2, _ => exact ⟨_, layC_2 w hw, rfl⟩
  | 3, _ => exact ⟨_, layC_3 w hw, rfl⟩
  | 4, _ => exact ⟨_, layC_4 w hw, rfl⟩
  | 5, _ => exact ⟨_, layC_5 w hw, rfl⟩
  | 6, _ => exact ⟨_, layC_6 w hw, rfl⟩
  | 7, _ => exact ⟨_, layC_7 w hw, rfl⟩
  | j + 8, h => exact absurd h (by omega)
theorem cn_is_all {i : Nat} (hi : i < 78) : cn_is cI cW o aw dq uq d u a i := by
  by_cases h14 : 14 ≤ i
  · have := cn_is_w (cI := cI) (cW := cW) (o := o) (aw := aw) (dq := dq) (uq := uq) (d := d) (u := u) (a := a) (w := (i - 14) / 8) (by omega) ((i - 14) % 8) (by omega)
    rw [show 8 * ((i - 14) / 8) + 14 + (i - 14) % 8 = i by omega] at this
    exact this
  · match i, h14 with
    | 0, _ => exact ⟨_, rfl, rfl⟩
    | 1, _ => exact ⟨_, rfl, by show (cn_all cI cW o aw dq uq d u a)[1]? = _; unfold cn_all; rw [cn_hf (o := o) (aw := aw) (dq := dq) (uq := uq) (d := d) (u := u)]; rfl⟩
    | 2, _ => exact ⟨_, rfl, (cn_hi 0).trans rfl⟩
    | 3, _ => exact ⟨_, rfl, (cn_hi 6).trans rfl⟩
    | 4, _ => exact ⟨_, rfl, (cn_hi 1).trans rfl⟩
    | 5, _ => exact ⟨_, rfl, (cn_hi 2).trans rfl⟩
    | 6, _ => exact ⟨_, rfl, (cn_hi 3).trans rfl⟩
    | 7, _ => exact ⟨_, rfl, (cn_hi 4).trans rfl⟩
    | 8, _ => exact ⟨_, rfl, (cn_hi 5).trans rfl⟩
    | 9, _ => exact ⟨_, rfl, (cn_hi 7).trans rfl⟩
    | 10, _ => exact ⟨_, rfl, (cn_hi 8).trans rfl⟩
    | 11, _ => exact ⟨_, rfl, (cn_hi 9).trans rfl⟩
    | 12, _ => exact ⟨_, rfl, (cn_hi 10).trans rfl⟩
    | 13, _ => exact ⟨_, rfl, (cn_hi 11).trans rfl⟩
    | i + 14, h => exact absurd (by omega) h
theorem layC_len : layC.length = 78 := rfl
theorem cn_fin {D : va_G} {H : Heap} (hP : va_P D vwCl (cn_all cI cW o aw dq uq d u a) H) : va_P D vwCl (ab_w layC cI cW (cn_adr o aw dq uq d u a) c_h0) H := fun k q hq => by
  obtain ⟨k1, -⟩ := ab_w_in hq
  rw [layC_len] at k1
  obtain ⟨en, e1, e2⟩ := cn_is_all (cI := cI) (cW := cW) (o := o) (aw := aw) (dq := dq) (uq := uq) (d := d) (u := u) (a := a) k1
  rw [ab_w_at e1] at hq
  cases hq
  exact hP _ _ e2
theorem cn_finD {A : Nat → Prop} (hD : va_D A (cn_all cI cW o aw dq uq d u a)) : ab_D layC (cn_adr o aw dq uq d u a) A := by
  refine ⟨fun i j hi hj e => ?_, fun i hi => ?_⟩
  · rw [layC_len] at hi hj
    obtain ⟨en, -, e2⟩ := cn_is_all (cI := cI) (cW := cW) (o := o) (aw := aw) (dq := dq) (uq := uq) (d := d) (u := u) (a := a) hi
    obtain ⟨en', -, e3⟩ := cn_is_all (cI := cI) (cW := cW) (o := o) (aw := aw) (dq := dq) (uq := uq) (d := d) (u := u) (a := a) hj
    exact cn_pos_inj hi hj (hD.1 _ _ _ _ e2 e3 e)
  · rw [layC_len] at hi
    obtain ⟨en, -, e2⟩ := cn_is_all (cI := cI) (cW := cW) (o := o) (aw := aw) (dq := dq) (uq := uq) (d := d) (u := u) (a := a) hi
    exact hD.2 _ _ e2
end CF
