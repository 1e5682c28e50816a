/-! the class's way through blocks, as functions of what doPart does -/
abbrev c_R : Type := Int32 × Int32 × ab_H
abbrev c_PT : Type := ab_H → Nat → Int32 → Int32 → c_R
def c_pay (h : ab_H) : ab_H := ab_up h 0 3 (h 0 3 + 1)
def c_tryF (P : c_PT) (r : c_R) (w : Nat) (p deep : Int32) : c_R := if r.2.2 (8 * w + 15) p.toNatClampNeg = 12 then (if r.1 = 5 then r else if (P r.2.2 w p deep).1 = 0 then (r.1, r.2.1, (P r.2.2 w p deep).2.2) else P r.2.2 w p deep) else r
def c_tryC (P : c_PT) (r : c_R) (w : Nat) (at_ p deep : Int32) : c_R := if r.1 = 4 then (if ((r.2.2 (8 * w + 17) at_.toNatClampNeg >>> (r.2.1 &&& 31)) &&& 1) = 1 then P (ab_up r.2.2 4 7 r.2.1) w p deep else r) else r
def c_try (P : c_PT) (h : ab_H) (w : Nat) (at_ deep : Int32) : c_R :=
  if (P h w at_ deep).2.2 (8 * w + 15) ((P h w at_ deep).2.2 (8 * w + 18) at_.toNatClampNeg).toNatClampNeg = 11
  then c_tryF P (c_tryC P (P h w at_ deep) w at_ ((P h w at_ deep).2.2 (8 * w + 18) at_.toNatClampNeg) deep) w
    ((c_tryC P (P h w at_ deep) w at_ ((P h w at_ deep).2.2 (8 * w + 18) at_.toNatClampNeg) deep).2.2 (8 * w + 18) ((P h w at_ deep).2.2 (8 * w + 18) at_.toNatClampNeg).toNatClampNeg) deep
  else c_tryF P (P h w at_ deep) w ((P h w at_ deep).2.2 (8 * w + 18) at_.toNatClampNeg) deep
def c_loop (P : c_PT) (w : Nat) (at_ deep : Int32) : Nat → Int32 → ab_H → c_R
  | 0, _, h => (0, 0, h)
  | m + 1, r, h => if h (8 * w + 17) at_.toNatClampNeg ≤ r then (0, 0, h) else if h 0 3 < 60 then
      (if (P (c_pay h) w at_ deep).1 = 1 ∨ (P (c_pay h) w at_ deep).1 = 2 then
        (if (P (c_pay h) w at_ deep).2.1 ≤ 0 then (if (P (c_pay h) w at_ deep).1 = 1 then (0, 0, (P (c_pay h) w at_ deep).2.2) else c_loop P w at_ deep m (r + 1) (P (c_pay h) w at_ deep).2.2)
         else ((P (c_pay h) w at_ deep).1, (P (c_pay h) w at_ deep).2.1 - 1, (P (c_pay h) w at_ deep).2.2))
      else if (P (c_pay h) w at_ deep).1 = 0 then c_loop P w at_ deep m (r + 1) (P (c_pay h) w at_ deep).2.2 else P (c_pay h) w at_ deep)
    else (5, 0, h)
def c_undoS (h : ab_H) : ab_H := ab_up (c_ua (h 3 6).toNatClampNeg ((h 3 5).toNatClampNeg - (h 3 6).toNatClampNeg) h) 3 5 (h 3 6)
def c_scope (P : c_PT) (h : ab_H) (w : Nat) (at_ deep : Int32) : c_R :=
  ((P (ab_up h 3 6 (h 3 5)) w at_ deep).1, (P (ab_up h 3 6 (h 3 5)) w at_ deep).2.1, c_leave (if (P (ab_up h 3 6 (h 3 5)) w at_ deep).1 = 4 then c_undoS (P (ab_up h 3 6 (h 3 5)) w at_ deep).2.2 else (P (ab_up h 3 6 (h 3 5)) w at_ deep).2.2) (h 3 6))
def c_mute (P : c_PT) (h : ab_H) (w : Nat) (at_ deep : Int32) : c_R := if (P h w at_ deep).1 = 5 then P h w at_ deep else (0, 0, (P h w at_ deep).2.2)
def c_if (P : c_PT) (h : ab_H) (w : Nat) (at_ deep : Int32) : c_R := if h 4 (h (8 * w + 16) at_.toNatClampNeg).toNatClampNeg = 0 then
    (if h (8 * w + 15) (h (8 * w + 18) at_.toNatClampNeg).toNatClampNeg = 22 then P h w (h (8 * w + 18) at_.toNatClampNeg) deep else (0, 0, h)) else P h w at_ deep
def c_call (P : c_PT) (h : ab_H) (a b deep : Int32) : c_R := if c_whole h b.toNatClampNeg = true then (if deep < 6 then
    (if (P h b.toNatClampNeg (-1) (deep + 1)).1 = 4 ∨ (P h b.toNatClampNeg (-1) (deep + 1)).1 = 5 then P h b.toNatClampNeg (-1) (deep + 1)
     else (0, 0, ab_up (P h b.toNatClampNeg (-1) (deep + 1)).2.2 4 a.toNatClampNeg (if (P h b.toNatClampNeg (-1) (deep + 1)).1 = 3 then (P h b.toNatClampNeg (-1) (deep + 1)).2.1 else 0)))
    else (4, 7, h)) else (4, 7, h)
def c_nodeS (P : c_PT) (h : ab_H) (w : Nat) (at_ deep s a b : Int32) : c_R :=
  if s = 9 then (4, b, h) else if s = 10 then c_try P h w at_ deep else if s = 13 then c_loop P w at_ deep 11 0 h else if s = 14 then c_scope P h w at_ deep else if s = 15 then c_mute P h w at_ deep
  else if s = 17 then (1, b, h) else if s = 18 then (2, b, h) else if s = 19 then (3, h 4 a.toNatClampNeg, h) else if s = 20 then c_call P h a b deep else if s = 21 then c_if P h w at_ deep
  else (c_stepK h s a b, c_stepN h s a b, c_step h s a b)
def c_node (P : c_PT) (h : ab_H) (w : Nat) (at_ deep : Int32) : c_R :=
  if h 0 3 < 60 then c_nodeS P (c_pay h) w at_ deep (h (8 * w + 15) at_.toNatClampNeg) (h (8 * w + 16) at_.toNatClampNeg) (h (8 * w + 17) at_.toNatClampNeg) else (5, 0, h)
def c_max (x y : Int32) : Int32 := if x < y then y else x
def c_partL (P : c_PT) (w : Nat) (deep e : Int32) : Nat → Int32 → ab_H → c_R
  | 0, _, h => (0, 0, h)
  | m + 1, i, h => if e ≤ i then (0, 0, h) else if (c_node P h w i deep).1 = 0 then c_partL P w deep e m (c_max i ((c_node P h w i deep).2.2 (8 * w + 19) i.toNatClampNeg) + 1) (c_node P h w i deep).2.2 else c_node P h w i deep
def c_part (P : c_PT) (h : ab_H) (w : Nat) (part deep : Int32) : c_R := c_partL P w deep (if part = -1 then h (8 * w + 14) 8 else h (8 * w + 18) part.toNatClampNeg) 61 (part + 1) h
/-- doPart, where the run may still pay for n NODES or rounds -/
def cP : Nat → c_PT
  | 0 => c_part (fun h _ _ _ => (5, 0, h))
  | n + 1 => c_part (cP n)
/-- what stays: the workflows' rows -/
def c_nok (s a b : Int32) : Prop := (s = 0 ∨ s = 1 ∨ s = 2 ∨ s = 3 ∨ s = 4 ∨ s = 5 ∨ s = 6 ∨ s = 19 ∨ s = 20 ∨ s = 21 → vp_in a 8) ∧ (s = 3 ∨ s = 4 ∨ s = 5 ∨ s = 20 → vp_in b 8) ∧ (s = 7 ∨ s = 8 → vp_in a 4) ∧ (s = 13 → ¬ b < 0 ∧ ¬ 9 < b) ∧ (s = 9 ∨ s = 17 ∨ s = 18 → ¬ b < 0 ∧ ¬ 9 < b)
def c_stat (h : ab_H) : Prop := ∀ w, w < 8 → (∃ z, z ≤ 60 ∧ h (8 * w + 14) 8 = nI z) ∧ ∀ i, i < 60 → c_nok (h (8 * w + 15) i) (h (8 * w + 16) i) (h (8 * w + 17) i) ∧ vp_in (h (8 * w + 18) i) 60 ∧ vp_in (h (8 * w + 19) i) 60
def c_undoI (h : ab_H) (u : Nat) : Prop := u ≤ 60 ∧ h 3 5 = nI u ∧ c_uok h u ∧ ((h 3 6 = -1 ∧ u = 0) ∨ ∃ mk, mk ≤ u ∧ h 3 6 = nI mk)
def c_dyn (h : ab_H) : Prop := (∃ g, g ≤ 100 ∧ h 2 6 = nI g) ∧ c_pok h ∧ ∃ u, c_undoI h u
def c_inv (h : ab_H) : Prop := c_stat h ∧ c_dyn h
def c_cost (n : Nat) (h : ab_H) : Prop := ∃ c, c ≤ 60 ∧ h 0 3 = nI c ∧ 60 ≤ c + n
def c_pre (n : Nat) (h : ab_H) (w : Nat) (part : Int32) : Prop := c_inv h ∧ w < 8 ∧ (part = -1 ∨ vp_in part 60) ∧ c_cost n h
def c_post (n : Nat) (h : ab_H) (x : c_R) : Prop := c_inv x.2.2 ∧ c_kw x.1 ∧ (x.1 = 0 → x.2.1 = 0) ∧ (∀ i, 14 ≤ i → x.2.2 i = h i) ∧ x.2.2 3 6 = h 3 6 ∧ c_cost n x.2.2
/-- the contract of doPart, and what holds behind it -/
def c_KP (l : Launch) (D n : Nat) (P : c_PT) : Prop := ∀ (h : ab_H) (w : Nat) (part deep : Int32), c_pre n h w part → ab_C l layC D mX3_doPart [ab_R 0, ab_R (8 * w + 14), ab_I part, ab_I deep] h (ab_ql fun r h' => r = c_way (P h w part deep).1 (P h w part deep).2.1 ∧ h' = (P h w part deep).2.2)
def c_IP (n : Nat) (P : c_PT) : Prop := ∀ (h : ab_H) (w : Nat) (part deep : Int32), c_pre n h w part → c_post n h (P h w part deep)
