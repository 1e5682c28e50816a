/-! the class's data, workflows and list: what each method answers and does -/
def c_hasPlace (h : ab_H) (p : Int32) : Bool := decide (¬ p < 0) && decide (¬ h 2 2 ≤ p)
def c_note (h : ab_H) (v : Int32) : ab_H := if 100 ≤ h 2 6 then h else ab_up (ab_up h 8 (h 2 6).toNatClampNeg v) 2 6 (h 2 6 + 1)
def c_makeRow (h : ab_H) (n : Int32) : ab_H := ab_up (ab_upA h 5 (m_z (h 5) 16)) 2 2 n
theorem c_mz_s {h : ab_H} {k : Nat} (hk : k < 16) : ab_up (ab_upA h 5 (m_z (h 5) k)) 5 (nI k).toNatClampNeg 0 = ab_upA h 5 (m_z (h 5) (k + 1)) := by
  rw [ab_up_upA, nI_clamp (by omega), m_z_s]
def c_whole (h : ab_H) (w : Nat) : Bool := decide (h (8 * w + 14) 7 = 0)
def c_empty (h : ab_H) (w : Nat) : ab_H := ab_up (ab_up h (8 * w + 14) 7 0) (8 * w + 14) 8 0
def c_latest (h : ab_H) (w : Nat) : Int32 := if h (8 * w + 14) 7 ≤ 0 then -1 else h (8 * w + 15) (h (8 * w + 21) (h (8 * w + 14) 7 - 1).toNatClampNeg).toNatClampNeg
def c_heads (h : ab_H) (w : Nat) : Nat → Int32 := fun j => h (8 * w + 15) (h (8 * w + 20) j).toNatClampNeg
def c_openAt (h : ab_H) (w : Nat) (at_ : Int32) : ab_H := if 10 ≤ h (8 * w + 14) 7 then h else ab_up (ab_up (ab_up h (8 * w + 20) (h (8 * w + 14) 7).toNatClampNeg at_) (8 * w + 21) (h (8 * w + 14) 7).toNatClampNeg at_) (8 * w + 14) 7 (h (8 * w + 14) 7 + 1)
def c_partAt (h : ab_H) (w : Nat) (at_ : Int32) : ab_H := if h (8 * w + 14) 7 ≤ 0 then h else ab_up (ab_up h (8 * w + 18) (h (8 * w + 21) (h (8 * w + 14) 7 - 1).toNatClampNeg).toNatClampNeg at_) (8 * w + 21) (h (8 * w + 14) 7 - 1).toNatClampNeg at_
def c_closeAt (h : ab_H) (w : Nat) (at_ : Int32) : ab_H := if h (8 * w + 14) 7 ≤ 0 then h else ab_up (ab_up (ab_up h (8 * w + 14) 7 (h (8 * w + 14) 7 - 1)) (8 * w + 18) (h (8 * w + 21) (h (8 * w + 14) 7 - 1).toNatClampNeg).toNatClampNeg at_) (8 * w + 19) (h (8 * w + 20) (h (8 * w + 14) 7 - 1).toNatClampNeg).toNatClampNeg at_
def c_leave (h : ab_H) (a : Int32) : ab_H := if a = -1 then ab_up (ab_up h 3 6 a) 3 5 0 else ab_up h 3 6 a
def c_keep (h : ab_H) : ab_H := if h 3 6 = -1 then h else ab_up h 3 5 (h 3 6)
def c_room (h : ab_H) : Bool := decide (¬ h 3 6 = -1) && decide (¬ 60 ≤ h 3 5)
def c_rem (h : ab_H) (s a was : Int32) : ab_H := if c_room h = true then ab_up (ab_up (ab_up (ab_up h 9 (h 3 5).toNatClampNeg s) 10 (h 3 5).toNatClampNeg a) 11 (h 3 5).toNatClampNeg was) 3 5 (h 3 5 + 1) else h
def c_remRow (h : ab_H) : ab_H := if c_room h = true then c_rem (ab_upA h 13 (va_cpy (h 5) (h 13) 0 (h 3 5 * 16).toNatClampNeg 16)) 6 0 (h 2 2) else h
def c_remSlot (h : ab_H) (a : Int32) : ab_H := if c_room h = true then c_rem (ab_up h 12 (h 3 5).toNatClampNeg (h 6 a.toNatClampNeg)) 7 a (h 7 a.toNatClampNeg) else h
set_option maxRecDepth 100000 in
set_option maxHeartbeats 4000000 in
theorem kX0_hasPlace {l : Launch} {d : Nat} {h : ab_H} {p : Int32}  : ab_C l layC (d) mX0_hasPlace [ab_R 2, ab_I p] h (ab_qi fun r h' => r = b2i (c_hasPlace h p) ∧ h' = h) := by
  refine ab_enter (by decide) (Nat.le_of_ble_eq_true rfl) ?_
  refine ab_iload_n (pc := 0) dX0_hasPlace_0 rfl rfl ?_
  refine ab_if_lt (pc := 1) 16 dX0_hasPlace_1 (by decide) (fun c1 => ?_) (fun c1 => ?_)
  · refine ab_iconst (pc := 16) (v := 0) dX0_hasPlace_16 (by decide) ?_
    exact ab_retz (pc := 17) dX0_hasPlace_17 rfl rfl ⟨_, rfl, ⟨by first | (rw [c_hasPlace, decide_eq_false (not_not_intro c1)]; rfl) | (rw [c_hasPlace, decide_eq_true c1, decide_eq_false (not_not_intro c9)]; rfl) | (rw [c_hasPlace, decide_eq_true c1, decide_eq_true c9]; rfl), rfl⟩⟩
  · refine ab_iload_n (pc := 4) dX0_hasPlace_4 rfl rfl ?_
    refine ab_aload_n (pc := 5) dX0_hasPlace_5 rfl rfl ?_
    refine ab_geti (pc := 6) dX0_hasPlace_6 fX0_18 rfl rfl ?_
    refine ab_icmp_ge (pc := 9) 16 dX0_hasPlace_9 (by decide) (fun c9 => ?_) (fun c9 => ?_)
    · refine ab_iconst (pc := 16) (v := 0) dX0_hasPlace_16 (by decide) ?_
      exact ab_retz (pc := 17) dX0_hasPlace_17 rfl rfl ⟨_, rfl, ⟨by first | (rw [c_hasPlace, decide_eq_false (not_not_intro c1)]; rfl) | (rw [c_hasPlace, decide_eq_true c1, decide_eq_false (not_not_intro c9)]; rfl) | (rw [c_hasPlace, decide_eq_true c1, decide_eq_true c9]; rfl), rfl⟩⟩
    · refine ab_iconst (pc := 12) (v := 1) dX0_hasPlace_12 (by decide) ?_
      refine ab_goto (pc := 13) 17 dX0_hasPlace_13 (by decide) ?_
      exact ab_retz (pc := 17) dX0_hasPlace_17 rfl rfl ⟨_, rfl, ⟨by first | (rw [c_hasPlace, decide_eq_false (not_not_intro c1)]; rfl) | (rw [c_hasPlace, decide_eq_true c1, decide_eq_false (not_not_intro c9)]; rfl) | (rw [c_hasPlace, decide_eq_true c1, decide_eq_true c9]; rfl), rfl⟩⟩

set_option maxRecDepth 100000 in
set_option maxHeartbeats 4000000 in
theorem kX0_takeNote {l : Launch} {d : Nat} {h : ab_H} {v : Int32} (hb : ¬ 100 ≤ h 2 6 → vp_in (h 2 6) 100) : ab_C l layC (d) mX0_takeNote [ab_R 2, ab_I v] h (ab_qv fun h' => h' = c_note h v) := by
  refine ab_enter (by decide) (Nat.le_of_ble_eq_true rfl) ?_
  refine ab_aload_n (pc := 0) dX0_takeNote_0 rfl rfl ?_
  refine ab_geti (pc := 1) dX0_takeNote_1 fX0_31 rfl rfl ?_
  refine ab_bipush (pc := 4) (v := 100) dX0_takeNote_4 (by decide) ?_
  refine ab_icmp_ge (pc := 6) 29 dX0_takeNote_6 (by decide) (fun c6 => ?_) (fun c6 => ?_)
  · exact ab_retv (pc := 29) dX0_takeNote_29 rfl ⟨rfl, (by first | rw [c_note, if_pos c6] | rw [c_note, if_neg c6])⟩
  · refine ab_aload_n (pc := 9) dX0_takeNote_9 rfl rfl ?_
    refine ab_getr (pc := 10) dX0_takeNote_10 fX0_28 rfl rfl ?_
    refine ab_aload_n (pc := 13) dX0_takeNote_13 rfl rfl ?_
    refine ab_geti (pc := 14) dX0_takeNote_14 fX0_31 rfl rfl ?_
    refine ab_iload_n (pc := 17) dX0_takeNote_17 rfl rfl ?_
    refine ab_iast (pc := 18) dX0_takeNote_18 rfl (hb c6) ?_
    refine ab_aload_n (pc := 19) dX0_takeNote_19 rfl rfl ?_
    refine ab_dup (pc := 20) dX0_takeNote_20 rfl ?_
    refine ab_geti (pc := 21) dX0_takeNote_21 fX0_31 rfl rfl ?_
    refine ab_topi (by (try simp only [ab_rd, ab_rdA, Nat.reduceEqDiff, reduceIte]); exact rfl) ?_
    refine ab_iconst (pc := 24) (v := 1) dX0_takeNote_24 (by decide) ?_
    refine ab_iadd (pc := 25) dX0_takeNote_25 ?_
    refine ab_puti (pc := 26) dX0_takeNote_26 fwX0_31 rfl rfl ?_
    exact ab_retv (pc := 29) dX0_takeNote_29 rfl ⟨rfl, (by first | rw [c_note, if_pos c6] | rw [c_note, if_neg c6])⟩

set_option maxRecDepth 100000 in
set_option maxHeartbeats 4000000 in
theorem lpX0_makeRow {l : Launch} {d : Nat} {h : ab_H} {v : Int32} {P : ab_H → Prop} (hP : P (c_makeRow h v)) : ∀ (n : Nat) (k : Nat), k ≤ 16 → 16 < k + n → ab_J l layC mX0_makeRow (d) (ab_qv P) 2 [(0, ab_R 2), (1, ab_I v), (2, ab_I (nI k))] [] (ab_upA h 5 (m_z (h 5) k)) := by
  intro n
  induction n with
  | zero =>
    intro k hk hn
    omega
  | succ n ih =>
    intro k hk hn
    refine ab_iload_n (pc := 2) dX0_makeRow_2 rfl rfl ?_
    refine ab_bipush (pc := 3) (v := 16) dX0_makeRow_3 (by decide) ?_
    refine ab_icmp_ge (pc := 5) 21 dX0_makeRow_5 (by decide) (fun c5 => ?_) (fun c5 => ?_)
    · obtain rfl := m_ge16 hk (by assumption)
      refine ab_aload_n (pc := 21) dX0_makeRow_21 rfl rfl ?_
      refine ab_iload_n (pc := 22) dX0_makeRow_22 rfl rfl ?_
      refine ab_puti (pc := 23) dX0_makeRow_23 fwX0_18 rfl rfl ?_
      exact ab_retv (pc := 26) dX0_makeRow_26 rfl ⟨rfl, hP⟩
    · have hk2 := m_lt16 hk (by assumption)
      refine ab_aload_n (pc := 8) dX0_makeRow_8 rfl rfl ?_
      refine ab_getr (pc := 9) dX0_makeRow_9 fX0_15 rfl rfl ?_
      refine ab_iload_n (pc := 12) dX0_makeRow_12 rfl rfl ?_
      refine ab_iconst (pc := 13) (v := 0) dX0_makeRow_13 (by decide) ?_
      refine ab_iast (pc := 14) dX0_makeRow_14 rfl (vp_in_nI hk2 (by omega)) ?_
      refine ab_iinc (pc := 15) (v := 1) dX0_makeRow_15 rfl (by decide) rfl ?_
      refine ab_goto (pc := 18) 2 dX0_makeRow_18 (by decide) ?_
      refine ab_weak [(0, ab_R 2), (1, ab_I v), (2, ab_I (nI k + 1))] ⟨rfl, rfl, rfl, trivial⟩ ?_
      rw [nI_1]
      exact ab_heq (c_mz_s hk2) (ih (k + 1) (by omega) (by omega))

set_option maxRecDepth 100000 in
set_option maxHeartbeats 4000000 in
theorem kX0_makeRow {l : Launch} {d : Nat} {h : ab_H} {v : Int32}  : ab_C l layC (d) mX0_makeRow [ab_R 2, ab_I v] h (ab_qv fun h' => h' = c_makeRow h v) := by
  refine ab_enter (by decide) (Nat.le_of_ble_eq_true rfl) ?_
  refine ab_iconst (pc := 0) (v := 0) dX0_makeRow_0 (by decide) ?_
  refine ab_istore_n (pc := 1) dX0_makeRow_1 rfl rfl ?_
  refine ab_weak [(0, ab_R 2), (1, ab_I v), (2, ab_I (nI 0))] ⟨rfl, rfl, rfl, trivial⟩ ?_
  refine ab_heq ?_ (lpX0_makeRow (h := h) (P := fun h' => h' = c_makeRow h v) rfl 17 0 (by omega) (by omega))
  rw [m_z_0, ab_upA_0]

set_option maxRecDepth 100000 in
set_option maxHeartbeats 4000000 in
theorem kX1_enterScope {l : Launch} {d : Nat} {h : ab_H}  : ab_C l layC (d) mX1_enterScope [ab_R 3] h (ab_qi fun r h' => r = h 3 6 ∧ h' = ab_up h 3 6 (h 3 5)) := by
  refine ab_enter (by decide) (Nat.le_of_ble_eq_true rfl) ?_
  refine ab_aload_n (pc := 0) dX1_enterScope_0 rfl rfl ?_
  refine ab_geti (pc := 1) dX1_enterScope_1 fX1_27 rfl rfl ?_
  refine ab_istore_n (pc := 4) dX1_enterScope_4 rfl rfl ?_
  refine ab_aload_n (pc := 5) dX1_enterScope_5 rfl rfl ?_
  refine ab_aload_n (pc := 6) dX1_enterScope_6 rfl rfl ?_
  refine ab_geti (pc := 7) dX1_enterScope_7 fX1_31 rfl rfl ?_
  refine ab_puti (pc := 10) dX1_enterScope_10 fwX1_27 rfl rfl ?_
  refine ab_iload_n (pc := 13) dX1_enterScope_13 rfl rfl ?_
  exact ab_reti (pc := 14) dX1_enterScope_14 rfl ⟨_, rfl, ⟨rfl, rfl⟩⟩

set_option maxRecDepth 100000 in
set_option maxHeartbeats 4000000 in
theorem kX1_leaveScope {l : Launch} {d : Nat} {h : ab_H} {a : Int32}  : ab_C l layC (d) mX1_leaveScope [ab_R 3, ab_I a] h (ab_qv fun h' => h' = c_leave h a) := by
  refine ab_enter (by decide) (Nat.le_of_ble_eq_true rfl) ?_
  refine ab_aload_n (pc := 0) dX1_leaveScope_0 rfl rfl ?_
  refine ab_iload_n (pc := 1) dX1_leaveScope_1 rfl rfl ?_
  refine ab_puti (pc := 2) dX1_leaveScope_2 fwX1_27 rfl rfl ?_
  refine ab_iload_n (pc := 5) dX1_leaveScope_5 rfl rfl ?_
  refine ab_iconst (pc := 6) (v := (-1)) dX1_leaveScope_6 (by decide) ?_
  refine ab_icmp_ne (pc := 7) 15 dX1_leaveScope_7 (by decide) (fun c7 => ?_) (fun c7 => ?_)
  · exact ab_retv (pc := 15) dX1_leaveScope_15 rfl ⟨rfl, (by first | rw [c_leave, if_pos c7] | rw [c_leave, if_neg c7])⟩
  · refine ab_aload_n (pc := 10) dX1_leaveScope_10 rfl rfl ?_
    refine ab_iconst (pc := 11) (v := 0) dX1_leaveScope_11 (by decide) ?_
    refine ab_puti (pc := 12) dX1_leaveScope_12 fwX1_31 rfl rfl ?_
    exact ab_retv (pc := 15) dX1_leaveScope_15 rfl ⟨rfl, (by first | rw [c_leave, if_pos c7] | rw [c_leave, if_neg c7])⟩

set_option maxRecDepth 100000 in
set_option maxHeartbeats 4000000 in
theorem kX1_keep {l : Launch} {d : Nat} {h : ab_H}  : ab_C l layC (d) mX1_keep [ab_R 3] h (ab_qv fun h' => h' = c_keep h) := by
  refine ab_enter (by decide) (Nat.le_of_ble_eq_true rfl) ?_
  refine ab_aload_n (pc := 0) dX1_keep_0 rfl rfl ?_
  refine ab_geti (pc := 1) dX1_keep_1 fX1_27 rfl rfl ?_
  refine ab_iconst (pc := 4) (v := (-1)) dX1_keep_4 (by decide) ?_
  refine ab_icmp_eq (pc := 5) 16 dX1_keep_5 (by decide) (fun c5 => ?_) (fun c5 => ?_)
  · exact ab_retv (pc := 16) dX1_keep_16 rfl ⟨rfl, (by first | rw [c_keep, if_pos c5] | rw [c_keep, if_neg c5])⟩
  · refine ab_aload_n (pc := 8) dX1_keep_8 rfl rfl ?_
    refine ab_aload_n (pc := 9) dX1_keep_9 rfl rfl ?_
    refine ab_geti (pc := 10) dX1_keep_10 fX1_27 rfl rfl ?_
    refine ab_puti (pc := 13) dX1_keep_13 fwX1_31 rfl rfl ?_
    exact ab_retv (pc := 16) dX1_keep_16 rfl ⟨rfl, (by first | rw [c_keep, if_pos c5] | rw [c_keep, if_neg c5])⟩

set_option maxRecDepth 100000 in
set_option maxHeartbeats 4000000 in
theorem kX1_hasRoom {l : Launch} {d : Nat} {h : ab_H}  : ab_C l layC (d) mX1_hasRoom [ab_R 3] h (ab_qi fun r h' => r = b2i (c_room h) ∧ h' = h) := by
  refine ab_enter (by decide) (Nat.le_of_ble_eq_true rfl) ?_
  refine ab_aload_n (pc := 0) dX1_hasRoom_0 rfl rfl ?_
  refine ab_geti (pc := 1) dX1_hasRoom_1 fX1_27 rfl rfl ?_
  refine ab_iconst (pc := 4) (v := (-1)) dX1_hasRoom_4 (by decide) ?_
  refine ab_icmp_eq (pc := 5) 21 dX1_hasRoom_5 (by decide) (fun c5 => ?_) (fun c5 => ?_)
  · refine ab_iconst (pc := 21) (v := 0) dX1_hasRoom_21 (by decide) ?_
    exact ab_retz (pc := 22) dX1_hasRoom_22 rfl rfl ⟨_, rfl, ⟨by first | (rw [c_room, decide_eq_false (not_not_intro c5)]; rfl) | (rw [c_room, decide_eq_true c5, decide_eq_false (not_not_intro c14)]; rfl) | (rw [c_room, decide_eq_true c5, decide_eq_true c14]; rfl), rfl⟩⟩
  · refine ab_aload_n (pc := 8) dX1_hasRoom_8 rfl rfl ?_
    refine ab_geti (pc := 9) dX1_hasRoom_9 fX1_31 rfl rfl ?_
    refine ab_bipush (pc := 12) (v := 60) dX1_hasRoom_12 (by decide) ?_
    refine ab_icmp_ge (pc := 14) 21 dX1_hasRoom_14 (by decide) (fun c14 => ?_) (fun c14 => ?_)
    · refine ab_iconst (pc := 21) (v := 0) dX1_hasRoom_21 (by decide) ?_
      exact ab_retz (pc := 22) dX1_hasRoom_22 rfl rfl ⟨_, rfl, ⟨by first | (rw [c_room, decide_eq_false (not_not_intro c5)]; rfl) | (rw [c_room, decide_eq_true c5, decide_eq_false (not_not_intro c14)]; rfl) | (rw [c_room, decide_eq_true c5, decide_eq_true c14]; rfl), rfl⟩⟩
    · refine ab_iconst (pc := 17) (v := 1) dX1_hasRoom_17 (by decide) ?_
      refine ab_goto (pc := 18) 22 dX1_hasRoom_18 (by decide) ?_
      exact ab_retz (pc := 22) dX1_hasRoom_22 rfl rfl ⟨_, rfl, ⟨by first | (rw [c_room, decide_eq_false (not_not_intro c5)]; rfl) | (rw [c_room, decide_eq_true c5, decide_eq_false (not_not_intro c14)]; rfl) | (rw [c_room, decide_eq_true c5, decide_eq_true c14]; rfl), rfl⟩⟩

set_option maxRecDepth 100000 in
set_option maxHeartbeats 4000000 in
theorem kX1_remember {l : Launch} {d : Nat} {h : ab_H} {s a was : Int32} (hn : c_room h = true → vp_in (h 3 5) 60) : ab_C l layC (d + 1) mX1_remember [ab_R 3, ab_I s, ab_I a, ab_I was] h (ab_qv fun h' => h' = c_rem h s a was) := by
  refine ab_enter (by decide) (Nat.le_of_ble_eq_true rfl) ?_
  refine ab_aload_n (pc := 0) dX1_remember_0 rfl rfl ?_
  refine ab_V0 (pc := 1) dX1_remember_1 mvX1_34 rfl rfl (kX1_hasRoom) (ab_ki fun r1 h1 e1 => ?_)
  obtain ⟨rfl, rfl⟩ := And.intro e1.1.symm e1.2.symm
  refine ab_if_eq (pc := 4) 47 dX1_remember_4 (by decide) (fun c4 => ?_) (fun c4 => ?_)
  · replace c4 := b2i_0.mp c4
    exact ab_retv (pc := 47) dX1_remember_47 rfl ⟨rfl, (by first | rw [c_rem, if_pos c4] | rw [c_rem, if_neg (ne_true_of_eq_false c4)])⟩
  · replace c4 := b2i_1.mp c4
    refine ab_aload_n (pc := 7) dX1_remember_7 rfl rfl ?_
    refine ab_getr (pc := 8) dX1_remember_8 fX1_11 rfl rfl ?_
    refine ab_aload_n (pc := 11) dX1_remember_11 rfl rfl ?_
    refine ab_geti (pc := 12) dX1_remember_12 fX1_31 rfl rfl ?_
    refine ab_topi (by (try simp only [ab_rd, ab_rdA, Nat.reduceEqDiff, reduceIte]); exact rfl) ?_
    refine ab_iload_n (pc := 15) dX1_remember_15 rfl rfl ?_
    refine ab_iast (pc := 16) dX1_remember_16 rfl (hn c4) ?_
    refine ab_aload_n (pc := 17) dX1_remember_17 rfl rfl ?_
    refine ab_getr (pc := 18) dX1_remember_18 fX1_15 rfl rfl ?_
    refine ab_aload_n (pc := 21) dX1_remember_21 rfl rfl ?_
    refine ab_geti (pc := 22) dX1_remember_22 fX1_31 rfl rfl ?_
    refine ab_topi (by (try simp only [ab_rd, ab_rdA, Nat.reduceEqDiff, reduceIte]); exact rfl) ?_
    refine ab_iload_n (pc := 25) dX1_remember_25 rfl rfl ?_
    refine ab_iast (pc := 26) dX1_remember_26 rfl (hn c4) ?_
    refine ab_aload_n (pc := 27) dX1_remember_27 rfl rfl ?_
    refine ab_getr (pc := 28) dX1_remember_28 fX1_18 rfl rfl ?_
    refine ab_aload_n (pc := 31) dX1_remember_31 rfl rfl ?_
    refine ab_geti (pc := 32) dX1_remember_32 fX1_31 rfl rfl ?_
    refine ab_topi (by (try simp only [ab_rd, ab_rdA, Nat.reduceEqDiff, reduceIte]); exact rfl) ?_
    refine ab_iload_n (pc := 35) dX1_remember_35 rfl rfl ?_
    refine ab_iast (pc := 36) dX1_remember_36 rfl (hn c4) ?_
    refine ab_aload_n (pc := 37) dX1_remember_37 rfl rfl ?_
    refine ab_dup (pc := 38) dX1_remember_38 rfl ?_
    refine ab_geti (pc := 39) dX1_remember_39 fX1_31 rfl rfl ?_
    refine ab_topi (by (try simp only [ab_rd, ab_rdA, Nat.reduceEqDiff, reduceIte]); exact rfl) ?_
    refine ab_iconst (pc := 42) (v := 1) dX1_remember_42 (by decide) ?_
    refine ab_iadd (pc := 43) dX1_remember_43 ?_
    refine ab_puti (pc := 44) dX1_remember_44 fwX1_31 rfl rfl ?_
    exact ab_retv (pc := 47) dX1_remember_47 rfl ⟨rfl, (by first | rw [c_rem, if_pos c4] | rw [c_rem, if_neg (ne_true_of_eq_false c4)])⟩

theorem c_16 {x : Int32} {u : Nat} (hu : x = nI u) : x * 16 = nI (u * 16) := by
  rw [hu, show (16 : Int32) = nI 16 from rfl, pk_mul]
theorem c_in16 {x : Int32} {u : Nat} (hu : x = nI u) (hu2 : u < 60) : ¬ x * 16 < 0 ∧ (x * 16).toNatClampNeg + (16 : Int32).toNatClampNeg ≤ 960 := by
  rw [c_16 hu]
  refine ⟨nI_pos (by omega), ?_⟩
  rw [nI_clamp (by omega)]
  show u * 16 + 16 ≤ 960
  omega
theorem c_room_u {h : ab_H} {u : Nat} (hu : h 3 5 = nI u) (hu2 : u ≤ 60) (c : c_room h = true) : u < 60 := by
  simp only [c_room, Bool.and_eq_true, decide_eq_true_eq] at c
  have h2 : ¬ nI 60 ≤ nI u := by rw [← hu]; exact c.2
  rw [nI_leI (by omega) (by omega)] at h2
  omega
set_option maxRecDepth 100000 in
set_option maxHeartbeats 4000000 in
theorem kX1_rememberRow {l : Launch} {d : Nat} {h : ab_H} {u : Nat} (hu : h 3 5 = nI u) (hu2 : u ≤ 60) : ab_C l layC (d + 2) mX1_rememberRow [ab_R 3, ab_R 2] h (ab_qv fun h' => h' = c_remRow h) := by
  refine ab_enter (by decide) (Nat.le_of_ble_eq_true rfl) ?_
  refine ab_aload_n (pc := 0) dX1_rememberRow_0 rfl rfl ?_
  refine ab_V0 (pc := 1) dX1_rememberRow_1 mvX1_34 rfl rfl (kX1_hasRoom) (ab_ki fun r1 h1 e1 => ?_)
  obtain ⟨rfl, rfl⟩ := And.intro e1.1.symm e1.2.symm
  refine ab_if_eq (pc := 4) 39 dX1_rememberRow_4 (by decide) (fun c4 => ?_) (fun c4 => ?_)
  · replace c4 := b2i_0.mp c4
    exact ab_retv (pc := 39) dX1_rememberRow_39 rfl ⟨rfl, (by first | (rw [c_remRow, if_pos c4]; rfl) | rw [c_remRow, if_neg (ne_true_of_eq_false c4)])⟩
  · replace c4 := b2i_1.mp c4
    have hu3 := c_room_u hu hu2 c4
    have hin : vp_in (h 3 5) 60 := by rw [hu]; exact vp_in_nI hu3 (by omega)
    refine ab_aload_n (pc := 7) dX1_rememberRow_7 rfl rfl ?_
    refine ab_getr (pc := 8) dX1_rememberRow_8 fX1_38 rfl rfl ?_
    refine ab_iconst (pc := 11) (v := 0) dX1_rememberRow_11 (by decide) ?_
    refine ab_aload_n (pc := 12) dX1_rememberRow_12 rfl rfl ?_
    refine ab_getr (pc := 13) dX1_rememberRow_13 fX1_24 rfl rfl ?_
    refine ab_aload_n (pc := 16) dX1_rememberRow_16 rfl rfl ?_
    refine ab_geti (pc := 17) dX1_rememberRow_17 fX1_31 rfl rfl ?_
    refine ab_topi (by (try simp only [ab_rd, ab_rdA, Nat.reduceEqDiff, reduceIte]); exact rfl) ?_
    refine ab_bipush (pc := 20) (v := 16) dX1_rememberRow_20 (by decide) ?_
    refine ab_imul (pc := 22) dX1_rememberRow_22 ?_
    refine ab_bipush (pc := 23) (v := 16) dX1_rememberRow_23 (by decide) ?_
    refine ab_copy (pc := 25) dX1_rememberRow_25 (by decide +kernel) (by decide +kernel) (by decide +kernel) (by decide +kernel) rfl rfl rfl (by decide) (c_in16 hu hu3).1 (by decide) (by decide) (c_in16 hu hu3).2 ?_
    refine ab_aload_n (pc := 28) dX1_rememberRow_28 rfl rfl ?_
    refine ab_bipush (pc := 29) (v := 6) dX1_rememberRow_29 (by decide) ?_
    refine ab_iconst (pc := 31) (v := 0) dX1_rememberRow_31 (by decide) ?_
    refine ab_aload_n (pc := 32) dX1_rememberRow_32 rfl rfl ?_
    refine ab_geti (pc := 33) dX1_rememberRow_33 fX1_49 rfl rfl ?_
    refine ab_topi (by (try simp only [ab_rd, ab_rdA, Nat.reduceEqDiff, reduceIte]); exact rfl) ?_
    refine ab_V3 (pc := 36) dX1_rememberRow_36 mvX1_52 rfl rfl (kX1_remember (fun _ => hin)) (ab_kv fun h36 e36 => ?_)
    obtain rfl := e36.symm
    exact ab_retv (pc := 39) dX1_rememberRow_39 rfl ⟨rfl, (by first | (rw [c_remRow, if_pos c4]; rfl) | rw [c_remRow, if_neg (ne_true_of_eq_false c4)])⟩

set_option maxRecDepth 100000 in
set_option maxHeartbeats 4000000 in
theorem kX1_rememberSlot {l : Launch} {d : Nat} {h : ab_H} {u : Nat} {a : Int32} (hu : h 3 5 = nI u) (hu2 : u ≤ 60) (ha : vp_in a 4) : ab_C l layC (d + 2) mX1_rememberSlot [ab_R 3, ab_I a, ab_R 2] h (ab_qv fun h' => h' = c_remSlot h a) := by
  refine ab_enter (by decide) (Nat.le_of_ble_eq_true rfl) ?_
  refine ab_aload_n (pc := 0) dX1_rememberSlot_0 rfl rfl ?_
  refine ab_V0 (pc := 1) dX1_rememberSlot_1 mvX1_34 rfl rfl (kX1_hasRoom) (ab_ki fun r1 h1 e1 => ?_)
  obtain ⟨rfl, rfl⟩ := And.intro e1.1.symm e1.2.symm
  refine ab_if_eq (pc := 4) 35 dX1_rememberSlot_4 (by decide) (fun c4 => ?_) (fun c4 => ?_)
  · replace c4 := b2i_0.mp c4
    exact ab_retv (pc := 35) dX1_rememberSlot_35 rfl ⟨rfl, (by first | rw [c_remSlot, if_pos c4] | rw [c_remSlot, if_neg (ne_true_of_eq_false c4)])⟩
  · replace c4 := b2i_1.mp c4
    have hu3 := c_room_u hu hu2 c4
    have hin : vp_in (h 3 5) 60 := by rw [hu]; exact vp_in_nI hu3 (by omega)
    refine ab_aload_n (pc := 7) dX1_rememberSlot_7 rfl rfl ?_
    refine ab_getr (pc := 8) dX1_rememberSlot_8 fX1_21 rfl rfl ?_
    refine ab_aload_n (pc := 11) dX1_rememberSlot_11 rfl rfl ?_
    refine ab_geti (pc := 12) dX1_rememberSlot_12 fX1_31 rfl rfl ?_
    refine ab_topi (by (try simp only [ab_rd, ab_rdA, Nat.reduceEqDiff, reduceIte]); exact rfl) ?_
    refine ab_aload_n (pc := 15) dX1_rememberSlot_15 rfl rfl ?_
    refine ab_getr (pc := 16) dX1_rememberSlot_16 fX1_56 rfl rfl ?_
    refine ab_iload_n (pc := 19) dX1_rememberSlot_19 rfl rfl ?_
    refine ab_iald (pc := 20) dX1_rememberSlot_20 rfl ha ?_
    refine ab_topi (by (try simp only [ab_rd, ab_rdA, Nat.reduceEqDiff, reduceIte]); exact rfl) ?_
    refine ab_iast (pc := 21) dX1_rememberSlot_21 rfl hin ?_
    refine ab_aload_n (pc := 22) dX1_rememberSlot_22 rfl rfl ?_
    refine ab_bipush (pc := 23) (v := 7) dX1_rememberSlot_23 (by decide) ?_
    refine ab_iload_n (pc := 25) dX1_rememberSlot_25 rfl rfl ?_
    refine ab_aload_n (pc := 26) dX1_rememberSlot_26 rfl rfl ?_
    refine ab_getr (pc := 27) dX1_rememberSlot_27 fX1_59 rfl rfl ?_
    refine ab_iload_n (pc := 30) dX1_rememberSlot_30 rfl rfl ?_
    refine ab_iald (pc := 31) dX1_rememberSlot_31 rfl ha ?_
    refine ab_topi (by (try simp only [ab_rd, ab_rdA, Nat.reduceEqDiff, reduceIte]); exact rfl) ?_
    refine ab_V3 (pc := 32) dX1_rememberSlot_32 mvX1_52 rfl rfl (kX1_remember (fun _ => hin)) (ab_kv fun h32 e32 => ?_)
    obtain rfl := e32.symm
    exact ab_retv (pc := 35) dX1_rememberSlot_35 rfl ⟨rfl, (by first | rw [c_remSlot, if_pos c4] | rw [c_remSlot, if_neg (ne_true_of_eq_false c4)])⟩
