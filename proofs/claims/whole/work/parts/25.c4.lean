/-! the class's plain steps -/
def c_below (v m : Int32) : Bool := decide (m = 0) || (decide (¬ v < 0) && decide (¬ m ≤ v))
def c_add (h : ab_H) (a b : Int32) : ab_H := ab_up (c_rem h 1 a b) 4 a.toNatClampNeg (c_rem h 1 a b 4 a.toNatClampNeg + b)
def c_set (h : ab_H) (a b : Int32) : ab_H := ab_up (c_rem h 2 a (h 4 a.toNatClampNeg)) 4 a.toNatClampNeg b
def c_div (h : ab_H) (a b : Int32) : ab_H := if h 4 b.toNatClampNeg = 0 then h else ab_up (c_rem h 3 a (h 4 a.toNatClampNeg)) 4 a.toNatClampNeg (c_rem h 3 a (h 4 a.toNatClampNeg) 4 a.toNatClampNeg / h 4 b.toNatClampNeg)
def c_read (h : ab_H) (a b : Int32) : ab_H := if c_hasPlace h (h 4 b.toNatClampNeg) = true then ab_up h 4 a.toNatClampNeg (h 5 (h 4 b.toNatClampNeg).toNatClampNeg) else h
def c_write (h : ab_H) (a b : Int32) : ab_H := if c_hasPlace h (h 4 a.toNatClampNeg) = true then ab_up (c_rem h 5 (h 4 a.toNatClampNeg) (h 5 (h 4 a.toNatClampNeg).toNatClampNeg)) 5 (h 4 a.toNatClampNeg).toNatClampNeg (c_rem h 5 (h 4 a.toNatClampNeg) (h 5 (h 4 a.toNatClampNeg).toNatClampNeg) 4 b.toNatClampNeg) else h
def c_make (h : ab_H) (n : Int32) : ab_H := if 0 ≤ n then (if n ≤ 16 then c_makeRow (c_remRow h) n else h) else h
def c_hold (h : ab_H) (a b : Int32) : ab_H := ab_up (ab_up (c_remSlot h a) 6 a.toNatClampNeg b) 7 a.toNatClampNeg 0
def c_use (h : ab_H) (a : Int32) : ab_H := if h 6 a.toNatClampNeg = 0 then h else if h 6 a.toNatClampNeg = 2 then h else c_note (ab_up h 7 a.toNatClampNeg (h 7 a.toNatClampNeg + 1)) (h 7 a.toNatClampNeg + 1)
/-- how a step ends: 0 or 4 -/
def c_stepK (h : ab_H) (s a b : Int32) : Int32 := if s = 3 then (if h 4 b.toNatClampNeg = 0 then 4 else 0) else if s = 4 then (if c_hasPlace h (h 4 b.toNatClampNeg) = true then 0 else 4) else if s = 5 then (if c_hasPlace h (h 4 a.toNatClampNeg) = true then 0 else 4)
  else if s = 6 then (if 0 ≤ h 4 a.toNatClampNeg then (if h 4 a.toNatClampNeg ≤ 16 then 0 else 4) else 4) else if s = 8 then (if h 6 a.toNatClampNeg = 0 then 4 else if h 6 a.toNatClampNeg = 2 then 4 else 0) else 0
def c_stepN (h : ab_H) (s a b : Int32) : Int32 := if s = 3 then (if h 4 b.toNatClampNeg = 0 then 1 else 0) else if s = 4 then (if c_hasPlace h (h 4 b.toNatClampNeg) = true then 0 else 2) else if s = 5 then (if c_hasPlace h (h 4 a.toNatClampNeg) = true then 0 else 2)
  else if s = 6 then (if 0 ≤ h 4 a.toNatClampNeg then (if h 4 a.toNatClampNeg ≤ 16 then 0 else 4) else 3) else if s = 8 then (if h 6 a.toNatClampNeg = 0 then 5 else if h 6 a.toNatClampNeg = 2 then 6 else 0) else 0
def c_step (h : ab_H) (s a b : Int32) : ab_H := if s = 0 then c_note h (h 4 a.toNatClampNeg) else if s = 1 then c_add h a b else if s = 2 then c_set h a b else if s = 3 then c_div h a b else if s = 4 then c_read h a b else if s = 5 then c_write h a b
  else if s = 6 then c_make h (h 4 a.toNatClampNeg) else if s = 7 then c_hold h a b else if s = 8 then c_use h a else if s = 23 then c_keep h else h
def c_ans (k n : Int32) : Int32 := if k = 3 then 1 else if k = 4 then 2 + n else if k = 5 then -1 else 0
set_option maxRecDepth 100000 in
set_option maxHeartbeats 4000000 in
theorem kX3_isBelow {l : Launch} {d : Nat} {h : ab_H} {v m : Int32}  : ab_C l layC (d) mX3_isBelow [ab_I v, ab_I m] h (ab_qi fun r h' => r = b2i (c_below v m) ∧ h' = h) := by
  refine ab_enter (by decide) (Nat.le_of_ble_eq_true rfl) ?_
  refine ab_iload_n (pc := 0) dX3_isBelow_0 rfl rfl ?_
  refine ab_if_eq (pc := 1) 13 dX3_isBelow_1 (by decide) (fun c1 => ?_) (fun c1 => ?_)
  · refine ab_iconst (pc := 13) (v := 1) dX3_isBelow_13 (by decide) ?_
    refine ab_goto (pc := 14) 18 dX3_isBelow_14 (by decide) ?_
    exact ab_retz (pc := 18) dX3_isBelow_18 rfl rfl ⟨_, rfl, ⟨by first | (rw [c_below, decide_eq_true c1]; rfl) | (rw [c_below, decide_eq_false c1, decide_eq_false (not_not_intro c5)]; rfl) | (rw [c_below, decide_eq_false c1, decide_eq_true c5, decide_eq_false (not_not_intro c10)]; rfl) | (rw [c_below, decide_eq_false c1, decide_eq_true c5, decide_eq_true c10]; rfl), rfl⟩⟩
  · refine ab_iload_n (pc := 4) dX3_isBelow_4 rfl rfl ?_
    refine ab_if_lt (pc := 5) 17 dX3_isBelow_5 (by decide) (fun c5 => ?_) (fun c5 => ?_)
    · refine ab_iconst (pc := 17) (v := 0) dX3_isBelow_17 (by decide) ?_
      exact ab_retz (pc := 18) dX3_isBelow_18 rfl rfl ⟨_, rfl, ⟨by first | (rw [c_below, decide_eq_true c1]; rfl) | (rw [c_below, decide_eq_false c1, decide_eq_false (not_not_intro c5)]; rfl) | (rw [c_below, decide_eq_false c1, decide_eq_true c5, decide_eq_false (not_not_intro c10)]; rfl) | (rw [c_below, decide_eq_false c1, decide_eq_true c5, decide_eq_true c10]; rfl), rfl⟩⟩
    · refine ab_iload_n (pc := 8) dX3_isBelow_8 rfl rfl ?_
      refine ab_iload_n (pc := 9) dX3_isBelow_9 rfl rfl ?_
      refine ab_icmp_ge (pc := 10) 17 dX3_isBelow_10 (by decide) (fun c10 => ?_) (fun c10 => ?_)
      · refine ab_iconst (pc := 17) (v := 0) dX3_isBelow_17 (by decide) ?_
        exact ab_retz (pc := 18) dX3_isBelow_18 rfl rfl ⟨_, rfl, ⟨by first | (rw [c_below, decide_eq_true c1]; rfl) | (rw [c_below, decide_eq_false c1, decide_eq_false (not_not_intro c5)]; rfl) | (rw [c_below, decide_eq_false c1, decide_eq_true c5, decide_eq_false (not_not_intro c10)]; rfl) | (rw [c_below, decide_eq_false c1, decide_eq_true c5, decide_eq_true c10]; rfl), rfl⟩⟩
      · refine ab_iconst (pc := 13) (v := 1) dX3_isBelow_13 (by decide) ?_
        refine ab_goto (pc := 14) 18 dX3_isBelow_14 (by decide) ?_
        exact ab_retz (pc := 18) dX3_isBelow_18 rfl rfl ⟨_, rfl, ⟨by first | (rw [c_below, decide_eq_true c1]; rfl) | (rw [c_below, decide_eq_false c1, decide_eq_false (not_not_intro c5)]; rfl) | (rw [c_below, decide_eq_false c1, decide_eq_true c5, decide_eq_false (not_not_intro c10)]; rfl) | (rw [c_below, decide_eq_false c1, decide_eq_true c5, decide_eq_true c10]; rfl), rfl⟩⟩

set_option maxRecDepth 100000 in
set_option maxHeartbeats 4000000 in
theorem kX3_wayOf {l : Launch} {d : Nat} {h : ab_H} {k n : Int32}  : ab_C l layC (d) mX3_wayOf [ab_I k, ab_I n] h (ab_ql fun r h' => r = c_way k n ∧ h' = h) := by
  refine ab_enter (by decide) (Nat.le_of_ble_eq_true rfl) ?_
  refine ab_iload_n (pc := 0) dX3_wayOf_0 rfl rfl ?_
  refine ab_i2l (pc := 1) dX3_wayOf_1 ?_
  refine ab_iconst (pc := 2) (v := 3) dX3_wayOf_2 (by decide) ?_
  refine ab_lshl (pc := 3) dX3_wayOf_3 ?_
  refine ab_iload_n (pc := 4) dX3_wayOf_4 rfl rfl ?_
  refine ab_i2l (pc := 5) dX3_wayOf_5 ?_
  refine ab_lor (pc := 6) dX3_wayOf_6 ?_
  exact ab_retl (pc := 7) dX3_wayOf_7 rfl ⟨_, rfl, ⟨rfl, rfl⟩⟩

set_option maxRecDepth 100000 in
set_option maxHeartbeats 4000000 in
theorem kX3_howOf {l : Launch} {d : Nat} {h : ab_H} {k n : Int32} (hk : c_kw k) : ab_C l layC (d) mX3_howOf [ab_L (c_way k n)] h (ab_qi fun r h' => r = k ∧ h' = h) := by
  refine ab_enter (by decide) (Nat.le_of_ble_eq_true rfl) ?_
  refine ab_lload_n (pc := 0) dX3_howOf_0 rfl rfl ?_
  refine ab_ldc2 (pc := 1) dX3_howOf_1 (v := 7) (by decide +kernel) ?_
  refine ab_land (pc := 4) dX3_howOf_4 ?_
  refine ab_l2i (pc := 5) dX3_howOf_5 ?_
  exact ab_reti (pc := 6) dX3_howOf_6 rfl ⟨_, rfl, ⟨c_how hk, rfl⟩⟩

set_option maxRecDepth 100000 in
set_option maxHeartbeats 4000000 in
theorem kX3_numberOf {l : Launch} {d : Nat} {h : ab_H} {k n : Int32} (hk : c_kw k) : ab_C l layC (d) mX3_numberOf [ab_L (c_way k n)] h (ab_qi fun r h' => r = n ∧ h' = h) := by
  refine ab_enter (by decide) (Nat.le_of_ble_eq_true rfl) ?_
  refine ab_lload_n (pc := 0) dX3_numberOf_0 rfl rfl ?_
  refine ab_iconst (pc := 1) (v := 3) dX3_numberOf_1 (by decide) ?_
  refine ab_lshr (pc := 2) dX3_numberOf_2 ?_
  refine ab_l2i (pc := 3) dX3_numberOf_3 ?_
  exact ab_reti (pc := 4) dX3_numberOf_4 rfl ⟨_, rfl, ⟨c_num hk, rfl⟩⟩

set_option maxRecDepth 100000 in
set_option maxHeartbeats 4000000 in
theorem kX3_failing {l : Launch} {d : Nat} {h : ab_H} {n : Int32}  : ab_C l layC (d + 1) mX3_failing [ab_I n] h (ab_ql fun r h' => r = c_way 4 n ∧ h' = h) := by
  refine ab_enter (by decide) (Nat.le_of_ble_eq_true rfl) ?_
  refine ab_iconst (pc := 0) (v := 4) dX3_failing_0 (by decide) ?_
  refine ab_iload_n (pc := 1) dX3_failing_1 rfl rfl ?_
  refine ab_S2 (pc := 2) dX3_failing_2 msX3_134 rfl (kX3_wayOf) (ab_kl fun r2 h2 e2 => ?_)
  obtain ⟨rfl, rfl⟩ := And.intro e2.1.symm e2.2.symm
  exact ab_retl (pc := 5) dX3_failing_5 rfl ⟨_, rfl, ⟨rfl, rfl⟩⟩

set_option maxRecDepth 100000 in
set_option maxHeartbeats 4000000 in
theorem kX3_answerOf {l : Launch} {d : Nat} {h : ab_H} {k n : Int32} (hk : c_kw k) : ab_C l layC (d + 1) mX3_answerOf [ab_L (c_way k n)] h (ab_qi fun r h' => r = c_ans k n ∧ h' = h) := by
  refine ab_enter (by decide) (Nat.le_of_ble_eq_true rfl) ?_
  refine ab_lload_n (pc := 0) dX3_answerOf_0 rfl rfl ?_
  refine ab_S1 (pc := 1) dX3_answerOf_1 msX3_89 rfl (kX3_howOf hk) (ab_ki fun r1 h1 e1 => ?_)
  obtain ⟨rfl, rfl⟩ := And.intro e1.1.symm e1.2.symm
  refine ab_table (pc := 4) dX3_answerOf_4 (by decide) (by decide) (by decide) (by decide) ?_
  refine ab_tw_c 3 32 (by decide) (by decide) (fun s4 => ?_) (fun n4_3 => ?_)
  · refine ab_iconst (pc := 32) (v := 1) dX3_answerOf_32 (by decide) ?_
    exact ab_reti (pc := 33) dX3_answerOf_33 rfl ⟨_, rfl, ⟨by rw [c_ans, if_pos s4], rfl⟩⟩
  refine ab_tw_c 4 34 (by decide) (by decide) (fun s4 => ?_) (fun n4_4 => ?_)
  · refine ab_iconst (pc := 34) (v := 2) dX3_answerOf_34 (by decide) ?_
    refine ab_lload_n (pc := 35) dX3_answerOf_35 rfl rfl ?_
    refine ab_S1 (pc := 36) dX3_answerOf_36 msX3_93 rfl (kX3_numberOf hk) (ab_ki fun r36 h36 e36 => ?_)
    obtain ⟨rfl, rfl⟩ := And.intro e36.1.symm e36.2.symm
    refine ab_iadd (pc := 39) dX3_answerOf_39 ?_
    exact ab_reti (pc := 40) dX3_answerOf_40 rfl ⟨_, rfl, ⟨by rw [c_ans, if_neg n4_3, if_pos s4], rfl⟩⟩
  refine ab_tw_c 5 41 (by decide) (by decide) (fun s4 => ?_) (fun n4_5 => ?_)
  · refine ab_iconst (pc := 41) (v := (-1)) dX3_answerOf_41 (by decide) ?_
    exact ab_reti (pc := 42) dX3_answerOf_42 rfl ⟨_, rfl, ⟨by rw [c_ans, if_neg n4_3, if_neg n4_4, if_pos s4], rfl⟩⟩
  refine ab_tw_n 43 (by decide) ?_
  refine ab_iconst (pc := 43) (v := 0) dX3_answerOf_43 (by decide) ?_
  exact ab_reti (pc := 44) dX3_answerOf_44 rfl ⟨_, rfl, ⟨by rw [c_ans, if_neg n4_3, if_neg n4_4, if_neg n4_5], rfl⟩⟩

set_option maxRecDepth 100000 in
set_option maxHeartbeats 4000000 in
theorem kX3_canPay {l : Launch} {d : Nat} {h : ab_H}  : ab_C l layC (d) mX3_canPay [ab_R 0] h (ab_qi fun r h' => (h 0 3 < 60 ∧ r = 1 ∧ h' = ab_up h 0 3 (h 0 3 + 1)) ∨ (¬ h 0 3 < 60 ∧ r = 0 ∧ h' = h)) := by
  refine ab_enter (by decide) (Nat.le_of_ble_eq_true rfl) ?_
  refine ab_aload_n (pc := 0) dX3_canPay_0 rfl rfl ?_
  refine ab_geti (pc := 1) dX3_canPay_1 fX3_79 rfl rfl ?_
  refine ab_bipush (pc := 4) (v := 60) dX3_canPay_4 (by decide) ?_
  refine ab_icmp_lt (pc := 6) 11 dX3_canPay_6 (by decide) (fun c6 => ?_) (fun c6 => ?_)
  · refine ab_aload_n (pc := 11) dX3_canPay_11 rfl rfl ?_
    refine ab_dup (pc := 12) dX3_canPay_12 rfl ?_
    refine ab_geti (pc := 13) dX3_canPay_13 fX3_79 rfl rfl ?_
    refine ab_iconst (pc := 16) (v := 1) dX3_canPay_16 (by decide) ?_
    refine ab_iadd (pc := 17) dX3_canPay_17 ?_
    refine ab_puti (pc := 18) dX3_canPay_18 fwX3_79 rfl rfl ?_
    refine ab_iconst (pc := 21) (v := 1) dX3_canPay_21 (by decide) ?_
    exact ab_retz (pc := 22) dX3_canPay_22 rfl rfl ⟨_, rfl, (by first | exact Or.inl (And.intro c6 (And.intro rfl rfl)) | exact Or.inr (And.intro c6 (And.intro rfl rfl)))⟩
  · refine ab_iconst (pc := 9) (v := 0) dX3_canPay_9 (by decide) ?_
    exact ab_retz (pc := 10) dX3_canPay_10 rfl rfl ⟨_, rfl, (by first | exact Or.inl (And.intro c6 (And.intro rfl rfl)) | exact Or.inr (And.intro c6 (And.intro rfl rfl)))⟩

set_option maxRecDepth 100000 in
set_option maxHeartbeats 4000000 in
theorem kX3_doNote {l : Launch} {d : Nat} {h : ab_H} {a : Int32} (ha : vp_in a 8) (hlg : ¬ 100 ≤ h 2 6 → vp_in (h 2 6) 100) : ab_C l layC (d + 1) mX3_doNote [ab_R 0, ab_I a] h (ab_ql fun r h' => r = c_way (0) (0) ∧ h' = c_note h (h 4 a.toNatClampNeg)) := by
  refine ab_enter (by decide) (Nat.le_of_ble_eq_true rfl) ?_
  refine ab_aload_n (pc := 0) dX3_doNote_0 rfl rfl ?_
  refine ab_getr (pc := 1) dX3_doNote_1 fX3_19 rfl rfl ?_
  refine ab_aload_n (pc := 4) dX3_doNote_4 rfl rfl ?_
  refine ab_getr (pc := 5) dX3_doNote_5 fX3_19 rfl rfl ?_
  refine ab_getr (pc := 8) dX3_doNote_8 fX3_102 rfl rfl ?_
  refine ab_iload_n (pc := 11) dX3_doNote_11 rfl rfl ?_
  refine ab_iald (pc := 12) dX3_doNote_12 rfl ha ?_
  refine ab_V1 (pc := 13) dX3_doNote_13 mvX3_233 rfl rfl (kX0_takeNote hlg) (ab_kv fun h13 e13 => ?_)
  obtain rfl := e13.symm
  refine ab_lconst (pc := 16) (v := 0) dX3_doNote_16 (by decide) ?_
  exact ab_retl (pc := 17) dX3_doNote_17 rfl ⟨_, rfl, ⟨c_way0.symm, rfl⟩⟩

set_option maxRecDepth 100000 in
set_option maxHeartbeats 4000000 in
theorem kX3_doAdd {l : Launch} {d : Nat} {h : ab_H} {a b : Int32} (ha : vp_in a 8) (hr : c_room h = true → vp_in (h 3 5) 60) : ab_C l layC (d + 2) mX3_doAdd [ab_R 0, ab_I a, ab_I b] h (ab_ql fun r h' => r = c_way (0) (0) ∧ h' = c_add h a b) := by
  refine ab_enter (by decide) (Nat.le_of_ble_eq_true rfl) ?_
  refine ab_aload_n (pc := 0) dX3_doAdd_0 rfl rfl ?_
  refine ab_getr (pc := 1) dX3_doAdd_1 fX3_26 rfl rfl ?_
  refine ab_iconst (pc := 4) (v := 1) dX3_doAdd_4 (by decide) ?_
  refine ab_iload_n (pc := 5) dX3_doAdd_5 rfl rfl ?_
  refine ab_iload_n (pc := 6) dX3_doAdd_6 rfl rfl ?_
  refine ab_V3 (pc := 7) dX3_doAdd_7 mvX3_236 rfl rfl (kX1_remember hr) (ab_kv fun h7 e7 => ?_)
  obtain rfl := e7.symm
  refine ab_aload_n (pc := 10) dX3_doAdd_10 rfl rfl ?_
  refine ab_getr (pc := 11) dX3_doAdd_11 fX3_19 rfl rfl ?_
  refine ab_getr (pc := 14) dX3_doAdd_14 fX3_102 rfl rfl ?_
  refine ab_iload_n (pc := 17) dX3_doAdd_17 rfl rfl ?_
  refine ab_dup2 (pc := 18) dX3_doAdd_18 rfl rfl ?_
  refine ab_iald (pc := 19) dX3_doAdd_19 rfl ha ?_
  refine ab_iload_n (pc := 20) dX3_doAdd_20 rfl rfl ?_
  refine ab_iadd (pc := 21) dX3_doAdd_21 ?_
  refine ab_iast (pc := 22) dX3_doAdd_22 rfl ha ?_
  refine ab_lconst (pc := 23) (v := 0) dX3_doAdd_23 (by decide) ?_
  exact ab_retl (pc := 24) dX3_doAdd_24 rfl ⟨_, rfl, ⟨c_way0.symm, rfl⟩⟩

set_option maxRecDepth 100000 in
set_option maxHeartbeats 4000000 in
theorem kX3_doSet {l : Launch} {d : Nat} {h : ab_H} {a b : Int32} (ha : vp_in a 8) (hr : c_room h = true → vp_in (h 3 5) 60) : ab_C l layC (d + 2) mX3_doSet [ab_R 0, ab_I a, ab_I b] h (ab_ql fun r h' => r = c_way (0) (0) ∧ h' = c_set h a b) := by
  refine ab_enter (by decide) (Nat.le_of_ble_eq_true rfl) ?_
  refine ab_aload_n (pc := 0) dX3_doSet_0 rfl rfl ?_
  refine ab_getr (pc := 1) dX3_doSet_1 fX3_26 rfl rfl ?_
  refine ab_iconst (pc := 4) (v := 2) dX3_doSet_4 (by decide) ?_
  refine ab_iload_n (pc := 5) dX3_doSet_5 rfl rfl ?_
  refine ab_aload_n (pc := 6) dX3_doSet_6 rfl rfl ?_
  refine ab_getr (pc := 7) dX3_doSet_7 fX3_19 rfl rfl ?_
  refine ab_getr (pc := 10) dX3_doSet_10 fX3_102 rfl rfl ?_
  refine ab_iload_n (pc := 13) dX3_doSet_13 rfl rfl ?_
  refine ab_iald (pc := 14) dX3_doSet_14 rfl ha ?_
  refine ab_V3 (pc := 15) dX3_doSet_15 mvX3_236 rfl rfl (kX1_remember hr) (ab_kv fun h15 e15 => ?_)
  obtain rfl := e15.symm
  refine ab_aload_n (pc := 18) dX3_doSet_18 rfl rfl ?_
  refine ab_getr (pc := 19) dX3_doSet_19 fX3_19 rfl rfl ?_
  refine ab_getr (pc := 22) dX3_doSet_22 fX3_102 rfl rfl ?_
  refine ab_iload_n (pc := 25) dX3_doSet_25 rfl rfl ?_
  refine ab_iload_n (pc := 26) dX3_doSet_26 rfl rfl ?_
  refine ab_iast (pc := 27) dX3_doSet_27 rfl ha ?_
  refine ab_lconst (pc := 28) (v := 0) dX3_doSet_28 (by decide) ?_
  exact ab_retl (pc := 29) dX3_doSet_29 rfl ⟨_, rfl, ⟨c_way0.symm, rfl⟩⟩

set_option maxRecDepth 100000 in
set_option maxHeartbeats 4000000 in
theorem kX3_doDivide {l : Launch} {d : Nat} {h : ab_H} {a b : Int32} (ha : vp_in a 8) (hb : vp_in b 8) (hr : c_room h = true → vp_in (h 3 5) 60) : ab_C l layC (d + 2) mX3_doDivide [ab_R 0, ab_I a, ab_I b] h (ab_ql fun r h' => r = c_way (if h 4 b.toNatClampNeg = 0 then 4 else 0) (if h 4 b.toNatClampNeg = 0 then 1 else 0) ∧ h' = c_div h a b) := by
  refine ab_enter (by decide) (Nat.le_of_ble_eq_true rfl) ?_
  refine ab_aload_n (pc := 0) dX3_doDivide_0 rfl rfl ?_
  refine ab_getr (pc := 1) dX3_doDivide_1 fX3_19 rfl rfl ?_
  refine ab_getr (pc := 4) dX3_doDivide_4 fX3_102 rfl rfl ?_
  refine ab_iload_n (pc := 7) dX3_doDivide_7 rfl rfl ?_
  refine ab_iald (pc := 8) dX3_doDivide_8 rfl hb ?_
  refine ab_istore_n (pc := 9) dX3_doDivide_9 rfl rfl ?_
  refine ab_iload_n (pc := 10) dX3_doDivide_10 rfl rfl ?_
  refine ab_if_ne (pc := 11) 19 dX3_doDivide_11 (by decide) (fun c11 => ?_) (fun c11 => ?_)
  · refine ab_aload_n (pc := 19) dX3_doDivide_19 rfl rfl ?_
    refine ab_getr (pc := 20) dX3_doDivide_20 fX3_26 rfl rfl ?_
    refine ab_iconst (pc := 23) (v := 3) dX3_doDivide_23 (by decide) ?_
    refine ab_iload_n (pc := 24) dX3_doDivide_24 rfl rfl ?_
    refine ab_aload_n (pc := 25) dX3_doDivide_25 rfl rfl ?_
    refine ab_getr (pc := 26) dX3_doDivide_26 fX3_19 rfl rfl ?_
    refine ab_getr (pc := 29) dX3_doDivide_29 fX3_102 rfl rfl ?_
    refine ab_iload_n (pc := 32) dX3_doDivide_32 rfl rfl ?_
    refine ab_iald (pc := 33) dX3_doDivide_33 rfl ha ?_
    refine ab_V3 (pc := 34) dX3_doDivide_34 mvX3_236 rfl rfl (kX1_remember hr) (ab_kv fun h34 e34 => ?_)
    obtain rfl := e34.symm
    refine ab_aload_n (pc := 37) dX3_doDivide_37 rfl rfl ?_
    refine ab_getr (pc := 38) dX3_doDivide_38 fX3_19 rfl rfl ?_
    refine ab_getr (pc := 41) dX3_doDivide_41 fX3_102 rfl rfl ?_
    refine ab_iload_n (pc := 44) dX3_doDivide_44 rfl rfl ?_
    refine ab_aload_n (pc := 45) dX3_doDivide_45 rfl rfl ?_
    refine ab_getr (pc := 46) dX3_doDivide_46 fX3_19 rfl rfl ?_
    refine ab_getr (pc := 49) dX3_doDivide_49 fX3_102 rfl rfl ?_
    refine ab_iload_n (pc := 52) dX3_doDivide_52 rfl rfl ?_
    refine ab_iald (pc := 53) dX3_doDivide_53 rfl ha ?_
    refine ab_iload_n (pc := 54) dX3_doDivide_54 rfl rfl ?_
    refine ab_idiv (pc := 55) dX3_doDivide_55 c11 ?_
    refine ab_iast (pc := 56) dX3_doDivide_56 rfl ha ?_
    refine ab_lconst (pc := 57) (v := 0) dX3_doDivide_57 (by decide) ?_
    exact ab_retl (pc := 58) dX3_doDivide_58 rfl ⟨_, rfl, ⟨by rw [if_neg c11, if_neg c11]; exact c_way0.symm, by rw [c_div, if_neg c11]⟩⟩
  · refine ab_iconst (pc := 14) (v := 1) dX3_doDivide_14 (by decide) ?_
    refine ab_S1 (pc := 15) dX3_doDivide_15 msX3_184 rfl (kX3_failing) (ab_kl fun r15 h15 e15 => ?_)
    obtain ⟨rfl, rfl⟩ := And.intro e15.1.symm e15.2.symm
    exact ab_retl (pc := 18) dX3_doDivide_18 rfl ⟨_, rfl, ⟨by rw [if_pos c11, if_pos c11], by rw [c_div, if_pos c11]⟩⟩

set_option maxRecDepth 100000 in
set_option maxHeartbeats 4000000 in
theorem kX3_doRead {l : Launch} {d : Nat} {h : ab_H} {a b : Int32} (ha : vp_in a 8) (hb : vp_in b 8) (hpl : c_pok h) : ab_C l layC (d + 2) mX3_doRead [ab_R 0, ab_I a, ab_I b] h (ab_ql fun r h' => r = c_way (if c_hasPlace h (h 4 b.toNatClampNeg) = true then 0 else 4) (if c_hasPlace h (h 4 b.toNatClampNeg) = true then 0 else 2) ∧ h' = c_read h a b) := by
  refine ab_enter (by decide) (Nat.le_of_ble_eq_true rfl) ?_
  refine ab_aload_n (pc := 0) dX3_doRead_0 rfl rfl ?_
  refine ab_getr (pc := 1) dX3_doRead_1 fX3_19 rfl rfl ?_
  refine ab_getr (pc := 4) dX3_doRead_4 fX3_102 rfl rfl ?_
  refine ab_iload_n (pc := 7) dX3_doRead_7 rfl rfl ?_
  refine ab_iald (pc := 8) dX3_doRead_8 rfl hb ?_
  refine ab_istore_n (pc := 9) dX3_doRead_9 rfl rfl ?_
  refine ab_aload_n (pc := 10) dX3_doRead_10 rfl rfl ?_
  refine ab_getr (pc := 11) dX3_doRead_11 fX3_19 rfl rfl ?_
  refine ab_iload_n (pc := 14) dX3_doRead_14 rfl rfl ?_
  refine ab_V1 (pc := 15) dX3_doRead_15 mvX3_239 rfl rfl (kX0_hasPlace) (ab_ki fun r15 h15 e15 => ?_)
  obtain ⟨rfl, rfl⟩ := And.intro e15.1.symm e15.2.symm
  refine ab_if_ne (pc := 18) 26 dX3_doRead_18 (by decide) (fun c18 => ?_) (fun c18 => ?_)
  · replace c18 := b2i_1.mp c18
    refine ab_aload_n (pc := 26) dX3_doRead_26 rfl rfl ?_
    refine ab_getr (pc := 27) dX3_doRead_27 fX3_19 rfl rfl ?_
    refine ab_getr (pc := 30) dX3_doRead_30 fX3_102 rfl rfl ?_
    refine ab_iload_n (pc := 33) dX3_doRead_33 rfl rfl ?_
    refine ab_aload_n (pc := 34) dX3_doRead_34 rfl rfl ?_
    refine ab_getr (pc := 35) dX3_doRead_35 fX3_19 rfl rfl ?_
    refine ab_getr (pc := 38) dX3_doRead_38 fX3_108 rfl rfl ?_
    refine ab_iload_n (pc := 41) dX3_doRead_41 rfl rfl ?_
    refine ab_iald (pc := 42) dX3_doRead_42 rfl (hpl _ (c_hp c18).1 (c_hp c18).2) ?_
    refine ab_iast (pc := 43) dX3_doRead_43 rfl ha ?_
    refine ab_lconst (pc := 44) (v := 0) dX3_doRead_44 (by decide) ?_
    exact ab_retl (pc := 45) dX3_doRead_45 rfl ⟨_, rfl, ⟨by rw [if_pos c18, if_pos c18]; exact c_way0.symm, by rw [c_read, if_pos c18]⟩⟩
  · replace c18 := b2i_0.mp c18
    refine ab_iconst (pc := 21) (v := 2) dX3_doRead_21 (by decide) ?_
    refine ab_S1 (pc := 22) dX3_doRead_22 msX3_184 rfl (kX3_failing) (ab_kl fun r22 h22 e22 => ?_)
    obtain ⟨rfl, rfl⟩ := And.intro e22.1.symm e22.2.symm
    exact ab_retl (pc := 25) dX3_doRead_25 rfl ⟨_, rfl, ⟨by rw [if_neg (ne_true_of_eq_false c18), if_neg (ne_true_of_eq_false c18)], by rw [c_read, if_neg (ne_true_of_eq_false c18)]⟩⟩

set_option maxRecDepth 100000 in
set_option maxHeartbeats 4000000 in
theorem kX3_doWrite {l : Launch} {d : Nat} {h : ab_H} {a b : Int32} (ha : vp_in a 8) (hb : vp_in b 8) (hpl : c_pok h) (hr : c_room h = true → vp_in (h 3 5) 60) : ab_C l layC (d + 2) mX3_doWrite [ab_R 0, ab_I a, ab_I b] h (ab_ql fun r h' => r = c_way (if c_hasPlace h (h 4 a.toNatClampNeg) = true then 0 else 4) (if c_hasPlace h (h 4 a.toNatClampNeg) = true then 0 else 2) ∧ h' = c_write h a b) := by
  refine ab_enter (by decide) (Nat.le_of_ble_eq_true rfl) ?_
  refine ab_aload_n (pc := 0) dX3_doWrite_0 rfl rfl ?_
  refine ab_getr (pc := 1) dX3_doWrite_1 fX3_19 rfl rfl ?_
  refine ab_getr (pc := 4) dX3_doWrite_4 fX3_102 rfl rfl ?_
  refine ab_iload_n (pc := 7) dX3_doWrite_7 rfl rfl ?_
  refine ab_iald (pc := 8) dX3_doWrite_8 rfl ha ?_
  refine ab_istore_n (pc := 9) dX3_doWrite_9 rfl rfl ?_
  refine ab_aload_n (pc := 10) dX3_doWrite_10 rfl rfl ?_
  refine ab_getr (pc := 11) dX3_doWrite_11 fX3_19 rfl rfl ?_
  refine ab_iload_n (pc := 14) dX3_doWrite_14 rfl rfl ?_
  refine ab_V1 (pc := 15) dX3_doWrite_15 mvX3_239 rfl rfl (kX0_hasPlace) (ab_ki fun r15 h15 e15 => ?_)
  obtain ⟨rfl, rfl⟩ := And.intro e15.1.symm e15.2.symm
  refine ab_if_ne (pc := 18) 26 dX3_doWrite_18 (by decide) (fun c18 => ?_) (fun c18 => ?_)
  · replace c18 := b2i_1.mp c18
    refine ab_aload_n (pc := 26) dX3_doWrite_26 rfl rfl ?_
    refine ab_getr (pc := 27) dX3_doWrite_27 fX3_26 rfl rfl ?_
    refine ab_iconst (pc := 30) (v := 5) dX3_doWrite_30 (by decide) ?_
    refine ab_iload_n (pc := 31) dX3_doWrite_31 rfl rfl ?_
    refine ab_aload_n (pc := 32) dX3_doWrite_32 rfl rfl ?_
    refine ab_getr (pc := 33) dX3_doWrite_33 fX3_19 rfl rfl ?_
    refine ab_getr (pc := 36) dX3_doWrite_36 fX3_108 rfl rfl ?_
    refine ab_iload_n (pc := 39) dX3_doWrite_39 rfl rfl ?_
    refine ab_iald (pc := 40) dX3_doWrite_40 rfl (hpl _ (c_hp c18).1 (c_hp c18).2) ?_
    refine ab_V3 (pc := 41) dX3_doWrite_41 mvX3_236 rfl rfl (kX1_remember hr) (ab_kv fun h41 e41 => ?_)
    obtain rfl := e41.symm
    refine ab_aload_n (pc := 44) dX3_doWrite_44 rfl rfl ?_
    refine ab_getr (pc := 45) dX3_doWrite_45 fX3_19 rfl rfl ?_
    refine ab_getr (pc := 48) dX3_doWrite_48 fX3_108 rfl rfl ?_
    refine ab_iload_n (pc := 51) dX3_doWrite_51 rfl rfl ?_
    refine ab_aload_n (pc := 52) dX3_doWrite_52 rfl rfl ?_
    refine ab_getr (pc := 53) dX3_doWrite_53 fX3_19 rfl rfl ?_
    refine ab_getr (pc := 56) dX3_doWrite_56 fX3_102 rfl rfl ?_
    refine ab_iload_n (pc := 59) dX3_doWrite_59 rfl rfl ?_
    refine ab_iald (pc := 60) dX3_doWrite_60 rfl hb ?_
    refine ab_iast (pc := 61) dX3_doWrite_61 rfl (hpl _ (c_hp c18).1 (c_hp c18).2) ?_
    refine ab_lconst (pc := 62) (v := 0) dX3_doWrite_62 (by decide) ?_
    exact ab_retl (pc := 63) dX3_doWrite_63 rfl ⟨_, rfl, ⟨by rw [if_pos c18, if_pos c18]; exact c_way0.symm, by rw [c_write, if_pos c18]⟩⟩
  · replace c18 := b2i_0.mp c18
    refine ab_iconst (pc := 21) (v := 2) dX3_doWrite_21 (by decide) ?_
    refine ab_S1 (pc := 22) dX3_doWrite_22 msX3_184 rfl (kX3_failing) (ab_kl fun r22 h22 e22 => ?_)
    obtain ⟨rfl, rfl⟩ := And.intro e22.1.symm e22.2.symm
    exact ab_retl (pc := 25) dX3_doWrite_25 rfl ⟨_, rfl, ⟨by rw [if_neg (ne_true_of_eq_false c18), if_neg (ne_true_of_eq_false c18)], by rw [c_write, if_neg (ne_true_of_eq_false c18)]⟩⟩

set_option maxRecDepth 100000 in
set_option maxHeartbeats 4000000 in
theorem kX3_doMake {l : Launch} {d : Nat} {h : ab_H} {a : Int32} {u : Nat} (ha : vp_in a 8) (hu : h 3 5 = nI u) (hu2 : u ≤ 60) : ab_C l layC (d + 3) mX3_doMake [ab_R 0, ab_I a] h (ab_ql fun r h' => r = c_way (if 0 ≤ h 4 a.toNatClampNeg then (if h 4 a.toNatClampNeg ≤ 16 then 0 else 4) else 4) (if 0 ≤ h 4 a.toNatClampNeg then (if h 4 a.toNatClampNeg ≤ 16 then 0 else 4) else 3) ∧ h' = c_make h (h 4 a.toNatClampNeg)) := by
  refine ab_enter (by decide) (Nat.le_of_ble_eq_true rfl) ?_
  refine ab_aload_n (pc := 0) dX3_doMake_0 rfl rfl ?_
  refine ab_getr (pc := 1) dX3_doMake_1 fX3_19 rfl rfl ?_
  refine ab_getr (pc := 4) dX3_doMake_4 fX3_102 rfl rfl ?_
  refine ab_iload_n (pc := 7) dX3_doMake_7 rfl rfl ?_
  refine ab_iald (pc := 8) dX3_doMake_8 rfl ha ?_
  refine ab_istore_n (pc := 9) dX3_doMake_9 rfl rfl ?_
  refine ab_iload_n (pc := 10) dX3_doMake_10 rfl rfl ?_
  refine ab_if_ge (pc := 11) 19 dX3_doMake_11 (by decide) (fun c11 => ?_) (fun c11 => ?_)
  · refine ab_iload_n (pc := 19) dX3_doMake_19 rfl rfl ?_
    refine ab_bipush (pc := 20) (v := 16) dX3_doMake_20 (by decide) ?_
    refine ab_icmp_le (pc := 22) 30 dX3_doMake_22 (by decide) (fun c22 => ?_) (fun c22 => ?_)
    · refine ab_aload_n (pc := 30) dX3_doMake_30 rfl rfl ?_
      refine ab_getr (pc := 31) dX3_doMake_31 fX3_26 rfl rfl ?_
      refine ab_aload_n (pc := 34) dX3_doMake_34 rfl rfl ?_
      refine ab_getr (pc := 35) dX3_doMake_35 fX3_19 rfl rfl ?_
      refine ab_V1 (pc := 38) dX3_doMake_38 mvX3_243 rfl rfl (kX1_rememberRow hu hu2) (ab_kv fun h38 e38 => ?_)
      obtain rfl := e38.symm
      refine ab_aload_n (pc := 41) dX3_doMake_41 rfl rfl ?_
      refine ab_getr (pc := 42) dX3_doMake_42 fX3_19 rfl rfl ?_
      refine ab_iload_n (pc := 45) dX3_doMake_45 rfl rfl ?_
      refine ab_V1 (pc := 46) dX3_doMake_46 mvX3_246 rfl rfl (kX0_makeRow) (ab_kv fun h46 e46 => ?_)
      obtain rfl := e46.symm
      refine ab_lconst (pc := 49) (v := 0) dX3_doMake_49 (by decide) ?_
      exact ab_retl (pc := 50) dX3_doMake_50 rfl ⟨_, rfl, ⟨by rw [if_pos c11, if_pos c22, if_pos c11]; exact c_way0.symm, by rw [c_make, if_pos c11, if_pos c22]⟩⟩
    · refine ab_iconst (pc := 25) (v := 4) dX3_doMake_25 (by decide) ?_
      refine ab_S1 (pc := 26) dX3_doMake_26 msX3_184 rfl (kX3_failing) (ab_kl fun r26 h26 e26 => ?_)
      obtain ⟨rfl, rfl⟩ := And.intro e26.1.symm e26.2.symm
      exact ab_retl (pc := 29) dX3_doMake_29 rfl ⟨_, rfl, ⟨by rw [if_pos c11, if_neg c22, if_pos c11], by rw [c_make, if_pos c11, if_neg c22]⟩⟩
  · refine ab_iconst (pc := 14) (v := 3) dX3_doMake_14 (by decide) ?_
    refine ab_S1 (pc := 15) dX3_doMake_15 msX3_184 rfl (kX3_failing) (ab_kl fun r15 h15 e15 => ?_)
    obtain ⟨rfl, rfl⟩ := And.intro e15.1.symm e15.2.symm
    exact ab_retl (pc := 18) dX3_doMake_18 rfl ⟨_, rfl, ⟨by rw [if_neg c11, if_neg c11], by rw [c_make, if_neg c11]⟩⟩

set_option maxRecDepth 100000 in
set_option maxHeartbeats 4000000 in
theorem kX3_doHold {l : Launch} {d : Nat} {h : ab_H} {a b : Int32} {u : Nat} (ha : vp_in a 4) (hu : h 3 5 = nI u) (hu2 : u ≤ 60) : ab_C l layC (d + 3) mX3_doHold [ab_R 0, ab_I a, ab_I b] h (ab_ql fun r h' => r = c_way (0) (0) ∧ h' = c_hold h a b) := by
  refine ab_enter (by decide) (Nat.le_of_ble_eq_true rfl) ?_
  refine ab_aload_n (pc := 0) dX3_doHold_0 rfl rfl ?_
  refine ab_getr (pc := 1) dX3_doHold_1 fX3_26 rfl rfl ?_
  refine ab_iload_n (pc := 4) dX3_doHold_4 rfl rfl ?_
  refine ab_aload_n (pc := 5) dX3_doHold_5 rfl rfl ?_
  refine ab_getr (pc := 6) dX3_doHold_6 fX3_19 rfl rfl ?_
  refine ab_V2 (pc := 9) dX3_doHold_9 mvX3_249 rfl rfl (kX1_rememberSlot hu hu2 ha) (ab_kv fun h9 e9 => ?_)
  obtain rfl := e9.symm
  refine ab_aload_n (pc := 12) dX3_doHold_12 rfl rfl ?_
  refine ab_getr (pc := 13) dX3_doHold_13 fX3_19 rfl rfl ?_
  refine ab_getr (pc := 16) dX3_doHold_16 fX3_124 rfl rfl ?_
  refine ab_iload_n (pc := 19) dX3_doHold_19 rfl rfl ?_
  refine ab_iload_n (pc := 20) dX3_doHold_20 rfl rfl ?_
  refine ab_iast (pc := 21) dX3_doHold_21 rfl ha ?_
  refine ab_aload_n (pc := 22) dX3_doHold_22 rfl rfl ?_
  refine ab_getr (pc := 23) dX3_doHold_23 fX3_19 rfl rfl ?_
  refine ab_getr (pc := 26) dX3_doHold_26 fX3_253 rfl rfl ?_
  refine ab_iload_n (pc := 29) dX3_doHold_29 rfl rfl ?_
  refine ab_iconst (pc := 30) (v := 0) dX3_doHold_30 (by decide) ?_
  refine ab_iast (pc := 31) dX3_doHold_31 rfl ha ?_
  refine ab_lconst (pc := 32) (v := 0) dX3_doHold_32 (by decide) ?_
  exact ab_retl (pc := 33) dX3_doHold_33 rfl ⟨_, rfl, ⟨c_way0.symm, rfl⟩⟩

set_option maxRecDepth 100000 in
set_option maxHeartbeats 4000000 in
theorem kX3_doUse {l : Launch} {d : Nat} {h : ab_H} {a : Int32} (ha : vp_in a 4) (hlg : ¬ 100 ≤ h 2 6 → vp_in (h 2 6) 100) : ab_C l layC (d + 2) mX3_doUse [ab_R 0, ab_I a] h (ab_ql fun r h' => r = c_way (if h 6 a.toNatClampNeg = 0 then 4 else if h 6 a.toNatClampNeg = 2 then 4 else 0) (if h 6 a.toNatClampNeg = 0 then 5 else if h 6 a.toNatClampNeg = 2 then 6 else 0) ∧ h' = c_use h a) := by
  refine ab_enter (by decide) (Nat.le_of_ble_eq_true rfl) ?_
  refine ab_aload_n (pc := 0) dX3_doUse_0 rfl rfl ?_
  refine ab_getr (pc := 1) dX3_doUse_1 fX3_19 rfl rfl ?_
  refine ab_getr (pc := 4) dX3_doUse_4 fX3_124 rfl rfl ?_
  refine ab_iload_n (pc := 7) dX3_doUse_7 rfl rfl ?_
  refine ab_iald (pc := 8) dX3_doUse_8 rfl ha ?_
  refine ab_if_ne (pc := 9) 17 dX3_doUse_9 (by decide) (fun c9 => ?_) (fun c9 => ?_)
  · refine ab_aload_n (pc := 17) dX3_doUse_17 rfl rfl ?_
    refine ab_getr (pc := 18) dX3_doUse_18 fX3_19 rfl rfl ?_
    refine ab_getr (pc := 21) dX3_doUse_21 fX3_124 rfl rfl ?_
    refine ab_iload_n (pc := 24) dX3_doUse_24 rfl rfl ?_
    refine ab_iald (pc := 25) dX3_doUse_25 rfl ha ?_
    refine ab_iconst (pc := 26) (v := 2) dX3_doUse_26 (by decide) ?_
    refine ab_icmp_ne (pc := 27) 36 dX3_doUse_27 (by decide) (fun c27 => ?_) (fun c27 => ?_)
    · refine ab_aload_n (pc := 36) dX3_doUse_36 rfl rfl ?_
      refine ab_getr (pc := 37) dX3_doUse_37 fX3_19 rfl rfl ?_
      refine ab_getr (pc := 40) dX3_doUse_40 fX3_253 rfl rfl ?_
      refine ab_iload_n (pc := 43) dX3_doUse_43 rfl rfl ?_
      refine ab_dup2 (pc := 44) dX3_doUse_44 rfl rfl ?_
      refine ab_iald (pc := 45) dX3_doUse_45 rfl ha ?_
      refine ab_iconst (pc := 46) (v := 1) dX3_doUse_46 (by decide) ?_
      refine ab_iadd (pc := 47) dX3_doUse_47 ?_
      refine ab_iast (pc := 48) dX3_doUse_48 rfl ha ?_
      refine ab_aload_n (pc := 49) dX3_doUse_49 rfl rfl ?_
      refine ab_getr (pc := 50) dX3_doUse_50 fX3_19 rfl rfl ?_
      refine ab_aload_n (pc := 53) dX3_doUse_53 rfl rfl ?_
      refine ab_getr (pc := 54) dX3_doUse_54 fX3_19 rfl rfl ?_
      refine ab_getr (pc := 57) dX3_doUse_57 fX3_253 rfl rfl ?_
      refine ab_iload_n (pc := 60) dX3_doUse_60 rfl rfl ?_
      refine ab_iald (pc := 61) dX3_doUse_61 rfl ha ?_
      refine ab_topi (by (try simp only [ab_rd, ab_rdA, Nat.reduceEqDiff, reduceIte]); exact rfl) ?_
      refine ab_V1 (pc := 62) dX3_doUse_62 mvX3_233 rfl rfl (kX0_takeNote hlg) (ab_kv fun h62 e62 => ?_)
      obtain rfl := e62.symm
      refine ab_lconst (pc := 65) (v := 0) dX3_doUse_65 (by decide) ?_
      exact ab_retl (pc := 66) dX3_doUse_66 rfl ⟨_, rfl, ⟨by rw [if_neg c9, if_neg c27, if_neg c9, if_neg c27]; exact c_way0.symm, by rw [c_use, if_neg c9, if_neg c27]⟩⟩
    · refine ab_bipush (pc := 30) (v := 6) dX3_doUse_30 (by decide) ?_
      refine ab_S1 (pc := 32) dX3_doUse_32 msX3_184 rfl (kX3_failing) (ab_kl fun r32 h32 e32 => ?_)
      obtain ⟨rfl, rfl⟩ := And.intro e32.1.symm e32.2.symm
      exact ab_retl (pc := 35) dX3_doUse_35 rfl ⟨_, rfl, ⟨by rw [if_neg c9, if_pos c27, if_neg c9, if_pos c27], by rw [c_use, if_neg c9, if_pos c27]⟩⟩
  · refine ab_iconst (pc := 12) (v := 5) dX3_doUse_12 (by decide) ?_
    refine ab_S1 (pc := 13) dX3_doUse_13 msX3_184 rfl (kX3_failing) (ab_kl fun r13 h13 e13 => ?_)
    obtain ⟨rfl, rfl⟩ := And.intro e13.1.symm e13.2.symm
    exact ab_retl (pc := 16) dX3_doUse_16 rfl ⟨_, rfl, ⟨by rw [if_pos c9, if_pos c9], by rw [c_use, if_pos c9]⟩⟩

set_option maxRecDepth 100000 in
set_option maxHeartbeats 4000000 in
theorem kX3_doKeep {l : Launch} {d : Nat} {h : ab_H}  : ab_C l layC (d + 1) mX3_doKeep [ab_R 0] h (ab_ql fun r h' => r = c_way (0) (0) ∧ h' = c_keep h) := by
  refine ab_enter (by decide) (Nat.le_of_ble_eq_true rfl) ?_
  refine ab_aload_n (pc := 0) dX3_doKeep_0 rfl rfl ?_
  refine ab_getr (pc := 1) dX3_doKeep_1 fX3_26 rfl rfl ?_
  refine ab_V0 (pc := 4) dX3_doKeep_4 mvX3_256 rfl rfl (kX1_keep) (ab_kv fun h4 e4 => ?_)
  obtain rfl := e4.symm
  refine ab_lconst (pc := 7) (v := 0) dX3_doKeep_7 (by decide) ?_
  exact ab_retl (pc := 8) dX3_doKeep_8 rfl ⟨_, rfl, ⟨c_way0.symm, rfl⟩⟩

theorem c_js {x : Int32} {k : Nat} (hx : x = nI k) (hk : k < 8) : ([14, 22, 30, 38, 46, 54, 62, 70] : List Nat)[x.toNatClampNeg]? = some (8 * k + 14) := by
  rw [hx, nI_clamp (by omega)]
  revert k
  intro k _ hk
  exact ab_8 (P := fun k => ([14, 22, 30, 38, 46, 54, 62, 70] : List Nat)[k]? = some (8 * k + 14)) rfl rfl rfl rfl rfl rfl rfl rfl k hk
def c_size (h : ab_H) : Nat → Int32 := fun k => h (8 * k + 14) 8
def c_count (h : ab_H) (w : Int32) : Int32 := if w = 0 then h 2 2 else if w = 1 then h 2 6 else if w = 2 then h 0 3 else if w = 3 then h 3 8 else if w = 4 then h 3 7 else if w = 5 then m_sum (c_size h) 8 else if w = 6 then h 0 5
  else if w = 10 ∨ w = 11 ∨ w = 12 ∨ w = 13 then h 6 (w - 10).toNatClampNeg else -1
theorem c_count_d {h : ab_H} {w : Int32} (hn : ¬ w = 0 ∧ ¬ w = 1 ∧ ¬ w = 2 ∧ ¬ w = 3 ∧ ¬ w = 4 ∧ ¬ w = 5 ∧ ¬ w = 6 ∧ ¬ (w = 10 ∨ w = 11 ∨ w = 12 ∨ w = 13)) : c_count h w = -1 := by
  rw [c_count, if_neg hn.1, if_neg hn.2.1, if_neg hn.2.2.1, if_neg hn.2.2.2.1, if_neg hn.2.2.2.2.1, if_neg hn.2.2.2.2.2.1, if_neg hn.2.2.2.2.2.2.1, if_neg hn.2.2.2.2.2.2.2]
set_option maxRecDepth 100000 in
set_option maxHeartbeats 4000000 in
theorem lpX3_allNodes {l : Launch} {d : Nat} {h : ab_H} : ∀ (n : Nat) (k : Nat), k ≤ 8 → 8 < k + n → ab_J l layC mX3_allNodes (d) (ab_qi fun r h' => r = m_sum (c_size h) 8 ∧ h' = h) 4 [(0, ab_R 0), (1, ab_I (m_sum (c_size h) k)), (2, ab_I (nI k))] [] h := by
  intro n
  induction n with
  | zero =>
    intro k hk hn
    omega
  | succ n ih =>
    intro k hk hn
    refine ab_iload_n (pc := 4) dX3_allNodes_4 rfl rfl ?_
    refine ab_bipush (pc := 5) (v := 8) dX3_allNodes_5 (by decide) ?_
    refine ab_icmp_ge (pc := 7) 28 dX3_allNodes_7 (by decide) (fun c7 => ?_) (fun c7 => ?_)
    · obtain rfl := m_ge8 hk c7
      refine ab_iload_n (pc := 28) dX3_allNodes_28 rfl rfl ?_
      exact ab_reti (pc := 29) dX3_allNodes_29 rfl ⟨_, rfl, ⟨rfl, rfl⟩⟩
    · have hk2 := m_lt8 hk c7
      refine ab_iload_n (pc := 10) dX3_allNodes_10 rfl rfl ?_
      refine ab_aload_n (pc := 11) dX3_allNodes_11 rfl rfl ?_
      refine ab_getr (pc := 12) dX3_allNodes_12 fX3_11 rfl rfl ?_
      refine ab_iload_n (pc := 15) dX3_allNodes_15 rfl rfl ?_
      refine ab_aald (pc := 16) dX3_allNodes_16 rfl (c_js rfl hk2) (nI_pos (by omega)) ?_
      refine ab_geti (pc := 17) dX3_allNodes_17 fX3_63 (layC_o k hk2) rfl ?_
      refine ab_iadd (pc := 20) dX3_allNodes_20 ?_
      refine ab_istore_n (pc := 21) dX3_allNodes_21 rfl rfl ?_
      refine ab_iinc (pc := 22) (v := 1) dX3_allNodes_22 rfl (by decide) rfl ?_
      refine ab_goto (pc := 25) 4 dX3_allNodes_25 (by decide) ?_
      refine ab_weak [(0, ab_R 0), (1, ab_I (m_sum (c_size h) (k + 1))), (2, ab_I (nI k + 1))] ⟨rfl, rfl, rfl, trivial⟩ ?_
      rw [nI_1]
      exact ih (k + 1) (by omega) (by omega)

set_option maxRecDepth 100000 in
set_option maxHeartbeats 4000000 in
theorem kX3_allNodes {l : Launch} {d : Nat} {h : ab_H}  : ab_C l layC (d) mX3_allNodes [ab_R 0] h (ab_qi fun r h' => r = m_sum (c_size h) 8 ∧ h' = h) := by
  refine ab_enter (by decide) (Nat.le_of_ble_eq_true rfl) ?_
  refine ab_iconst (pc := 0) (v := 0) dX3_allNodes_0 (by decide) ?_
  refine ab_istore_n (pc := 1) dX3_allNodes_1 rfl rfl ?_
  refine ab_iconst (pc := 2) (v := 0) dX3_allNodes_2 (by decide) ?_
  refine ab_istore_n (pc := 3) dX3_allNodes_3 rfl rfl ?_
  refine ab_weak [(0, ab_R 0), (1, ab_I (m_sum (c_size h) 0)), (2, ab_I (nI 0))] ⟨rfl, rfl, rfl, trivial⟩ ?_
  exact lpX3_allNodes 9 0 (by omega) (by omega)

set_option maxRecDepth 100000 in
set_option maxHeartbeats 4000000 in
theorem kX3_given {l : Launch} {d : Nat} {h : ab_H}  : ab_C l layC (d) mX3_given [ab_R 0] h (ab_qi fun r h' => r = h 0 4 ∧ h' = h) := by
  refine ab_enter (by decide) (Nat.le_of_ble_eq_true rfl) ?_
  refine ab_aload_n (pc := 0) dX3_given_0 rfl rfl ?_
  refine ab_geti (pc := 1) dX3_given_1 fX3_96 rfl rfl ?_
  exact ab_reti (pc := 4) dX3_given_4 rfl ⟨_, rfl, ⟨rfl, rfl⟩⟩

set_option maxRecDepth 100000 in
set_option maxHeartbeats 4000000 in
theorem kX3_count {l : Launch} {d : Nat} {h : ab_H} {w : Int32}  : ab_C l layC (d + 1) mX3_count [ab_R 0, ab_I w] h (ab_qi fun r h' => r = c_count h w ∧ h' = h) := by
  refine ab_enter (by decide) (Nat.le_of_ble_eq_true rfl) ?_
  refine ab_iload_n (pc := 0) dX3_count_0 rfl rfl ?_
  refine ab_table (pc := 1) dX3_count_1 (by decide) (by decide) (by decide) (by decide) ?_
  refine ab_tw_c 0 72 (by decide) (by decide) (fun s1 => ?_) (fun n1_0 => ?_)
  · refine ab_aload_n (pc := 72) dX3_count_72 rfl rfl ?_
    refine ab_getr (pc := 73) dX3_count_73 fX3_19 rfl rfl ?_
    refine ab_geti (pc := 76) dX3_count_76 fX3_105 rfl rfl ?_
    exact ab_reti (pc := 79) dX3_count_79 rfl ⟨_, rfl, ⟨by rw [c_count, if_pos s1], rfl⟩⟩
  refine ab_tw_c 1 80 (by decide) (by decide) (fun s1 => ?_) (fun n1_1 => ?_)
  · refine ab_aload_n (pc := 80) dX3_count_80 rfl rfl ?_
    refine ab_getr (pc := 81) dX3_count_81 fX3_19 rfl rfl ?_
    refine ab_geti (pc := 84) dX3_count_84 fX3_82 rfl rfl ?_
    exact ab_reti (pc := 87) dX3_count_87 rfl ⟨_, rfl, ⟨by rw [c_count, if_neg n1_0, if_pos s1], rfl⟩⟩
  refine ab_tw_c 2 88 (by decide) (by decide) (fun s1 => ?_) (fun n1_2 => ?_)
  · refine ab_aload_n (pc := 88) dX3_count_88 rfl rfl ?_
    refine ab_geti (pc := 89) dX3_count_89 fX3_79 rfl rfl ?_
    exact ab_reti (pc := 92) dX3_count_92 rfl ⟨_, rfl, ⟨by rw [c_count, if_neg n1_0, if_neg n1_1, if_pos s1], rfl⟩⟩
  refine ab_tw_c 3 93 (by decide) (by decide) (fun s1 => ?_) (fun n1_3 => ?_)
  · refine ab_aload_n (pc := 93) dX3_count_93 rfl rfl ?_
    refine ab_getr (pc := 94) dX3_count_94 fX3_26 rfl rfl ?_
    refine ab_geti (pc := 97) dX3_count_97 fX3_114 rfl rfl ?_
    exact ab_reti (pc := 100) dX3_count_100 rfl ⟨_, rfl, ⟨by rw [c_count, if_neg n1_0, if_neg n1_1, if_neg n1_2, if_pos s1], rfl⟩⟩
  refine ab_tw_c 4 101 (by decide) (by decide) (fun s1 => ?_) (fun n1_4 => ?_)
  · refine ab_aload_n (pc := 101) dX3_count_101 rfl rfl ?_
    refine ab_getr (pc := 102) dX3_count_102 fX3_26 rfl rfl ?_
    refine ab_geti (pc := 105) dX3_count_105 fX3_117 rfl rfl ?_
    exact ab_reti (pc := 108) dX3_count_108 rfl ⟨_, rfl, ⟨by rw [c_count, if_neg n1_0, if_neg n1_1, if_neg n1_2, if_neg n1_3, if_pos s1], rfl⟩⟩
  refine ab_tw_c 5 109 (by decide) (by decide) (fun s1 => ?_) (fun n1_5 => ?_)
  · refine ab_aload_n (pc := 109) dX3_count_109 rfl rfl ?_
    refine ab_V0 (pc := 110) dX3_count_110 mvX3_120 rfl rfl (kX3_allNodes) (ab_ki fun r110 h110 e110 => ?_)
    obtain ⟨rfl, rfl⟩ := And.intro e110.1.symm e110.2.symm
    exact ab_reti (pc := 113) dX3_count_113 rfl ⟨_, rfl, ⟨by rw [c_count, if_neg n1_0, if_neg n1_1, if_neg n1_2, if_neg n1_3, if_neg n1_4, if_pos s1], rfl⟩⟩
  refine ab_tw_c 6 114 (by decide) (by decide) (fun s1 => ?_) (fun n1_6 => ?_)
  · refine ab_aload_n (pc := 114) dX3_count_114 rfl rfl ?_
    refine ab_geti (pc := 115) dX3_count_115 fX3_76 rfl rfl ?_
    exact ab_reti (pc := 118) dX3_count_118 rfl ⟨_, rfl, ⟨by rw [c_count, if_neg n1_0, if_neg n1_1, if_neg n1_2, if_neg n1_3, if_neg n1_4, if_neg n1_5, if_pos s1], rfl⟩⟩
  refine ab_tw_c 7 132 (by decide) (by decide) (fun s1 => ?_) (fun n1_7 => ?_)
  · have hd : ¬ w = 0 ∧ ¬ w = 1 ∧ ¬ w = 2 ∧ ¬ w = 3 ∧ ¬ w = 4 ∧ ¬ w = 5 ∧ ¬ w = 6 ∧ ¬ (w = 10 ∨ w = 11 ∨ w = 12 ∨ w = 13) := by first | (rw [s1]; decide) | exact ⟨n1_0, n1_1, n1_2, n1_3, n1_4, n1_5, n1_6, fun q => q.elim n1_10 (fun q => q.elim n1_11 (fun q => q.elim n1_12 n1_13))⟩
    refine ab_iconst (pc := 132) (v := (-1)) dX3_count_132 (by decide) ?_
    exact ab_reti (pc := 133) dX3_count_133 rfl ⟨_, rfl, ⟨(c_count_d hd).symm, rfl⟩⟩
  refine ab_tw_c 8 132 (by decide) (by decide) (fun s1 => ?_) (fun n1_8 => ?_)
  · have hd : ¬ w = 0 ∧ ¬ w = 1 ∧ ¬ w = 2 ∧ ¬ w = 3 ∧ ¬ w = 4 ∧ ¬ w = 5 ∧ ¬ w = 6 ∧ ¬ (w = 10 ∨ w = 11 ∨ w = 12 ∨ w = 13) := by first | (rw [s1]; decide) | exact ⟨n1_0, n1_1, n1_2, n1_3, n1_4, n1_5, n1_6, fun q => q.elim n1_10 (fun q => q.elim n1_11 (fun q => q.elim n1_12 n1_13))⟩
    refine ab_iconst (pc := 132) (v := (-1)) dX3_count_132 (by decide) ?_
    exact ab_reti (pc := 133) dX3_count_133 rfl ⟨_, rfl, ⟨(c_count_d hd).symm, rfl⟩⟩
  refine ab_tw_c 9 132 (by decide) (by decide) (fun s1 => ?_) (fun n1_9 => ?_)
  · have hd : ¬ w = 0 ∧ ¬ w = 1 ∧ ¬ w = 2 ∧ ¬ w = 3 ∧ ¬ w = 4 ∧ ¬ w = 5 ∧ ¬ w = 6 ∧ ¬ (w = 10 ∨ w = 11 ∨ w = 12 ∨ w = 13) := by first | (rw [s1]; decide) | exact ⟨n1_0, n1_1, n1_2, n1_3, n1_4, n1_5, n1_6, fun q => q.elim n1_10 (fun q => q.elim n1_11 (fun q => q.elim n1_12 n1_13))⟩
    refine ab_iconst (pc := 132) (v := (-1)) dX3_count_132 (by decide) ?_
    exact ab_reti (pc := 133) dX3_count_133 rfl ⟨_, rfl, ⟨(c_count_d hd).symm, rfl⟩⟩
  refine ab_tw_c 10 119 (by decide) (by decide) (fun s1 => ?_) (fun n1_10 => ?_)
  · have ew : w = 10 ∨ w = 11 ∨ w = 12 ∨ w = 13 := by rw [s1]; decide
    have hb4 : vp_in (w - 10) 4 := by
      rcases ew with z | z | z | z <;> rw [z]
      · exact vp_in_nI (n := 0) (by omega) (by omega)
      · exact vp_in_nI (n := 1) (by omega) (by omega)
      · exact vp_in_nI (n := 2) (by omega) (by omega)
      · exact vp_in_nI (n := 3) (by omega) (by omega)
    refine ab_aload_n (pc := 119) dX3_count_119 rfl rfl ?_
    refine ab_getr (pc := 120) dX3_count_120 fX3_19 rfl rfl ?_
    refine ab_getr (pc := 123) dX3_count_123 fX3_124 rfl rfl ?_
    refine ab_iload_n (pc := 126) dX3_count_126 rfl rfl ?_
    refine ab_bipush (pc := 127) (v := 10) dX3_count_127 (by decide) ?_
    refine ab_isub (pc := 129) dX3_count_129 ?_
    refine ab_iald (pc := 130) dX3_count_130 rfl hb4 ?_
    exact ab_reti (pc := 131) dX3_count_131 rfl ⟨_, rfl, ⟨by rw [c_count, if_neg n1_0, if_neg n1_1, if_neg n1_2, if_neg n1_3, if_neg n1_4, if_neg n1_5, if_neg n1_6, if_pos ew], rfl⟩⟩
  refine ab_tw_c 11 119 (by decide) (by decide) (fun s1 => ?_) (fun n1_11 => ?_)
  · have ew : w = 10 ∨ w = 11 ∨ w = 12 ∨ w = 13 := by rw [s1]; decide
    have hb4 : vp_in (w - 10) 4 := by
      rcases ew with z | z | z | z <;> rw [z]
      · exact vp_in_nI (n := 0) (by omega) (by omega)
      · exact vp_in_nI (n := 1) (by omega) (by omega)
      · exact vp_in_nI (n := 2) (by omega) (by omega)
      · exact vp_in_nI (n := 3) (by omega) (by omega)
    refine ab_aload_n (pc := 119) dX3_count_119 rfl rfl ?_
    refine ab_getr (pc := 120) dX3_count_120 fX3_19 rfl rfl ?_
    refine ab_getr (pc := 123) dX3_count_123 fX3_124 rfl rfl ?_
    refine ab_iload_n (pc := 126) dX3_count_126 rfl rfl ?_
    refine ab_bipush (pc := 127) (v := 10) dX3_count_127 (by decide) ?_
    refine ab_isub (pc := 129) dX3_count_129 ?_
    refine ab_iald (pc := 130) dX3_count_130 rfl hb4 ?_
    exact ab_reti (pc := 131) dX3_count_131 rfl ⟨_, rfl, ⟨by rw [c_count, if_neg n1_0, if_neg n1_1, if_neg n1_2, if_neg n1_3, if_neg n1_4, if_neg n1_5, if_neg n1_6, if_pos ew], rfl⟩⟩
  refine ab_tw_c 12 119 (by decide) (by decide) (fun s1 => ?_) (fun n1_12 => ?_)
  · have ew : w = 10 ∨ w = 11 ∨ w = 12 ∨ w = 13 := by rw [s1]; decide
    have hb4 : vp_in (w - 10) 4 := by
      rcases ew with z | z | z | z <;> rw [z]
      · exact vp_in_nI (n := 0) (by omega) (by omega)
      · exact vp_in_nI (n := 1) (by omega) (by omega)
      · exact vp_in_nI (n := 2) (by omega) (by omega)
      · exact vp_in_nI (n := 3) (by omega) (by omega)
    refine ab_aload_n (pc := 119) dX3_count_119 rfl rfl ?_
    refine ab_getr (pc := 120) dX3_count_120 fX3_19 rfl rfl ?_
    refine ab_getr (pc := 123) dX3_count_123 fX3_124 rfl rfl ?_
    refine ab_iload_n (pc := 126) dX3_count_126 rfl rfl ?_
    refine ab_bipush (pc := 127) (v := 10) dX3_count_127 (by decide) ?_
    refine ab_isub (pc := 129) dX3_count_129 ?_
    refine ab_iald (pc := 130) dX3_count_130 rfl hb4 ?_
    exact ab_reti (pc := 131) dX3_count_131 rfl ⟨_, rfl, ⟨by rw [c_count, if_neg n1_0, if_neg n1_1, if_neg n1_2, if_neg n1_3, if_neg n1_4, if_neg n1_5, if_neg n1_6, if_pos ew], rfl⟩⟩
  refine ab_tw_c 13 119 (by decide) (by decide) (fun s1 => ?_) (fun n1_13 => ?_)
  · have ew : w = 10 ∨ w = 11 ∨ w = 12 ∨ w = 13 := by rw [s1]; decide
    have hb4 : vp_in (w - 10) 4 := by
      rcases ew with z | z | z | z <;> rw [z]
      · exact vp_in_nI (n := 0) (by omega) (by omega)
      · exact vp_in_nI (n := 1) (by omega) (by omega)
      · exact vp_in_nI (n := 2) (by omega) (by omega)
      · exact vp_in_nI (n := 3) (by omega) (by omega)
    refine ab_aload_n (pc := 119) dX3_count_119 rfl rfl ?_
    refine ab_getr (pc := 120) dX3_count_120 fX3_19 rfl rfl ?_
    refine ab_getr (pc := 123) dX3_count_123 fX3_124 rfl rfl ?_
    refine ab_iload_n (pc := 126) dX3_count_126 rfl rfl ?_
    refine ab_bipush (pc := 127) (v := 10) dX3_count_127 (by decide) ?_
    refine ab_isub (pc := 129) dX3_count_129 ?_
    refine ab_iald (pc := 130) dX3_count_130 rfl hb4 ?_
    exact ab_reti (pc := 131) dX3_count_131 rfl ⟨_, rfl, ⟨by rw [c_count, if_neg n1_0, if_neg n1_1, if_neg n1_2, if_neg n1_3, if_neg n1_4, if_neg n1_5, if_neg n1_6, if_pos ew], rfl⟩⟩
  refine ab_tw_n 132 (by decide) ?_
  have hd : ¬ w = 0 ∧ ¬ w = 1 ∧ ¬ w = 2 ∧ ¬ w = 3 ∧ ¬ w = 4 ∧ ¬ w = 5 ∧ ¬ w = 6 ∧ ¬ (w = 10 ∨ w = 11 ∨ w = 12 ∨ w = 13) := by first | (rw [s1]; decide) | exact ⟨n1_0, n1_1, n1_2, n1_3, n1_4, n1_5, n1_6, fun q => q.elim n1_10 (fun q => q.elim n1_11 (fun q => q.elim n1_12 n1_13))⟩
  refine ab_iconst (pc := 132) (v := (-1)) dX3_count_132 (by decide) ?_
  exact ab_reti (pc := 133) dX3_count_133 rfl ⟨_, rfl, ⟨(c_count_d hd).symm, rfl⟩⟩

theorem c_step_d {h : ab_H} {s a b : Int32} (hn : ¬ s = 0 ∧ ¬ s = 1 ∧ ¬ s = 2 ∧ ¬ s = 3 ∧ ¬ s = 4 ∧ ¬ s = 5 ∧ ¬ s = 6 ∧ ¬ s = 7 ∧ ¬ s = 8 ∧ ¬ s = 23) : 0 = c_way (c_stepK h s a b) (c_stepN h s a b) ∧ h = c_step h s a b := by
  obtain ⟨q0, q1, q2, q3, q4, q5, q6, q7, q8, q23⟩ := hn
  refine ⟨?_, ?_⟩
  · rw [c_stepK, if_neg q3, if_neg q4, if_neg q5, if_neg q6, if_neg q8, c_stepN, if_neg q3, if_neg q4, if_neg q5, if_neg q6, if_neg q8]
    exact c_way0.symm
  · rw [c_step, if_neg q0, if_neg q1, if_neg q2, if_neg q3, if_neg q4, if_neg q5, if_neg q6, if_neg q7, if_neg q8, if_neg q23]
set_option maxRecDepth 100000 in
set_option maxHeartbeats 4000000 in
theorem kX3_doStep {l : Launch} {d : Nat} {h : ab_H} {s a b : Int32} {u : Nat} (hA : s = 0 ∨ s = 1 ∨ s = 2 ∨ s = 3 ∨ s = 4 ∨ s = 5 ∨ s = 6 → vp_in a 8) (hB : s = 3 ∨ s = 4 ∨ s = 5 → vp_in b 8) (hS : s = 7 ∨ s = 8 → vp_in a 4) (hlg : ¬ 100 ≤ h 2 6 → vp_in (h 2 6) 100) (hpl : c_pok h) (hu : h 3 5 = nI u) (hu2 : u ≤ 60) : ab_C l layC (d + 4) mX3_doStep [ab_R 0, ab_I s, ab_I a, ab_I b] h (ab_ql fun r h' => r = c_way (c_stepK h s a b) (c_stepN h s a b) ∧ h' = c_step h s a b) := by
  refine ab_enter (by decide) (Nat.le_of_ble_eq_true rfl) ?_
  have hr : c_room h = true → vp_in (h 3 5) 60 := fun c => by rw [hu]; exact vp_in_nI (c_room_u hu hu2 c) (by omega)
  refine ab_iload_n (pc := 0) dX3_doStep_0 rfl rfl ?_
  refine ab_table (pc := 1) dX3_doStep_1 (by decide) (by decide) (by decide) (by decide) ?_
  refine ab_tw_c 0 112 (by decide) (by decide) (fun s1 => ?_) (fun n1_0 => ?_)
  · refine ab_aload_n (pc := 112) dX3_doStep_112 rfl rfl ?_
    refine ab_iload_n (pc := 113) dX3_doStep_113 rfl rfl ?_
    refine ab_V1 (pc := 114) dX3_doStep_114 mvX3_202 rfl rfl (kX3_doNote (hA (by simp only [s1]; decide)) hlg) (ab_kl fun r114 h114 e114 => ?_)
    obtain ⟨rfl, rfl⟩ := And.intro e114.1.symm e114.2.symm
    exact ab_retl (pc := 117) dX3_doStep_117 rfl ⟨_, rfl, ⟨by rw [c_stepK, if_neg (show ¬ s = 3 by rw [s1]; decide), if_neg (show ¬ s = 4 by rw [s1]; decide), if_neg (show ¬ s = 5 by rw [s1]; decide), if_neg (show ¬ s = 6 by rw [s1]; decide), if_neg (show ¬ s = 8 by rw [s1]; decide), c_stepN, if_neg (show ¬ s = 3 by rw [s1]; decide), if_neg (show ¬ s = 4 by rw [s1]; decide), if_neg (show ¬ s = 5 by rw [s1]; decide), if_neg (show ¬ s = 6 by rw [s1]; decide), if_neg (show ¬ s = 8 by rw [s1]; decide)], by rw [c_step, if_pos s1]⟩⟩
  refine ab_tw_c 1 118 (by decide) (by decide) (fun s1 => ?_) (fun n1_1 => ?_)
  · refine ab_aload_n (pc := 118) dX3_doStep_118 rfl rfl ?_
    refine ab_iload_n (pc := 119) dX3_doStep_119 rfl rfl ?_
    refine ab_iload_n (pc := 120) dX3_doStep_120 rfl rfl ?_
    refine ab_V2 (pc := 121) dX3_doStep_121 mvX3_205 rfl rfl (kX3_doAdd (hA (by simp only [s1]; decide)) hr) (ab_kl fun r121 h121 e121 => ?_)
    obtain ⟨rfl, rfl⟩ := And.intro e121.1.symm e121.2.symm
    exact ab_retl (pc := 124) dX3_doStep_124 rfl ⟨_, rfl, ⟨by rw [c_stepK, if_neg (show ¬ s = 3 by rw [s1]; decide), if_neg (show ¬ s = 4 by rw [s1]; decide), if_neg (show ¬ s = 5 by rw [s1]; decide), if_neg (show ¬ s = 6 by rw [s1]; decide), if_neg (show ¬ s = 8 by rw [s1]; decide), c_stepN, if_neg (show ¬ s = 3 by rw [s1]; decide), if_neg (show ¬ s = 4 by rw [s1]; decide), if_neg (show ¬ s = 5 by rw [s1]; decide), if_neg (show ¬ s = 6 by rw [s1]; decide), if_neg (show ¬ s = 8 by rw [s1]; decide)], by rw [c_step, if_neg n1_0, if_pos s1]⟩⟩
  refine ab_tw_c 2 125 (by decide) (by decide) (fun s1 => ?_) (fun n1_2 => ?_)
  · refine ab_aload_n (pc := 125) dX3_doStep_125 rfl rfl ?_
    refine ab_iload_n (pc := 126) dX3_doStep_126 rfl rfl ?_
    refine ab_iload_n (pc := 127) dX3_doStep_127 rfl rfl ?_
    refine ab_V2 (pc := 128) dX3_doStep_128 mvX3_208 rfl rfl (kX3_doSet (hA (by simp only [s1]; decide)) hr) (ab_kl fun r128 h128 e128 => ?_)
    obtain ⟨rfl, rfl⟩ := And.intro e128.1.symm e128.2.symm
    exact ab_retl (pc := 131) dX3_doStep_131 rfl ⟨_, rfl, ⟨by rw [c_stepK, if_neg (show ¬ s = 3 by rw [s1]; decide), if_neg (show ¬ s = 4 by rw [s1]; decide), if_neg (show ¬ s = 5 by rw [s1]; decide), if_neg (show ¬ s = 6 by rw [s1]; decide), if_neg (show ¬ s = 8 by rw [s1]; decide), c_stepN, if_neg (show ¬ s = 3 by rw [s1]; decide), if_neg (show ¬ s = 4 by rw [s1]; decide), if_neg (show ¬ s = 5 by rw [s1]; decide), if_neg (show ¬ s = 6 by rw [s1]; decide), if_neg (show ¬ s = 8 by rw [s1]; decide)], by rw [c_step, if_neg n1_0, if_neg n1_1, if_pos s1]⟩⟩
  refine ab_tw_c 3 132 (by decide) (by decide) (fun s1 => ?_) (fun n1_3 => ?_)
  · refine ab_aload_n (pc := 132) dX3_doStep_132 rfl rfl ?_
    refine ab_iload_n (pc := 133) dX3_doStep_133 rfl rfl ?_
    refine ab_iload_n (pc := 134) dX3_doStep_134 rfl rfl ?_
    refine ab_V2 (pc := 135) dX3_doStep_135 mvX3_211 rfl rfl (kX3_doDivide (hA (by simp only [s1]; decide)) (hB (by simp only [s1]; decide)) hr) (ab_kl fun r135 h135 e135 => ?_)
    obtain ⟨rfl, rfl⟩ := And.intro e135.1.symm e135.2.symm
    exact ab_retl (pc := 138) dX3_doStep_138 rfl ⟨_, rfl, ⟨by rw [c_stepK, if_pos s1, c_stepN, if_pos s1], by rw [c_step, if_neg n1_0, if_neg n1_1, if_neg n1_2, if_pos s1]⟩⟩
  refine ab_tw_c 4 139 (by decide) (by decide) (fun s1 => ?_) (fun n1_4 => ?_)
  · refine ab_aload_n (pc := 139) dX3_doStep_139 rfl rfl ?_
    refine ab_iload_n (pc := 140) dX3_doStep_140 rfl rfl ?_
    refine ab_iload_n (pc := 141) dX3_doStep_141 rfl rfl ?_
    refine ab_V2 (pc := 142) dX3_doStep_142 mvX3_214 rfl rfl (kX3_doRead (hA (by simp only [s1]; decide)) (hB (by simp only [s1]; decide)) hpl) (ab_kl fun r142 h142 e142 => ?_)
    obtain ⟨rfl, rfl⟩ := And.intro e142.1.symm e142.2.symm
    exact ab_retl (pc := 145) dX3_doStep_145 rfl ⟨_, rfl, ⟨by rw [c_stepK, if_neg n1_3, if_pos s1, c_stepN, if_neg n1_3, if_pos s1], by rw [c_step, if_neg n1_0, if_neg n1_1, if_neg n1_2, if_neg n1_3, if_pos s1]⟩⟩
  refine ab_tw_c 5 146 (by decide) (by decide) (fun s1 => ?_) (fun n1_5 => ?_)
  · refine ab_aload_n (pc := 146) dX3_doStep_146 rfl rfl ?_
    refine ab_iload_n (pc := 147) dX3_doStep_147 rfl rfl ?_
    refine ab_iload_n (pc := 148) dX3_doStep_148 rfl rfl ?_
    refine ab_V2 (pc := 149) dX3_doStep_149 mvX3_217 rfl rfl (kX3_doWrite (hA (by simp only [s1]; decide)) (hB (by simp only [s1]; decide)) hpl hr) (ab_kl fun r149 h149 e149 => ?_)
    obtain ⟨rfl, rfl⟩ := And.intro e149.1.symm e149.2.symm
    exact ab_retl (pc := 152) dX3_doStep_152 rfl ⟨_, rfl, ⟨by rw [c_stepK, if_neg n1_3, if_neg n1_4, if_pos s1, c_stepN, if_neg n1_3, if_neg n1_4, if_pos s1], by rw [c_step, if_neg n1_0, if_neg n1_1, if_neg n1_2, if_neg n1_3, if_neg n1_4, if_pos s1]⟩⟩
  refine ab_tw_c 6 153 (by decide) (by decide) (fun s1 => ?_) (fun n1_6 => ?_)
  · refine ab_aload_n (pc := 153) dX3_doStep_153 rfl rfl ?_
    refine ab_iload_n (pc := 154) dX3_doStep_154 rfl rfl ?_
    refine ab_V1 (pc := 155) dX3_doStep_155 mvX3_220 rfl rfl (kX3_doMake (hA (by simp only [s1]; decide)) hu hu2) (ab_kl fun r155 h155 e155 => ?_)
    obtain ⟨rfl, rfl⟩ := And.intro e155.1.symm e155.2.symm
    exact ab_retl (pc := 158) dX3_doStep_158 rfl ⟨_, rfl, ⟨by rw [c_stepK, if_neg n1_3, if_neg n1_4, if_neg n1_5, if_pos s1, c_stepN, if_neg n1_3, if_neg n1_4, if_neg n1_5, if_pos s1], by rw [c_step, if_neg n1_0, if_neg n1_1, if_neg n1_2, if_neg n1_3, if_neg n1_4, if_neg n1_5, if_pos s1]⟩⟩
  refine ab_tw_c 7 159 (by decide) (by decide) (fun s1 => ?_) (fun n1_7 => ?_)
  · refine ab_aload_n (pc := 159) dX3_doStep_159 rfl rfl ?_
    refine ab_iload_n (pc := 160) dX3_doStep_160 rfl rfl ?_
    refine ab_iload_n (pc := 161) dX3_doStep_161 rfl rfl ?_
    refine ab_V2 (pc := 162) dX3_doStep_162 mvX3_223 rfl rfl (kX3_doHold (hS (by simp only [s1]; decide)) hu hu2) (ab_kl fun r162 h162 e162 => ?_)
    obtain ⟨rfl, rfl⟩ := And.intro e162.1.symm e162.2.symm
    exact ab_retl (pc := 165) dX3_doStep_165 rfl ⟨_, rfl, ⟨by rw [c_stepK, if_neg n1_3, if_neg n1_4, if_neg n1_5, if_neg n1_6, if_neg (show ¬ s = 8 by rw [s1]; decide), c_stepN, if_neg n1_3, if_neg n1_4, if_neg n1_5, if_neg n1_6, if_neg (show ¬ s = 8 by rw [s1]; decide)], by rw [c_step, if_neg n1_0, if_neg n1_1, if_neg n1_2, if_neg n1_3, if_neg n1_4, if_neg n1_5, if_neg n1_6, if_pos s1]⟩⟩
  refine ab_tw_c 8 166 (by decide) (by decide) (fun s1 => ?_) (fun n1_8 => ?_)
  · refine ab_aload_n (pc := 166) dX3_doStep_166 rfl rfl ?_
    refine ab_iload_n (pc := 167) dX3_doStep_167 rfl rfl ?_
    refine ab_V1 (pc := 168) dX3_doStep_168 mvX3_226 rfl rfl (kX3_doUse (hS (by simp only [s1]; decide)) hlg) (ab_kl fun r168 h168 e168 => ?_)
    obtain ⟨rfl, rfl⟩ := And.intro e168.1.symm e168.2.symm
    exact ab_retl (pc := 171) dX3_doStep_171 rfl ⟨_, rfl, ⟨by rw [c_stepK, if_neg n1_3, if_neg n1_4, if_neg n1_5, if_neg n1_6, if_pos s1, c_stepN, if_neg n1_3, if_neg n1_4, if_neg n1_5, if_neg n1_6, if_pos s1], by rw [c_step, if_neg n1_0, if_neg n1_1, if_neg n1_2, if_neg n1_3, if_neg n1_4, if_neg n1_5, if_neg n1_6, if_neg n1_7, if_pos s1]⟩⟩
  refine ab_tw_c 9 177 (by decide) (by decide) (fun s1 => ?_) (fun n1_9 => ?_)
  · have hd : ¬ s = 0 ∧ ¬ s = 1 ∧ ¬ s = 2 ∧ ¬ s = 3 ∧ ¬ s = 4 ∧ ¬ s = 5 ∧ ¬ s = 6 ∧ ¬ s = 7 ∧ ¬ s = 8 ∧ ¬ s = 23 := by first | (rw [s1]; decide) | exact And.intro n1_0 (And.intro n1_1 (And.intro n1_2 (And.intro n1_3 (And.intro n1_4 (And.intro n1_5 (And.intro n1_6 (And.intro n1_7 (And.intro n1_8 n1_23))))))))
    refine ab_lconst (pc := 177) (v := 0) dX3_doStep_177 (by decide) ?_
    exact ab_retl (pc := 178) dX3_doStep_178 rfl ⟨_, rfl, (c_step_d hd)⟩
  refine ab_tw_c 10 177 (by decide) (by decide) (fun s1 => ?_) (fun n1_10 => ?_)
  · have hd : ¬ s = 0 ∧ ¬ s = 1 ∧ ¬ s = 2 ∧ ¬ s = 3 ∧ ¬ s = 4 ∧ ¬ s = 5 ∧ ¬ s = 6 ∧ ¬ s = 7 ∧ ¬ s = 8 ∧ ¬ s = 23 := by first | (rw [s1]; decide) | exact And.intro n1_0 (And.intro n1_1 (And.intro n1_2 (And.intro n1_3 (And.intro n1_4 (And.intro n1_5 (And.intro n1_6 (And.intro n1_7 (And.intro n1_8 n1_23))))))))
    refine ab_lconst (pc := 177) (v := 0) dX3_doStep_177 (by decide) ?_
    exact ab_retl (pc := 178) dX3_doStep_178 rfl ⟨_, rfl, (c_step_d hd)⟩
  refine ab_tw_c 11 177 (by decide) (by decide) (fun s1 => ?_) (fun n1_11 => ?_)
  · have hd : ¬ s = 0 ∧ ¬ s = 1 ∧ ¬ s = 2 ∧ ¬ s = 3 ∧ ¬ s = 4 ∧ ¬ s = 5 ∧ ¬ s = 6 ∧ ¬ s = 7 ∧ ¬ s = 8 ∧ ¬ s = 23 := by first | (rw [s1]; decide) | exact And.intro n1_0 (And.intro n1_1 (And.intro n1_2 (And.intro n1_3 (And.intro n1_4 (And.intro n1_5 (And.intro n1_6 (And.intro n1_7 (And.intro n1_8 n1_23))))))))
    refine ab_lconst (pc := 177) (v := 0) dX3_doStep_177 (by decide) ?_
    exact ab_retl (pc := 178) dX3_doStep_178 rfl ⟨_, rfl, (c_step_d hd)⟩
  refine ab_tw_c 12 177 (by decide) (by decide) (fun s1 => ?_) (fun n1_12 => ?_)
  · have hd : ¬ s = 0 ∧ ¬ s = 1 ∧ ¬ s = 2 ∧ ¬ s = 3 ∧ ¬ s = 4 ∧ ¬ s = 5 ∧ ¬ s = 6 ∧ ¬ s = 7 ∧ ¬ s = 8 ∧ ¬ s = 23 := by first | (rw [s1]; decide) | exact And.intro n1_0 (And.intro n1_1 (And.intro n1_2 (And.intro n1_3 (And.intro n1_4 (And.intro n1_5 (And.intro n1_6 (And.intro n1_7 (And.intro n1_8 n1_23))))))))
    refine ab_lconst (pc := 177) (v := 0) dX3_doStep_177 (by decide) ?_
    exact ab_retl (pc := 178) dX3_doStep_178 rfl ⟨_, rfl, (c_step_d hd)⟩
  refine ab_tw_c 13 177 (by decide) (by decide) (fun s1 => ?_) (fun n1_13 => ?_)
  · have hd : ¬ s = 0 ∧ ¬ s = 1 ∧ ¬ s = 2 ∧ ¬ s = 3 ∧ ¬ s = 4 ∧ ¬ s = 5 ∧ ¬ s = 6 ∧ ¬ s = 7 ∧ ¬ s = 8 ∧ ¬ s = 23 := by first | (rw [s1]; decide) | exact And.intro n1_0 (And.intro n1_1 (And.intro n1_2 (And.intro n1_3 (And.intro n1_4 (And.intro n1_5 (And.intro n1_6 (And.intro n1_7 (And.intro n1_8 n1_23))))))))
    refine ab_lconst (pc := 177) (v := 0) dX3_doStep_177 (by decide) ?_
    exact ab_retl (pc := 178) dX3_doStep_178 rfl ⟨_, rfl, (c_step_d hd)⟩
  refine ab_tw_c 14 177 (by decide) (by decide) (fun s1 => ?_) (fun n1_14 => ?_)
  · have hd : ¬ s = 0 ∧ ¬ s = 1 ∧ ¬ s = 2 ∧ ¬ s = 3 ∧ ¬ s = 4 ∧ ¬ s = 5 ∧ ¬ s = 6 ∧ ¬ s = 7 ∧ ¬ s = 8 ∧ ¬ s = 23 := by first | (rw [s1]; decide) | exact And.intro n1_0 (And.intro n1_1 (And.intro n1_2 (And.intro n1_3 (And.intro n1_4 (And.intro n1_5 (And.intro n1_6 (And.intro n1_7 (And.intro n1_8 n1_23))))))))
    refine ab_lconst (pc := 177) (v := 0) dX3_doStep_177 (by decide) ?_
    exact ab_retl (pc := 178) dX3_doStep_178 rfl ⟨_, rfl, (c_step_d hd)⟩
  refine ab_tw_c 15 177 (by decide) (by decide) (fun s1 => ?_) (fun n1_15 => ?_)
  · have hd : ¬ s = 0 ∧ ¬ s = 1 ∧ ¬ s = 2 ∧ ¬ s = 3 ∧ ¬ s = 4 ∧ ¬ s = 5 ∧ ¬ s = 6 ∧ ¬ s = 7 ∧ ¬ s = 8 ∧ ¬ s = 23 := by first | (rw [s1]; decide) | exact And.intro n1_0 (And.intro n1_1 (And.intro n1_2 (And.intro n1_3 (And.intro n1_4 (And.intro n1_5 (And.intro n1_6 (And.intro n1_7 (And.intro n1_8 n1_23))))))))
    refine ab_lconst (pc := 177) (v := 0) dX3_doStep_177 (by decide) ?_
    exact ab_retl (pc := 178) dX3_doStep_178 rfl ⟨_, rfl, (c_step_d hd)⟩
  refine ab_tw_c 16 177 (by decide) (by decide) (fun s1 => ?_) (fun n1_16 => ?_)
  · have hd : ¬ s = 0 ∧ ¬ s = 1 ∧ ¬ s = 2 ∧ ¬ s = 3 ∧ ¬ s = 4 ∧ ¬ s = 5 ∧ ¬ s = 6 ∧ ¬ s = 7 ∧ ¬ s = 8 ∧ ¬ s = 23 := by first | (rw [s1]; decide) | exact And.intro n1_0 (And.intro n1_1 (And.intro n1_2 (And.intro n1_3 (And.intro n1_4 (And.intro n1_5 (And.intro n1_6 (And.intro n1_7 (And.intro n1_8 n1_23))))))))
    refine ab_lconst (pc := 177) (v := 0) dX3_doStep_177 (by decide) ?_
    exact ab_retl (pc := 178) dX3_doStep_178 rfl ⟨_, rfl, (c_step_d hd)⟩
  refine ab_tw_c 17 177 (by decide) (by decide) (fun s1 => ?_) (fun n1_17 => ?_)
  · have hd : ¬ s = 0 ∧ ¬ s = 1 ∧ ¬ s = 2 ∧ ¬ s = 3 ∧ ¬ s = 4 ∧ ¬ s = 5 ∧ ¬ s = 6 ∧ ¬ s = 7 ∧ ¬ s = 8 ∧ ¬ s = 23 := by first | (rw [s1]; decide) | exact And.intro n1_0 (And.intro n1_1 (And.intro n1_2 (And.intro n1_3 (And.intro n1_4 (And.intro n1_5 (And.intro n1_6 (And.intro n1_7 (And.intro n1_8 n1_23))))))))
    refine ab_lconst (pc := 177) (v := 0) dX3_doStep_177 (by decide) ?_
    exact ab_retl (pc := 178) dX3_doStep_178 rfl ⟨_, rfl, (c_step_d hd)⟩
  refine ab_tw_c 18 177 (by decide) (by decide) (fun s1 => ?_) (fun n1_18 => ?_)
  · have hd : ¬ s = 0 ∧ ¬ s = 1 ∧ ¬ s = 2 ∧ ¬ s = 3 ∧ ¬ s = 4 ∧ ¬ s = 5 ∧ ¬ s = 6 ∧ ¬ s = 7 ∧ ¬ s = 8 ∧ ¬ s = 23 := by first | (rw [s1]; decide) | exact And.intro n1_0 (And.intro n1_1 (And.intro n1_2 (And.intro n1_3 (And.intro n1_4 (And.intro n1_5 (And.intro n1_6 (And.intro n1_7 (And.intro n1_8 n1_23))))))))
    refine ab_lconst (pc := 177) (v := 0) dX3_doStep_177 (by decide) ?_
    exact ab_retl (pc := 178) dX3_doStep_178 rfl ⟨_, rfl, (c_step_d hd)⟩
  refine ab_tw_c 19 177 (by decide) (by decide) (fun s1 => ?_) (fun n1_19 => ?_)
  · have hd : ¬ s = 0 ∧ ¬ s = 1 ∧ ¬ s = 2 ∧ ¬ s = 3 ∧ ¬ s = 4 ∧ ¬ s = 5 ∧ ¬ s = 6 ∧ ¬ s = 7 ∧ ¬ s = 8 ∧ ¬ s = 23 := by first | (rw [s1]; decide) | exact And.intro n1_0 (And.intro n1_1 (And.intro n1_2 (And.intro n1_3 (And.intro n1_4 (And.intro n1_5 (And.intro n1_6 (And.intro n1_7 (And.intro n1_8 n1_23))))))))
    refine ab_lconst (pc := 177) (v := 0) dX3_doStep_177 (by decide) ?_
    exact ab_retl (pc := 178) dX3_doStep_178 rfl ⟨_, rfl, (c_step_d hd)⟩
  refine ab_tw_c 20 177 (by decide) (by decide) (fun s1 => ?_) (fun n1_20 => ?_)
  · have hd : ¬ s = 0 ∧ ¬ s = 1 ∧ ¬ s = 2 ∧ ¬ s = 3 ∧ ¬ s = 4 ∧ ¬ s = 5 ∧ ¬ s = 6 ∧ ¬ s = 7 ∧ ¬ s = 8 ∧ ¬ s = 23 := by first | (rw [s1]; decide) | exact And.intro n1_0 (And.intro n1_1 (And.intro n1_2 (And.intro n1_3 (And.intro n1_4 (And.intro n1_5 (And.intro n1_6 (And.intro n1_7 (And.intro n1_8 n1_23))))))))
    refine ab_lconst (pc := 177) (v := 0) dX3_doStep_177 (by decide) ?_
    exact ab_retl (pc := 178) dX3_doStep_178 rfl ⟨_, rfl, (c_step_d hd)⟩
  refine ab_tw_c 21 177 (by decide) (by decide) (fun s1 => ?_) (fun n1_21 => ?_)
  · have hd : ¬ s = 0 ∧ ¬ s = 1 ∧ ¬ s = 2 ∧ ¬ s = 3 ∧ ¬ s = 4 ∧ ¬ s = 5 ∧ ¬ s = 6 ∧ ¬ s = 7 ∧ ¬ s = 8 ∧ ¬ s = 23 := by first | (rw [s1]; decide) | exact And.intro n1_0 (And.intro n1_1 (And.intro n1_2 (And.intro n1_3 (And.intro n1_4 (And.intro n1_5 (And.intro n1_6 (And.intro n1_7 (And.intro n1_8 n1_23))))))))
    refine ab_lconst (pc := 177) (v := 0) dX3_doStep_177 (by decide) ?_
    exact ab_retl (pc := 178) dX3_doStep_178 rfl ⟨_, rfl, (c_step_d hd)⟩
  refine ab_tw_c 22 177 (by decide) (by decide) (fun s1 => ?_) (fun n1_22 => ?_)
  · have hd : ¬ s = 0 ∧ ¬ s = 1 ∧ ¬ s = 2 ∧ ¬ s = 3 ∧ ¬ s = 4 ∧ ¬ s = 5 ∧ ¬ s = 6 ∧ ¬ s = 7 ∧ ¬ s = 8 ∧ ¬ s = 23 := by first | (rw [s1]; decide) | exact And.intro n1_0 (And.intro n1_1 (And.intro n1_2 (And.intro n1_3 (And.intro n1_4 (And.intro n1_5 (And.intro n1_6 (And.intro n1_7 (And.intro n1_8 n1_23))))))))
    refine ab_lconst (pc := 177) (v := 0) dX3_doStep_177 (by decide) ?_
    exact ab_retl (pc := 178) dX3_doStep_178 rfl ⟨_, rfl, (c_step_d hd)⟩
  refine ab_tw_c 23 172 (by decide) (by decide) (fun s1 => ?_) (fun n1_23 => ?_)
  · refine ab_aload_n (pc := 172) dX3_doStep_172 rfl rfl ?_
    refine ab_V0 (pc := 173) dX3_doStep_173 mvX3_229 rfl rfl kX3_doKeep (ab_kl fun r173 h173 e173 => ?_)
    obtain ⟨rfl, rfl⟩ := And.intro e173.1.symm e173.2.symm
    exact ab_retl (pc := 176) dX3_doStep_176 rfl ⟨_, rfl, ⟨by rw [c_stepK, if_neg n1_3, if_neg n1_4, if_neg n1_5, if_neg n1_6, if_neg n1_8, c_stepN, if_neg n1_3, if_neg n1_4, if_neg n1_5, if_neg n1_6, if_neg n1_8], by rw [c_step, if_neg n1_0, if_neg n1_1, if_neg n1_2, if_neg n1_3, if_neg n1_4, if_neg n1_5, if_neg n1_6, if_neg n1_7, if_neg n1_8, if_pos s1]⟩⟩
  refine ab_tw_n 177 (by decide) ?_
  have hd : ¬ s = 0 ∧ ¬ s = 1 ∧ ¬ s = 2 ∧ ¬ s = 3 ∧ ¬ s = 4 ∧ ¬ s = 5 ∧ ¬ s = 6 ∧ ¬ s = 7 ∧ ¬ s = 8 ∧ ¬ s = 23 := by first | (rw [s1]; decide) | exact And.intro n1_0 (And.intro n1_1 (And.intro n1_2 (And.intro n1_3 (And.intro n1_4 (And.intro n1_5 (And.intro n1_6 (And.intro n1_7 (And.intro n1_8 n1_23))))))))
  refine ab_lconst (pc := 177) (v := 0) dX3_doStep_177 (by decide) ?_
  exact ab_retl (pc := 178) dX3_doStep_178 rfl ⟨_, rfl, (c_step_d hd)⟩
