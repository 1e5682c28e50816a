/-! the reference's small methods: what each answers and does, as a function of its world -/
def b2i (b : Bool) : Int32 := cond b 1 0
theorem b2i_t {b : Bool} (h : b = true) : b2i b = 1 := by rw [h]; rfl
theorem b2i_f {b : Bool} (h : b = false) : b2i b = 0 := by rw [h]; rfl
def m_opens (s : Int32) : Bool := decide (s = 10) || (decide (¬ s < 13) && decide (s ≤ 15)) || decide (s = 21)
def m_within (v most : Int32) : Bool := decide (¬ v < 0) && decide (¬ most < v)
def m_pays (h : ab_H) : Bool := decide (¬ h 0 16 = 60)
def m_paysH (h : ab_H) : ab_H := if h 0 16 = 60 then h else ab_up h 0 16 (h 0 16 + 1)
def m_note (h : ab_H) (v : Int32) : ab_H := if h 0 15 = 100 then h else ab_up (ab_up h 12 (h 0 15).toNatClampNeg v) 0 15 (h 0 15 + 1)
def m_leave (h : ab_H) : ab_H := ab_up (ab_up h 0 39 (h 0 39 - 1)) 0 40 (h 20 (h 0 39 - 1).toNatClampNeg + 1)
def m_push (h : ab_H) (s hd en : Int32) : ab_H := ab_up (ab_up (ab_up (ab_up (ab_up (ab_up h 18 (h 0 39).toNatClampNeg s) 19 (h 0 39).toNatClampNeg hd) 20 (h 0 39).toNatClampNeg en) 21 (h 0 39).toNatClampNeg 0) 22 (h 0 39).toNatClampNeg 0) 0 39 (h 0 39 + 1)
def m_boxH (h : ab_H) (k : Int32) : ab_H := ab_up (ab_up (ab_up h 8 (h 0 13).toNatClampNeg k) 9 (h 0 13).toNatClampNeg 0) 0 13 (h 0 13 + 1)
set_option maxRecDepth 100000 in
set_option maxHeartbeats 4000000 in
theorem kX4_thrown {l : Launch} {d : Nat} {h : ab_H}  : ab_C l layM (d) mX4_thrown [ab_R 0] h (ab_qi fun r h' => r = h 0 0 ∧ h' = h) := by
  refine ab_enter (by decide) (Nat.le_of_ble_eq_true rfl) ?_
  refine ab_aload_n (pc := 0) dX4_thrown_0 rfl rfl ?_
  refine ab_geti (pc := 1) dX4_thrown_1 fX4_92 rfl rfl ?_
  exact ab_reti (pc := 4) dX4_thrown_4 rfl ⟨_, rfl, ⟨rfl, rfl⟩⟩

set_option maxRecDepth 100000 in
set_option maxHeartbeats 4000000 in
theorem kX4_no {l : Launch} {d : Nat} {h : ab_H} {c : Int32}  : ab_C l layM (d) mX4_no [ab_R 0, ab_I c] h (ab_qi fun r h' => r = 0 ∧ h' = ab_up h 0 0 c) := by
  refine ab_enter (by decide) (Nat.le_of_ble_eq_true rfl) ?_
  refine ab_aload_n (pc := 0) dX4_no_0 rfl rfl ?_
  refine ab_iload_n (pc := 1) dX4_no_1 rfl rfl ?_
  refine ab_puti (pc := 2) dX4_no_2 fwX4_92 rfl rfl ?_
  refine ab_iconst (pc := 5) (v := 0) dX4_no_5 (by decide) ?_
  exact ab_reti (pc := 6) dX4_no_6 rfl ⟨_, rfl, ⟨rfl, rfl⟩⟩

set_option maxRecDepth 100000 in
set_option maxHeartbeats 4000000 in
theorem kX4_opens {l : Launch} {d : Nat} {h : ab_H} {s : Int32}  : ab_C l layM (d) mX4_opens [ab_I s] h (ab_qi fun r h' => r = b2i (m_opens s) ∧ h' = h) := by
  refine ab_enter (by decide) (Nat.le_of_ble_eq_true rfl) ?_
  refine ab_iload_n (pc := 0) dX4_opens_0 rfl rfl ?_
  refine ab_bipush (pc := 1) (v := 10) dX4_opens_1 (by decide) ?_
  refine ab_icmp_eq (pc := 3) 24 dX4_opens_3 (by decide) (fun c3 => ?_) (fun c3 => ?_)
  · refine ab_iconst (pc := 24) (v := 1) dX4_opens_24 (by decide) ?_
    refine ab_goto (pc := 25) 29 dX4_opens_25 (by decide) ?_
    exact ab_retz (pc := 29) dX4_opens_29 rfl rfl ⟨_, rfl, ⟨by simp [m_opens, b2i, *], rfl⟩⟩
  · refine ab_iload_n (pc := 6) dX4_opens_6 rfl rfl ?_
    refine ab_bipush (pc := 7) (v := 13) dX4_opens_7 (by decide) ?_
    refine ab_icmp_lt (pc := 9) 18 dX4_opens_9 (by decide) (fun c9 => ?_) (fun c9 => ?_)
    · refine ab_iload_n (pc := 18) dX4_opens_18 rfl rfl ?_
      refine ab_bipush (pc := 19) (v := 21) dX4_opens_19 (by decide) ?_
      refine ab_icmp_ne (pc := 21) 28 dX4_opens_21 (by decide) (fun c21 => ?_) (fun c21 => ?_)
      · refine ab_iconst (pc := 28) (v := 0) dX4_opens_28 (by decide) ?_
        exact ab_retz (pc := 29) dX4_opens_29 rfl rfl ⟨_, rfl, ⟨by simp [m_opens, b2i, *], rfl⟩⟩
      · refine ab_iconst (pc := 24) (v := 1) dX4_opens_24 (by decide) ?_
        refine ab_goto (pc := 25) 29 dX4_opens_25 (by decide) ?_
        exact ab_retz (pc := 29) dX4_opens_29 rfl rfl ⟨_, rfl, ⟨by simp [m_opens, b2i, *], rfl⟩⟩
    · refine ab_iload_n (pc := 12) dX4_opens_12 rfl rfl ?_
      refine ab_bipush (pc := 13) (v := 15) dX4_opens_13 (by decide) ?_
      refine ab_icmp_le (pc := 15) 24 dX4_opens_15 (by decide) (fun c15 => ?_) (fun c15 => ?_)
      · refine ab_iconst (pc := 24) (v := 1) dX4_opens_24 (by decide) ?_
        refine ab_goto (pc := 25) 29 dX4_opens_25 (by decide) ?_
        exact ab_retz (pc := 29) dX4_opens_29 rfl rfl ⟨_, rfl, ⟨by simp [m_opens, b2i, *], rfl⟩⟩
      · refine ab_iload_n (pc := 18) dX4_opens_18 rfl rfl ?_
        refine ab_bipush (pc := 19) (v := 21) dX4_opens_19 (by decide) ?_
        refine ab_icmp_ne (pc := 21) 28 dX4_opens_21 (by decide) (fun c21 => ?_) (fun c21 => ?_)
        · refine ab_iconst (pc := 28) (v := 0) dX4_opens_28 (by decide) ?_
          exact ab_retz (pc := 29) dX4_opens_29 rfl rfl ⟨_, rfl, ⟨by simp [m_opens, b2i, *], rfl⟩⟩
        · refine ab_iconst (pc := 24) (v := 1) dX4_opens_24 (by decide) ?_
          refine ab_goto (pc := 25) 29 dX4_opens_25 (by decide) ?_
          exact ab_retz (pc := 29) dX4_opens_29 rfl rfl ⟨_, rfl, ⟨by simp [m_opens, b2i, *], rfl⟩⟩

set_option maxRecDepth 100000 in
set_option maxHeartbeats 4000000 in
theorem kX4_within {l : Launch} {d : Nat} {h : ab_H} {v w : Int32}  : ab_C l layM (d) mX4_within [ab_I v, ab_I w] h (ab_qi fun r h' => r = b2i (m_within v w) ∧ h' = h) := by
  refine ab_enter (by decide) (Nat.le_of_ble_eq_true rfl) ?_
  refine ab_iload_n (pc := 0) dX4_within_0 rfl rfl ?_
  refine ab_if_lt (pc := 1) 13 dX4_within_1 (by decide) (fun c1 => ?_) (fun c1 => ?_)
  · refine ab_iconst (pc := 13) (v := 0) dX4_within_13 (by decide) ?_
    exact ab_retz (pc := 14) dX4_within_14 rfl rfl ⟨_, rfl, ⟨by simp [m_within, b2i, *], rfl⟩⟩
  · refine ab_iload_n (pc := 4) dX4_within_4 rfl rfl ?_
    refine ab_iload_n (pc := 5) dX4_within_5 rfl rfl ?_
    refine ab_icmp_gt (pc := 6) 13 dX4_within_6 (by decide) (fun c6 => ?_) (fun c6 => ?_)
    · refine ab_iconst (pc := 13) (v := 0) dX4_within_13 (by decide) ?_
      exact ab_retz (pc := 14) dX4_within_14 rfl rfl ⟨_, rfl, ⟨by simp [m_within, b2i, *], rfl⟩⟩
    · refine ab_iconst (pc := 9) (v := 1) dX4_within_9 (by decide) ?_
      refine ab_goto (pc := 10) 14 dX4_within_10 (by decide) ?_
      exact ab_retz (pc := 14) dX4_within_14 rfl rfl ⟨_, rfl, ⟨by simp [m_within, b2i, *], rfl⟩⟩

set_option maxRecDepth 100000 in
set_option maxHeartbeats 4000000 in
theorem kX4_pays {l : Launch} {d : Nat} {h : ab_H}  : ab_C l layM (d) mX4_pays [ab_R 0] h (ab_qi fun r h' => r = b2i (m_pays h) ∧ h' = m_paysH h) := by
  refine ab_enter (by decide) (Nat.le_of_ble_eq_true rfl) ?_
  refine ab_aload_n (pc := 0) dX4_pays_0 rfl rfl ?_
  refine ab_geti (pc := 1) dX4_pays_1 fX4_139 rfl rfl ?_
  refine ab_bipush (pc := 4) (v := 60) dX4_pays_4 (by decide) ?_
  refine ab_icmp_ne (pc := 6) 11 dX4_pays_6 (by decide) (fun c6 => ?_) (fun c6 => ?_)
  · refine ab_aload_n (pc := 11) dX4_pays_11 rfl rfl ?_
    refine ab_dup (pc := 12) dX4_pays_12 rfl ?_
    refine ab_geti (pc := 13) dX4_pays_13 fX4_139 rfl rfl ?_
    refine ab_iconst (pc := 16) (v := 1) dX4_pays_16 (by decide) ?_
    refine ab_iadd (pc := 17) dX4_pays_17 ?_
    refine ab_puti (pc := 18) dX4_pays_18 fwX4_139 rfl rfl ?_
    refine ab_iconst (pc := 21) (v := 1) dX4_pays_21 (by decide) ?_
    exact ab_retz (pc := 22) dX4_pays_22 rfl rfl ⟨_, rfl, ⟨by simp [m_pays, b2i, *], by simp [m_paysH, *]⟩⟩
  · refine ab_iconst (pc := 9) (v := 0) dX4_pays_9 (by decide) ?_
    exact ab_retz (pc := 10) dX4_pays_10 rfl rfl ⟨_, rfl, ⟨by simp [m_pays, b2i, *], by simp [m_paysH, *]⟩⟩

set_option maxRecDepth 100000 in
set_option maxHeartbeats 4000000 in
theorem kX4_fails {l : Launch} {d : Nat} {h : ab_H} {k : Int32}  : ab_C l layM (d) mX4_fails [ab_R 0, ab_I k] h (ab_qi fun r h' => r = 1 ∧ h' = ab_up h 0 21 k) := by
  refine ab_enter (by decide) (Nat.le_of_ble_eq_true rfl) ?_
  refine ab_aload_n (pc := 0) dX4_fails_0 rfl rfl ?_
  refine ab_iload_n (pc := 1) dX4_fails_1 rfl rfl ?_
  refine ab_puti (pc := 2) dX4_fails_2 fwX4_142 rfl rfl ?_
  refine ab_iconst (pc := 5) (v := 1) dX4_fails_5 (by decide) ?_
  exact ab_reti (pc := 6) dX4_fails_6 rfl ⟨_, rfl, ⟨rfl, rfl⟩⟩

set_option maxRecDepth 100000 in
set_option maxHeartbeats 4000000 in
theorem kX4_note {l : Launch} {d : Nat} {h : ab_H} {v : Int32} (hb : ¬ h 0 15 = 100 → vp_in (h 0 15) 100) : ab_C l layM (d) mX4_note [ab_R 0, ab_I v] h (ab_qv fun h' => h' = m_note h v) := by
  refine ab_enter (by decide) (Nat.le_of_ble_eq_true rfl) ?_
  refine ab_aload_n (pc := 0) dX4_note_0 rfl rfl ?_
  refine ab_geti (pc := 1) dX4_note_1 fX4_145 rfl rfl ?_
  refine ab_bipush (pc := 4) (v := 100) dX4_note_4 (by decide) ?_
  refine ab_icmp_ne (pc := 6) 10 dX4_note_6 (by decide) (fun c6 => ?_) (fun c6 => ?_)
  · refine ab_aload_n (pc := 10) dX4_note_10 rfl rfl ?_
    refine ab_getr (pc := 11) dX4_note_11 fX4_50 rfl rfl ?_
    refine ab_aload_n (pc := 14) dX4_note_14 rfl rfl ?_
    refine ab_geti (pc := 15) dX4_note_15 fX4_145 rfl rfl ?_
    refine ab_iload_n (pc := 18) dX4_note_18 rfl rfl ?_
    refine ab_iast (pc := 19) dX4_note_19 rfl (hb (by assumption)) ?_
    refine ab_aload_n (pc := 20) dX4_note_20 rfl rfl ?_
    refine ab_dup (pc := 21) dX4_note_21 rfl ?_
    refine ab_geti (pc := 22) dX4_note_22 fX4_145 rfl rfl ?_
    refine ab_iconst (pc := 25) (v := 1) dX4_note_25 (by decide) ?_
    refine ab_iadd (pc := 26) dX4_note_26 ?_
    refine ab_puti (pc := 27) dX4_note_27 fwX4_145 rfl rfl ?_
    exact ab_retv (pc := 30) dX4_note_30 rfl ⟨rfl, by first | (simp [m_note, *]; done) | (simp [m_note, *]; rfl)⟩
  · exact ab_retv (pc := 9) dX4_note_9 rfl ⟨rfl, by first | (simp [m_note, *]; done) | (simp [m_note, *]; rfl)⟩

set_option maxRecDepth 100000 in
set_option maxHeartbeats 4000000 in
theorem kX4_leave {l : Launch} {d : Nat} {h : ab_H} (hb : vp_in (h 0 39 - 1) 80) : ab_C l layM (d) mX4_leave [ab_R 0] h (ab_qv fun h' => h' = m_leave h) := by
  refine ab_enter (by decide) (Nat.le_of_ble_eq_true rfl) ?_
  refine ab_aload_n (pc := 0) dX4_leave_0 rfl rfl ?_
  refine ab_dup (pc := 1) dX4_leave_1 rfl ?_
  refine ab_geti (pc := 2) dX4_leave_2 fX4_95 rfl rfl ?_
  refine ab_iconst (pc := 5) (v := 1) dX4_leave_5 (by decide) ?_
  refine ab_isub (pc := 6) dX4_leave_6 ?_
  refine ab_puti (pc := 7) dX4_leave_7 fwX4_95 rfl rfl ?_
  refine ab_aload_n (pc := 10) dX4_leave_10 rfl rfl ?_
  refine ab_aload_n (pc := 11) dX4_leave_11 rfl rfl ?_
  refine ab_getr (pc := 12) dX4_leave_12 fX4_74 rfl rfl ?_
  refine ab_aload_n (pc := 15) dX4_leave_15 rfl rfl ?_
  refine ab_geti (pc := 16) dX4_leave_16 fX4_95 rfl rfl ?_
  refine ab_iald (pc := 19) dX4_leave_19 rfl (by assumption) ?_
  refine ab_iconst (pc := 20) (v := 1) dX4_leave_20 (by decide) ?_
  refine ab_iadd (pc := 21) dX4_leave_21 ?_
  refine ab_puti (pc := 22) dX4_leave_22 fwX4_174 rfl rfl ?_
  exact ab_retv (pc := 25) dX4_leave_25 rfl ⟨rfl, rfl⟩

set_option maxRecDepth 100000 in
set_option maxHeartbeats 4000000 in
theorem kX4_push {l : Launch} {d : Nat} {h : ab_H} {s hd en : Int32} (hb : vp_in (h 0 39) 80) : ab_C l layM (d) mX4_push [ab_R 0, ab_I s, ab_I hd, ab_I en] h (ab_qv fun h' => h' = m_push h s hd en) := by
  refine ab_enter (by decide) (Nat.le_of_ble_eq_true rfl) ?_
  refine ab_aload_n (pc := 0) dX4_push_0 rfl rfl ?_
  refine ab_getr (pc := 1) dX4_push_1 fX4_68 rfl rfl ?_
  refine ab_aload_n (pc := 4) dX4_push_4 rfl rfl ?_
  refine ab_geti (pc := 5) dX4_push_5 fX4_95 rfl rfl ?_
  refine ab_iload_n (pc := 8) dX4_push_8 rfl rfl ?_
  refine ab_iast (pc := 9) dX4_push_9 rfl (by assumption) ?_
  refine ab_aload_n (pc := 10) dX4_push_10 rfl rfl ?_
  refine ab_getr (pc := 11) dX4_push_11 fX4_71 rfl rfl ?_
  refine ab_aload_n (pc := 14) dX4_push_14 rfl rfl ?_
  refine ab_geti (pc := 15) dX4_push_15 fX4_95 rfl rfl ?_
  refine ab_iload_n (pc := 18) dX4_push_18 rfl rfl ?_
  refine ab_iast (pc := 19) dX4_push_19 rfl (by assumption) ?_
  refine ab_aload_n (pc := 20) dX4_push_20 rfl rfl ?_
  refine ab_getr (pc := 21) dX4_push_21 fX4_74 rfl rfl ?_
  refine ab_aload_n (pc := 24) dX4_push_24 rfl rfl ?_
  refine ab_geti (pc := 25) dX4_push_25 fX4_95 rfl rfl ?_
  refine ab_iload_n (pc := 28) dX4_push_28 rfl rfl ?_
  refine ab_iast (pc := 29) dX4_push_29 rfl (by assumption) ?_
  refine ab_aload_n (pc := 30) dX4_push_30 rfl rfl ?_
  refine ab_getr (pc := 31) dX4_push_31 fX4_77 rfl rfl ?_
  refine ab_aload_n (pc := 34) dX4_push_34 rfl rfl ?_
  refine ab_geti (pc := 35) dX4_push_35 fX4_95 rfl rfl ?_
  refine ab_iconst (pc := 38) (v := 0) dX4_push_38 (by decide) ?_
  refine ab_iast (pc := 39) dX4_push_39 rfl (by assumption) ?_
  refine ab_aload_n (pc := 40) dX4_push_40 rfl rfl ?_
  refine ab_getr (pc := 41) dX4_push_41 fX4_80 rfl rfl ?_
  refine ab_aload_n (pc := 44) dX4_push_44 rfl rfl ?_
  refine ab_geti (pc := 45) dX4_push_45 fX4_95 rfl rfl ?_
  refine ab_iconst (pc := 48) (v := 0) dX4_push_48 (by decide) ?_
  refine ab_iast (pc := 49) dX4_push_49 rfl (by assumption) ?_
  refine ab_aload_n (pc := 50) dX4_push_50 rfl rfl ?_
  refine ab_dup (pc := 51) dX4_push_51 rfl ?_
  refine ab_geti (pc := 52) dX4_push_52 fX4_95 rfl rfl ?_
  refine ab_iconst (pc := 55) (v := 1) dX4_push_55 (by decide) ?_
  refine ab_iadd (pc := 56) dX4_push_56 ?_
  refine ab_puti (pc := 57) dX4_push_57 fwX4_95 rfl rfl ?_
  exact ab_retv (pc := 60) dX4_push_60 rfl ⟨rfl, rfl⟩

set_option maxRecDepth 100000 in
set_option maxHeartbeats 4000000 in
theorem kX4_box {l : Launch} {d : Nat} {h : ab_H} {k : Int32} (hb : vp_in (h 0 13) 80) : ab_C l layM (d) mX4_box [ab_R 0, ab_I k] h (ab_qi fun r h' => r = h 0 13 + 1 - 1 ∧ h' = m_boxH h k) := by
  refine ab_enter (by decide) (Nat.le_of_ble_eq_true rfl) ?_
  refine ab_aload_n (pc := 0) dX4_box_0 rfl rfl ?_
  refine ab_getr (pc := 1) dX4_box_1 fX4_35 rfl rfl ?_
  refine ab_aload_n (pc := 4) dX4_box_4 rfl rfl ?_
  refine ab_geti (pc := 5) dX4_box_5 fX4_47 rfl rfl ?_
  refine ab_iload_n (pc := 8) dX4_box_8 rfl rfl ?_
  refine ab_iast (pc := 9) dX4_box_9 rfl (by assumption) ?_
  refine ab_aload_n (pc := 10) dX4_box_10 rfl rfl ?_
  refine ab_getr (pc := 11) dX4_box_11 fX4_38 rfl rfl ?_
  refine ab_aload_n (pc := 14) dX4_box_14 rfl rfl ?_
  refine ab_geti (pc := 15) dX4_box_15 fX4_47 rfl rfl ?_
  refine ab_iconst (pc := 18) (v := 0) dX4_box_18 (by decide) ?_
  refine ab_iast (pc := 19) dX4_box_19 rfl (by assumption) ?_
  refine ab_aload_n (pc := 20) dX4_box_20 rfl rfl ?_
  refine ab_dup (pc := 21) dX4_box_21 rfl ?_
  refine ab_geti (pc := 22) dX4_box_22 fX4_47 rfl rfl ?_
  refine ab_iconst (pc := 25) (v := 1) dX4_box_25 (by decide) ?_
  refine ab_iadd (pc := 26) dX4_box_26 ?_
  refine ab_puti (pc := 27) dX4_box_27 fwX4_47 rfl rfl ?_
  refine ab_aload_n (pc := 30) dX4_box_30 rfl rfl ?_
  refine ab_geti (pc := 31) dX4_box_31 fX4_47 rfl rfl ?_
  refine ab_iconst (pc := 34) (v := 1) dX4_box_34 (by decide) ?_
  refine ab_isub (pc := 35) dX4_box_35 ?_
  exact ab_reti (pc := 36) dX4_box_36 rfl ⟨_, rfl, ⟨rfl, rfl⟩⟩
