/-! the reference's ways through blocks -/
def m_round (h : ab_H) : ab_H := if h 22 (h 0 39 - 1).toNatClampNeg = 0 then m_leave h else if h 0 16 = 60 then m_leave (ab_up h 0 41 3)
  else ab_up (ab_up (ab_up h 0 16 (h 0 16 + 1)) 22 (h 0 39 - 1).toNatClampNeg (h 22 (h 0 39 - 1).toNatClampNeg - 1)) 0 40 (h 19 (h 0 39 - 1).toNatClampNeg + 1)
def m_looped (h : ab_H) : ab_H := if h 0 41 = 0 ∨ h 0 41 = 200 then m_round (ab_up h 0 41 0) else if h 0 41 = 100 then m_leave (ab_up h 0 41 0) else if h 0 41 ≤ 100 then m_leave h else m_leave (ab_up h 0 41 (h 0 41 - 1))
def m_back (h : ab_H) (o : Int32) : ab_H :=
  if h 0 39 - 1 = 0 then ab_up (ab_up h 0 39 (h 0 39 - 1)) 0 23 (h 0 23 - 1)
  else if h 0 41 = 1 ∨ h 0 41 = 3 then ab_up (ab_up (ab_up h 0 39 (h 0 39 - 1)) 0 23 (h 0 23 - 1)) 0 40 (h 19 o.toNatClampNeg + 1)
  else ab_up (ab_up (ab_up (ab_up (ab_up h 0 39 (h 0 39 - 1)) 0 23 (h 0 23 - 1)) 0 40 (h 19 o.toNatClampNeg + 1)) 5 (h 2 (h 19 o.toNatClampNeg).toNatClampNeg).toNatClampNeg (if h 0 41 = 2 then h 0 22 else 0)) 0 41 0
def m_catch (h : ab_H) (o c : Int32) : Bool := decide (h 21 o.toNatClampNeg = 0) && (decide (h 0 41 = 1) && (decide (¬ c < 0) && decide (¬ (h 3 (h 19 o.toNatClampNeg).toNatClampNeg >>> (h 0 21 &&& 31)) &&& 1 = 0)))
def m_tried (h : ab_H) (o c f : Int32) : ab_H :=
  if h 21 o.toNatClampNeg = 2 then (if h 0 41 = 0 then m_leave (ab_up (ab_up (ab_up h 0 41 (h 23 o.toNatClampNeg)) 0 21 (h 24 o.toNatClampNeg)) 0 22 (h 25 o.toNatClampNeg)) else m_leave h)
  else if m_catch h o c = true then ab_up (ab_up (ab_up (ab_up h 5 7 (h 0 21)) 21 o.toNatClampNeg 1) 0 41 0) 0 40 (c + 1)
  else if f < 0 ∨ h 0 41 = 3 then m_leave h
  else ab_up (ab_up (ab_up (ab_up (ab_up (ab_up h 23 o.toNatClampNeg (h 0 41)) 24 o.toNatClampNeg (h 0 21)) 25 o.toNatClampNeg (h 0 22)) 21 o.toNatClampNeg 2) 0 41 0) 0 40 (f + 1)
def m_begin (h : ab_H) (s en p : Int32) : ab_H :=
  if s = 13 then m_round (ab_up (ab_up (m_push h s (h 0 40) en) 0 40 (h 0 40 + 1)) 22 (h 0 39).toNatClampNeg (h 3 (h 0 40).toNatClampNeg))
  else if s = 14 then ab_up (ab_up (ab_up (m_push h s (h 0 40) en) 0 40 (h 0 40 + 1)) 17 (h 0 30).toNatClampNeg (h 0 28)) 0 30 (h 0 30 + 1)
  else if s = 21 ∧ h 5 (h 2 (h 0 40).toNatClampNeg).toNatClampNeg = 0 then ab_up (ab_up (m_push h s (h 0 40) en) 0 40 (h 0 40 + 1)) 0 40 (if 0 ≤ p then p + 1 else en)
  else ab_up (m_push h s (h 0 40) en) 0 40 (h 0 40 + 1)
def m_call (h : ab_H) (hd z : Int32) : ab_H := if h 0 23 = 6 ∨ ¬ z = 0 then ab_up (ab_up h 0 21 7) 0 41 1
  else ab_up (m_push (ab_up (ab_up h 0 23 (h 0 23 + 1)) 0 22 0) 0 hd (60 * h 3 hd.toNatClampNeg + h 4 (h 3 hd.toNatClampNeg).toNatClampNeg)) 0 40 (60 * h 3 hd.toNatClampNeg)
def m_step (h : ab_H) (en p z : Int32) : ab_H := if h 0 16 = 60 then ab_up h 0 41 3
  else if m_opens (h 1 (h 0 40).toNatClampNeg) = true then m_begin (ab_up h 0 16 (h 0 16 + 1)) (h 1 (h 0 40).toNatClampNeg) en p
  else if h 1 (h 0 40).toNatClampNeg = 20 then m_call (ab_up h 0 16 (h 0 16 + 1)) (h 0 40) z
  else ab_up (ab_up (m_plain (ab_up h 0 16 (h 0 16 + 1)) (h 1 (h 0 40).toNatClampNeg) (h 2 (h 0 40).toNatClampNeg) (h 3 (h 0 40).toNatClampNeg)) 0 41 (m_plainR (ab_up h 0 16 (h 0 16 + 1)) (h 1 (h 0 40).toNatClampNeg) (h 2 (h 0 40).toNatClampNeg) (h 3 (h 0 40).toNatClampNeg))) 0 40
    (m_plain (ab_up h 0 16 (h 0 16 + 1)) (h 1 (h 0 40).toNatClampNeg) (h 2 (h 0 40).toNatClampNeg) (h 3 (h 0 40).toNatClampNeg) 0 40 + 1)
def m_atEnd (h : ab_H) : Bool := if h 18 (h 0 39 - 1).toNatClampNeg = 0 then decide (h 0 40 = h 20 (h 0 39 - 1).toNatClampNeg) else m_part (h 1 (h 0 40).toNatClampNeg)
set_option maxRecDepth 100000 in
set_option maxHeartbeats 4000000 in
theorem kX4_pays2 {l : Launch} {d : Nat} {h : ab_H}  : ab_C l layM (d) mX4_pays [ab_R 0] h (ab_qi fun r h' => (¬ h 0 16 = 60 ∧ r = 1 ∧ h' = ab_up h 0 16 (h 0 16 + 1)) ∨ (h 0 16 = 60 ∧ r = 0 ∧ h' = h)) := by
  refine ab_enter (by decide) (Nat.le_of_ble_eq_true rfl) ?_
  refine ab_aload_n (pc := 0) dX4_pays_0 rfl rfl ?_
  refine ab_geti (pc := 1) dX4_pays_1 fX4_139 rfl rfl ?_
  refine ab_bipush (pc := 4) (v := 60) dX4_pays_4 (by decide) ?_
  refine ab_icmp_ne (pc := 6) 11 dX4_pays_6 (by decide) (fun c6 => ?_) (fun c6 => ?_)
  · refine ab_aload_n (pc := 11) dX4_pays_11 rfl rfl ?_
    refine ab_dup (pc := 12) dX4_pays_12 rfl ?_
    refine ab_geti (pc := 13) dX4_pays_13 fX4_139 rfl rfl ?_
    refine ab_iconst (pc := 16) (v := 1) dX4_pays_16 (by decide) ?_
    refine ab_iadd (pc := 17) dX4_pays_17 ?_
    refine ab_puti (pc := 18) dX4_pays_18 fwX4_139 rfl rfl ?_
    refine ab_iconst (pc := 21) (v := 1) dX4_pays_21 (by decide) ?_
    exact ab_retz (pc := 22) dX4_pays_22 rfl rfl ⟨_, rfl, (by first | exact Or.inl ⟨by assumption, rfl, rfl⟩ | exact Or.inr ⟨by assumption, rfl, rfl⟩)⟩
  · refine ab_iconst (pc := 9) (v := 0) dX4_pays_9 (by decide) ?_
    exact ab_retz (pc := 10) dX4_pays_10 rfl rfl ⟨_, rfl, (by first | exact Or.inl ⟨by assumption, rfl, rfl⟩ | exact Or.inr ⟨by assumption, rfl, rfl⟩)⟩

set_option maxRecDepth 100000 in
set_option maxHeartbeats 4000000 in
theorem kX4_round {l : Launch} {d : Nat} {h : ab_H} (ho : vp_in (h 0 39 - 1) 80) : ab_C l layM (d + 1) mX4_round [ab_R 0] h (ab_qv fun h' => h' = m_round h) := by
  refine ab_enter (by decide) (Nat.le_of_ble_eq_true rfl) ?_
  refine ab_aload_n (pc := 0) dX4_round_0 rfl rfl ?_
  refine ab_geti (pc := 1) dX4_round_1 fX4_95 rfl rfl ?_
  refine ab_iconst (pc := 4) (v := 1) dX4_round_4 (by decide) ?_
  refine ab_isub (pc := 5) dX4_round_5 ?_
  refine ab_istore_n (pc := 6) dX4_round_6 rfl rfl ?_
  refine ab_aload_n (pc := 7) dX4_round_7 rfl rfl ?_
  refine ab_getr (pc := 8) dX4_round_8 fX4_80 rfl rfl ?_
  refine ab_iload_n (pc := 11) dX4_round_11 rfl rfl ?_
  refine ab_iald (pc := 12) dX4_round_12 rfl (by assumption) ?_
  refine ab_if_ne (pc := 13) 21 dX4_round_13 (by decide) (fun c13 => ?_) (fun c13 => ?_)
  · refine ab_aload_n (pc := 21) dX4_round_21 rfl rfl ?_
    refine ab_V0 (pc := 22) dX4_round_22 mvX4_193 rfl rfl kX4_pays2 (ab_ki fun r22 h22 e22 => ?_)
    rcases e22 with ⟨q16, rfl, rfl⟩ | ⟨q16, rfl, rfl⟩
    · refine ab_if_ne (pc := 25) 38 dX4_round_25 (by decide) (fun c25 => ?_) (fun c25 => absurd c25 (by decide))
      refine ab_aload_n (pc := 38) dX4_round_38 rfl rfl ?_
      refine ab_getr (pc := 39) dX4_round_39 fX4_80 rfl rfl ?_
      refine ab_iload_n (pc := 42) dX4_round_42 rfl rfl ?_
      refine ab_dup2 (pc := 43) dX4_round_43 rfl rfl ?_
      refine ab_iald (pc := 44) dX4_round_44 rfl (by assumption) ?_
      refine ab_topi (by (try simp only [ab_rd, ab_rdA, Nat.reduceEqDiff, reduceIte]); exact rfl) ?_
      refine ab_iconst (pc := 45) (v := 1) dX4_round_45 (by decide) ?_
      refine ab_isub (pc := 46) dX4_round_46 ?_
      refine ab_iast (pc := 47) dX4_round_47 rfl (by assumption) ?_
      refine ab_aload_n (pc := 48) dX4_round_48 rfl rfl ?_
      refine ab_aload_n (pc := 49) dX4_round_49 rfl rfl ?_
      refine ab_getr (pc := 50) dX4_round_50 fX4_71 rfl rfl ?_
      refine ab_iload_n (pc := 53) dX4_round_53 rfl rfl ?_
      refine ab_iald (pc := 54) dX4_round_54 rfl (by assumption) ?_
      refine ab_topi (by (try simp only [ab_rd, ab_rdA, Nat.reduceEqDiff, reduceIte]); exact rfl) ?_
      refine ab_iconst (pc := 55) (v := 1) dX4_round_55 (by decide) ?_
      refine ab_iadd (pc := 56) dX4_round_56 ?_
      refine ab_puti (pc := 57) dX4_round_57 fwX4_174 rfl rfl ?_
      exact ab_retv (pc := 60) dX4_round_60 rfl ⟨rfl, (by rw [m_round, if_neg c13, if_neg q16])⟩
    · refine ab_if_ne (pc := 25) 38 dX4_round_25 (by decide) (fun c25 => absurd c25 (by decide)) (fun c25 => ?_)
      refine ab_aload_n (pc := 28) dX4_round_28 rfl rfl ?_
      refine ab_iconst (pc := 29) (v := 3) dX4_round_29 (by decide) ?_
      refine ab_puti (pc := 30) dX4_round_30 fwX4_197 rfl rfl ?_
      refine ab_aload_n (pc := 33) dX4_round_33 rfl rfl ?_
      refine ab_V0 (pc := 34) dX4_round_34 mvX4_190 rfl rfl (kX4_leave ho) (ab_kv fun h34 e34 => ?_)
      obtain rfl := e34.symm
      exact ab_retv (pc := 37) dX4_round_37 rfl ⟨rfl, (by rw [m_round, if_neg c13, if_pos q16])⟩
  · refine ab_aload_n (pc := 16) dX4_round_16 rfl rfl ?_
    refine ab_V0 (pc := 17) dX4_round_17 mvX4_190 rfl rfl (kX4_leave ho) (ab_kv fun h17 e17 => ?_)
    obtain rfl := e17.symm
    exact ab_retv (pc := 20) dX4_round_20 rfl ⟨rfl, (by rw [m_round, if_pos c13])⟩

set_option maxRecDepth 100000 in
set_option maxHeartbeats 4000000 in
theorem kX4_looped {l : Launch} {d : Nat} {h : ab_H} (ho : vp_in (h 0 39 - 1) 80) : ab_C l layM (d + 2) mX4_looped [ab_R 0] h (ab_qv fun h' => h' = m_looped h) := by
  refine ab_enter (by decide) (Nat.le_of_ble_eq_true rfl) ?_
  refine ab_aload_n (pc := 0) dX4_looped_0 rfl rfl ?_
  refine ab_geti (pc := 1) dX4_looped_1 fX4_197 rfl rfl ?_
  refine ab_if_eq (pc := 4) 17 dX4_looped_4 (by decide) (fun c4 => ?_) (fun c4 => ?_)
  · refine ab_aload_n (pc := 17) dX4_looped_17 rfl rfl ?_
    refine ab_iconst (pc := 18) (v := 0) dX4_looped_18 (by decide) ?_
    refine ab_puti (pc := 19) dX4_looped_19 fwX4_197 rfl rfl ?_
    refine ab_aload_n (pc := 22) dX4_looped_22 rfl rfl ?_
    refine ab_V0 (pc := 23) dX4_looped_23 mvX4_183 rfl rfl (kX4_round ho) (ab_kv fun h23 e23 => ?_)
    obtain rfl := e23.symm
    exact ab_retv (pc := 26) dX4_looped_26 rfl ⟨rfl, (by rw [m_looped, if_pos (by first | exact Or.inl c4 | exact Or.inr c14)])⟩
  · refine ab_aload_n (pc := 7) dX4_looped_7 rfl rfl ?_
    refine ab_geti (pc := 8) dX4_looped_8 fX4_197 rfl rfl ?_
    refine ab_sipush (pc := 11) (v := 200) dX4_looped_11 (by decide) ?_
    refine ab_icmp_ne (pc := 14) 27 dX4_looped_14 (by decide) (fun c14 => ?_) (fun c14 => ?_)
    · refine ab_aload_n (pc := 27) dX4_looped_27 rfl rfl ?_
      refine ab_geti (pc := 28) dX4_looped_28 fX4_197 rfl rfl ?_
      refine ab_bipush (pc := 31) (v := 100) dX4_looped_31 (by decide) ?_
      refine ab_icmp_ne (pc := 33) 44 dX4_looped_33 (by decide) (fun c33 => ?_) (fun c33 => ?_)
      · refine ab_aload_n (pc := 44) dX4_looped_44 rfl rfl ?_
        refine ab_geti (pc := 45) dX4_looped_45 fX4_197 rfl rfl ?_
        refine ab_bipush (pc := 48) (v := 100) dX4_looped_48 (by decide) ?_
        refine ab_icmp_le (pc := 50) 63 dX4_looped_50 (by decide) (fun c50 => ?_) (fun c50 => ?_)
        · refine ab_aload_n (pc := 63) dX4_looped_63 rfl rfl ?_
          refine ab_V0 (pc := 64) dX4_looped_64 mvX4_190 rfl rfl (kX4_leave ho) (ab_kv fun h64 e64 => ?_)
          obtain rfl := e64.symm
          exact ab_retv (pc := 67) dX4_looped_67 rfl ⟨rfl, (by first | rw [m_looped, if_neg (fun q => q.elim c4 c14), if_pos c33] | rw [m_looped, if_neg (fun q => q.elim c4 c14), if_neg c33, if_pos c50] | rw [m_looped, if_neg (fun q => q.elim c4 c14), if_neg c33, if_neg c50])⟩
        · refine ab_aload_n (pc := 53) dX4_looped_53 rfl rfl ?_
          refine ab_dup (pc := 54) dX4_looped_54 rfl ?_
          refine ab_geti (pc := 55) dX4_looped_55 fX4_197 rfl rfl ?_
          refine ab_iconst (pc := 58) (v := 1) dX4_looped_58 (by decide) ?_
          refine ab_isub (pc := 59) dX4_looped_59 ?_
          refine ab_puti (pc := 60) dX4_looped_60 fwX4_197 rfl rfl ?_
          refine ab_aload_n (pc := 63) dX4_looped_63 rfl rfl ?_
          refine ab_V0 (pc := 64) dX4_looped_64 mvX4_190 rfl rfl (kX4_leave ho) (ab_kv fun h64 e64 => ?_)
          obtain rfl := e64.symm
          exact ab_retv (pc := 67) dX4_looped_67 rfl ⟨rfl, (by first | rw [m_looped, if_neg (fun q => q.elim c4 c14), if_pos c33] | rw [m_looped, if_neg (fun q => q.elim c4 c14), if_neg c33, if_pos c50] | rw [m_looped, if_neg (fun q => q.elim c4 c14), if_neg c33, if_neg c50])⟩
      · refine ab_aload_n (pc := 36) dX4_looped_36 rfl rfl ?_
        refine ab_iconst (pc := 37) (v := 0) dX4_looped_37 (by decide) ?_
        refine ab_puti (pc := 38) dX4_looped_38 fwX4_197 rfl rfl ?_
        refine ab_goto (pc := 41) 63 dX4_looped_41 (by decide) ?_
        refine ab_aload_n (pc := 63) dX4_looped_63 rfl rfl ?_
        refine ab_V0 (pc := 64) dX4_looped_64 mvX4_190 rfl rfl (kX4_leave ho) (ab_kv fun h64 e64 => ?_)
        obtain rfl := e64.symm
        exact ab_retv (pc := 67) dX4_looped_67 rfl ⟨rfl, (by first | rw [m_looped, if_neg (fun q => q.elim c4 c14), if_pos c33] | rw [m_looped, if_neg (fun q => q.elim c4 c14), if_neg c33, if_pos c50] | rw [m_looped, if_neg (fun q => q.elim c4 c14), if_neg c33, if_neg c50])⟩
    · refine ab_aload_n (pc := 17) dX4_looped_17 rfl rfl ?_
      refine ab_iconst (pc := 18) (v := 0) dX4_looped_18 (by decide) ?_
      refine ab_puti (pc := 19) dX4_looped_19 fwX4_197 rfl rfl ?_
      refine ab_aload_n (pc := 22) dX4_looped_22 rfl rfl ?_
      refine ab_V0 (pc := 23) dX4_looped_23 mvX4_183 rfl rfl (kX4_round ho) (ab_kv fun h23 e23 => ?_)
      obtain rfl := e23.symm
      exact ab_retv (pc := 26) dX4_looped_26 rfl ⟨rfl, (by rw [m_looped, if_pos (by first | exact Or.inl c4 | exact Or.inr c14)])⟩

set_option maxRecDepth 100000 in
set_option maxHeartbeats 4000000 in
theorem kX4_back {l : Launch} {d : Nat} {h : ab_H} {o : Int32} (ho : vp_in o 80) (hh : ¬ h 0 39 - 1 = 0 → vp_in (h 19 o.toNatClampNeg) 480) (hn : ¬ h 0 39 - 1 = 0 → vp_in (h 2 (h 19 o.toNatClampNeg).toNatClampNeg) 8) : ab_C l layM (d) mX4_back [ab_R 0, ab_I o] h (ab_qv fun h' => h' = m_back h o) := by
  refine ab_enter (by decide) (Nat.le_of_ble_eq_true rfl) ?_
  refine ab_aload_n (pc := 0) dX4_back_0 rfl rfl ?_
  refine ab_dup (pc := 1) dX4_back_1 rfl ?_
  refine ab_geti (pc := 2) dX4_back_2 fX4_95 rfl rfl ?_
  refine ab_iconst (pc := 5) (v := 1) dX4_back_5 (by decide) ?_
  refine ab_isub (pc := 6) dX4_back_6 ?_
  refine ab_puti (pc := 7) dX4_back_7 fwX4_95 rfl rfl ?_
  refine ab_aload_n (pc := 10) dX4_back_10 rfl rfl ?_
  refine ab_dup (pc := 11) dX4_back_11 rfl ?_
  refine ab_geti (pc := 12) dX4_back_12 fX4_200 rfl rfl ?_
  refine ab_topi (by (try simp only [ab_rd, ab_rdA, Nat.reduceEqDiff, reduceIte]); exact rfl) ?_
  refine ab_iconst (pc := 15) (v := 1) dX4_back_15 (by decide) ?_
  refine ab_isub (pc := 16) dX4_back_16 ?_
  refine ab_puti (pc := 17) dX4_back_17 fwX4_200 rfl rfl ?_
  refine ab_aload_n (pc := 20) dX4_back_20 rfl rfl ?_
  refine ab_geti (pc := 21) dX4_back_21 fX4_95 rfl rfl ?_
  refine ab_topi (by (try simp only [ab_rd, ab_rdA, Nat.reduceEqDiff, reduceIte]); exact rfl) ?_
  refine ab_if_ne (pc := 24) 28 dX4_back_24 (by decide) (fun c24 => ?_) (fun c24 => ?_)
  · refine ab_aload_n (pc := 28) dX4_back_28 rfl rfl ?_
    refine ab_aload_n (pc := 29) dX4_back_29 rfl rfl ?_
    refine ab_getr (pc := 30) dX4_back_30 fX4_71 rfl rfl ?_
    refine ab_iload_n (pc := 33) dX4_back_33 rfl rfl ?_
    refine ab_iald (pc := 34) dX4_back_34 rfl ho ?_
    refine ab_topi (by (try simp only [ab_rd, ab_rdA, Nat.reduceEqDiff, reduceIte]); exact rfl) ?_
    refine ab_iconst (pc := 35) (v := 1) dX4_back_35 (by decide) ?_
    refine ab_iadd (pc := 36) dX4_back_36 ?_
    refine ab_puti (pc := 37) dX4_back_37 fwX4_174 rfl rfl ?_
    refine ab_aload_n (pc := 40) dX4_back_40 rfl rfl ?_
    refine ab_geti (pc := 41) dX4_back_41 fX4_197 rfl rfl ?_
    refine ab_topi (by (try simp only [ab_rd, ab_rdA, Nat.reduceEqDiff, reduceIte]); exact rfl) ?_
    refine ab_iconst (pc := 44) (v := 1) dX4_back_44 (by decide) ?_
    refine ab_icmp_eq (pc := 45) 56 dX4_back_45 (by decide) (fun c45 => ?_) (fun c45 => ?_)
    · exact ab_retv (pc := 56) dX4_back_56 rfl ⟨rfl, (by rw [m_back, if_neg c24, if_pos (by first | exact Or.inl c45 | exact Or.inr c53)])⟩
    · refine ab_aload_n (pc := 48) dX4_back_48 rfl rfl ?_
      refine ab_geti (pc := 49) dX4_back_49 fX4_197 rfl rfl ?_
      refine ab_topi (by (try simp only [ab_rd, ab_rdA, Nat.reduceEqDiff, reduceIte]); exact rfl) ?_
      refine ab_iconst (pc := 52) (v := 3) dX4_back_52 (by decide) ?_
      refine ab_icmp_ne (pc := 53) 57 dX4_back_53 (by decide) (fun c53 => ?_) (fun c53 => ?_)
      · refine ab_aload_n (pc := 57) dX4_back_57 rfl rfl ?_
        refine ab_getr (pc := 58) dX4_back_58 fX4_22 rfl rfl ?_
        refine ab_aload_n (pc := 61) dX4_back_61 rfl rfl ?_
        refine ab_getr (pc := 62) dX4_back_62 fX4_13 rfl rfl ?_
        refine ab_aload_n (pc := 65) dX4_back_65 rfl rfl ?_
        refine ab_getr (pc := 66) dX4_back_66 fX4_71 rfl rfl ?_
        refine ab_iload_n (pc := 69) dX4_back_69 rfl rfl ?_
        refine ab_iald (pc := 70) dX4_back_70 rfl ho ?_
        refine ab_topi (by (try simp only [ab_rd, ab_rdA, Nat.reduceEqDiff, reduceIte]); exact rfl) ?_
        refine ab_iald (pc := 71) dX4_back_71 rfl (hh c24) ?_
        refine ab_topi (by (try simp only [ab_rd, ab_rdA, Nat.reduceEqDiff, reduceIte]); exact rfl) ?_
        refine ab_aload_n (pc := 72) dX4_back_72 rfl rfl ?_
        refine ab_geti (pc := 73) dX4_back_73 fX4_197 rfl rfl ?_
        refine ab_topi (by (try simp only [ab_rd, ab_rdA, Nat.reduceEqDiff, reduceIte]); exact rfl) ?_
        refine ab_iconst (pc := 76) (v := 2) dX4_back_76 (by decide) ?_
        refine ab_icmp_ne (pc := 77) 87 dX4_back_77 (by decide) (fun c77 => ?_) (fun c77 => ?_)
        · refine ab_iconst (pc := 87) (v := 0) dX4_back_87 (by decide) ?_
          refine ab_iast (pc := 88) dX4_back_88 rfl (hn c24) ?_
          refine ab_aload_n (pc := 89) dX4_back_89 rfl rfl ?_
          refine ab_iconst (pc := 90) (v := 0) dX4_back_90 (by decide) ?_
          refine ab_puti (pc := 91) dX4_back_91 fwX4_197 rfl rfl ?_
          exact ab_retv (pc := 94) dX4_back_94 rfl ⟨rfl, (by first | rw [m_back, if_neg c24, if_neg (fun q => q.elim c45 c53), if_pos c77] | rw [m_back, if_neg c24, if_neg (fun q => q.elim c45 c53), if_neg c77])⟩
        · refine ab_aload_n (pc := 80) dX4_back_80 rfl rfl ?_
          refine ab_geti (pc := 81) dX4_back_81 fX4_171 rfl rfl ?_
          refine ab_topi (by (try simp only [ab_rd, ab_rdA, Nat.reduceEqDiff, reduceIte]); exact rfl) ?_
          refine ab_goto (pc := 84) 88 dX4_back_84 (by decide) ?_
          refine ab_iast (pc := 88) dX4_back_88 rfl (hn c24) ?_
          refine ab_aload_n (pc := 89) dX4_back_89 rfl rfl ?_
          refine ab_iconst (pc := 90) (v := 0) dX4_back_90 (by decide) ?_
          refine ab_puti (pc := 91) dX4_back_91 fwX4_197 rfl rfl ?_
          exact ab_retv (pc := 94) dX4_back_94 rfl ⟨rfl, (by first | rw [m_back, if_neg c24, if_neg (fun q => q.elim c45 c53), if_pos c77] | rw [m_back, if_neg c24, if_neg (fun q => q.elim c45 c53), if_neg c77])⟩
      · exact ab_retv (pc := 56) dX4_back_56 rfl ⟨rfl, (by rw [m_back, if_neg c24, if_pos (by first | exact Or.inl c45 | exact Or.inr c53)])⟩
  · exact ab_retv (pc := 27) dX4_back_27 rfl ⟨rfl, (by rw [m_back, if_pos c24])⟩

set_option maxRecDepth 100000 in
set_option maxHeartbeats 4000000 in
theorem kX4_atEnd {l : Launch} {d : Nat} {h : ab_H} (ho : vp_in (h 0 39 - 1) 80) (ha : ¬ h 18 (h 0 39 - 1).toNatClampNeg = 0 → vp_in (h 0 40) 480) : ab_C l layM (d) mX4_atEnd [ab_R 0] h (ab_qi fun r h' => r = b2i (m_atEnd h) ∧ h' = h) := by
  refine ab_enter (by decide) (Nat.le_of_ble_eq_true rfl) ?_
  refine ab_aload_n (pc := 0) dX4_atEnd_0 rfl rfl ?_
  refine ab_getr (pc := 1) dX4_atEnd_1 fX4_68 rfl rfl ?_
  refine ab_aload_n (pc := 4) dX4_atEnd_4 rfl rfl ?_
  refine ab_geti (pc := 5) dX4_atEnd_5 fX4_95 rfl rfl ?_
  refine ab_iconst (pc := 8) (v := 1) dX4_atEnd_8 (by decide) ?_
  refine ab_isub (pc := 9) dX4_atEnd_9 ?_
  refine ab_iald (pc := 10) dX4_atEnd_10 rfl ho ?_
  refine ab_if_ne (pc := 11) 38 dX4_atEnd_11 (by decide) (fun c11 => ?_) (fun c11 => ?_)
  · refine ab_aload_n (pc := 38) dX4_atEnd_38 rfl rfl ?_
    refine ab_getr (pc := 39) dX4_atEnd_39 fX4_7 rfl rfl ?_
    refine ab_aload_n (pc := 42) dX4_atEnd_42 rfl rfl ?_
    refine ab_geti (pc := 43) dX4_atEnd_43 fX4_174 rfl rfl ?_
    refine ab_iald (pc := 46) dX4_atEnd_46 rfl (ha c11) ?_
    refine ab_istore_n (pc := 47) dX4_atEnd_47 rfl rfl ?_
    refine ab_iload_n (pc := 48) dX4_atEnd_48 rfl rfl ?_
    refine ab_bipush (pc := 49) (v := 11) dX4_atEnd_49 (by decide) ?_
    refine ab_icmp_eq (pc := 51) 72 dX4_atEnd_51 (by decide) (fun c51 => ?_) (fun c51 => ?_)
    · refine ab_iconst (pc := 72) (v := 1) dX4_atEnd_72 (by decide) ?_
      refine ab_goto (pc := 73) 77 dX4_atEnd_73 (by decide) ?_
      exact ab_retz (pc := 77) dX4_atEnd_77 rfl rfl ⟨_, rfl, ⟨by rw [m_atEnd, if_neg c11]; first | (rw [m_part, decide_eq_true c51]; rfl) | (rw [m_part, decide_eq_false c51, decide_eq_true c57]; rfl) | (rw [m_part, decide_eq_false c51, decide_eq_false c57, decide_eq_true c63]; rfl) | (rw [m_part, decide_eq_false c51, decide_eq_false c57, decide_eq_false c63, decide_eq_true c69]; rfl) | (rw [m_part, decide_eq_false c51, decide_eq_false c57, decide_eq_false c63, decide_eq_false c69]; rfl), rfl⟩⟩
    · refine ab_iload_n (pc := 54) dX4_atEnd_54 rfl rfl ?_
      refine ab_bipush (pc := 55) (v := 12) dX4_atEnd_55 (by decide) ?_
      refine ab_icmp_eq (pc := 57) 72 dX4_atEnd_57 (by decide) (fun c57 => ?_) (fun c57 => ?_)
      · refine ab_iconst (pc := 72) (v := 1) dX4_atEnd_72 (by decide) ?_
        refine ab_goto (pc := 73) 77 dX4_atEnd_73 (by decide) ?_
        exact ab_retz (pc := 77) dX4_atEnd_77 rfl rfl ⟨_, rfl, ⟨by rw [m_atEnd, if_neg c11]; first | (rw [m_part, decide_eq_true c51]; rfl) | (rw [m_part, decide_eq_false c51, decide_eq_true c57]; rfl) | (rw [m_part, decide_eq_false c51, decide_eq_false c57, decide_eq_true c63]; rfl) | (rw [m_part, decide_eq_false c51, decide_eq_false c57, decide_eq_false c63, decide_eq_true c69]; rfl) | (rw [m_part, decide_eq_false c51, decide_eq_false c57, decide_eq_false c63, decide_eq_false c69]; rfl), rfl⟩⟩
      · refine ab_iload_n (pc := 60) dX4_atEnd_60 rfl rfl ?_
        refine ab_bipush (pc := 61) (v := 22) dX4_atEnd_61 (by decide) ?_
        refine ab_icmp_eq (pc := 63) 72 dX4_atEnd_63 (by decide) (fun c63 => ?_) (fun c63 => ?_)
        · refine ab_iconst (pc := 72) (v := 1) dX4_atEnd_72 (by decide) ?_
          refine ab_goto (pc := 73) 77 dX4_atEnd_73 (by decide) ?_
          exact ab_retz (pc := 77) dX4_atEnd_77 rfl rfl ⟨_, rfl, ⟨by rw [m_atEnd, if_neg c11]; first | (rw [m_part, decide_eq_true c51]; rfl) | (rw [m_part, decide_eq_false c51, decide_eq_true c57]; rfl) | (rw [m_part, decide_eq_false c51, decide_eq_false c57, decide_eq_true c63]; rfl) | (rw [m_part, decide_eq_false c51, decide_eq_false c57, decide_eq_false c63, decide_eq_true c69]; rfl) | (rw [m_part, decide_eq_false c51, decide_eq_false c57, decide_eq_false c63, decide_eq_false c69]; rfl), rfl⟩⟩
        · refine ab_iload_n (pc := 66) dX4_atEnd_66 rfl rfl ?_
          refine ab_bipush (pc := 67) (v := 16) dX4_atEnd_67 (by decide) ?_
          refine ab_icmp_ne (pc := 69) 76 dX4_atEnd_69 (by decide) (fun c69 => ?_) (fun c69 => ?_)
          · refine ab_iconst (pc := 76) (v := 0) dX4_atEnd_76 (by decide) ?_
            exact ab_retz (pc := 77) dX4_atEnd_77 rfl rfl ⟨_, rfl, ⟨by rw [m_atEnd, if_neg c11]; first | (rw [m_part, decide_eq_true c51]; rfl) | (rw [m_part, decide_eq_false c51, decide_eq_true c57]; rfl) | (rw [m_part, decide_eq_false c51, decide_eq_false c57, decide_eq_true c63]; rfl) | (rw [m_part, decide_eq_false c51, decide_eq_false c57, decide_eq_false c63, decide_eq_true c69]; rfl) | (rw [m_part, decide_eq_false c51, decide_eq_false c57, decide_eq_false c63, decide_eq_false c69]; rfl), rfl⟩⟩
          · refine ab_iconst (pc := 72) (v := 1) dX4_atEnd_72 (by decide) ?_
            refine ab_goto (pc := 73) 77 dX4_atEnd_73 (by decide) ?_
            exact ab_retz (pc := 77) dX4_atEnd_77 rfl rfl ⟨_, rfl, ⟨by rw [m_atEnd, if_neg c11]; first | (rw [m_part, decide_eq_true c51]; rfl) | (rw [m_part, decide_eq_false c51, decide_eq_true c57]; rfl) | (rw [m_part, decide_eq_false c51, decide_eq_false c57, decide_eq_true c63]; rfl) | (rw [m_part, decide_eq_false c51, decide_eq_false c57, decide_eq_false c63, decide_eq_true c69]; rfl) | (rw [m_part, decide_eq_false c51, decide_eq_false c57, decide_eq_false c63, decide_eq_false c69]; rfl), rfl⟩⟩
  · refine ab_aload_n (pc := 14) dX4_atEnd_14 rfl rfl ?_
    refine ab_geti (pc := 15) dX4_atEnd_15 fX4_174 rfl rfl ?_
    refine ab_aload_n (pc := 18) dX4_atEnd_18 rfl rfl ?_
    refine ab_getr (pc := 19) dX4_atEnd_19 fX4_74 rfl rfl ?_
    refine ab_aload_n (pc := 22) dX4_atEnd_22 rfl rfl ?_
    refine ab_geti (pc := 23) dX4_atEnd_23 fX4_95 rfl rfl ?_
    refine ab_iconst (pc := 26) (v := 1) dX4_atEnd_26 (by decide) ?_
    refine ab_isub (pc := 27) dX4_atEnd_27 ?_
    refine ab_iald (pc := 28) dX4_atEnd_28 rfl ho ?_
    refine ab_icmp_ne (pc := 29) 36 dX4_atEnd_29 (by decide) (fun c29 => ?_) (fun c29 => ?_)
    · refine ab_iconst (pc := 36) (v := 0) dX4_atEnd_36 (by decide) ?_
      exact ab_retz (pc := 37) dX4_atEnd_37 rfl rfl ⟨_, rfl, ⟨by first | (rw [m_atEnd, if_pos c11, c29, decide_eq_true rfl]; rfl) | (rw [m_atEnd, if_pos c11, decide_eq_false c29]; rfl), rfl⟩⟩
    · refine ab_iconst (pc := 32) (v := 1) dX4_atEnd_32 (by decide) ?_
      refine ab_goto (pc := 33) 37 dX4_atEnd_33 (by decide) ?_
      exact ab_retz (pc := 37) dX4_atEnd_37 rfl rfl ⟨_, rfl, ⟨by first | (rw [m_atEnd, if_pos c11, c29, decide_eq_true rfl]; rfl) | (rw [m_atEnd, if_pos c11, decide_eq_false c29]; rfl), rfl⟩⟩
