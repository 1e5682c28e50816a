/-! a workflow takes a NODE -/
def c_can (h : ab_H) (w : Nat) (lp : Nat) (s b : Int32) : Bool :=
  if h (8 * w + 14) 8 < 60 then
    (if s = 10 ∨ s = 13 ∨ s = 14 ∨ s = 15 ∨ s = 21 then decide (¬ 10 ≤ h (8 * w + 14) 7)
    else if s = 11 then decide (c_latest h w = 10)
    else if s = 12 then decide (c_latest h w = 10) || decide (c_latest h w = 11)
    else if s = 22 then decide (c_latest h w = 21)
    else if s = 16 then decide (¬ h (8 * w + 14) 7 ≤ 0)
    else if s = 17 ∨ s = 18 then decide (¬ nI lp ≤ b)
    else true)
  else false
def c_app0 (h : ab_H) (w : Nat) (s a b : Int32) : ab_H := ab_up (ab_up (ab_up (ab_up (ab_up (ab_up h (8 * w + 15) (h (8 * w + 14) 8).toNatClampNeg s) (8 * w + 16) (h (8 * w + 14) 8).toNatClampNeg a) (8 * w + 17) (h (8 * w + 14) 8).toNatClampNeg b) (8 * w + 18) (h (8 * w + 14) 8).toNatClampNeg (h (8 * w + 14) 8)) (8 * w + 19) (h (8 * w + 14) 8).toNatClampNeg (h (8 * w + 14) 8)) (8 * w + 14) 8 (h (8 * w + 14) 8 + 1)
def c_app (h : ab_H) (w : Nat) (s a b : Int32) : ab_H :=
  if s = 10 ∨ s = 13 ∨ s = 14 ∨ s = 15 ∨ s = 21 then c_openAt (c_app0 h w s a b) w (h (8 * w + 14) 8)
  else if s = 11 ∨ s = 12 ∨ s = 22 then c_partAt (c_app0 h w s a b) w (h (8 * w + 14) 8)
  else if s = 16 then c_closeAt (c_app0 h w s a b) w (h (8 * w + 14) 8)
  else c_app0 h w s a b
set_option maxRecDepth 100000 in
set_option maxHeartbeats 4000000 in
theorem lpX2_openLoops {l : Launch} {d : Nat} {h : ab_H} {w oN : Nat} (hw : w < 8) (ho : h (8 * w + 14) 7 = nI oN) (ho2 : oN ≤ 10) (hb : ∀ j, j < oN → vp_in (h (8 * w + 20) j) 60) : ∀ (n : Nat) (k : Nat), k ≤ oN → oN < k + n → ab_J l layC mX2_openLoops (d) (ab_qi fun r h' => r = nI (m_cnt (c_heads h w) oN) ∧ h' = h) 4 [(0, ab_R (8 * w + 14)), (1, ab_I (nI (m_cnt (c_heads h w) k))), (2, ab_I (nI k))] [] h := by
  intro n
  induction n with
  | zero =>
    intro k hk hn
    omega
  | succ n ih =>
    intro k hk hn
    have hc : (nI k).toNatClampNeg = k := nI_clamp (by omega)
    refine ab_iload_n (pc := 4) dX2_openLoops_4 rfl rfl ?_
    refine ab_aload_n (pc := 5) dX2_openLoops_5 rfl rfl ?_
    refine ab_geti (pc := 6) dX2_openLoops_6 fX2_33 (layC_o w hw) rfl ?_
    refine ab_topi (by (try simp only [ab_rd, ab_rdA, Nat.reduceEqDiff, reduceIte, hc, ho]); exact rfl) ?_
    refine ab_icmp_ge (pc := 9) 37 dX2_openLoops_9 (by decide) (fun c9 => ?_) (fun c9 => ?_)
    · obtain rfl : k = oN := by
        have := c9
        rw [nI_leI (by omega) (by omega)] at this
        omega
      refine ab_iload_n (pc := 37) dX2_openLoops_37 rfl rfl ?_
      exact ab_reti (pc := 38) dX2_openLoops_38 rfl ⟨_, rfl, ⟨rfl, rfl⟩⟩
    · have hk2 : k < oN := by
        rcases Nat.lt_or_ge k oN with z | z
        · exact z
        · exact absurd (nI_le z (by omega)) c9
      refine ab_aload_n (pc := 12) dX2_openLoops_12 rfl rfl ?_
      refine ab_getr (pc := 13) dX2_openLoops_13 fX2_9 (layC_o w hw) rfl ?_
      refine ab_aload_n (pc := 16) dX2_openLoops_16 rfl rfl ?_
      refine ab_getr (pc := 17) dX2_openLoops_17 fX2_27 (layC_o w hw) rfl ?_
      refine ab_iload_n (pc := 20) dX2_openLoops_20 rfl rfl ?_
      refine ab_iald (pc := 21) dX2_openLoops_21 (by first | exact layC_1 w hw | exact layC_2 w hw | exact layC_3 w hw | exact layC_4 w hw | exact layC_5 w hw | exact layC_6 w hw | exact layC_7 w hw) (vp_in_nI (by omega) (by omega)) ?_
      refine ab_topi (by (try simp only [ab_rd, ab_rdA, Nat.reduceEqDiff, reduceIte, hc, ho]); exact rfl) ?_
      refine ab_iald (pc := 22) dX2_openLoops_22 (by first | exact layC_1 w hw | exact layC_2 w hw | exact layC_3 w hw | exact layC_4 w hw | exact layC_5 w hw | exact layC_6 w hw | exact layC_7 w hw) (hb k hk2) ?_
      refine ab_topi (by (try simp only [ab_rd, ab_rdA, Nat.reduceEqDiff, reduceIte, hc, ho]); exact rfl) ?_
      refine ab_bipush (pc := 23) (v := 13) dX2_openLoops_23 (by decide) ?_
      refine ab_icmp_ne (pc := 25) 31 dX2_openLoops_25 (by decide) (fun c25 => ?_) (fun c25 => ?_)
      · refine ab_iinc (pc := 31) (v := 1) dX2_openLoops_31 rfl (by decide) rfl ?_
        refine ab_goto (pc := 34) 4 dX2_openLoops_34 (by decide) ?_
        first
          | (refine ab_weak [(0, ab_R (8 * w + 14)), (1, ab_I (nI (m_cnt (c_heads h w) k))), (2, ab_I (nI k + 1))] ⟨rfl, rfl, rfl, trivial⟩ ?_
             rw [nI_1, ← m_cnt_f (f := c_heads h w) c25]
             exact ih (k + 1) (by omega) (by omega))
          | (refine ab_weak [(0, ab_R (8 * w + 14)), (1, ab_I (nI (m_cnt (c_heads h w) k) + 1)), (2, ab_I (nI k + 1))] ⟨rfl, rfl, rfl, trivial⟩ ?_
             rw [nI_1, nI_1, ← m_cnt_t (f := c_heads h w) c25]
             exact ih (k + 1) (by omega) (by omega))
      · refine ab_iinc (pc := 28) (v := 1) dX2_openLoops_28 rfl (by decide) rfl ?_
        refine ab_iinc (pc := 31) (v := 1) dX2_openLoops_31 rfl (by decide) rfl ?_
        refine ab_goto (pc := 34) 4 dX2_openLoops_34 (by decide) ?_
        first
          | (refine ab_weak [(0, ab_R (8 * w + 14)), (1, ab_I (nI (m_cnt (c_heads h w) k))), (2, ab_I (nI k + 1))] ⟨rfl, rfl, rfl, trivial⟩ ?_
             rw [nI_1, ← m_cnt_f (f := c_heads h w) c25]
             exact ih (k + 1) (by omega) (by omega))
          | (refine ab_weak [(0, ab_R (8 * w + 14)), (1, ab_I (nI (m_cnt (c_heads h w) k) + 1)), (2, ab_I (nI k + 1))] ⟨rfl, rfl, rfl, trivial⟩ ?_
             rw [nI_1, nI_1, ← m_cnt_t (f := c_heads h w) c25]
             exact ih (k + 1) (by omega) (by omega))

set_option maxRecDepth 100000 in
set_option maxHeartbeats 4000000 in
theorem kX2_openLoops {l : Launch} {d : Nat} {h : ab_H} {w oN : Nat} (hw : w < 8) (ho7 : h (8 * w + 14) 7 = nI oN) (ho2 : oN ≤ 10) (hb : ∀ j, j < oN → vp_in (h (8 * w + 20) j) 60) : ab_C l layC (d) mX2_openLoops [ab_R (8 * w + 14)] h (ab_qi fun r h' => r = nI (m_cnt (c_heads h w) oN) ∧ h' = h) := by
  refine ab_enter (by decide) (Nat.le_of_ble_eq_true rfl) ?_
  refine ab_iconst (pc := 0) (v := 0) dX2_openLoops_0 (by decide) ?_
  refine ab_istore_n (pc := 1) dX2_openLoops_1 rfl rfl ?_
  refine ab_iconst (pc := 2) (v := 0) dX2_openLoops_2 (by decide) ?_
  refine ab_istore_n (pc := 3) dX2_openLoops_3 rfl rfl ?_
  refine ab_weak [(0, ab_R (8 * w + 14)), (1, ab_I (nI 0)), (2, ab_I (nI 0))] ⟨rfl, rfl, rfl, trivial⟩ ?_
  exact lpX2_openLoops hw ho7 ho2 hb (oN + 1) 0 (by omega) (by omega)

theorem c_can_t {h : ab_H} {w lp : Nat} {s b : Int32} (c : h (8 * w + 14) 8 < 60) (q : s = 10 ∨ s = 13 ∨ s = 14 ∨ s = 15 ∨ s = 21) : c_can h w lp s b = decide (¬ 10 ≤ h (8 * w + 14) 7) := by rw [c_can, if_pos c, if_pos q]
theorem c_can_11 {h : ab_H} {w lp : Nat} {s b : Int32} (c : h (8 * w + 14) 8 < 60) (q : s = 11) : c_can h w lp s b = decide (c_latest h w = 10) := by
  rw [c_can, if_pos c, if_neg (by rw [q]; decide), if_pos q]
theorem c_can_12 {h : ab_H} {w lp : Nat} {s b : Int32} (c : h (8 * w + 14) 8 < 60) (q : s = 12) : c_can h w lp s b = (decide (c_latest h w = 10) || decide (c_latest h w = 11)) := by
  rw [c_can, if_pos c, if_neg (by rw [q]; decide), if_neg (by rw [q]; decide), if_pos q]
theorem c_can_22 {h : ab_H} {w lp : Nat} {s b : Int32} (c : h (8 * w + 14) 8 < 60) (q : s = 22) : c_can h w lp s b = decide (c_latest h w = 21) := by
  rw [c_can, if_pos c, if_neg (by rw [q]; decide), if_neg (by rw [q]; decide), if_neg (by rw [q]; decide), if_pos q]
theorem c_can_16 {h : ab_H} {w lp : Nat} {s b : Int32} (c : h (8 * w + 14) 8 < 60) (q : s = 16) : c_can h w lp s b = decide (¬ h (8 * w + 14) 7 ≤ 0) := by
  rw [c_can, if_pos c, if_neg (by rw [q]; decide), if_neg (by rw [q]; decide), if_neg (by rw [q]; decide), if_neg (by rw [q]; decide), if_pos q]
theorem c_can_17 {h : ab_H} {w lp : Nat} {s b : Int32} (c : h (8 * w + 14) 8 < 60) (q : s = 17 ∨ s = 18) : c_can h w lp s b = decide (¬ nI lp ≤ b) := by
  rcases q with q | q
  · rw [c_can, if_pos c, if_neg (by rw [q]; decide), if_neg (by rw [q]; decide), if_neg (by rw [q]; decide), if_neg (by rw [q]; decide), if_neg (by rw [q]; decide), if_pos (Or.inl q)]
  · rw [c_can, if_pos c, if_neg (by rw [q]; decide), if_neg (by rw [q]; decide), if_neg (by rw [q]; decide), if_neg (by rw [q]; decide), if_neg (by rw [q]; decide), if_pos (Or.inr q)]
theorem c_can_d {h : ab_H} {w lp : Nat} {s b : Int32} (c : h (8 * w + 14) 8 < 60) (q : ¬ s = 10 ∧ ¬ s = 11 ∧ ¬ s = 12 ∧ ¬ s = 13 ∧ ¬ s = 14 ∧ ¬ s = 15 ∧ ¬ s = 16 ∧ ¬ s = 17 ∧ ¬ s = 18 ∧ ¬ s = 21 ∧ ¬ s = 22) : c_can h w lp s b = true := by
  obtain ⟨q10, q11, q12, q13, q14, q15, q16, q17, q18, q21, q22⟩ := q
  simp only [c_can, if_pos c, q10, q11, q12, q13, q14, q15, q16, q17, q18, q21, q22, or_false, if_false]
set_option maxRecDepth 100000 in
set_option maxHeartbeats 4000000 in
theorem kX2_canTake {l : Launch} {d : Nat} {h : ab_H} {w oN : Nat} {s b : Int32} (hw : w < 8) (ho : ¬ h (8 * w + 14) 7 ≤ 0 → vp_in (h (8 * w + 14) 7 - 1) 10) (hp : ¬ h (8 * w + 14) 7 ≤ 0 → vp_in (h (8 * w + 21) (h (8 * w + 14) 7 - 1).toNatClampNeg) 60) (ho7 : h (8 * w + 14) 7 = nI oN) (ho2 : oN ≤ 10) (hb : ∀ j, j < oN → vp_in (h (8 * w + 20) j) 60) : ab_C l layC (d + 1) mX2_canTake [ab_R (8 * w + 14), ab_I s, ab_I b] h (ab_qi fun r h' => r = b2i (c_can h w (m_cnt (c_heads h w) oN) s b) ∧ h' = h) := by
  refine ab_enter (by decide) (Nat.le_of_ble_eq_true rfl) ?_
  refine ab_aload_n (pc := 0) dX2_canTake_0 rfl rfl ?_
  refine ab_geti (pc := 1) dX2_canTake_1 fX2_37 (layC_o w hw) rfl ?_
  refine ab_bipush (pc := 4) (v := 60) dX2_canTake_4 (by decide) ?_
  refine ab_icmp_lt (pc := 6) 11 dX2_canTake_6 (by decide) (fun c6 => ?_) (fun c6 => ?_)
  · refine ab_iload_n (pc := 11) dX2_canTake_11 rfl rfl ?_
    refine ab_table (pc := 12) dX2_canTake_12 (by decide) (by decide) (by decide) (by decide) ?_
    refine ab_tw_c 10 80 (by decide) (by decide) (fun s12 => ?_) (fun n12_10 => ?_)
    · have hq : s = 10 ∨ s = 13 ∨ s = 14 ∨ s = 15 ∨ s = 21 := by rw [s12]; decide
      refine ab_aload_n (pc := 80) dX2_canTake_80 rfl rfl ?_
      refine ab_geti (pc := 81) dX2_canTake_81 fX2_33 (layC_o w hw) rfl ?_
      refine ab_bipush (pc := 84) (v := 10) dX2_canTake_84 (by decide) ?_
      refine ab_icmp_ge (pc := 86) 93 dX2_canTake_86 (by decide) (fun c86 => ?_) (fun c86 => ?_)
      · refine ab_iconst (pc := 93) (v := 0) dX2_canTake_93 (by decide) ?_
        exact ab_retz (pc := 94) dX2_canTake_94 rfl rfl ⟨_, rfl, ⟨(by first | (rw [c_can_t c6 hq, decide_eq_true c86]; rfl) | (rw [c_can_t c6 hq, decide_eq_false c86]; rfl) | (rw [c_can_t c6 hq, decide_eq_false (not_not_intro c86)]; rfl)), rfl⟩⟩
      · refine ab_iconst (pc := 89) (v := 1) dX2_canTake_89 (by decide) ?_
        refine ab_goto (pc := 90) 94 dX2_canTake_90 (by decide) ?_
        exact ab_retz (pc := 94) dX2_canTake_94 rfl rfl ⟨_, rfl, ⟨(by first | (rw [c_can_t c6 hq, decide_eq_true c86]; rfl) | (rw [c_can_t c6 hq, decide_eq_false c86]; rfl) | (rw [c_can_t c6 hq, decide_eq_false (not_not_intro c86)]; rfl)), rfl⟩⟩
    refine ab_tw_c 11 95 (by decide) (by decide) (fun s12 => ?_) (fun n12_11 => ?_)
    · refine ab_aload_n (pc := 95) dX2_canTake_95 rfl rfl ?_
      refine ab_V0 (pc := 96) dX2_canTake_96 mvX2_40 (layC_o w hw) rfl (kX2_latestPart hw ho hp) (ab_ki fun r96 h96 e96 => ?_)
      obtain ⟨rfl, rfl⟩ := And.intro e96.1.symm e96.2.symm
      refine ab_bipush (pc := 99) (v := 10) dX2_canTake_99 (by decide) ?_
      refine ab_icmp_ne (pc := 101) 108 dX2_canTake_101 (by decide) (fun c101 => ?_) (fun c101 => ?_)
      · refine ab_iconst (pc := 108) (v := 0) dX2_canTake_108 (by decide) ?_
        exact ab_retz (pc := 109) dX2_canTake_109 rfl rfl ⟨_, rfl, ⟨(by first | (rw [c_can_11 c6 s12, decide_eq_true c101]; rfl) | (rw [c_can_11 c6 s12, decide_eq_false c101]; rfl) | (rw [c_can_11 c6 s12, decide_eq_false (not_not_intro c101)]; rfl)), rfl⟩⟩
      · refine ab_iconst (pc := 104) (v := 1) dX2_canTake_104 (by decide) ?_
        refine ab_goto (pc := 105) 109 dX2_canTake_105 (by decide) ?_
        exact ab_retz (pc := 109) dX2_canTake_109 rfl rfl ⟨_, rfl, ⟨(by first | (rw [c_can_11 c6 s12, decide_eq_true c101]; rfl) | (rw [c_can_11 c6 s12, decide_eq_false c101]; rfl) | (rw [c_can_11 c6 s12, decide_eq_false (not_not_intro c101)]; rfl)), rfl⟩⟩
    refine ab_tw_c 12 110 (by decide) (by decide) (fun s12 => ?_) (fun n12_12 => ?_)
    · refine ab_aload_n (pc := 110) dX2_canTake_110 rfl rfl ?_
      refine ab_V0 (pc := 111) dX2_canTake_111 mvX2_40 (layC_o w hw) rfl (kX2_latestPart hw ho hp) (ab_ki fun r111 h111 e111 => ?_)
      obtain ⟨rfl, rfl⟩ := And.intro e111.1.symm e111.2.symm
      refine ab_bipush (pc := 114) (v := 10) dX2_canTake_114 (by decide) ?_
      refine ab_icmp_eq (pc := 116) 128 dX2_canTake_116 (by decide) (fun c116 => ?_) (fun c116 => ?_)
      · refine ab_iconst (pc := 128) (v := 1) dX2_canTake_128 (by decide) ?_
        refine ab_goto (pc := 129) 133 dX2_canTake_129 (by decide) ?_
        exact ab_retz (pc := 133) dX2_canTake_133 rfl rfl ⟨_, rfl, ⟨by first | (rw [c_can_12 c6 s12, decide_eq_true c116]; rfl) | (rw [c_can_12 c6 s12, decide_eq_false c116, decide_eq_true c125]; rfl) | (rw [c_can_12 c6 s12, decide_eq_false c116, decide_eq_false c125]; rfl), rfl⟩⟩
      · refine ab_aload_n (pc := 119) dX2_canTake_119 rfl rfl ?_
        refine ab_V0 (pc := 120) dX2_canTake_120 mvX2_40 (layC_o w hw) rfl (kX2_latestPart hw ho hp) (ab_ki fun r120 h120 e120 => ?_)
        obtain ⟨rfl, rfl⟩ := And.intro e120.1.symm e120.2.symm
        refine ab_bipush (pc := 123) (v := 11) dX2_canTake_123 (by decide) ?_
        refine ab_icmp_ne (pc := 125) 132 dX2_canTake_125 (by decide) (fun c125 => ?_) (fun c125 => ?_)
        · refine ab_iconst (pc := 132) (v := 0) dX2_canTake_132 (by decide) ?_
          exact ab_retz (pc := 133) dX2_canTake_133 rfl rfl ⟨_, rfl, ⟨by first | (rw [c_can_12 c6 s12, decide_eq_true c116]; rfl) | (rw [c_can_12 c6 s12, decide_eq_false c116, decide_eq_true c125]; rfl) | (rw [c_can_12 c6 s12, decide_eq_false c116, decide_eq_false c125]; rfl), rfl⟩⟩
        · refine ab_iconst (pc := 128) (v := 1) dX2_canTake_128 (by decide) ?_
          refine ab_goto (pc := 129) 133 dX2_canTake_129 (by decide) ?_
          exact ab_retz (pc := 133) dX2_canTake_133 rfl rfl ⟨_, rfl, ⟨by first | (rw [c_can_12 c6 s12, decide_eq_true c116]; rfl) | (rw [c_can_12 c6 s12, decide_eq_false c116, decide_eq_true c125]; rfl) | (rw [c_can_12 c6 s12, decide_eq_false c116, decide_eq_false c125]; rfl), rfl⟩⟩
    refine ab_tw_c 13 80 (by decide) (by decide) (fun s12 => ?_) (fun n12_13 => ?_)
    · have hq : s = 10 ∨ s = 13 ∨ s = 14 ∨ s = 15 ∨ s = 21 := by rw [s12]; decide
      refine ab_aload_n (pc := 80) dX2_canTake_80 rfl rfl ?_
      refine ab_geti (pc := 81) dX2_canTake_81 fX2_33 (layC_o w hw) rfl ?_
      refine ab_bipush (pc := 84) (v := 10) dX2_canTake_84 (by decide) ?_
      refine ab_icmp_ge (pc := 86) 93 dX2_canTake_86 (by decide) (fun c86 => ?_) (fun c86 => ?_)
      · refine ab_iconst (pc := 93) (v := 0) dX2_canTake_93 (by decide) ?_
        exact ab_retz (pc := 94) dX2_canTake_94 rfl rfl ⟨_, rfl, ⟨(by first | (rw [c_can_t c6 hq, decide_eq_true c86]; rfl) | (rw [c_can_t c6 hq, decide_eq_false c86]; rfl) | (rw [c_can_t c6 hq, decide_eq_false (not_not_intro c86)]; rfl)), rfl⟩⟩
      · refine ab_iconst (pc := 89) (v := 1) dX2_canTake_89 (by decide) ?_
        refine ab_goto (pc := 90) 94 dX2_canTake_90 (by decide) ?_
        exact ab_retz (pc := 94) dX2_canTake_94 rfl rfl ⟨_, rfl, ⟨(by first | (rw [c_can_t c6 hq, decide_eq_true c86]; rfl) | (rw [c_can_t c6 hq, decide_eq_false c86]; rfl) | (rw [c_can_t c6 hq, decide_eq_false (not_not_intro c86)]; rfl)), rfl⟩⟩
    refine ab_tw_c 14 80 (by decide) (by decide) (fun s12 => ?_) (fun n12_14 => ?_)
    · have hq : s = 10 ∨ s = 13 ∨ s = 14 ∨ s = 15 ∨ s = 21 := by rw [s12]; decide
      refine ab_aload_n (pc := 80) dX2_canTake_80 rfl rfl ?_
      refine ab_geti (pc := 81) dX2_canTake_81 fX2_33 (layC_o w hw) rfl ?_
      refine ab_bipush (pc := 84) (v := 10) dX2_canTake_84 (by decide) ?_
      refine ab_icmp_ge (pc := 86) 93 dX2_canTake_86 (by decide) (fun c86 => ?_) (fun c86 => ?_)
      · refine ab_iconst (pc := 93) (v := 0) dX2_canTake_93 (by decide) ?_
        exact ab_retz (pc := 94) dX2_canTake_94 rfl rfl ⟨_, rfl, ⟨(by first | (rw [c_can_t c6 hq, decide_eq_true c86]; rfl) | (rw [c_can_t c6 hq, decide_eq_false c86]; rfl) | (rw [c_can_t c6 hq, decide_eq_false (not_not_intro c86)]; rfl)), rfl⟩⟩
      · refine ab_iconst (pc := 89) (v := 1) dX2_canTake_89 (by decide) ?_
        refine ab_goto (pc := 90) 94 dX2_canTake_90 (by decide) ?_
        exact ab_retz (pc := 94) dX2_canTake_94 rfl rfl ⟨_, rfl, ⟨(by first | (rw [c_can_t c6 hq, decide_eq_true c86]; rfl) | (rw [c_can_t c6 hq, decide_eq_false c86]; rfl) | (rw [c_can_t c6 hq, decide_eq_false (not_not_intro c86)]; rfl)), rfl⟩⟩
    refine ab_tw_c 15 80 (by decide) (by decide) (fun s12 => ?_) (fun n12_15 => ?_)
    · have hq : s = 10 ∨ s = 13 ∨ s = 14 ∨ s = 15 ∨ s = 21 := by rw [s12]; decide
      refine ab_aload_n (pc := 80) dX2_canTake_80 rfl rfl ?_
      refine ab_geti (pc := 81) dX2_canTake_81 fX2_33 (layC_o w hw) rfl ?_
      refine ab_bipush (pc := 84) (v := 10) dX2_canTake_84 (by decide) ?_
      refine ab_icmp_ge (pc := 86) 93 dX2_canTake_86 (by decide) (fun c86 => ?_) (fun c86 => ?_)
      · refine ab_iconst (pc := 93) (v := 0) dX2_canTake_93 (by decide) ?_
        exact ab_retz (pc := 94) dX2_canTake_94 rfl rfl ⟨_, rfl, ⟨(by first | (rw [c_can_t c6 hq, decide_eq_true c86]; rfl) | (rw [c_can_t c6 hq, decide_eq_false c86]; rfl) | (rw [c_can_t c6 hq, decide_eq_false (not_not_intro c86)]; rfl)), rfl⟩⟩
      · refine ab_iconst (pc := 89) (v := 1) dX2_canTake_89 (by decide) ?_
        refine ab_goto (pc := 90) 94 dX2_canTake_90 (by decide) ?_
        exact ab_retz (pc := 94) dX2_canTake_94 rfl rfl ⟨_, rfl, ⟨(by first | (rw [c_can_t c6 hq, decide_eq_true c86]; rfl) | (rw [c_can_t c6 hq, decide_eq_false c86]; rfl) | (rw [c_can_t c6 hq, decide_eq_false (not_not_intro c86)]; rfl)), rfl⟩⟩
    refine ab_tw_c 16 149 (by decide) (by decide) (fun s12 => ?_) (fun n12_16 => ?_)
    · refine ab_aload_n (pc := 149) dX2_canTake_149 rfl rfl ?_
      refine ab_geti (pc := 150) dX2_canTake_150 fX2_33 (layC_o w hw) rfl ?_
      refine ab_if_le (pc := 153) 160 dX2_canTake_153 (by decide) (fun c153 => ?_) (fun c153 => ?_)
      · refine ab_iconst (pc := 160) (v := 0) dX2_canTake_160 (by decide) ?_
        exact ab_retz (pc := 161) dX2_canTake_161 rfl rfl ⟨_, rfl, ⟨(by first | (rw [c_can_16 c6 s12, decide_eq_true c153]; rfl) | (rw [c_can_16 c6 s12, decide_eq_false c153]; rfl) | (rw [c_can_16 c6 s12, decide_eq_false (not_not_intro c153)]; rfl)), rfl⟩⟩
      · refine ab_iconst (pc := 156) (v := 1) dX2_canTake_156 (by decide) ?_
        refine ab_goto (pc := 157) 161 dX2_canTake_157 (by decide) ?_
        exact ab_retz (pc := 161) dX2_canTake_161 rfl rfl ⟨_, rfl, ⟨(by first | (rw [c_can_16 c6 s12, decide_eq_true c153]; rfl) | (rw [c_can_16 c6 s12, decide_eq_false c153]; rfl) | (rw [c_can_16 c6 s12, decide_eq_false (not_not_intro c153)]; rfl)), rfl⟩⟩
    refine ab_tw_c 17 162 (by decide) (by decide) (fun s12 => ?_) (fun n12_17 => ?_)
    · have hq : s = 17 ∨ s = 18 := by rw [s12]; decide
      refine ab_aload_n (pc := 162) dX2_canTake_162 rfl rfl ?_
      refine ab_V0 (pc := 163) dX2_canTake_163 mvX2_44 (layC_o w hw) rfl (kX2_openLoops hw ho7 ho2 hb) (ab_ki fun r163 h163 e163 => ?_)
      obtain ⟨rfl, rfl⟩ := And.intro e163.1.symm e163.2.symm
      refine ab_iload_n (pc := 166) dX2_canTake_166 rfl rfl ?_
      refine ab_icmp_le (pc := 167) 174 dX2_canTake_167 (by decide) (fun c167 => ?_) (fun c167 => ?_)
      · refine ab_iconst (pc := 174) (v := 0) dX2_canTake_174 (by decide) ?_
        exact ab_retz (pc := 175) dX2_canTake_175 rfl rfl ⟨_, rfl, ⟨(by first | (rw [c_can_17 c6 hq, decide_eq_true c167]; rfl) | (rw [c_can_17 c6 hq, decide_eq_false c167]; rfl) | (rw [c_can_17 c6 hq, decide_eq_false (not_not_intro c167)]; rfl)), rfl⟩⟩
      · refine ab_iconst (pc := 170) (v := 1) dX2_canTake_170 (by decide) ?_
        refine ab_goto (pc := 171) 175 dX2_canTake_171 (by decide) ?_
        exact ab_retz (pc := 175) dX2_canTake_175 rfl rfl ⟨_, rfl, ⟨(by first | (rw [c_can_17 c6 hq, decide_eq_true c167]; rfl) | (rw [c_can_17 c6 hq, decide_eq_false c167]; rfl) | (rw [c_can_17 c6 hq, decide_eq_false (not_not_intro c167)]; rfl)), rfl⟩⟩
    refine ab_tw_c 18 162 (by decide) (by decide) (fun s12 => ?_) (fun n12_18 => ?_)
    · have hq : s = 17 ∨ s = 18 := by rw [s12]; decide
      refine ab_aload_n (pc := 162) dX2_canTake_162 rfl rfl ?_
      refine ab_V0 (pc := 163) dX2_canTake_163 mvX2_44 (layC_o w hw) rfl (kX2_openLoops hw ho7 ho2 hb) (ab_ki fun r163 h163 e163 => ?_)
      obtain ⟨rfl, rfl⟩ := And.intro e163.1.symm e163.2.symm
      refine ab_iload_n (pc := 166) dX2_canTake_166 rfl rfl ?_
      refine ab_icmp_le (pc := 167) 174 dX2_canTake_167 (by decide) (fun c167 => ?_) (fun c167 => ?_)
      · refine ab_iconst (pc := 174) (v := 0) dX2_canTake_174 (by decide) ?_
        exact ab_retz (pc := 175) dX2_canTake_175 rfl rfl ⟨_, rfl, ⟨(by first | (rw [c_can_17 c6 hq, decide_eq_true c167]; rfl) | (rw [c_can_17 c6 hq, decide_eq_false c167]; rfl) | (rw [c_can_17 c6 hq, decide_eq_false (not_not_intro c167)]; rfl)), rfl⟩⟩
      · refine ab_iconst (pc := 170) (v := 1) dX2_canTake_170 (by decide) ?_
        refine ab_goto (pc := 171) 175 dX2_canTake_171 (by decide) ?_
        exact ab_retz (pc := 175) dX2_canTake_175 rfl rfl ⟨_, rfl, ⟨(by first | (rw [c_can_17 c6 hq, decide_eq_true c167]; rfl) | (rw [c_can_17 c6 hq, decide_eq_false c167]; rfl) | (rw [c_can_17 c6 hq, decide_eq_false (not_not_intro c167)]; rfl)), rfl⟩⟩
    refine ab_tw_c 19 176 (by decide) (by decide) (fun s12 => ?_) (fun n12_19 => ?_)
    · have hq : ¬ s = 10 ∧ ¬ s = 11 ∧ ¬ s = 12 ∧ ¬ s = 13 ∧ ¬ s = 14 ∧ ¬ s = 15 ∧ ¬ s = 16 ∧ ¬ s = 17 ∧ ¬ s = 18 ∧ ¬ s = 21 ∧ ¬ s = 22 := by first | (rw [s12]; decide) | exact And.intro n12_10 (And.intro n12_11 (And.intro n12_12 (And.intro n12_13 (And.intro n12_14 (And.intro n12_15 (And.intro n12_16 (And.intro n12_17 (And.intro n12_18 (And.intro n12_21 n12_22)))))))))
      refine ab_iconst (pc := 176) (v := 1) dX2_canTake_176 (by decide) ?_
      exact ab_retz (pc := 177) dX2_canTake_177 rfl rfl ⟨_, rfl, ⟨by rw [c_can_d c6 hq]; rfl, rfl⟩⟩
    refine ab_tw_c 20 176 (by decide) (by decide) (fun s12 => ?_) (fun n12_20 => ?_)
    · have hq : ¬ s = 10 ∧ ¬ s = 11 ∧ ¬ s = 12 ∧ ¬ s = 13 ∧ ¬ s = 14 ∧ ¬ s = 15 ∧ ¬ s = 16 ∧ ¬ s = 17 ∧ ¬ s = 18 ∧ ¬ s = 21 ∧ ¬ s = 22 := by first | (rw [s12]; decide) | exact And.intro n12_10 (And.intro n12_11 (And.intro n12_12 (And.intro n12_13 (And.intro n12_14 (And.intro n12_15 (And.intro n12_16 (And.intro n12_17 (And.intro n12_18 (And.intro n12_21 n12_22)))))))))
      refine ab_iconst (pc := 176) (v := 1) dX2_canTake_176 (by decide) ?_
      exact ab_retz (pc := 177) dX2_canTake_177 rfl rfl ⟨_, rfl, ⟨by rw [c_can_d c6 hq]; rfl, rfl⟩⟩
    refine ab_tw_c 21 80 (by decide) (by decide) (fun s12 => ?_) (fun n12_21 => ?_)
    · have hq : s = 10 ∨ s = 13 ∨ s = 14 ∨ s = 15 ∨ s = 21 := by rw [s12]; decide
      refine ab_aload_n (pc := 80) dX2_canTake_80 rfl rfl ?_
      refine ab_geti (pc := 81) dX2_canTake_81 fX2_33 (layC_o w hw) rfl ?_
      refine ab_bipush (pc := 84) (v := 10) dX2_canTake_84 (by decide) ?_
      refine ab_icmp_ge (pc := 86) 93 dX2_canTake_86 (by decide) (fun c86 => ?_) (fun c86 => ?_)
      · refine ab_iconst (pc := 93) (v := 0) dX2_canTake_93 (by decide) ?_
        exact ab_retz (pc := 94) dX2_canTake_94 rfl rfl ⟨_, rfl, ⟨(by first | (rw [c_can_t c6 hq, decide_eq_true c86]; rfl) | (rw [c_can_t c6 hq, decide_eq_false c86]; rfl) | (rw [c_can_t c6 hq, decide_eq_false (not_not_intro c86)]; rfl)), rfl⟩⟩
      · refine ab_iconst (pc := 89) (v := 1) dX2_canTake_89 (by decide) ?_
        refine ab_goto (pc := 90) 94 dX2_canTake_90 (by decide) ?_
        exact ab_retz (pc := 94) dX2_canTake_94 rfl rfl ⟨_, rfl, ⟨(by first | (rw [c_can_t c6 hq, decide_eq_true c86]; rfl) | (rw [c_can_t c6 hq, decide_eq_false c86]; rfl) | (rw [c_can_t c6 hq, decide_eq_false (not_not_intro c86)]; rfl)), rfl⟩⟩
    refine ab_tw_c 22 134 (by decide) (by decide) (fun s12 => ?_) (fun n12_22 => ?_)
    · refine ab_aload_n (pc := 134) dX2_canTake_134 rfl rfl ?_
      refine ab_V0 (pc := 135) dX2_canTake_135 mvX2_40 (layC_o w hw) rfl (kX2_latestPart hw ho hp) (ab_ki fun r135 h135 e135 => ?_)
      obtain ⟨rfl, rfl⟩ := And.intro e135.1.symm e135.2.symm
      refine ab_bipush (pc := 138) (v := 21) dX2_canTake_138 (by decide) ?_
      refine ab_icmp_ne (pc := 140) 147 dX2_canTake_140 (by decide) (fun c140 => ?_) (fun c140 => ?_)
      · refine ab_iconst (pc := 147) (v := 0) dX2_canTake_147 (by decide) ?_
        exact ab_retz (pc := 148) dX2_canTake_148 rfl rfl ⟨_, rfl, ⟨(by first | (rw [c_can_22 c6 s12, decide_eq_true c140]; rfl) | (rw [c_can_22 c6 s12, decide_eq_false c140]; rfl) | (rw [c_can_22 c6 s12, decide_eq_false (not_not_intro c140)]; rfl)), rfl⟩⟩
      · refine ab_iconst (pc := 143) (v := 1) dX2_canTake_143 (by decide) ?_
        refine ab_goto (pc := 144) 148 dX2_canTake_144 (by decide) ?_
        exact ab_retz (pc := 148) dX2_canTake_148 rfl rfl ⟨_, rfl, ⟨(by first | (rw [c_can_22 c6 s12, decide_eq_true c140]; rfl) | (rw [c_can_22 c6 s12, decide_eq_false c140]; rfl) | (rw [c_can_22 c6 s12, decide_eq_false (not_not_intro c140)]; rfl)), rfl⟩⟩
    refine ab_tw_n 176 (by decide) ?_
    have hq : ¬ s = 10 ∧ ¬ s = 11 ∧ ¬ s = 12 ∧ ¬ s = 13 ∧ ¬ s = 14 ∧ ¬ s = 15 ∧ ¬ s = 16 ∧ ¬ s = 17 ∧ ¬ s = 18 ∧ ¬ s = 21 ∧ ¬ s = 22 := by first | (rw [s12]; decide) | exact And.intro n12_10 (And.intro n12_11 (And.intro n12_12 (And.intro n12_13 (And.intro n12_14 (And.intro n12_15 (And.intro n12_16 (And.intro n12_17 (And.intro n12_18 (And.intro n12_21 n12_22)))))))))
    refine ab_iconst (pc := 176) (v := 1) dX2_canTake_176 (by decide) ?_
    exact ab_retz (pc := 177) dX2_canTake_177 rfl rfl ⟨_, rfl, ⟨by rw [c_can_d c6 hq]; rfl, rfl⟩⟩
  · refine ab_iconst (pc := 9) (v := 0) dX2_canTake_9 (by decide) ?_
    exact ab_retz (pc := 10) dX2_canTake_10 rfl rfl ⟨_, rfl, ⟨by rw [c_can, if_neg c6]; rfl, rfl⟩⟩

set_option maxRecDepth 100000 in
set_option maxHeartbeats 4000000 in
theorem kX2_append {l : Launch} {d : Nat} {h : ab_H} {w : Nat} {s a b : Int32} (hw : w < 8) (ho : ¬ h (8 * w + 14) 7 ≤ 0 → vp_in (h (8 * w + 14) 7 - 1) 10) (hp : ¬ h (8 * w + 14) 7 ≤ 0 → vp_in (h (8 * w + 21) (h (8 * w + 14) 7 - 1).toNatClampNeg) 60) (hz : vp_in (h (8 * w + 14) 8) 60) (hoA : ¬ 10 ≤ h (8 * w + 14) 7 → vp_in (h (8 * w + 14) 7) 10) (hbb : ¬ h (8 * w + 14) 7 ≤ 0 → vp_in (h (8 * w + 20) (h (8 * w + 14) 7 - 1).toNatClampNeg) 60) : ab_C l layC (d + 1) mX2_append [ab_R (8 * w + 14), ab_I s, ab_I a, ab_I b] h (ab_qv fun h' => h' = c_app h w s a b) := by
  refine ab_enter (by decide) (Nat.le_of_ble_eq_true rfl) ?_
  refine ab_aload_n (pc := 0) dX2_append_0 rfl rfl ?_
  refine ab_geti (pc := 1) dX2_append_1 fX2_37 (layC_o w hw) rfl ?_
  refine ab_istore (pc := 4) dX2_append_4 rfl ?_
  refine ab_aload_n (pc := 6) dX2_append_6 rfl rfl ?_
  refine ab_getr (pc := 7) dX2_append_7 fX2_9 (layC_o w hw) rfl ?_
  refine ab_iload (pc := 10) dX2_append_10 rfl ?_
  refine ab_iload_n (pc := 12) dX2_append_12 rfl rfl ?_
  refine ab_iast (pc := 13) dX2_append_13 (by first | exact layC_1 w hw | exact layC_2 w hw | exact layC_3 w hw | exact layC_4 w hw | exact layC_5 w hw | exact layC_6 w hw | exact layC_7 w hw) hz ?_
  refine ab_aload_n (pc := 14) dX2_append_14 rfl rfl ?_
  refine ab_getr (pc := 15) dX2_append_15 fX2_15 (layC_o w hw) rfl ?_
  refine ab_iload (pc := 18) dX2_append_18 rfl ?_
  refine ab_iload_n (pc := 20) dX2_append_20 rfl rfl ?_
  refine ab_iast (pc := 21) dX2_append_21 (by first | exact layC_1 w hw | exact layC_2 w hw | exact layC_3 w hw | exact layC_4 w hw | exact layC_5 w hw | exact layC_6 w hw | exact layC_7 w hw) hz ?_
  refine ab_aload_n (pc := 22) dX2_append_22 rfl rfl ?_
  refine ab_getr (pc := 23) dX2_append_23 fX2_18 (layC_o w hw) rfl ?_
  refine ab_iload (pc := 26) dX2_append_26 rfl ?_
  refine ab_iload_n (pc := 28) dX2_append_28 rfl rfl ?_
  refine ab_iast (pc := 29) dX2_append_29 (by first | exact layC_1 w hw | exact layC_2 w hw | exact layC_3 w hw | exact layC_4 w hw | exact layC_5 w hw | exact layC_6 w hw | exact layC_7 w hw) hz ?_
  refine ab_aload_n (pc := 30) dX2_append_30 rfl rfl ?_
  refine ab_getr (pc := 31) dX2_append_31 fX2_21 (layC_o w hw) rfl ?_
  refine ab_iload (pc := 34) dX2_append_34 rfl ?_
  refine ab_iload (pc := 36) dX2_append_36 rfl ?_
  refine ab_iast (pc := 38) dX2_append_38 (by first | exact layC_1 w hw | exact layC_2 w hw | exact layC_3 w hw | exact layC_4 w hw | exact layC_5 w hw | exact layC_6 w hw | exact layC_7 w hw) hz ?_
  refine ab_aload_n (pc := 39) dX2_append_39 rfl rfl ?_
  refine ab_getr (pc := 40) dX2_append_40 fX2_24 (layC_o w hw) rfl ?_
  refine ab_iload (pc := 43) dX2_append_43 rfl ?_
  refine ab_iload (pc := 45) dX2_append_45 rfl ?_
  refine ab_iast (pc := 47) dX2_append_47 (by first | exact layC_1 w hw | exact layC_2 w hw | exact layC_3 w hw | exact layC_4 w hw | exact layC_5 w hw | exact layC_6 w hw | exact layC_7 w hw) hz ?_
  refine ab_aload_n (pc := 48) dX2_append_48 rfl rfl ?_
  refine ab_dup (pc := 49) dX2_append_49 rfl ?_
  refine ab_geti (pc := 50) dX2_append_50 fX2_37 (layC_o w hw) rfl ?_
  refine ab_topi (by (try simp only [ab_rd, ab_rdA, Nat.reduceEqDiff, reduceIte, Nat.left_eq_add, Nat.add_eq_left]); exact rfl) ?_
  refine ab_iconst (pc := 53) (v := 1) dX2_append_53 (by decide) ?_
  refine ab_iadd (pc := 54) dX2_append_54 ?_
  refine ab_puti (pc := 55) dX2_append_55 fwX2_37 (layC_o w hw) rfl ?_
  refine ab_heq (show _ = c_app0 h w s a b from rfl) ?_
  have e7 : c_app0 h w s a b (8 * w + 14) 7 = h (8 * w + 14) 7 := by simp [c_app0, ab_rd]
  have e21 : c_app0 h w s a b (8 * w + 21) = h (8 * w + 21) := by funext k; simp [c_app0, ab_rd]
  have e20 : c_app0 h w s a b (8 * w + 20) = h (8 * w + 20) := by funext k; simp [c_app0, ab_rd]
  refine ab_iload_n (pc := 58) dX2_append_58 rfl rfl ?_
  refine ab_table (pc := 59) dX2_append_59 (by decide) (by decide) (by decide) (by decide) ?_
  refine ab_tw_c 10 124 (by decide) (by decide) (fun s59 => ?_) (fun n59_10 => ?_)
  · have hq : s = 10 ∨ s = 13 ∨ s = 14 ∨ s = 15 ∨ s = 21 := by rw [s59]; decide
    refine ab_aload_n (pc := 124) dX2_append_124 rfl rfl ?_
    refine ab_iload (pc := 125) dX2_append_125 rfl ?_
    refine ab_V1 (pc := 127) dX2_append_127 mvX2_47 (layC_o w hw) rfl (kX2_openAt hw (by rw [e7]; exact hoA)) (ab_kv fun h127 e127 => ?_)
    obtain rfl := e127.symm
    refine ab_goto (pc := 130) 151 dX2_append_130 (by decide) ?_
    exact ab_retv (pc := 151) dX2_append_151 rfl ⟨rfl, by rw [c_app, if_pos hq]⟩
  refine ab_tw_c 11 133 (by decide) (by decide) (fun s59 => ?_) (fun n59_11 => ?_)
  · have hq1 : ¬ (s = 10 ∨ s = 13 ∨ s = 14 ∨ s = 15 ∨ s = 21) := by rw [s59]; decide
    have hq : s = 11 ∨ s = 12 ∨ s = 22 := by rw [s59]; decide
    refine ab_aload_n (pc := 133) dX2_append_133 rfl rfl ?_
    refine ab_iload (pc := 134) dX2_append_134 rfl ?_
    refine ab_V1 (pc := 136) dX2_append_136 mvX2_51 (layC_o w hw) rfl (kX2_beginPartAt hw (by rw [e7]; exact ho) (by rw [e7, e21]; exact hp)) (ab_kv fun h136 e136 => ?_)
    obtain rfl := e136.symm
    refine ab_goto (pc := 139) 151 dX2_append_139 (by decide) ?_
    exact ab_retv (pc := 151) dX2_append_151 rfl ⟨rfl, by rw [c_app, if_neg hq1, if_pos hq]⟩
  refine ab_tw_c 12 133 (by decide) (by decide) (fun s59 => ?_) (fun n59_12 => ?_)
  · have hq1 : ¬ (s = 10 ∨ s = 13 ∨ s = 14 ∨ s = 15 ∨ s = 21) := by rw [s59]; decide
    have hq : s = 11 ∨ s = 12 ∨ s = 22 := by rw [s59]; decide
    refine ab_aload_n (pc := 133) dX2_append_133 rfl rfl ?_
    refine ab_iload (pc := 134) dX2_append_134 rfl ?_
    refine ab_V1 (pc := 136) dX2_append_136 mvX2_51 (layC_o w hw) rfl (kX2_beginPartAt hw (by rw [e7]; exact ho) (by rw [e7, e21]; exact hp)) (ab_kv fun h136 e136 => ?_)
    obtain rfl := e136.symm
    refine ab_goto (pc := 139) 151 dX2_append_139 (by decide) ?_
    exact ab_retv (pc := 151) dX2_append_151 rfl ⟨rfl, by rw [c_app, if_neg hq1, if_pos hq]⟩
  refine ab_tw_c 13 124 (by decide) (by decide) (fun s59 => ?_) (fun n59_13 => ?_)
  · have hq : s = 10 ∨ s = 13 ∨ s = 14 ∨ s = 15 ∨ s = 21 := by rw [s59]; decide
    refine ab_aload_n (pc := 124) dX2_append_124 rfl rfl ?_
    refine ab_iload (pc := 125) dX2_append_125 rfl ?_
    refine ab_V1 (pc := 127) dX2_append_127 mvX2_47 (layC_o w hw) rfl (kX2_openAt hw (by rw [e7]; exact hoA)) (ab_kv fun h127 e127 => ?_)
    obtain rfl := e127.symm
    refine ab_goto (pc := 130) 151 dX2_append_130 (by decide) ?_
    exact ab_retv (pc := 151) dX2_append_151 rfl ⟨rfl, by rw [c_app, if_pos hq]⟩
  refine ab_tw_c 14 124 (by decide) (by decide) (fun s59 => ?_) (fun n59_14 => ?_)
  · have hq : s = 10 ∨ s = 13 ∨ s = 14 ∨ s = 15 ∨ s = 21 := by rw [s59]; decide
    refine ab_aload_n (pc := 124) dX2_append_124 rfl rfl ?_
    refine ab_iload (pc := 125) dX2_append_125 rfl ?_
    refine ab_V1 (pc := 127) dX2_append_127 mvX2_47 (layC_o w hw) rfl (kX2_openAt hw (by rw [e7]; exact hoA)) (ab_kv fun h127 e127 => ?_)
    obtain rfl := e127.symm
    refine ab_goto (pc := 130) 151 dX2_append_130 (by decide) ?_
    exact ab_retv (pc := 151) dX2_append_151 rfl ⟨rfl, by rw [c_app, if_pos hq]⟩
  refine ab_tw_c 15 124 (by decide) (by decide) (fun s59 => ?_) (fun n59_15 => ?_)
  · have hq : s = 10 ∨ s = 13 ∨ s = 14 ∨ s = 15 ∨ s = 21 := by rw [s59]; decide
    refine ab_aload_n (pc := 124) dX2_append_124 rfl rfl ?_
    refine ab_iload (pc := 125) dX2_append_125 rfl ?_
    refine ab_V1 (pc := 127) dX2_append_127 mvX2_47 (layC_o w hw) rfl (kX2_openAt hw (by rw [e7]; exact hoA)) (ab_kv fun h127 e127 => ?_)
    obtain rfl := e127.symm
    refine ab_goto (pc := 130) 151 dX2_append_130 (by decide) ?_
    exact ab_retv (pc := 151) dX2_append_151 rfl ⟨rfl, by rw [c_app, if_pos hq]⟩
  refine ab_tw_c 16 142 (by decide) (by decide) (fun s59 => ?_) (fun n59_16 => ?_)
  · have hq1 : ¬ (s = 10 ∨ s = 13 ∨ s = 14 ∨ s = 15 ∨ s = 21) := by rw [s59]; decide
    have hq2 : ¬ (s = 11 ∨ s = 12 ∨ s = 22) := by rw [s59]; decide
    refine ab_aload_n (pc := 142) dX2_append_142 rfl rfl ?_
    refine ab_iload (pc := 143) dX2_append_143 rfl ?_
    refine ab_V1 (pc := 145) dX2_append_145 mvX2_54 (layC_o w hw) rfl (kX2_closeAt hw (by rw [e7]; exact ho) (by rw [e7, e21]; exact hp) (by rw [e7, e20]; exact hbb)) (ab_kv fun h145 e145 => ?_)
    obtain rfl := e145.symm
    refine ab_goto (pc := 148) 151 dX2_append_148 (by decide) ?_
    exact ab_retv (pc := 151) dX2_append_151 rfl ⟨rfl, by rw [c_app, if_neg hq1, if_neg hq2, if_pos s59]⟩
  refine ab_tw_c 17 151 (by decide) (by decide) (fun s59 => ?_) (fun n59_17 => ?_)
  · have hd : ¬ (s = 10 ∨ s = 13 ∨ s = 14 ∨ s = 15 ∨ s = 21) ∧ ¬ (s = 11 ∨ s = 12 ∨ s = 22) ∧ ¬ s = 16 := by first | (rw [s59]; decide) | exact And.intro (fun q => q.elim n59_10 (fun q => q.elim n59_13 (fun q => q.elim n59_14 (fun q => q.elim n59_15 n59_21)))) (And.intro (fun q => q.elim n59_11 (fun q => q.elim n59_12 n59_22)) n59_16)
    exact ab_retv (pc := 151) dX2_append_151 rfl ⟨rfl, by rw [c_app, if_neg hd.1, if_neg hd.2.1, if_neg hd.2.2]⟩
  refine ab_tw_c 18 151 (by decide) (by decide) (fun s59 => ?_) (fun n59_18 => ?_)
  · have hd : ¬ (s = 10 ∨ s = 13 ∨ s = 14 ∨ s = 15 ∨ s = 21) ∧ ¬ (s = 11 ∨ s = 12 ∨ s = 22) ∧ ¬ s = 16 := by first | (rw [s59]; decide) | exact And.intro (fun q => q.elim n59_10 (fun q => q.elim n59_13 (fun q => q.elim n59_14 (fun q => q.elim n59_15 n59_21)))) (And.intro (fun q => q.elim n59_11 (fun q => q.elim n59_12 n59_22)) n59_16)
    exact ab_retv (pc := 151) dX2_append_151 rfl ⟨rfl, by rw [c_app, if_neg hd.1, if_neg hd.2.1, if_neg hd.2.2]⟩
  refine ab_tw_c 19 151 (by decide) (by decide) (fun s59 => ?_) (fun n59_19 => ?_)
  · have hd : ¬ (s = 10 ∨ s = 13 ∨ s = 14 ∨ s = 15 ∨ s = 21) ∧ ¬ (s = 11 ∨ s = 12 ∨ s = 22) ∧ ¬ s = 16 := by first | (rw [s59]; decide) | exact And.intro (fun q => q.elim n59_10 (fun q => q.elim n59_13 (fun q => q.elim n59_14 (fun q => q.elim n59_15 n59_21)))) (And.intro (fun q => q.elim n59_11 (fun q => q.elim n59_12 n59_22)) n59_16)
    exact ab_retv (pc := 151) dX2_append_151 rfl ⟨rfl, by rw [c_app, if_neg hd.1, if_neg hd.2.1, if_neg hd.2.2]⟩
  refine ab_tw_c 20 151 (by decide) (by decide) (fun s59 => ?_) (fun n59_20 => ?_)
  · have hd : ¬ (s = 10 ∨ s = 13 ∨ s = 14 ∨ s = 15 ∨ s = 21) ∧ ¬ (s = 11 ∨ s = 12 ∨ s = 22) ∧ ¬ s = 16 := by first | (rw [s59]; decide) | exact And.intro (fun q => q.elim n59_10 (fun q => q.elim n59_13 (fun q => q.elim n59_14 (fun q => q.elim n59_15 n59_21)))) (And.intro (fun q => q.elim n59_11 (fun q => q.elim n59_12 n59_22)) n59_16)
    exact ab_retv (pc := 151) dX2_append_151 rfl ⟨rfl, by rw [c_app, if_neg hd.1, if_neg hd.2.1, if_neg hd.2.2]⟩
  refine ab_tw_c 21 124 (by decide) (by decide) (fun s59 => ?_) (fun n59_21 => ?_)
  · have hq : s = 10 ∨ s = 13 ∨ s = 14 ∨ s = 15 ∨ s = 21 := by rw [s59]; decide
    refine ab_aload_n (pc := 124) dX2_append_124 rfl rfl ?_
    refine ab_iload (pc := 125) dX2_append_125 rfl ?_
    refine ab_V1 (pc := 127) dX2_append_127 mvX2_47 (layC_o w hw) rfl (kX2_openAt hw (by rw [e7]; exact hoA)) (ab_kv fun h127 e127 => ?_)
    obtain rfl := e127.symm
    refine ab_goto (pc := 130) 151 dX2_append_130 (by decide) ?_
    exact ab_retv (pc := 151) dX2_append_151 rfl ⟨rfl, by rw [c_app, if_pos hq]⟩
  refine ab_tw_c 22 133 (by decide) (by decide) (fun s59 => ?_) (fun n59_22 => ?_)
  · have hq1 : ¬ (s = 10 ∨ s = 13 ∨ s = 14 ∨ s = 15 ∨ s = 21) := by rw [s59]; decide
    have hq : s = 11 ∨ s = 12 ∨ s = 22 := by rw [s59]; decide
    refine ab_aload_n (pc := 133) dX2_append_133 rfl rfl ?_
    refine ab_iload (pc := 134) dX2_append_134 rfl ?_
    refine ab_V1 (pc := 136) dX2_append_136 mvX2_51 (layC_o w hw) rfl (kX2_beginPartAt hw (by rw [e7]; exact ho) (by rw [e7, e21]; exact hp)) (ab_kv fun h136 e136 => ?_)
    obtain rfl := e136.symm
    refine ab_goto (pc := 139) 151 dX2_append_139 (by decide) ?_
    exact ab_retv (pc := 151) dX2_append_151 rfl ⟨rfl, by rw [c_app, if_neg hq1, if_pos hq]⟩
  refine ab_tw_n 151 (by decide) ?_
  have hd : ¬ (s = 10 ∨ s = 13 ∨ s = 14 ∨ s = 15 ∨ s = 21) ∧ ¬ (s = 11 ∨ s = 12 ∨ s = 22) ∧ ¬ s = 16 := by first | (rw [s59]; decide) | exact And.intro (fun q => q.elim n59_10 (fun q => q.elim n59_13 (fun q => q.elim n59_14 (fun q => q.elim n59_15 n59_21)))) (And.intro (fun q => q.elim n59_11 (fun q => q.elim n59_12 n59_22)) n59_16)
  exact ab_retv (pc := 151) dX2_append_151 rfl ⟨rfl, by rw [c_app, if_neg hd.1, if_neg hd.2.1, if_neg hd.2.2]⟩
