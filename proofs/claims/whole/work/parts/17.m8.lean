/-! the end of a block, and the run -/
def m_sc0 (h : ab_H) : ab_H := if h 0 30 = 0 then ab_up h 0 28 0 else h
def m_scE (h : ab_H) (mk n : Nat) : ab_H := if h 0 41 = 1 then m_ua mk n (ab_up h 0 30 (h 0 30 - 1)) else ab_up h 0 30 (h 0 30 - 1)
def m_ended (h : ab_H) (c f : Int32) (mk n : Nat) : ab_H :=
  if h 18 (h 0 39 - 1).toNatClampNeg = 0 then m_back h (h 0 39 - 1)
  else if h 18 (h 0 39 - 1).toNatClampNeg = 10 then m_tried h (h 0 39 - 1) c f
  else if h 18 (h 0 39 - 1).toNatClampNeg = 13 then m_looped h
  else if h 18 (h 0 39 - 1).toNatClampNeg = 14 then m_leave (m_sc0 (m_scE h mk n))
  else if h 18 (h 0 39 - 1).toNatClampNeg = 15 then (if h 0 41 = 3 then m_leave h else m_leave (ab_up h 0 41 0))
  else m_leave h
theorem m_scE_39 (h : ab_H) (mk n : Nat) : m_scE h mk n 0 39 = h 0 39 := by
  unfold m_scE
  split
  · rw [m_ua_0 mk 39 (by omega) (by omega) (by omega) (by omega)]
    rfl
  · rfl
theorem m_sc0_39 (h : ab_H) : m_sc0 h 0 39 = h 0 39 := by
  unfold m_sc0
  split <;> rfl
/-- what must hold where a block ends: rows that are read are there -/
def m_endOK (h : ab_H) (c f : Int32) (mk n : Nat) : Prop :=
  (h 18 (h 0 39 - 1).toNatClampNeg = 0 → ¬ h 0 39 - 1 = 0 → vp_in (h 19 (h 0 39 - 1).toNatClampNeg) 480 ∧ vp_in (h 2 (h 19 (h 0 39 - 1).toNatClampNeg).toNatClampNeg) 8) ∧
  (h 18 (h 0 39 - 1).toNatClampNeg = 10 → vp_in (h 19 (h 0 39 - 1).toNatClampNeg) 480 ∧ (¬ h 21 (h 0 39 - 1).toNatClampNeg = 2 → m_partE (h 1) (h 19 (h 0 39 - 1).toNatClampNeg) 11 = some c ∧ m_partE (h 1) (h 19 (h 0 39 - 1).toNatClampNeg) 12 = some f)) ∧
  (h 18 (h 0 39 - 1).toNatClampNeg = 14 → h 0 41 = 1 → h 0 28 = nI (mk + n) ∧ mk + n ≤ 70 ∧ h 17 (h 0 30 - 1).toNatClampNeg = nI mk ∧ vp_in (h 0 30 - 1) 70 ∧ m_uok h (mk + n) ∧ m_pok h)
set_option maxRecDepth 100000 in
set_option maxHeartbeats 4000000 in
theorem kX4_ended {l : Launch} {d : Nat} {h : ab_H} {c f : Int32} {mk n : Nat} (ho : vp_in (h 0 39 - 1) 80) (hok : m_endOK h c f mk n) : ab_C l layM (d + 4) mX4_ended [ab_R 0] h (ab_qv fun h' => h' = m_ended h (m_partR (h 1) 11 c) (m_partR (h 1) 12 f) mk n) := by
  refine ab_enter (by decide) (Nat.le_of_ble_eq_true rfl) ?_
  refine ab_aload_n (pc := 0) dX4_ended_0 rfl rfl ?_
  refine ab_geti (pc := 1) dX4_ended_1 fX4_95 rfl rfl ?_
  refine ab_iconst (pc := 4) (v := 1) dX4_ended_4 (by decide) ?_
  refine ab_isub (pc := 5) dX4_ended_5 ?_
  refine ab_istore_n (pc := 6) dX4_ended_6 rfl rfl ?_
  refine ab_aload_n (pc := 7) dX4_ended_7 rfl rfl ?_
  refine ab_getr (pc := 8) dX4_ended_8 fX4_68 rfl rfl ?_
  refine ab_iload_n (pc := 11) dX4_ended_11 rfl rfl ?_
  refine ab_iald (pc := 12) dX4_ended_12 rfl ho ?_
  refine ab_look (pc := 13) dX4_ended_13 (by decide) (by decide) (by decide) ?_
  refine ab_lw_c 0 64 (by decide) (by decide) (fun s13 => ?_) (fun n13_0 => ?_)
  · refine ab_aload_n (pc := 64) dX4_ended_64 rfl rfl ?_
    refine ab_iload_n (pc := 65) dX4_ended_65 rfl rfl ?_
    refine ab_V1 (pc := 66) dX4_ended_66 mvX4_215 rfl rfl (kX4_back ho (fun z => (hok.1 s13 z).1) (fun z => (hok.1 s13 z).2)) (ab_kv fun h66 e66 => ?_)
    obtain rfl := e66.symm
    refine ab_goto (pc := 69) 171 dX4_ended_69 (by decide) ?_
    exact ab_retv (pc := 171) dX4_ended_171 rfl ⟨rfl, (by rw [m_ended, if_pos s13])⟩
  refine ab_lw_c 10 72 (by decide) (by decide) (fun s13 => ?_) (fun n13_10 => ?_)
  · refine ab_aload_n (pc := 72) dX4_ended_72 rfl rfl ?_
    refine ab_iload_n (pc := 73) dX4_ended_73 rfl rfl ?_
    refine ab_V1 (pc := 74) dX4_ended_74 mvX4_218 rfl rfl (kX4_tried ho ho (hok.2.1 s13).1 (fun z => ((hok.2.1 s13).2 z).1) (fun z => ((hok.2.1 s13).2 z).2)) (ab_kv fun h74 e74 => ?_)
    obtain rfl := e74.symm
    refine ab_goto (pc := 77) 171 dX4_ended_77 (by decide) ?_
    exact ab_retv (pc := 171) dX4_ended_171 rfl ⟨rfl, (by rw [m_ended, if_neg n13_0, if_pos s13])⟩
  refine ab_lw_c 13 80 (by decide) (by decide) (fun s13 => ?_) (fun n13_13 => ?_)
  · refine ab_aload_n (pc := 80) dX4_ended_80 rfl rfl ?_
    refine ab_V0 (pc := 81) dX4_ended_81 mvX4_221 rfl rfl (kX4_looped ho) (ab_kv fun h81 e81 => ?_)
    obtain rfl := e81.symm
    refine ab_goto (pc := 84) 171 dX4_ended_84 (by decide) ?_
    exact ab_retv (pc := 171) dX4_ended_171 rfl ⟨rfl, (by rw [m_ended, if_neg n13_0, if_neg n13_10, if_pos s13])⟩
  refine ab_lw_c 14 87 (by decide) (by decide) (fun s13 => ?_) (fun n13_14 => ?_)
  · refine ab_aload_n (pc := 87) dX4_ended_87 rfl rfl ?_
    refine ab_dup (pc := 88) dX4_ended_88 rfl ?_
    refine ab_geti (pc := 89) dX4_ended_89 fX4_127 rfl rfl ?_
    refine ab_iconst (pc := 92) (v := 1) dX4_ended_92 (by decide) ?_
    refine ab_isub (pc := 93) dX4_ended_93 ?_
    refine ab_puti (pc := 94) dX4_ended_94 fwX4_127 rfl rfl ?_
    refine ab_aload_n (pc := 97) dX4_ended_97 rfl rfl ?_
    refine ab_geti (pc := 98) dX4_ended_98 fX4_197 rfl rfl ?_
    refine ab_topi (by (try simp only [ab_rd, ab_rdA, Nat.reduceEqDiff, reduceIte]); exact rfl) ?_
    refine ab_iconst (pc := 101) (v := 1) dX4_ended_101 (by decide) ?_
    refine ab_icmp_ne (pc := 102) 128 dX4_ended_102 (by decide) (fun c102 => ?_) (fun c102 => ?_)
    · refine ab_heq (show ab_up h 0 30 (h 0 30 - 1) = m_scE h mk n by rw [m_scE, if_neg c102]) ?_
      show ab_J _ _ _ _ _ 128 _ _ (m_scE h mk n)
      refine ab_aload_n (pc := 128) dX4_ended_128 rfl rfl ?_
      refine ab_geti (pc := 129) dX4_ended_129 fX4_127 rfl rfl ?_
      refine ab_if_ne (pc := 132) 140 dX4_ended_132 (by decide) (fun c132 => ?_) (fun c132 => ?_)
      · refine ab_heq (show m_scE h mk n = m_sc0 (m_scE h mk n) by rw [m_sc0, if_neg c132]) ?_
        refine ab_aload_n (pc := 140) dX4_ended_140 rfl rfl ?_
        refine ab_V0 (pc := 141) dX4_ended_141 mvX4_190 rfl rfl (kX4_leave (by rw [m_sc0_39, m_scE_39]; exact ho)) (ab_kv fun h141 e141 => ?_)
        obtain rfl := e141.symm
        refine ab_goto (pc := 144) 171 dX4_ended_144 (by decide) ?_
        exact ab_retv (pc := 171) dX4_ended_171 rfl ⟨rfl, (by rw [m_ended, if_neg n13_0, if_neg n13_10, if_neg n13_13, if_pos s13])⟩
      · refine ab_aload_n (pc := 135) dX4_ended_135 rfl rfl ?_
        refine ab_iconst (pc := 136) (v := 0) dX4_ended_136 (by decide) ?_
        refine ab_puti (pc := 137) dX4_ended_137 fwX4_130 rfl rfl ?_
        refine ab_heq (show ab_up (m_scE h mk n) 0 28 0 = m_sc0 (m_scE h mk n) by rw [m_sc0, if_pos c132]) ?_
        refine ab_aload_n (pc := 140) dX4_ended_140 rfl rfl ?_
        refine ab_V0 (pc := 141) dX4_ended_141 mvX4_190 rfl rfl (kX4_leave (by rw [m_sc0_39, m_scE_39]; exact ho)) (ab_kv fun h141 e141 => ?_)
        obtain rfl := e141.symm
        refine ab_goto (pc := 144) 171 dX4_ended_144 (by decide) ?_
        exact ab_retv (pc := 171) dX4_ended_171 rfl ⟨rfl, (by rw [m_ended, if_neg n13_0, if_neg n13_10, if_neg n13_13, if_pos s13])⟩
    · obtain ⟨g1, g2, g3, g4, g5, g6⟩ := hok.2.2 s13 c102
      refine ab_weak [(0, ab_R 0)] ⟨rfl, trivial⟩ ?_
      refine lpX4_ended (mk := mk) n (ab_up h 0 30 (h 0 30 - 1)) g1 g2 g3 g4 g5 g6 ?_
      refine ab_heq (show m_ua mk n (ab_up h 0 30 (h 0 30 - 1)) = m_scE h mk n by rw [m_scE, if_pos c102]) ?_
      show ab_J _ _ _ _ _ 128 _ _ (m_scE h mk n)
      refine ab_aload_n (pc := 128) dX4_ended_128 rfl rfl ?_
      refine ab_geti (pc := 129) dX4_ended_129 fX4_127 rfl rfl ?_
      refine ab_if_ne (pc := 132) 140 dX4_ended_132 (by decide) (fun c132 => ?_) (fun c132 => ?_)
      · refine ab_heq (show m_scE h mk n = m_sc0 (m_scE h mk n) by rw [m_sc0, if_neg c132]) ?_
        refine ab_aload_n (pc := 140) dX4_ended_140 rfl rfl ?_
        refine ab_V0 (pc := 141) dX4_ended_141 mvX4_190 rfl rfl (kX4_leave (by rw [m_sc0_39, m_scE_39]; exact ho)) (ab_kv fun h141 e141 => ?_)
        obtain rfl := e141.symm
        refine ab_goto (pc := 144) 171 dX4_ended_144 (by decide) ?_
        exact ab_retv (pc := 171) dX4_ended_171 rfl ⟨rfl, (by rw [m_ended, if_neg n13_0, if_neg n13_10, if_neg n13_13, if_pos s13])⟩
      · refine ab_aload_n (pc := 135) dX4_ended_135 rfl rfl ?_
        refine ab_iconst (pc := 136) (v := 0) dX4_ended_136 (by decide) ?_
        refine ab_puti (pc := 137) dX4_ended_137 fwX4_130 rfl rfl ?_
        refine ab_heq (show ab_up (m_scE h mk n) 0 28 0 = m_sc0 (m_scE h mk n) by rw [m_sc0, if_pos c132]) ?_
        refine ab_aload_n (pc := 140) dX4_ended_140 rfl rfl ?_
        refine ab_V0 (pc := 141) dX4_ended_141 mvX4_190 rfl rfl (kX4_leave (by rw [m_sc0_39, m_scE_39]; exact ho)) (ab_kv fun h141 e141 => ?_)
        obtain rfl := e141.symm
        refine ab_goto (pc := 144) 171 dX4_ended_144 (by decide) ?_
        exact ab_retv (pc := 171) dX4_ended_171 rfl ⟨rfl, (by rw [m_ended, if_neg n13_0, if_neg n13_10, if_neg n13_13, if_pos s13])⟩
  refine ab_lw_c 15 147 (by decide) (by decide) (fun s13 => ?_) (fun n13_15 => ?_)
  · refine ab_aload_n (pc := 147) dX4_ended_147 rfl rfl ?_
    refine ab_geti (pc := 148) dX4_ended_148 fX4_197 rfl rfl ?_
    refine ab_iconst (pc := 151) (v := 3) dX4_ended_151 (by decide) ?_
    refine ab_icmp_eq (pc := 152) 160 dX4_ended_152 (by decide) (fun c152 => ?_) (fun c152 => ?_)
    · refine ab_aload_n (pc := 160) dX4_ended_160 rfl rfl ?_
      refine ab_V0 (pc := 161) dX4_ended_161 mvX4_190 rfl rfl (kX4_leave ho) (ab_kv fun h161 e161 => ?_)
      obtain rfl := e161.symm
      refine ab_goto (pc := 164) 171 dX4_ended_164 (by decide) ?_
      exact ab_retv (pc := 171) dX4_ended_171 rfl ⟨rfl, (by first | rw [m_ended, if_neg n13_0, if_neg n13_10, if_neg n13_13, if_neg n13_14, if_pos s13, if_pos c152] | rw [m_ended, if_neg n13_0, if_neg n13_10, if_neg n13_13, if_neg n13_14, if_pos s13, if_neg c152])⟩
    · refine ab_aload_n (pc := 155) dX4_ended_155 rfl rfl ?_
      refine ab_iconst (pc := 156) (v := 0) dX4_ended_156 (by decide) ?_
      refine ab_puti (pc := 157) dX4_ended_157 fwX4_197 rfl rfl ?_
      refine ab_aload_n (pc := 160) dX4_ended_160 rfl rfl ?_
      refine ab_V0 (pc := 161) dX4_ended_161 mvX4_190 rfl rfl (kX4_leave ho) (ab_kv fun h161 e161 => ?_)
      obtain rfl := e161.symm
      refine ab_goto (pc := 164) 171 dX4_ended_164 (by decide) ?_
      exact ab_retv (pc := 171) dX4_ended_171 rfl ⟨rfl, (by first | rw [m_ended, if_neg n13_0, if_neg n13_10, if_neg n13_13, if_neg n13_14, if_pos s13, if_pos c152] | rw [m_ended, if_neg n13_0, if_neg n13_10, if_neg n13_13, if_neg n13_14, if_pos s13, if_neg c152])⟩
  refine ab_lw_n 167 (by decide) ?_
  refine ab_aload_n (pc := 167) dX4_ended_167 rfl rfl ?_
  refine ab_V0 (pc := 168) dX4_ended_168 mvX4_190 rfl rfl (kX4_leave ho) (ab_kv fun h168 e168 => ?_)
  obtain rfl := e168.symm
  exact ab_retv (pc := 171) dX4_ended_171 rfl ⟨rfl, (by rw [m_ended, if_neg n13_0, if_neg n13_10, if_neg n13_13, if_neg n13_14, if_neg n13_15])⟩
