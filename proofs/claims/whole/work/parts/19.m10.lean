/-! the reference's nodes, and what it tells -/
def m_right (s a b : Int32) : Bool :=
  if s = 0 ∨ s = 1 ∨ s = 2 ∨ s = 6 ∨ s = 19 ∨ s = 21 then m_within a 7
  else if s = 3 ∨ s = 4 ∨ s = 5 then m_within a 7 && m_within b 7
  else if s = 7 then m_within a 3 && m_within b 2
  else if s = 8 then m_within a 3
  else if s = 9 ∨ s = 13 ∨ s = 17 ∨ s = 18 then m_within b 9
  else if s = 10 then m_within b 1023
  else if s = 20 then m_within a 7 && m_within b 7
  else m_within s 23
def m_in (h : ab_H) : Int32 := if h 0 39 = 0 then -1 else h 18 (h 0 39 - 1).toNatClampNeg
def m_pt (h : ab_H) : Int32 := if h 0 39 = 0 then 0 else h 21 (h 0 39 - 1).toNatClampNeg
def m_stands (h : ab_H) (s b : Int32) : Bool :=
  if s = 11 then decide (m_in h = 10) && decide (m_pt h = 0)
  else if s = 12 then decide (m_in h = 10) && decide (¬ 2 ≤ m_pt h)
  else if s = 22 then decide (m_in h = 21) && decide (m_pt h = 0)
  else if s = 16 then decide (¬ h 0 39 ≤ 0)
  else if s = 17 ∨ s = 18 then decide (¬ h 0 42 ≤ b)
  else !m_opens s || decide (¬ 10 ≤ h 0 39)
theorem i10 : ¬ (1 : Int32) = 0 := by decide
theorem and_nn {a b : Prop} (h : a) : ¬ (¬ a ∧ b) := fun q => q.1 h
theorem and_nr {a b : Prop} (h : ¬ b) : ¬ (a ∧ b) := fun q => h q.2
theorem b2i_nar (b : Bool) : narrow .boolean (.int (b2i b)) = .int (b2i b) := by cases b <;> rfl
theorem b2i_and {a b : Bool} : b2i (a && b) = if a = true then b2i b else 0 := by cases a <;> rfl
set_option maxRecDepth 100000 in
set_option maxHeartbeats 4000000 in
theorem kX4_right {l : Launch} {d : Nat} {h : ab_H} {s a b : Int32}  : ab_C l layM (d + 1) mX4_right [ab_I s, ab_I a, ab_I b] h (ab_qi fun r h' => r = b2i (m_right s a b) ∧ h' = h) := by
  refine ab_enter (by decide) (Nat.le_of_ble_eq_true rfl) ?_
  refine ab_iload_n (pc := 0) dX4_right_0 rfl rfl ?_
  refine ab_table (pc := 1) dX4_right_1 (by decide) (by decide) (by decide) (by decide) ?_
  refine ab_tw_c 0 104 (by decide) (by decide) (fun s1 => ?_) (fun n1_0 => ?_)
  · refine ab_iload_n (pc := 104) dX4_right_104 rfl rfl ?_
    refine ab_bipush (pc := 105) (v := 7) dX4_right_105 (by decide) ?_
    refine ab_S2 (pc := 107) dX4_right_107 msX4_105 rfl (kX4_within) (ab_ki fun r107 h107 e107 => ?_)
    obtain ⟨rfl, rfl⟩ := And.intro e107.1.symm e107.2.symm
    exact ab_retz (pc := 110) dX4_right_110 rfl (b2i_nar _) ⟨_, rfl, ⟨by simp [m_right, s1], rfl⟩⟩
  refine ab_tw_c 1 104 (by decide) (by decide) (fun s1 => ?_) (fun n1_1 => ?_)
  · refine ab_iload_n (pc := 104) dX4_right_104 rfl rfl ?_
    refine ab_bipush (pc := 105) (v := 7) dX4_right_105 (by decide) ?_
    refine ab_S2 (pc := 107) dX4_right_107 msX4_105 rfl (kX4_within) (ab_ki fun r107 h107 e107 => ?_)
    obtain ⟨rfl, rfl⟩ := And.intro e107.1.symm e107.2.symm
    exact ab_retz (pc := 110) dX4_right_110 rfl (b2i_nar _) ⟨_, rfl, ⟨by simp [m_right, s1], rfl⟩⟩
  refine ab_tw_c 2 104 (by decide) (by decide) (fun s1 => ?_) (fun n1_2 => ?_)
  · refine ab_iload_n (pc := 104) dX4_right_104 rfl rfl ?_
    refine ab_bipush (pc := 105) (v := 7) dX4_right_105 (by decide) ?_
    refine ab_S2 (pc := 107) dX4_right_107 msX4_105 rfl (kX4_within) (ab_ki fun r107 h107 e107 => ?_)
    obtain ⟨rfl, rfl⟩ := And.intro e107.1.symm e107.2.symm
    exact ab_retz (pc := 110) dX4_right_110 rfl (b2i_nar _) ⟨_, rfl, ⟨by simp [m_right, s1], rfl⟩⟩
  refine ab_tw_c 3 111 (by decide) (by decide) (fun s1 => ?_) (fun n1_3 => ?_)
  · refine ab_iload_n (pc := 111) dX4_right_111 rfl rfl ?_
    refine ab_bipush (pc := 112) (v := 7) dX4_right_112 (by decide) ?_
    refine ab_S2 (pc := 114) dX4_right_114 msX4_105 rfl (kX4_within) (ab_ki fun r114 h114 e114 => ?_)
    obtain ⟨rfl, rfl⟩ := And.intro e114.1.symm e114.2.symm
    refine ab_if_eq (pc := 117) 133 dX4_right_117 (by decide) (fun c117 => ?_) (fun c117 => ?_)
    · replace c117 := b2i_0.mp c117
      refine ab_iconst (pc := 133) (v := 0) dX4_right_133 (by decide) ?_
      exact ab_retz (pc := 134) dX4_right_134 rfl rfl ⟨_, rfl, ⟨by simp [m_right, s1, b2i, *], rfl⟩⟩
    · replace c117 := b2i_1.mp c117
      refine ab_iload_n (pc := 120) dX4_right_120 rfl rfl ?_
      refine ab_bipush (pc := 121) (v := 7) dX4_right_121 (by decide) ?_
      refine ab_S2 (pc := 123) dX4_right_123 msX4_105 rfl (kX4_within) (ab_ki fun r123 h123 e123 => ?_)
      obtain ⟨rfl, rfl⟩ := And.intro e123.1.symm e123.2.symm
      refine ab_if_eq (pc := 126) 133 dX4_right_126 (by decide) (fun c126 => ?_) (fun c126 => ?_)
      · replace c126 := b2i_0.mp c126
        refine ab_iconst (pc := 133) (v := 0) dX4_right_133 (by decide) ?_
        exact ab_retz (pc := 134) dX4_right_134 rfl rfl ⟨_, rfl, ⟨by simp [m_right, s1, b2i, *], rfl⟩⟩
      · replace c126 := b2i_1.mp c126
        refine ab_iconst (pc := 129) (v := 1) dX4_right_129 (by decide) ?_
        refine ab_goto (pc := 130) 134 dX4_right_130 (by decide) ?_
        exact ab_retz (pc := 134) dX4_right_134 rfl rfl ⟨_, rfl, ⟨by simp [m_right, s1, b2i, *], rfl⟩⟩
  refine ab_tw_c 4 111 (by decide) (by decide) (fun s1 => ?_) (fun n1_4 => ?_)
  · refine ab_iload_n (pc := 111) dX4_right_111 rfl rfl ?_
    refine ab_bipush (pc := 112) (v := 7) dX4_right_112 (by decide) ?_
    refine ab_S2 (pc := 114) dX4_right_114 msX4_105 rfl (kX4_within) (ab_ki fun r114 h114 e114 => ?_)
    obtain ⟨rfl, rfl⟩ := And.intro e114.1.symm e114.2.symm
    refine ab_if_eq (pc := 117) 133 dX4_right_117 (by decide) (fun c117 => ?_) (fun c117 => ?_)
    · replace c117 := b2i_0.mp c117
      refine ab_iconst (pc := 133) (v := 0) dX4_right_133 (by decide) ?_
      exact ab_retz (pc := 134) dX4_right_134 rfl rfl ⟨_, rfl, ⟨by simp [m_right, s1, b2i, *], rfl⟩⟩
    · replace c117 := b2i_1.mp c117
      refine ab_iload_n (pc := 120) dX4_right_120 rfl rfl ?_
      refine ab_bipush (pc := 121) (v := 7) dX4_right_121 (by decide) ?_
      refine ab_S2 (pc := 123) dX4_right_123 msX4_105 rfl (kX4_within) (ab_ki fun r123 h123 e123 => ?_)
      obtain ⟨rfl, rfl⟩ := And.intro e123.1.symm e123.2.symm
      refine ab_if_eq (pc := 126) 133 dX4_right_126 (by decide) (fun c126 => ?_) (fun c126 => ?_)
      · replace c126 := b2i_0.mp c126
        refine ab_iconst (pc := 133) (v := 0) dX4_right_133 (by decide) ?_
        exact ab_retz (pc := 134) dX4_right_134 rfl rfl ⟨_, rfl, ⟨by simp [m_right, s1, b2i, *], rfl⟩⟩
      · replace c126 := b2i_1.mp c126
        refine ab_iconst (pc := 129) (v := 1) dX4_right_129 (by decide) ?_
        refine ab_goto (pc := 130) 134 dX4_right_130 (by decide) ?_
        exact ab_retz (pc := 134) dX4_right_134 rfl rfl ⟨_, rfl, ⟨by simp [m_right, s1, b2i, *], rfl⟩⟩
  refine ab_tw_c 5 111 (by decide) (by decide) (fun s1 => ?_) (fun n1_5 => ?_)
  · refine ab_iload_n (pc := 111) dX4_right_111 rfl rfl ?_
    refine ab_bipush (pc := 112) (v := 7) dX4_right_112 (by decide) ?_
    refine ab_S2 (pc := 114) dX4_right_114 msX4_105 rfl (kX4_within) (ab_ki fun r114 h114 e114 => ?_)
    obtain ⟨rfl, rfl⟩ := And.intro e114.1.symm e114.2.symm
    refine ab_if_eq (pc := 117) 133 dX4_right_117 (by decide) (fun c117 => ?_) (fun c117 => ?_)
    · replace c117 := b2i_0.mp c117
      refine ab_iconst (pc := 133) (v := 0) dX4_right_133 (by decide) ?_
      exact ab_retz (pc := 134) dX4_right_134 rfl rfl ⟨_, rfl, ⟨by simp [m_right, s1, b2i, *], rfl⟩⟩
    · replace c117 := b2i_1.mp c117
      refine ab_iload_n (pc := 120) dX4_right_120 rfl rfl ?_
      refine ab_bipush (pc := 121) (v := 7) dX4_right_121 (by decide) ?_
      refine ab_S2 (pc := 123) dX4_right_123 msX4_105 rfl (kX4_within) (ab_ki fun r123 h123 e123 => ?_)
      obtain ⟨rfl, rfl⟩ := And.intro e123.1.symm e123.2.symm
      refine ab_if_eq (pc := 126) 133 dX4_right_126 (by decide) (fun c126 => ?_) (fun c126 => ?_)
      · replace c126 := b2i_0.mp c126
        refine ab_iconst (pc := 133) (v := 0) dX4_right_133 (by decide) ?_
        exact ab_retz (pc := 134) dX4_right_134 rfl rfl ⟨_, rfl, ⟨by simp [m_right, s1, b2i, *], rfl⟩⟩
      · replace c126 := b2i_1.mp c126
        refine ab_iconst (pc := 129) (v := 1) dX4_right_129 (by decide) ?_
        refine ab_goto (pc := 130) 134 dX4_right_130 (by decide) ?_
        exact ab_retz (pc := 134) dX4_right_134 rfl rfl ⟨_, rfl, ⟨by simp [m_right, s1, b2i, *], rfl⟩⟩
  refine ab_tw_c 6 104 (by decide) (by decide) (fun s1 => ?_) (fun n1_6 => ?_)
  · refine ab_iload_n (pc := 104) dX4_right_104 rfl rfl ?_
    refine ab_bipush (pc := 105) (v := 7) dX4_right_105 (by decide) ?_
    refine ab_S2 (pc := 107) dX4_right_107 msX4_105 rfl (kX4_within) (ab_ki fun r107 h107 e107 => ?_)
    obtain ⟨rfl, rfl⟩ := And.intro e107.1.symm e107.2.symm
    exact ab_retz (pc := 110) dX4_right_110 rfl (b2i_nar _) ⟨_, rfl, ⟨by simp [m_right, s1], rfl⟩⟩
  refine ab_tw_c 7 135 (by decide) (by decide) (fun s1 => ?_) (fun n1_7 => ?_)
  · refine ab_iload_n (pc := 135) dX4_right_135 rfl rfl ?_
    refine ab_iconst (pc := 136) (v := 3) dX4_right_136 (by decide) ?_
    refine ab_S2 (pc := 137) dX4_right_137 msX4_105 rfl (kX4_within) (ab_ki fun r137 h137 e137 => ?_)
    obtain ⟨rfl, rfl⟩ := And.intro e137.1.symm e137.2.symm
    refine ab_if_eq (pc := 140) 155 dX4_right_140 (by decide) (fun c140 => ?_) (fun c140 => ?_)
    · replace c140 := b2i_0.mp c140
      refine ab_iconst (pc := 155) (v := 0) dX4_right_155 (by decide) ?_
      exact ab_retz (pc := 156) dX4_right_156 rfl rfl ⟨_, rfl, ⟨by simp [m_right, s1, b2i, *], rfl⟩⟩
    · replace c140 := b2i_1.mp c140
      refine ab_iload_n (pc := 143) dX4_right_143 rfl rfl ?_
      refine ab_iconst (pc := 144) (v := 2) dX4_right_144 (by decide) ?_
      refine ab_S2 (pc := 145) dX4_right_145 msX4_105 rfl (kX4_within) (ab_ki fun r145 h145 e145 => ?_)
      obtain ⟨rfl, rfl⟩ := And.intro e145.1.symm e145.2.symm
      refine ab_if_eq (pc := 148) 155 dX4_right_148 (by decide) (fun c148 => ?_) (fun c148 => ?_)
      · replace c148 := b2i_0.mp c148
        refine ab_iconst (pc := 155) (v := 0) dX4_right_155 (by decide) ?_
        exact ab_retz (pc := 156) dX4_right_156 rfl rfl ⟨_, rfl, ⟨by simp [m_right, s1, b2i, *], rfl⟩⟩
      · replace c148 := b2i_1.mp c148
        refine ab_iconst (pc := 151) (v := 1) dX4_right_151 (by decide) ?_
        refine ab_goto (pc := 152) 156 dX4_right_152 (by decide) ?_
        exact ab_retz (pc := 156) dX4_right_156 rfl rfl ⟨_, rfl, ⟨by simp [m_right, s1, b2i, *], rfl⟩⟩
  refine ab_tw_c 8 157 (by decide) (by decide) (fun s1 => ?_) (fun n1_8 => ?_)
  · refine ab_iload_n (pc := 157) dX4_right_157 rfl rfl ?_
    refine ab_iconst (pc := 158) (v := 3) dX4_right_158 (by decide) ?_
    refine ab_S2 (pc := 159) dX4_right_159 msX4_105 rfl (kX4_within) (ab_ki fun r159 h159 e159 => ?_)
    obtain ⟨rfl, rfl⟩ := And.intro e159.1.symm e159.2.symm
    exact ab_retz (pc := 162) dX4_right_162 rfl (b2i_nar _) ⟨_, rfl, ⟨by simp [m_right, s1], rfl⟩⟩
  refine ab_tw_c 9 163 (by decide) (by decide) (fun s1 => ?_) (fun n1_9 => ?_)
  · refine ab_iload_n (pc := 163) dX4_right_163 rfl rfl ?_
    refine ab_bipush (pc := 164) (v := 9) dX4_right_164 (by decide) ?_
    refine ab_S2 (pc := 166) dX4_right_166 msX4_105 rfl (kX4_within) (ab_ki fun r166 h166 e166 => ?_)
    obtain ⟨rfl, rfl⟩ := And.intro e166.1.symm e166.2.symm
    exact ab_retz (pc := 169) dX4_right_169 rfl (b2i_nar _) ⟨_, rfl, ⟨by simp [m_right, s1], rfl⟩⟩
  refine ab_tw_c 10 170 (by decide) (by decide) (fun s1 => ?_) (fun n1_10 => ?_)
  · refine ab_iload_n (pc := 170) dX4_right_170 rfl rfl ?_
    refine ab_sipush (pc := 171) (v := 1023) dX4_right_171 (by decide) ?_
    refine ab_S2 (pc := 174) dX4_right_174 msX4_105 rfl (kX4_within) (ab_ki fun r174 h174 e174 => ?_)
    obtain ⟨rfl, rfl⟩ := And.intro e174.1.symm e174.2.symm
    exact ab_retz (pc := 177) dX4_right_177 rfl (b2i_nar _) ⟨_, rfl, ⟨by simp [m_right, s1], rfl⟩⟩
  refine ab_tw_c 11 202 (by decide) (by decide) (fun s1 => ?_) (fun n1_11 => ?_)
  · refine ab_iload_n (pc := 202) dX4_right_202 rfl rfl ?_
    refine ab_bipush (pc := 203) (v := 23) dX4_right_203 (by decide) ?_
    refine ab_S2 (pc := 205) dX4_right_205 msX4_105 rfl (kX4_within) (ab_ki fun r205 h205 e205 => ?_)
    obtain ⟨rfl, rfl⟩ := And.intro e205.1.symm e205.2.symm
    exact ab_retz (pc := 208) dX4_right_208 rfl (b2i_nar _) ⟨_, rfl, ⟨by first | (simp [m_right, s1]; done) | (simp [m_right, n1_0, n1_1, n1_2, n1_3, n1_4, n1_5, n1_6, n1_7, n1_8, n1_9, n1_10, n1_13, n1_17, n1_18, n1_19, n1_20, n1_21]; done), rfl⟩⟩
  refine ab_tw_c 12 202 (by decide) (by decide) (fun s1 => ?_) (fun n1_12 => ?_)
  · refine ab_iload_n (pc := 202) dX4_right_202 rfl rfl ?_
    refine ab_bipush (pc := 203) (v := 23) dX4_right_203 (by decide) ?_
    refine ab_S2 (pc := 205) dX4_right_205 msX4_105 rfl (kX4_within) (ab_ki fun r205 h205 e205 => ?_)
    obtain ⟨rfl, rfl⟩ := And.intro e205.1.symm e205.2.symm
    exact ab_retz (pc := 208) dX4_right_208 rfl (b2i_nar _) ⟨_, rfl, ⟨by first | (simp [m_right, s1]; done) | (simp [m_right, n1_0, n1_1, n1_2, n1_3, n1_4, n1_5, n1_6, n1_7, n1_8, n1_9, n1_10, n1_13, n1_17, n1_18, n1_19, n1_20, n1_21]; done), rfl⟩⟩
  refine ab_tw_c 13 163 (by decide) (by decide) (fun s1 => ?_) (fun n1_13 => ?_)
  · refine ab_iload_n (pc := 163) dX4_right_163 rfl rfl ?_
    refine ab_bipush (pc := 164) (v := 9) dX4_right_164 (by decide) ?_
    refine ab_S2 (pc := 166) dX4_right_166 msX4_105 rfl (kX4_within) (ab_ki fun r166 h166 e166 => ?_)
    obtain ⟨rfl, rfl⟩ := And.intro e166.1.symm e166.2.symm
    exact ab_retz (pc := 169) dX4_right_169 rfl (b2i_nar _) ⟨_, rfl, ⟨by simp [m_right, s1], rfl⟩⟩
  refine ab_tw_c 14 202 (by decide) (by decide) (fun s1 => ?_) (fun n1_14 => ?_)
  · refine ab_iload_n (pc := 202) dX4_right_202 rfl rfl ?_
    refine ab_bipush (pc := 203) (v := 23) dX4_right_203 (by decide) ?_
    refine ab_S2 (pc := 205) dX4_right_205 msX4_105 rfl (kX4_within) (ab_ki fun r205 h205 e205 => ?_)
    obtain ⟨rfl, rfl⟩ := And.intro e205.1.symm e205.2.symm
    exact ab_retz (pc := 208) dX4_right_208 rfl (b2i_nar _) ⟨_, rfl, ⟨by first | (simp [m_right, s1]; done) | (simp [m_right, n1_0, n1_1, n1_2, n1_3, n1_4, n1_5, n1_6, n1_7, n1_8, n1_9, n1_10, n1_13, n1_17, n1_18, n1_19, n1_20, n1_21]; done), rfl⟩⟩
  refine ab_tw_c 15 202 (by decide) (by decide) (fun s1 => ?_) (fun n1_15 => ?_)
  · refine ab_iload_n (pc := 202) dX4_right_202 rfl rfl ?_
    refine ab_bipush (pc := 203) (v := 23) dX4_right_203 (by decide) ?_
    refine ab_S2 (pc := 205) dX4_right_205 msX4_105 rfl (kX4_within) (ab_ki fun r205 h205 e205 => ?_)
    obtain ⟨rfl, rfl⟩ := And.intro e205.1.symm e205.2.symm
    exact ab_retz (pc := 208) dX4_right_208 rfl (b2i_nar _) ⟨_, rfl, ⟨by first | (simp [m_right, s1]; done) | (simp [m_right, n1_0, n1_1, n1_2, n1_3, n1_4, n1_5, n1_6, n1_7, n1_8, n1_9, n1_10, n1_13, n1_17, n1_18, n1_19, n1_20, n1_21]; done), rfl⟩⟩
  refine ab_tw_c 16 202 (by decide) (by decide) (fun s1 => ?_) (fun n1_16 => ?_)
  · refine ab_iload_n (pc := 202) dX4_right_202 rfl rfl ?_
    refine ab_bipush (pc := 203) (v := 23) dX4_right_203 (by decide) ?_
    refine ab_S2 (pc := 205) dX4_right_205 msX4_105 rfl (kX4_within) (ab_ki fun r205 h205 e205 => ?_)
    obtain ⟨rfl, rfl⟩ := And.intro e205.1.symm e205.2.symm
    exact ab_retz (pc := 208) dX4_right_208 rfl (b2i_nar _) ⟨_, rfl, ⟨by first | (simp [m_right, s1]; done) | (simp [m_right, n1_0, n1_1, n1_2, n1_3, n1_4, n1_5, n1_6, n1_7, n1_8, n1_9, n1_10, n1_13, n1_17, n1_18, n1_19, n1_20, n1_21]; done), rfl⟩⟩
  refine ab_tw_c 17 163 (by decide) (by decide) (fun s1 => ?_) (fun n1_17 => ?_)
  · refine ab_iload_n (pc := 163) dX4_right_163 rfl rfl ?_
    refine ab_bipush (pc := 164) (v := 9) dX4_right_164 (by decide) ?_
    refine ab_S2 (pc := 166) dX4_right_166 msX4_105 rfl (kX4_within) (ab_ki fun r166 h166 e166 => ?_)
    obtain ⟨rfl, rfl⟩ := And.intro e166.1.symm e166.2.symm
    exact ab_retz (pc := 169) dX4_right_169 rfl (b2i_nar _) ⟨_, rfl, ⟨by simp [m_right, s1], rfl⟩⟩
  refine ab_tw_c 18 163 (by decide) (by decide) (fun s1 => ?_) (fun n1_18 => ?_)
  · refine ab_iload_n (pc := 163) dX4_right_163 rfl rfl ?_
    refine ab_bipush (pc := 164) (v := 9) dX4_right_164 (by decide) ?_
    refine ab_S2 (pc := 166) dX4_right_166 msX4_105 rfl (kX4_within) (ab_ki fun r166 h166 e166 => ?_)
    obtain ⟨rfl, rfl⟩ := And.intro e166.1.symm e166.2.symm
    exact ab_retz (pc := 169) dX4_right_169 rfl (b2i_nar _) ⟨_, rfl, ⟨by simp [m_right, s1], rfl⟩⟩
  refine ab_tw_c 19 104 (by decide) (by decide) (fun s1 => ?_) (fun n1_19 => ?_)
  · refine ab_iload_n (pc := 104) dX4_right_104 rfl rfl ?_
    refine ab_bipush (pc := 105) (v := 7) dX4_right_105 (by decide) ?_
    refine ab_S2 (pc := 107) dX4_right_107 msX4_105 rfl (kX4_within) (ab_ki fun r107 h107 e107 => ?_)
    obtain ⟨rfl, rfl⟩ := And.intro e107.1.symm e107.2.symm
    exact ab_retz (pc := 110) dX4_right_110 rfl (b2i_nar _) ⟨_, rfl, ⟨by simp [m_right, s1], rfl⟩⟩
  refine ab_tw_c 20 178 (by decide) (by decide) (fun s1 => ?_) (fun n1_20 => ?_)
  · refine ab_iload_n (pc := 178) dX4_right_178 rfl rfl ?_
    refine ab_bipush (pc := 179) (v := 7) dX4_right_179 (by decide) ?_
    refine ab_S2 (pc := 181) dX4_right_181 msX4_105 rfl (kX4_within) (ab_ki fun r181 h181 e181 => ?_)
    obtain ⟨rfl, rfl⟩ := And.intro e181.1.symm e181.2.symm
    refine ab_if_eq (pc := 184) 200 dX4_right_184 (by decide) (fun c184 => ?_) (fun c184 => ?_)
    · replace c184 := b2i_0.mp c184
      refine ab_iconst (pc := 200) (v := 0) dX4_right_200 (by decide) ?_
      exact ab_retz (pc := 201) dX4_right_201 rfl rfl ⟨_, rfl, ⟨by simp [m_right, s1, b2i, *], rfl⟩⟩
    · replace c184 := b2i_1.mp c184
      refine ab_iload_n (pc := 187) dX4_right_187 rfl rfl ?_
      refine ab_bipush (pc := 188) (v := 7) dX4_right_188 (by decide) ?_
      refine ab_S2 (pc := 190) dX4_right_190 msX4_105 rfl (kX4_within) (ab_ki fun r190 h190 e190 => ?_)
      obtain ⟨rfl, rfl⟩ := And.intro e190.1.symm e190.2.symm
      refine ab_if_eq (pc := 193) 200 dX4_right_193 (by decide) (fun c193 => ?_) (fun c193 => ?_)
      · replace c193 := b2i_0.mp c193
        refine ab_iconst (pc := 200) (v := 0) dX4_right_200 (by decide) ?_
        exact ab_retz (pc := 201) dX4_right_201 rfl rfl ⟨_, rfl, ⟨by simp [m_right, s1, b2i, *], rfl⟩⟩
      · replace c193 := b2i_1.mp c193
        refine ab_iconst (pc := 196) (v := 1) dX4_right_196 (by decide) ?_
        refine ab_goto (pc := 197) 201 dX4_right_197 (by decide) ?_
        exact ab_retz (pc := 201) dX4_right_201 rfl rfl ⟨_, rfl, ⟨by simp [m_right, s1, b2i, *], rfl⟩⟩
  refine ab_tw_c 21 104 (by decide) (by decide) (fun s1 => ?_) (fun n1_21 => ?_)
  · refine ab_iload_n (pc := 104) dX4_right_104 rfl rfl ?_
    refine ab_bipush (pc := 105) (v := 7) dX4_right_105 (by decide) ?_
    refine ab_S2 (pc := 107) dX4_right_107 msX4_105 rfl (kX4_within) (ab_ki fun r107 h107 e107 => ?_)
    obtain ⟨rfl, rfl⟩ := And.intro e107.1.symm e107.2.symm
    exact ab_retz (pc := 110) dX4_right_110 rfl (b2i_nar _) ⟨_, rfl, ⟨by simp [m_right, s1], rfl⟩⟩
  refine ab_tw_n 202 (by decide) ?_
  refine ab_iload_n (pc := 202) dX4_right_202 rfl rfl ?_
  refine ab_bipush (pc := 203) (v := 23) dX4_right_203 (by decide) ?_
  refine ab_S2 (pc := 205) dX4_right_205 msX4_105 rfl (kX4_within) (ab_ki fun r205 h205 e205 => ?_)
  obtain ⟨rfl, rfl⟩ := And.intro e205.1.symm e205.2.symm
  exact ab_retz (pc := 208) dX4_right_208 rfl (b2i_nar _) ⟨_, rfl, ⟨by first | (simp [m_right, s1]; done) | (simp [m_right, n1_0, n1_1, n1_2, n1_3, n1_4, n1_5, n1_6, n1_7, n1_8, n1_9, n1_10, n1_13, n1_17, n1_18, n1_19, n1_20, n1_21]; done), rfl⟩⟩

set_option maxRecDepth 100000 in
set_option maxHeartbeats 4000000 in
theorem kX4_given {l : Launch} {d : Nat} {h : ab_H}  : ab_C l layM (d) mX4_given [ab_R 0] h (ab_qi fun r h' => r = h 0 20 ∧ h' = ab_up h 0 0 0) := by
  refine ab_enter (by decide) (Nat.le_of_ble_eq_true rfl) ?_
  refine ab_aload_n (pc := 0) dX4_given_0 rfl rfl ?_
  refine ab_iconst (pc := 1) (v := 0) dX4_given_1 (by decide) ?_
  refine ab_puti (pc := 2) dX4_given_2 fwX4_92 rfl rfl ?_
  refine ab_aload_n (pc := 5) dX4_given_5 rfl rfl ?_
  refine ab_geti (pc := 6) dX4_given_6 fX4_242 rfl rfl ?_
  exact ab_reti (pc := 9) dX4_given_9 rfl ⟨_, rfl, ⟨rfl, rfl⟩⟩

set_option maxRecDepth 100000 in
set_option maxHeartbeats 4000000 in
theorem kX4_number {l : Launch} {d : Nat} {h : ab_H} {i : Int32}  : ab_C l layM (d + 1) mX4_number [ab_R 0, ab_I i] h (ab_qi fun r h' => r = (if m_within i 7 = true then h 5 i.toNatClampNeg else 0) ∧ h' = (if m_within i 7 = true then ab_up h 0 0 0 else ab_up h 0 0 1)) := by
  refine ab_enter (by decide) (Nat.le_of_ble_eq_true rfl) ?_
  refine ab_iload_n (pc := 0) dX4_number_0 rfl rfl ?_
  refine ab_bipush (pc := 1) (v := 7) dX4_number_1 (by decide) ?_
  refine ab_S2 (pc := 3) dX4_number_3 msX4_105 rfl (kX4_within) (ab_ki fun r3 h3 e3 => ?_)
  obtain ⟨rfl, rfl⟩ := And.intro e3.1.symm e3.2.symm
  refine ab_if_ne (pc := 6) 15 dX4_number_6 (by decide) (fun c6 => ?_) (fun c6 => ?_)
  · replace c6 := b2i_1.mp c6
    refine ab_aload_n (pc := 15) dX4_number_15 rfl rfl ?_
    refine ab_iconst (pc := 16) (v := 0) dX4_number_16 (by decide) ?_
    refine ab_puti (pc := 17) dX4_number_17 fwX4_92 rfl rfl ?_
    refine ab_aload_n (pc := 20) dX4_number_20 rfl rfl ?_
    refine ab_getr (pc := 21) dX4_number_21 fX4_22 rfl rfl ?_
    refine ab_iload_n (pc := 24) dX4_number_24 rfl rfl ?_
    refine ab_iald (pc := 25) dX4_number_25 rfl (m_within_8 c6) ?_
    refine ab_topi (by (try simp only [ab_rd, ab_rdA, Nat.reduceEqDiff, reduceIte]); exact rfl) ?_
    exact ab_reti (pc := 26) dX4_number_26 rfl ⟨_, rfl, ⟨by rw [if_pos c6], by rw [if_pos c6]⟩⟩
  · replace c6 := b2i_0.mp c6
    refine ab_aload_n (pc := 9) dX4_number_9 rfl rfl ?_
    refine ab_iconst (pc := 10) (v := 1) dX4_number_10 (by decide) ?_
    refine ab_V1 (pc := 11) dX4_number_11 mvX4_113 rfl rfl (kX4_no) (ab_ki fun r11 h11 e11 => ?_)
    obtain ⟨rfl, rfl⟩ := And.intro e11.1.symm e11.2.symm
    exact ab_reti (pc := 14) dX4_number_14 rfl ⟨_, rfl, ⟨by rw [if_neg (ne_true_of_eq_false c6)], by rw [if_neg (ne_true_of_eq_false c6)]⟩⟩

set_option maxRecDepth 100000 in
set_option maxHeartbeats 4000000 in
theorem kX4_row {l : Launch} {d : Nat} {h : ab_H} {i : Int32} (hp : ¬ i < 0 → i < h 0 7 → vp_in i 16) : ab_C l layM (d + 1) mX4_row [ab_R 0, ab_I i] h (ab_qi fun r h' => r = (if ¬ i < 0 ∧ i < h 0 7 then h 6 i.toNatClampNeg else 0) ∧ h' = (if ¬ i < 0 ∧ i < h 0 7 then ab_up h 0 0 0 else ab_up h 0 0 1)) := by
  refine ab_enter (by decide) (Nat.le_of_ble_eq_true rfl) ?_
  refine ab_iload_n (pc := 0) dX4_row_0 rfl rfl ?_
  refine ab_if_lt (pc := 1) 12 dX4_row_1 (by decide) (fun c1 => ?_) (fun c1 => ?_)
  · refine ab_aload_n (pc := 12) dX4_row_12 rfl rfl ?_
    refine ab_iconst (pc := 13) (v := 1) dX4_row_13 (by decide) ?_
    refine ab_V1 (pc := 14) dX4_row_14 mvX4_113 rfl rfl (kX4_no) (ab_ki fun r14 h14 e14 => ?_)
    obtain ⟨rfl, rfl⟩ := And.intro e14.1.symm e14.2.symm
    exact ab_reti (pc := 17) dX4_row_17 rfl ⟨_, rfl, (by constructor <;> first | rw [if_pos (And.intro c1 c9)] | rw [if_neg (and_nn c1)] | rw [if_neg (and_nr c9)])⟩
  · refine ab_iload_n (pc := 4) dX4_row_4 rfl rfl ?_
    refine ab_aload_n (pc := 5) dX4_row_5 rfl rfl ?_
    refine ab_geti (pc := 6) dX4_row_6 fX4_28 rfl rfl ?_
    refine ab_icmp_lt (pc := 9) 18 dX4_row_9 (by decide) (fun c9 => ?_) (fun c9 => ?_)
    · refine ab_aload_n (pc := 18) dX4_row_18 rfl rfl ?_
      refine ab_iconst (pc := 19) (v := 0) dX4_row_19 (by decide) ?_
      refine ab_puti (pc := 20) dX4_row_20 fwX4_92 rfl rfl ?_
      refine ab_aload_n (pc := 23) dX4_row_23 rfl rfl ?_
      refine ab_getr (pc := 24) dX4_row_24 fX4_25 rfl rfl ?_
      refine ab_iload_n (pc := 27) dX4_row_27 rfl rfl ?_
      refine ab_iald (pc := 28) dX4_row_28 rfl (hp c1 c9) ?_
      refine ab_topi (by (try simp only [ab_rd, ab_rdA, Nat.reduceEqDiff, reduceIte]); exact rfl) ?_
      exact ab_reti (pc := 29) dX4_row_29 rfl ⟨_, rfl, (by constructor <;> first | rw [if_pos (And.intro c1 c9)] | rw [if_neg (and_nn c1)] | rw [if_neg (and_nr c9)])⟩
    · refine ab_aload_n (pc := 12) dX4_row_12 rfl rfl ?_
      refine ab_iconst (pc := 13) (v := 1) dX4_row_13 (by decide) ?_
      refine ab_V1 (pc := 14) dX4_row_14 mvX4_113 rfl rfl (kX4_no) (ab_ki fun r14 h14 e14 => ?_)
      obtain ⟨rfl, rfl⟩ := And.intro e14.1.symm e14.2.symm
      exact ab_reti (pc := 17) dX4_row_17 rfl ⟨_, rfl, (by constructor <;> first | rw [if_pos (And.intro c1 c9)] | rw [if_neg (and_nn c1)] | rw [if_neg (and_nr c9)])⟩

set_option maxRecDepth 100000 in
set_option maxHeartbeats 4000000 in
theorem kX4_log {l : Launch} {d : Nat} {h : ab_H} {i : Int32} (hp : ¬ i < 0 → i < h 0 15 → vp_in i 100) : ab_C l layM (d + 1) mX4_log [ab_R 0, ab_I i] h (ab_qi fun r h' => r = (if ¬ i < 0 ∧ i < h 0 15 then h 12 i.toNatClampNeg else 0) ∧ h' = (if ¬ i < 0 ∧ i < h 0 15 then ab_up h 0 0 0 else ab_up h 0 0 1)) := by
  refine ab_enter (by decide) (Nat.le_of_ble_eq_true rfl) ?_
  refine ab_iload_n (pc := 0) dX4_log_0 rfl rfl ?_
  refine ab_if_lt (pc := 1) 12 dX4_log_1 (by decide) (fun c1 => ?_) (fun c1 => ?_)
  · refine ab_aload_n (pc := 12) dX4_log_12 rfl rfl ?_
    refine ab_iconst (pc := 13) (v := 1) dX4_log_13 (by decide) ?_
    refine ab_V1 (pc := 14) dX4_log_14 mvX4_113 rfl rfl (kX4_no) (ab_ki fun r14 h14 e14 => ?_)
    obtain ⟨rfl, rfl⟩ := And.intro e14.1.symm e14.2.symm
    exact ab_reti (pc := 17) dX4_log_17 rfl ⟨_, rfl, (by constructor <;> first | rw [if_pos (And.intro c1 c9)] | rw [if_neg (and_nn c1)] | rw [if_neg (and_nr c9)])⟩
  · refine ab_iload_n (pc := 4) dX4_log_4 rfl rfl ?_
    refine ab_aload_n (pc := 5) dX4_log_5 rfl rfl ?_
    refine ab_geti (pc := 6) dX4_log_6 fX4_145 rfl rfl ?_
    refine ab_icmp_lt (pc := 9) 18 dX4_log_9 (by decide) (fun c9 => ?_) (fun c9 => ?_)
    · refine ab_aload_n (pc := 18) dX4_log_18 rfl rfl ?_
      refine ab_iconst (pc := 19) (v := 0) dX4_log_19 (by decide) ?_
      refine ab_puti (pc := 20) dX4_log_20 fwX4_92 rfl rfl ?_
      refine ab_aload_n (pc := 23) dX4_log_23 rfl rfl ?_
      refine ab_getr (pc := 24) dX4_log_24 fX4_50 rfl rfl ?_
      refine ab_iload_n (pc := 27) dX4_log_27 rfl rfl ?_
      refine ab_iald (pc := 28) dX4_log_28 rfl (hp c1 c9) ?_
      refine ab_topi (by (try simp only [ab_rd, ab_rdA, Nat.reduceEqDiff, reduceIte]); exact rfl) ?_
      exact ab_reti (pc := 29) dX4_log_29 rfl ⟨_, rfl, (by constructor <;> first | rw [if_pos (And.intro c1 c9)] | rw [if_neg (and_nn c1)] | rw [if_neg (and_nr c9)])⟩
    · refine ab_aload_n (pc := 12) dX4_log_12 rfl rfl ?_
      refine ab_iconst (pc := 13) (v := 1) dX4_log_13 (by decide) ?_
      refine ab_V1 (pc := 14) dX4_log_14 mvX4_113 rfl rfl (kX4_no) (ab_ki fun r14 h14 e14 => ?_)
      obtain ⟨rfl, rfl⟩ := And.intro e14.1.symm e14.2.symm
      exact ab_reti (pc := 17) dX4_log_17 rfl ⟨_, rfl, (by constructor <;> first | rw [if_pos (And.intro c1 c9)] | rw [if_neg (and_nn c1)] | rw [if_neg (and_nr c9)])⟩

set_option maxRecDepth 100000 in
set_option maxHeartbeats 4000000 in
theorem kX4_clear {l : Launch} {d : Nat} {h : ab_H} {w : Int32}  : ab_C l layM (d + 1) mX4_clear [ab_R 0, ab_I w] h (ab_qv fun h' => h' = (if m_within w 7 = true then ab_up (ab_up h 0 0 0) 4 w.toNatClampNeg 0 else ab_up h 0 0 1)) := by
  refine ab_enter (by decide) (Nat.le_of_ble_eq_true rfl) ?_
  refine ab_aload_n (pc := 0) dX4_clear_0 rfl rfl ?_
  refine ab_iload_n (pc := 1) dX4_clear_1 rfl rfl ?_
  refine ab_bipush (pc := 2) (v := 7) dX4_clear_2 (by decide) ?_
  refine ab_S2 (pc := 4) dX4_clear_4 msX4_105 rfl (kX4_within) (ab_ki fun r4 h4 e4 => ?_)
  obtain ⟨rfl, rfl⟩ := And.intro e4.1.symm e4.2.symm
  refine ab_if_eq (pc := 7) 14 dX4_clear_7 (by decide) (fun c7 => ?_) (fun c7 => ?_)
  · replace c7 := b2i_0.mp c7
    refine ab_iconst (pc := 14) (v := 1) dX4_clear_14 (by decide) ?_
    refine ab_puti (pc := 15) dX4_clear_15 fwX4_92 rfl rfl ?_
    refine ab_aload_n (pc := 18) dX4_clear_18 rfl rfl ?_
    refine ab_geti (pc := 19) dX4_clear_19 fX4_92 rfl rfl ?_
    refine ab_topi (by (try simp only [ab_rd, ab_rdA, Nat.reduceEqDiff, reduceIte]); exact rfl) ?_
    refine ab_if_ne (pc := 22) 32 dX4_clear_22 (by decide) (fun c22 => ?_) (fun c22 => ?_)
    · exact ab_retv (pc := 32) dX4_clear_32 rfl ⟨rfl, (by first | exact absurd rfl c22 | rw [if_neg (ne_true_of_eq_false c7)])⟩
    · first
        | exact absurd c22 i10
        | (refine ab_aload_n (pc := 25) dX4_clear_25 rfl rfl ?_
           refine ab_getr (pc := 26) dX4_clear_26 fX4_19 rfl rfl ?_
           refine ab_iload_n (pc := 29) dX4_clear_29 rfl rfl ?_
           refine ab_iconst (pc := 30) (v := 0) dX4_clear_30 (by decide) ?_
           refine ab_iast (pc := 31) dX4_clear_31 rfl (m_within_8 c7) ?_
           exact ab_retv (pc := 32) dX4_clear_32 rfl ⟨rfl, by rw [if_pos c7]⟩)
  · replace c7 := b2i_1.mp c7
    refine ab_iconst (pc := 10) (v := 0) dX4_clear_10 (by decide) ?_
    refine ab_goto (pc := 11) 15 dX4_clear_11 (by decide) ?_
    refine ab_puti (pc := 15) dX4_clear_15 fwX4_92 rfl rfl ?_
    refine ab_aload_n (pc := 18) dX4_clear_18 rfl rfl ?_
    refine ab_geti (pc := 19) dX4_clear_19 fX4_92 rfl rfl ?_
    refine ab_topi (by (try simp only [ab_rd, ab_rdA, Nat.reduceEqDiff, reduceIte]); exact rfl) ?_
    refine ab_if_ne (pc := 22) 32 dX4_clear_22 (by decide) (fun c22 => ?_) (fun c22 => ?_)
    · exact ab_retv (pc := 32) dX4_clear_32 rfl ⟨rfl, (by first | exact absurd rfl c22 | rw [if_neg (ne_true_of_eq_false c7)])⟩
    · first
        | exact absurd c22 i10
        | (refine ab_aload_n (pc := 25) dX4_clear_25 rfl rfl ?_
           refine ab_getr (pc := 26) dX4_clear_26 fX4_19 rfl rfl ?_
           refine ab_iload_n (pc := 29) dX4_clear_29 rfl rfl ?_
           refine ab_iconst (pc := 30) (v := 0) dX4_clear_30 (by decide) ?_
           refine ab_iast (pc := 31) dX4_clear_31 rfl (m_within_8 c7) ?_
           exact ab_retv (pc := 32) dX4_clear_32 rfl ⟨rfl, by rw [if_pos c7]⟩)
