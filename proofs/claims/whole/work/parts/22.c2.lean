/-! the class undoes; its workflows -/
def c_undoB (h : ab_H) (j : Nat) (a s : Int32) : ab_H :=
  if s = 1 then ab_up (ab_up h 3 7 (h 3 7 + 1)) 4 a.toNatClampNeg (h 4 a.toNatClampNeg - h 11 j)
  else if s = 5 then ab_up (ab_up h 3 7 (h 3 7 + 1)) 5 a.toNatClampNeg (h 11 j)
  else if s = 6 then ab_up (ab_upA (ab_up h 3 7 (h 3 7 + 1)) 5 (va_cpy (h 13) (h 5) (j * 16) 0 16)) 2 2 (h 11 j)
  else if s = 7 then ab_up (ab_up (ab_up h 3 7 (h 3 7 + 1)) 6 a.toNatClampNeg (h 12 j)) 7 a.toNatClampNeg (h 11 j)
  else ab_up (ab_up h 3 7 (h 3 7 + 1)) 4 a.toNatClampNeg (h 11 j)
def c_undoAt (h : ab_H) (j : Nat) : ab_H := if h 9 j = 5 ∧ c_hasPlace h (h 10 j) = false then ab_up h 3 8 (h 3 8 + 1) else c_undoB h j (h 10 j) (h 9 j)
theorem c_hp {h : ab_H} {p : Int32} (c : c_hasPlace h p = true) : ¬ p < 0 ∧ ¬ h 2 2 ≤ p := by
  simpa only [c_hasPlace, Bool.and_eq_true, decide_eq_true_eq] using c
set_option maxRecDepth 100000 in
set_option maxHeartbeats 4000000 in
theorem kX1_undoAt {l : Launch} {d : Nat} {h : ab_H} {j : Nat} (hj : j < 60) (h8 : ¬ h 9 j = 5 → ¬ h 9 j = 6 → ¬ h 9 j = 7 → vp_in (h 10 j) 8) (h16 : h 9 j = 5 → ¬ h 10 j < 0 → ¬ h 2 2 ≤ h 10 j → vp_in (h 10 j) 16) (h4 : h 9 j = 7 → vp_in (h 10 j) 4) : ab_C l layC (d + 1) mX1_undoAt [ab_R 3, ab_I (nI j), ab_R 2] h (ab_qv fun h' => h' = c_undoAt h j) := by
  refine ab_enter (by decide) (Nat.le_of_ble_eq_true rfl) ?_
  have hc : (nI j).toNatClampNeg = j := nI_clamp (by omega)
  have hi : vp_in (nI j) 60 := vp_in_nI hj (by omega)
  refine ab_aload_n (pc := 0) dX1_undoAt_0 rfl rfl ?_
  refine ab_getr (pc := 1) dX1_undoAt_1 fX1_15 rfl rfl ?_
  refine ab_iload_n (pc := 4) dX1_undoAt_4 rfl rfl ?_
  refine ab_iald (pc := 5) dX1_undoAt_5 rfl hi ?_
  refine ab_topi (by (try simp only [ab_rd, ab_rdA, Nat.reduceEqDiff, reduceIte, hc]); exact rfl) ?_
  refine ab_istore_n (pc := 6) dX1_undoAt_6 rfl rfl ?_
  refine ab_aload_n (pc := 7) dX1_undoAt_7 rfl rfl ?_
  refine ab_getr (pc := 8) dX1_undoAt_8 fX1_11 rfl rfl ?_
  refine ab_iload_n (pc := 11) dX1_undoAt_11 rfl rfl ?_
  refine ab_iald (pc := 12) dX1_undoAt_12 rfl hi ?_
  refine ab_topi (by (try simp only [ab_rd, ab_rdA, Nat.reduceEqDiff, reduceIte, hc]); exact rfl) ?_
  refine ab_iconst (pc := 13) (v := 5) dX1_undoAt_13 (by decide) ?_
  refine ab_icmp_ne (pc := 14) 36 dX1_undoAt_14 (by decide) (fun c14 => ?_) (fun c14 => ?_)
  · refine ab_aload_n (pc := 36) dX1_undoAt_36 rfl rfl ?_
    refine ab_dup (pc := 37) dX1_undoAt_37 rfl ?_
    refine ab_geti (pc := 38) dX1_undoAt_38 fX1_73 rfl rfl ?_
    refine ab_topi (by (try simp only [ab_rd, ab_rdA, Nat.reduceEqDiff, reduceIte, hc]); exact rfl) ?_
    refine ab_iconst (pc := 41) (v := 1) dX1_undoAt_41 (by decide) ?_
    refine ab_iadd (pc := 42) dX1_undoAt_42 ?_
    refine ab_puti (pc := 43) dX1_undoAt_43 fwX1_73 rfl rfl ?_
    refine ab_aload_n (pc := 46) dX1_undoAt_46 rfl rfl ?_
    refine ab_getr (pc := 47) dX1_undoAt_47 fX1_11 rfl rfl ?_
    refine ab_iload_n (pc := 50) dX1_undoAt_50 rfl rfl ?_
    refine ab_iald (pc := 51) dX1_undoAt_51 rfl hi ?_
    refine ab_topi (by (try simp only [ab_rd, ab_rdA, Nat.reduceEqDiff, reduceIte, hc]); exact rfl) ?_
    refine ab_table (pc := 52) dX1_undoAt_52 (by decide) (by decide) (by decide) (by decide) ?_
    refine ab_tw_c 1 96 (by decide) (by decide) (fun s52 => ?_) (fun n52_1 => ?_)
    · refine ab_aload_n (pc := 96) dX1_undoAt_96 rfl rfl ?_
      refine ab_getr (pc := 97) dX1_undoAt_97 fX1_76 rfl rfl ?_
      refine ab_iload_n (pc := 100) dX1_undoAt_100 rfl rfl ?_
      refine ab_dup2 (pc := 101) dX1_undoAt_101 rfl rfl ?_
      refine ab_iald (pc := 102) dX1_undoAt_102 rfl (h8 (by rw [s52]; decide) (by rw [s52]; decide) (by rw [s52]; decide)) ?_
      refine ab_topi (by (try simp only [ab_rd, ab_rdA, Nat.reduceEqDiff, reduceIte, hc]); exact rfl) ?_
      refine ab_aload_n (pc := 103) dX1_undoAt_103 rfl rfl ?_
      refine ab_getr (pc := 104) dX1_undoAt_104 fX1_18 rfl rfl ?_
      refine ab_iload_n (pc := 107) dX1_undoAt_107 rfl rfl ?_
      refine ab_iald (pc := 108) dX1_undoAt_108 rfl hi ?_
      refine ab_topi (by (try simp only [ab_rd, ab_rdA, Nat.reduceEqDiff, reduceIte, hc]); exact rfl) ?_
      refine ab_isub (pc := 109) dX1_undoAt_109 ?_
      refine ab_iast (pc := 110) dX1_undoAt_110 rfl (h8 (by rw [s52]; decide) (by rw [s52]; decide) (by rw [s52]; decide)) ?_
      refine ab_goto (pc := 111) 199 dX1_undoAt_111 (by decide) ?_
      exact ab_retv (pc := 199) dX1_undoAt_199 rfl ⟨rfl, (by rw [c_undoAt, if_neg (by first | exact fun q => c14 q.1 | exact fun q => absurd (c22.symm.trans q.2) Bool.noConfusion), c_undoB, if_pos s52])⟩
    refine ab_tw_c 2 187 (by decide) (by decide) (fun s52 => ?_) (fun n52_2 => ?_)
    · refine ab_aload_n (pc := 187) dX1_undoAt_187 rfl rfl ?_
      refine ab_getr (pc := 188) dX1_undoAt_188 fX1_76 rfl rfl ?_
      refine ab_iload_n (pc := 191) dX1_undoAt_191 rfl rfl ?_
      refine ab_aload_n (pc := 192) dX1_undoAt_192 rfl rfl ?_
      refine ab_getr (pc := 193) dX1_undoAt_193 fX1_18 rfl rfl ?_
      refine ab_iload_n (pc := 196) dX1_undoAt_196 rfl rfl ?_
      refine ab_iald (pc := 197) dX1_undoAt_197 rfl hi ?_
      refine ab_topi (by (try simp only [ab_rd, ab_rdA, Nat.reduceEqDiff, reduceIte, hc]); exact rfl) ?_
      refine ab_iast (pc := 198) dX1_undoAt_198 rfl (by first | exact h8 n52_5 n52_6 n52_7 | exact h8 (by rw [s52]; decide) (by rw [s52]; decide) (by rw [s52]; decide)) ?_
      exact ab_retv (pc := 199) dX1_undoAt_199 rfl ⟨rfl, (by first | rw [c_undoAt, if_neg (by first | exact fun q => c14 q.1 | exact fun q => absurd (c22.symm.trans q.2) Bool.noConfusion), c_undoB, if_neg n52_1, if_neg n52_5, if_neg n52_6, if_neg n52_7] | rw [c_undoAt, if_neg (by first | exact fun q => c14 q.1 | exact fun q => absurd (c22.symm.trans q.2) Bool.noConfusion), c_undoB, if_neg n52_1, if_neg (show ¬ h 9 j = 5 by rw [s52]; decide), if_neg (show ¬ h 9 j = 6 by rw [s52]; decide), if_neg (show ¬ h 9 j = 7 by rw [s52]; decide)])⟩
    refine ab_tw_c 3 187 (by decide) (by decide) (fun s52 => ?_) (fun n52_3 => ?_)
    · refine ab_aload_n (pc := 187) dX1_undoAt_187 rfl rfl ?_
      refine ab_getr (pc := 188) dX1_undoAt_188 fX1_76 rfl rfl ?_
      refine ab_iload_n (pc := 191) dX1_undoAt_191 rfl rfl ?_
      refine ab_aload_n (pc := 192) dX1_undoAt_192 rfl rfl ?_
      refine ab_getr (pc := 193) dX1_undoAt_193 fX1_18 rfl rfl ?_
      refine ab_iload_n (pc := 196) dX1_undoAt_196 rfl rfl ?_
      refine ab_iald (pc := 197) dX1_undoAt_197 rfl hi ?_
      refine ab_topi (by (try simp only [ab_rd, ab_rdA, Nat.reduceEqDiff, reduceIte, hc]); exact rfl) ?_
      refine ab_iast (pc := 198) dX1_undoAt_198 rfl (by first | exact h8 n52_5 n52_6 n52_7 | exact h8 (by rw [s52]; decide) (by rw [s52]; decide) (by rw [s52]; decide)) ?_
      exact ab_retv (pc := 199) dX1_undoAt_199 rfl ⟨rfl, (by first | rw [c_undoAt, if_neg (by first | exact fun q => c14 q.1 | exact fun q => absurd (c22.symm.trans q.2) Bool.noConfusion), c_undoB, if_neg n52_1, if_neg n52_5, if_neg n52_6, if_neg n52_7] | rw [c_undoAt, if_neg (by first | exact fun q => c14 q.1 | exact fun q => absurd (c22.symm.trans q.2) Bool.noConfusion), c_undoB, if_neg n52_1, if_neg (show ¬ h 9 j = 5 by rw [s52]; decide), if_neg (show ¬ h 9 j = 6 by rw [s52]; decide), if_neg (show ¬ h 9 j = 7 by rw [s52]; decide)])⟩
    refine ab_tw_c 4 187 (by decide) (by decide) (fun s52 => ?_) (fun n52_4 => ?_)
    · refine ab_aload_n (pc := 187) dX1_undoAt_187 rfl rfl ?_
      refine ab_getr (pc := 188) dX1_undoAt_188 fX1_76 rfl rfl ?_
      refine ab_iload_n (pc := 191) dX1_undoAt_191 rfl rfl ?_
      refine ab_aload_n (pc := 192) dX1_undoAt_192 rfl rfl ?_
      refine ab_getr (pc := 193) dX1_undoAt_193 fX1_18 rfl rfl ?_
      refine ab_iload_n (pc := 196) dX1_undoAt_196 rfl rfl ?_
      refine ab_iald (pc := 197) dX1_undoAt_197 rfl hi ?_
      refine ab_topi (by (try simp only [ab_rd, ab_rdA, Nat.reduceEqDiff, reduceIte, hc]); exact rfl) ?_
      refine ab_iast (pc := 198) dX1_undoAt_198 rfl (by first | exact h8 n52_5 n52_6 n52_7 | exact h8 (by rw [s52]; decide) (by rw [s52]; decide) (by rw [s52]; decide)) ?_
      exact ab_retv (pc := 199) dX1_undoAt_199 rfl ⟨rfl, (by first | rw [c_undoAt, if_neg (by first | exact fun q => c14 q.1 | exact fun q => absurd (c22.symm.trans q.2) Bool.noConfusion), c_undoB, if_neg n52_1, if_neg n52_5, if_neg n52_6, if_neg n52_7] | rw [c_undoAt, if_neg (by first | exact fun q => c14 q.1 | exact fun q => absurd (c22.symm.trans q.2) Bool.noConfusion), c_undoB, if_neg n52_1, if_neg (show ¬ h 9 j = 5 by rw [s52]; decide), if_neg (show ¬ h 9 j = 6 by rw [s52]; decide), if_neg (show ¬ h 9 j = 7 by rw [s52]; decide)])⟩
    refine ab_tw_c 5 114 (by decide) (by decide) (fun s52 => ?_) (fun n52_5 => ?_)
    · refine ab_aload_n (pc := 114) dX1_undoAt_114 rfl rfl ?_
      refine ab_getr (pc := 115) dX1_undoAt_115 fX1_38 rfl rfl ?_
      refine ab_iload_n (pc := 118) dX1_undoAt_118 rfl rfl ?_
      refine ab_aload_n (pc := 119) dX1_undoAt_119 rfl rfl ?_
      refine ab_getr (pc := 120) dX1_undoAt_120 fX1_18 rfl rfl ?_
      refine ab_iload_n (pc := 123) dX1_undoAt_123 rfl rfl ?_
      refine ab_iald (pc := 124) dX1_undoAt_124 rfl hi ?_
      refine ab_topi (by (try simp only [ab_rd, ab_rdA, Nat.reduceEqDiff, reduceIte, hc]); exact rfl) ?_
      refine ab_iast (pc := 125) dX1_undoAt_125 rfl (by first | exact h16 s52 (c_hp c22).1 (c_hp c22).2 | exact absurd s52 c14) ?_
      refine ab_goto (pc := 126) 199 dX1_undoAt_126 (by decide) ?_
      exact ab_retv (pc := 199) dX1_undoAt_199 rfl ⟨rfl, (by rw [c_undoAt, if_neg (by first | exact fun q => c14 q.1 | exact fun q => absurd (c22.symm.trans q.2) Bool.noConfusion), c_undoB, if_neg n52_1, if_pos s52])⟩
    refine ab_tw_c 6 129 (by decide) (by decide) (fun s52 => ?_) (fun n52_6 => ?_)
    · refine ab_aload_n (pc := 129) dX1_undoAt_129 rfl rfl ?_
      refine ab_getr (pc := 130) dX1_undoAt_130 fX1_24 rfl rfl ?_
      refine ab_iload_n (pc := 133) dX1_undoAt_133 rfl rfl ?_
      refine ab_bipush (pc := 134) (v := 16) dX1_undoAt_134 (by decide) ?_
      refine ab_imul (pc := 136) dX1_undoAt_136 ?_
      refine ab_aload_n (pc := 137) dX1_undoAt_137 rfl rfl ?_
      refine ab_getr (pc := 138) dX1_undoAt_138 fX1_38 rfl rfl ?_
      refine ab_iconst (pc := 141) (v := 0) dX1_undoAt_141 (by decide) ?_
      refine ab_bipush (pc := 142) (v := 16) dX1_undoAt_142 (by decide) ?_
      refine ab_copy (pc := 144) dX1_undoAt_144 (by decide +kernel) (by decide +kernel) (by decide +kernel) (by decide +kernel) rfl rfl rfl (c_in16 rfl hj).1 (by decide) (by decide) (c_in16 rfl hj).2 (by decide) ?_
      refine ab_aload_n (pc := 147) dX1_undoAt_147 rfl rfl ?_
      refine ab_aload_n (pc := 148) dX1_undoAt_148 rfl rfl ?_
      refine ab_getr (pc := 149) dX1_undoAt_149 fX1_18 rfl rfl ?_
      refine ab_iload_n (pc := 152) dX1_undoAt_152 rfl rfl ?_
      refine ab_iald (pc := 153) dX1_undoAt_153 rfl hi ?_
      refine ab_topi (by (try simp only [ab_rd, ab_rdA, Nat.reduceEqDiff, reduceIte, hc]); exact rfl) ?_
      refine ab_puti (pc := 154) dX1_undoAt_154 fwX1_49 rfl rfl ?_
      refine ab_goto (pc := 157) 199 dX1_undoAt_157 (by decide) ?_
      exact ab_retv (pc := 199) dX1_undoAt_199 rfl ⟨rfl, (by rw [c_undoAt, if_neg (by first | exact fun q => c14 q.1 | exact fun q => absurd (c22.symm.trans q.2) Bool.noConfusion), c_undoB, if_neg n52_1, if_neg n52_5, if_pos s52, c_16 rfl, nI_clamp (by omega)]; rfl)⟩
    refine ab_tw_c 7 160 (by decide) (by decide) (fun s52 => ?_) (fun n52_7 => ?_)
    · refine ab_aload_n (pc := 160) dX1_undoAt_160 rfl rfl ?_
      refine ab_getr (pc := 161) dX1_undoAt_161 fX1_56 rfl rfl ?_
      refine ab_iload_n (pc := 164) dX1_undoAt_164 rfl rfl ?_
      refine ab_aload_n (pc := 165) dX1_undoAt_165 rfl rfl ?_
      refine ab_getr (pc := 166) dX1_undoAt_166 fX1_21 rfl rfl ?_
      refine ab_iload_n (pc := 169) dX1_undoAt_169 rfl rfl ?_
      refine ab_iald (pc := 170) dX1_undoAt_170 rfl hi ?_
      refine ab_topi (by (try simp only [ab_rd, ab_rdA, Nat.reduceEqDiff, reduceIte, hc]); exact rfl) ?_
      refine ab_iast (pc := 171) dX1_undoAt_171 rfl (h4 s52) ?_
      refine ab_aload_n (pc := 172) dX1_undoAt_172 rfl rfl ?_
      refine ab_getr (pc := 173) dX1_undoAt_173 fX1_59 rfl rfl ?_
      refine ab_iload_n (pc := 176) dX1_undoAt_176 rfl rfl ?_
      refine ab_aload_n (pc := 177) dX1_undoAt_177 rfl rfl ?_
      refine ab_getr (pc := 178) dX1_undoAt_178 fX1_18 rfl rfl ?_
      refine ab_iload_n (pc := 181) dX1_undoAt_181 rfl rfl ?_
      refine ab_iald (pc := 182) dX1_undoAt_182 rfl hi ?_
      refine ab_topi (by (try simp only [ab_rd, ab_rdA, Nat.reduceEqDiff, reduceIte, hc]); exact rfl) ?_
      refine ab_iast (pc := 183) dX1_undoAt_183 rfl (h4 s52) ?_
      refine ab_goto (pc := 184) 199 dX1_undoAt_184 (by decide) ?_
      exact ab_retv (pc := 199) dX1_undoAt_199 rfl ⟨rfl, (by rw [c_undoAt, if_neg (by first | exact fun q => c14 q.1 | exact fun q => absurd (c22.symm.trans q.2) Bool.noConfusion), c_undoB, if_neg n52_1, if_neg n52_5, if_neg n52_6, if_pos s52])⟩
    refine ab_tw_n 187 (by decide) ?_
    refine ab_aload_n (pc := 187) dX1_undoAt_187 rfl rfl ?_
    refine ab_getr (pc := 188) dX1_undoAt_188 fX1_76 rfl rfl ?_
    refine ab_iload_n (pc := 191) dX1_undoAt_191 rfl rfl ?_
    refine ab_aload_n (pc := 192) dX1_undoAt_192 rfl rfl ?_
    refine ab_getr (pc := 193) dX1_undoAt_193 fX1_18 rfl rfl ?_
    refine ab_iload_n (pc := 196) dX1_undoAt_196 rfl rfl ?_
    refine ab_iald (pc := 197) dX1_undoAt_197 rfl hi ?_
    refine ab_topi (by (try simp only [ab_rd, ab_rdA, Nat.reduceEqDiff, reduceIte, hc]); exact rfl) ?_
    refine ab_iast (pc := 198) dX1_undoAt_198 rfl (by first | exact h8 n52_5 n52_6 n52_7 | exact h8 (by rw [s52]; decide) (by rw [s52]; decide) (by rw [s52]; decide)) ?_
    exact ab_retv (pc := 199) dX1_undoAt_199 rfl ⟨rfl, (by first | rw [c_undoAt, if_neg (by first | exact fun q => c14 q.1 | exact fun q => absurd (c22.symm.trans q.2) Bool.noConfusion), c_undoB, if_neg n52_1, if_neg n52_5, if_neg n52_6, if_neg n52_7] | rw [c_undoAt, if_neg (by first | exact fun q => c14 q.1 | exact fun q => absurd (c22.symm.trans q.2) Bool.noConfusion), c_undoB, if_neg n52_1, if_neg (show ¬ h 9 j = 5 by rw [s52]; decide), if_neg (show ¬ h 9 j = 6 by rw [s52]; decide), if_neg (show ¬ h 9 j = 7 by rw [s52]; decide)])⟩
  · refine ab_aload_n (pc := 17) dX1_undoAt_17 rfl rfl ?_
    refine ab_iload_n (pc := 18) dX1_undoAt_18 rfl rfl ?_
    refine ab_V1 (pc := 19) dX1_undoAt_19 mvX1_66 rfl rfl (kX0_hasPlace) (ab_ki fun r19 h19 e19 => ?_)
    obtain ⟨rfl, rfl⟩ := And.intro e19.1.symm e19.2.symm
    refine ab_if_ne (pc := 22) 36 dX1_undoAt_22 (by decide) (fun c22 => ?_) (fun c22 => ?_)
    · replace c22 := b2i_1.mp c22
      refine ab_aload_n (pc := 36) dX1_undoAt_36 rfl rfl ?_
      refine ab_dup (pc := 37) dX1_undoAt_37 rfl ?_
      refine ab_geti (pc := 38) dX1_undoAt_38 fX1_73 rfl rfl ?_
      refine ab_topi (by (try simp only [ab_rd, ab_rdA, Nat.reduceEqDiff, reduceIte, hc]); exact rfl) ?_
      refine ab_iconst (pc := 41) (v := 1) dX1_undoAt_41 (by decide) ?_
      refine ab_iadd (pc := 42) dX1_undoAt_42 ?_
      refine ab_puti (pc := 43) dX1_undoAt_43 fwX1_73 rfl rfl ?_
      refine ab_aload_n (pc := 46) dX1_undoAt_46 rfl rfl ?_
      refine ab_getr (pc := 47) dX1_undoAt_47 fX1_11 rfl rfl ?_
      refine ab_iload_n (pc := 50) dX1_undoAt_50 rfl rfl ?_
      refine ab_iald (pc := 51) dX1_undoAt_51 rfl hi ?_
      refine ab_topi (by (try simp only [ab_rd, ab_rdA, Nat.reduceEqDiff, reduceIte, hc]); exact rfl) ?_
      refine ab_table (pc := 52) dX1_undoAt_52 (by decide) (by decide) (by decide) (by decide) ?_
      refine ab_tw_c 1 96 (by decide) (by decide) (fun s52 => ?_) (fun n52_1 => ?_)
      · refine ab_aload_n (pc := 96) dX1_undoAt_96 rfl rfl ?_
        refine ab_getr (pc := 97) dX1_undoAt_97 fX1_76 rfl rfl ?_
        refine ab_iload_n (pc := 100) dX1_undoAt_100 rfl rfl ?_
        refine ab_dup2 (pc := 101) dX1_undoAt_101 rfl rfl ?_
        refine ab_iald (pc := 102) dX1_undoAt_102 rfl (h8 (by rw [s52]; decide) (by rw [s52]; decide) (by rw [s52]; decide)) ?_
        refine ab_topi (by (try simp only [ab_rd, ab_rdA, Nat.reduceEqDiff, reduceIte, hc]); exact rfl) ?_
        refine ab_aload_n (pc := 103) dX1_undoAt_103 rfl rfl ?_
        refine ab_getr (pc := 104) dX1_undoAt_104 fX1_18 rfl rfl ?_
        refine ab_iload_n (pc := 107) dX1_undoAt_107 rfl rfl ?_
        refine ab_iald (pc := 108) dX1_undoAt_108 rfl hi ?_
        refine ab_topi (by (try simp only [ab_rd, ab_rdA, Nat.reduceEqDiff, reduceIte, hc]); exact rfl) ?_
        refine ab_isub (pc := 109) dX1_undoAt_109 ?_
        refine ab_iast (pc := 110) dX1_undoAt_110 rfl (h8 (by rw [s52]; decide) (by rw [s52]; decide) (by rw [s52]; decide)) ?_
        refine ab_goto (pc := 111) 199 dX1_undoAt_111 (by decide) ?_
        exact ab_retv (pc := 199) dX1_undoAt_199 rfl ⟨rfl, (by rw [c_undoAt, if_neg (by first | exact fun q => c14 q.1 | exact fun q => absurd (c22.symm.trans q.2) Bool.noConfusion), c_undoB, if_pos s52])⟩
      refine ab_tw_c 2 187 (by decide) (by decide) (fun s52 => ?_) (fun n52_2 => ?_)
      · refine ab_aload_n (pc := 187) dX1_undoAt_187 rfl rfl ?_
        refine ab_getr (pc := 188) dX1_undoAt_188 fX1_76 rfl rfl ?_
        refine ab_iload_n (pc := 191) dX1_undoAt_191 rfl rfl ?_
        refine ab_aload_n (pc := 192) dX1_undoAt_192 rfl rfl ?_
        refine ab_getr (pc := 193) dX1_undoAt_193 fX1_18 rfl rfl ?_
        refine ab_iload_n (pc := 196) dX1_undoAt_196 rfl rfl ?_
        refine ab_iald (pc := 197) dX1_undoAt_197 rfl hi ?_
        refine ab_topi (by (try simp only [ab_rd, ab_rdA, Nat.reduceEqDiff, reduceIte, hc]); exact rfl) ?_
        refine ab_iast (pc := 198) dX1_undoAt_198 rfl (by first | exact h8 n52_5 n52_6 n52_7 | exact h8 (by rw [s52]; decide) (by rw [s52]; decide) (by rw [s52]; decide)) ?_
        exact ab_retv (pc := 199) dX1_undoAt_199 rfl ⟨rfl, (by first | rw [c_undoAt, if_neg (by first | exact fun q => c14 q.1 | exact fun q => absurd (c22.symm.trans q.2) Bool.noConfusion), c_undoB, if_neg n52_1, if_neg n52_5, if_neg n52_6, if_neg n52_7] | rw [c_undoAt, if_neg (by first | exact fun q => c14 q.1 | exact fun q => absurd (c22.symm.trans q.2) Bool.noConfusion), c_undoB, if_neg n52_1, if_neg (show ¬ h 9 j = 5 by rw [s52]; decide), if_neg (show ¬ h 9 j = 6 by rw [s52]; decide), if_neg (show ¬ h 9 j = 7 by rw [s52]; decide)])⟩
      refine ab_tw_c 3 187 (by decide) (by decide) (fun s52 => ?_) (fun n52_3 => ?_)
      · refine ab_aload_n (pc := 187) dX1_undoAt_187 rfl rfl ?_
        refine ab_getr (pc := 188) dX1_undoAt_188 fX1_76 rfl rfl ?_
        refine ab_iload_n (pc := 191) dX1_undoAt_191 rfl rfl ?_
        refine ab_aload_n (pc := 192) dX1_undoAt_192 rfl rfl ?_
        refine ab_getr (pc := 193) dX1_undoAt_193 fX1_18 rfl rfl ?_
        refine ab_iload_n (pc := 196) dX1_undoAt_196 rfl rfl ?_
        refine ab_iald (pc := 197) dX1_undoAt_197 rfl hi ?_
        refine ab_topi (by (try simp only [ab_rd, ab_rdA, Nat.reduceEqDiff, reduceIte, hc]); exact rfl) ?_
        refine ab_iast (pc := 198) dX1_undoAt_198 rfl (by first | exact h8 n52_5 n52_6 n52_7 | exact h8 (by rw [s52]; decide) (by rw [s52]; decide) (by rw [s52]; decide)) ?_
        exact ab_retv (pc := 199) dX1_undoAt_199 rfl ⟨rfl, (by first | rw [c_undoAt, if_neg (by first | exact fun q => c14 q.1 | exact fun q => absurd (c22.symm.trans q.2) Bool.noConfusion), c_undoB, if_neg n52_1, if_neg n52_5, if_neg n52_6, if_neg n52_7] | rw [c_undoAt, if_neg (by first | exact fun q => c14 q.1 | exact fun q => absurd (c22.symm.trans q.2) Bool.noConfusion), c_undoB, if_neg n52_1, if_neg (show ¬ h 9 j = 5 by rw [s52]; decide), if_neg (show ¬ h 9 j = 6 by rw [s52]; decide), if_neg (show ¬ h 9 j = 7 by rw [s52]; decide)])⟩
      refine ab_tw_c 4 187 (by decide) (by decide) (fun s52 => ?_) (fun n52_4 => ?_)
      · refine ab_aload_n (pc := 187) dX1_undoAt_187 rfl rfl ?_
        refine ab_getr (pc := 188) dX1_undoAt_188 fX1_76 rfl rfl ?_
        refine ab_iload_n (pc := 191) dX1_undoAt_191 rfl rfl ?_
        refine ab_aload_n (pc := 192) dX1_undoAt_192 rfl rfl ?_
        refine ab_getr (pc := 193) dX1_undoAt_193 fX1_18 rfl rfl ?_
        refine ab_iload_n (pc := 196) dX1_undoAt_196 rfl rfl ?_
        refine ab_iald (pc := 197) dX1_undoAt_197 rfl hi ?_
        refine ab_topi (by (try simp only [ab_rd, ab_rdA, Nat.reduceEqDiff, reduceIte, hc]); exact rfl) ?_
        refine ab_iast (pc := 198) dX1_undoAt_198 rfl (by first | exact h8 n52_5 n52_6 n52_7 | exact h8 (by rw [s52]; decide) (by rw [s52]; decide) (by rw [s52]; decide)) ?_
        exact ab_retv (pc := 199) dX1_undoAt_199 rfl ⟨rfl, (by first | rw [c_undoAt, if_neg (by first | exact fun q => c14 q.1 | exact fun q => absurd (c22.symm.trans q.2) Bool.noConfusion), c_undoB, if_neg n52_1, if_neg n52_5, if_neg n52_6, if_neg n52_7] | rw [c_undoAt, if_neg (by first | exact fun q => c14 q.1 | exact fun q => absurd (c22.symm.trans q.2) Bool.noConfusion), c_undoB, if_neg n52_1, if_neg (show ¬ h 9 j = 5 by rw [s52]; decide), if_neg (show ¬ h 9 j = 6 by rw [s52]; decide), if_neg (show ¬ h 9 j = 7 by rw [s52]; decide)])⟩
      refine ab_tw_c 5 114 (by decide) (by decide) (fun s52 => ?_) (fun n52_5 => ?_)
      · refine ab_aload_n (pc := 114) dX1_undoAt_114 rfl rfl ?_
        refine ab_getr (pc := 115) dX1_undoAt_115 fX1_38 rfl rfl ?_
        refine ab_iload_n (pc := 118) dX1_undoAt_118 rfl rfl ?_
        refine ab_aload_n (pc := 119) dX1_undoAt_119 rfl rfl ?_
        refine ab_getr (pc := 120) dX1_undoAt_120 fX1_18 rfl rfl ?_
        refine ab_iload_n (pc := 123) dX1_undoAt_123 rfl rfl ?_
        refine ab_iald (pc := 124) dX1_undoAt_124 rfl hi ?_
        refine ab_topi (by (try simp only [ab_rd, ab_rdA, Nat.reduceEqDiff, reduceIte, hc]); exact rfl) ?_
        refine ab_iast (pc := 125) dX1_undoAt_125 rfl (by first | exact h16 s52 (c_hp c22).1 (c_hp c22).2 | exact absurd s52 c14) ?_
        refine ab_goto (pc := 126) 199 dX1_undoAt_126 (by decide) ?_
        exact ab_retv (pc := 199) dX1_undoAt_199 rfl ⟨rfl, (by rw [c_undoAt, if_neg (by first | exact fun q => c14 q.1 | exact fun q => absurd (c22.symm.trans q.2) Bool.noConfusion), c_undoB, if_neg n52_1, if_pos s52])⟩
      refine ab_tw_c 6 129 (by decide) (by decide) (fun s52 => ?_) (fun n52_6 => ?_)
      · refine ab_aload_n (pc := 129) dX1_undoAt_129 rfl rfl ?_
        refine ab_getr (pc := 130) dX1_undoAt_130 fX1_24 rfl rfl ?_
        refine ab_iload_n (pc := 133) dX1_undoAt_133 rfl rfl ?_
        refine ab_bipush (pc := 134) (v := 16) dX1_undoAt_134 (by decide) ?_
        refine ab_imul (pc := 136) dX1_undoAt_136 ?_
        refine ab_aload_n (pc := 137) dX1_undoAt_137 rfl rfl ?_
        refine ab_getr (pc := 138) dX1_undoAt_138 fX1_38 rfl rfl ?_
        refine ab_iconst (pc := 141) (v := 0) dX1_undoAt_141 (by decide) ?_
        refine ab_bipush (pc := 142) (v := 16) dX1_undoAt_142 (by decide) ?_
        refine ab_copy (pc := 144) dX1_undoAt_144 (by decide +kernel) (by decide +kernel) (by decide +kernel) (by decide +kernel) rfl rfl rfl (c_in16 rfl hj).1 (by decide) (by decide) (c_in16 rfl hj).2 (by decide) ?_
        refine ab_aload_n (pc := 147) dX1_undoAt_147 rfl rfl ?_
        refine ab_aload_n (pc := 148) dX1_undoAt_148 rfl rfl ?_
        refine ab_getr (pc := 149) dX1_undoAt_149 fX1_18 rfl rfl ?_
        refine ab_iload_n (pc := 152) dX1_undoAt_152 rfl rfl ?_
        refine ab_iald (pc := 153) dX1_undoAt_153 rfl hi ?_
        refine ab_topi (by (try simp only [ab_rd, ab_rdA, Nat.reduceEqDiff, reduceIte, hc]); exact rfl) ?_
        refine ab_puti (pc := 154) dX1_undoAt_154 fwX1_49 rfl rfl ?_
        refine ab_goto (pc := 157) 199 dX1_undoAt_157 (by decide) ?_
        exact ab_retv (pc := 199) dX1_undoAt_199 rfl ⟨rfl, (by rw [c_undoAt, if_neg (by first | exact fun q => c14 q.1 | exact fun q => absurd (c22.symm.trans q.2) Bool.noConfusion), c_undoB, if_neg n52_1, if_neg n52_5, if_pos s52, c_16 rfl, nI_clamp (by omega)]; rfl)⟩
      refine ab_tw_c 7 160 (by decide) (by decide) (fun s52 => ?_) (fun n52_7 => ?_)
      · refine ab_aload_n (pc := 160) dX1_undoAt_160 rfl rfl ?_
        refine ab_getr (pc := 161) dX1_undoAt_161 fX1_56 rfl rfl ?_
        refine ab_iload_n (pc := 164) dX1_undoAt_164 rfl rfl ?_
        refine ab_aload_n (pc := 165) dX1_undoAt_165 rfl rfl ?_
        refine ab_getr (pc := 166) dX1_undoAt_166 fX1_21 rfl rfl ?_
        refine ab_iload_n (pc := 169) dX1_undoAt_169 rfl rfl ?_
        refine ab_iald (pc := 170) dX1_undoAt_170 rfl hi ?_
        refine ab_topi (by (try simp only [ab_rd, ab_rdA, Nat.reduceEqDiff, reduceIte, hc]); exact rfl) ?_
        refine ab_iast (pc := 171) dX1_undoAt_171 rfl (h4 s52) ?_
        refine ab_aload_n (pc := 172) dX1_undoAt_172 rfl rfl ?_
        refine ab_getr (pc := 173) dX1_undoAt_173 fX1_59 rfl rfl ?_
        refine ab_iload_n (pc := 176) dX1_undoAt_176 rfl rfl ?_
        refine ab_aload_n (pc := 177) dX1_undoAt_177 rfl rfl ?_
        refine ab_getr (pc := 178) dX1_undoAt_178 fX1_18 rfl rfl ?_
        refine ab_iload_n (pc := 181) dX1_undoAt_181 rfl rfl ?_
        refine ab_iald (pc := 182) dX1_undoAt_182 rfl hi ?_
        refine ab_topi (by (try simp only [ab_rd, ab_rdA, Nat.reduceEqDiff, reduceIte, hc]); exact rfl) ?_
        refine ab_iast (pc := 183) dX1_undoAt_183 rfl (h4 s52) ?_
        refine ab_goto (pc := 184) 199 dX1_undoAt_184 (by decide) ?_
        exact ab_retv (pc := 199) dX1_undoAt_199 rfl ⟨rfl, (by rw [c_undoAt, if_neg (by first | exact fun q => c14 q.1 | exact fun q => absurd (c22.symm.trans q.2) Bool.noConfusion), c_undoB, if_neg n52_1, if_neg n52_5, if_neg n52_6, if_pos s52])⟩
      refine ab_tw_n 187 (by decide) ?_
      refine ab_aload_n (pc := 187) dX1_undoAt_187 rfl rfl ?_
      refine ab_getr (pc := 188) dX1_undoAt_188 fX1_76 rfl rfl ?_
      refine ab_iload_n (pc := 191) dX1_undoAt_191 rfl rfl ?_
      refine ab_aload_n (pc := 192) dX1_undoAt_192 rfl rfl ?_
      refine ab_getr (pc := 193) dX1_undoAt_193 fX1_18 rfl rfl ?_
      refine ab_iload_n (pc := 196) dX1_undoAt_196 rfl rfl ?_
      refine ab_iald (pc := 197) dX1_undoAt_197 rfl hi ?_
      refine ab_topi (by (try simp only [ab_rd, ab_rdA, Nat.reduceEqDiff, reduceIte, hc]); exact rfl) ?_
      refine ab_iast (pc := 198) dX1_undoAt_198 rfl (by first | exact h8 n52_5 n52_6 n52_7 | exact h8 (by rw [s52]; decide) (by rw [s52]; decide) (by rw [s52]; decide)) ?_
      exact ab_retv (pc := 199) dX1_undoAt_199 rfl ⟨rfl, (by first | rw [c_undoAt, if_neg (by first | exact fun q => c14 q.1 | exact fun q => absurd (c22.symm.trans q.2) Bool.noConfusion), c_undoB, if_neg n52_1, if_neg n52_5, if_neg n52_6, if_neg n52_7] | rw [c_undoAt, if_neg (by first | exact fun q => c14 q.1 | exact fun q => absurd (c22.symm.trans q.2) Bool.noConfusion), c_undoB, if_neg n52_1, if_neg (show ¬ h 9 j = 5 by rw [s52]; decide), if_neg (show ¬ h 9 j = 6 by rw [s52]; decide), if_neg (show ¬ h 9 j = 7 by rw [s52]; decide)])⟩
    · replace c22 := b2i_0.mp c22
      refine ab_aload_n (pc := 25) dX1_undoAt_25 rfl rfl ?_
      refine ab_dup (pc := 26) dX1_undoAt_26 rfl ?_
      refine ab_geti (pc := 27) dX1_undoAt_27 fX1_70 rfl rfl ?_
      refine ab_topi (by (try simp only [ab_rd, ab_rdA, Nat.reduceEqDiff, reduceIte, hc]); exact rfl) ?_
      refine ab_iconst (pc := 30) (v := 1) dX1_undoAt_30 (by decide) ?_
      refine ab_iadd (pc := 31) dX1_undoAt_31 ?_
      refine ab_puti (pc := 32) dX1_undoAt_32 fwX1_70 rfl rfl ?_
      exact ab_retv (pc := 35) dX1_undoAt_35 rfl ⟨rfl, (by rw [c_undoAt, if_pos (And.intro c14 c22)])⟩

theorem c_undo_ne (h : ab_H) (j i : Nat) (h0 : i ≠ 2) (h1 : i ≠ 3) (h2 : i ≠ 4) (h3 : i ≠ 5) (h4 : i ≠ 6) (h5 : i ≠ 7) : c_undoAt h j i = h i := by
  unfold c_undoAt c_undoB
  repeat' split
  all_goals (funext k; simp [ab_rd, ab_rdA, h0, h1, h2, h3, h4, h5])
theorem c_undo_3 (h : ab_H) (j k : Nat) (h0 : k ≠ 7) (h1 : k ≠ 8) : c_undoAt h j 3 k = h 3 k := by
  unfold c_undoAt c_undoB
  repeat' split
  all_goals simp [ab_rd, ab_rdA, h0, h1]
def c_uok (h : ab_H) (u : Nat) : Prop := ∀ j, j < u → (¬ h 9 j = 5 → ¬ h 9 j = 6 → ¬ h 9 j = 7 → vp_in (h 10 j) 8) ∧ (h 9 j = 7 → vp_in (h 10 j) 4) ∧ (h 9 j = 6 → ∀ i : Int32, ¬ i < 0 → ¬ h 11 j ≤ i → vp_in i 16)
def c_pok (h : ab_H) : Prop := ∀ i : Int32, ¬ i < 0 → ¬ h 2 2 ≤ i → vp_in i 16
theorem c_undo_uok {h : ab_H} {u : Nat} (H : c_uok h (u + 1)) : c_uok (c_undoAt h u) u := by
  intro j hj
  rw [c_undo_ne h u 9 (by omega) (by omega) (by omega) (by omega) (by omega) (by omega), c_undo_ne h u 10 (by omega) (by omega) (by omega) (by omega) (by omega) (by omega), c_undo_ne h u 11 (by omega) (by omega) (by omega) (by omega) (by omega) (by omega)]
  exact H j (by omega)
theorem c_undo_pok {h : ab_H} {u : Nat} (H : c_uok h (u + 1)) (P : c_pok h) : c_pok (c_undoAt h u) := by
  have H := (H u (by omega)).2.2
  unfold c_undoAt c_undoB
  split
  · intro i h1 h2
    exact P i h1 (by simpa [ab_rd] using h2)
  · split
    · intro i h1 h2
      exact P i h1 (by simpa [ab_rd] using h2)
    · split
      · intro i h1 h2
        exact P i h1 (by simpa [ab_rd] using h2)
      · split
        · next q =>
          intro i h1 h2
          exact H q i h1 (by simpa [ab_rd, ab_rdA] using h2)
        · split
          · intro i h1 h2
            exact P i h1 (by simpa [ab_rd] using h2)
          · intro i h1 h2
            exact P i h1 (by simpa [ab_rd] using h2)
def c_ua (mk : Nat) : Nat → ab_H → ab_H
  | 0, h => h
  | n + 1, h => c_ua mk n (c_undoAt h (mk + n))
theorem c_ua_3 (mk k : Nat) (h0 : k ≠ 7) (h1 : k ≠ 8) : ∀ (n : Nat) (h : ab_H), c_ua mk n h 3 k = h 3 k
  | 0, _ => rfl
  | n + 1, h => (c_ua_3 mk k h0 h1 n _).trans (c_undo_3 h _ k h0 h1)
theorem i_add_m1 (x : Int32) : x + -1 = x - 1 := (Int32.sub_eq_add_neg x 1).symm
theorem nI_m1_lt (k : Nat) (hk : k < 2 ^ 30) : nI k - 1 < nI k := by
  cases k with
  | zero => decide
  | succ n => rw [nI_pred]; exact nI_lt (by omega) (by omega)
set_option maxRecDepth 100000 in
set_option maxHeartbeats 4000000 in
theorem lpX1_undoScope {l : Launch} {d : Nat} {mk : Nat} {Q : Option ab_V → ab_H → Prop} : ∀ (n : Nat) (h : ab_H), mk + n ≤ 60 → h 3 6 = nI mk → c_uok h (mk + n) → c_pok h → ab_J l layC mX1_undoScope (d + 2) Q 36 [(0, ab_R 3)] [] (c_ua mk n h) → ab_J l layC mX1_undoScope (d + 2) Q 16 [(0, ab_R 3), (1, ab_R 2), (2, ab_I (nI (mk + n) - 1))] [] h := by
  intro n
  induction n with
  | zero =>
    intro h hle hs hok hpl K
    refine ab_iload_n (pc := 16) dX1_undoScope_16 rfl rfl ?_
    refine ab_aload_n (pc := 17) dX1_undoScope_17 rfl rfl ?_
    refine ab_geti (pc := 18) dX1_undoScope_18 fX1_27 rfl rfl ?_
    rw [hs]
    refine ab_icmp_lt (pc := 21) 36 dX1_undoScope_21 (by decide) (fun c21 => ?_) (fun c21 => ?_)
    · refine ab_weak [(0, ab_R 3)] ⟨rfl, trivial⟩ ?_
      exact K
    · exact absurd (nI_m1_lt mk (by omega)) c21
  | succ n ih =>
    intro h hle hs hok hpl K
    rw [show nI (mk + (n + 1)) - 1 = nI (mk + n) from nI_pred (mk + n)]
    refine ab_iload_n (pc := 16) dX1_undoScope_16 rfl rfl ?_
    refine ab_aload_n (pc := 17) dX1_undoScope_17 rfl rfl ?_
    refine ab_geti (pc := 18) dX1_undoScope_18 fX1_27 rfl rfl ?_
    rw [hs]
    refine ab_icmp_lt (pc := 21) 36 dX1_undoScope_21 (by decide) (fun c21 => ?_) (fun c21 => ?_)
    · exact absurd c21 (nI_nlt (by omega) (by omega))
    · refine ab_aload_n (pc := 24) dX1_undoScope_24 rfl rfl ?_
      refine ab_iload_n (pc := 25) dX1_undoScope_25 rfl rfl ?_
      refine ab_aload_n (pc := 26) dX1_undoScope_26 rfl rfl ?_
      refine ab_V2 (pc := 27) dX1_undoScope_27 mvX1_62 rfl rfl (kX1_undoAt (j := mk + n) (by omega) (hok _ (by omega)).1 (fun _ => hpl _) (hok _ (by omega)).2.1) (ab_kv fun h27 e27 => ?_)
      obtain rfl := e27.symm
      refine ab_iinc (pc := 30) (v := (-1)) dX1_undoScope_30 rfl (by decide) rfl ?_
      refine ab_goto (pc := 33) 16 dX1_undoScope_33 (by decide) ?_
      refine ab_weak [(0, ab_R 3), (1, ab_R 2), (2, ab_I (nI (mk + n) + -1))] ⟨rfl, rfl, rfl, trivial⟩ ?_
      rw [i_add_m1]
      exact ih _ (by omega) (by rw [c_undo_3 h _ 6 (by omega) (by omega)]; exact hs) (c_undo_uok hok) (c_undo_pok hok hpl) K
theorem nI_m (k : Nat) (hk : k < 2 ^ 30) : ¬ nI k = -1 := fun e => by
  have := congrArg Int32.toInt e
  rw [nI_toInt (by omega)] at this
  have e2 : (-1 : Int32).toInt = -1 := by decide
  omega
set_option maxRecDepth 100000 in
set_option maxHeartbeats 4000000 in
theorem kX1_undoScope {l : Launch} {d : Nat} {h : ab_H} {mk n : Nat} (hs : h 3 6 = nI mk) (hz : h 3 5 = nI (mk + n)) (hle : mk + n ≤ 60) (hok : c_uok h (mk + n)) (hpl : c_pok h) : ab_C l layC (d + 2) mX1_undoScope [ab_R 3, ab_R 2] h (ab_qv fun h' => h' = ab_up (c_ua mk n h) 3 5 (nI mk)) := by
  refine ab_enter (by decide) (Nat.le_of_ble_eq_true rfl) ?_
  refine ab_aload_n (pc := 0) dX1_undoScope_0 rfl rfl ?_
  refine ab_geti (pc := 1) dX1_undoScope_1 fX1_27 rfl rfl ?_
  refine ab_iconst (pc := 4) (v := (-1)) dX1_undoScope_4 (by decide) ?_
  rw [hs]
  refine ab_icmp_ne (pc := 5) 9 dX1_undoScope_5 (by decide) (fun c5 => ?_) (fun c5 => ?_)
  · refine ab_aload_n (pc := 9) dX1_undoScope_9 rfl rfl ?_
    refine ab_geti (pc := 10) dX1_undoScope_10 fX1_31 rfl rfl ?_
    rw [hz]
    refine ab_iconst (pc := 13) (v := 1) dX1_undoScope_13 (by decide) ?_
    refine ab_isub (pc := 14) dX1_undoScope_14 ?_
    refine ab_istore_n (pc := 15) dX1_undoScope_15 rfl rfl ?_
    refine ab_weak [(0, ab_R 3), (1, ab_R 2), (2, ab_I _)] ⟨rfl, rfl, rfl, trivial⟩ ?_
    refine lpX1_undoScope (mk := mk) n h hle hs hok hpl ?_
    refine ab_aload_n (pc := 36) dX1_undoScope_36 rfl rfl ?_
    refine ab_aload_n (pc := 37) dX1_undoScope_37 rfl rfl ?_
    refine ab_geti (pc := 38) dX1_undoScope_38 fX1_27 rfl rfl ?_
    rw [c_ua_3 mk 6 (by omega) (by omega), hs]
    refine ab_puti (pc := 41) dX1_undoScope_41 fwX1_31 rfl rfl ?_
    exact ab_retv (pc := 44) dX1_undoScope_44 rfl ⟨rfl, rfl⟩
  · exact absurd c5 (nI_m mk (by omega))

set_option maxRecDepth 100000 in
set_option maxHeartbeats 4000000 in
theorem kX2_isWhole {l : Launch} {d : Nat} {h : ab_H} {w : Nat} (hw : w < 8) : ab_C l layC (d) mX2_isWhole [ab_R (8 * w + 14)] h (ab_qi fun r h' => r = b2i (c_whole h w) ∧ h' = h) := by
  refine ab_enter (by decide) (Nat.le_of_ble_eq_true rfl) ?_
  refine ab_aload_n (pc := 0) dX2_isWhole_0 rfl rfl ?_
  refine ab_geti (pc := 1) dX2_isWhole_1 fX2_33 (layC_o w hw) rfl ?_
  refine ab_if_ne (pc := 4) 11 dX2_isWhole_4 (by decide) (fun c4 => ?_) (fun c4 => ?_)
  · refine ab_iconst (pc := 11) (v := 0) dX2_isWhole_11 (by decide) ?_
    exact ab_retz (pc := 12) dX2_isWhole_12 rfl rfl ⟨_, rfl, ⟨by first | (rw [c_whole, decide_eq_true c4]; rfl) | (rw [c_whole, decide_eq_false c4]; rfl), rfl⟩⟩
  · refine ab_iconst (pc := 7) (v := 1) dX2_isWhole_7 (by decide) ?_
    refine ab_goto (pc := 8) 12 dX2_isWhole_8 (by decide) ?_
    exact ab_retz (pc := 12) dX2_isWhole_12 rfl rfl ⟨_, rfl, ⟨by first | (rw [c_whole, decide_eq_true c4]; rfl) | (rw [c_whole, decide_eq_false c4]; rfl), rfl⟩⟩

set_option maxRecDepth 100000 in
set_option maxHeartbeats 4000000 in
theorem kX2_empty {l : Launch} {d : Nat} {h : ab_H} {w : Nat} (hw : w < 8) : ab_C l layC (d) mX2_empty [ab_R (8 * w + 14)] h (ab_qv fun h' => h' = c_empty h w) := by
  refine ab_enter (by decide) (Nat.le_of_ble_eq_true rfl) ?_
  refine ab_aload_n (pc := 0) dX2_empty_0 rfl rfl ?_
  refine ab_iconst (pc := 1) (v := 0) dX2_empty_1 (by decide) ?_
  refine ab_puti (pc := 2) dX2_empty_2 fwX2_33 (layC_o w hw) rfl ?_
  refine ab_aload_n (pc := 5) dX2_empty_5 rfl rfl ?_
  refine ab_iconst (pc := 6) (v := 0) dX2_empty_6 (by decide) ?_
  refine ab_puti (pc := 7) dX2_empty_7 fwX2_37 (layC_o w hw) rfl ?_
  exact ab_retv (pc := 10) dX2_empty_10 rfl ⟨rfl, rfl⟩

set_option maxRecDepth 100000 in
set_option maxHeartbeats 4000000 in
theorem kX2_latestPart {l : Launch} {d : Nat} {h : ab_H} {w : Nat} (hw : w < 8) (ho : ¬ h (8 * w + 14) 7 ≤ 0 → vp_in (h (8 * w + 14) 7 - 1) 10) (hp : ¬ h (8 * w + 14) 7 ≤ 0 → vp_in (h (8 * w + 21) (h (8 * w + 14) 7 - 1).toNatClampNeg) 60) : ab_C l layC (d) mX2_latestPart [ab_R (8 * w + 14)] h (ab_qi fun r h' => r = c_latest h w ∧ h' = h) := by
  refine ab_enter (by decide) (Nat.le_of_ble_eq_true rfl) ?_
  refine ab_aload_n (pc := 0) dX2_latestPart_0 rfl rfl ?_
  refine ab_geti (pc := 1) dX2_latestPart_1 fX2_33 (layC_o w hw) rfl ?_
  refine ab_if_le (pc := 4) 26 dX2_latestPart_4 (by decide) (fun c4 => ?_) (fun c4 => ?_)
  · refine ab_iconst (pc := 26) (v := (-1)) dX2_latestPart_26 (by decide) ?_
    exact ab_reti (pc := 27) dX2_latestPart_27 rfl ⟨_, rfl, ⟨by first | rw [c_latest, if_pos c4] | rw [c_latest, if_neg c4], rfl⟩⟩
  · refine ab_aload_n (pc := 7) dX2_latestPart_7 rfl rfl ?_
    refine ab_getr (pc := 8) dX2_latestPart_8 fX2_9 (layC_o w hw) rfl ?_
    refine ab_aload_n (pc := 11) dX2_latestPart_11 rfl rfl ?_
    refine ab_getr (pc := 12) dX2_latestPart_12 fX2_30 (layC_o w hw) rfl ?_
    refine ab_aload_n (pc := 15) dX2_latestPart_15 rfl rfl ?_
    refine ab_geti (pc := 16) dX2_latestPart_16 fX2_33 (layC_o w hw) rfl ?_
    refine ab_iconst (pc := 19) (v := 1) dX2_latestPart_19 (by decide) ?_
    refine ab_isub (pc := 20) dX2_latestPart_20 ?_
    refine ab_iald (pc := 21) dX2_latestPart_21 (by first | exact layC_1 w hw | exact layC_2 w hw | exact layC_3 w hw | exact layC_4 w hw | exact layC_5 w hw | exact layC_6 w hw | exact layC_7 w hw) (ho c4) ?_
    refine ab_iald (pc := 22) dX2_latestPart_22 (by first | exact layC_1 w hw | exact layC_2 w hw | exact layC_3 w hw | exact layC_4 w hw | exact layC_5 w hw | exact layC_6 w hw | exact layC_7 w hw) (hp c4) ?_
    refine ab_goto (pc := 23) 27 dX2_latestPart_23 (by decide) ?_
    exact ab_reti (pc := 27) dX2_latestPart_27 rfl ⟨_, rfl, ⟨by first | rw [c_latest, if_pos c4] | rw [c_latest, if_neg c4], rfl⟩⟩

set_option maxRecDepth 100000 in
set_option maxHeartbeats 4000000 in
theorem kX2_openAt {l : Launch} {d : Nat} {h : ab_H} {w : Nat} {x : Int32} (hw : w < 8) (ho : ¬ 10 ≤ h (8 * w + 14) 7 → vp_in (h (8 * w + 14) 7) 10) : ab_C l layC (d) mX2_openAt [ab_R (8 * w + 14), ab_I x] h (ab_qv fun h' => h' = c_openAt h w x) := by
  refine ab_enter (by decide) (Nat.le_of_ble_eq_true rfl) ?_
  refine ab_aload_n (pc := 0) dX2_openAt_0 rfl rfl ?_
  refine ab_geti (pc := 1) dX2_openAt_1 fX2_33 (layC_o w hw) rfl ?_
  refine ab_bipush (pc := 4) (v := 10) dX2_openAt_4 (by decide) ?_
  refine ab_icmp_ge (pc := 6) 39 dX2_openAt_6 (by decide) (fun c6 => ?_) (fun c6 => ?_)
  · exact ab_retv (pc := 39) dX2_openAt_39 rfl ⟨rfl, (by first | rw [c_openAt, if_pos c6] | rw [c_openAt, if_neg c6])⟩
  · refine ab_aload_n (pc := 9) dX2_openAt_9 rfl rfl ?_
    refine ab_getr (pc := 10) dX2_openAt_10 fX2_27 (layC_o w hw) rfl ?_
    refine ab_aload_n (pc := 13) dX2_openAt_13 rfl rfl ?_
    refine ab_geti (pc := 14) dX2_openAt_14 fX2_33 (layC_o w hw) rfl ?_
    refine ab_iload_n (pc := 17) dX2_openAt_17 rfl rfl ?_
    refine ab_iast (pc := 18) dX2_openAt_18 (by first | exact layC_1 w hw | exact layC_2 w hw | exact layC_3 w hw | exact layC_4 w hw | exact layC_5 w hw | exact layC_6 w hw | exact layC_7 w hw) (ho c6) ?_
    refine ab_aload_n (pc := 19) dX2_openAt_19 rfl rfl ?_
    refine ab_getr (pc := 20) dX2_openAt_20 fX2_30 (layC_o w hw) rfl ?_
    refine ab_aload_n (pc := 23) dX2_openAt_23 rfl rfl ?_
    refine ab_geti (pc := 24) dX2_openAt_24 fX2_33 (layC_o w hw) rfl ?_
    refine ab_topi (by (try simp only [ab_rd, ab_rdA, Nat.reduceEqDiff, reduceIte, Nat.left_eq_add, Nat.add_eq_left]); exact rfl) ?_
    refine ab_iload_n (pc := 27) dX2_openAt_27 rfl rfl ?_
    refine ab_iast (pc := 28) dX2_openAt_28 (by first | exact layC_1 w hw | exact layC_2 w hw | exact layC_3 w hw | exact layC_4 w hw | exact layC_5 w hw | exact layC_6 w hw | exact layC_7 w hw) (ho c6) ?_
    refine ab_aload_n (pc := 29) dX2_openAt_29 rfl rfl ?_
    refine ab_dup (pc := 30) dX2_openAt_30 rfl ?_
    refine ab_geti (pc := 31) dX2_openAt_31 fX2_33 (layC_o w hw) rfl ?_
    refine ab_topi (by (try simp only [ab_rd, ab_rdA, Nat.reduceEqDiff, reduceIte, Nat.left_eq_add, Nat.add_eq_left]); exact rfl) ?_
    refine ab_iconst (pc := 34) (v := 1) dX2_openAt_34 (by decide) ?_
    refine ab_iadd (pc := 35) dX2_openAt_35 ?_
    refine ab_puti (pc := 36) dX2_openAt_36 fwX2_33 (layC_o w hw) rfl ?_
    exact ab_retv (pc := 39) dX2_openAt_39 rfl ⟨rfl, (by first | rw [c_openAt, if_pos c6] | rw [c_openAt, if_neg c6])⟩

set_option maxRecDepth 100000 in
set_option maxHeartbeats 4000000 in
theorem kX2_beginPartAt {l : Launch} {d : Nat} {h : ab_H} {w : Nat} {x : Int32} (hw : w < 8) (ho : ¬ h (8 * w + 14) 7 ≤ 0 → vp_in (h (8 * w + 14) 7 - 1) 10) (hp : ¬ h (8 * w + 14) 7 ≤ 0 → vp_in (h (8 * w + 21) (h (8 * w + 14) 7 - 1).toNatClampNeg) 60) : ab_C l layC (d) mX2_beginPartAt [ab_R (8 * w + 14), ab_I x] h (ab_qv fun h' => h' = c_partAt h w x) := by
  refine ab_enter (by decide) (Nat.le_of_ble_eq_true rfl) ?_
  refine ab_aload_n (pc := 0) dX2_beginPartAt_0 rfl rfl ?_
  refine ab_geti (pc := 1) dX2_beginPartAt_1 fX2_33 (layC_o w hw) rfl ?_
  refine ab_if_le (pc := 4) 36 dX2_beginPartAt_4 (by decide) (fun c4 => ?_) (fun c4 => ?_)
  · exact ab_retv (pc := 36) dX2_beginPartAt_36 rfl ⟨rfl, (by first | rw [c_partAt, if_pos c4] | rw [c_partAt, if_neg c4])⟩
  · refine ab_aload_n (pc := 7) dX2_beginPartAt_7 rfl rfl ?_
    refine ab_getr (pc := 8) dX2_beginPartAt_8 fX2_21 (layC_o w hw) rfl ?_
    refine ab_aload_n (pc := 11) dX2_beginPartAt_11 rfl rfl ?_
    refine ab_getr (pc := 12) dX2_beginPartAt_12 fX2_30 (layC_o w hw) rfl ?_
    refine ab_aload_n (pc := 15) dX2_beginPartAt_15 rfl rfl ?_
    refine ab_geti (pc := 16) dX2_beginPartAt_16 fX2_33 (layC_o w hw) rfl ?_
    refine ab_iconst (pc := 19) (v := 1) dX2_beginPartAt_19 (by decide) ?_
    refine ab_isub (pc := 20) dX2_beginPartAt_20 ?_
    refine ab_iald (pc := 21) dX2_beginPartAt_21 (by first | exact layC_1 w hw | exact layC_2 w hw | exact layC_3 w hw | exact layC_4 w hw | exact layC_5 w hw | exact layC_6 w hw | exact layC_7 w hw) (ho c4) ?_
    refine ab_iload_n (pc := 22) dX2_beginPartAt_22 rfl rfl ?_
    refine ab_iast (pc := 23) dX2_beginPartAt_23 (by first | exact layC_1 w hw | exact layC_2 w hw | exact layC_3 w hw | exact layC_4 w hw | exact layC_5 w hw | exact layC_6 w hw | exact layC_7 w hw) (hp c4) ?_
    refine ab_aload_n (pc := 24) dX2_beginPartAt_24 rfl rfl ?_
    refine ab_getr (pc := 25) dX2_beginPartAt_25 fX2_30 (layC_o w hw) rfl ?_
    refine ab_aload_n (pc := 28) dX2_beginPartAt_28 rfl rfl ?_
    refine ab_geti (pc := 29) dX2_beginPartAt_29 fX2_33 (layC_o w hw) rfl ?_
    refine ab_topi (by (try simp only [ab_rd, ab_rdA, Nat.reduceEqDiff, reduceIte, Nat.left_eq_add, Nat.add_eq_left]); exact rfl) ?_
    refine ab_iconst (pc := 32) (v := 1) dX2_beginPartAt_32 (by decide) ?_
    refine ab_isub (pc := 33) dX2_beginPartAt_33 ?_
    refine ab_iload_n (pc := 34) dX2_beginPartAt_34 rfl rfl ?_
    refine ab_iast (pc := 35) dX2_beginPartAt_35 (by first | exact layC_1 w hw | exact layC_2 w hw | exact layC_3 w hw | exact layC_4 w hw | exact layC_5 w hw | exact layC_6 w hw | exact layC_7 w hw) (ho c4) ?_
    exact ab_retv (pc := 36) dX2_beginPartAt_36 rfl ⟨rfl, (by first | rw [c_partAt, if_pos c4] | rw [c_partAt, if_neg c4])⟩

set_option maxRecDepth 100000 in
set_option maxHeartbeats 4000000 in
theorem kX2_closeAt {l : Launch} {d : Nat} {h : ab_H} {w : Nat} {x : Int32} (hw : w < 8) (ho : ¬ h (8 * w + 14) 7 ≤ 0 → vp_in (h (8 * w + 14) 7 - 1) 10) (hp : ¬ h (8 * w + 14) 7 ≤ 0 → vp_in (h (8 * w + 21) (h (8 * w + 14) 7 - 1).toNatClampNeg) 60) (hb : ¬ h (8 * w + 14) 7 ≤ 0 → vp_in (h (8 * w + 20) (h (8 * w + 14) 7 - 1).toNatClampNeg) 60) : ab_C l layC (d) mX2_closeAt [ab_R (8 * w + 14), ab_I x] h (ab_qv fun h' => h' = c_closeAt h w x) := by
  refine ab_enter (by decide) (Nat.le_of_ble_eq_true rfl) ?_
  refine ab_aload_n (pc := 0) dX2_closeAt_0 rfl rfl ?_
  refine ab_geti (pc := 1) dX2_closeAt_1 fX2_33 (layC_o w hw) rfl ?_
  refine ab_if_le (pc := 4) 47 dX2_closeAt_4 (by decide) (fun c4 => ?_) (fun c4 => ?_)
  · exact ab_retv (pc := 47) dX2_closeAt_47 rfl ⟨rfl, (by first | rw [c_closeAt, if_pos c4] | rw [c_closeAt, if_neg c4])⟩
  · refine ab_aload_n (pc := 7) dX2_closeAt_7 rfl rfl ?_
    refine ab_dup (pc := 8) dX2_closeAt_8 rfl ?_
    refine ab_geti (pc := 9) dX2_closeAt_9 fX2_33 (layC_o w hw) rfl ?_
    refine ab_iconst (pc := 12) (v := 1) dX2_closeAt_12 (by decide) ?_
    refine ab_isub (pc := 13) dX2_closeAt_13 ?_
    refine ab_puti (pc := 14) dX2_closeAt_14 fwX2_33 (layC_o w hw) rfl ?_
    refine ab_aload_n (pc := 17) dX2_closeAt_17 rfl rfl ?_
    refine ab_getr (pc := 18) dX2_closeAt_18 fX2_21 (layC_o w hw) rfl ?_
    refine ab_aload_n (pc := 21) dX2_closeAt_21 rfl rfl ?_
    refine ab_getr (pc := 22) dX2_closeAt_22 fX2_30 (layC_o w hw) rfl ?_
    refine ab_aload_n (pc := 25) dX2_closeAt_25 rfl rfl ?_
    refine ab_geti (pc := 26) dX2_closeAt_26 fX2_33 (layC_o w hw) rfl ?_
    refine ab_topi (by (try simp only [ab_rd, ab_rdA, Nat.reduceEqDiff, reduceIte, Nat.left_eq_add, Nat.add_eq_left]); exact rfl) ?_
    refine ab_iald (pc := 29) dX2_closeAt_29 (by first | exact layC_1 w hw | exact layC_2 w hw | exact layC_3 w hw | exact layC_4 w hw | exact layC_5 w hw | exact layC_6 w hw | exact layC_7 w hw) (ho c4) ?_
    refine ab_topi (by (try simp only [ab_rd, ab_rdA, Nat.reduceEqDiff, reduceIte, Nat.left_eq_add, Nat.add_eq_left]); exact rfl) ?_
    refine ab_iload_n (pc := 30) dX2_closeAt_30 rfl rfl ?_
    refine ab_iast (pc := 31) dX2_closeAt_31 (by first | exact layC_1 w hw | exact layC_2 w hw | exact layC_3 w hw | exact layC_4 w hw | exact layC_5 w hw | exact layC_6 w hw | exact layC_7 w hw) (hp c4) ?_
    refine ab_aload_n (pc := 32) dX2_closeAt_32 rfl rfl ?_
    refine ab_getr (pc := 33) dX2_closeAt_33 fX2_24 (layC_o w hw) rfl ?_
    refine ab_aload_n (pc := 36) dX2_closeAt_36 rfl rfl ?_
    refine ab_getr (pc := 37) dX2_closeAt_37 fX2_27 (layC_o w hw) rfl ?_
    refine ab_aload_n (pc := 40) dX2_closeAt_40 rfl rfl ?_
    refine ab_geti (pc := 41) dX2_closeAt_41 fX2_33 (layC_o w hw) rfl ?_
    refine ab_topi (by (try simp only [ab_rd, ab_rdA, Nat.reduceEqDiff, reduceIte, Nat.left_eq_add, Nat.add_eq_left]); exact rfl) ?_
    refine ab_iald (pc := 44) dX2_closeAt_44 (by first | exact layC_1 w hw | exact layC_2 w hw | exact layC_3 w hw | exact layC_4 w hw | exact layC_5 w hw | exact layC_6 w hw | exact layC_7 w hw) (ho c4) ?_
    refine ab_topi (by (try simp only [ab_rd, ab_rdA, Nat.reduceEqDiff, reduceIte, Nat.left_eq_add, Nat.add_eq_left]); exact rfl) ?_
    refine ab_iload_n (pc := 45) dX2_closeAt_45 rfl rfl ?_
    refine ab_iast (pc := 46) dX2_closeAt_46 (by first | exact layC_1 w hw | exact layC_2 w hw | exact layC_3 w hw | exact layC_4 w hw | exact layC_5 w hw | exact layC_6 w hw | exact layC_7 w hw) (hb c4) ?_
    exact ab_retv (pc := 47) dX2_closeAt_47 rfl ⟨rfl, (by first | rw [c_closeAt, if_pos c4] | rw [c_closeAt, if_neg c4])⟩
