/-! a NODE, and a part -/
theorem c_nok_A {s a b : Int32} (H : c_nok s a b) (q : s = 0 ∨ s = 1 ∨ s = 2 ∨ s = 3 ∨ s = 4 ∨ s = 5 ∨ s = 6) : vp_in a 8 := H.1 (by rcases q with q | q | q | q | q | q | q <;> simp [q])
theorem c_nok_B {s a b : Int32} (H : c_nok s a b) (q : s = 3 ∨ s = 4 ∨ s = 5) : vp_in b 8 := H.2.1 (by rcases q with q | q | q <;> simp [q])
theorem c_lg {h : ab_H} (H : ∃ g, g ≤ 100 ∧ h 2 6 = nI g) (c : ¬ 100 ≤ h 2 6) : vp_in (h 2 6) 100 := by
  obtain ⟨g, hg, e⟩ := H
  rw [e] at c ⊢
  have zc2 : ¬ nI 100 ≤ nI g := c
  rw [nI_leI (by omega) (by omega)] at zc2
  exact vp_in_nI (by omega) (by omega)
theorem c_nodeS_d {P : c_PT} {h : ab_H} {w : Nat} {x deep s a b : Int32} (hn : ¬ s = 9 ∧ ¬ s = 10 ∧ ¬ s = 13 ∧ ¬ s = 14 ∧ ¬ s = 15 ∧ ¬ s = 17 ∧ ¬ s = 18 ∧ ¬ s = 19 ∧ ¬ s = 20 ∧ ¬ s = 21) : c_nodeS P h w x deep s a b = (c_stepK h s a b, c_stepN h s a b, c_step h s a b) := by
  obtain ⟨q9, q10, q13, q14, q15, q17, q18, q19, q20, q21⟩ := hn
  rw [c_nodeS, if_neg q9, if_neg q10, if_neg q13, if_neg q14, if_neg q15, if_neg q17, if_neg q18, if_neg q19, if_neg q20, if_neg q21]
set_option maxRecDepth 100000 in
set_option maxHeartbeats 300000 in
theorem kX3_doNode {l : Launch} {d : Nat} {h : ab_H} {n : Nat} {P : c_PT} {w : Nat} {x deep : Int32} (hP : h 0 3 < 60 → c_KP l (d + 6) n P) (hI : h 0 3 < 60 → c_IP n P) (hq : h 0 3 < 60 → c_pre n (c_pay h) w x) (hinv : c_inv h) (hw : w < 8) (hx : vp_in x 60) : ab_C l layC (d + 8) mX3_doNode [ab_R 0, ab_R (8 * w + 14), ab_I x, ab_I deep] h (ab_ql fun z h' => z = c_way (c_node P h w x deep).1 (c_node P h w x deep).2.1 ∧ h' = (c_node P h w x deep).2.2) := by
  refine ab_enter (by decide) (Nat.le_of_ble_eq_true rfl) ?_
  refine ab_aload_n (pc := 0) dX3_doNode_0 rfl rfl ?_
  refine ab_V0 (pc := 1) dX3_doNode_1 mvX3_153 rfl rfl kX3_canPay (ab_ki fun r1 h1 e1 => ?_)
  rcases e1 with ⟨zq3, rfl, rfl⟩ | ⟨zq3, rfl, rfl⟩
  · refine ab_if_ne (pc := 4) 13 dX3_doNode_4 (by decide) (fun zc4 => ?_) (fun zc4 => absurd zc4 (by decide))
    refine ab_heq (show ab_up h 0 3 (h 0 3 + 1) = c_pay h from rfl) ?_
    have hp := hq zq3
    have hP2 := hP zq3
    have hI2 := hI zq3
    have ok := c_ok hinv hw hx
    have e15 : c_pay h (8 * w + 15) = h (8 * w + 15) := ab_up_ne (by omega)
    have e16 : c_pay h (8 * w + 16) = h (8 * w + 16) := ab_up_ne (by omega)
    have e17 : c_pay h (8 * w + 17) = h (8 * w + 17) := ab_up_ne (by omega)
    obtain ⟨hlg0, hpl, u, hu2, hu, huok, hsc⟩ := hp.1.2
    refine ab_aload_n (pc := 13) dX3_doNode_13 rfl rfl ?_
    refine ab_getr (pc := 14) dX3_doNode_14 fX3_156 (layC_o w hw) rfl ?_
    refine ab_iload_n (pc := 17) dX3_doNode_17 rfl rfl ?_
    refine ab_iald (pc := 18) dX3_doNode_18 (layC_2 w hw) hx ?_
    refine ab_topi (by (try simp only [ab_rd, ab_rdA, Nat.reduceEqDiff, reduceIte, e15, e16, e17]); exact rfl) ?_
    refine ab_istore (pc := 19) dX3_doNode_19 rfl ?_
    refine ab_aload_n (pc := 21) dX3_doNode_21 rfl rfl ?_
    refine ab_getr (pc := 22) dX3_doNode_22 fX3_159 (layC_o w hw) rfl ?_
    refine ab_iload_n (pc := 25) dX3_doNode_25 rfl rfl ?_
    refine ab_iald (pc := 26) dX3_doNode_26 (layC_3 w hw) hx ?_
    refine ab_topi (by (try simp only [ab_rd, ab_rdA, Nat.reduceEqDiff, reduceIte, e15, e16, e17]); exact rfl) ?_
    refine ab_istore (pc := 27) dX3_doNode_27 rfl ?_
    refine ab_aload_n (pc := 29) dX3_doNode_29 rfl rfl ?_
    refine ab_getr (pc := 30) dX3_doNode_30 fX3_162 (layC_o w hw) rfl ?_
    refine ab_iload_n (pc := 33) dX3_doNode_33 rfl rfl ?_
    refine ab_iald (pc := 34) dX3_doNode_34 (layC_1 w hw) hx ?_
    refine ab_topi (by (try simp only [ab_rd, ab_rdA, Nat.reduceEqDiff, reduceIte, e15, e16, e17]); exact rfl) ?_
    refine ab_table (pc := 35) dX3_doNode_35 (by decide) (by decide) (by decide) (by decide) ?_
    refine ab_tw_c 9 179 (by decide) (by decide) (fun zs35 => ?_) (fun n35_9 => ?_)
    · refine ab_iload (pc := 179) dX3_doNode_179 rfl ?_
      refine ab_S1 (pc := 181) dX3_doNode_181 msX3_184 rfl (kX3_failing) (ab_kl fun r181 h181 e181 => ?_)
      obtain ⟨rfl, rfl⟩ := And.intro e181.1.symm e181.2.symm
      exact ab_retl (pc := 184) dX3_doNode_184 rfl ⟨_, rfl, (by constructor <;> rw [c_node, if_pos zq3, c_nodeS, if_pos zs35])⟩
    refine ab_tw_c 10 100 (by decide) (by decide) (fun zs35 => ?_) (fun n35_10 => ?_)
    · refine ab_aload_n (pc := 100) dX3_doNode_100 rfl rfl ?_
      refine ab_aload_n (pc := 101) dX3_doNode_101 rfl rfl ?_
      refine ab_iload_n (pc := 102) dX3_doNode_102 rfl rfl ?_
      refine ab_iload_n (pc := 103) dX3_doNode_103 rfl rfl ?_
      refine ab_V3 (pc := 104) dX3_doNode_104 mvX3_165 rfl rfl (kX3_doTry hP2 hI2 hp hx) (ab_kl fun r104 h104 e104 => ?_)
      obtain ⟨rfl, rfl⟩ := And.intro e104.1.symm e104.2.symm
      exact ab_retl (pc := 107) dX3_doNode_107 rfl ⟨_, rfl, (by constructor <;> rw [c_node, if_pos zq3, c_nodeS, if_neg n35_9, if_pos zs35])⟩
    refine ab_tw_c 11 185 (by decide) (by decide) (fun zs35 => ?_) (fun n35_11 => ?_)
    · have hd : ¬ h (8 * w + 15) x.toNatClampNeg = 9 ∧ ¬ h (8 * w + 15) x.toNatClampNeg = 10 ∧ ¬ h (8 * w + 15) x.toNatClampNeg = 13 ∧ ¬ h (8 * w + 15) x.toNatClampNeg = 14 ∧ ¬ h (8 * w + 15) x.toNatClampNeg = 15 ∧ ¬ h (8 * w + 15) x.toNatClampNeg = 17 ∧ ¬ h (8 * w + 15) x.toNatClampNeg = 18 ∧ ¬ h (8 * w + 15) x.toNatClampNeg = 19 ∧ ¬ h (8 * w + 15) x.toNatClampNeg = 20 ∧ ¬ h (8 * w + 15) x.toNatClampNeg = 21 := by first | (rw [zs35]; decide) | exact And.intro n35_9 (And.intro n35_10 (And.intro n35_13 (And.intro n35_14 (And.intro n35_15 (And.intro n35_17 (And.intro n35_18 (And.intro n35_19 (And.intro n35_20 n35_21))))))))
      refine ab_aload_n (pc := 185) dX3_doNode_185 rfl rfl ?_
      refine ab_aload_n (pc := 186) dX3_doNode_186 rfl rfl ?_
      refine ab_getr (pc := 187) dX3_doNode_187 fX3_162 (layC_o w hw) rfl ?_
      refine ab_iload_n (pc := 190) dX3_doNode_190 rfl rfl ?_
      refine ab_iald (pc := 191) dX3_doNode_191 (layC_1 w hw) hx ?_
      refine ab_topi (by (try simp only [ab_rd, ab_rdA, Nat.reduceEqDiff, reduceIte, e15, e16, e17]); exact rfl) ?_
      refine ab_iload (pc := 192) dX3_doNode_192 rfl ?_
      refine ab_iload (pc := 194) dX3_doNode_194 rfl ?_
      refine ab_V3 (pc := 196) dX3_doNode_196 mvX3_188 rfl rfl (kX3_doStep (u := u) (c_nok_A ok) (c_nok_B ok) ok.2.2.1 (c_lg hlg0) hpl hu hu2) (ab_kl fun r196 h196 e196 => ?_)
      obtain ⟨rfl, rfl⟩ := And.intro e196.1.symm e196.2.symm
      exact ab_retl (pc := 199) dX3_doNode_199 rfl ⟨_, rfl, (by constructor <;> rw [c_node, if_pos zq3, c_nodeS_d hd])⟩
    refine ab_tw_c 12 185 (by decide) (by decide) (fun zs35 => ?_) (fun n35_12 => ?_)
    · have hd : ¬ h (8 * w + 15) x.toNatClampNeg = 9 ∧ ¬ h (8 * w + 15) x.toNatClampNeg = 10 ∧ ¬ h (8 * w + 15) x.toNatClampNeg = 13 ∧ ¬ h (8 * w + 15) x.toNatClampNeg = 14 ∧ ¬ h (8 * w + 15) x.toNatClampNeg = 15 ∧ ¬ h (8 * w + 15) x.toNatClampNeg = 17 ∧ ¬ h (8 * w + 15) x.toNatClampNeg = 18 ∧ ¬ h (8 * w + 15) x.toNatClampNeg = 19 ∧ ¬ h (8 * w + 15) x.toNatClampNeg = 20 ∧ ¬ h (8 * w + 15) x.toNatClampNeg = 21 := by first | (rw [zs35]; decide) | exact And.intro n35_9 (And.intro n35_10 (And.intro n35_13 (And.intro n35_14 (And.intro n35_15 (And.intro n35_17 (And.intro n35_18 (And.intro n35_19 (And.intro n35_20 n35_21))))))))
      refine ab_aload_n (pc := 185) dX3_doNode_185 rfl rfl ?_
      refine ab_aload_n (pc := 186) dX3_doNode_186 rfl rfl ?_
      refine ab_getr (pc := 187) dX3_doNode_187 fX3_162 (layC_o w hw) rfl ?_
      refine ab_iload_n (pc := 190) dX3_doNode_190 rfl rfl ?_
      refine ab_iald (pc := 191) dX3_doNode_191 (layC_1 w hw) hx ?_
      refine ab_topi (by (try simp only [ab_rd, ab_rdA, Nat.reduceEqDiff, reduceIte, e15, e16, e17]); exact rfl) ?_
      refine ab_iload (pc := 192) dX3_doNode_192 rfl ?_
      refine ab_iload (pc := 194) dX3_doNode_194 rfl ?_
      refine ab_V3 (pc := 196) dX3_doNode_196 mvX3_188 rfl rfl (kX3_doStep (u := u) (c_nok_A ok) (c_nok_B ok) ok.2.2.1 (c_lg hlg0) hpl hu hu2) (ab_kl fun r196 h196 e196 => ?_)
      obtain ⟨rfl, rfl⟩ := And.intro e196.1.symm e196.2.symm
      exact ab_retl (pc := 199) dX3_doNode_199 rfl ⟨_, rfl, (by constructor <;> rw [c_node, if_pos zq3, c_nodeS_d hd])⟩
    refine ab_tw_c 13 108 (by decide) (by decide) (fun zs35 => ?_) (fun n35_13 => ?_)
    · refine ab_aload_n (pc := 108) dX3_doNode_108 rfl rfl ?_
      refine ab_aload_n (pc := 109) dX3_doNode_109 rfl rfl ?_
      refine ab_iload_n (pc := 110) dX3_doNode_110 rfl rfl ?_
      refine ab_iload_n (pc := 111) dX3_doNode_111 rfl rfl ?_
      refine ab_V3 (pc := 112) dX3_doNode_112 mvX3_168 rfl rfl (kX3_doLoop hP2 hI2 hp hx (by rw [e17]; exact ok.2.2.2.1 zs35)) (ab_kl fun r112 h112 e112 => ?_)
      obtain ⟨rfl, rfl⟩ := And.intro e112.1.symm e112.2.symm
      exact ab_retl (pc := 115) dX3_doNode_115 rfl ⟨_, rfl, (by constructor <;> rw [c_node, if_pos zq3, c_nodeS, if_neg n35_9, if_neg n35_10, if_pos zs35])⟩
    refine ab_tw_c 14 116 (by decide) (by decide) (fun zs35 => ?_) (fun n35_14 => ?_)
    · refine ab_aload_n (pc := 116) dX3_doNode_116 rfl rfl ?_
      refine ab_aload_n (pc := 117) dX3_doNode_117 rfl rfl ?_
      refine ab_iload_n (pc := 118) dX3_doNode_118 rfl rfl ?_
      refine ab_iload_n (pc := 119) dX3_doNode_119 rfl rfl ?_
      refine ab_V3 (pc := 120) dX3_doNode_120 mvX3_171 rfl rfl (kX3_doScope hP2 hI2 hp hx) (ab_kl fun r120 h120 e120 => ?_)
      obtain ⟨rfl, rfl⟩ := And.intro e120.1.symm e120.2.symm
      exact ab_retl (pc := 123) dX3_doNode_123 rfl ⟨_, rfl, (by constructor <;> rw [c_node, if_pos zq3, c_nodeS, if_neg n35_9, if_neg n35_10, if_neg n35_13, if_pos zs35])⟩
    refine ab_tw_c 15 124 (by decide) (by decide) (fun zs35 => ?_) (fun n35_15 => ?_)
    · refine ab_aload_n (pc := 124) dX3_doNode_124 rfl rfl ?_
      refine ab_aload_n (pc := 125) dX3_doNode_125 rfl rfl ?_
      refine ab_iload_n (pc := 126) dX3_doNode_126 rfl rfl ?_
      refine ab_iload_n (pc := 127) dX3_doNode_127 rfl rfl ?_
      refine ab_V3 (pc := 128) dX3_doNode_128 mvX3_174 rfl rfl (kX3_doMute hP2 hI2 hp hx) (ab_kl fun r128 h128 e128 => ?_)
      obtain ⟨rfl, rfl⟩ := And.intro e128.1.symm e128.2.symm
      exact ab_retl (pc := 131) dX3_doNode_131 rfl ⟨_, rfl, (by constructor <;> rw [c_node, if_pos zq3, c_nodeS, if_neg n35_9, if_neg n35_10, if_neg n35_13, if_neg n35_14, if_pos zs35])⟩
    refine ab_tw_c 16 185 (by decide) (by decide) (fun zs35 => ?_) (fun n35_16 => ?_)
    · have hd : ¬ h (8 * w + 15) x.toNatClampNeg = 9 ∧ ¬ h (8 * w + 15) x.toNatClampNeg = 10 ∧ ¬ h (8 * w + 15) x.toNatClampNeg = 13 ∧ ¬ h (8 * w + 15) x.toNatClampNeg = 14 ∧ ¬ h (8 * w + 15) x.toNatClampNeg = 15 ∧ ¬ h (8 * w + 15) x.toNatClampNeg = 17 ∧ ¬ h (8 * w + 15) x.toNatClampNeg = 18 ∧ ¬ h (8 * w + 15) x.toNatClampNeg = 19 ∧ ¬ h (8 * w + 15) x.toNatClampNeg = 20 ∧ ¬ h (8 * w + 15) x.toNatClampNeg = 21 := by first | (rw [zs35]; decide) | exact And.intro n35_9 (And.intro n35_10 (And.intro n35_13 (And.intro n35_14 (And.intro n35_15 (And.intro n35_17 (And.intro n35_18 (And.intro n35_19 (And.intro n35_20 n35_21))))))))
      refine ab_aload_n (pc := 185) dX3_doNode_185 rfl rfl ?_
      refine ab_aload_n (pc := 186) dX3_doNode_186 rfl rfl ?_
      refine ab_getr (pc := 187) dX3_doNode_187 fX3_162 (layC_o w hw) rfl ?_
      refine ab_iload_n (pc := 190) dX3_doNode_190 rfl rfl ?_
      refine ab_iald (pc := 191) dX3_doNode_191 (layC_1 w hw) hx ?_
      refine ab_topi (by (try simp only [ab_rd, ab_rdA, Nat.reduceEqDiff, reduceIte, e15, e16, e17]); exact rfl) ?_
      refine ab_iload (pc := 192) dX3_doNode_192 rfl ?_
      refine ab_iload (pc := 194) dX3_doNode_194 rfl ?_
      refine ab_V3 (pc := 196) dX3_doNode_196 mvX3_188 rfl rfl (kX3_doStep (u := u) (c_nok_A ok) (c_nok_B ok) ok.2.2.1 (c_lg hlg0) hpl hu hu2) (ab_kl fun r196 h196 e196 => ?_)
      obtain ⟨rfl, rfl⟩ := And.intro e196.1.symm e196.2.symm
      exact ab_retl (pc := 199) dX3_doNode_199 rfl ⟨_, rfl, (by constructor <;> rw [c_node, if_pos zq3, c_nodeS_d hd])⟩
    refine ab_tw_c 17 150 (by decide) (by decide) (fun zs35 => ?_) (fun n35_17 => ?_)
    · refine ab_iconst (pc := 150) (v := 1) dX3_doNode_150 (by decide) ?_
      refine ab_iload (pc := 151) dX3_doNode_151 rfl ?_
      refine ab_S2 (pc := 153) dX3_doNode_153 msX3_134 rfl (kX3_wayOf) (ab_kl fun r153 h153 e153 => ?_)
      obtain ⟨rfl, rfl⟩ := And.intro e153.1.symm e153.2.symm
      exact ab_retl (pc := 156) dX3_doNode_156 rfl ⟨_, rfl, (by constructor <;> rw [c_node, if_pos zq3, c_nodeS, if_neg n35_9, if_neg n35_10, if_neg n35_13, if_neg n35_14, if_neg n35_15, if_pos zs35])⟩
    refine ab_tw_c 18 157 (by decide) (by decide) (fun zs35 => ?_) (fun n35_18 => ?_)
    · refine ab_iconst (pc := 157) (v := 2) dX3_doNode_157 (by decide) ?_
      refine ab_iload (pc := 158) dX3_doNode_158 rfl ?_
      refine ab_S2 (pc := 160) dX3_doNode_160 msX3_134 rfl (kX3_wayOf) (ab_kl fun r160 h160 e160 => ?_)
      obtain ⟨rfl, rfl⟩ := And.intro e160.1.symm e160.2.symm
      exact ab_retl (pc := 163) dX3_doNode_163 rfl ⟨_, rfl, (by constructor <;> rw [c_node, if_pos zq3, c_nodeS, if_neg n35_9, if_neg n35_10, if_neg n35_13, if_neg n35_14, if_neg n35_15, if_neg n35_17, if_pos zs35])⟩
    refine ab_tw_c 19 164 (by decide) (by decide) (fun zs35 => ?_) (fun n35_19 => ?_)
    · refine ab_iconst (pc := 164) (v := 3) dX3_doNode_164 (by decide) ?_
      refine ab_aload_n (pc := 165) dX3_doNode_165 rfl rfl ?_
      refine ab_getr (pc := 166) dX3_doNode_166 fX3_19 rfl rfl ?_
      refine ab_getr (pc := 169) dX3_doNode_169 fX3_102 rfl rfl ?_
      refine ab_iload (pc := 172) dX3_doNode_172 rfl ?_
      refine ab_iald (pc := 174) dX3_doNode_174 rfl (ok.1 (by simp only [zs35]; decide)) ?_
      refine ab_topi (by (try simp only [ab_rd, ab_rdA, Nat.reduceEqDiff, reduceIte, e15, e16, e17]); exact rfl) ?_
      refine ab_S2 (pc := 175) dX3_doNode_175 msX3_134 rfl (kX3_wayOf) (ab_kl fun r175 h175 e175 => ?_)
      obtain ⟨rfl, rfl⟩ := And.intro e175.1.symm e175.2.symm
      exact ab_retl (pc := 178) dX3_doNode_178 rfl ⟨_, rfl, (by constructor <;> rw [c_node, if_pos zq3, c_nodeS, if_neg n35_9, if_neg n35_10, if_neg n35_13, if_neg n35_14, if_neg n35_15, if_neg n35_17, if_neg n35_18, if_pos zs35])⟩
    refine ab_tw_c 20 140 (by decide) (by decide) (fun zs35 => ?_) (fun n35_20 => ?_)
    · obtain ⟨wb, hwb, eb⟩ := vp_in_of (ok.2.1 (by simp only [zs35]; decide)) (by omega)
      rw [eb]
      refine ab_aload_n (pc := 140) dX3_doNode_140 rfl rfl ?_
      refine ab_iload (pc := 141) dX3_doNode_141 rfl ?_
      refine ab_iload (pc := 143) dX3_doNode_143 rfl ?_
      refine ab_iload_n (pc := 145) dX3_doNode_145 rfl rfl ?_
      refine ab_V3 (pc := 146) dX3_doNode_146 mvX3_180 rfl rfl (kX3_doCall hP2 hI2 ⟨hp.1, hwb, Or.inl rfl, hp.2.2.2⟩ (ok.1 (by simp only [zs35]; decide))) (ab_kl fun r146 h146 e146 => ?_)
      obtain ⟨rfl, rfl⟩ := And.intro e146.1.symm e146.2.symm
      exact ab_retl (pc := 149) dX3_doNode_149 rfl ⟨_, rfl, (by constructor <;> rw [c_node, if_pos zq3, c_nodeS, if_neg n35_9, if_neg n35_10, if_neg n35_13, if_neg n35_14, if_neg n35_15, if_neg n35_17, if_neg n35_18, if_neg n35_19, if_pos zs35, eb])⟩
    refine ab_tw_c 21 132 (by decide) (by decide) (fun zs35 => ?_) (fun n35_21 => ?_)
    · refine ab_aload_n (pc := 132) dX3_doNode_132 rfl rfl ?_
      refine ab_aload_n (pc := 133) dX3_doNode_133 rfl rfl ?_
      refine ab_iload_n (pc := 134) dX3_doNode_134 rfl rfl ?_
      refine ab_iload_n (pc := 135) dX3_doNode_135 rfl rfl ?_
      refine ab_V3 (pc := 136) dX3_doNode_136 mvX3_177 rfl rfl (kX3_doIf hP2 hI2 hp hx (by rw [e16]; exact ok.1 (by simp only [zs35]; decide))) (ab_kl fun r136 h136 e136 => ?_)
      obtain ⟨rfl, rfl⟩ := And.intro e136.1.symm e136.2.symm
      exact ab_retl (pc := 139) dX3_doNode_139 rfl ⟨_, rfl, (by constructor <;> rw [c_node, if_pos zq3, c_nodeS, if_neg n35_9, if_neg n35_10, if_neg n35_13, if_neg n35_14, if_neg n35_15, if_neg n35_17, if_neg n35_18, if_neg n35_19, if_neg n35_20, if_pos zs35])⟩
    refine ab_tw_n 185 (by decide) ?_
    have hd : ¬ h (8 * w + 15) x.toNatClampNeg = 9 ∧ ¬ h (8 * w + 15) x.toNatClampNeg = 10 ∧ ¬ h (8 * w + 15) x.toNatClampNeg = 13 ∧ ¬ h (8 * w + 15) x.toNatClampNeg = 14 ∧ ¬ h (8 * w + 15) x.toNatClampNeg = 15 ∧ ¬ h (8 * w + 15) x.toNatClampNeg = 17 ∧ ¬ h (8 * w + 15) x.toNatClampNeg = 18 ∧ ¬ h (8 * w + 15) x.toNatClampNeg = 19 ∧ ¬ h (8 * w + 15) x.toNatClampNeg = 20 ∧ ¬ h (8 * w + 15) x.toNatClampNeg = 21 := by first | (rw [zs35]; decide) | exact And.intro n35_9 (And.intro n35_10 (And.intro n35_13 (And.intro n35_14 (And.intro n35_15 (And.intro n35_17 (And.intro n35_18 (And.intro n35_19 (And.intro n35_20 n35_21))))))))
    refine ab_aload_n (pc := 185) dX3_doNode_185 rfl rfl ?_
    refine ab_aload_n (pc := 186) dX3_doNode_186 rfl rfl ?_
    refine ab_getr (pc := 187) dX3_doNode_187 fX3_162 (layC_o w hw) rfl ?_
    refine ab_iload_n (pc := 190) dX3_doNode_190 rfl rfl ?_
    refine ab_iald (pc := 191) dX3_doNode_191 (layC_1 w hw) hx ?_
    refine ab_topi (by (try simp only [ab_rd, ab_rdA, Nat.reduceEqDiff, reduceIte, e15, e16, e17]); exact rfl) ?_
    refine ab_iload (pc := 192) dX3_doNode_192 rfl ?_
    refine ab_iload (pc := 194) dX3_doNode_194 rfl ?_
    refine ab_V3 (pc := 196) dX3_doNode_196 mvX3_188 rfl rfl (kX3_doStep (u := u) (c_nok_A ok) (c_nok_B ok) ok.2.2.1 (c_lg hlg0) hpl hu hu2) (ab_kl fun r196 h196 e196 => ?_)
    obtain ⟨rfl, rfl⟩ := And.intro e196.1.symm e196.2.symm
    exact ab_retl (pc := 199) dX3_doNode_199 rfl ⟨_, rfl, (by constructor <;> rw [c_node, if_pos zq3, c_nodeS_d hd])⟩
  · refine ab_if_ne (pc := 4) 13 dX3_doNode_4 (by decide) (fun zc4 => absurd zc4 (by decide)) (fun zc4 => ?_)
    refine ab_iconst (pc := 7) (v := 5) dX3_doNode_7 (by decide) ?_
    refine ab_iconst (pc := 8) (v := 0) dX3_doNode_8 (by decide) ?_
    refine ab_S2 (pc := 9) dX3_doNode_9 msX3_134 rfl (kX3_wayOf) (ab_kl fun r9 h9 e9 => ?_)
    obtain ⟨rfl, rfl⟩ := And.intro e9.1.symm e9.2.symm
    exact ab_retl (pc := 12) dX3_doNode_12 rfl ⟨_, rfl, (by constructor <;> rw [c_node, if_neg zq3])⟩

theorem c_max_next {a b : Nat} (ha : a < 60) (hb : b < 60) : c_max (nI a) (nI b) + 1 = nI (max a b + 1) := by
  unfold c_max
  by_cases h : nI a < nI b
  · rw [if_pos h, nI_1]
    rw [nI_ltI (by omega) (by omega)] at h
    rw [show max a b = b by omega]
  · rw [if_neg h, nI_1]
    rw [nI_ltI (by omega) (by omega)] at h
    rw [show max a b = a by omega]
set_option maxRecDepth 100000 in
set_option maxHeartbeats 300000 in
theorem lpX3_doPart {l : Launch} {d N : Nat} {P : c_PT} {w : Nat} {deep : Int32} {zE : Nat} (hw : w < 8) (hz : zE ≤ 60)
    (hN : ∀ (h : ab_H) (x : Int32), c_inv h → vp_in x 60 → c_cost N h → ab_C l layC (d + 8) mX3_doNode [ab_R 0, ab_R (8 * w + 14), ab_I x, ab_I deep] h (ab_ql fun z h' => z = c_way (c_node P h w x deep).1 (c_node P h w x deep).2.1 ∧ h' = (c_node P h w x deep).2.2))
    (hIN : ∀ (h : ab_H) (x : Int32), c_inv h → vp_in x 60 → c_cost N h → c_post N h (c_node P h w x deep)) :
    ∀ (m a : Nat) (h : ab_H), c_inv h → c_cost N h → zE < a + m → a ≤ 60 → ab_J l layC mX3_doPart (d + 9) (ab_ql fun z h' => z = c_way (c_partL P w deep (nI zE) m (nI a) h).1 (c_partL P w deep (nI zE) m (nI a) h).2.1 ∧ h' = (c_partL P w deep (nI zE) m (nI a) h).2.2) 25 [(0, ab_R 0), (1, ab_R (8 * w + 14)), (3, ab_I deep), (4, ab_I (nI zE)), (5, ab_I (nI a))] [] h := by
  intro m
  induction m with
  | zero =>
    intro a h hi hc hm ha
    refine ab_iload (pc := 25) dX3_doPart_25 rfl ?_
    refine ab_iload (pc := 27) dX3_doPart_27 rfl ?_
    refine ab_icmp_ge (pc := 29) 71 dX3_doPart_29 (by decide) (fun zc29 => ?_) (fun zc29 => ?_)
    · refine ab_lconst (pc := 71) (v := 0) dX3_doPart_71 (by decide) ?_
      exact ab_retl (pc := 72) dX3_doPart_72 rfl ⟨_, rfl, ⟨c_way0.symm, rfl⟩⟩
    · exact absurd (nI_le (by omega) (by omega)) zc29
  | succ m ih =>
    intro a h hi hc hm ha
    refine ab_iload (pc := 25) dX3_doPart_25 rfl ?_
    refine ab_iload (pc := 27) dX3_doPart_27 rfl ?_
    refine ab_icmp_ge (pc := 29) 71 dX3_doPart_29 (by decide) (fun zc29 => ?_) (fun zc29 => ?_)
    · refine ab_lconst (pc := 71) (v := 0) dX3_doPart_71 (by decide) ?_
      exact ab_retl (pc := 72) dX3_doPart_72 rfl ⟨_, rfl, (by constructor <;> rw [c_partL, if_pos zc29]; exact c_way0.symm)⟩
    · have ha2 : a < zE := by
        rcases Nat.lt_or_ge a zE with q | q
        · exact q
        · exact absurd (nI_le q (by omega)) zc29
      have hx : vp_in (nI a) 60 := vp_in_nI (by omega) (by omega)
      obtain ⟨i1, k1, z1, st1, sc1, co1⟩ := hIN h (nI a) hi hx hc
      obtain ⟨b, hb, eb⟩ := vp_in_of ((i1.1 w hw).2 (nI a).toNatClampNeg (vp_lt hx)).2.2 (by omega)
      refine ab_aload_n (pc := 32) dX3_doPart_32 rfl rfl ?_
      refine ab_aload_n (pc := 33) dX3_doPart_33 rfl rfl ?_
      refine ab_iload (pc := 34) dX3_doPart_34 rfl ?_
      refine ab_iload_n (pc := 36) dX3_doPart_36 rfl rfl ?_
      refine ab_V3 (pc := 37) dX3_doPart_37 mvX3_141 rfl rfl (hN _ _ hi hx hc) (ab_kl fun r37 h37 e37 => ?_)
      obtain ⟨rfl, rfl⟩ := And.intro e37.1.symm e37.2.symm
      refine ab_lstore (pc := 40) dX3_doPart_40 rfl ?_
      refine ab_lload (pc := 42) dX3_doPart_42 rfl ?_
      refine ab_lconst (pc := 44) (v := 0) dX3_doPart_44 (by decide) ?_
      refine ab_lcmp (pc := 45) dX3_doPart_45 ?_
      refine ab_if_eq (pc := 46) 52 dX3_doPart_46 (by decide) (fun zc46 => ?_) (fun zc46 => ?_)
      · refine ab_iload (pc := 52) dX3_doPart_52 rfl ?_
        refine ab_aload_n (pc := 54) dX3_doPart_54 rfl rfl ?_
        refine ab_getr (pc := 55) dX3_doPart_55 fX3_144 (layC_o w hw) rfl ?_
        refine ab_iload (pc := 58) dX3_doPart_58 rfl ?_
        refine ab_iald (pc := 60) dX3_doPart_60 (layC_5 w hw) hx ?_
        rw [eb]
        refine ab_max (pc := 61) dX3_doPart_61 (by decide +kernel) (by decide +kernel) (by decide +kernel) (by decide +kernel) rfl ?_
        refine ab_iconst (pc := 64) (v := 1) dX3_doPart_64 (by decide) ?_
        refine ab_iadd (pc := 65) dX3_doPart_65 ?_
        refine ab_istore (pc := 66) dX3_doPart_66 rfl ?_
        refine ab_goto (pc := 68) 25 dX3_doPart_68 (by decide) ?_
        refine ab_weak [(0, ab_R 0), (1, ab_R (8 * w + 14)), (3, ab_I deep), (4, ab_I (nI zE)), (5, ab_I (c_max (nI a) (nI b) + 1))] ⟨rfl, rfl, rfl, rfl, rfl, trivial⟩ ?_
        rw [c_partL, if_neg zc29, if_pos ((c_cmp k1 z1).mp zc46), eb, c_max_next (by omega) hb]
        exact ih (max a b + 1) _ i1 co1 (by omega) (by omega)
      · refine ab_lload (pc := 49) dX3_doPart_49 rfl ?_
        exact ab_retl (pc := 51) dX3_doPart_51 rfl ⟨_, rfl, (by constructor <;> rw [c_partL, if_neg zc29, if_neg (fun q => zc46 ((c_cmp k1 z1).mpr q))])⟩
set_option maxRecDepth 100000 in
set_option maxHeartbeats 300000 in
theorem kX3_doPart {l : Launch} {d : Nat} {h : ab_H} {N : Nat} {P : c_PT} {w : Nat} {part deep : Int32} (hpre : c_pre N h w part) (hN : ∀ (h : ab_H) (x : Int32), c_inv h → vp_in x 60 → c_cost N h → ab_C l layC (d + 8) mX3_doNode [ab_R 0, ab_R (8 * w + 14), ab_I x, ab_I deep] h (ab_ql fun z h' => z = c_way (c_node P h w x deep).1 (c_node P h w x deep).2.1 ∧ h' = (c_node P h w x deep).2.2)) (hIN : ∀ (h : ab_H) (x : Int32), c_inv h → vp_in x 60 → c_cost N h → c_post N h (c_node P h w x deep)) : ab_C l layC (d + 9) mX3_doPart [ab_R 0, ab_R (8 * w + 14), ab_I part, ab_I deep] h (ab_ql fun z h' => z = c_way (c_part P h w part deep).1 (c_part P h w part deep).2.1 ∧ h' = (c_part P h w part deep).2.2) := by
  refine ab_enter (by decide) (Nat.le_of_ble_eq_true rfl) ?_
  obtain ⟨hi, hw, hpt, hc⟩ := hpre
  refine ab_iload_n (pc := 0) dX3_doPart_0 rfl rfl ?_
  refine ab_iconst (pc := 1) (v := (-1)) dX3_doPart_1 (by decide) ?_
  refine ab_icmp_ne (pc := 2) 12 dX3_doPart_2 (by decide) (fun zc2 => ?_) (fun zc2 => ?_)
  · have hx : vp_in part 60 := hpt.resolve_left zc2
    refine ab_aload_n (pc := 12) dX3_doPart_12 rfl rfl ?_
    refine ab_getr (pc := 13) dX3_doPart_13 fX3_138 (layC_o w hw) rfl ?_
    refine ab_iload_n (pc := 16) dX3_doPart_16 rfl rfl ?_
    refine ab_iald (pc := 17) dX3_doPart_17 (layC_4 w hw) hx ?_
    refine ab_istore (pc := 18) dX3_doPart_18 rfl ?_
    first
      | rw [ez]
      | (obtain ⟨zE, hz0, ez⟩ := vp_in_of (c_pe hi hw hx) (by omega)
         have hz : zE ≤ 60 := by omega
         rw [ez])
    refine ab_iload_n (pc := 20) dX3_doPart_20 rfl rfl ?_
    refine ab_iconst (pc := 21) (v := 1) dX3_doPart_21 (by decide) ?_
    refine ab_iadd (pc := 22) dX3_doPart_22 ?_
    refine ab_istore (pc := 23) dX3_doPart_23 rfl ?_
    first
      | (obtain ⟨p, hp, ep⟩ := vp_in_of hx (by omega)
         refine ab_weak [(0, ab_R 0), (1, ab_R (8 * w + 14)), (3, ab_I deep), (4, ab_I (nI zE)), (5, ab_I (part + 1))] ⟨rfl, rfl, rfl, rfl, rfl, trivial⟩ ?_
         rw [c_part, if_neg zc2, ez, show part + 1 = nI (p + 1) by rw [ep, nI_1]]
         exact lpX3_doPart hw hz hN hIN 61 (p + 1) h hi hc (by omega) (by omega))
      | (refine ab_weak [(0, ab_R 0), (1, ab_R (8 * w + 14)), (3, ab_I deep), (4, ab_I (nI zE)), (5, ab_I (part + 1))] ⟨rfl, rfl, rfl, rfl, rfl, trivial⟩ ?_
         rw [c_part, if_pos zc2, ez, show part + 1 = nI 0 by rw [zc2]; rfl]
         exact lpX3_doPart hw hz hN hIN 61 0 h hi hc (by omega) (by omega))
  · obtain ⟨zE, hz, ez⟩ := (hi.1 w hw).1
    refine ab_aload_n (pc := 5) dX3_doPart_5 rfl rfl ?_
    refine ab_geti (pc := 6) dX3_doPart_6 fX3_63 (layC_o w hw) rfl ?_
    refine ab_goto (pc := 9) 18 dX3_doPart_9 (by decide) ?_
    refine ab_istore (pc := 18) dX3_doPart_18 rfl ?_
    first
      | rw [ez]
      | (obtain ⟨zE, hz0, ez⟩ := vp_in_of (c_pe hi hw hx) (by omega)
         have hz : zE ≤ 60 := by omega
         rw [ez])
    refine ab_iload_n (pc := 20) dX3_doPart_20 rfl rfl ?_
    refine ab_iconst (pc := 21) (v := 1) dX3_doPart_21 (by decide) ?_
    refine ab_iadd (pc := 22) dX3_doPart_22 ?_
    refine ab_istore (pc := 23) dX3_doPart_23 rfl ?_
    first
      | (obtain ⟨p, hp, ep⟩ := vp_in_of hx (by omega)
         refine ab_weak [(0, ab_R 0), (1, ab_R (8 * w + 14)), (3, ab_I deep), (4, ab_I (nI zE)), (5, ab_I (part + 1))] ⟨rfl, rfl, rfl, rfl, rfl, trivial⟩ ?_
         rw [c_part, if_neg zc2, ez, show part + 1 = nI (p + 1) by rw [ep, nI_1]]
         exact lpX3_doPart hw hz hN hIN 61 (p + 1) h hi hc (by omega) (by omega))
      | (refine ab_weak [(0, ab_R 0), (1, ab_R (8 * w + 14)), (3, ab_I deep), (4, ab_I (nI zE)), (5, ab_I (part + 1))] ⟨rfl, rfl, rfl, rfl, rfl, trivial⟩ ?_
         rw [c_part, if_pos zc2, ez, show part + 1 = nI 0 by rw [zc2]; rfl]
         exact lpX3_doPart hw hz hN hIN 61 0 h hi hc (by omega) (by omega))
