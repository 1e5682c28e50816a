/-! the reference's blocks: what begins, what ends -/
theorem m_catch_f {h : ab_H} {o c : Int32} (q : ¬ h 21 o.toNatClampNeg = 0 ∨ ¬ h 0 41 = 1 ∨ c < 0 ∨ (h 3 (h 19 o.toNatClampNeg).toNatClampNeg >>> (h 0 21 &&& 31)) &&& 1 = 0) : ¬ m_catch h o c = true := by
  intro e
  simp only [m_catch, Bool.and_eq_true, decide_eq_true_eq] at e
  rcases q with q | q | q | q
  · exact q e.1
  · exact q e.2.1
  · exact e.2.2.1 q
  · exact e.2.2.2 q
theorem m_catch_t {h : ab_H} {o c : Int32} (q1 : h 21 o.toNatClampNeg = 0) (q2 : h 0 41 = 1) (q3 : ¬ c < 0) (q4 : ¬ (h 3 (h 19 o.toNatClampNeg).toNatClampNeg >>> (h 0 21 &&& 31)) &&& 1 = 0) : m_catch h o c = true := by
  simp only [m_catch, Bool.and_eq_true, decide_eq_true_eq]
  exact ⟨q1, q2, q3, q4⟩
set_option maxRecDepth 100000 in
set_option maxHeartbeats 4000000 in
theorem kX4_tried {l : Launch} {d : Nat} {h : ab_H} {o c f : Int32} (ho : vp_in o 80) (ho1 : vp_in (h 0 39 - 1) 80) (hhd : vp_in (h 19 o.toNatClampNeg) 480) (hc : ¬ h 21 o.toNatClampNeg = 2 → m_partE (h 1) (h 19 o.toNatClampNeg) 11 = some c) (hf : ¬ h 21 o.toNatClampNeg = 2 → m_partE (h 1) (h 19 o.toNatClampNeg) 12 = some f) : ab_C l layM (d + 3) mX4_tried [ab_R 0, ab_I o] h (ab_qv fun h' => h' = m_tried h o (m_partR (h 1) 11 c) (m_partR (h 1) 12 f)) := by
  refine ab_enter (by decide) (Nat.le_of_ble_eq_true rfl) ?_
  refine ab_aload_n (pc := 0) dX4_tried_0 rfl rfl ?_
  refine ab_getr (pc := 1) dX4_tried_1 fX4_71 rfl rfl ?_
  refine ab_iload_n (pc := 4) dX4_tried_4 rfl rfl ?_
  refine ab_iald (pc := 5) dX4_tried_5 rfl ho ?_
  refine ab_istore_n (pc := 6) dX4_tried_6 rfl rfl ?_
  refine ab_aload_n (pc := 7) dX4_tried_7 rfl rfl ?_
  refine ab_getr (pc := 8) dX4_tried_8 fX4_77 rfl rfl ?_
  refine ab_iload_n (pc := 11) dX4_tried_11 rfl rfl ?_
  refine ab_iald (pc := 12) dX4_tried_12 rfl ho ?_
  refine ab_iconst (pc := 13) (v := 2) dX4_tried_13 (by decide) ?_
  refine ab_icmp_ne (pc := 14) 59 dX4_tried_14 (by decide) (fun c14 => ?_) (fun c14 => ?_)
  · refine ab_aload_n (pc := 59) dX4_tried_59 rfl rfl ?_
    refine ab_iload_n (pc := 60) dX4_tried_60 rfl rfl ?_
    refine ab_bipush (pc := 61) (v := 11) dX4_tried_61 (by decide) ?_
    refine ab_V2 (pc := 63) dX4_tried_63 mvX4_186 rfl rfl (kX4_partOf (hc c14)) (ab_ki fun r63 h63 e63 => ?_)
    obtain ⟨rfl, rfl⟩ := And.intro e63.1.symm e63.2.symm
    refine ab_istore_n (pc := 66) dX4_tried_66 rfl rfl ?_
    refine ab_aload_n (pc := 67) dX4_tried_67 rfl rfl ?_
    refine ab_getr (pc := 68) dX4_tried_68 fX4_77 rfl rfl ?_
    refine ab_iload_n (pc := 71) dX4_tried_71 rfl rfl ?_
    refine ab_iald (pc := 72) dX4_tried_72 rfl ho ?_
    refine ab_topi (by (try simp only [ab_rd, ab_rdA, Nat.reduceEqDiff, reduceIte]); exact rfl) ?_
    refine ab_if_ne (pc := 73) 135 dX4_tried_73 (by decide) (fun c73 => ?_) (fun c73 => ?_)
    · refine ab_aload_n (pc := 135) dX4_tried_135 rfl rfl ?_
      refine ab_iload_n (pc := 136) dX4_tried_136 rfl rfl ?_
      refine ab_bipush (pc := 137) (v := 12) dX4_tried_137 (by decide) ?_
      refine ab_V2 (pc := 139) dX4_tried_139 mvX4_186 rfl rfl (kX4_partOf (hf c14)) (ab_ki fun r139 h139 e139 => ?_)
      obtain ⟨rfl, rfl⟩ := And.intro e139.1.symm e139.2.symm
      refine ab_istore (pc := 142) dX4_tried_142 rfl ?_
      refine ab_iload (pc := 144) dX4_tried_144 rfl ?_
      refine ab_if_lt (pc := 146) 157 dX4_tried_146 (by decide) (fun c146 => ?_) (fun c146 => ?_)
      · refine ab_aload_n (pc := 157) dX4_tried_157 rfl rfl ?_
        refine ab_V0 (pc := 158) dX4_tried_158 mvX4_190 rfl rfl (kX4_leave ho1) (ab_kv fun h158 e158 => ?_)
        obtain rfl := e158.symm
        exact ab_retv (pc := 161) dX4_tried_161 rfl ⟨rfl, (by rw [m_tried, if_neg c14, if_neg (m_catch_f (by first | exact Or.inl c73 | exact Or.inr (Or.inl c81) | exact Or.inr (Or.inr (Or.inl c85)) | exact Or.inr (Or.inr (Or.inr c101)))), if_pos (by first | exact Or.inl c146 | exact Or.inr c154)])⟩
      · refine ab_aload_n (pc := 149) dX4_tried_149 rfl rfl ?_
        refine ab_geti (pc := 150) dX4_tried_150 fX4_197 rfl rfl ?_
        refine ab_topi (by (try simp only [ab_rd, ab_rdA, Nat.reduceEqDiff, reduceIte]); exact rfl) ?_
        refine ab_iconst (pc := 153) (v := 3) dX4_tried_153 (by decide) ?_
        refine ab_icmp_ne (pc := 154) 162 dX4_tried_154 (by decide) (fun c154 => ?_) (fun c154 => ?_)
        · refine ab_aload_n (pc := 162) dX4_tried_162 rfl rfl ?_
          refine ab_getr (pc := 163) dX4_tried_163 fX4_83 rfl rfl ?_
          refine ab_iload_n (pc := 166) dX4_tried_166 rfl rfl ?_
          refine ab_aload_n (pc := 167) dX4_tried_167 rfl rfl ?_
          refine ab_geti (pc := 168) dX4_tried_168 fX4_197 rfl rfl ?_
          refine ab_topi (by (try simp only [ab_rd, ab_rdA, Nat.reduceEqDiff, reduceIte]); exact rfl) ?_
          refine ab_iast (pc := 171) dX4_tried_171 rfl ho ?_
          refine ab_aload_n (pc := 172) dX4_tried_172 rfl rfl ?_
          refine ab_getr (pc := 173) dX4_tried_173 fX4_86 rfl rfl ?_
          refine ab_iload_n (pc := 176) dX4_tried_176 rfl rfl ?_
          refine ab_aload_n (pc := 177) dX4_tried_177 rfl rfl ?_
          refine ab_geti (pc := 178) dX4_tried_178 fX4_142 rfl rfl ?_
          refine ab_topi (by (try simp only [ab_rd, ab_rdA, Nat.reduceEqDiff, reduceIte]); exact rfl) ?_
          refine ab_iast (pc := 181) dX4_tried_181 rfl ho ?_
          refine ab_aload_n (pc := 182) dX4_tried_182 rfl rfl ?_
          refine ab_getr (pc := 183) dX4_tried_183 fX4_89 rfl rfl ?_
          refine ab_iload_n (pc := 186) dX4_tried_186 rfl rfl ?_
          refine ab_aload_n (pc := 187) dX4_tried_187 rfl rfl ?_
          refine ab_geti (pc := 188) dX4_tried_188 fX4_171 rfl rfl ?_
          refine ab_topi (by (try simp only [ab_rd, ab_rdA, Nat.reduceEqDiff, reduceIte]); exact rfl) ?_
          refine ab_iast (pc := 191) dX4_tried_191 rfl ho ?_
          refine ab_aload_n (pc := 192) dX4_tried_192 rfl rfl ?_
          refine ab_getr (pc := 193) dX4_tried_193 fX4_77 rfl rfl ?_
          refine ab_iload_n (pc := 196) dX4_tried_196 rfl rfl ?_
          refine ab_iconst (pc := 197) (v := 2) dX4_tried_197 (by decide) ?_
          refine ab_iast (pc := 198) dX4_tried_198 rfl ho ?_
          refine ab_aload_n (pc := 199) dX4_tried_199 rfl rfl ?_
          refine ab_iconst (pc := 200) (v := 0) dX4_tried_200 (by decide) ?_
          refine ab_puti (pc := 201) dX4_tried_201 fwX4_197 rfl rfl ?_
          refine ab_aload_n (pc := 204) dX4_tried_204 rfl rfl ?_
          refine ab_iload (pc := 205) dX4_tried_205 rfl ?_
          refine ab_iconst (pc := 207) (v := 1) dX4_tried_207 (by decide) ?_
          refine ab_iadd (pc := 208) dX4_tried_208 ?_
          refine ab_puti (pc := 209) dX4_tried_209 fwX4_174 rfl rfl ?_
          exact ab_retv (pc := 212) dX4_tried_212 rfl ⟨rfl, (by rw [m_tried, if_neg c14, if_neg (m_catch_f (by first | exact Or.inl c73 | exact Or.inr (Or.inl c81) | exact Or.inr (Or.inr (Or.inl c85)) | exact Or.inr (Or.inr (Or.inr c101)))), if_neg (fun q => q.elim c146 c154)])⟩
        · refine ab_aload_n (pc := 157) dX4_tried_157 rfl rfl ?_
          refine ab_V0 (pc := 158) dX4_tried_158 mvX4_190 rfl rfl (kX4_leave ho1) (ab_kv fun h158 e158 => ?_)
          obtain rfl := e158.symm
          exact ab_retv (pc := 161) dX4_tried_161 rfl ⟨rfl, (by rw [m_tried, if_neg c14, if_neg (m_catch_f (by first | exact Or.inl c73 | exact Or.inr (Or.inl c81) | exact Or.inr (Or.inr (Or.inl c85)) | exact Or.inr (Or.inr (Or.inr c101)))), if_pos (by first | exact Or.inl c146 | exact Or.inr c154)])⟩
    · refine ab_aload_n (pc := 76) dX4_tried_76 rfl rfl ?_
      refine ab_geti (pc := 77) dX4_tried_77 fX4_197 rfl rfl ?_
      refine ab_topi (by (try simp only [ab_rd, ab_rdA, Nat.reduceEqDiff, reduceIte]); exact rfl) ?_
      refine ab_iconst (pc := 80) (v := 1) dX4_tried_80 (by decide) ?_
      refine ab_icmp_ne (pc := 81) 135 dX4_tried_81 (by decide) (fun c81 => ?_) (fun c81 => ?_)
      · refine ab_aload_n (pc := 135) dX4_tried_135 rfl rfl ?_
        refine ab_iload_n (pc := 136) dX4_tried_136 rfl rfl ?_
        refine ab_bipush (pc := 137) (v := 12) dX4_tried_137 (by decide) ?_
        refine ab_V2 (pc := 139) dX4_tried_139 mvX4_186 rfl rfl (kX4_partOf (hf c14)) (ab_ki fun r139 h139 e139 => ?_)
        obtain ⟨rfl, rfl⟩ := And.intro e139.1.symm e139.2.symm
        refine ab_istore (pc := 142) dX4_tried_142 rfl ?_
        refine ab_iload (pc := 144) dX4_tried_144 rfl ?_
        refine ab_if_lt (pc := 146) 157 dX4_tried_146 (by decide) (fun c146 => ?_) (fun c146 => ?_)
        · refine ab_aload_n (pc := 157) dX4_tried_157 rfl rfl ?_
          refine ab_V0 (pc := 158) dX4_tried_158 mvX4_190 rfl rfl (kX4_leave ho1) (ab_kv fun h158 e158 => ?_)
          obtain rfl := e158.symm
          exact ab_retv (pc := 161) dX4_tried_161 rfl ⟨rfl, (by rw [m_tried, if_neg c14, if_neg (m_catch_f (by first | exact Or.inl c73 | exact Or.inr (Or.inl c81) | exact Or.inr (Or.inr (Or.inl c85)) | exact Or.inr (Or.inr (Or.inr c101)))), if_pos (by first | exact Or.inl c146 | exact Or.inr c154)])⟩
        · refine ab_aload_n (pc := 149) dX4_tried_149 rfl rfl ?_
          refine ab_geti (pc := 150) dX4_tried_150 fX4_197 rfl rfl ?_
          refine ab_topi (by (try simp only [ab_rd, ab_rdA, Nat.reduceEqDiff, reduceIte]); exact rfl) ?_
          refine ab_iconst (pc := 153) (v := 3) dX4_tried_153 (by decide) ?_
          refine ab_icmp_ne (pc := 154) 162 dX4_tried_154 (by decide) (fun c154 => ?_) (fun c154 => ?_)
          · refine ab_aload_n (pc := 162) dX4_tried_162 rfl rfl ?_
            refine ab_getr (pc := 163) dX4_tried_163 fX4_83 rfl rfl ?_
            refine ab_iload_n (pc := 166) dX4_tried_166 rfl rfl ?_
            refine ab_aload_n (pc := 167) dX4_tried_167 rfl rfl ?_
            refine ab_geti (pc := 168) dX4_tried_168 fX4_197 rfl rfl ?_
            refine ab_topi (by (try simp only [ab_rd, ab_rdA, Nat.reduceEqDiff, reduceIte]); exact rfl) ?_
            refine ab_iast (pc := 171) dX4_tried_171 rfl ho ?_
            refine ab_aload_n (pc := 172) dX4_tried_172 rfl rfl ?_
            refine ab_getr (pc := 173) dX4_tried_173 fX4_86 rfl rfl ?_
            refine ab_iload_n (pc := 176) dX4_tried_176 rfl rfl ?_
            refine ab_aload_n (pc := 177) dX4_tried_177 rfl rfl ?_
            refine ab_geti (pc := 178) dX4_tried_178 fX4_142 rfl rfl ?_
            refine ab_topi (by (try simp only [ab_rd, ab_rdA, Nat.reduceEqDiff, reduceIte]); exact rfl) ?_
            refine ab_iast (pc := 181) dX4_tried_181 rfl ho ?_
            refine ab_aload_n (pc := 182) dX4_tried_182 rfl rfl ?_
            refine ab_getr (pc := 183) dX4_tried_183 fX4_89 rfl rfl ?_
            refine ab_iload_n (pc := 186) dX4_tried_186 rfl rfl ?_
            refine ab_aload_n (pc := 187) dX4_tried_187 rfl rfl ?_
            refine ab_geti (pc := 188) dX4_tried_188 fX4_171 rfl rfl ?_
            refine ab_topi (by (try simp only [ab_rd, ab_rdA, Nat.reduceEqDiff, reduceIte]); exact rfl) ?_
            refine ab_iast (pc := 191) dX4_tried_191 rfl ho ?_
            refine ab_aload_n (pc := 192) dX4_tried_192 rfl rfl ?_
            refine ab_getr (pc := 193) dX4_tried_193 fX4_77 rfl rfl ?_
            refine ab_iload_n (pc := 196) dX4_tried_196 rfl rfl ?_
            refine ab_iconst (pc := 197) (v := 2) dX4_tried_197 (by decide) ?_
            refine ab_iast (pc := 198) dX4_tried_198 rfl ho ?_
            refine ab_aload_n (pc := 199) dX4_tried_199 rfl rfl ?_
            refine ab_iconst (pc := 200) (v := 0) dX4_tried_200 (by decide) ?_
            refine ab_puti (pc := 201) dX4_tried_201 fwX4_197 rfl rfl ?_
            refine ab_aload_n (pc := 204) dX4_tried_204 rfl rfl ?_
            refine ab_iload (pc := 205) dX4_tried_205 rfl ?_
            refine ab_iconst (pc := 207) (v := 1) dX4_tried_207 (by decide) ?_
            refine ab_iadd (pc := 208) dX4_tried_208 ?_
            refine ab_puti (pc := 209) dX4_tried_209 fwX4_174 rfl rfl ?_
            exact ab_retv (pc := 212) dX4_tried_212 rfl ⟨rfl, (by rw [m_tried, if_neg c14, if_neg (m_catch_f (by first | exact Or.inl c73 | exact Or.inr (Or.inl c81) | exact Or.inr (Or.inr (Or.inl c85)) | exact Or.inr (Or.inr (Or.inr c101)))), if_neg (fun q => q.elim c146 c154)])⟩
          · refine ab_aload_n (pc := 157) dX4_tried_157 rfl rfl ?_
            refine ab_V0 (pc := 158) dX4_tried_158 mvX4_190 rfl rfl (kX4_leave ho1) (ab_kv fun h158 e158 => ?_)
            obtain rfl := e158.symm
            exact ab_retv (pc := 161) dX4_tried_161 rfl ⟨rfl, (by rw [m_tried, if_neg c14, if_neg (m_catch_f (by first | exact Or.inl c73 | exact Or.inr (Or.inl c81) | exact Or.inr (Or.inr (Or.inl c85)) | exact Or.inr (Or.inr (Or.inr c101)))), if_pos (by first | exact Or.inl c146 | exact Or.inr c154)])⟩
      · refine ab_iload_n (pc := 84) dX4_tried_84 rfl rfl ?_
        refine ab_if_lt (pc := 85) 135 dX4_tried_85 (by decide) (fun c85 => ?_) (fun c85 => ?_)
        · refine ab_aload_n (pc := 135) dX4_tried_135 rfl rfl ?_
          refine ab_iload_n (pc := 136) dX4_tried_136 rfl rfl ?_
          refine ab_bipush (pc := 137) (v := 12) dX4_tried_137 (by decide) ?_
          refine ab_V2 (pc := 139) dX4_tried_139 mvX4_186 rfl rfl (kX4_partOf (hf c14)) (ab_ki fun r139 h139 e139 => ?_)
          obtain ⟨rfl, rfl⟩ := And.intro e139.1.symm e139.2.symm
          refine ab_istore (pc := 142) dX4_tried_142 rfl ?_
          refine ab_iload (pc := 144) dX4_tried_144 rfl ?_
          refine ab_if_lt (pc := 146) 157 dX4_tried_146 (by decide) (fun c146 => ?_) (fun c146 => ?_)
          · refine ab_aload_n (pc := 157) dX4_tried_157 rfl rfl ?_
            refine ab_V0 (pc := 158) dX4_tried_158 mvX4_190 rfl rfl (kX4_leave ho1) (ab_kv fun h158 e158 => ?_)
            obtain rfl := e158.symm
            exact ab_retv (pc := 161) dX4_tried_161 rfl ⟨rfl, (by rw [m_tried, if_neg c14, if_neg (m_catch_f (by first | exact Or.inl c73 | exact Or.inr (Or.inl c81) | exact Or.inr (Or.inr (Or.inl c85)) | exact Or.inr (Or.inr (Or.inr c101)))), if_pos (by first | exact Or.inl c146 | exact Or.inr c154)])⟩
          · refine ab_aload_n (pc := 149) dX4_tried_149 rfl rfl ?_
            refine ab_geti (pc := 150) dX4_tried_150 fX4_197 rfl rfl ?_
            refine ab_topi (by (try simp only [ab_rd, ab_rdA, Nat.reduceEqDiff, reduceIte]); exact rfl) ?_
            refine ab_iconst (pc := 153) (v := 3) dX4_tried_153 (by decide) ?_
            refine ab_icmp_ne (pc := 154) 162 dX4_tried_154 (by decide) (fun c154 => ?_) (fun c154 => ?_)
            · refine ab_aload_n (pc := 162) dX4_tried_162 rfl rfl ?_
              refine ab_getr (pc := 163) dX4_tried_163 fX4_83 rfl rfl ?_
              refine ab_iload_n (pc := 166) dX4_tried_166 rfl rfl ?_
              refine ab_aload_n (pc := 167) dX4_tried_167 rfl rfl ?_
              refine ab_geti (pc := 168) dX4_tried_168 fX4_197 rfl rfl ?_
              refine ab_topi (by (try simp only [ab_rd, ab_rdA, Nat.reduceEqDiff, reduceIte]); exact rfl) ?_
              refine ab_iast (pc := 171) dX4_tried_171 rfl ho ?_
              refine ab_aload_n (pc := 172) dX4_tried_172 rfl rfl ?_
              refine ab_getr (pc := 173) dX4_tried_173 fX4_86 rfl rfl ?_
              refine ab_iload_n (pc := 176) dX4_tried_176 rfl rfl ?_
              refine ab_aload_n (pc := 177) dX4_tried_177 rfl rfl ?_
              refine ab_geti (pc := 178) dX4_tried_178 fX4_142 rfl rfl ?_
              refine ab_topi (by (try simp only [ab_rd, ab_rdA, Nat.reduceEqDiff, reduceIte]); exact rfl) ?_
              refine ab_iast (pc := 181) dX4_tried_181 rfl ho ?_
              refine ab_aload_n (pc := 182) dX4_tried_182 rfl rfl ?_
              refine ab_getr (pc := 183) dX4_tried_183 fX4_89 rfl rfl ?_
              refine ab_iload_n (pc := 186) dX4_tried_186 rfl rfl ?_
              refine ab_aload_n (pc := 187) dX4_tried_187 rfl rfl ?_
              refine ab_geti (pc := 188) dX4_tried_188 fX4_171 rfl rfl ?_
              refine ab_topi (by (try simp only [ab_rd, ab_rdA, Nat.reduceEqDiff, reduceIte]); exact rfl) ?_
              refine ab_iast (pc := 191) dX4_tried_191 rfl ho ?_
              refine ab_aload_n (pc := 192) dX4_tried_192 rfl rfl ?_
              refine ab_getr (pc := 193) dX4_tried_193 fX4_77 rfl rfl ?_
              refine ab_iload_n (pc := 196) dX4_tried_196 rfl rfl ?_
              refine ab_iconst (pc := 197) (v := 2) dX4_tried_197 (by decide) ?_
              refine ab_iast (pc := 198) dX4_tried_198 rfl ho ?_
              refine ab_aload_n (pc := 199) dX4_tried_199 rfl rfl ?_
              refine ab_iconst (pc := 200) (v := 0) dX4_tried_200 (by decide) ?_
              refine ab_puti (pc := 201) dX4_tried_201 fwX4_197 rfl rfl ?_
              refine ab_aload_n (pc := 204) dX4_tried_204 rfl rfl ?_
              refine ab_iload (pc := 205) dX4_tried_205 rfl ?_
              refine ab_iconst (pc := 207) (v := 1) dX4_tried_207 (by decide) ?_
              refine ab_iadd (pc := 208) dX4_tried_208 ?_
              refine ab_puti (pc := 209) dX4_tried_209 fwX4_174 rfl rfl ?_
              exact ab_retv (pc := 212) dX4_tried_212 rfl ⟨rfl, (by rw [m_tried, if_neg c14, if_neg (m_catch_f (by first | exact Or.inl c73 | exact Or.inr (Or.inl c81) | exact Or.inr (Or.inr (Or.inl c85)) | exact Or.inr (Or.inr (Or.inr c101)))), if_neg (fun q => q.elim c146 c154)])⟩
            · refine ab_aload_n (pc := 157) dX4_tried_157 rfl rfl ?_
              refine ab_V0 (pc := 158) dX4_tried_158 mvX4_190 rfl rfl (kX4_leave ho1) (ab_kv fun h158 e158 => ?_)
              obtain rfl := e158.symm
              exact ab_retv (pc := 161) dX4_tried_161 rfl ⟨rfl, (by rw [m_tried, if_neg c14, if_neg (m_catch_f (by first | exact Or.inl c73 | exact Or.inr (Or.inl c81) | exact Or.inr (Or.inr (Or.inl c85)) | exact Or.inr (Or.inr (Or.inr c101)))), if_pos (by first | exact Or.inl c146 | exact Or.inr c154)])⟩
        · refine ab_aload_n (pc := 88) dX4_tried_88 rfl rfl ?_
          refine ab_getr (pc := 89) dX4_tried_89 fX4_16 rfl rfl ?_
          refine ab_iload_n (pc := 92) dX4_tried_92 rfl rfl ?_
          refine ab_iald (pc := 93) dX4_tried_93 rfl hhd ?_
          refine ab_topi (by (try simp only [ab_rd, ab_rdA, Nat.reduceEqDiff, reduceIte]); exact rfl) ?_
          refine ab_aload_n (pc := 94) dX4_tried_94 rfl rfl ?_
          refine ab_geti (pc := 95) dX4_tried_95 fX4_142 rfl rfl ?_
          refine ab_topi (by (try simp only [ab_rd, ab_rdA, Nat.reduceEqDiff, reduceIte]); exact rfl) ?_
          refine ab_ishr (pc := 98) dX4_tried_98 ?_
          refine ab_iconst (pc := 99) (v := 1) dX4_tried_99 (by decide) ?_
          refine ab_iand (pc := 100) dX4_tried_100 ?_
          refine ab_if_eq (pc := 101) 135 dX4_tried_101 (by decide) (fun c101 => ?_) (fun c101 => ?_)
          · refine ab_aload_n (pc := 135) dX4_tried_135 rfl rfl ?_
            refine ab_iload_n (pc := 136) dX4_tried_136 rfl rfl ?_
            refine ab_bipush (pc := 137) (v := 12) dX4_tried_137 (by decide) ?_
            refine ab_V2 (pc := 139) dX4_tried_139 mvX4_186 rfl rfl (kX4_partOf (hf c14)) (ab_ki fun r139 h139 e139 => ?_)
            obtain ⟨rfl, rfl⟩ := And.intro e139.1.symm e139.2.symm
            refine ab_istore (pc := 142) dX4_tried_142 rfl ?_
            refine ab_iload (pc := 144) dX4_tried_144 rfl ?_
            refine ab_if_lt (pc := 146) 157 dX4_tried_146 (by decide) (fun c146 => ?_) (fun c146 => ?_)
            · refine ab_aload_n (pc := 157) dX4_tried_157 rfl rfl ?_
              refine ab_V0 (pc := 158) dX4_tried_158 mvX4_190 rfl rfl (kX4_leave ho1) (ab_kv fun h158 e158 => ?_)
              obtain rfl := e158.symm
              exact ab_retv (pc := 161) dX4_tried_161 rfl ⟨rfl, (by rw [m_tried, if_neg c14, if_neg (m_catch_f (by first | exact Or.inl c73 | exact Or.inr (Or.inl c81) | exact Or.inr (Or.inr (Or.inl c85)) | exact Or.inr (Or.inr (Or.inr c101)))), if_pos (by first | exact Or.inl c146 | exact Or.inr c154)])⟩
            · refine ab_aload_n (pc := 149) dX4_tried_149 rfl rfl ?_
              refine ab_geti (pc := 150) dX4_tried_150 fX4_197 rfl rfl ?_
              refine ab_topi (by (try simp only [ab_rd, ab_rdA, Nat.reduceEqDiff, reduceIte]); exact rfl) ?_
              refine ab_iconst (pc := 153) (v := 3) dX4_tried_153 (by decide) ?_
              refine ab_icmp_ne (pc := 154) 162 dX4_tried_154 (by decide) (fun c154 => ?_) (fun c154 => ?_)
              · refine ab_aload_n (pc := 162) dX4_tried_162 rfl rfl ?_
                refine ab_getr (pc := 163) dX4_tried_163 fX4_83 rfl rfl ?_
                refine ab_iload_n (pc := 166) dX4_tried_166 rfl rfl ?_
                refine ab_aload_n (pc := 167) dX4_tried_167 rfl rfl ?_
                refine ab_geti (pc := 168) dX4_tried_168 fX4_197 rfl rfl ?_
                refine ab_topi (by (try simp only [ab_rd, ab_rdA, Nat.reduceEqDiff, reduceIte]); exact rfl) ?_
                refine ab_iast (pc := 171) dX4_tried_171 rfl ho ?_
                refine ab_aload_n (pc := 172) dX4_tried_172 rfl rfl ?_
                refine ab_getr (pc := 173) dX4_tried_173 fX4_86 rfl rfl ?_
                refine ab_iload_n (pc := 176) dX4_tried_176 rfl rfl ?_
                refine ab_aload_n (pc := 177) dX4_tried_177 rfl rfl ?_
                refine ab_geti (pc := 178) dX4_tried_178 fX4_142 rfl rfl ?_
                refine ab_topi (by (try simp only [ab_rd, ab_rdA, Nat.reduceEqDiff, reduceIte]); exact rfl) ?_
                refine ab_iast (pc := 181) dX4_tried_181 rfl ho ?_
                refine ab_aload_n (pc := 182) dX4_tried_182 rfl rfl ?_
                refine ab_getr (pc := 183) dX4_tried_183 fX4_89 rfl rfl ?_
                refine ab_iload_n (pc := 186) dX4_tried_186 rfl rfl ?_
                refine ab_aload_n (pc := 187) dX4_tried_187 rfl rfl ?_
                refine ab_geti (pc := 188) dX4_tried_188 fX4_171 rfl rfl ?_
                refine ab_topi (by (try simp only [ab_rd, ab_rdA, Nat.reduceEqDiff, reduceIte]); exact rfl) ?_
                refine ab_iast (pc := 191) dX4_tried_191 rfl ho ?_
                refine ab_aload_n (pc := 192) dX4_tried_192 rfl rfl ?_
                refine ab_getr (pc := 193) dX4_tried_193 fX4_77 rfl rfl ?_
                refine ab_iload_n (pc := 196) dX4_tried_196 rfl rfl ?_
                refine ab_iconst (pc := 197) (v := 2) dX4_tried_197 (by decide) ?_
                refine ab_iast (pc := 198) dX4_tried_198 rfl ho ?_
                refine ab_aload_n (pc := 199) dX4_tried_199 rfl rfl ?_
                refine ab_iconst (pc := 200) (v := 0) dX4_tried_200 (by decide) ?_
                refine ab_puti (pc := 201) dX4_tried_201 fwX4_197 rfl rfl ?_
                refine ab_aload_n (pc := 204) dX4_tried_204 rfl rfl ?_
                refine ab_iload (pc := 205) dX4_tried_205 rfl ?_
                refine ab_iconst (pc := 207) (v := 1) dX4_tried_207 (by decide) ?_
                refine ab_iadd (pc := 208) dX4_tried_208 ?_
                refine ab_puti (pc := 209) dX4_tried_209 fwX4_174 rfl rfl ?_
                exact ab_retv (pc := 212) dX4_tried_212 rfl ⟨rfl, (by rw [m_tried, if_neg c14, if_neg (m_catch_f (by first | exact Or.inl c73 | exact Or.inr (Or.inl c81) | exact Or.inr (Or.inr (Or.inl c85)) | exact Or.inr (Or.inr (Or.inr c101)))), if_neg (fun q => q.elim c146 c154)])⟩
              · refine ab_aload_n (pc := 157) dX4_tried_157 rfl rfl ?_
                refine ab_V0 (pc := 158) dX4_tried_158 mvX4_190 rfl rfl (kX4_leave ho1) (ab_kv fun h158 e158 => ?_)
                obtain rfl := e158.symm
                exact ab_retv (pc := 161) dX4_tried_161 rfl ⟨rfl, (by rw [m_tried, if_neg c14, if_neg (m_catch_f (by first | exact Or.inl c73 | exact Or.inr (Or.inl c81) | exact Or.inr (Or.inr (Or.inl c85)) | exact Or.inr (Or.inr (Or.inr c101)))), if_pos (by first | exact Or.inl c146 | exact Or.inr c154)])⟩
          · refine ab_aload_n (pc := 104) dX4_tried_104 rfl rfl ?_
            refine ab_getr (pc := 105) dX4_tried_105 fX4_22 rfl rfl ?_
            refine ab_bipush (pc := 108) (v := 7) dX4_tried_108 (by decide) ?_
            refine ab_aload_n (pc := 110) dX4_tried_110 rfl rfl ?_
            refine ab_geti (pc := 111) dX4_tried_111 fX4_142 rfl rfl ?_
            refine ab_topi (by (try simp only [ab_rd, ab_rdA, Nat.reduceEqDiff, reduceIte]); exact rfl) ?_
            refine ab_iast (pc := 114) dX4_tried_114 rfl (show vp_in (nI 7) 8 from vp_in_nI (by omega) (by omega)) ?_
            refine ab_aload_n (pc := 115) dX4_tried_115 rfl rfl ?_
            refine ab_getr (pc := 116) dX4_tried_116 fX4_77 rfl rfl ?_
            refine ab_iload_n (pc := 119) dX4_tried_119 rfl rfl ?_
            refine ab_iconst (pc := 120) (v := 1) dX4_tried_120 (by decide) ?_
            refine ab_iast (pc := 121) dX4_tried_121 rfl ho ?_
            refine ab_aload_n (pc := 122) dX4_tried_122 rfl rfl ?_
            refine ab_iconst (pc := 123) (v := 0) dX4_tried_123 (by decide) ?_
            refine ab_puti (pc := 124) dX4_tried_124 fwX4_197 rfl rfl ?_
            refine ab_aload_n (pc := 127) dX4_tried_127 rfl rfl ?_
            refine ab_iload_n (pc := 128) dX4_tried_128 rfl rfl ?_
            refine ab_iconst (pc := 129) (v := 1) dX4_tried_129 (by decide) ?_
            refine ab_iadd (pc := 130) dX4_tried_130 ?_
            refine ab_puti (pc := 131) dX4_tried_131 fwX4_174 rfl rfl ?_
            exact ab_retv (pc := 134) dX4_tried_134 rfl ⟨rfl, (by rw [m_tried, if_neg c14, if_pos (m_catch_t c73 c81 c85 c101)]; rfl)⟩
  · refine ab_aload_n (pc := 17) dX4_tried_17 rfl rfl ?_
    refine ab_geti (pc := 18) dX4_tried_18 fX4_197 rfl rfl ?_
    refine ab_if_ne (pc := 21) 54 dX4_tried_21 (by decide) (fun c21 => ?_) (fun c21 => ?_)
    · refine ab_aload_n (pc := 54) dX4_tried_54 rfl rfl ?_
      refine ab_V0 (pc := 55) dX4_tried_55 mvX4_190 rfl rfl (kX4_leave ho1) (ab_kv fun h55 e55 => ?_)
      obtain rfl := e55.symm
      exact ab_retv (pc := 58) dX4_tried_58 rfl ⟨rfl, (by first | rw [m_tried, if_pos c14, if_pos c21] | rw [m_tried, if_pos c14, if_neg c21])⟩
    · refine ab_aload_n (pc := 24) dX4_tried_24 rfl rfl ?_
      refine ab_aload_n (pc := 25) dX4_tried_25 rfl rfl ?_
      refine ab_getr (pc := 26) dX4_tried_26 fX4_83 rfl rfl ?_
      refine ab_iload_n (pc := 29) dX4_tried_29 rfl rfl ?_
      refine ab_iald (pc := 30) dX4_tried_30 rfl ho ?_
      refine ab_puti (pc := 31) dX4_tried_31 fwX4_197 rfl rfl ?_
      refine ab_aload_n (pc := 34) dX4_tried_34 rfl rfl ?_
      refine ab_aload_n (pc := 35) dX4_tried_35 rfl rfl ?_
      refine ab_getr (pc := 36) dX4_tried_36 fX4_86 rfl rfl ?_
      refine ab_iload_n (pc := 39) dX4_tried_39 rfl rfl ?_
      refine ab_iald (pc := 40) dX4_tried_40 rfl ho ?_
      refine ab_topi (by (try simp only [ab_rd, ab_rdA, Nat.reduceEqDiff, reduceIte]); exact rfl) ?_
      refine ab_puti (pc := 41) dX4_tried_41 fwX4_142 rfl rfl ?_
      refine ab_aload_n (pc := 44) dX4_tried_44 rfl rfl ?_
      refine ab_aload_n (pc := 45) dX4_tried_45 rfl rfl ?_
      refine ab_getr (pc := 46) dX4_tried_46 fX4_89 rfl rfl ?_
      refine ab_iload_n (pc := 49) dX4_tried_49 rfl rfl ?_
      refine ab_iald (pc := 50) dX4_tried_50 rfl ho ?_
      refine ab_topi (by (try simp only [ab_rd, ab_rdA, Nat.reduceEqDiff, reduceIte]); exact rfl) ?_
      refine ab_puti (pc := 51) dX4_tried_51 fwX4_171 rfl rfl ?_
      refine ab_aload_n (pc := 54) dX4_tried_54 rfl rfl ?_
      refine ab_V0 (pc := 55) dX4_tried_55 mvX4_190 rfl rfl (kX4_leave ho1) (ab_kv fun h55 e55 => ?_)
      obtain rfl := e55.symm
      exact ab_retv (pc := 58) dX4_tried_58 rfl ⟨rfl, (by first | rw [m_tried, if_pos c14, if_pos c21] | rw [m_tried, if_pos c14, if_neg c21])⟩

set_option maxRecDepth 100000 in
set_option maxHeartbeats 4000000 in
theorem kX4_begin {l : Launch} {d : Nat} {h : ab_H} {s en q : Int32} (hop : vp_in (h 0 39) 80) (hat : vp_in (h 0 40) 480) (he : m_endOf (h 1) (h 0 40) = some en) (hsc : s = 14 → vp_in (h 0 30) 70) (hnm : s = 21 → vp_in (h 2 (h 0 40).toNatClampNeg) 8) (hp : s = 21 → m_partE (h 1) (h 0 40) 22 = some q) : ab_C l layM (d + 3) mX4_begin [ab_R 0, ab_I s] h (ab_qv fun h' => h' = m_begin h s en (m_partR (h 1) 22 q)) := by
  refine ab_enter (by decide) (Nat.le_of_ble_eq_true rfl) ?_
  have hop2 : vp_in (h 0 39 + 1 - 1) 80 := by rw [Int32.add_sub_cancel]; exact hop
  refine ab_aload_n (pc := 0) dX4_begin_0 rfl rfl ?_
  refine ab_iload_n (pc := 1) dX4_begin_1 rfl rfl ?_
  refine ab_aload_n (pc := 2) dX4_begin_2 rfl rfl ?_
  refine ab_geti (pc := 3) dX4_begin_3 fX4_174 rfl rfl ?_
  refine ab_aload_n (pc := 6) dX4_begin_6 rfl rfl ?_
  refine ab_aload_n (pc := 7) dX4_begin_7 rfl rfl ?_
  refine ab_geti (pc := 8) dX4_begin_8 fX4_174 rfl rfl ?_
  refine ab_V1 (pc := 11) dX4_begin_11 mvX4_177 rfl rfl (kX4_endOf he) (ab_ki fun r11 h11 e11 => ?_)
  obtain ⟨rfl, rfl⟩ := And.intro e11.1.symm e11.2.symm
  refine ab_V3 (pc := 14) dX4_begin_14 mvX4_180 rfl rfl (kX4_push hop) (ab_kv fun h14 e14 => ?_)
  obtain rfl := e14.symm
  refine ab_aload_n (pc := 17) dX4_begin_17 rfl rfl ?_
  refine ab_geti (pc := 18) dX4_begin_18 fX4_174 rfl rfl ?_
  refine ab_topi (by (try simp only [ab_rd, ab_rdA, Nat.reduceEqDiff, reduceIte, m_push, Int32.add_sub_cancel]); exact rfl) ?_
  refine ab_istore_n (pc := 21) dX4_begin_21 rfl rfl ?_
  refine ab_aload_n (pc := 22) dX4_begin_22 rfl rfl ?_
  refine ab_dup (pc := 23) dX4_begin_23 rfl ?_
  refine ab_geti (pc := 24) dX4_begin_24 fX4_174 rfl rfl ?_
  refine ab_topi (by (try simp only [ab_rd, ab_rdA, Nat.reduceEqDiff, reduceIte, m_push, Int32.add_sub_cancel]); exact rfl) ?_
  refine ab_iconst (pc := 27) (v := 1) dX4_begin_27 (by decide) ?_
  refine ab_iadd (pc := 28) dX4_begin_28 ?_
  refine ab_puti (pc := 29) dX4_begin_29 fwX4_174 rfl rfl ?_
  refine ab_iload_n (pc := 32) dX4_begin_32 rfl rfl ?_
  refine ab_bipush (pc := 33) (v := 13) dX4_begin_33 (by decide) ?_
  refine ab_icmp_ne (pc := 35) 62 dX4_begin_35 (by decide) (fun c35 => ?_) (fun c35 => ?_)
  · refine ab_iload_n (pc := 62) dX4_begin_62 rfl rfl ?_
    refine ab_bipush (pc := 63) (v := 14) dX4_begin_63 (by decide) ?_
    refine ab_icmp_ne (pc := 65) 94 dX4_begin_65 (by decide) (fun c65 => ?_) (fun c65 => ?_)
    · refine ab_iload_n (pc := 94) dX4_begin_94 rfl rfl ?_
      refine ab_bipush (pc := 95) (v := 21) dX4_begin_95 (by decide) ?_
      refine ab_icmp_ne (pc := 97) 147 dX4_begin_97 (by decide) (fun c97 => ?_) (fun c97 => ?_)
      · exact ab_retv (pc := 147) dX4_begin_147 rfl ⟨rfl, (by first | rw [m_begin, if_pos c35] | rw [m_begin, if_neg c35, if_pos c65] | rw [m_begin, if_neg c35, if_neg c65, if_neg (fun z => c97 z.1)] | rw [m_begin, if_neg c35, if_neg c65, if_neg (fun z => c111 z.2)] | rw [m_begin, if_neg c35, if_neg c65, if_pos ⟨c97, c111⟩, if_pos c124] | rw [m_begin, if_neg c35, if_neg c65, if_pos ⟨c97, c111⟩, if_neg c124])⟩
      · refine ab_aload_n (pc := 100) dX4_begin_100 rfl rfl ?_
        refine ab_getr (pc := 101) dX4_begin_101 fX4_22 rfl rfl ?_
        refine ab_aload_n (pc := 104) dX4_begin_104 rfl rfl ?_
        refine ab_getr (pc := 105) dX4_begin_105 fX4_13 rfl rfl ?_
        refine ab_iload_n (pc := 108) dX4_begin_108 rfl rfl ?_
        refine ab_iald (pc := 109) dX4_begin_109 rfl hat ?_
        refine ab_topi (by (try simp only [ab_rd, ab_rdA, Nat.reduceEqDiff, reduceIte, m_push, Int32.add_sub_cancel]); exact rfl) ?_
        refine ab_iald (pc := 110) dX4_begin_110 rfl (hnm c97) ?_
        refine ab_topi (by (try simp only [ab_rd, ab_rdA, Nat.reduceEqDiff, reduceIte, m_push, Int32.add_sub_cancel]); exact rfl) ?_
        refine ab_if_ne (pc := 111) 147 dX4_begin_111 (by decide) (fun c111 => ?_) (fun c111 => ?_)
        · exact ab_retv (pc := 147) dX4_begin_147 rfl ⟨rfl, (by first | rw [m_begin, if_pos c35] | rw [m_begin, if_neg c35, if_pos c65] | rw [m_begin, if_neg c35, if_neg c65, if_neg (fun z => c97 z.1)] | rw [m_begin, if_neg c35, if_neg c65, if_neg (fun z => c111 z.2)] | rw [m_begin, if_neg c35, if_neg c65, if_pos ⟨c97, c111⟩, if_pos c124] | rw [m_begin, if_neg c35, if_neg c65, if_pos ⟨c97, c111⟩, if_neg c124])⟩
        · refine ab_aload_n (pc := 114) dX4_begin_114 rfl rfl ?_
          refine ab_iload_n (pc := 115) dX4_begin_115 rfl rfl ?_
          refine ab_bipush (pc := 116) (v := 22) dX4_begin_116 (by decide) ?_
          refine ab_V2 (pc := 118) dX4_begin_118 mvX4_186 rfl rfl (kX4_partOf (hp c97)) (ab_ki fun r118 h118 e118 => ?_)
          obtain ⟨rfl, rfl⟩ := And.intro e118.1.symm e118.2.symm
          refine ab_topi (y := m_partR (h 1) 22 q) rfl ?_
          refine ab_istore_n (pc := 121) dX4_begin_121 rfl rfl ?_
          refine ab_aload_n (pc := 122) dX4_begin_122 rfl rfl ?_
          refine ab_iload_n (pc := 123) dX4_begin_123 rfl rfl ?_
          refine ab_if_ge (pc := 124) 141 dX4_begin_124 (by decide) (fun c124 => ?_) (fun c124 => ?_)
          · refine ab_iload_n (pc := 141) dX4_begin_141 rfl rfl ?_
            refine ab_iconst (pc := 142) (v := 1) dX4_begin_142 (by decide) ?_
            refine ab_iadd (pc := 143) dX4_begin_143 ?_
            refine ab_puti (pc := 144) dX4_begin_144 fwX4_174 rfl rfl ?_
            exact ab_retv (pc := 147) dX4_begin_147 rfl ⟨rfl, (by first | rw [m_begin, if_pos c35] | rw [m_begin, if_neg c35, if_pos c65] | rw [m_begin, if_neg c35, if_neg c65, if_neg (fun z => c97 z.1)] | rw [m_begin, if_neg c35, if_neg c65, if_neg (fun z => c111 z.2)] | rw [m_begin, if_neg c35, if_neg c65, if_pos ⟨c97, c111⟩, if_pos c124] | rw [m_begin, if_neg c35, if_neg c65, if_pos ⟨c97, c111⟩, if_neg c124])⟩
          · refine ab_aload_n (pc := 127) dX4_begin_127 rfl rfl ?_
            refine ab_getr (pc := 128) dX4_begin_128 fX4_74 rfl rfl ?_
            refine ab_aload_n (pc := 131) dX4_begin_131 rfl rfl ?_
            refine ab_geti (pc := 132) dX4_begin_132 fX4_95 rfl rfl ?_
            refine ab_topi (by (try simp only [ab_rd, ab_rdA, Nat.reduceEqDiff, reduceIte, m_push, Int32.add_sub_cancel]); exact rfl) ?_
            refine ab_iconst (pc := 135) (v := 1) dX4_begin_135 (by decide) ?_
            refine ab_isub (pc := 136) dX4_begin_136 ?_
            refine ab_topi (by (try simp only [ab_rd, ab_rdA, Nat.reduceEqDiff, reduceIte, m_push, Int32.add_sub_cancel]); exact rfl) ?_
            refine ab_iald (pc := 137) dX4_begin_137 rfl hop ?_
            refine ab_topi (by (try simp only [ab_rd, ab_rdA, Nat.reduceEqDiff, reduceIte, m_push, Int32.add_sub_cancel]); exact rfl) ?_
            refine ab_goto (pc := 138) 144 dX4_begin_138 (by decide) ?_
            refine ab_puti (pc := 144) dX4_begin_144 fwX4_174 rfl rfl ?_
            exact ab_retv (pc := 147) dX4_begin_147 rfl ⟨rfl, (by first | rw [m_begin, if_pos c35] | rw [m_begin, if_neg c35, if_pos c65] | rw [m_begin, if_neg c35, if_neg c65, if_neg (fun z => c97 z.1)] | rw [m_begin, if_neg c35, if_neg c65, if_neg (fun z => c111 z.2)] | rw [m_begin, if_neg c35, if_neg c65, if_pos ⟨c97, c111⟩, if_pos c124] | rw [m_begin, if_neg c35, if_neg c65, if_pos ⟨c97, c111⟩, if_neg c124])⟩
    · refine ab_aload_n (pc := 68) dX4_begin_68 rfl rfl ?_
      refine ab_getr (pc := 69) dX4_begin_69 fX4_65 rfl rfl ?_
      refine ab_aload_n (pc := 72) dX4_begin_72 rfl rfl ?_
      refine ab_geti (pc := 73) dX4_begin_73 fX4_127 rfl rfl ?_
      refine ab_topi (by (try simp only [ab_rd, ab_rdA, Nat.reduceEqDiff, reduceIte, m_push, Int32.add_sub_cancel]); exact rfl) ?_
      refine ab_aload_n (pc := 76) dX4_begin_76 rfl rfl ?_
      refine ab_geti (pc := 77) dX4_begin_77 fX4_130 rfl rfl ?_
      refine ab_topi (by (try simp only [ab_rd, ab_rdA, Nat.reduceEqDiff, reduceIte, m_push, Int32.add_sub_cancel]); exact rfl) ?_
      refine ab_iast (pc := 80) dX4_begin_80 rfl (hsc c65) ?_
      refine ab_aload_n (pc := 81) dX4_begin_81 rfl rfl ?_
      refine ab_dup (pc := 82) dX4_begin_82 rfl ?_
      refine ab_geti (pc := 83) dX4_begin_83 fX4_127 rfl rfl ?_
      refine ab_topi (by (try simp only [ab_rd, ab_rdA, Nat.reduceEqDiff, reduceIte, m_push, Int32.add_sub_cancel]); exact rfl) ?_
      refine ab_iconst (pc := 86) (v := 1) dX4_begin_86 (by decide) ?_
      refine ab_iadd (pc := 87) dX4_begin_87 ?_
      refine ab_puti (pc := 88) dX4_begin_88 fwX4_127 rfl rfl ?_
      refine ab_goto (pc := 91) 147 dX4_begin_91 (by decide) ?_
      exact ab_retv (pc := 147) dX4_begin_147 rfl ⟨rfl, (by first | rw [m_begin, if_pos c35] | rw [m_begin, if_neg c35, if_pos c65] | rw [m_begin, if_neg c35, if_neg c65, if_neg (fun z => c97 z.1)] | rw [m_begin, if_neg c35, if_neg c65, if_neg (fun z => c111 z.2)] | rw [m_begin, if_neg c35, if_neg c65, if_pos ⟨c97, c111⟩, if_pos c124] | rw [m_begin, if_neg c35, if_neg c65, if_pos ⟨c97, c111⟩, if_neg c124])⟩
  · refine ab_aload_n (pc := 38) dX4_begin_38 rfl rfl ?_
    refine ab_getr (pc := 39) dX4_begin_39 fX4_80 rfl rfl ?_
    refine ab_aload_n (pc := 42) dX4_begin_42 rfl rfl ?_
    refine ab_geti (pc := 43) dX4_begin_43 fX4_95 rfl rfl ?_
    refine ab_topi (by (try simp only [ab_rd, ab_rdA, Nat.reduceEqDiff, reduceIte, m_push, Int32.add_sub_cancel]); exact rfl) ?_
    refine ab_iconst (pc := 46) (v := 1) dX4_begin_46 (by decide) ?_
    refine ab_isub (pc := 47) dX4_begin_47 ?_
    refine ab_topi (by (try simp only [ab_rd, ab_rdA, Nat.reduceEqDiff, reduceIte, m_push, Int32.add_sub_cancel]); exact rfl) ?_
    refine ab_aload_n (pc := 48) dX4_begin_48 rfl rfl ?_
    refine ab_getr (pc := 49) dX4_begin_49 fX4_16 rfl rfl ?_
    refine ab_iload_n (pc := 52) dX4_begin_52 rfl rfl ?_
    refine ab_iald (pc := 53) dX4_begin_53 rfl hat ?_
    refine ab_topi (by (try simp only [ab_rd, ab_rdA, Nat.reduceEqDiff, reduceIte, m_push, Int32.add_sub_cancel]); exact rfl) ?_
    refine ab_iast (pc := 54) dX4_begin_54 rfl hop ?_
    refine ab_aload_n (pc := 55) dX4_begin_55 rfl rfl ?_
    refine ab_V0 (pc := 56) dX4_begin_56 mvX4_183 rfl rfl (kX4_round hop2) (ab_kv fun h56 e56 => ?_)
    obtain rfl := e56.symm
    refine ab_goto (pc := 59) 147 dX4_begin_59 (by decide) ?_
    exact ab_retv (pc := 147) dX4_begin_147 rfl ⟨rfl, (by first | rw [m_begin, if_pos c35] | rw [m_begin, if_neg c35, if_pos c65] | rw [m_begin, if_neg c35, if_neg c65, if_neg (fun z => c97 z.1)] | rw [m_begin, if_neg c35, if_neg c65, if_neg (fun z => c111 z.2)] | rw [m_begin, if_neg c35, if_neg c65, if_pos ⟨c97, c111⟩, if_pos c124] | rw [m_begin, if_neg c35, if_neg c65, if_pos ⟨c97, c111⟩, if_neg c124])⟩

set_option maxRecDepth 100000 in
set_option maxHeartbeats 4000000 in
theorem kX4_call {l : Launch} {d : Nat} {h : ab_H} {hd z : Int32} (hop : vp_in (h 0 39) 80) (hhd : vp_in hd 480) (hw : vp_in (h 3 hd.toNatClampNeg) 8) (hz : m_unended h (h 3 hd.toNatClampNeg) = some z) : ab_C l layM (d + 2) mX4_call [ab_R 0, ab_I hd] h (ab_qv fun h' => h' = m_call h hd z) := by
  refine ab_enter (by decide) (Nat.le_of_ble_eq_true rfl) ?_
  refine ab_aload_n (pc := 0) dX4_call_0 rfl rfl ?_
  refine ab_getr (pc := 1) dX4_call_1 fX4_16 rfl rfl ?_
  refine ab_iload_n (pc := 4) dX4_call_4 rfl rfl ?_
  refine ab_iald (pc := 5) dX4_call_5 rfl hhd ?_
  refine ab_istore_n (pc := 6) dX4_call_6 rfl rfl ?_
  refine ab_aload_n (pc := 7) dX4_call_7 rfl rfl ?_
  refine ab_geti (pc := 8) dX4_call_8 fX4_200 rfl rfl ?_
  refine ab_bipush (pc := 11) (v := 6) dX4_call_11 (by decide) ?_
  refine ab_icmp_eq (pc := 13) 24 dX4_call_13 (by decide) (fun c13 => ?_) (fun c13 => ?_)
  · refine ab_aload_n (pc := 24) dX4_call_24 rfl rfl ?_
    refine ab_aload_n (pc := 25) dX4_call_25 rfl rfl ?_
    refine ab_bipush (pc := 26) (v := 7) dX4_call_26 (by decide) ?_
    refine ab_V1 (pc := 28) dX4_call_28 mvX4_155 rfl rfl (kX4_fails) (ab_ki fun r28 h28 e28 => ?_)
    obtain ⟨rfl, rfl⟩ := And.intro e28.1.symm e28.2.symm
    refine ab_puti (pc := 31) dX4_call_31 fwX4_197 rfl rfl ?_
    exact ab_retv (pc := 34) dX4_call_34 rfl ⟨rfl, (by rw [m_call, if_pos (by first | exact Or.inl c13 | exact Or.inr c21)])⟩
  · refine ab_aload_n (pc := 16) dX4_call_16 rfl rfl ?_
    refine ab_iload_n (pc := 17) dX4_call_17 rfl rfl ?_
    refine ab_V1 (pc := 18) dX4_call_18 mvX4_203 rfl rfl (kX4_unended hw hz) (ab_ki fun r18 h18 e18 => ?_)
    obtain ⟨rfl, rfl⟩ := And.intro e18.1.symm e18.2.symm
    refine ab_if_eq (pc := 21) 35 dX4_call_21 (by decide) (fun c21 => ?_) (fun c21 => ?_)
    · refine ab_aload_n (pc := 35) dX4_call_35 rfl rfl ?_
      refine ab_dup (pc := 36) dX4_call_36 rfl ?_
      refine ab_geti (pc := 37) dX4_call_37 fX4_200 rfl rfl ?_
      refine ab_topi (by (try simp only [ab_rd, ab_rdA, Nat.reduceEqDiff, reduceIte]); exact rfl) ?_
      refine ab_iconst (pc := 40) (v := 1) dX4_call_40 (by decide) ?_
      refine ab_iadd (pc := 41) dX4_call_41 ?_
      refine ab_puti (pc := 42) dX4_call_42 fwX4_200 rfl rfl ?_
      refine ab_aload_n (pc := 45) dX4_call_45 rfl rfl ?_
      refine ab_iconst (pc := 46) (v := 0) dX4_call_46 (by decide) ?_
      refine ab_puti (pc := 47) dX4_call_47 fwX4_171 rfl rfl ?_
      refine ab_aload_n (pc := 50) dX4_call_50 rfl rfl ?_
      refine ab_iconst (pc := 51) (v := 0) dX4_call_51 (by decide) ?_
      refine ab_iload_n (pc := 52) dX4_call_52 rfl rfl ?_
      refine ab_bipush (pc := 53) (v := 60) dX4_call_53 (by decide) ?_
      refine ab_iload_n (pc := 55) dX4_call_55 rfl rfl ?_
      refine ab_imul (pc := 56) dX4_call_56 ?_
      refine ab_aload_n (pc := 57) dX4_call_57 rfl rfl ?_
      refine ab_getr (pc := 58) dX4_call_58 fX4_19 rfl rfl ?_
      refine ab_iload_n (pc := 61) dX4_call_61 rfl rfl ?_
      refine ab_iald (pc := 62) dX4_call_62 rfl hw ?_
      refine ab_topi (by (try simp only [ab_rd, ab_rdA, Nat.reduceEqDiff, reduceIte]); exact rfl) ?_
      refine ab_iadd (pc := 63) dX4_call_63 ?_
      refine ab_V3 (pc := 64) dX4_call_64 mvX4_180 rfl rfl (kX4_push hop) (ab_kv fun h64 e64 => ?_)
      obtain rfl := e64.symm
      refine ab_aload_n (pc := 67) dX4_call_67 rfl rfl ?_
      refine ab_bipush (pc := 68) (v := 60) dX4_call_68 (by decide) ?_
      refine ab_iload_n (pc := 70) dX4_call_70 rfl rfl ?_
      refine ab_imul (pc := 71) dX4_call_71 ?_
      refine ab_puti (pc := 72) dX4_call_72 fwX4_174 rfl rfl ?_
      exact ab_retv (pc := 75) dX4_call_75 rfl ⟨rfl, (by rw [m_call, if_neg (fun q => q.elim c13 (fun z => z c21))])⟩
    · refine ab_aload_n (pc := 24) dX4_call_24 rfl rfl ?_
      refine ab_aload_n (pc := 25) dX4_call_25 rfl rfl ?_
      refine ab_bipush (pc := 26) (v := 7) dX4_call_26 (by decide) ?_
      refine ab_V1 (pc := 28) dX4_call_28 mvX4_155 rfl rfl (kX4_fails) (ab_ki fun r28 h28 e28 => ?_)
      obtain ⟨rfl, rfl⟩ := And.intro e28.1.symm e28.2.symm
      refine ab_puti (pc := 31) dX4_call_31 fwX4_197 rfl rfl ?_
      exact ab_retv (pc := 34) dX4_call_34 rfl ⟨rfl, (by rw [m_call, if_pos (by first | exact Or.inl c13 | exact Or.inr c21)])⟩
