/-! undoing, and the plain steps -/
theorem ab_topi {l : Launch} {lay : List ab_E} {M : ab_M} {d : Nat} {Q : Option ab_V → ab_H → Prop} {pc : Nat} {L : List (Nat × ab_V)} {S : List ab_V} {h : ab_H} {x y : Int32} (e : x = y) (k : ab_J l lay M d Q pc L (ab_I y :: S) h) : ab_J l lay M d Q pc L (ab_I x :: S) h := by
  rw [e]
  exact k
def m_z (g : Nat → Int32) (k : Nat) : Nat → Int32 := fun j => if j < k then 0 else g j
theorem m_z_0 (g : Nat → Int32) : m_z g 0 = g := rfl
theorem m_z_s (g : Nat → Int32) (k : Nat) : upd (m_z g k) k 0 = m_z g (k + 1) := by
  funext j
  simp only [upd, m_z]
  by_cases e : j = k
  · rw [if_pos e, if_pos (by omega)]
  · rw [if_neg e]
    by_cases e2 : j < k
    · rw [if_pos e2, if_pos (by omega)]
    · rw [if_neg e2, if_neg (by omega)]
theorem m_ur_s {h : ab_H} {u k : Nat} (hu : h 0 28 = nI u) (hu2 : u < 70) (hk : k < 16) : ab_up (ab_upA h 6 (va_cpy (h 16) (h 6) (16 * u) 0 k)) 6 (nI k).toNatClampNeg (h 16 (16 * h 0 28 + nI k).toNatClampNeg) = ab_upA h 6 (va_cpy (h 16) (h 6) (16 * u) 0 (k + 1)) := by
  rw [ab_up_upA, m_16 hu, nI_clamp (by omega), nI_clamp (by omega), ← va_cpy_s, Nat.zero_add]
theorem m_mz_s {h : ab_H} {k : Nat} (hk : k < 16) : ab_up (ab_upA h 6 (m_z (h 6) k)) 6 (nI k).toNatClampNeg 0 = ab_upA h 6 (m_z (h 6) (k + 1)) := by
  rw [ab_up_upA, nI_clamp (by omega), m_z_s]
def m_undoB (h : ab_H) (u : Nat) (a s w : Int32) : ab_H :=
  if s = 1 then ab_up (ab_up (ab_up h 0 28 (nI u)) 0 18 (h 0 18 + 1)) 5 a.toNatClampNeg (h 5 a.toNatClampNeg - w)
  else if s = 2 then ab_up (ab_up (ab_up h 0 28 (nI u)) 0 18 (h 0 18 + 1)) 5 a.toNatClampNeg w
  else if s = 5 then ab_up (ab_up (ab_up h 0 28 (nI u)) 0 18 (h 0 18 + 1)) 6 a.toNatClampNeg w
  else if s = 7 then ab_up (ab_up (ab_up h 0 28 (nI u)) 0 18 (h 0 18 + 1)) 7 a.toNatClampNeg w
  else ab_upA (ab_up (ab_up (ab_up h 0 28 (nI u)) 0 18 (h 0 18 + 1)) 0 7 w) 6 (va_cpy (h 16) (h 6) (16 * u) 0 16)
def m_undo (h : ab_H) (u : Nat) : ab_H :=
  if h 13 u = 5 ∧ (h 14 u < 0 ∨ ¬ h 14 u < h 0 7) then ab_up (ab_up h 0 28 (nI u)) 0 17 (h 0 17 + 1) else m_undoB h u (h 14 u) (h 13 u) (h 15 u)
def m_makesR (n : Int32) : Int32 := if 0 ≤ n then (if n ≤ 16 then 0 else 1) else 1
def m_makes (h : ab_H) (n : Int32) : ab_H := if 0 ≤ n then (if n ≤ 16 then ab_upA (ab_up (m_rem h 6 0 (h 0 7)) 0 7 n) 6 (m_z (m_rem h 6 0 (h 0 7) 6) 16) else ab_up h 0 21 4) else ab_up h 0 21 3
def m_rowI (h : ab_H) (s a b : Int32) : Int32 := h 5 (if s = 4 then b else a).toNatClampNeg
def m_rowOut (h : ab_H) (s a b : Int32) : Bool := decide (m_rowI h s a b < 0) || decide (¬ m_rowI h s a b < h 0 7)
def m_onRow (h : ab_H) (s a b : Int32) : ab_H := if m_rowOut h s a b = true then ab_up h 0 21 2 else
  if s = 4 then ab_up h 5 a.toNatClampNeg (h 6 (m_rowI h s a b).toNatClampNeg)
  else ab_up (m_rem h 5 (m_rowI h s a b) (h 6 (m_rowI h s a b).toNatClampNeg)) 6 (m_rowI h s a b).toNatClampNeg (m_rem h 5 (m_rowI h s a b) (h 6 (m_rowI h s a b).toNatClampNeg) 5 b.toNatClampNeg)
def m_usesR (h : ab_H) (x : Int32) : Int32 := if x = 0 then 1 else if h 8 x.toNatClampNeg = 2 then 1 else 0
def m_uses (h : ab_H) (x : Int32) : ab_H := if x = 0 then ab_up h 0 21 5 else if h 8 x.toNatClampNeg = 2 then ab_up h 0 21 6 else m_note (ab_up h 9 x.toNatClampNeg (h 9 x.toNatClampNeg + 1)) (h 9 x.toNatClampNeg + 1)
set_option maxRecDepth 100000 in
set_option maxHeartbeats 4000000 in
theorem lpX4_undoOne {l : Launch} {d : Nat} {h : ab_H} {u : Nat} (hu : h 0 28 = nI u) (hu2 : u < 70) {P : ab_H → Prop} (hP : P (ab_upA h 6 (va_cpy (h 16) (h 6) (16 * u) 0 16))) : ∀ (n : Nat) (k : Nat), k ≤ 16 → 16 < k + n → ab_J l layM mX4_undoOne (d) (ab_qv P) 179 [(0, ab_R 0), (3, ab_I (nI k))] [] (ab_upA h 6 (va_cpy (h 16) (h 6) (16 * u) 0 k)) := by
  intro n
  induction n with
  | zero =>
    intro k hk hn
    omega
  | succ n ih =>
    intro k hk hn
    refine ab_iload_n (pc := 179) dX4_undoOne_179 rfl rfl ?_
    refine ab_bipush (pc := 180) (v := 16) dX4_undoOne_180 (by decide) ?_
    refine ab_icmp_ge (pc := 182) 211 dX4_undoOne_182 (by decide) (fun c182 => ?_) (fun c182 => ?_)
    · obtain rfl := m_ge16 hk (by assumption)
      exact ab_retv (pc := 211) dX4_undoOne_211 rfl ⟨rfl, hP⟩
    · have hk2 := m_lt16 hk (by assumption)
      refine ab_aload_n (pc := 185) dX4_undoOne_185 rfl rfl ?_
      refine ab_getr (pc := 186) dX4_undoOne_186 fX4_25 rfl rfl ?_
      refine ab_iload_n (pc := 189) dX4_undoOne_189 rfl rfl ?_
      refine ab_aload_n (pc := 190) dX4_undoOne_190 rfl rfl ?_
      refine ab_getr (pc := 191) dX4_undoOne_191 fX4_62 rfl rfl ?_
      refine ab_bipush (pc := 194) (v := 16) dX4_undoOne_194 (by decide) ?_
      refine ab_aload_n (pc := 196) dX4_undoOne_196 rfl rfl ?_
      refine ab_geti (pc := 197) dX4_undoOne_197 fX4_130 rfl rfl ?_
      refine ab_imul (pc := 200) dX4_undoOne_200 ?_
      refine ab_iload_n (pc := 201) dX4_undoOne_201 rfl rfl ?_
      refine ab_iadd (pc := 202) dX4_undoOne_202 ?_
      refine ab_iald (pc := 203) dX4_undoOne_203 rfl (m_in16 hu hu2 hk2) ?_
      refine ab_iast (pc := 204) dX4_undoOne_204 rfl (vp_in_nI hk2 (by omega)) ?_
      refine ab_iinc (pc := 205) (v := 1) dX4_undoOne_205 rfl (by decide) rfl ?_
      refine ab_goto (pc := 208) 179 dX4_undoOne_208 (by decide) ?_
      refine ab_weak [(0, ab_R 0), (3, ab_I (nI k + 1))] ⟨rfl, rfl, trivial⟩ ?_
      rw [nI_1]
      exact ab_heq (m_ur_s hu hu2 hk2) (ih (k + 1) (by omega) (by omega))

set_option maxRecDepth 100000 in
set_option maxHeartbeats 4000000 in
theorem kX4_undoOne {l : Launch} {d : Nat} {h : ab_H} {u : Nat} (hu : h 0 28 = nI (u + 1)) (hu2 : u < 70) (h8 : h 13 u = 1 ∨ h 13 u = 2 → vp_in (h 14 u) 8) (h16 : h 13 u = 5 → ¬ h 14 u < 0 → h 14 u < h 0 7 → vp_in (h 14 u) 16) (h4 : h 13 u = 7 → vp_in (h 14 u) 4) : ab_C l layM (d) mX4_undoOne [ab_R 0] h (ab_qv fun h' => h' = m_undo h u) := by
  refine ab_enter (by decide) (Nat.le_of_ble_eq_true rfl) ?_
  have hx : h 0 28 - 1 = nI u := by rw [hu]; exact nI_pred u
  have hc : (nI u).toNatClampNeg = u := nI_clamp (by omega)
  have hin : vp_in (nI u) 70 := vp_in_nI hu2 (by omega)
  refine ab_aload_n (pc := 0) dX4_undoOne_0 rfl rfl ?_
  refine ab_dup (pc := 1) dX4_undoOne_1 rfl ?_
  refine ab_geti (pc := 2) dX4_undoOne_2 fX4_130 rfl rfl ?_
  refine ab_iconst (pc := 5) (v := 1) dX4_undoOne_5 (by decide) ?_
  refine ab_isub (pc := 6) dX4_undoOne_6 ?_
  rw [hx]
  refine ab_puti (pc := 7) dX4_undoOne_7 fwX4_130 rfl rfl ?_
  refine ab_aload_n (pc := 10) dX4_undoOne_10 rfl rfl ?_
  refine ab_getr (pc := 11) dX4_undoOne_11 fX4_56 rfl rfl ?_
  refine ab_aload_n (pc := 14) dX4_undoOne_14 rfl rfl ?_
  refine ab_geti (pc := 15) dX4_undoOne_15 fX4_130 rfl rfl ?_
  refine ab_topi (by (try simp only [ab_rd, ab_rdA, Nat.reduceEqDiff, reduceIte, hc]); exact rfl) ?_
  refine ab_iald (pc := 18) dX4_undoOne_18 rfl hin ?_
  refine ab_topi (by (try simp only [ab_rd, ab_rdA, Nat.reduceEqDiff, reduceIte, hc]); exact rfl) ?_
  refine ab_istore_n (pc := 19) dX4_undoOne_19 rfl rfl ?_
  refine ab_aload_n (pc := 20) dX4_undoOne_20 rfl rfl ?_
  refine ab_getr (pc := 21) dX4_undoOne_21 fX4_53 rfl rfl ?_
  refine ab_aload_n (pc := 24) dX4_undoOne_24 rfl rfl ?_
  refine ab_geti (pc := 25) dX4_undoOne_25 fX4_130 rfl rfl ?_
  refine ab_topi (by (try simp only [ab_rd, ab_rdA, Nat.reduceEqDiff, reduceIte, hc]); exact rfl) ?_
  refine ab_iald (pc := 28) dX4_undoOne_28 rfl hin ?_
  refine ab_topi (by (try simp only [ab_rd, ab_rdA, Nat.reduceEqDiff, reduceIte, hc]); exact rfl) ?_
  refine ab_istore_n (pc := 29) dX4_undoOne_29 rfl rfl ?_
  refine ab_iload_n (pc := 30) dX4_undoOne_30 rfl rfl ?_
  refine ab_iconst (pc := 31) (v := 5) dX4_undoOne_31 (by decide) ?_
  refine ab_icmp_ne (pc := 32) 58 dX4_undoOne_32 (by decide) (fun c32 => ?_) (fun c32 => ?_)
  · refine ab_aload_n (pc := 58) dX4_undoOne_58 rfl rfl ?_
    refine ab_dup (pc := 59) dX4_undoOne_59 rfl ?_
    refine ab_geti (pc := 60) dX4_undoOne_60 fX4_136 rfl rfl ?_
    refine ab_topi (by (try simp only [ab_rd, ab_rdA, Nat.reduceEqDiff, reduceIte, hc]); exact rfl) ?_
    refine ab_iconst (pc := 63) (v := 1) dX4_undoOne_63 (by decide) ?_
    refine ab_iadd (pc := 64) dX4_undoOne_64 ?_
    refine ab_puti (pc := 65) dX4_undoOne_65 fwX4_136 rfl rfl ?_
    refine ab_iload_n (pc := 68) dX4_undoOne_68 rfl rfl ?_
    refine ab_iconst (pc := 69) (v := 1) dX4_undoOne_69 (by decide) ?_
    refine ab_icmp_ne (pc := 70) 94 dX4_undoOne_70 (by decide) (fun c70 => ?_) (fun c70 => ?_)
    · refine ab_iload_n (pc := 94) dX4_undoOne_94 rfl rfl ?_
      refine ab_iconst (pc := 95) (v := 2) dX4_undoOne_95 (by decide) ?_
      refine ab_icmp_ne (pc := 96) 117 dX4_undoOne_96 (by decide) (fun c96 => ?_) (fun c96 => ?_)
      · refine ab_iload_n (pc := 117) dX4_undoOne_117 rfl rfl ?_
        refine ab_iconst (pc := 118) (v := 5) dX4_undoOne_118 (by decide) ?_
        refine ab_icmp_ne (pc := 119) 140 dX4_undoOne_119 (by decide) (fun c119 => ?_) (fun c119 => ?_)
        · refine ab_iload_n (pc := 140) dX4_undoOne_140 rfl rfl ?_
          refine ab_bipush (pc := 141) (v := 7) dX4_undoOne_141 (by decide) ?_
          refine ab_icmp_ne (pc := 143) 164 dX4_undoOne_143 (by decide) (fun c143 => ?_) (fun c143 => ?_)
          · refine ab_aload_n (pc := 164) dX4_undoOne_164 rfl rfl ?_
            refine ab_aload_n (pc := 165) dX4_undoOne_165 rfl rfl ?_
            refine ab_getr (pc := 166) dX4_undoOne_166 fX4_59 rfl rfl ?_
            refine ab_aload_n (pc := 169) dX4_undoOne_169 rfl rfl ?_
            refine ab_geti (pc := 170) dX4_undoOne_170 fX4_130 rfl rfl ?_
            refine ab_topi (by (try simp only [ab_rd, ab_rdA, Nat.reduceEqDiff, reduceIte, hc]); exact rfl) ?_
            refine ab_iald (pc := 173) dX4_undoOne_173 rfl hin ?_
            refine ab_topi (by (try simp only [ab_rd, ab_rdA, Nat.reduceEqDiff, reduceIte, hc]); exact rfl) ?_
            refine ab_puti (pc := 174) dX4_undoOne_174 fwX4_28 rfl rfl ?_
            refine ab_iconst (pc := 177) (v := 0) dX4_undoOne_177 (by decide) ?_
            refine ab_istore_n (pc := 178) dX4_undoOne_178 rfl rfl ?_
            refine ab_weak [(0, ab_R 0), (3, ab_I (nI 0))] ⟨rfl, rfl, trivial⟩ ?_
            refine ab_heq ?_ (lpX4_undoOne (h := (ab_up (ab_up (ab_up h 0 28 (nI u)) 0 18 (h 0 18 + 1)) 0 7 (h 15 u))) rfl hu2 ?_ 17 0 (by omega) (by omega))
            · rw [va_cpy_0, ab_upA_0]
            · show _ = m_undo h u
              rw [m_undo, if_neg (by first | exact fun q => c32 q.1 | exact fun q => q.2.elim c36 (fun z => z c44)), m_undoB, if_neg c70, if_neg c96, if_neg c119, if_neg c143]
              rfl
          · refine ab_aload_n (pc := 146) dX4_undoOne_146 rfl rfl ?_
            refine ab_getr (pc := 147) dX4_undoOne_147 fX4_32 rfl rfl ?_
            refine ab_iload_n (pc := 150) dX4_undoOne_150 rfl rfl ?_
            refine ab_aload_n (pc := 151) dX4_undoOne_151 rfl rfl ?_
            refine ab_getr (pc := 152) dX4_undoOne_152 fX4_59 rfl rfl ?_
            refine ab_aload_n (pc := 155) dX4_undoOne_155 rfl rfl ?_
            refine ab_geti (pc := 156) dX4_undoOne_156 fX4_130 rfl rfl ?_
            refine ab_topi (by (try simp only [ab_rd, ab_rdA, Nat.reduceEqDiff, reduceIte, hc]); exact rfl) ?_
            refine ab_iald (pc := 159) dX4_undoOne_159 rfl hin ?_
            refine ab_topi (by (try simp only [ab_rd, ab_rdA, Nat.reduceEqDiff, reduceIte, hc]); exact rfl) ?_
            refine ab_iast (pc := 160) dX4_undoOne_160 rfl (h4 (by assumption)) ?_
            refine ab_goto (pc := 161) 211 dX4_undoOne_161 (by decide) ?_
            exact ab_retv (pc := 211) dX4_undoOne_211 rfl ⟨rfl, (by rw [m_undo, if_neg (by first | exact fun q => c32 q.1 | exact fun q => q.2.elim c36 (fun z => z c44)), m_undoB, if_neg c70, if_neg c96, if_neg c119, if_pos c143])⟩
        · refine ab_aload_n (pc := 122) dX4_undoOne_122 rfl rfl ?_
          refine ab_getr (pc := 123) dX4_undoOne_123 fX4_25 rfl rfl ?_
          refine ab_iload_n (pc := 126) dX4_undoOne_126 rfl rfl ?_
          refine ab_aload_n (pc := 127) dX4_undoOne_127 rfl rfl ?_
          refine ab_getr (pc := 128) dX4_undoOne_128 fX4_59 rfl rfl ?_
          refine ab_aload_n (pc := 131) dX4_undoOne_131 rfl rfl ?_
          refine ab_geti (pc := 132) dX4_undoOne_132 fX4_130 rfl rfl ?_
          refine ab_topi (by (try simp only [ab_rd, ab_rdA, Nat.reduceEqDiff, reduceIte, hc]); exact rfl) ?_
          refine ab_iald (pc := 135) dX4_undoOne_135 rfl hin ?_
          refine ab_topi (by (try simp only [ab_rd, ab_rdA, Nat.reduceEqDiff, reduceIte, hc]); exact rfl) ?_
          refine ab_iast (pc := 136) dX4_undoOne_136 rfl (by first | exact h16 c119 c36 c44 | exact absurd c119 c32) ?_
          refine ab_goto (pc := 137) 211 dX4_undoOne_137 (by decide) ?_
          exact ab_retv (pc := 211) dX4_undoOne_211 rfl ⟨rfl, (by rw [m_undo, if_neg (by first | exact fun q => c32 q.1 | exact fun q => q.2.elim c36 (fun z => z c44)), m_undoB, if_neg c70, if_neg c96, if_pos c119])⟩
      · refine ab_aload_n (pc := 99) dX4_undoOne_99 rfl rfl ?_
        refine ab_getr (pc := 100) dX4_undoOne_100 fX4_22 rfl rfl ?_
        refine ab_iload_n (pc := 103) dX4_undoOne_103 rfl rfl ?_
        refine ab_aload_n (pc := 104) dX4_undoOne_104 rfl rfl ?_
        refine ab_getr (pc := 105) dX4_undoOne_105 fX4_59 rfl rfl ?_
        refine ab_aload_n (pc := 108) dX4_undoOne_108 rfl rfl ?_
        refine ab_geti (pc := 109) dX4_undoOne_109 fX4_130 rfl rfl ?_
        refine ab_topi (by (try simp only [ab_rd, ab_rdA, Nat.reduceEqDiff, reduceIte, hc]); exact rfl) ?_
        refine ab_iald (pc := 112) dX4_undoOne_112 rfl hin ?_
        refine ab_topi (by (try simp only [ab_rd, ab_rdA, Nat.reduceEqDiff, reduceIte, hc]); exact rfl) ?_
        refine ab_iast (pc := 113) dX4_undoOne_113 rfl (h8 (Or.inr (by assumption))) ?_
        refine ab_goto (pc := 114) 211 dX4_undoOne_114 (by decide) ?_
        exact ab_retv (pc := 211) dX4_undoOne_211 rfl ⟨rfl, (by rw [m_undo, if_neg (by first | exact fun q => c32 q.1 | exact fun q => q.2.elim c36 (fun z => z c44)), m_undoB, if_neg c70, if_pos c96])⟩
    · refine ab_aload_n (pc := 73) dX4_undoOne_73 rfl rfl ?_
      refine ab_getr (pc := 74) dX4_undoOne_74 fX4_22 rfl rfl ?_
      refine ab_iload_n (pc := 77) dX4_undoOne_77 rfl rfl ?_
      refine ab_dup2 (pc := 78) dX4_undoOne_78 rfl rfl ?_
      refine ab_iald (pc := 79) dX4_undoOne_79 rfl (h8 (Or.inl (by assumption))) ?_
      refine ab_topi (by (try simp only [ab_rd, ab_rdA, Nat.reduceEqDiff, reduceIte, hc]); exact rfl) ?_
      refine ab_aload_n (pc := 80) dX4_undoOne_80 rfl rfl ?_
      refine ab_getr (pc := 81) dX4_undoOne_81 fX4_59 rfl rfl ?_
      refine ab_aload_n (pc := 84) dX4_undoOne_84 rfl rfl ?_
      refine ab_geti (pc := 85) dX4_undoOne_85 fX4_130 rfl rfl ?_
      refine ab_topi (by (try simp only [ab_rd, ab_rdA, Nat.reduceEqDiff, reduceIte, hc]); exact rfl) ?_
      refine ab_iald (pc := 88) dX4_undoOne_88 rfl hin ?_
      refine ab_topi (by (try simp only [ab_rd, ab_rdA, Nat.reduceEqDiff, reduceIte, hc]); exact rfl) ?_
      refine ab_isub (pc := 89) dX4_undoOne_89 ?_
      refine ab_iast (pc := 90) dX4_undoOne_90 rfl (h8 (Or.inl (by assumption))) ?_
      refine ab_goto (pc := 91) 211 dX4_undoOne_91 (by decide) ?_
      exact ab_retv (pc := 211) dX4_undoOne_211 rfl ⟨rfl, (by rw [m_undo, if_neg (by first | exact fun q => c32 q.1 | exact fun q => q.2.elim c36 (fun z => z c44)), m_undoB, if_pos c70])⟩
  · refine ab_iload_n (pc := 35) dX4_undoOne_35 rfl rfl ?_
    refine ab_if_lt (pc := 36) 47 dX4_undoOne_36 (by decide) (fun c36 => ?_) (fun c36 => ?_)
    · refine ab_aload_n (pc := 47) dX4_undoOne_47 rfl rfl ?_
      refine ab_dup (pc := 48) dX4_undoOne_48 rfl ?_
      refine ab_geti (pc := 49) dX4_undoOne_49 fX4_133 rfl rfl ?_
      refine ab_topi (by (try simp only [ab_rd, ab_rdA, Nat.reduceEqDiff, reduceIte, hc]); exact rfl) ?_
      refine ab_iconst (pc := 52) (v := 1) dX4_undoOne_52 (by decide) ?_
      refine ab_iadd (pc := 53) dX4_undoOne_53 ?_
      refine ab_puti (pc := 54) dX4_undoOne_54 fwX4_133 rfl rfl ?_
      exact ab_retv (pc := 57) dX4_undoOne_57 rfl ⟨rfl, (by rw [m_undo, if_pos ⟨c32, by first | exact Or.inl c36 | exact Or.inr c44⟩])⟩
    · refine ab_iload_n (pc := 39) dX4_undoOne_39 rfl rfl ?_
      refine ab_aload_n (pc := 40) dX4_undoOne_40 rfl rfl ?_
      refine ab_geti (pc := 41) dX4_undoOne_41 fX4_28 rfl rfl ?_
      refine ab_topi (by (try simp only [ab_rd, ab_rdA, Nat.reduceEqDiff, reduceIte, hc]); exact rfl) ?_
      refine ab_icmp_lt (pc := 44) 58 dX4_undoOne_44 (by decide) (fun c44 => ?_) (fun c44 => ?_)
      · refine ab_aload_n (pc := 58) dX4_undoOne_58 rfl rfl ?_
        refine ab_dup (pc := 59) dX4_undoOne_59 rfl ?_
        refine ab_geti (pc := 60) dX4_undoOne_60 fX4_136 rfl rfl ?_
        refine ab_topi (by (try simp only [ab_rd, ab_rdA, Nat.reduceEqDiff, reduceIte, hc]); exact rfl) ?_
        refine ab_iconst (pc := 63) (v := 1) dX4_undoOne_63 (by decide) ?_
        refine ab_iadd (pc := 64) dX4_undoOne_64 ?_
        refine ab_puti (pc := 65) dX4_undoOne_65 fwX4_136 rfl rfl ?_
        refine ab_iload_n (pc := 68) dX4_undoOne_68 rfl rfl ?_
        refine ab_iconst (pc := 69) (v := 1) dX4_undoOne_69 (by decide) ?_
        refine ab_icmp_ne (pc := 70) 94 dX4_undoOne_70 (by decide) (fun c70 => ?_) (fun c70 => ?_)
        · refine ab_iload_n (pc := 94) dX4_undoOne_94 rfl rfl ?_
          refine ab_iconst (pc := 95) (v := 2) dX4_undoOne_95 (by decide) ?_
          refine ab_icmp_ne (pc := 96) 117 dX4_undoOne_96 (by decide) (fun c96 => ?_) (fun c96 => ?_)
          · refine ab_iload_n (pc := 117) dX4_undoOne_117 rfl rfl ?_
            refine ab_iconst (pc := 118) (v := 5) dX4_undoOne_118 (by decide) ?_
            refine ab_icmp_ne (pc := 119) 140 dX4_undoOne_119 (by decide) (fun c119 => ?_) (fun c119 => ?_)
            · refine ab_iload_n (pc := 140) dX4_undoOne_140 rfl rfl ?_
              refine ab_bipush (pc := 141) (v := 7) dX4_undoOne_141 (by decide) ?_
              refine ab_icmp_ne (pc := 143) 164 dX4_undoOne_143 (by decide) (fun c143 => ?_) (fun c143 => ?_)
              · refine ab_aload_n (pc := 164) dX4_undoOne_164 rfl rfl ?_
                refine ab_aload_n (pc := 165) dX4_undoOne_165 rfl rfl ?_
                refine ab_getr (pc := 166) dX4_undoOne_166 fX4_59 rfl rfl ?_
                refine ab_aload_n (pc := 169) dX4_undoOne_169 rfl rfl ?_
                refine ab_geti (pc := 170) dX4_undoOne_170 fX4_130 rfl rfl ?_
                refine ab_topi (by (try simp only [ab_rd, ab_rdA, Nat.reduceEqDiff, reduceIte, hc]); exact rfl) ?_
                refine ab_iald (pc := 173) dX4_undoOne_173 rfl hin ?_
                refine ab_topi (by (try simp only [ab_rd, ab_rdA, Nat.reduceEqDiff, reduceIte, hc]); exact rfl) ?_
                refine ab_puti (pc := 174) dX4_undoOne_174 fwX4_28 rfl rfl ?_
                refine ab_iconst (pc := 177) (v := 0) dX4_undoOne_177 (by decide) ?_
                refine ab_istore_n (pc := 178) dX4_undoOne_178 rfl rfl ?_
                refine ab_weak [(0, ab_R 0), (3, ab_I (nI 0))] ⟨rfl, rfl, trivial⟩ ?_
                refine ab_heq ?_ (lpX4_undoOne (h := (ab_up (ab_up (ab_up h 0 28 (nI u)) 0 18 (h 0 18 + 1)) 0 7 (h 15 u))) rfl hu2 ?_ 17 0 (by omega) (by omega))
                · rw [va_cpy_0, ab_upA_0]
                · show _ = m_undo h u
                  rw [m_undo, if_neg (by first | exact fun q => c32 q.1 | exact fun q => q.2.elim c36 (fun z => z c44)), m_undoB, if_neg c70, if_neg c96, if_neg c119, if_neg c143]
                  rfl
              · refine ab_aload_n (pc := 146) dX4_undoOne_146 rfl rfl ?_
                refine ab_getr (pc := 147) dX4_undoOne_147 fX4_32 rfl rfl ?_
                refine ab_iload_n (pc := 150) dX4_undoOne_150 rfl rfl ?_
                refine ab_aload_n (pc := 151) dX4_undoOne_151 rfl rfl ?_
                refine ab_getr (pc := 152) dX4_undoOne_152 fX4_59 rfl rfl ?_
                refine ab_aload_n (pc := 155) dX4_undoOne_155 rfl rfl ?_
                refine ab_geti (pc := 156) dX4_undoOne_156 fX4_130 rfl rfl ?_
                refine ab_topi (by (try simp only [ab_rd, ab_rdA, Nat.reduceEqDiff, reduceIte, hc]); exact rfl) ?_
                refine ab_iald (pc := 159) dX4_undoOne_159 rfl hin ?_
                refine ab_topi (by (try simp only [ab_rd, ab_rdA, Nat.reduceEqDiff, reduceIte, hc]); exact rfl) ?_
                refine ab_iast (pc := 160) dX4_undoOne_160 rfl (h4 (by assumption)) ?_
                refine ab_goto (pc := 161) 211 dX4_undoOne_161 (by decide) ?_
                exact ab_retv (pc := 211) dX4_undoOne_211 rfl ⟨rfl, (by rw [m_undo, if_neg (by first | exact fun q => c32 q.1 | exact fun q => q.2.elim c36 (fun z => z c44)), m_undoB, if_neg c70, if_neg c96, if_neg c119, if_pos c143])⟩
            · refine ab_aload_n (pc := 122) dX4_undoOne_122 rfl rfl ?_
              refine ab_getr (pc := 123) dX4_undoOne_123 fX4_25 rfl rfl ?_
              refine ab_iload_n (pc := 126) dX4_undoOne_126 rfl rfl ?_
              refine ab_aload_n (pc := 127) dX4_undoOne_127 rfl rfl ?_
              refine ab_getr (pc := 128) dX4_undoOne_128 fX4_59 rfl rfl ?_
              refine ab_aload_n (pc := 131) dX4_undoOne_131 rfl rfl ?_
              refine ab_geti (pc := 132) dX4_undoOne_132 fX4_130 rfl rfl ?_
              refine ab_topi (by (try simp only [ab_rd, ab_rdA, Nat.reduceEqDiff, reduceIte, hc]); exact rfl) ?_
              refine ab_iald (pc := 135) dX4_undoOne_135 rfl hin ?_
              refine ab_topi (by (try simp only [ab_rd, ab_rdA, Nat.reduceEqDiff, reduceIte, hc]); exact rfl) ?_
              refine ab_iast (pc := 136) dX4_undoOne_136 rfl (by first | exact h16 c119 c36 c44 | exact absurd c119 c32) ?_
              refine ab_goto (pc := 137) 211 dX4_undoOne_137 (by decide) ?_
              exact ab_retv (pc := 211) dX4_undoOne_211 rfl ⟨rfl, (by rw [m_undo, if_neg (by first | exact fun q => c32 q.1 | exact fun q => q.2.elim c36 (fun z => z c44)), m_undoB, if_neg c70, if_neg c96, if_pos c119])⟩
          · refine ab_aload_n (pc := 99) dX4_undoOne_99 rfl rfl ?_
            refine ab_getr (pc := 100) dX4_undoOne_100 fX4_22 rfl rfl ?_
            refine ab_iload_n (pc := 103) dX4_undoOne_103 rfl rfl ?_
            refine ab_aload_n (pc := 104) dX4_undoOne_104 rfl rfl ?_
            refine ab_getr (pc := 105) dX4_undoOne_105 fX4_59 rfl rfl ?_
            refine ab_aload_n (pc := 108) dX4_undoOne_108 rfl rfl ?_
            refine ab_geti (pc := 109) dX4_undoOne_109 fX4_130 rfl rfl ?_
            refine ab_topi (by (try simp only [ab_rd, ab_rdA, Nat.reduceEqDiff, reduceIte, hc]); exact rfl) ?_
            refine ab_iald (pc := 112) dX4_undoOne_112 rfl hin ?_
            refine ab_topi (by (try simp only [ab_rd, ab_rdA, Nat.reduceEqDiff, reduceIte, hc]); exact rfl) ?_
            refine ab_iast (pc := 113) dX4_undoOne_113 rfl (h8 (Or.inr (by assumption))) ?_
            refine ab_goto (pc := 114) 211 dX4_undoOne_114 (by decide) ?_
            exact ab_retv (pc := 211) dX4_undoOne_211 rfl ⟨rfl, (by rw [m_undo, if_neg (by first | exact fun q => c32 q.1 | exact fun q => q.2.elim c36 (fun z => z c44)), m_undoB, if_neg c70, if_pos c96])⟩
        · refine ab_aload_n (pc := 73) dX4_undoOne_73 rfl rfl ?_
          refine ab_getr (pc := 74) dX4_undoOne_74 fX4_22 rfl rfl ?_
          refine ab_iload_n (pc := 77) dX4_undoOne_77 rfl rfl ?_
          refine ab_dup2 (pc := 78) dX4_undoOne_78 rfl rfl ?_
          refine ab_iald (pc := 79) dX4_undoOne_79 rfl (h8 (Or.inl (by assumption))) ?_
          refine ab_topi (by (try simp only [ab_rd, ab_rdA, Nat.reduceEqDiff, reduceIte, hc]); exact rfl) ?_
          refine ab_aload_n (pc := 80) dX4_undoOne_80 rfl rfl ?_
          refine ab_getr (pc := 81) dX4_undoOne_81 fX4_59 rfl rfl ?_
          refine ab_aload_n (pc := 84) dX4_undoOne_84 rfl rfl ?_
          refine ab_geti (pc := 85) dX4_undoOne_85 fX4_130 rfl rfl ?_
          refine ab_topi (by (try simp only [ab_rd, ab_rdA, Nat.reduceEqDiff, reduceIte, hc]); exact rfl) ?_
          refine ab_iald (pc := 88) dX4_undoOne_88 rfl hin ?_
          refine ab_topi (by (try simp only [ab_rd, ab_rdA, Nat.reduceEqDiff, reduceIte, hc]); exact rfl) ?_
          refine ab_isub (pc := 89) dX4_undoOne_89 ?_
          refine ab_iast (pc := 90) dX4_undoOne_90 rfl (h8 (Or.inl (by assumption))) ?_
          refine ab_goto (pc := 91) 211 dX4_undoOne_91 (by decide) ?_
          exact ab_retv (pc := 211) dX4_undoOne_211 rfl ⟨rfl, (by rw [m_undo, if_neg (by first | exact fun q => c32 q.1 | exact fun q => q.2.elim c36 (fun z => z c44)), m_undoB, if_pos c70])⟩
      · refine ab_aload_n (pc := 47) dX4_undoOne_47 rfl rfl ?_
        refine ab_dup (pc := 48) dX4_undoOne_48 rfl ?_
        refine ab_geti (pc := 49) dX4_undoOne_49 fX4_133 rfl rfl ?_
        refine ab_topi (by (try simp only [ab_rd, ab_rdA, Nat.reduceEqDiff, reduceIte, hc]); exact rfl) ?_
        refine ab_iconst (pc := 52) (v := 1) dX4_undoOne_52 (by decide) ?_
        refine ab_iadd (pc := 53) dX4_undoOne_53 ?_
        refine ab_puti (pc := 54) dX4_undoOne_54 fwX4_133 rfl rfl ?_
        exact ab_retv (pc := 57) dX4_undoOne_57 rfl ⟨rfl, (by rw [m_undo, if_pos ⟨c32, by first | exact Or.inl c36 | exact Or.inr c44⟩])⟩

set_option maxRecDepth 100000 in
set_option maxHeartbeats 4000000 in
theorem lpX4_makes {l : Launch} {d : Nat} {h : ab_H} {P : Int32 → ab_H → Prop} (hP : P 0 (ab_upA h 6 (m_z (h 6) 16))) : ∀ (n : Nat) (k : Nat), k ≤ 16 → 16 < k + n → ab_J l layM mX4_makes (d + 1) (ab_qi P) 40 [(0, ab_R 0), (2, ab_I (nI k))] [] (ab_upA h 6 (m_z (h 6) k)) := by
  intro n
  induction n with
  | zero =>
    intro k hk hn
    omega
  | succ n ih =>
    intro k hk hn
    refine ab_iload_n (pc := 40) dX4_makes_40 rfl rfl ?_
    refine ab_bipush (pc := 41) (v := 16) dX4_makes_41 (by decide) ?_
    refine ab_icmp_ge (pc := 43) 59 dX4_makes_43 (by decide) (fun c43 => ?_) (fun c43 => ?_)
    · obtain rfl := m_ge16 hk (by assumption)
      refine ab_iconst (pc := 59) (v := 0) dX4_makes_59 (by decide) ?_
      exact ab_reti (pc := 60) dX4_makes_60 rfl ⟨_, rfl, hP⟩
    · have hk2 := m_lt16 hk (by assumption)
      refine ab_aload_n (pc := 46) dX4_makes_46 rfl rfl ?_
      refine ab_getr (pc := 47) dX4_makes_47 fX4_25 rfl rfl ?_
      refine ab_iload_n (pc := 50) dX4_makes_50 rfl rfl ?_
      refine ab_iconst (pc := 51) (v := 0) dX4_makes_51 (by decide) ?_
      refine ab_iast (pc := 52) dX4_makes_52 rfl (vp_in_nI hk2 (by omega)) ?_
      refine ab_iinc (pc := 53) (v := 1) dX4_makes_53 rfl (by decide) rfl ?_
      refine ab_goto (pc := 56) 40 dX4_makes_56 (by decide) ?_
      refine ab_weak [(0, ab_R 0), (2, ab_I (nI k + 1))] ⟨rfl, rfl, trivial⟩ ?_
      rw [nI_1]
      exact ab_heq (m_mz_s hk2) (ih (k + 1) (by omega) (by omega))

set_option maxRecDepth 100000 in
set_option maxHeartbeats 4000000 in
theorem kX4_makes {l : Launch} {d : Nat} {h : ab_H} {u : Nat} {n : Int32} (hu : h 0 28 = nI u) (hu2 : u < 70) : ab_C l layM (d + 1) mX4_makes [ab_R 0, ab_I n] h (ab_qi fun r h' => r = m_makesR n ∧ h' = m_makes h n) := by
  refine ab_enter (by decide) (Nat.le_of_ble_eq_true rfl) ?_
  refine ab_iload_n (pc := 0) dX4_makes_0 rfl rfl ?_
  refine ab_if_ge (pc := 1) 10 dX4_makes_1 (by decide) (fun c1 => ?_) (fun c1 => ?_)
  · refine ab_iload_n (pc := 10) dX4_makes_10 rfl rfl ?_
    refine ab_bipush (pc := 11) (v := 16) dX4_makes_11 (by decide) ?_
    refine ab_icmp_le (pc := 13) 22 dX4_makes_13 (by decide) (fun c13 => ?_) (fun c13 => ?_)
    · refine ab_aload_n (pc := 22) dX4_makes_22 rfl rfl ?_
      refine ab_bipush (pc := 23) (v := 6) dX4_makes_23 (by decide) ?_
      refine ab_iconst (pc := 25) (v := 0) dX4_makes_25 (by decide) ?_
      refine ab_aload_n (pc := 26) dX4_makes_26 rfl rfl ?_
      refine ab_geti (pc := 27) dX4_makes_27 fX4_28 rfl rfl ?_
      refine ab_V3 (pc := 30) dX4_makes_30 mvX4_151 rfl rfl (kX4_remember (by assumption) (by assumption)) (ab_kv fun h30 e30 => ?_)
      obtain rfl := e30.symm
      refine ab_aload_n (pc := 33) dX4_makes_33 rfl rfl ?_
      refine ab_iload_n (pc := 34) dX4_makes_34 rfl rfl ?_
      refine ab_puti (pc := 35) dX4_makes_35 fwX4_28 rfl rfl ?_
      refine ab_iconst (pc := 38) (v := 0) dX4_makes_38 (by decide) ?_
      refine ab_istore_n (pc := 39) dX4_makes_39 rfl rfl ?_
      refine ab_weak [(0, ab_R 0), (2, ab_I (nI 0))] ⟨rfl, rfl, trivial⟩ ?_
      refine ab_heq ?_ (lpX4_makes (h := ab_up (m_rem h 6 0 (h 0 7)) 0 7 n) ?_ 17 0 (by omega) (by omega))
      · rw [m_z_0, ab_upA_0]
      · exact ⟨by rw [m_makesR, if_pos c1, if_pos c13], by rw [m_makes, if_pos c1, if_pos c13]; rfl⟩
    · refine ab_aload_n (pc := 16) dX4_makes_16 rfl rfl ?_
      refine ab_iconst (pc := 17) (v := 4) dX4_makes_17 (by decide) ?_
      refine ab_V1 (pc := 18) dX4_makes_18 mvX4_155 rfl rfl (kX4_fails) (ab_ki fun r18 h18 e18 => ?_)
      obtain ⟨rfl, rfl⟩ := And.intro e18.1.symm e18.2.symm
      exact ab_reti (pc := 21) dX4_makes_21 rfl ⟨_, rfl, ⟨by rw [m_makesR, if_pos c1, if_neg c13], by rw [m_makes, if_pos c1, if_neg c13]⟩⟩
  · refine ab_aload_n (pc := 4) dX4_makes_4 rfl rfl ?_
    refine ab_iconst (pc := 5) (v := 3) dX4_makes_5 (by decide) ?_
    refine ab_V1 (pc := 6) dX4_makes_6 mvX4_155 rfl rfl (kX4_fails) (ab_ki fun r6 h6 e6 => ?_)
    obtain ⟨rfl, rfl⟩ := And.intro e6.1.symm e6.2.symm
    exact ab_reti (pc := 9) dX4_makes_9 rfl ⟨_, rfl, ⟨by rw [m_makesR, if_neg c1], by rw [m_makes, if_neg c1]⟩⟩

theorem m_onRow_f {h : ab_H} {s a b : Int32} (c1 : ¬ m_rowI h s a b < 0) (c2 : m_rowI h s a b < h 0 7) : m_rowOut h s a b = false := by
  simp only [m_rowOut, c1, c2]
  rfl
theorem m_onRow_t {h : ab_H} {s a b : Int32} (e : m_rowI h s a b < 0 ∨ ¬ m_rowI h s a b < h 0 7) : 1 = b2i (m_rowOut h s a b) ∧ ab_up h 0 21 2 = m_onRow h s a b := by
  have e2 : m_rowOut h s a b = true := by
    rcases e with e | e
    · simp only [m_rowOut, e, decide_true, Bool.true_or]
    · simp only [m_rowOut, e, not_false_eq_true, decide_true, Bool.or_true]
  exact ⟨by rw [e2]; rfl, by rw [m_onRow, if_pos e2]⟩
set_option maxRecDepth 100000 in
set_option maxHeartbeats 4000000 in
theorem kX4_onRow {l : Launch} {d : Nat} {h : ab_H} {u : Nat} {s a b : Int32} (hu : h 0 28 = nI u) (hu2 : u < 70) (ha : vp_in a 8) (hb : vp_in b 8) (hp : ∀ i : Int32, ¬ i < 0 → i < h 0 7 → vp_in i 16) : ab_C l layM (d + 1) mX4_onRow [ab_R 0, ab_I s, ab_I a, ab_I b] h (ab_qi fun r h' => r = b2i (m_rowOut h s a b) ∧ h' = m_onRow h s a b) := by
  refine ab_enter (by decide) (Nat.le_of_ble_eq_true rfl) ?_
  refine ab_aload_n (pc := 0) dX4_onRow_0 rfl rfl ?_
  refine ab_getr (pc := 1) dX4_onRow_1 fX4_22 rfl rfl ?_
  refine ab_iload_n (pc := 4) dX4_onRow_4 rfl rfl ?_
  refine ab_iconst (pc := 5) (v := 4) dX4_onRow_5 (by decide) ?_
  refine ab_icmp_ne (pc := 6) 13 dX4_onRow_6 (by decide) (fun c6 => ?_) (fun c6 => ?_)
  · refine ab_iload_n (pc := 13) dX4_onRow_13 rfl rfl ?_
    refine ab_iald (pc := 14) dX4_onRow_14 rfl (by assumption) ?_
    refine ab_topi (y := m_rowI h s a b) (by first | rw [m_rowI, if_pos c6] | rw [m_rowI, if_neg c6]) ?_
    refine ab_istore (pc := 15) dX4_onRow_15 rfl ?_
    refine ab_iload (pc := 17) dX4_onRow_17 rfl ?_
    refine ab_if_lt (pc := 19) 31 dX4_onRow_19 (by decide) (fun c19 => ?_) (fun c19 => ?_)
    · refine ab_aload_n (pc := 31) dX4_onRow_31 rfl rfl ?_
      refine ab_iconst (pc := 32) (v := 2) dX4_onRow_32 (by decide) ?_
      refine ab_V1 (pc := 33) dX4_onRow_33 mvX4_155 rfl rfl (kX4_fails) (ab_ki fun r33 h33 e33 => ?_)
      obtain ⟨rfl, rfl⟩ := And.intro e33.1.symm e33.2.symm
      exact ab_reti (pc := 36) dX4_onRow_36 rfl ⟨_, rfl, (m_onRow_t (by first | exact Or.inl c19 | exact Or.inr c28))⟩
    · refine ab_iload (pc := 22) dX4_onRow_22 rfl ?_
      refine ab_aload_n (pc := 24) dX4_onRow_24 rfl rfl ?_
      refine ab_geti (pc := 25) dX4_onRow_25 fX4_28 rfl rfl ?_
      refine ab_icmp_lt (pc := 28) 37 dX4_onRow_28 (by decide) (fun c28 => ?_) (fun c28 => ?_)
      · refine ab_iload_n (pc := 37) dX4_onRow_37 rfl rfl ?_
        refine ab_iconst (pc := 38) (v := 4) dX4_onRow_38 (by decide) ?_
        refine ab_icmp_ne (pc := 39) 57 dX4_onRow_39 (by decide) (fun c39 => ?_) (fun c39 => ?_)
        · refine ab_aload_n (pc := 57) dX4_onRow_57 rfl rfl ?_
          refine ab_iconst (pc := 58) (v := 5) dX4_onRow_58 (by decide) ?_
          refine ab_iload (pc := 59) dX4_onRow_59 rfl ?_
          refine ab_aload_n (pc := 61) dX4_onRow_61 rfl rfl ?_
          refine ab_getr (pc := 62) dX4_onRow_62 fX4_25 rfl rfl ?_
          refine ab_iload (pc := 65) dX4_onRow_65 rfl ?_
          refine ab_iald (pc := 67) dX4_onRow_67 rfl (hp _ c19 c28) ?_
          refine ab_V3 (pc := 68) dX4_onRow_68 mvX4_151 rfl rfl (kX4_remember (by assumption) (by assumption)) (ab_kv fun h68 e68 => ?_)
          obtain rfl := e68.symm
          refine ab_aload_n (pc := 71) dX4_onRow_71 rfl rfl ?_
          refine ab_getr (pc := 72) dX4_onRow_72 fX4_25 rfl rfl ?_
          refine ab_iload (pc := 75) dX4_onRow_75 rfl ?_
          refine ab_aload_n (pc := 77) dX4_onRow_77 rfl rfl ?_
          refine ab_getr (pc := 78) dX4_onRow_78 fX4_22 rfl rfl ?_
          refine ab_iload_n (pc := 81) dX4_onRow_81 rfl rfl ?_
          refine ab_iald (pc := 82) dX4_onRow_82 rfl hb ?_
          refine ab_topi (by (try simp only [ab_rd, ab_rdA, Nat.reduceEqDiff, reduceIte]); exact rfl) ?_
          refine ab_iast (pc := 83) dX4_onRow_83 rfl (hp _ c19 c28) ?_
          refine ab_iconst (pc := 84) (v := 0) dX4_onRow_84 (by decide) ?_
          exact ab_reti (pc := 85) dX4_onRow_85 rfl ⟨_, rfl, ⟨by rw [m_onRow_f c19 c28]; rfl, by rw [m_onRow, m_onRow_f c19 c28, if_neg (by decide), if_neg c39]⟩⟩
        · refine ab_aload_n (pc := 42) dX4_onRow_42 rfl rfl ?_
          refine ab_getr (pc := 43) dX4_onRow_43 fX4_22 rfl rfl ?_
          refine ab_iload_n (pc := 46) dX4_onRow_46 rfl rfl ?_
          refine ab_aload_n (pc := 47) dX4_onRow_47 rfl rfl ?_
          refine ab_getr (pc := 48) dX4_onRow_48 fX4_25 rfl rfl ?_
          refine ab_iload (pc := 51) dX4_onRow_51 rfl ?_
          refine ab_iald (pc := 53) dX4_onRow_53 rfl (hp _ c19 c28) ?_
          refine ab_iast (pc := 54) dX4_onRow_54 rfl ha ?_
          refine ab_iconst (pc := 55) (v := 0) dX4_onRow_55 (by decide) ?_
          exact ab_reti (pc := 56) dX4_onRow_56 rfl ⟨_, rfl, ⟨by rw [m_onRow_f c19 c28]; rfl, by rw [m_onRow, m_onRow_f c19 c28, if_neg (by decide), if_pos c39]⟩⟩
      · refine ab_aload_n (pc := 31) dX4_onRow_31 rfl rfl ?_
        refine ab_iconst (pc := 32) (v := 2) dX4_onRow_32 (by decide) ?_
        refine ab_V1 (pc := 33) dX4_onRow_33 mvX4_155 rfl rfl (kX4_fails) (ab_ki fun r33 h33 e33 => ?_)
        obtain ⟨rfl, rfl⟩ := And.intro e33.1.symm e33.2.symm
        exact ab_reti (pc := 36) dX4_onRow_36 rfl ⟨_, rfl, (m_onRow_t (by first | exact Or.inl c19 | exact Or.inr c28))⟩
  · refine ab_iload_n (pc := 9) dX4_onRow_9 rfl rfl ?_
    refine ab_goto (pc := 10) 14 dX4_onRow_10 (by decide) ?_
    refine ab_iald (pc := 14) dX4_onRow_14 rfl (by assumption) ?_
    refine ab_topi (y := m_rowI h s a b) (by first | rw [m_rowI, if_pos c6] | rw [m_rowI, if_neg c6]) ?_
    refine ab_istore (pc := 15) dX4_onRow_15 rfl ?_
    refine ab_iload (pc := 17) dX4_onRow_17 rfl ?_
    refine ab_if_lt (pc := 19) 31 dX4_onRow_19 (by decide) (fun c19 => ?_) (fun c19 => ?_)
    · refine ab_aload_n (pc := 31) dX4_onRow_31 rfl rfl ?_
      refine ab_iconst (pc := 32) (v := 2) dX4_onRow_32 (by decide) ?_
      refine ab_V1 (pc := 33) dX4_onRow_33 mvX4_155 rfl rfl (kX4_fails) (ab_ki fun r33 h33 e33 => ?_)
      obtain ⟨rfl, rfl⟩ := And.intro e33.1.symm e33.2.symm
      exact ab_reti (pc := 36) dX4_onRow_36 rfl ⟨_, rfl, (m_onRow_t (by first | exact Or.inl c19 | exact Or.inr c28))⟩
    · refine ab_iload (pc := 22) dX4_onRow_22 rfl ?_
      refine ab_aload_n (pc := 24) dX4_onRow_24 rfl rfl ?_
      refine ab_geti (pc := 25) dX4_onRow_25 fX4_28 rfl rfl ?_
      refine ab_icmp_lt (pc := 28) 37 dX4_onRow_28 (by decide) (fun c28 => ?_) (fun c28 => ?_)
      · refine ab_iload_n (pc := 37) dX4_onRow_37 rfl rfl ?_
        refine ab_iconst (pc := 38) (v := 4) dX4_onRow_38 (by decide) ?_
        refine ab_icmp_ne (pc := 39) 57 dX4_onRow_39 (by decide) (fun c39 => ?_) (fun c39 => ?_)
        · refine ab_aload_n (pc := 57) dX4_onRow_57 rfl rfl ?_
          refine ab_iconst (pc := 58) (v := 5) dX4_onRow_58 (by decide) ?_
          refine ab_iload (pc := 59) dX4_onRow_59 rfl ?_
          refine ab_aload_n (pc := 61) dX4_onRow_61 rfl rfl ?_
          refine ab_getr (pc := 62) dX4_onRow_62 fX4_25 rfl rfl ?_
          refine ab_iload (pc := 65) dX4_onRow_65 rfl ?_
          refine ab_iald (pc := 67) dX4_onRow_67 rfl (hp _ c19 c28) ?_
          refine ab_V3 (pc := 68) dX4_onRow_68 mvX4_151 rfl rfl (kX4_remember (by assumption) (by assumption)) (ab_kv fun h68 e68 => ?_)
          obtain rfl := e68.symm
          refine ab_aload_n (pc := 71) dX4_onRow_71 rfl rfl ?_
          refine ab_getr (pc := 72) dX4_onRow_72 fX4_25 rfl rfl ?_
          refine ab_iload (pc := 75) dX4_onRow_75 rfl ?_
          refine ab_aload_n (pc := 77) dX4_onRow_77 rfl rfl ?_
          refine ab_getr (pc := 78) dX4_onRow_78 fX4_22 rfl rfl ?_
          refine ab_iload_n (pc := 81) dX4_onRow_81 rfl rfl ?_
          refine ab_iald (pc := 82) dX4_onRow_82 rfl hb ?_
          refine ab_topi (by (try simp only [ab_rd, ab_rdA, Nat.reduceEqDiff, reduceIte]); exact rfl) ?_
          refine ab_iast (pc := 83) dX4_onRow_83 rfl (hp _ c19 c28) ?_
          refine ab_iconst (pc := 84) (v := 0) dX4_onRow_84 (by decide) ?_
          exact ab_reti (pc := 85) dX4_onRow_85 rfl ⟨_, rfl, ⟨by rw [m_onRow_f c19 c28]; rfl, by rw [m_onRow, m_onRow_f c19 c28, if_neg (by decide), if_neg c39]⟩⟩
        · refine ab_aload_n (pc := 42) dX4_onRow_42 rfl rfl ?_
          refine ab_getr (pc := 43) dX4_onRow_43 fX4_22 rfl rfl ?_
          refine ab_iload_n (pc := 46) dX4_onRow_46 rfl rfl ?_
          refine ab_aload_n (pc := 47) dX4_onRow_47 rfl rfl ?_
          refine ab_getr (pc := 48) dX4_onRow_48 fX4_25 rfl rfl ?_
          refine ab_iload (pc := 51) dX4_onRow_51 rfl ?_
          refine ab_iald (pc := 53) dX4_onRow_53 rfl (hp _ c19 c28) ?_
          refine ab_iast (pc := 54) dX4_onRow_54 rfl ha ?_
          refine ab_iconst (pc := 55) (v := 0) dX4_onRow_55 (by decide) ?_
          exact ab_reti (pc := 56) dX4_onRow_56 rfl ⟨_, rfl, ⟨by rw [m_onRow_f c19 c28]; rfl, by rw [m_onRow, m_onRow_f c19 c28, if_neg (by decide), if_pos c39]⟩⟩
      · refine ab_aload_n (pc := 31) dX4_onRow_31 rfl rfl ?_
        refine ab_iconst (pc := 32) (v := 2) dX4_onRow_32 (by decide) ?_
        refine ab_V1 (pc := 33) dX4_onRow_33 mvX4_155 rfl rfl (kX4_fails) (ab_ki fun r33 h33 e33 => ?_)
        obtain ⟨rfl, rfl⟩ := And.intro e33.1.symm e33.2.symm
        exact ab_reti (pc := 36) dX4_onRow_36 rfl ⟨_, rfl, (m_onRow_t (by first | exact Or.inl c19 | exact Or.inr c28))⟩

set_option maxRecDepth 100000 in
set_option maxHeartbeats 4000000 in
theorem kX4_uses {l : Launch} {d : Nat} {h : ab_H} {x : Int32} (hx : ¬ x = 0 → vp_in x 80) (hlg : ¬ h 0 15 = 100 → vp_in (h 0 15) 100) : ab_C l layM (d + 1) mX4_uses [ab_R 0, ab_I x] h (ab_qi fun r h' => r = m_usesR h x ∧ h' = m_uses h x) := by
  refine ab_enter (by decide) (Nat.le_of_ble_eq_true rfl) ?_
  refine ab_iload_n (pc := 0) dX4_uses_0 rfl rfl ?_
  refine ab_if_ne (pc := 1) 10 dX4_uses_1 (by decide) (fun c1 => ?_) (fun c1 => ?_)
  · refine ab_aload_n (pc := 10) dX4_uses_10 rfl rfl ?_
    refine ab_getr (pc := 11) dX4_uses_11 fX4_35 rfl rfl ?_
    refine ab_iload_n (pc := 14) dX4_uses_14 rfl rfl ?_
    refine ab_iald (pc := 15) dX4_uses_15 rfl (hx c1) ?_
    refine ab_iconst (pc := 16) (v := 2) dX4_uses_16 (by decide) ?_
    refine ab_icmp_ne (pc := 17) 27 dX4_uses_17 (by decide) (fun c17 => ?_) (fun c17 => ?_)
    · refine ab_aload_n (pc := 27) dX4_uses_27 rfl rfl ?_
      refine ab_getr (pc := 28) dX4_uses_28 fX4_38 rfl rfl ?_
      refine ab_iload_n (pc := 31) dX4_uses_31 rfl rfl ?_
      refine ab_dup2 (pc := 32) dX4_uses_32 rfl rfl ?_
      refine ab_iald (pc := 33) dX4_uses_33 rfl (hx c1) ?_
      refine ab_iconst (pc := 34) (v := 1) dX4_uses_34 (by decide) ?_
      refine ab_iadd (pc := 35) dX4_uses_35 ?_
      refine ab_iast (pc := 36) dX4_uses_36 rfl (hx c1) ?_
      refine ab_aload_n (pc := 37) dX4_uses_37 rfl rfl ?_
      refine ab_aload_n (pc := 38) dX4_uses_38 rfl rfl ?_
      refine ab_getr (pc := 39) dX4_uses_39 fX4_38 rfl rfl ?_
      refine ab_iload_n (pc := 42) dX4_uses_42 rfl rfl ?_
      refine ab_iald (pc := 43) dX4_uses_43 rfl (hx c1) ?_
      refine ab_topi (by (try simp only [ab_rd, ab_rdA, Nat.reduceEqDiff, reduceIte]); exact rfl) ?_
      refine ab_V1 (pc := 44) dX4_uses_44 mvX4_148 rfl rfl (kX4_note hlg) (ab_kv fun h44 e44 => ?_)
      obtain rfl := e44.symm
      refine ab_iconst (pc := 47) (v := 0) dX4_uses_47 (by decide) ?_
      exact ab_reti (pc := 48) dX4_uses_48 rfl ⟨_, rfl, ⟨by rw [m_usesR, if_neg c1, if_neg c17], by rw [m_uses, if_neg c1, if_neg c17]⟩⟩
    · refine ab_aload_n (pc := 20) dX4_uses_20 rfl rfl ?_
      refine ab_bipush (pc := 21) (v := 6) dX4_uses_21 (by decide) ?_
      refine ab_V1 (pc := 23) dX4_uses_23 mvX4_155 rfl rfl (kX4_fails) (ab_ki fun r23 h23 e23 => ?_)
      obtain ⟨rfl, rfl⟩ := And.intro e23.1.symm e23.2.symm
      exact ab_reti (pc := 26) dX4_uses_26 rfl ⟨_, rfl, ⟨by rw [m_usesR, if_neg c1, if_pos c17], by rw [m_uses, if_neg c1, if_pos c17]⟩⟩
  · refine ab_aload_n (pc := 4) dX4_uses_4 rfl rfl ?_
    refine ab_iconst (pc := 5) (v := 5) dX4_uses_5 (by decide) ?_
    refine ab_V1 (pc := 6) dX4_uses_6 mvX4_155 rfl rfl (kX4_fails) (ab_ki fun r6 h6 e6 => ?_)
    obtain ⟨rfl, rfl⟩ := And.intro e6.1.symm e6.2.symm
    exact ab_reti (pc := 9) dX4_uses_9 rfl ⟨_, rfl, ⟨by rw [m_usesR, if_pos c1], by rw [m_uses, if_pos c1]⟩⟩

/-- what a plain step answers: the way -/
def m_plainR (h : ab_H) (s a b : Int32) : Int32 :=
  if s = 3 then (if h 5 b.toNatClampNeg = 0 then 1 else 0) else if s = 4 then b2i (m_rowOut h s a b) else if s = 5 then b2i (m_rowOut h s a b)
  else if s = 6 then m_makesR (h 5 a.toNatClampNeg) else if s = 8 then m_usesR h (h 7 a.toNatClampNeg) else if s = 9 then 1
  else if s = 17 then 100 + b else if s = 18 then 200 + b else if s = 19 then 2 else 0
def m_plain (h : ab_H) (s a b : Int32) : ab_H :=
  if s = 0 then m_note h (h 5 a.toNatClampNeg)
  else if s = 1 then m_rem (ab_up h 5 a.toNatClampNeg (h 5 a.toNatClampNeg + b)) 1 a b
  else if s = 2 then ab_up (m_rem h 2 a (h 5 a.toNatClampNeg)) 5 a.toNatClampNeg b
  else if s = 3 then (if h 5 b.toNatClampNeg = 0 then ab_up h 0 21 1 else ab_up (m_rem h 2 a (h 5 a.toNatClampNeg)) 5 a.toNatClampNeg (m_rem h 2 a (h 5 a.toNatClampNeg) 5 a.toNatClampNeg / m_rem h 2 a (h 5 a.toNatClampNeg) 5 b.toNatClampNeg))
  else if s = 4 then m_onRow h s a b else if s = 5 then m_onRow h s a b
  else if s = 6 then m_makes h (h 5 a.toNatClampNeg)
  else if s = 7 then (if b = 0 then ab_up (m_rem h 7 a (h 7 a.toNatClampNeg)) 7 a.toNatClampNeg 0 else ab_up (m_boxH (m_rem h 7 a (h 7 a.toNatClampNeg)) b) 7 a.toNatClampNeg (m_rem h 7 a (h 7 a.toNatClampNeg) 0 13 + 1 - 1))
  else if s = 8 then m_uses h (h 7 a.toNatClampNeg)
  else if s = 9 then ab_up h 0 21 b
  else if s = 19 then ab_up h 0 22 (h 5 a.toNatClampNeg)
  else if s = 23 then (if h 0 30 ≤ 0 then h else ab_up h 0 28 (h 17 (h 0 30 - 1).toNatClampNeg))
  else h
theorem m_rem_5 (h : ab_H) (s a w : Int32) : m_rem h s a w 5 = h 5 := by
  unfold m_rem
  split
  · rfl
  · split <;> rfl
theorem m_rem_013 (h : ab_H) (s a w : Int32) : m_rem h s a w 0 13 = h 0 13 := by
  unfold m_rem
  split
  · rfl
  · split <;> rfl
set_option maxRecDepth 100000 in
set_option maxHeartbeats 4000000 in
theorem kX4_plain {l : Launch} {d : Nat} {h : ab_H} {u : Nat} {s a b : Int32} (hu : h 0 28 = nI u) (hu2 : u < 70) (hA : s = 0 ∨ s = 1 ∨ s = 2 ∨ s = 3 ∨ s = 4 ∨ s = 5 ∨ s = 6 ∨ s = 19 → vp_in a 8) (hB : s = 3 ∨ s = 4 ∨ s = 5 → vp_in b 8) (hS : s = 7 ∨ s = 8 → vp_in a 4) (hlg : ¬ h 0 15 = 100 → vp_in (h 0 15) 100) (hp : ∀ i : Int32, ¬ i < 0 → i < h 0 7 → vp_in i 16) (hbx : vp_in (h 0 13) 80) (hsl : s = 8 → vp_in (h 7 a.toNatClampNeg) 80) (hmk : ¬ h 0 30 ≤ 0 → vp_in (h 0 30 - 1) 70) : ab_C l layM (d + 2) mX4_plain [ab_R 0, ab_I s, ab_I a, ab_I b] h (ab_qi fun r h' => r = m_plainR h s a b ∧ h' = m_plain h s a b) := by
  refine ab_enter (by decide) (Nat.le_of_ble_eq_true rfl) ?_
  refine ab_iload_n (pc := 0) dX4_plain_0 rfl rfl ?_
  refine ab_table (pc := 1) dX4_plain_1 (by decide) (by decide) (by decide) (by decide) ?_
  refine ab_tw_c 0 112 (by decide) (by decide) (fun s1 => ?_) (fun n1_0 => ?_)
  · refine ab_aload_n (pc := 112) dX4_plain_112 rfl rfl ?_
    refine ab_aload_n (pc := 113) dX4_plain_113 rfl rfl ?_
    refine ab_getr (pc := 114) dX4_plain_114 fX4_22 rfl rfl ?_
    refine ab_iload_n (pc := 117) dX4_plain_117 rfl rfl ?_
    refine ab_iald (pc := 118) dX4_plain_118 rfl (hA (by simp only [s1]; decide)) ?_
    refine ab_V1 (pc := 119) dX4_plain_119 mvX4_148 rfl rfl (kX4_note hlg) (ab_kv fun h119 e119 => ?_)
    obtain rfl := e119.symm
    refine ab_iconst (pc := 122) (v := 0) dX4_plain_122 (by decide) ?_
    exact ab_reti (pc := 123) dX4_plain_123 rfl ⟨_, rfl, ⟨by rw [m_plainR, if_neg (show ¬ s = 3 by rw [s1]; decide), if_neg (show ¬ s = 4 by rw [s1]; decide), if_neg (show ¬ s = 5 by rw [s1]; decide), if_neg (show ¬ s = 6 by rw [s1]; decide), if_neg (show ¬ s = 8 by rw [s1]; decide), if_neg (show ¬ s = 9 by rw [s1]; decide), if_neg (show ¬ s = 17 by rw [s1]; decide), if_neg (show ¬ s = 18 by rw [s1]; decide), if_neg (show ¬ s = 19 by rw [s1]; decide)], by rw [m_plain, if_pos s1]⟩⟩
  refine ab_tw_c 1 124 (by decide) (by decide) (fun s1 => ?_) (fun n1_1 => ?_)
  · refine ab_aload_n (pc := 124) dX4_plain_124 rfl rfl ?_
    refine ab_getr (pc := 125) dX4_plain_125 fX4_22 rfl rfl ?_
    refine ab_iload_n (pc := 128) dX4_plain_128 rfl rfl ?_
    refine ab_dup2 (pc := 129) dX4_plain_129 rfl rfl ?_
    refine ab_iald (pc := 130) dX4_plain_130 rfl (hA (by simp only [s1]; decide)) ?_
    refine ab_iload_n (pc := 131) dX4_plain_131 rfl rfl ?_
    refine ab_iadd (pc := 132) dX4_plain_132 ?_
    refine ab_iast (pc := 133) dX4_plain_133 rfl (hA (by simp only [s1]; decide)) ?_
    refine ab_aload_n (pc := 134) dX4_plain_134 rfl rfl ?_
    refine ab_iconst (pc := 135) (v := 1) dX4_plain_135 (by decide) ?_
    refine ab_iload_n (pc := 136) dX4_plain_136 rfl rfl ?_
    refine ab_iload_n (pc := 137) dX4_plain_137 rfl rfl ?_
    refine ab_V3 (pc := 138) dX4_plain_138 mvX4_151 rfl rfl (kX4_remember (u := u) hu hu2) (ab_kv fun h138 e138 => ?_)
    obtain rfl := e138.symm
    refine ab_iconst (pc := 141) (v := 0) dX4_plain_141 (by decide) ?_
    exact ab_reti (pc := 142) dX4_plain_142 rfl ⟨_, rfl, ⟨by rw [m_plainR, if_neg (show ¬ s = 3 by rw [s1]; decide), if_neg (show ¬ s = 4 by rw [s1]; decide), if_neg (show ¬ s = 5 by rw [s1]; decide), if_neg (show ¬ s = 6 by rw [s1]; decide), if_neg (show ¬ s = 8 by rw [s1]; decide), if_neg (show ¬ s = 9 by rw [s1]; decide), if_neg (show ¬ s = 17 by rw [s1]; decide), if_neg (show ¬ s = 18 by rw [s1]; decide), if_neg (show ¬ s = 19 by rw [s1]; decide)], by rw [m_plain, if_neg n1_0, if_pos s1]⟩⟩
  refine ab_tw_c 2 143 (by decide) (by decide) (fun s1 => ?_) (fun n1_2 => ?_)
  · refine ab_aload_n (pc := 143) dX4_plain_143 rfl rfl ?_
    refine ab_iconst (pc := 144) (v := 2) dX4_plain_144 (by decide) ?_
    refine ab_iload_n (pc := 145) dX4_plain_145 rfl rfl ?_
    refine ab_aload_n (pc := 146) dX4_plain_146 rfl rfl ?_
    refine ab_getr (pc := 147) dX4_plain_147 fX4_22 rfl rfl ?_
    refine ab_iload_n (pc := 150) dX4_plain_150 rfl rfl ?_
    refine ab_iald (pc := 151) dX4_plain_151 rfl (hA (by simp only [s1]; decide)) ?_
    refine ab_V3 (pc := 152) dX4_plain_152 mvX4_151 rfl rfl (kX4_remember hu hu2) (ab_kv fun h152 e152 => ?_)
    obtain rfl := e152.symm
    refine ab_aload_n (pc := 155) dX4_plain_155 rfl rfl ?_
    refine ab_getr (pc := 156) dX4_plain_156 fX4_22 rfl rfl ?_
    refine ab_iload_n (pc := 159) dX4_plain_159 rfl rfl ?_
    refine ab_iload_n (pc := 160) dX4_plain_160 rfl rfl ?_
    refine ab_iast (pc := 161) dX4_plain_161 rfl (hA (by simp only [s1]; decide)) ?_
    refine ab_iconst (pc := 162) (v := 0) dX4_plain_162 (by decide) ?_
    exact ab_reti (pc := 163) dX4_plain_163 rfl ⟨_, rfl, ⟨by rw [m_plainR, if_neg (show ¬ s = 3 by rw [s1]; decide), if_neg (show ¬ s = 4 by rw [s1]; decide), if_neg (show ¬ s = 5 by rw [s1]; decide), if_neg (show ¬ s = 6 by rw [s1]; decide), if_neg (show ¬ s = 8 by rw [s1]; decide), if_neg (show ¬ s = 9 by rw [s1]; decide), if_neg (show ¬ s = 17 by rw [s1]; decide), if_neg (show ¬ s = 18 by rw [s1]; decide), if_neg (show ¬ s = 19 by rw [s1]; decide)], by rw [m_plain, if_neg n1_0, if_neg n1_1, if_pos s1]⟩⟩
  refine ab_tw_c 3 164 (by decide) (by decide) (fun s1 => ?_) (fun n1_3 => ?_)
  · refine ab_aload_n (pc := 164) dX4_plain_164 rfl rfl ?_
    refine ab_getr (pc := 165) dX4_plain_165 fX4_22 rfl rfl ?_
    refine ab_iload_n (pc := 168) dX4_plain_168 rfl rfl ?_
    refine ab_iald (pc := 169) dX4_plain_169 rfl (hB (by simp only [s1]; decide)) ?_
    refine ab_if_ne (pc := 170) 179 dX4_plain_170 (by decide) (fun c170 => ?_) (fun c170 => ?_)
    · refine ab_aload_n (pc := 179) dX4_plain_179 rfl rfl ?_
      refine ab_iconst (pc := 180) (v := 2) dX4_plain_180 (by decide) ?_
      refine ab_iload_n (pc := 181) dX4_plain_181 rfl rfl ?_
      refine ab_aload_n (pc := 182) dX4_plain_182 rfl rfl ?_
      refine ab_getr (pc := 183) dX4_plain_183 fX4_22 rfl rfl ?_
      refine ab_iload_n (pc := 186) dX4_plain_186 rfl rfl ?_
      refine ab_iald (pc := 187) dX4_plain_187 rfl (hA (by simp only [s1]; decide)) ?_
      refine ab_V3 (pc := 188) dX4_plain_188 mvX4_151 rfl rfl (kX4_remember hu hu2) (ab_kv fun h188 e188 => ?_)
      obtain rfl := e188.symm
      refine ab_aload_n (pc := 191) dX4_plain_191 rfl rfl ?_
      refine ab_getr (pc := 192) dX4_plain_192 fX4_22 rfl rfl ?_
      refine ab_iload_n (pc := 195) dX4_plain_195 rfl rfl ?_
      refine ab_aload_n (pc := 196) dX4_plain_196 rfl rfl ?_
      refine ab_getr (pc := 197) dX4_plain_197 fX4_22 rfl rfl ?_
      refine ab_iload_n (pc := 200) dX4_plain_200 rfl rfl ?_
      refine ab_iald (pc := 201) dX4_plain_201 rfl (hA (by simp only [s1]; decide)) ?_
      refine ab_topi (by (try simp only [ab_rd, ab_rdA, Nat.reduceEqDiff, reduceIte]); exact rfl) ?_
      refine ab_aload_n (pc := 202) dX4_plain_202 rfl rfl ?_
      refine ab_getr (pc := 203) dX4_plain_203 fX4_22 rfl rfl ?_
      refine ab_iload_n (pc := 206) dX4_plain_206 rfl rfl ?_
      refine ab_iald (pc := 207) dX4_plain_207 rfl (hB (by simp only [s1]; decide)) ?_
      refine ab_topi (by (try simp only [ab_rd, ab_rdA, Nat.reduceEqDiff, reduceIte]); exact rfl) ?_
      refine ab_idiv (pc := 208) dX4_plain_208 (by rw [m_rem_5]; exact c170) ?_
      refine ab_iast (pc := 209) dX4_plain_209 rfl (hA (by simp only [s1]; decide)) ?_
      refine ab_iconst (pc := 210) (v := 0) dX4_plain_210 (by decide) ?_
      exact ab_reti (pc := 211) dX4_plain_211 rfl ⟨_, rfl, ⟨by rw [m_plainR, if_pos s1, if_neg c170], by rw [m_plain, if_neg n1_0, if_neg n1_1, if_neg n1_2, if_pos s1, if_neg c170]⟩⟩
    · refine ab_aload_n (pc := 173) dX4_plain_173 rfl rfl ?_
      refine ab_iconst (pc := 174) (v := 1) dX4_plain_174 (by decide) ?_
      refine ab_V1 (pc := 175) dX4_plain_175 mvX4_155 rfl rfl (kX4_fails) (ab_ki fun r175 h175 e175 => ?_)
      obtain ⟨rfl, rfl⟩ := And.intro e175.1.symm e175.2.symm
      exact ab_reti (pc := 178) dX4_plain_178 rfl ⟨_, rfl, ⟨by rw [m_plainR, if_pos s1, if_pos c170], by rw [m_plain, if_neg n1_0, if_neg n1_1, if_neg n1_2, if_pos s1, if_pos c170]⟩⟩
  refine ab_tw_c 4 212 (by decide) (by decide) (fun s1 => ?_) (fun n1_4 => ?_)
  · refine ab_aload_n (pc := 212) dX4_plain_212 rfl rfl ?_
    refine ab_iload_n (pc := 213) dX4_plain_213 rfl rfl ?_
    refine ab_iload_n (pc := 214) dX4_plain_214 rfl rfl ?_
    refine ab_iload_n (pc := 215) dX4_plain_215 rfl rfl ?_
    refine ab_V3 (pc := 216) dX4_plain_216 mvX4_158 rfl rfl (kX4_onRow hu hu2 (hA (by simp only [s1]; decide)) (hB (by simp only [s1]; decide)) hp) (ab_ki fun r216 h216 e216 => ?_)
    obtain ⟨rfl, rfl⟩ := And.intro e216.1.symm e216.2.symm
    exact ab_reti (pc := 219) dX4_plain_219 rfl ⟨_, rfl, ⟨by simp [m_plainR, s1], by simp [m_plain, s1]⟩⟩
  refine ab_tw_c 5 212 (by decide) (by decide) (fun s1 => ?_) (fun n1_5 => ?_)
  · refine ab_aload_n (pc := 212) dX4_plain_212 rfl rfl ?_
    refine ab_iload_n (pc := 213) dX4_plain_213 rfl rfl ?_
    refine ab_iload_n (pc := 214) dX4_plain_214 rfl rfl ?_
    refine ab_iload_n (pc := 215) dX4_plain_215 rfl rfl ?_
    refine ab_V3 (pc := 216) dX4_plain_216 mvX4_158 rfl rfl (kX4_onRow hu hu2 (hA (by simp only [s1]; decide)) (hB (by simp only [s1]; decide)) hp) (ab_ki fun r216 h216 e216 => ?_)
    obtain ⟨rfl, rfl⟩ := And.intro e216.1.symm e216.2.symm
    exact ab_reti (pc := 219) dX4_plain_219 rfl ⟨_, rfl, ⟨by simp [m_plainR, s1], by simp [m_plain, s1]⟩⟩
  refine ab_tw_c 6 220 (by decide) (by decide) (fun s1 => ?_) (fun n1_6 => ?_)
  · refine ab_aload_n (pc := 220) dX4_plain_220 rfl rfl ?_
    refine ab_aload_n (pc := 221) dX4_plain_221 rfl rfl ?_
    refine ab_getr (pc := 222) dX4_plain_222 fX4_22 rfl rfl ?_
    refine ab_iload_n (pc := 225) dX4_plain_225 rfl rfl ?_
    refine ab_iald (pc := 226) dX4_plain_226 rfl (hA (by simp only [s1]; decide)) ?_
    refine ab_V1 (pc := 227) dX4_plain_227 mvX4_162 rfl rfl (kX4_makes hu hu2) (ab_ki fun r227 h227 e227 => ?_)
    obtain ⟨rfl, rfl⟩ := And.intro e227.1.symm e227.2.symm
    exact ab_reti (pc := 230) dX4_plain_230 rfl ⟨_, rfl, ⟨by rw [m_plainR, if_neg n1_3, if_neg n1_4, if_neg n1_5, if_pos s1], by rw [m_plain, if_neg n1_0, if_neg n1_1, if_neg n1_2, if_neg n1_3, if_neg n1_4, if_neg n1_5, if_pos s1]⟩⟩
  refine ab_tw_c 7 231 (by decide) (by decide) (fun s1 => ?_) (fun n1_7 => ?_)
  · refine ab_aload_n (pc := 231) dX4_plain_231 rfl rfl ?_
    refine ab_bipush (pc := 232) (v := 7) dX4_plain_232 (by decide) ?_
    refine ab_iload_n (pc := 234) dX4_plain_234 rfl rfl ?_
    refine ab_aload_n (pc := 235) dX4_plain_235 rfl rfl ?_
    refine ab_getr (pc := 236) dX4_plain_236 fX4_32 rfl rfl ?_
    refine ab_iload_n (pc := 239) dX4_plain_239 rfl rfl ?_
    refine ab_iald (pc := 240) dX4_plain_240 rfl (hS (by simp only [s1]; decide)) ?_
    refine ab_V3 (pc := 241) dX4_plain_241 mvX4_151 rfl rfl (kX4_remember hu hu2) (ab_kv fun h241 e241 => ?_)
    obtain rfl := e241.symm
    refine ab_aload_n (pc := 244) dX4_plain_244 rfl rfl ?_
    refine ab_getr (pc := 245) dX4_plain_245 fX4_32 rfl rfl ?_
    refine ab_iload_n (pc := 248) dX4_plain_248 rfl rfl ?_
    refine ab_iload_n (pc := 249) dX4_plain_249 rfl rfl ?_
    refine ab_if_ne (pc := 250) 257 dX4_plain_250 (by decide) (fun c250 => ?_) (fun c250 => ?_)
    · refine ab_aload_n (pc := 257) dX4_plain_257 rfl rfl ?_
      refine ab_iload_n (pc := 258) dX4_plain_258 rfl rfl ?_
      refine ab_V1 (pc := 259) dX4_plain_259 mvX4_165 rfl rfl (kX4_box (by rw [m_rem_013]; exact hbx)) (ab_ki fun r259 h259 e259 => ?_)
      obtain ⟨rfl, rfl⟩ := And.intro e259.1.symm e259.2.symm
      refine ab_iast (pc := 262) dX4_plain_262 rfl (hS (by simp only [s1]; decide)) ?_
      refine ab_iconst (pc := 263) (v := 0) dX4_plain_263 (by decide) ?_
      exact ab_reti (pc := 264) dX4_plain_264 rfl ⟨_, rfl, (by first | exact ⟨by rw [m_plainR, if_neg n1_3, if_neg n1_4, if_neg n1_5, if_neg n1_6, if_neg (show ¬ s = 8 by rw [s1]; decide), if_neg (show ¬ s = 9 by rw [s1]; decide), if_neg (show ¬ s = 17 by rw [s1]; decide), if_neg (show ¬ s = 18 by rw [s1]; decide), if_neg (show ¬ s = 19 by rw [s1]; decide)], by rw [m_plain, if_neg n1_0, if_neg n1_1, if_neg n1_2, if_neg n1_3, if_neg n1_4, if_neg n1_5, if_neg n1_6, if_pos s1, if_pos c250]⟩ | exact ⟨by rw [m_plainR, if_neg n1_3, if_neg n1_4, if_neg n1_5, if_neg n1_6, if_neg (show ¬ s = 8 by rw [s1]; decide), if_neg (show ¬ s = 9 by rw [s1]; decide), if_neg (show ¬ s = 17 by rw [s1]; decide), if_neg (show ¬ s = 18 by rw [s1]; decide), if_neg (show ¬ s = 19 by rw [s1]; decide)], by rw [m_plain, if_neg n1_0, if_neg n1_1, if_neg n1_2, if_neg n1_3, if_neg n1_4, if_neg n1_5, if_neg n1_6, if_pos s1, if_neg c250]⟩)⟩
    · refine ab_iconst (pc := 253) (v := 0) dX4_plain_253 (by decide) ?_
      refine ab_goto (pc := 254) 262 dX4_plain_254 (by decide) ?_
      refine ab_iast (pc := 262) dX4_plain_262 rfl (hS (by simp only [s1]; decide)) ?_
      refine ab_iconst (pc := 263) (v := 0) dX4_plain_263 (by decide) ?_
      exact ab_reti (pc := 264) dX4_plain_264 rfl ⟨_, rfl, (by first | exact ⟨by rw [m_plainR, if_neg n1_3, if_neg n1_4, if_neg n1_5, if_neg n1_6, if_neg (show ¬ s = 8 by rw [s1]; decide), if_neg (show ¬ s = 9 by rw [s1]; decide), if_neg (show ¬ s = 17 by rw [s1]; decide), if_neg (show ¬ s = 18 by rw [s1]; decide), if_neg (show ¬ s = 19 by rw [s1]; decide)], by rw [m_plain, if_neg n1_0, if_neg n1_1, if_neg n1_2, if_neg n1_3, if_neg n1_4, if_neg n1_5, if_neg n1_6, if_pos s1, if_pos c250]⟩ | exact ⟨by rw [m_plainR, if_neg n1_3, if_neg n1_4, if_neg n1_5, if_neg n1_6, if_neg (show ¬ s = 8 by rw [s1]; decide), if_neg (show ¬ s = 9 by rw [s1]; decide), if_neg (show ¬ s = 17 by rw [s1]; decide), if_neg (show ¬ s = 18 by rw [s1]; decide), if_neg (show ¬ s = 19 by rw [s1]; decide)], by rw [m_plain, if_neg n1_0, if_neg n1_1, if_neg n1_2, if_neg n1_3, if_neg n1_4, if_neg n1_5, if_neg n1_6, if_pos s1, if_neg c250]⟩)⟩
  refine ab_tw_c 8 265 (by decide) (by decide) (fun s1 => ?_) (fun n1_8 => ?_)
  · refine ab_aload_n (pc := 265) dX4_plain_265 rfl rfl ?_
    refine ab_aload_n (pc := 266) dX4_plain_266 rfl rfl ?_
    refine ab_getr (pc := 267) dX4_plain_267 fX4_32 rfl rfl ?_
    refine ab_iload_n (pc := 270) dX4_plain_270 rfl rfl ?_
    refine ab_iald (pc := 271) dX4_plain_271 rfl (hS (by simp only [s1]; decide)) ?_
    refine ab_V1 (pc := 272) dX4_plain_272 mvX4_168 rfl rfl (kX4_uses (fun _ => hsl s1) hlg) (ab_ki fun r272 h272 e272 => ?_)
    obtain ⟨rfl, rfl⟩ := And.intro e272.1.symm e272.2.symm
    exact ab_reti (pc := 275) dX4_plain_275 rfl ⟨_, rfl, ⟨by rw [m_plainR, if_neg n1_3, if_neg n1_4, if_neg n1_5, if_neg n1_6, if_pos s1], by rw [m_plain, if_neg n1_0, if_neg n1_1, if_neg n1_2, if_neg n1_3, if_neg n1_4, if_neg n1_5, if_neg n1_6, if_neg n1_7, if_pos s1]⟩⟩
  refine ab_tw_c 9 276 (by decide) (by decide) (fun s1 => ?_) (fun n1_9 => ?_)
  · refine ab_aload_n (pc := 276) dX4_plain_276 rfl rfl ?_
    refine ab_iload_n (pc := 277) dX4_plain_277 rfl rfl ?_
    refine ab_V1 (pc := 278) dX4_plain_278 mvX4_155 rfl rfl (kX4_fails) (ab_ki fun r278 h278 e278 => ?_)
    obtain ⟨rfl, rfl⟩ := And.intro e278.1.symm e278.2.symm
    exact ab_reti (pc := 281) dX4_plain_281 rfl ⟨_, rfl, ⟨by rw [m_plainR, if_neg n1_3, if_neg n1_4, if_neg n1_5, if_neg n1_6, if_neg n1_8, if_pos s1], by rw [m_plain, if_neg n1_0, if_neg n1_1, if_neg n1_2, if_neg n1_3, if_neg n1_4, if_neg n1_5, if_neg n1_6, if_neg n1_7, if_neg n1_8, if_pos s1]⟩⟩
  refine ab_tw_c 10 329 (by decide) (by decide) (fun s1 => ?_) (fun n1_10 => ?_)
  · refine ab_iconst (pc := 329) (v := 0) dX4_plain_329 (by decide) ?_
    exact ab_reti (pc := 330) dX4_plain_330 rfl ⟨_, rfl, (by first | exact ⟨by rw [m_plainR, if_neg n1_3, if_neg n1_4, if_neg n1_5, if_neg n1_6, if_neg n1_8, if_neg n1_9, if_neg (show ¬ s = 17 by rw [s1]; decide), if_neg (show ¬ s = 18 by rw [s1]; decide), if_neg (show ¬ s = 19 by rw [s1]; decide)], by rw [m_plain, if_neg n1_0, if_neg n1_1, if_neg n1_2, if_neg n1_3, if_neg n1_4, if_neg n1_5, if_neg n1_6, if_neg n1_7, if_neg n1_8, if_neg n1_9, if_neg (show ¬ s = 19 by rw [s1]; decide), if_neg (show ¬ s = 23 by rw [s1]; decide)]⟩ | exact ⟨by rw [m_plainR, if_neg n1_3, if_neg n1_4, if_neg n1_5, if_neg n1_6, if_neg n1_8, if_neg n1_9, if_neg (show ¬ s = 17 by rw [s1]; decide), if_neg (show ¬ s = 18 by rw [s1]; decide), if_neg (show ¬ s = 19 by rw [s1]; decide)], by rw [m_plain, if_neg n1_0, if_neg n1_1, if_neg n1_2, if_neg n1_3, if_neg n1_4, if_neg n1_5, if_neg n1_6, if_neg n1_7, if_neg n1_8, if_neg n1_9, if_neg (show ¬ s = 19 by rw [s1]; decide), if_neg (show ¬ s = 23 by rw [s1]; decide)]⟩ | exact ⟨by rw [m_plainR, if_neg n1_3, if_neg n1_4, if_neg n1_5, if_neg n1_6, if_neg n1_8, if_neg n1_9, if_neg (show ¬ s = 17 by rw [s1]; decide), if_neg (show ¬ s = 18 by rw [s1]; decide), if_neg (show ¬ s = 19 by rw [s1]; decide)], by rw [m_plain, if_neg n1_0, if_neg n1_1, if_neg n1_2, if_neg n1_3, if_neg n1_4, if_neg n1_5, if_neg n1_6, if_neg n1_7, if_neg n1_8, if_neg n1_9, if_neg (show ¬ s = 19 by rw [s1]; decide), if_neg (show ¬ s = 23 by rw [s1]; decide)]⟩ | exact ⟨by rw [m_plainR, if_neg n1_3, if_neg n1_4, if_neg n1_5, if_neg n1_6, if_neg n1_8, if_neg n1_9, if_neg (show ¬ s = 17 by rw [s1]; decide), if_neg (show ¬ s = 18 by rw [s1]; decide), if_neg (show ¬ s = 19 by rw [s1]; decide)], by rw [m_plain, if_neg n1_0, if_neg n1_1, if_neg n1_2, if_neg n1_3, if_neg n1_4, if_neg n1_5, if_neg n1_6, if_neg n1_7, if_neg n1_8, if_neg n1_9, if_neg (show ¬ s = 19 by rw [s1]; decide), if_neg (show ¬ s = 23 by rw [s1]; decide)]⟩ | exact ⟨by rw [m_plainR, if_neg n1_3, if_neg n1_4, if_neg n1_5, if_neg n1_6, if_neg n1_8, if_neg n1_9, if_neg (show ¬ s = 17 by rw [s1]; decide), if_neg (show ¬ s = 18 by rw [s1]; decide), if_neg (show ¬ s = 19 by rw [s1]; decide)], by rw [m_plain, if_neg n1_0, if_neg n1_1, if_neg n1_2, if_neg n1_3, if_neg n1_4, if_neg n1_5, if_neg n1_6, if_neg n1_7, if_neg n1_8, if_neg n1_9, if_neg (show ¬ s = 19 by rw [s1]; decide), if_neg (show ¬ s = 23 by rw [s1]; decide)]⟩ | exact ⟨by rw [m_plainR, if_neg n1_3, if_neg n1_4, if_neg n1_5, if_neg n1_6, if_neg n1_8, if_neg n1_9, if_neg (show ¬ s = 17 by rw [s1]; decide), if_neg (show ¬ s = 18 by rw [s1]; decide), if_neg (show ¬ s = 19 by rw [s1]; decide)], by rw [m_plain, if_neg n1_0, if_neg n1_1, if_neg n1_2, if_neg n1_3, if_neg n1_4, if_neg n1_5, if_neg n1_6, if_neg n1_7, if_neg n1_8, if_neg n1_9, if_neg (show ¬ s = 19 by rw [s1]; decide), if_neg (show ¬ s = 23 by rw [s1]; decide)]⟩ | exact ⟨by rw [m_plainR, if_neg n1_3, if_neg n1_4, if_neg n1_5, if_neg n1_6, if_neg n1_8, if_neg n1_9, if_neg (show ¬ s = 17 by rw [s1]; decide), if_neg (show ¬ s = 18 by rw [s1]; decide), if_neg (show ¬ s = 19 by rw [s1]; decide)], by rw [m_plain, if_neg n1_0, if_neg n1_1, if_neg n1_2, if_neg n1_3, if_neg n1_4, if_neg n1_5, if_neg n1_6, if_neg n1_7, if_neg n1_8, if_neg n1_9, if_neg (show ¬ s = 19 by rw [s1]; decide), if_neg (show ¬ s = 23 by rw [s1]; decide)]⟩ | exact ⟨by rw [m_plainR, if_neg n1_3, if_neg n1_4, if_neg n1_5, if_neg n1_6, if_neg n1_8, if_neg n1_9, if_neg n1_17, if_neg n1_18, if_neg n1_19], by rw [m_plain, if_neg n1_0, if_neg n1_1, if_neg n1_2, if_neg n1_3, if_neg n1_4, if_neg n1_5, if_neg n1_6, if_neg n1_7, if_neg n1_8, if_neg n1_9, if_neg n1_19, if_neg (show ¬ s = 23 by rw [s1]; decide)]⟩ | exact ⟨by rw [m_plainR, if_neg n1_3, if_neg n1_4, if_neg n1_5, if_neg n1_6, if_neg n1_8, if_neg n1_9, if_neg n1_17, if_neg n1_18, if_neg n1_19], by rw [m_plain, if_neg n1_0, if_neg n1_1, if_neg n1_2, if_neg n1_3, if_neg n1_4, if_neg n1_5, if_neg n1_6, if_neg n1_7, if_neg n1_8, if_neg n1_9, if_neg n1_19, if_neg (show ¬ s = 23 by rw [s1]; decide)]⟩ | exact ⟨by rw [m_plainR, if_neg n1_3, if_neg n1_4, if_neg n1_5, if_neg n1_6, if_neg n1_8, if_neg n1_9, if_neg n1_17, if_neg n1_18, if_neg n1_19], by rw [m_plain, if_neg n1_0, if_neg n1_1, if_neg n1_2, if_neg n1_3, if_neg n1_4, if_neg n1_5, if_neg n1_6, if_neg n1_7, if_neg n1_8, if_neg n1_9, if_neg n1_19, if_neg (show ¬ s = 23 by rw [s1]; decide)]⟩ | exact ⟨by rw [m_plainR, if_neg n1_3, if_neg n1_4, if_neg n1_5, if_neg n1_6, if_neg n1_8, if_neg n1_9, if_neg n1_17, if_neg n1_18, if_neg n1_19], by rw [m_plain, if_neg n1_0, if_neg n1_1, if_neg n1_2, if_neg n1_3, if_neg n1_4, if_neg n1_5, if_neg n1_6, if_neg n1_7, if_neg n1_8, if_neg n1_9, if_neg n1_19, if_neg n1_23]⟩)⟩
  refine ab_tw_c 11 329 (by decide) (by decide) (fun s1 => ?_) (fun n1_11 => ?_)
  · refine ab_iconst (pc := 329) (v := 0) dX4_plain_329 (by decide) ?_
    exact ab_reti (pc := 330) dX4_plain_330 rfl ⟨_, rfl, (by first | exact ⟨by rw [m_plainR, if_neg n1_3, if_neg n1_4, if_neg n1_5, if_neg n1_6, if_neg n1_8, if_neg n1_9, if_neg (show ¬ s = 17 by rw [s1]; decide), if_neg (show ¬ s = 18 by rw [s1]; decide), if_neg (show ¬ s = 19 by rw [s1]; decide)], by rw [m_plain, if_neg n1_0, if_neg n1_1, if_neg n1_2, if_neg n1_3, if_neg n1_4, if_neg n1_5, if_neg n1_6, if_neg n1_7, if_neg n1_8, if_neg n1_9, if_neg (show ¬ s = 19 by rw [s1]; decide), if_neg (show ¬ s = 23 by rw [s1]; decide)]⟩ | exact ⟨by rw [m_plainR, if_neg n1_3, if_neg n1_4, if_neg n1_5, if_neg n1_6, if_neg n1_8, if_neg n1_9, if_neg (show ¬ s = 17 by rw [s1]; decide), if_neg (show ¬ s = 18 by rw [s1]; decide), if_neg (show ¬ s = 19 by rw [s1]; decide)], by rw [m_plain, if_neg n1_0, if_neg n1_1, if_neg n1_2, if_neg n1_3, if_neg n1_4, if_neg n1_5, if_neg n1_6, if_neg n1_7, if_neg n1_8, if_neg n1_9, if_neg (show ¬ s = 19 by rw [s1]; decide), if_neg (show ¬ s = 23 by rw [s1]; decide)]⟩ | exact ⟨by rw [m_plainR, if_neg n1_3, if_neg n1_4, if_neg n1_5, if_neg n1_6, if_neg n1_8, if_neg n1_9, if_neg (show ¬ s = 17 by rw [s1]; decide), if_neg (show ¬ s = 18 by rw [s1]; decide), if_neg (show ¬ s = 19 by rw [s1]; decide)], by rw [m_plain, if_neg n1_0, if_neg n1_1, if_neg n1_2, if_neg n1_3, if_neg n1_4, if_neg n1_5, if_neg n1_6, if_neg n1_7, if_neg n1_8, if_neg n1_9, if_neg (show ¬ s = 19 by rw [s1]; decide), if_neg (show ¬ s = 23 by rw [s1]; decide)]⟩ | exact ⟨by rw [m_plainR, if_neg n1_3, if_neg n1_4, if_neg n1_5, if_neg n1_6, if_neg n1_8, if_neg n1_9, if_neg (show ¬ s = 17 by rw [s1]; decide), if_neg (show ¬ s = 18 by rw [s1]; decide), if_neg (show ¬ s = 19 by rw [s1]; decide)], by rw [m_plain, if_neg n1_0, if_neg n1_1, if_neg n1_2, if_neg n1_3, if_neg n1_4, if_neg n1_5, if_neg n1_6, if_neg n1_7, if_neg n1_8, if_neg n1_9, if_neg (show ¬ s = 19 by rw [s1]; decide), if_neg (show ¬ s = 23 by rw [s1]; decide)]⟩ | exact ⟨by rw [m_plainR, if_neg n1_3, if_neg n1_4, if_neg n1_5, if_neg n1_6, if_neg n1_8, if_neg n1_9, if_neg (show ¬ s = 17 by rw [s1]; decide), if_neg (show ¬ s = 18 by rw [s1]; decide), if_neg (show ¬ s = 19 by rw [s1]; decide)], by rw [m_plain, if_neg n1_0, if_neg n1_1, if_neg n1_2, if_neg n1_3, if_neg n1_4, if_neg n1_5, if_neg n1_6, if_neg n1_7, if_neg n1_8, if_neg n1_9, if_neg (show ¬ s = 19 by rw [s1]; decide), if_neg (show ¬ s = 23 by rw [s1]; decide)]⟩ | exact ⟨by rw [m_plainR, if_neg n1_3, if_neg n1_4, if_neg n1_5, if_neg n1_6, if_neg n1_8, if_neg n1_9, if_neg (show ¬ s = 17 by rw [s1]; decide), if_neg (show ¬ s = 18 by rw [s1]; decide), if_neg (show ¬ s = 19 by rw [s1]; decide)], by rw [m_plain, if_neg n1_0, if_neg n1_1, if_neg n1_2, if_neg n1_3, if_neg n1_4, if_neg n1_5, if_neg n1_6, if_neg n1_7, if_neg n1_8, if_neg n1_9, if_neg (show ¬ s = 19 by rw [s1]; decide), if_neg (show ¬ s = 23 by rw [s1]; decide)]⟩ | exact ⟨by rw [m_plainR, if_neg n1_3, if_neg n1_4, if_neg n1_5, if_neg n1_6, if_neg n1_8, if_neg n1_9, if_neg (show ¬ s = 17 by rw [s1]; decide), if_neg (show ¬ s = 18 by rw [s1]; decide), if_neg (show ¬ s = 19 by rw [s1]; decide)], by rw [m_plain, if_neg n1_0, if_neg n1_1, if_neg n1_2, if_neg n1_3, if_neg n1_4, if_neg n1_5, if_neg n1_6, if_neg n1_7, if_neg n1_8, if_neg n1_9, if_neg (show ¬ s = 19 by rw [s1]; decide), if_neg (show ¬ s = 23 by rw [s1]; decide)]⟩ | exact ⟨by rw [m_plainR, if_neg n1_3, if_neg n1_4, if_neg n1_5, if_neg n1_6, if_neg n1_8, if_neg n1_9, if_neg n1_17, if_neg n1_18, if_neg n1_19], by rw [m_plain, if_neg n1_0, if_neg n1_1, if_neg n1_2, if_neg n1_3, if_neg n1_4, if_neg n1_5, if_neg n1_6, if_neg n1_7, if_neg n1_8, if_neg n1_9, if_neg n1_19, if_neg (show ¬ s = 23 by rw [s1]; decide)]⟩ | exact ⟨by rw [m_plainR, if_neg n1_3, if_neg n1_4, if_neg n1_5, if_neg n1_6, if_neg n1_8, if_neg n1_9, if_neg n1_17, if_neg n1_18, if_neg n1_19], by rw [m_plain, if_neg n1_0, if_neg n1_1, if_neg n1_2, if_neg n1_3, if_neg n1_4, if_neg n1_5, if_neg n1_6, if_neg n1_7, if_neg n1_8, if_neg n1_9, if_neg n1_19, if_neg (show ¬ s = 23 by rw [s1]; decide)]⟩ | exact ⟨by rw [m_plainR, if_neg n1_3, if_neg n1_4, if_neg n1_5, if_neg n1_6, if_neg n1_8, if_neg n1_9, if_neg n1_17, if_neg n1_18, if_neg n1_19], by rw [m_plain, if_neg n1_0, if_neg n1_1, if_neg n1_2, if_neg n1_3, if_neg n1_4, if_neg n1_5, if_neg n1_6, if_neg n1_7, if_neg n1_8, if_neg n1_9, if_neg n1_19, if_neg (show ¬ s = 23 by rw [s1]; decide)]⟩ | exact ⟨by rw [m_plainR, if_neg n1_3, if_neg n1_4, if_neg n1_5, if_neg n1_6, if_neg n1_8, if_neg n1_9, if_neg n1_17, if_neg n1_18, if_neg n1_19], by rw [m_plain, if_neg n1_0, if_neg n1_1, if_neg n1_2, if_neg n1_3, if_neg n1_4, if_neg n1_5, if_neg n1_6, if_neg n1_7, if_neg n1_8, if_neg n1_9, if_neg n1_19, if_neg n1_23]⟩)⟩
  refine ab_tw_c 12 329 (by decide) (by decide) (fun s1 => ?_) (fun n1_12 => ?_)
  · refine ab_iconst (pc := 329) (v := 0) dX4_plain_329 (by decide) ?_
    exact ab_reti (pc := 330) dX4_plain_330 rfl ⟨_, rfl, (by first | exact ⟨by rw [m_plainR, if_neg n1_3, if_neg n1_4, if_neg n1_5, if_neg n1_6, if_neg n1_8, if_neg n1_9, if_neg (show ¬ s = 17 by rw [s1]; decide), if_neg (show ¬ s = 18 by rw [s1]; decide), if_neg (show ¬ s = 19 by rw [s1]; decide)], by rw [m_plain, if_neg n1_0, if_neg n1_1, if_neg n1_2, if_neg n1_3, if_neg n1_4, if_neg n1_5, if_neg n1_6, if_neg n1_7, if_neg n1_8, if_neg n1_9, if_neg (show ¬ s = 19 by rw [s1]; decide), if_neg (show ¬ s = 23 by rw [s1]; decide)]⟩ | exact ⟨by rw [m_plainR, if_neg n1_3, if_neg n1_4, if_neg n1_5, if_neg n1_6, if_neg n1_8, if_neg n1_9, if_neg (show ¬ s = 17 by rw [s1]; decide), if_neg (show ¬ s = 18 by rw [s1]; decide), if_neg (show ¬ s = 19 by rw [s1]; decide)], by rw [m_plain, if_neg n1_0, if_neg n1_1, if_neg n1_2, if_neg n1_3, if_neg n1_4, if_neg n1_5, if_neg n1_6, if_neg n1_7, if_neg n1_8, if_neg n1_9, if_neg (show ¬ s = 19 by rw [s1]; decide), if_neg (show ¬ s = 23 by rw [s1]; decide)]⟩ | exact ⟨by rw [m_plainR, if_neg n1_3, if_neg n1_4, if_neg n1_5, if_neg n1_6, if_neg n1_8, if_neg n1_9, if_neg (show ¬ s = 17 by rw [s1]; decide), if_neg (show ¬ s = 18 by rw [s1]; decide), if_neg (show ¬ s = 19 by rw [s1]; decide)], by rw [m_plain, if_neg n1_0, if_neg n1_1, if_neg n1_2, if_neg n1_3, if_neg n1_4, if_neg n1_5, if_neg n1_6, if_neg n1_7, if_neg n1_8, if_neg n1_9, if_neg (show ¬ s = 19 by rw [s1]; decide), if_neg (show ¬ s = 23 by rw [s1]; decide)]⟩ | exact ⟨by rw [m_plainR, if_neg n1_3, if_neg n1_4, if_neg n1_5, if_neg n1_6, if_neg n1_8, if_neg n1_9, if_neg (show ¬ s = 17 by rw [s1]; decide), if_neg (show ¬ s = 18 by rw [s1]; decide), if_neg (show ¬ s = 19 by rw [s1]; decide)], by rw [m_plain, if_neg n1_0, if_neg n1_1, if_neg n1_2, if_neg n1_3, if_neg n1_4, if_neg n1_5, if_neg n1_6, if_neg n1_7, if_neg n1_8, if_neg n1_9, if_neg (show ¬ s = 19 by rw [s1]; decide), if_neg (show ¬ s = 23 by rw [s1]; decide)]⟩ | exact ⟨by rw [m_plainR, if_neg n1_3, if_neg n1_4, if_neg n1_5, if_neg n1_6, if_neg n1_8, if_neg n1_9, if_neg (show ¬ s = 17 by rw [s1]; decide), if_neg (show ¬ s = 18 by rw [s1]; decide), if_neg (show ¬ s = 19 by rw [s1]; decide)], by rw [m_plain, if_neg n1_0, if_neg n1_1, if_neg n1_2, if_neg n1_3, if_neg n1_4, if_neg n1_5, if_neg n1_6, if_neg n1_7, if_neg n1_8, if_neg n1_9, if_neg (show ¬ s = 19 by rw [s1]; decide), if_neg (show ¬ s = 23 by rw [s1]; decide)]⟩ | exact ⟨by rw [m_plainR, if_neg n1_3, if_neg n1_4, if_neg n1_5, if_neg n1_6, if_neg n1_8, if_neg n1_9, if_neg (show ¬ s = 17 by rw [s1]; decide), if_neg (show ¬ s = 18 by rw [s1]; decide), if_neg (show ¬ s = 19 by rw [s1]; decide)], by rw [m_plain, if_neg n1_0, if_neg n1_1, if_neg n1_2, if_neg n1_3, if_neg n1_4, if_neg n1_5, if_neg n1_6, if_neg n1_7, if_neg n1_8, if_neg n1_9, if_neg (show ¬ s = 19 by rw [s1]; decide), if_neg (show ¬ s = 23 by rw [s1]; decide)]⟩ | exact ⟨by rw [m_plainR, if_neg n1_3, if_neg n1_4, if_neg n1_5, if_neg n1_6, if_neg n1_8, if_neg n1_9, if_neg (show ¬ s = 17 by rw [s1]; decide), if_neg (show ¬ s = 18 by rw [s1]; decide), if_neg (show ¬ s = 19 by rw [s1]; decide)], by rw [m_plain, if_neg n1_0, if_neg n1_1, if_neg n1_2, if_neg n1_3, if_neg n1_4, if_neg n1_5, if_neg n1_6, if_neg n1_7, if_neg n1_8, if_neg n1_9, if_neg (show ¬ s = 19 by rw [s1]; decide), if_neg (show ¬ s = 23 by rw [s1]; decide)]⟩ | exact ⟨by rw [m_plainR, if_neg n1_3, if_neg n1_4, if_neg n1_5, if_neg n1_6, if_neg n1_8, if_neg n1_9, if_neg n1_17, if_neg n1_18, if_neg n1_19], by rw [m_plain, if_neg n1_0, if_neg n1_1, if_neg n1_2, if_neg n1_3, if_neg n1_4, if_neg n1_5, if_neg n1_6, if_neg n1_7, if_neg n1_8, if_neg n1_9, if_neg n1_19, if_neg (show ¬ s = 23 by rw [s1]; decide)]⟩ | exact ⟨by rw [m_plainR, if_neg n1_3, if_neg n1_4, if_neg n1_5, if_neg n1_6, if_neg n1_8, if_neg n1_9, if_neg n1_17, if_neg n1_18, if_neg n1_19], by rw [m_plain, if_neg n1_0, if_neg n1_1, if_neg n1_2, if_neg n1_3, if_neg n1_4, if_neg n1_5, if_neg n1_6, if_neg n1_7, if_neg n1_8, if_neg n1_9, if_neg n1_19, if_neg (show ¬ s = 23 by rw [s1]; decide)]⟩ | exact ⟨by rw [m_plainR, if_neg n1_3, if_neg n1_4, if_neg n1_5, if_neg n1_6, if_neg n1_8, if_neg n1_9, if_neg n1_17, if_neg n1_18, if_neg n1_19], by rw [m_plain, if_neg n1_0, if_neg n1_1, if_neg n1_2, if_neg n1_3, if_neg n1_4, if_neg n1_5, if_neg n1_6, if_neg n1_7, if_neg n1_8, if_neg n1_9, if_neg n1_19, if_neg (show ¬ s = 23 by rw [s1]; decide)]⟩ | exact ⟨by rw [m_plainR, if_neg n1_3, if_neg n1_4, if_neg n1_5, if_neg n1_6, if_neg n1_8, if_neg n1_9, if_neg n1_17, if_neg n1_18, if_neg n1_19], by rw [m_plain, if_neg n1_0, if_neg n1_1, if_neg n1_2, if_neg n1_3, if_neg n1_4, if_neg n1_5, if_neg n1_6, if_neg n1_7, if_neg n1_8, if_neg n1_9, if_neg n1_19, if_neg n1_23]⟩)⟩
  refine ab_tw_c 13 329 (by decide) (by decide) (fun s1 => ?_) (fun n1_13 => ?_)
  · refine ab_iconst (pc := 329) (v := 0) dX4_plain_329 (by decide) ?_
    exact ab_reti (pc := 330) dX4_plain_330 rfl ⟨_, rfl, (by first | exact ⟨by rw [m_plainR, if_neg n1_3, if_neg n1_4, if_neg n1_5, if_neg n1_6, if_neg n1_8, if_neg n1_9, if_neg (show ¬ s = 17 by rw [s1]; decide), if_neg (show ¬ s = 18 by rw [s1]; decide), if_neg (show ¬ s = 19 by rw [s1]; decide)], by rw [m_plain, if_neg n1_0, if_neg n1_1, if_neg n1_2, if_neg n1_3, if_neg n1_4, if_neg n1_5, if_neg n1_6, if_neg n1_7, if_neg n1_8, if_neg n1_9, if_neg (show ¬ s = 19 by rw [s1]; decide), if_neg (show ¬ s = 23 by rw [s1]; decide)]⟩ | exact ⟨by rw [m_plainR, if_neg n1_3, if_neg n1_4, if_neg n1_5, if_neg n1_6, if_neg n1_8, if_neg n1_9, if_neg (show ¬ s = 17 by rw [s1]; decide), if_neg (show ¬ s = 18 by rw [s1]; decide), if_neg (show ¬ s = 19 by rw [s1]; decide)], by rw [m_plain, if_neg n1_0, if_neg n1_1, if_neg n1_2, if_neg n1_3, if_neg n1_4, if_neg n1_5, if_neg n1_6, if_neg n1_7, if_neg n1_8, if_neg n1_9, if_neg (show ¬ s = 19 by rw [s1]; decide), if_neg (show ¬ s = 23 by rw [s1]; decide)]⟩ | exact ⟨by rw [m_plainR, if_neg n1_3, if_neg n1_4, if_neg n1_5, if_neg n1_6, if_neg n1_8, if_neg n1_9, if_neg (show ¬ s = 17 by rw [s1]; decide), if_neg (show ¬ s = 18 by rw [s1]; decide), if_neg (show ¬ s = 19 by rw [s1]; decide)], by rw [m_plain, if_neg n1_0, if_neg n1_1, if_neg n1_2, if_neg n1_3, if_neg n1_4, if_neg n1_5, if_neg n1_6, if_neg n1_7, if_neg n1_8, if_neg n1_9, if_neg (show ¬ s = 19 by rw [s1]; decide), if_neg (show ¬ s = 23 by rw [s1]; decide)]⟩ | exact ⟨by rw [m_plainR, if_neg n1_3, if_neg n1_4, if_neg n1_5, if_neg n1_6, if_neg n1_8, if_neg n1_9, if_neg (show ¬ s = 17 by rw [s1]; decide), if_neg (show ¬ s = 18 by rw [s1]; decide), if_neg (show ¬ s = 19 by rw [s1]; decide)], by rw [m_plain, if_neg n1_0, if_neg n1_1, if_neg n1_2, if_neg n1_3, if_neg n1_4, if_neg n1_5, if_neg n1_6, if_neg n1_7, if_neg n1_8, if_neg n1_9, if_neg (show ¬ s = 19 by rw [s1]; decide), if_neg (show ¬ s = 23 by rw [s1]; decide)]⟩ | exact ⟨by rw [m_plainR, if_neg n1_3, if_neg n1_4, if_neg n1_5, if_neg n1_6, if_neg n1_8, if_neg n1_9, if_neg (show ¬ s = 17 by rw [s1]; decide), if_neg (show ¬ s = 18 by rw [s1]; decide), if_neg (show ¬ s = 19 by rw [s1]; decide)], by rw [m_plain, if_neg n1_0, if_neg n1_1, if_neg n1_2, if_neg n1_3, if_neg n1_4, if_neg n1_5, if_neg n1_6, if_neg n1_7, if_neg n1_8, if_neg n1_9, if_neg (show ¬ s = 19 by rw [s1]; decide), if_neg (show ¬ s = 23 by rw [s1]; decide)]⟩ | exact ⟨by rw [m_plainR, if_neg n1_3, if_neg n1_4, if_neg n1_5, if_neg n1_6, if_neg n1_8, if_neg n1_9, if_neg (show ¬ s = 17 by rw [s1]; decide), if_neg (show ¬ s = 18 by rw [s1]; decide), if_neg (show ¬ s = 19 by rw [s1]; decide)], by rw [m_plain, if_neg n1_0, if_neg n1_1, if_neg n1_2, if_neg n1_3, if_neg n1_4, if_neg n1_5, if_neg n1_6, if_neg n1_7, if_neg n1_8, if_neg n1_9, if_neg (show ¬ s = 19 by rw [s1]; decide), if_neg (show ¬ s = 23 by rw [s1]; decide)]⟩ | exact ⟨by rw [m_plainR, if_neg n1_3, if_neg n1_4, if_neg n1_5, if_neg n1_6, if_neg n1_8, if_neg n1_9, if_neg (show ¬ s = 17 by rw [s1]; decide), if_neg (show ¬ s = 18 by rw [s1]; decide), if_neg (show ¬ s = 19 by rw [s1]; decide)], by rw [m_plain, if_neg n1_0, if_neg n1_1, if_neg n1_2, if_neg n1_3, if_neg n1_4, if_neg n1_5, if_neg n1_6, if_neg n1_7, if_neg n1_8, if_neg n1_9, if_neg (show ¬ s = 19 by rw [s1]; decide), if_neg (show ¬ s = 23 by rw [s1]; decide)]⟩ | exact ⟨by rw [m_plainR, if_neg n1_3, if_neg n1_4, if_neg n1_5, if_neg n1_6, if_neg n1_8, if_neg n1_9, if_neg n1_17, if_neg n1_18, if_neg n1_19], by rw [m_plain, if_neg n1_0, if_neg n1_1, if_neg n1_2, if_neg n1_3, if_neg n1_4, if_neg n1_5, if_neg n1_6, if_neg n1_7, if_neg n1_8, if_neg n1_9, if_neg n1_19, if_neg (show ¬ s = 23 by rw [s1]; decide)]⟩ | exact ⟨by rw [m_plainR, if_neg n1_3, if_neg n1_4, if_neg n1_5, if_neg n1_6, if_neg n1_8, if_neg n1_9, if_neg n1_17, if_neg n1_18, if_neg n1_19], by rw [m_plain, if_neg n1_0, if_neg n1_1, if_neg n1_2, if_neg n1_3, if_neg n1_4, if_neg n1_5, if_neg n1_6, if_neg n1_7, if_neg n1_8, if_neg n1_9, if_neg n1_19, if_neg (show ¬ s = 23 by rw [s1]; decide)]⟩ | exact ⟨by rw [m_plainR, if_neg n1_3, if_neg n1_4, if_neg n1_5, if_neg n1_6, if_neg n1_8, if_neg n1_9, if_neg n1_17, if_neg n1_18, if_neg n1_19], by rw [m_plain, if_neg n1_0, if_neg n1_1, if_neg n1_2, if_neg n1_3, if_neg n1_4, if_neg n1_5, if_neg n1_6, if_neg n1_7, if_neg n1_8, if_neg n1_9, if_neg n1_19, if_neg (show ¬ s = 23 by rw [s1]; decide)]⟩ | exact ⟨by rw [m_plainR, if_neg n1_3, if_neg n1_4, if_neg n1_5, if_neg n1_6, if_neg n1_8, if_neg n1_9, if_neg n1_17, if_neg n1_18, if_neg n1_19], by rw [m_plain, if_neg n1_0, if_neg n1_1, if_neg n1_2, if_neg n1_3, if_neg n1_4, if_neg n1_5, if_neg n1_6, if_neg n1_7, if_neg n1_8, if_neg n1_9, if_neg n1_19, if_neg n1_23]⟩)⟩
  refine ab_tw_c 14 329 (by decide) (by decide) (fun s1 => ?_) (fun n1_14 => ?_)
  · refine ab_iconst (pc := 329) (v := 0) dX4_plain_329 (by decide) ?_
    exact ab_reti (pc := 330) dX4_plain_330 rfl ⟨_, rfl, (by first | exact ⟨by rw [m_plainR, if_neg n1_3, if_neg n1_4, if_neg n1_5, if_neg n1_6, if_neg n1_8, if_neg n1_9, if_neg (show ¬ s = 17 by rw [s1]; decide), if_neg (show ¬ s = 18 by rw [s1]; decide), if_neg (show ¬ s = 19 by rw [s1]; decide)], by rw [m_plain, if_neg n1_0, if_neg n1_1, if_neg n1_2, if_neg n1_3, if_neg n1_4, if_neg n1_5, if_neg n1_6, if_neg n1_7, if_neg n1_8, if_neg n1_9, if_neg (show ¬ s = 19 by rw [s1]; decide), if_neg (show ¬ s = 23 by rw [s1]; decide)]⟩ | exact ⟨by rw [m_plainR, if_neg n1_3, if_neg n1_4, if_neg n1_5, if_neg n1_6, if_neg n1_8, if_neg n1_9, if_neg (show ¬ s = 17 by rw [s1]; decide), if_neg (show ¬ s = 18 by rw [s1]; decide), if_neg (show ¬ s = 19 by rw [s1]; decide)], by rw [m_plain, if_neg n1_0, if_neg n1_1, if_neg n1_2, if_neg n1_3, if_neg n1_4, if_neg n1_5, if_neg n1_6, if_neg n1_7, if_neg n1_8, if_neg n1_9, if_neg (show ¬ s = 19 by rw [s1]; decide), if_neg (show ¬ s = 23 by rw [s1]; decide)]⟩ | exact ⟨by rw [m_plainR, if_neg n1_3, if_neg n1_4, if_neg n1_5, if_neg n1_6, if_neg n1_8, if_neg n1_9, if_neg (show ¬ s = 17 by rw [s1]; decide), if_neg (show ¬ s = 18 by rw [s1]; decide), if_neg (show ¬ s = 19 by rw [s1]; decide)], by rw [m_plain, if_neg n1_0, if_neg n1_1, if_neg n1_2, if_neg n1_3, if_neg n1_4, if_neg n1_5, if_neg n1_6, if_neg n1_7, if_neg n1_8, if_neg n1_9, if_neg (show ¬ s = 19 by rw [s1]; decide), if_neg (show ¬ s = 23 by rw [s1]; decide)]⟩ | exact ⟨by rw [m_plainR, if_neg n1_3, if_neg n1_4, if_neg n1_5, if_neg n1_6, if_neg n1_8, if_neg n1_9, if_neg (show ¬ s = 17 by rw [s1]; decide), if_neg (show ¬ s = 18 by rw [s1]; decide), if_neg (show ¬ s = 19 by rw [s1]; decide)], by rw [m_plain, if_neg n1_0, if_neg n1_1, if_neg n1_2, if_neg n1_3, if_neg n1_4, if_neg n1_5, if_neg n1_6, if_neg n1_7, if_neg n1_8, if_neg n1_9, if_neg (show ¬ s = 19 by rw [s1]; decide), if_neg (show ¬ s = 23 by rw [s1]; decide)]⟩ | exact ⟨by rw [m_plainR, if_neg n1_3, if_neg n1_4, if_neg n1_5, if_neg n1_6, if_neg n1_8, if_neg n1_9, if_neg (show ¬ s = 17 by rw [s1]; decide), if_neg (show ¬ s = 18 by rw [s1]; decide), if_neg (show ¬ s = 19 by rw [s1]; decide)], by rw [m_plain, if_neg n1_0, if_neg n1_1, if_neg n1_2, if_neg n1_3, if_neg n1_4, if_neg n1_5, if_neg n1_6, if_neg n1_7, if_neg n1_8, if_neg n1_9, if_neg (show ¬ s = 19 by rw [s1]; decide), if_neg (show ¬ s = 23 by rw [s1]; decide)]⟩ | exact ⟨by rw [m_plainR, if_neg n1_3, if_neg n1_4, if_neg n1_5, if_neg n1_6, if_neg n1_8, if_neg n1_9, if_neg (show ¬ s = 17 by rw [s1]; decide), if_neg (show ¬ s = 18 by rw [s1]; decide), if_neg (show ¬ s = 19 by rw [s1]; decide)], by rw [m_plain, if_neg n1_0, if_neg n1_1, if_neg n1_2, if_neg n1_3, if_neg n1_4, if_neg n1_5, if_neg n1_6, if_neg n1_7, if_neg n1_8, if_neg n1_9, if_neg (show ¬ s = 19 by rw [s1]; decide), if_neg (show ¬ s = 23 by rw [s1]; decide)]⟩ | exact ⟨by rw [m_plainR, if_neg n1_3, if_neg n1_4, if_neg n1_5, if_neg n1_6, if_neg n1_8, if_neg n1_9, if_neg (show ¬ s = 17 by rw [s1]; decide), if_neg (show ¬ s = 18 by rw [s1]; decide), if_neg (show ¬ s = 19 by rw [s1]; decide)], by rw [m_plain, if_neg n1_0, if_neg n1_1, if_neg n1_2, if_neg n1_3, if_neg n1_4, if_neg n1_5, if_neg n1_6, if_neg n1_7, if_neg n1_8, if_neg n1_9, if_neg (show ¬ s = 19 by rw [s1]; decide), if_neg (show ¬ s = 23 by rw [s1]; decide)]⟩ | exact ⟨by rw [m_plainR, if_neg n1_3, if_neg n1_4, if_neg n1_5, if_neg n1_6, if_neg n1_8, if_neg n1_9, if_neg n1_17, if_neg n1_18, if_neg n1_19], by rw [m_plain, if_neg n1_0, if_neg n1_1, if_neg n1_2, if_neg n1_3, if_neg n1_4, if_neg n1_5, if_neg n1_6, if_neg n1_7, if_neg n1_8, if_neg n1_9, if_neg n1_19, if_neg (show ¬ s = 23 by rw [s1]; decide)]⟩ | exact ⟨by rw [m_plainR, if_neg n1_3, if_neg n1_4, if_neg n1_5, if_neg n1_6, if_neg n1_8, if_neg n1_9, if_neg n1_17, if_neg n1_18, if_neg n1_19], by rw [m_plain, if_neg n1_0, if_neg n1_1, if_neg n1_2, if_neg n1_3, if_neg n1_4, if_neg n1_5, if_neg n1_6, if_neg n1_7, if_neg n1_8, if_neg n1_9, if_neg n1_19, if_neg (show ¬ s = 23 by rw [s1]; decide)]⟩ | exact ⟨by rw [m_plainR, if_neg n1_3, if_neg n1_4, if_neg n1_5, if_neg n1_6, if_neg n1_8, if_neg n1_9, if_neg n1_17, if_neg n1_18, if_neg n1_19], by rw [m_plain, if_neg n1_0, if_neg n1_1, if_neg n1_2, if_neg n1_3, if_neg n1_4, if_neg n1_5, if_neg n1_6, if_neg n1_7, if_neg n1_8, if_neg n1_9, if_neg n1_19, if_neg (show ¬ s = 23 by rw [s1]; decide)]⟩ | exact ⟨by rw [m_plainR, if_neg n1_3, if_neg n1_4, if_neg n1_5, if_neg n1_6, if_neg n1_8, if_neg n1_9, if_neg n1_17, if_neg n1_18, if_neg n1_19], by rw [m_plain, if_neg n1_0, if_neg n1_1, if_neg n1_2, if_neg n1_3, if_neg n1_4, if_neg n1_5, if_neg n1_6, if_neg n1_7, if_neg n1_8, if_neg n1_9, if_neg n1_19, if_neg n1_23]⟩)⟩
  refine ab_tw_c 15 329 (by decide) (by decide) (fun s1 => ?_) (fun n1_15 => ?_)
  · refine ab_iconst (pc := 329) (v := 0) dX4_plain_329 (by decide) ?_
    exact ab_reti (pc := 330) dX4_plain_330 rfl ⟨_, rfl, (by first | exact ⟨by rw [m_plainR, if_neg n1_3, if_neg n1_4, if_neg n1_5, if_neg n1_6, if_neg n1_8, if_neg n1_9, if_neg (show ¬ s = 17 by rw [s1]; decide), if_neg (show ¬ s = 18 by rw [s1]; decide), if_neg (show ¬ s = 19 by rw [s1]; decide)], by rw [m_plain, if_neg n1_0, if_neg n1_1, if_neg n1_2, if_neg n1_3, if_neg n1_4, if_neg n1_5, if_neg n1_6, if_neg n1_7, if_neg n1_8, if_neg n1_9, if_neg (show ¬ s = 19 by rw [s1]; decide), if_neg (show ¬ s = 23 by rw [s1]; decide)]⟩ | exact ⟨by rw [m_plainR, if_neg n1_3, if_neg n1_4, if_neg n1_5, if_neg n1_6, if_neg n1_8, if_neg n1_9, if_neg (show ¬ s = 17 by rw [s1]; decide), if_neg (show ¬ s = 18 by rw [s1]; decide), if_neg (show ¬ s = 19 by rw [s1]; decide)], by rw [m_plain, if_neg n1_0, if_neg n1_1, if_neg n1_2, if_neg n1_3, if_neg n1_4, if_neg n1_5, if_neg n1_6, if_neg n1_7, if_neg n1_8, if_neg n1_9, if_neg (show ¬ s = 19 by rw [s1]; decide), if_neg (show ¬ s = 23 by rw [s1]; decide)]⟩ | exact ⟨by rw [m_plainR, if_neg n1_3, if_neg n1_4, if_neg n1_5, if_neg n1_6, if_neg n1_8, if_neg n1_9, if_neg (show ¬ s = 17 by rw [s1]; decide), if_neg (show ¬ s = 18 by rw [s1]; decide), if_neg (show ¬ s = 19 by rw [s1]; decide)], by rw [m_plain, if_neg n1_0, if_neg n1_1, if_neg n1_2, if_neg n1_3, if_neg n1_4, if_neg n1_5, if_neg n1_6, if_neg n1_7, if_neg n1_8, if_neg n1_9, if_neg (show ¬ s = 19 by rw [s1]; decide), if_neg (show ¬ s = 23 by rw [s1]; decide)]⟩ | exact ⟨by rw [m_plainR, if_neg n1_3, if_neg n1_4, if_neg n1_5, if_neg n1_6, if_neg n1_8, if_neg n1_9, if_neg (show ¬ s = 17 by rw [s1]; decide), if_neg (show ¬ s = 18 by rw [s1]; decide), if_neg (show ¬ s = 19 by rw [s1]; decide)], by rw [m_plain, if_neg n1_0, if_neg n1_1, if_neg n1_2, if_neg n1_3, if_neg n1_4, if_neg n1_5, if_neg n1_6, if_neg n1_7, if_neg n1_8, if_neg n1_9, if_neg (show ¬ s = 19 by rw [s1]; decide), if_neg (show ¬ s = 23 by rw [s1]; decide)]⟩ | exact ⟨by rw [m_plainR, if_neg n1_3, if_neg n1_4, if_neg n1_5, if_neg n1_6, if_neg n1_8, if_neg n1_9, if_neg (show ¬ s = 17 by rw [s1]; decide), if_neg (show ¬ s = 18 by rw [s1]; decide), if_neg (show ¬ s = 19 by rw [s1]; decide)], by rw [m_plain, if_neg n1_0, if_neg n1_1, if_neg n1_2, if_neg n1_3, if_neg n1_4, if_neg n1_5, if_neg n1_6, if_neg n1_7, if_neg n1_8, if_neg n1_9, if_neg (show ¬ s = 19 by rw [s1]; decide), if_neg (show ¬ s = 23 by rw [s1]; decide)]⟩ | exact ⟨by rw [m_plainR, if_neg n1_3, if_neg n1_4, if_neg n1_5, if_neg n1_6, if_neg n1_8, if_neg n1_9, if_neg (show ¬ s = 17 by rw [s1]; decide), if_neg (show ¬ s = 18 by rw [s1]; decide), if_neg (show ¬ s = 19 by rw [s1]; decide)], by rw [m_plain, if_neg n1_0, if_neg n1_1, if_neg n1_2, if_neg n1_3, if_neg n1_4, if_neg n1_5, if_neg n1_6, if_neg n1_7, if_neg n1_8, if_neg n1_9, if_neg (show ¬ s = 19 by rw [s1]; decide), if_neg (show ¬ s = 23 by rw [s1]; decide)]⟩ | exact ⟨by rw [m_plainR, if_neg n1_3, if_neg n1_4, if_neg n1_5, if_neg n1_6, if_neg n1_8, if_neg n1_9, if_neg (show ¬ s = 17 by rw [s1]; decide), if_neg (show ¬ s = 18 by rw [s1]; decide), if_neg (show ¬ s = 19 by rw [s1]; decide)], by rw [m_plain, if_neg n1_0, if_neg n1_1, if_neg n1_2, if_neg n1_3, if_neg n1_4, if_neg n1_5, if_neg n1_6, if_neg n1_7, if_neg n1_8, if_neg n1_9, if_neg (show ¬ s = 19 by rw [s1]; decide), if_neg (show ¬ s = 23 by rw [s1]; decide)]⟩ | exact ⟨by rw [m_plainR, if_neg n1_3, if_neg n1_4, if_neg n1_5, if_neg n1_6, if_neg n1_8, if_neg n1_9, if_neg n1_17, if_neg n1_18, if_neg n1_19], by rw [m_plain, if_neg n1_0, if_neg n1_1, if_neg n1_2, if_neg n1_3, if_neg n1_4, if_neg n1_5, if_neg n1_6, if_neg n1_7, if_neg n1_8, if_neg n1_9, if_neg n1_19, if_neg (show ¬ s = 23 by rw [s1]; decide)]⟩ | exact ⟨by rw [m_plainR, if_neg n1_3, if_neg n1_4, if_neg n1_5, if_neg n1_6, if_neg n1_8, if_neg n1_9, if_neg n1_17, if_neg n1_18, if_neg n1_19], by rw [m_plain, if_neg n1_0, if_neg n1_1, if_neg n1_2, if_neg n1_3, if_neg n1_4, if_neg n1_5, if_neg n1_6, if_neg n1_7, if_neg n1_8, if_neg n1_9, if_neg n1_19, if_neg (show ¬ s = 23 by rw [s1]; decide)]⟩ | exact ⟨by rw [m_plainR, if_neg n1_3, if_neg n1_4, if_neg n1_5, if_neg n1_6, if_neg n1_8, if_neg n1_9, if_neg n1_17, if_neg n1_18, if_neg n1_19], by rw [m_plain, if_neg n1_0, if_neg n1_1, if_neg n1_2, if_neg n1_3, if_neg n1_4, if_neg n1_5, if_neg n1_6, if_neg n1_7, if_neg n1_8, if_neg n1_9, if_neg n1_19, if_neg (show ¬ s = 23 by rw [s1]; decide)]⟩ | exact ⟨by rw [m_plainR, if_neg n1_3, if_neg n1_4, if_neg n1_5, if_neg n1_6, if_neg n1_8, if_neg n1_9, if_neg n1_17, if_neg n1_18, if_neg n1_19], by rw [m_plain, if_neg n1_0, if_neg n1_1, if_neg n1_2, if_neg n1_3, if_neg n1_4, if_neg n1_5, if_neg n1_6, if_neg n1_7, if_neg n1_8, if_neg n1_9, if_neg n1_19, if_neg n1_23]⟩)⟩
  refine ab_tw_c 16 329 (by decide) (by decide) (fun s1 => ?_) (fun n1_16 => ?_)
  · refine ab_iconst (pc := 329) (v := 0) dX4_plain_329 (by decide) ?_
    exact ab_reti (pc := 330) dX4_plain_330 rfl ⟨_, rfl, (by first | exact ⟨by rw [m_plainR, if_neg n1_3, if_neg n1_4, if_neg n1_5, if_neg n1_6, if_neg n1_8, if_neg n1_9, if_neg (show ¬ s = 17 by rw [s1]; decide), if_neg (show ¬ s = 18 by rw [s1]; decide), if_neg (show ¬ s = 19 by rw [s1]; decide)], by rw [m_plain, if_neg n1_0, if_neg n1_1, if_neg n1_2, if_neg n1_3, if_neg n1_4, if_neg n1_5, if_neg n1_6, if_neg n1_7, if_neg n1_8, if_neg n1_9, if_neg (show ¬ s = 19 by rw [s1]; decide), if_neg (show ¬ s = 23 by rw [s1]; decide)]⟩ | exact ⟨by rw [m_plainR, if_neg n1_3, if_neg n1_4, if_neg n1_5, if_neg n1_6, if_neg n1_8, if_neg n1_9, if_neg (show ¬ s = 17 by rw [s1]; decide), if_neg (show ¬ s = 18 by rw [s1]; decide), if_neg (show ¬ s = 19 by rw [s1]; decide)], by rw [m_plain, if_neg n1_0, if_neg n1_1, if_neg n1_2, if_neg n1_3, if_neg n1_4, if_neg n1_5, if_neg n1_6, if_neg n1_7, if_neg n1_8, if_neg n1_9, if_neg (show ¬ s = 19 by rw [s1]; decide), if_neg (show ¬ s = 23 by rw [s1]; decide)]⟩ | exact ⟨by rw [m_plainR, if_neg n1_3, if_neg n1_4, if_neg n1_5, if_neg n1_6, if_neg n1_8, if_neg n1_9, if_neg (show ¬ s = 17 by rw [s1]; decide), if_neg (show ¬ s = 18 by rw [s1]; decide), if_neg (show ¬ s = 19 by rw [s1]; decide)], by rw [m_plain, if_neg n1_0, if_neg n1_1, if_neg n1_2, if_neg n1_3, if_neg n1_4, if_neg n1_5, if_neg n1_6, if_neg n1_7, if_neg n1_8, if_neg n1_9, if_neg (show ¬ s = 19 by rw [s1]; decide), if_neg (show ¬ s = 23 by rw [s1]; decide)]⟩ | exact ⟨by rw [m_plainR, if_neg n1_3, if_neg n1_4, if_neg n1_5, if_neg n1_6, if_neg n1_8, if_neg n1_9, if_neg (show ¬ s = 17 by rw [s1]; decide), if_neg (show ¬ s = 18 by rw [s1]; decide), if_neg (show ¬ s = 19 by rw [s1]; decide)], by rw [m_plain, if_neg n1_0, if_neg n1_1, if_neg n1_2, if_neg n1_3, if_neg n1_4, if_neg n1_5, if_neg n1_6, if_neg n1_7, if_neg n1_8, if_neg n1_9, if_neg (show ¬ s = 19 by rw [s1]; decide), if_neg (show ¬ s = 23 by rw [s1]; decide)]⟩ | exact ⟨by rw [m_plainR, if_neg n1_3, if_neg n1_4, if_neg n1_5, if_neg n1_6, if_neg n1_8, if_neg n1_9, if_neg (show ¬ s = 17 by rw [s1]; decide), if_neg (show ¬ s = 18 by rw [s1]; decide), if_neg (show ¬ s = 19 by rw [s1]; decide)], by rw [m_plain, if_neg n1_0, if_neg n1_1, if_neg n1_2, if_neg n1_3, if_neg n1_4, if_neg n1_5, if_neg n1_6, if_neg n1_7, if_neg n1_8, if_neg n1_9, if_neg (show ¬ s = 19 by rw [s1]; decide), if_neg (show ¬ s = 23 by rw [s1]; decide)]⟩ | exact ⟨by rw [m_plainR, if_neg n1_3, if_neg n1_4, if_neg n1_5, if_neg n1_6, if_neg n1_8, if_neg n1_9, if_neg (show ¬ s = 17 by rw [s1]; decide), if_neg (show ¬ s = 18 by rw [s1]; decide), if_neg (show ¬ s = 19 by rw [s1]; decide)], by rw [m_plain, if_neg n1_0, if_neg n1_1, if_neg n1_2, if_neg n1_3, if_neg n1_4, if_neg n1_5, if_neg n1_6, if_neg n1_7, if_neg n1_8, if_neg n1_9, if_neg (show ¬ s = 19 by rw [s1]; decide), if_neg (show ¬ s = 23 by rw [s1]; decide)]⟩ | exact ⟨by rw [m_plainR, if_neg n1_3, if_neg n1_4, if_neg n1_5, if_neg n1_6, if_neg n1_8, if_neg n1_9, if_neg (show ¬ s = 17 by rw [s1]; decide), if_neg (show ¬ s = 18 by rw [s1]; decide), if_neg (show ¬ s = 19 by rw [s1]; decide)], by rw [m_plain, if_neg n1_0, if_neg n1_1, if_neg n1_2, if_neg n1_3, if_neg n1_4, if_neg n1_5, if_neg n1_6, if_neg n1_7, if_neg n1_8, if_neg n1_9, if_neg (show ¬ s = 19 by rw [s1]; decide), if_neg (show ¬ s = 23 by rw [s1]; decide)]⟩ | exact ⟨by rw [m_plainR, if_neg n1_3, if_neg n1_4, if_neg n1_5, if_neg n1_6, if_neg n1_8, if_neg n1_9, if_neg n1_17, if_neg n1_18, if_neg n1_19], by rw [m_plain, if_neg n1_0, if_neg n1_1, if_neg n1_2, if_neg n1_3, if_neg n1_4, if_neg n1_5, if_neg n1_6, if_neg n1_7, if_neg n1_8, if_neg n1_9, if_neg n1_19, if_neg (show ¬ s = 23 by rw [s1]; decide)]⟩ | exact ⟨by rw [m_plainR, if_neg n1_3, if_neg n1_4, if_neg n1_5, if_neg n1_6, if_neg n1_8, if_neg n1_9, if_neg n1_17, if_neg n1_18, if_neg n1_19], by rw [m_plain, if_neg n1_0, if_neg n1_1, if_neg n1_2, if_neg n1_3, if_neg n1_4, if_neg n1_5, if_neg n1_6, if_neg n1_7, if_neg n1_8, if_neg n1_9, if_neg n1_19, if_neg (show ¬ s = 23 by rw [s1]; decide)]⟩ | exact ⟨by rw [m_plainR, if_neg n1_3, if_neg n1_4, if_neg n1_5, if_neg n1_6, if_neg n1_8, if_neg n1_9, if_neg n1_17, if_neg n1_18, if_neg n1_19], by rw [m_plain, if_neg n1_0, if_neg n1_1, if_neg n1_2, if_neg n1_3, if_neg n1_4, if_neg n1_5, if_neg n1_6, if_neg n1_7, if_neg n1_8, if_neg n1_9, if_neg n1_19, if_neg (show ¬ s = 23 by rw [s1]; decide)]⟩ | exact ⟨by rw [m_plainR, if_neg n1_3, if_neg n1_4, if_neg n1_5, if_neg n1_6, if_neg n1_8, if_neg n1_9, if_neg n1_17, if_neg n1_18, if_neg n1_19], by rw [m_plain, if_neg n1_0, if_neg n1_1, if_neg n1_2, if_neg n1_3, if_neg n1_4, if_neg n1_5, if_neg n1_6, if_neg n1_7, if_neg n1_8, if_neg n1_9, if_neg n1_19, if_neg n1_23]⟩)⟩
  refine ab_tw_c 17 282 (by decide) (by decide) (fun s1 => ?_) (fun n1_17 => ?_)
  · refine ab_bipush (pc := 282) (v := 100) dX4_plain_282 (by decide) ?_
    refine ab_iload_n (pc := 284) dX4_plain_284 rfl rfl ?_
    refine ab_iadd (pc := 285) dX4_plain_285 ?_
    exact ab_reti (pc := 286) dX4_plain_286 rfl ⟨_, rfl, ⟨by rw [m_plainR, if_neg n1_3, if_neg n1_4, if_neg n1_5, if_neg n1_6, if_neg n1_8, if_neg n1_9, if_pos s1], by rw [m_plain, if_neg n1_0, if_neg n1_1, if_neg n1_2, if_neg n1_3, if_neg n1_4, if_neg n1_5, if_neg n1_6, if_neg n1_7, if_neg n1_8, if_neg n1_9, if_neg (show ¬ s = 19 by rw [s1]; decide), if_neg (show ¬ s = 23 by rw [s1]; decide)]⟩⟩
  refine ab_tw_c 18 287 (by decide) (by decide) (fun s1 => ?_) (fun n1_18 => ?_)
  · refine ab_sipush (pc := 287) (v := 200) dX4_plain_287 (by decide) ?_
    refine ab_iload_n (pc := 290) dX4_plain_290 rfl rfl ?_
    refine ab_iadd (pc := 291) dX4_plain_291 ?_
    exact ab_reti (pc := 292) dX4_plain_292 rfl ⟨_, rfl, ⟨by rw [m_plainR, if_neg n1_3, if_neg n1_4, if_neg n1_5, if_neg n1_6, if_neg n1_8, if_neg n1_9, if_neg n1_17, if_pos s1], by rw [m_plain, if_neg n1_0, if_neg n1_1, if_neg n1_2, if_neg n1_3, if_neg n1_4, if_neg n1_5, if_neg n1_6, if_neg n1_7, if_neg n1_8, if_neg n1_9, if_neg (show ¬ s = 19 by rw [s1]; decide), if_neg (show ¬ s = 23 by rw [s1]; decide)]⟩⟩
  refine ab_tw_c 19 293 (by decide) (by decide) (fun s1 => ?_) (fun n1_19 => ?_)
  · refine ab_aload_n (pc := 293) dX4_plain_293 rfl rfl ?_
    refine ab_aload_n (pc := 294) dX4_plain_294 rfl rfl ?_
    refine ab_getr (pc := 295) dX4_plain_295 fX4_22 rfl rfl ?_
    refine ab_iload_n (pc := 298) dX4_plain_298 rfl rfl ?_
    refine ab_iald (pc := 299) dX4_plain_299 rfl (hA (by simp only [s1]; decide)) ?_
    refine ab_puti (pc := 300) dX4_plain_300 fwX4_171 rfl rfl ?_
    refine ab_iconst (pc := 303) (v := 2) dX4_plain_303 (by decide) ?_
    exact ab_reti (pc := 304) dX4_plain_304 rfl ⟨_, rfl, ⟨by rw [m_plainR, if_neg n1_3, if_neg n1_4, if_neg n1_5, if_neg n1_6, if_neg n1_8, if_neg n1_9, if_neg n1_17, if_neg n1_18, if_pos s1], by rw [m_plain, if_neg n1_0, if_neg n1_1, if_neg n1_2, if_neg n1_3, if_neg n1_4, if_neg n1_5, if_neg n1_6, if_neg n1_7, if_neg n1_8, if_neg n1_9, if_pos s1]⟩⟩
  refine ab_tw_c 20 329 (by decide) (by decide) (fun s1 => ?_) (fun n1_20 => ?_)
  · refine ab_iconst (pc := 329) (v := 0) dX4_plain_329 (by decide) ?_
    exact ab_reti (pc := 330) dX4_plain_330 rfl ⟨_, rfl, (by first | exact ⟨by rw [m_plainR, if_neg n1_3, if_neg n1_4, if_neg n1_5, if_neg n1_6, if_neg n1_8, if_neg n1_9, if_neg (show ¬ s = 17 by rw [s1]; decide), if_neg (show ¬ s = 18 by rw [s1]; decide), if_neg (show ¬ s = 19 by rw [s1]; decide)], by rw [m_plain, if_neg n1_0, if_neg n1_1, if_neg n1_2, if_neg n1_3, if_neg n1_4, if_neg n1_5, if_neg n1_6, if_neg n1_7, if_neg n1_8, if_neg n1_9, if_neg (show ¬ s = 19 by rw [s1]; decide), if_neg (show ¬ s = 23 by rw [s1]; decide)]⟩ | exact ⟨by rw [m_plainR, if_neg n1_3, if_neg n1_4, if_neg n1_5, if_neg n1_6, if_neg n1_8, if_neg n1_9, if_neg (show ¬ s = 17 by rw [s1]; decide), if_neg (show ¬ s = 18 by rw [s1]; decide), if_neg (show ¬ s = 19 by rw [s1]; decide)], by rw [m_plain, if_neg n1_0, if_neg n1_1, if_neg n1_2, if_neg n1_3, if_neg n1_4, if_neg n1_5, if_neg n1_6, if_neg n1_7, if_neg n1_8, if_neg n1_9, if_neg (show ¬ s = 19 by rw [s1]; decide), if_neg (show ¬ s = 23 by rw [s1]; decide)]⟩ | exact ⟨by rw [m_plainR, if_neg n1_3, if_neg n1_4, if_neg n1_5, if_neg n1_6, if_neg n1_8, if_neg n1_9, if_neg (show ¬ s = 17 by rw [s1]; decide), if_neg (show ¬ s = 18 by rw [s1]; decide), if_neg (show ¬ s = 19 by rw [s1]; decide)], by rw [m_plain, if_neg n1_0, if_neg n1_1, if_neg n1_2, if_neg n1_3, if_neg n1_4, if_neg n1_5, if_neg n1_6, if_neg n1_7, if_neg n1_8, if_neg n1_9, if_neg (show ¬ s = 19 by rw [s1]; decide), if_neg (show ¬ s = 23 by rw [s1]; decide)]⟩ | exact ⟨by rw [m_plainR, if_neg n1_3, if_neg n1_4, if_neg n1_5, if_neg n1_6, if_neg n1_8, if_neg n1_9, if_neg (show ¬ s = 17 by rw [s1]; decide), if_neg (show ¬ s = 18 by rw [s1]; decide), if_neg (show ¬ s = 19 by rw [s1]; decide)], by rw [m_plain, if_neg n1_0, if_neg n1_1, if_neg n1_2, if_neg n1_3, if_neg n1_4, if_neg n1_5, if_neg n1_6, if_neg n1_7, if_neg n1_8, if_neg n1_9, if_neg (show ¬ s = 19 by rw [s1]; decide), if_neg (show ¬ s = 23 by rw [s1]; decide)]⟩ | exact ⟨by rw [m_plainR, if_neg n1_3, if_neg n1_4, if_neg n1_5, if_neg n1_6, if_neg n1_8, if_neg n1_9, if_neg (show ¬ s = 17 by rw [s1]; decide), if_neg (show ¬ s = 18 by rw [s1]; decide), if_neg (show ¬ s = 19 by rw [s1]; decide)], by rw [m_plain, if_neg n1_0, if_neg n1_1, if_neg n1_2, if_neg n1_3, if_neg n1_4, if_neg n1_5, if_neg n1_6, if_neg n1_7, if_neg n1_8, if_neg n1_9, if_neg (show ¬ s = 19 by rw [s1]; decide), if_neg (show ¬ s = 23 by rw [s1]; decide)]⟩ | exact ⟨by rw [m_plainR, if_neg n1_3, if_neg n1_4, if_neg n1_5, if_neg n1_6, if_neg n1_8, if_neg n1_9, if_neg (show ¬ s = 17 by rw [s1]; decide), if_neg (show ¬ s = 18 by rw [s1]; decide), if_neg (show ¬ s = 19 by rw [s1]; decide)], by rw [m_plain, if_neg n1_0, if_neg n1_1, if_neg n1_2, if_neg n1_3, if_neg n1_4, if_neg n1_5, if_neg n1_6, if_neg n1_7, if_neg n1_8, if_neg n1_9, if_neg (show ¬ s = 19 by rw [s1]; decide), if_neg (show ¬ s = 23 by rw [s1]; decide)]⟩ | exact ⟨by rw [m_plainR, if_neg n1_3, if_neg n1_4, if_neg n1_5, if_neg n1_6, if_neg n1_8, if_neg n1_9, if_neg (show ¬ s = 17 by rw [s1]; decide), if_neg (show ¬ s = 18 by rw [s1]; decide), if_neg (show ¬ s = 19 by rw [s1]; decide)], by rw [m_plain, if_neg n1_0, if_neg n1_1, if_neg n1_2, if_neg n1_3, if_neg n1_4, if_neg n1_5, if_neg n1_6, if_neg n1_7, if_neg n1_8, if_neg n1_9, if_neg (show ¬ s = 19 by rw [s1]; decide), if_neg (show ¬ s = 23 by rw [s1]; decide)]⟩ | exact ⟨by rw [m_plainR, if_neg n1_3, if_neg n1_4, if_neg n1_5, if_neg n1_6, if_neg n1_8, if_neg n1_9, if_neg n1_17, if_neg n1_18, if_neg n1_19], by rw [m_plain, if_neg n1_0, if_neg n1_1, if_neg n1_2, if_neg n1_3, if_neg n1_4, if_neg n1_5, if_neg n1_6, if_neg n1_7, if_neg n1_8, if_neg n1_9, if_neg n1_19, if_neg (show ¬ s = 23 by rw [s1]; decide)]⟩ | exact ⟨by rw [m_plainR, if_neg n1_3, if_neg n1_4, if_neg n1_5, if_neg n1_6, if_neg n1_8, if_neg n1_9, if_neg n1_17, if_neg n1_18, if_neg n1_19], by rw [m_plain, if_neg n1_0, if_neg n1_1, if_neg n1_2, if_neg n1_3, if_neg n1_4, if_neg n1_5, if_neg n1_6, if_neg n1_7, if_neg n1_8, if_neg n1_9, if_neg n1_19, if_neg (show ¬ s = 23 by rw [s1]; decide)]⟩ | exact ⟨by rw [m_plainR, if_neg n1_3, if_neg n1_4, if_neg n1_5, if_neg n1_6, if_neg n1_8, if_neg n1_9, if_neg n1_17, if_neg n1_18, if_neg n1_19], by rw [m_plain, if_neg n1_0, if_neg n1_1, if_neg n1_2, if_neg n1_3, if_neg n1_4, if_neg n1_5, if_neg n1_6, if_neg n1_7, if_neg n1_8, if_neg n1_9, if_neg n1_19, if_neg (show ¬ s = 23 by rw [s1]; decide)]⟩ | exact ⟨by rw [m_plainR, if_neg n1_3, if_neg n1_4, if_neg n1_5, if_neg n1_6, if_neg n1_8, if_neg n1_9, if_neg n1_17, if_neg n1_18, if_neg n1_19], by rw [m_plain, if_neg n1_0, if_neg n1_1, if_neg n1_2, if_neg n1_3, if_neg n1_4, if_neg n1_5, if_neg n1_6, if_neg n1_7, if_neg n1_8, if_neg n1_9, if_neg n1_19, if_neg n1_23]⟩)⟩
  refine ab_tw_c 21 329 (by decide) (by decide) (fun s1 => ?_) (fun n1_21 => ?_)
  · refine ab_iconst (pc := 329) (v := 0) dX4_plain_329 (by decide) ?_
    exact ab_reti (pc := 330) dX4_plain_330 rfl ⟨_, rfl, (by first | exact ⟨by rw [m_plainR, if_neg n1_3, if_neg n1_4, if_neg n1_5, if_neg n1_6, if_neg n1_8, if_neg n1_9, if_neg (show ¬ s = 17 by rw [s1]; decide), if_neg (show ¬ s = 18 by rw [s1]; decide), if_neg (show ¬ s = 19 by rw [s1]; decide)], by rw [m_plain, if_neg n1_0, if_neg n1_1, if_neg n1_2, if_neg n1_3, if_neg n1_4, if_neg n1_5, if_neg n1_6, if_neg n1_7, if_neg n1_8, if_neg n1_9, if_neg (show ¬ s = 19 by rw [s1]; decide), if_neg (show ¬ s = 23 by rw [s1]; decide)]⟩ | exact ⟨by rw [m_plainR, if_neg n1_3, if_neg n1_4, if_neg n1_5, if_neg n1_6, if_neg n1_8, if_neg n1_9, if_neg (show ¬ s = 17 by rw [s1]; decide), if_neg (show ¬ s = 18 by rw [s1]; decide), if_neg (show ¬ s = 19 by rw [s1]; decide)], by rw [m_plain, if_neg n1_0, if_neg n1_1, if_neg n1_2, if_neg n1_3, if_neg n1_4, if_neg n1_5, if_neg n1_6, if_neg n1_7, if_neg n1_8, if_neg n1_9, if_neg (show ¬ s = 19 by rw [s1]; decide), if_neg (show ¬ s = 23 by rw [s1]; decide)]⟩ | exact ⟨by rw [m_plainR, if_neg n1_3, if_neg n1_4, if_neg n1_5, if_neg n1_6, if_neg n1_8, if_neg n1_9, if_neg (show ¬ s = 17 by rw [s1]; decide), if_neg (show ¬ s = 18 by rw [s1]; decide), if_neg (show ¬ s = 19 by rw [s1]; decide)], by rw [m_plain, if_neg n1_0, if_neg n1_1, if_neg n1_2, if_neg n1_3, if_neg n1_4, if_neg n1_5, if_neg n1_6, if_neg n1_7, if_neg n1_8, if_neg n1_9, if_neg (show ¬ s = 19 by rw [s1]; decide), if_neg (show ¬ s = 23 by rw [s1]; decide)]⟩ | exact ⟨by rw [m_plainR, if_neg n1_3, if_neg n1_4, if_neg n1_5, if_neg n1_6, if_neg n1_8, if_neg n1_9, if_neg (show ¬ s = 17 by rw [s1]; decide), if_neg (show ¬ s = 18 by rw [s1]; decide), if_neg (show ¬ s = 19 by rw [s1]; decide)], by rw [m_plain, if_neg n1_0, if_neg n1_1, if_neg n1_2, if_neg n1_3, if_neg n1_4, if_neg n1_5, if_neg n1_6, if_neg n1_7, if_neg n1_8, if_neg n1_9, if_neg (show ¬ s = 19 by rw [s1]; decide), if_neg (show ¬ s = 23 by rw [s1]; decide)]⟩ | exact ⟨by rw [m_plainR, if_neg n1_3, if_neg n1_4, if_neg n1_5, if_neg n1_6, if_neg n1_8, if_neg n1_9, if_neg (show ¬ s = 17 by rw [s1]; decide), if_neg (show ¬ s = 18 by rw [s1]; decide), if_neg (show ¬ s = 19 by rw [s1]; decide)], by rw [m_plain, if_neg n1_0, if_neg n1_1, if_neg n1_2, if_neg n1_3, if_neg n1_4, if_neg n1_5, if_neg n1_6, if_neg n1_7, if_neg n1_8, if_neg n1_9, if_neg (show ¬ s = 19 by rw [s1]; decide), if_neg (show ¬ s = 23 by rw [s1]; decide)]⟩ | exact ⟨by rw [m_plainR, if_neg n1_3, if_neg n1_4, if_neg n1_5, if_neg n1_6, if_neg n1_8, if_neg n1_9, if_neg (show ¬ s = 17 by rw [s1]; decide), if_neg (show ¬ s = 18 by rw [s1]; decide), if_neg (show ¬ s = 19 by rw [s1]; decide)], by rw [m_plain, if_neg n1_0, if_neg n1_1, if_neg n1_2, if_neg n1_3, if_neg n1_4, if_neg n1_5, if_neg n1_6, if_neg n1_7, if_neg n1_8, if_neg n1_9, if_neg (show ¬ s = 19 by rw [s1]; decide), if_neg (show ¬ s = 23 by rw [s1]; decide)]⟩ | exact ⟨by rw [m_plainR, if_neg n1_3, if_neg n1_4, if_neg n1_5, if_neg n1_6, if_neg n1_8, if_neg n1_9, if_neg (show ¬ s = 17 by rw [s1]; decide), if_neg (show ¬ s = 18 by rw [s1]; decide), if_neg (show ¬ s = 19 by rw [s1]; decide)], by rw [m_plain, if_neg n1_0, if_neg n1_1, if_neg n1_2, if_neg n1_3, if_neg n1_4, if_neg n1_5, if_neg n1_6, if_neg n1_7, if_neg n1_8, if_neg n1_9, if_neg (show ¬ s = 19 by rw [s1]; decide), if_neg (show ¬ s = 23 by rw [s1]; decide)]⟩ | exact ⟨by rw [m_plainR, if_neg n1_3, if_neg n1_4, if_neg n1_5, if_neg n1_6, if_neg n1_8, if_neg n1_9, if_neg n1_17, if_neg n1_18, if_neg n1_19], by rw [m_plain, if_neg n1_0, if_neg n1_1, if_neg n1_2, if_neg n1_3, if_neg n1_4, if_neg n1_5, if_neg n1_6, if_neg n1_7, if_neg n1_8, if_neg n1_9, if_neg n1_19, if_neg (show ¬ s = 23 by rw [s1]; decide)]⟩ | exact ⟨by rw [m_plainR, if_neg n1_3, if_neg n1_4, if_neg n1_5, if_neg n1_6, if_neg n1_8, if_neg n1_9, if_neg n1_17, if_neg n1_18, if_neg n1_19], by rw [m_plain, if_neg n1_0, if_neg n1_1, if_neg n1_2, if_neg n1_3, if_neg n1_4, if_neg n1_5, if_neg n1_6, if_neg n1_7, if_neg n1_8, if_neg n1_9, if_neg n1_19, if_neg (show ¬ s = 23 by rw [s1]; decide)]⟩ | exact ⟨by rw [m_plainR, if_neg n1_3, if_neg n1_4, if_neg n1_5, if_neg n1_6, if_neg n1_8, if_neg n1_9, if_neg n1_17, if_neg n1_18, if_neg n1_19], by rw [m_plain, if_neg n1_0, if_neg n1_1, if_neg n1_2, if_neg n1_3, if_neg n1_4, if_neg n1_5, if_neg n1_6, if_neg n1_7, if_neg n1_8, if_neg n1_9, if_neg n1_19, if_neg (show ¬ s = 23 by rw [s1]; decide)]⟩ | exact ⟨by rw [m_plainR, if_neg n1_3, if_neg n1_4, if_neg n1_5, if_neg n1_6, if_neg n1_8, if_neg n1_9, if_neg n1_17, if_neg n1_18, if_neg n1_19], by rw [m_plain, if_neg n1_0, if_neg n1_1, if_neg n1_2, if_neg n1_3, if_neg n1_4, if_neg n1_5, if_neg n1_6, if_neg n1_7, if_neg n1_8, if_neg n1_9, if_neg n1_19, if_neg n1_23]⟩)⟩
  refine ab_tw_c 22 329 (by decide) (by decide) (fun s1 => ?_) (fun n1_22 => ?_)
  · refine ab_iconst (pc := 329) (v := 0) dX4_plain_329 (by decide) ?_
    exact ab_reti (pc := 330) dX4_plain_330 rfl ⟨_, rfl, (by first | exact ⟨by rw [m_plainR, if_neg n1_3, if_neg n1_4, if_neg n1_5, if_neg n1_6, if_neg n1_8, if_neg n1_9, if_neg (show ¬ s = 17 by rw [s1]; decide), if_neg (show ¬ s = 18 by rw [s1]; decide), if_neg (show ¬ s = 19 by rw [s1]; decide)], by rw [m_plain, if_neg n1_0, if_neg n1_1, if_neg n1_2, if_neg n1_3, if_neg n1_4, if_neg n1_5, if_neg n1_6, if_neg n1_7, if_neg n1_8, if_neg n1_9, if_neg (show ¬ s = 19 by rw [s1]; decide), if_neg (show ¬ s = 23 by rw [s1]; decide)]⟩ | exact ⟨by rw [m_plainR, if_neg n1_3, if_neg n1_4, if_neg n1_5, if_neg n1_6, if_neg n1_8, if_neg n1_9, if_neg (show ¬ s = 17 by rw [s1]; decide), if_neg (show ¬ s = 18 by rw [s1]; decide), if_neg (show ¬ s = 19 by rw [s1]; decide)], by rw [m_plain, if_neg n1_0, if_neg n1_1, if_neg n1_2, if_neg n1_3, if_neg n1_4, if_neg n1_5, if_neg n1_6, if_neg n1_7, if_neg n1_8, if_neg n1_9, if_neg (show ¬ s = 19 by rw [s1]; decide), if_neg (show ¬ s = 23 by rw [s1]; decide)]⟩ | exact ⟨by rw [m_plainR, if_neg n1_3, if_neg n1_4, if_neg n1_5, if_neg n1_6, if_neg n1_8, if_neg n1_9, if_neg (show ¬ s = 17 by rw [s1]; decide), if_neg (show ¬ s = 18 by rw [s1]; decide), if_neg (show ¬ s = 19 by rw [s1]; decide)], by rw [m_plain, if_neg n1_0, if_neg n1_1, if_neg n1_2, if_neg n1_3, if_neg n1_4, if_neg n1_5, if_neg n1_6, if_neg n1_7, if_neg n1_8, if_neg n1_9, if_neg (show ¬ s = 19 by rw [s1]; decide), if_neg (show ¬ s = 23 by rw [s1]; decide)]⟩ | exact ⟨by rw [m_plainR, if_neg n1_3, if_neg n1_4, if_neg n1_5, if_neg n1_6, if_neg n1_8, if_neg n1_9, if_neg (show ¬ s = 17 by rw [s1]; decide), if_neg (show ¬ s = 18 by rw [s1]; decide), if_neg (show ¬ s = 19 by rw [s1]; decide)], by rw [m_plain, if_neg n1_0, if_neg n1_1, if_neg n1_2, if_neg n1_3, if_neg n1_4, if_neg n1_5, if_neg n1_6, if_neg n1_7, if_neg n1_8, if_neg n1_9, if_neg (show ¬ s = 19 by rw [s1]; decide), if_neg (show ¬ s = 23 by rw [s1]; decide)]⟩ | exact ⟨by rw [m_plainR, if_neg n1_3, if_neg n1_4, if_neg n1_5, if_neg n1_6, if_neg n1_8, if_neg n1_9, if_neg (show ¬ s = 17 by rw [s1]; decide), if_neg (show ¬ s = 18 by rw [s1]; decide), if_neg (show ¬ s = 19 by rw [s1]; decide)], by rw [m_plain, if_neg n1_0, if_neg n1_1, if_neg n1_2, if_neg n1_3, if_neg n1_4, if_neg n1_5, if_neg n1_6, if_neg n1_7, if_neg n1_8, if_neg n1_9, if_neg (show ¬ s = 19 by rw [s1]; decide), if_neg (show ¬ s = 23 by rw [s1]; decide)]⟩ | exact ⟨by rw [m_plainR, if_neg n1_3, if_neg n1_4, if_neg n1_5, if_neg n1_6, if_neg n1_8, if_neg n1_9, if_neg (show ¬ s = 17 by rw [s1]; decide), if_neg (show ¬ s = 18 by rw [s1]; decide), if_neg (show ¬ s = 19 by rw [s1]; decide)], by rw [m_plain, if_neg n1_0, if_neg n1_1, if_neg n1_2, if_neg n1_3, if_neg n1_4, if_neg n1_5, if_neg n1_6, if_neg n1_7, if_neg n1_8, if_neg n1_9, if_neg (show ¬ s = 19 by rw [s1]; decide), if_neg (show ¬ s = 23 by rw [s1]; decide)]⟩ | exact ⟨by rw [m_plainR, if_neg n1_3, if_neg n1_4, if_neg n1_5, if_neg n1_6, if_neg n1_8, if_neg n1_9, if_neg (show ¬ s = 17 by rw [s1]; decide), if_neg (show ¬ s = 18 by rw [s1]; decide), if_neg (show ¬ s = 19 by rw [s1]; decide)], by rw [m_plain, if_neg n1_0, if_neg n1_1, if_neg n1_2, if_neg n1_3, if_neg n1_4, if_neg n1_5, if_neg n1_6, if_neg n1_7, if_neg n1_8, if_neg n1_9, if_neg (show ¬ s = 19 by rw [s1]; decide), if_neg (show ¬ s = 23 by rw [s1]; decide)]⟩ | exact ⟨by rw [m_plainR, if_neg n1_3, if_neg n1_4, if_neg n1_5, if_neg n1_6, if_neg n1_8, if_neg n1_9, if_neg n1_17, if_neg n1_18, if_neg n1_19], by rw [m_plain, if_neg n1_0, if_neg n1_1, if_neg n1_2, if_neg n1_3, if_neg n1_4, if_neg n1_5, if_neg n1_6, if_neg n1_7, if_neg n1_8, if_neg n1_9, if_neg n1_19, if_neg (show ¬ s = 23 by rw [s1]; decide)]⟩ | exact ⟨by rw [m_plainR, if_neg n1_3, if_neg n1_4, if_neg n1_5, if_neg n1_6, if_neg n1_8, if_neg n1_9, if_neg n1_17, if_neg n1_18, if_neg n1_19], by rw [m_plain, if_neg n1_0, if_neg n1_1, if_neg n1_2, if_neg n1_3, if_neg n1_4, if_neg n1_5, if_neg n1_6, if_neg n1_7, if_neg n1_8, if_neg n1_9, if_neg n1_19, if_neg (show ¬ s = 23 by rw [s1]; decide)]⟩ | exact ⟨by rw [m_plainR, if_neg n1_3, if_neg n1_4, if_neg n1_5, if_neg n1_6, if_neg n1_8, if_neg n1_9, if_neg n1_17, if_neg n1_18, if_neg n1_19], by rw [m_plain, if_neg n1_0, if_neg n1_1, if_neg n1_2, if_neg n1_3, if_neg n1_4, if_neg n1_5, if_neg n1_6, if_neg n1_7, if_neg n1_8, if_neg n1_9, if_neg n1_19, if_neg (show ¬ s = 23 by rw [s1]; decide)]⟩ | exact ⟨by rw [m_plainR, if_neg n1_3, if_neg n1_4, if_neg n1_5, if_neg n1_6, if_neg n1_8, if_neg n1_9, if_neg n1_17, if_neg n1_18, if_neg n1_19], by rw [m_plain, if_neg n1_0, if_neg n1_1, if_neg n1_2, if_neg n1_3, if_neg n1_4, if_neg n1_5, if_neg n1_6, if_neg n1_7, if_neg n1_8, if_neg n1_9, if_neg n1_19, if_neg n1_23]⟩)⟩
  refine ab_tw_c 23 305 (by decide) (by decide) (fun s1 => ?_) (fun n1_23 => ?_)
  · refine ab_aload_n (pc := 305) dX4_plain_305 rfl rfl ?_
    refine ab_geti (pc := 306) dX4_plain_306 fX4_127 rfl rfl ?_
    refine ab_if_le (pc := 309) 327 dX4_plain_309 (by decide) (fun c309 => ?_) (fun c309 => ?_)
    · refine ab_iconst (pc := 327) (v := 0) dX4_plain_327 (by decide) ?_
      exact ab_reti (pc := 328) dX4_plain_328 rfl ⟨_, rfl, (by first | exact ⟨by rw [m_plainR, if_neg n1_3, if_neg n1_4, if_neg n1_5, if_neg n1_6, if_neg n1_8, if_neg n1_9, if_neg n1_17, if_neg n1_18, if_neg n1_19], by rw [m_plain, if_neg n1_0, if_neg n1_1, if_neg n1_2, if_neg n1_3, if_neg n1_4, if_neg n1_5, if_neg n1_6, if_neg n1_7, if_neg n1_8, if_neg n1_9, if_neg n1_19, if_pos s1, if_pos c309]⟩ | exact ⟨by rw [m_plainR, if_neg n1_3, if_neg n1_4, if_neg n1_5, if_neg n1_6, if_neg n1_8, if_neg n1_9, if_neg n1_17, if_neg n1_18, if_neg n1_19], by rw [m_plain, if_neg n1_0, if_neg n1_1, if_neg n1_2, if_neg n1_3, if_neg n1_4, if_neg n1_5, if_neg n1_6, if_neg n1_7, if_neg n1_8, if_neg n1_9, if_neg n1_19, if_pos s1, if_neg c309]⟩)⟩
    · refine ab_aload_n (pc := 312) dX4_plain_312 rfl rfl ?_
      refine ab_aload_n (pc := 313) dX4_plain_313 rfl rfl ?_
      refine ab_getr (pc := 314) dX4_plain_314 fX4_65 rfl rfl ?_
      refine ab_aload_n (pc := 317) dX4_plain_317 rfl rfl ?_
      refine ab_geti (pc := 318) dX4_plain_318 fX4_127 rfl rfl ?_
      refine ab_iconst (pc := 321) (v := 1) dX4_plain_321 (by decide) ?_
      refine ab_isub (pc := 322) dX4_plain_322 ?_
      refine ab_iald (pc := 323) dX4_plain_323 rfl (hmk c309) ?_
      refine ab_puti (pc := 324) dX4_plain_324 fwX4_130 rfl rfl ?_
      refine ab_iconst (pc := 327) (v := 0) dX4_plain_327 (by decide) ?_
      exact ab_reti (pc := 328) dX4_plain_328 rfl ⟨_, rfl, (by first | exact ⟨by rw [m_plainR, if_neg n1_3, if_neg n1_4, if_neg n1_5, if_neg n1_6, if_neg n1_8, if_neg n1_9, if_neg n1_17, if_neg n1_18, if_neg n1_19], by rw [m_plain, if_neg n1_0, if_neg n1_1, if_neg n1_2, if_neg n1_3, if_neg n1_4, if_neg n1_5, if_neg n1_6, if_neg n1_7, if_neg n1_8, if_neg n1_9, if_neg n1_19, if_pos s1, if_pos c309]⟩ | exact ⟨by rw [m_plainR, if_neg n1_3, if_neg n1_4, if_neg n1_5, if_neg n1_6, if_neg n1_8, if_neg n1_9, if_neg n1_17, if_neg n1_18, if_neg n1_19], by rw [m_plain, if_neg n1_0, if_neg n1_1, if_neg n1_2, if_neg n1_3, if_neg n1_4, if_neg n1_5, if_neg n1_6, if_neg n1_7, if_neg n1_8, if_neg n1_9, if_neg n1_19, if_pos s1, if_neg c309]⟩)⟩
  refine ab_tw_n 329 (by decide) ?_
  refine ab_iconst (pc := 329) (v := 0) dX4_plain_329 (by decide) ?_
  exact ab_reti (pc := 330) dX4_plain_330 rfl ⟨_, rfl, (by first | exact ⟨by rw [m_plainR, if_neg n1_3, if_neg n1_4, if_neg n1_5, if_neg n1_6, if_neg n1_8, if_neg n1_9, if_neg (show ¬ s = 17 by rw [s1]; decide), if_neg (show ¬ s = 18 by rw [s1]; decide), if_neg (show ¬ s = 19 by rw [s1]; decide)], by rw [m_plain, if_neg n1_0, if_neg n1_1, if_neg n1_2, if_neg n1_3, if_neg n1_4, if_neg n1_5, if_neg n1_6, if_neg n1_7, if_neg n1_8, if_neg n1_9, if_neg (show ¬ s = 19 by rw [s1]; decide), if_neg (show ¬ s = 23 by rw [s1]; decide)]⟩ | exact ⟨by rw [m_plainR, if_neg n1_3, if_neg n1_4, if_neg n1_5, if_neg n1_6, if_neg n1_8, if_neg n1_9, if_neg (show ¬ s = 17 by rw [s1]; decide), if_neg (show ¬ s = 18 by rw [s1]; decide), if_neg (show ¬ s = 19 by rw [s1]; decide)], by rw [m_plain, if_neg n1_0, if_neg n1_1, if_neg n1_2, if_neg n1_3, if_neg n1_4, if_neg n1_5, if_neg n1_6, if_neg n1_7, if_neg n1_8, if_neg n1_9, if_neg (show ¬ s = 19 by rw [s1]; decide), if_neg (show ¬ s = 23 by rw [s1]; decide)]⟩ | exact ⟨by rw [m_plainR, if_neg n1_3, if_neg n1_4, if_neg n1_5, if_neg n1_6, if_neg n1_8, if_neg n1_9, if_neg (show ¬ s = 17 by rw [s1]; decide), if_neg (show ¬ s = 18 by rw [s1]; decide), if_neg (show ¬ s = 19 by rw [s1]; decide)], by rw [m_plain, if_neg n1_0, if_neg n1_1, if_neg n1_2, if_neg n1_3, if_neg n1_4, if_neg n1_5, if_neg n1_6, if_neg n1_7, if_neg n1_8, if_neg n1_9, if_neg (show ¬ s = 19 by rw [s1]; decide), if_neg (show ¬ s = 23 by rw [s1]; decide)]⟩ | exact ⟨by rw [m_plainR, if_neg n1_3, if_neg n1_4, if_neg n1_5, if_neg n1_6, if_neg n1_8, if_neg n1_9, if_neg (show ¬ s = 17 by rw [s1]; decide), if_neg (show ¬ s = 18 by rw [s1]; decide), if_neg (show ¬ s = 19 by rw [s1]; decide)], by rw [m_plain, if_neg n1_0, if_neg n1_1, if_neg n1_2, if_neg n1_3, if_neg n1_4, if_neg n1_5, if_neg n1_6, if_neg n1_7, if_neg n1_8, if_neg n1_9, if_neg (show ¬ s = 19 by rw [s1]; decide), if_neg (show ¬ s = 23 by rw [s1]; decide)]⟩ | exact ⟨by rw [m_plainR, if_neg n1_3, if_neg n1_4, if_neg n1_5, if_neg n1_6, if_neg n1_8, if_neg n1_9, if_neg (show ¬ s = 17 by rw [s1]; decide), if_neg (show ¬ s = 18 by rw [s1]; decide), if_neg (show ¬ s = 19 by rw [s1]; decide)], by rw [m_plain, if_neg n1_0, if_neg n1_1, if_neg n1_2, if_neg n1_3, if_neg n1_4, if_neg n1_5, if_neg n1_6, if_neg n1_7, if_neg n1_8, if_neg n1_9, if_neg (show ¬ s = 19 by rw [s1]; decide), if_neg (show ¬ s = 23 by rw [s1]; decide)]⟩ | exact ⟨by rw [m_plainR, if_neg n1_3, if_neg n1_4, if_neg n1_5, if_neg n1_6, if_neg n1_8, if_neg n1_9, if_neg (show ¬ s = 17 by rw [s1]; decide), if_neg (show ¬ s = 18 by rw [s1]; decide), if_neg (show ¬ s = 19 by rw [s1]; decide)], by rw [m_plain, if_neg n1_0, if_neg n1_1, if_neg n1_2, if_neg n1_3, if_neg n1_4, if_neg n1_5, if_neg n1_6, if_neg n1_7, if_neg n1_8, if_neg n1_9, if_neg (show ¬ s = 19 by rw [s1]; decide), if_neg (show ¬ s = 23 by rw [s1]; decide)]⟩ | exact ⟨by rw [m_plainR, if_neg n1_3, if_neg n1_4, if_neg n1_5, if_neg n1_6, if_neg n1_8, if_neg n1_9, if_neg (show ¬ s = 17 by rw [s1]; decide), if_neg (show ¬ s = 18 by rw [s1]; decide), if_neg (show ¬ s = 19 by rw [s1]; decide)], by rw [m_plain, if_neg n1_0, if_neg n1_1, if_neg n1_2, if_neg n1_3, if_neg n1_4, if_neg n1_5, if_neg n1_6, if_neg n1_7, if_neg n1_8, if_neg n1_9, if_neg (show ¬ s = 19 by rw [s1]; decide), if_neg (show ¬ s = 23 by rw [s1]; decide)]⟩ | exact ⟨by rw [m_plainR, if_neg n1_3, if_neg n1_4, if_neg n1_5, if_neg n1_6, if_neg n1_8, if_neg n1_9, if_neg n1_17, if_neg n1_18, if_neg n1_19], by rw [m_plain, if_neg n1_0, if_neg n1_1, if_neg n1_2, if_neg n1_3, if_neg n1_4, if_neg n1_5, if_neg n1_6, if_neg n1_7, if_neg n1_8, if_neg n1_9, if_neg n1_19, if_neg (show ¬ s = 23 by rw [s1]; decide)]⟩ | exact ⟨by rw [m_plainR, if_neg n1_3, if_neg n1_4, if_neg n1_5, if_neg n1_6, if_neg n1_8, if_neg n1_9, if_neg n1_17, if_neg n1_18, if_neg n1_19], by rw [m_plain, if_neg n1_0, if_neg n1_1, if_neg n1_2, if_neg n1_3, if_neg n1_4, if_neg n1_5, if_neg n1_6, if_neg n1_7, if_neg n1_8, if_neg n1_9, if_neg n1_19, if_neg (show ¬ s = 23 by rw [s1]; decide)]⟩ | exact ⟨by rw [m_plainR, if_neg n1_3, if_neg n1_4, if_neg n1_5, if_neg n1_6, if_neg n1_8, if_neg n1_9, if_neg n1_17, if_neg n1_18, if_neg n1_19], by rw [m_plain, if_neg n1_0, if_neg n1_1, if_neg n1_2, if_neg n1_3, if_neg n1_4, if_neg n1_5, if_neg n1_6, if_neg n1_7, if_neg n1_8, if_neg n1_9, if_neg n1_19, if_neg (show ¬ s = 23 by rw [s1]; decide)]⟩ | exact ⟨by rw [m_plainR, if_neg n1_3, if_neg n1_4, if_neg n1_5, if_neg n1_6, if_neg n1_8, if_neg n1_9, if_neg n1_17, if_neg n1_18, if_neg n1_19], by rw [m_plain, if_neg n1_0, if_neg n1_1, if_neg n1_2, if_neg n1_3, if_neg n1_4, if_neg n1_5, if_neg n1_6, if_neg n1_7, if_neg n1_8, if_neg n1_9, if_neg n1_19, if_neg n1_23]⟩)⟩
