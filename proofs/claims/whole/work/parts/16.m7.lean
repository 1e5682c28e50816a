set_option maxRecDepth 100000 in
set_option maxHeartbeats 4000000 in
theorem kX4_step {l : Launch} {d : Nat} {h : ab_H} {u : Nat} {sN aN bN en q z : Int32} (esN : sN = h 1 (h 0 40).toNatClampNeg) (eaN : aN = h 2 (h 0 40).toNatClampNeg) (ebN : bN = h 3 (h 0 40).toNatClampNeg) (hat : vp_in (h 0 40) 480) (hop : vp_in (h 0 39) 80) (he : m_opens sN = true → m_endOf (h 1) (h 0 40) = some en) (hsc : sN = 14 → vp_in (h 0 30) 70) (hnm : sN = 21 → vp_in aN 8) (hp : sN = 21 → m_partE (h 1) (h 0 40) 22 = some q) (hw : sN = 20 → vp_in bN 8) (hz : sN = 20 → m_unended h bN = some z) (hu : h 0 28 = nI u) (hu2 : u < 70) (hA : sN = 0 ∨ sN = 1 ∨ sN = 2 ∨ sN = 3 ∨ sN = 4 ∨ sN = 5 ∨ sN = 6 ∨ sN = 19 → vp_in aN 8) (hB : sN = 3 ∨ sN = 4 ∨ sN = 5 → vp_in bN 8) (hS : sN = 7 ∨ sN = 8 → vp_in aN 4) (hlg : ¬ h 0 15 = 100 → vp_in (h 0 15) 100) (hp16 : ∀ i : Int32, ¬ i < 0 → i < h 0 7 → vp_in i 16) (hbx : vp_in (h 0 13) 80) (hsl : sN = 8 → vp_in (h 7 (aN).toNatClampNeg) 80) (hmk : ¬ h 0 30 ≤ 0 → vp_in (h 0 30 - 1) 70) : ab_C l layM (d + 4) mX4_step [ab_R 0] h (ab_qv fun h' => h' = m_step h en (m_partR (h 1) 22 q) z) := by
  refine ab_enter (by decide) (Nat.le_of_ble_eq_true rfl) ?_
  refine ab_aload_n (pc := 0) dX4_step_0 rfl rfl ?_
  refine ab_getr (pc := 1) dX4_step_1 fX4_7 rfl rfl ?_
  refine ab_aload_n (pc := 4) dX4_step_4 rfl rfl ?_
  refine ab_geti (pc := 5) dX4_step_5 fX4_174 rfl rfl ?_
  refine ab_iald (pc := 8) dX4_step_8 rfl hat ?_
  refine ab_topi esN.symm ?_
  refine ab_istore_n (pc := 9) dX4_step_9 rfl rfl ?_
  refine ab_aload_n (pc := 10) dX4_step_10 rfl rfl ?_
  refine ab_V0 (pc := 11) dX4_step_11 mvX4_193 rfl rfl kX4_pays2 (ab_ki fun r11 h11 e11 => ?_)
  rcases e11 with ⟨q16, rfl, rfl⟩ | ⟨q16, rfl, rfl⟩
  · refine ab_if_ne (pc := 14) 25 dX4_step_14 (by decide) (fun c14 => ?_) (fun c14 => absurd c14 (by decide))
    refine ab_iload_n (pc := 25) dX4_step_25 rfl rfl ?_
    refine ab_S1 (pc := 26) dX4_step_26 msX4_98 rfl (kX4_opens) (ab_ki fun r26 h26 e26 => ?_)
    obtain ⟨rfl, rfl⟩ := And.intro e26.1.symm e26.2.symm
    refine ab_if_eq (pc := 29) 40 dX4_step_29 (by decide) (fun c29 => ?_) (fun c29 => ?_)
    · replace c29 := b2i_0.mp c29
      refine ab_iload_n (pc := 40) dX4_step_40 rfl rfl ?_
      refine ab_bipush (pc := 41) (v := 20) dX4_step_41 (by decide) ?_
      refine ab_icmp_ne (pc := 43) 57 dX4_step_43 (by decide) (fun c43 => ?_) (fun c43 => ?_)
      · refine ab_aload_n (pc := 57) dX4_step_57 rfl rfl ?_
        refine ab_aload_n (pc := 58) dX4_step_58 rfl rfl ?_
        refine ab_iload_n (pc := 59) dX4_step_59 rfl rfl ?_
        refine ab_aload_n (pc := 60) dX4_step_60 rfl rfl ?_
        refine ab_getr (pc := 61) dX4_step_61 fX4_13 rfl rfl ?_
        refine ab_aload_n (pc := 64) dX4_step_64 rfl rfl ?_
        refine ab_geti (pc := 65) dX4_step_65 fX4_174 rfl rfl ?_
        refine ab_topi (by (try simp only [ab_rd, ab_rdA, Nat.reduceEqDiff, reduceIte]); exact rfl) ?_
        refine ab_iald (pc := 68) dX4_step_68 rfl hat ?_
        refine ab_topi (by (try simp only [ab_rd, ab_rdA, Nat.reduceEqDiff, reduceIte]); exact rfl) ?_
        refine ab_topi eaN.symm ?_
        refine ab_aload_n (pc := 69) dX4_step_69 rfl rfl ?_
        refine ab_getr (pc := 70) dX4_step_70 fX4_16 rfl rfl ?_
        refine ab_aload_n (pc := 73) dX4_step_73 rfl rfl ?_
        refine ab_geti (pc := 74) dX4_step_74 fX4_174 rfl rfl ?_
        refine ab_topi (by (try simp only [ab_rd, ab_rdA, Nat.reduceEqDiff, reduceIte]); exact rfl) ?_
        refine ab_iald (pc := 77) dX4_step_77 rfl hat ?_
        refine ab_topi (by (try simp only [ab_rd, ab_rdA, Nat.reduceEqDiff, reduceIte]); exact rfl) ?_
        refine ab_topi ebN.symm ?_
        refine ab_V3 (pc := 78) dX4_step_78 mvX4_212 rfl rfl (kX4_plain (u := u) hu hu2 hA hB hS hlg hp16 hbx hsl hmk) (ab_ki fun r78 h78 e78 => ?_)
        obtain ⟨rfl, rfl⟩ := And.intro e78.1.symm e78.2.symm
        refine ab_puti (pc := 81) dX4_step_81 fwX4_197 rfl rfl ?_
        refine ab_aload_n (pc := 84) dX4_step_84 rfl rfl ?_
        refine ab_dup (pc := 85) dX4_step_85 rfl ?_
        refine ab_geti (pc := 86) dX4_step_86 fX4_174 rfl rfl ?_
        refine ab_topi (by (try simp only [ab_rd, ab_rdA, Nat.reduceEqDiff, reduceIte]); exact rfl) ?_
        refine ab_iconst (pc := 89) (v := 1) dX4_step_89 (by decide) ?_
        refine ab_iadd (pc := 90) dX4_step_90 ?_
        refine ab_puti (pc := 91) dX4_step_91 fwX4_174 rfl rfl ?_
        exact ab_retv (pc := 94) dX4_step_94 rfl ⟨rfl, (by first | rw [m_step, if_pos q16] | (rw [m_step, if_neg q16, ← esN, if_pos c29]; rfl) | rw [m_step, if_neg q16, ← esN, if_neg (ne_true_of_eq_false c29), if_pos c43] | rw [m_step, if_neg q16, ← esN, ← eaN, ← ebN, if_neg (ne_true_of_eq_false c29), if_neg c43])⟩
      · refine ab_aload_n (pc := 46) dX4_step_46 rfl rfl ?_
        refine ab_aload_n (pc := 47) dX4_step_47 rfl rfl ?_
        refine ab_geti (pc := 48) dX4_step_48 fX4_174 rfl rfl ?_
        refine ab_topi (by (try simp only [ab_rd, ab_rdA, Nat.reduceEqDiff, reduceIte]); exact rfl) ?_
        refine ab_V1 (pc := 51) dX4_step_51 mvX4_209 rfl rfl (kX4_call (z := z) hop hat (by have := hw c43; rw [ebN] at this; exact this) (by have := hz c43; rw [ebN] at this; exact this)) (ab_kv fun h51 e51 => ?_)
        obtain rfl := e51.symm
        refine ab_goto (pc := 54) 94 dX4_step_54 (by decide) ?_
        exact ab_retv (pc := 94) dX4_step_94 rfl ⟨rfl, (by first | rw [m_step, if_pos q16] | (rw [m_step, if_neg q16, ← esN, if_pos c29]; rfl) | rw [m_step, if_neg q16, ← esN, if_neg (ne_true_of_eq_false c29), if_pos c43] | rw [m_step, if_neg q16, ← esN, ← eaN, ← ebN, if_neg (ne_true_of_eq_false c29), if_neg c43])⟩
    · replace c29 := b2i_1.mp c29
      refine ab_aload_n (pc := 32) dX4_step_32 rfl rfl ?_
      refine ab_iload_n (pc := 33) dX4_step_33 rfl rfl ?_
      refine ab_V1 (pc := 34) dX4_step_34 mvX4_206 rfl rfl (kX4_begin (q := q) hop hat (he c29) hsc (fun q9 => by have := hnm q9; rw [eaN] at this; exact this) hp) (ab_kv fun h34 e34 => ?_)
      obtain rfl := e34.symm
      refine ab_goto (pc := 37) 94 dX4_step_37 (by decide) ?_
      exact ab_retv (pc := 94) dX4_step_94 rfl ⟨rfl, (by first | rw [m_step, if_pos q16] | (rw [m_step, if_neg q16, ← esN, if_pos c29]; rfl) | rw [m_step, if_neg q16, ← esN, if_neg (ne_true_of_eq_false c29), if_pos c43] | rw [m_step, if_neg q16, ← esN, ← eaN, ← ebN, if_neg (ne_true_of_eq_false c29), if_neg c43])⟩
  · refine ab_if_ne (pc := 14) 25 dX4_step_14 (by decide) (fun c14 => absurd c14 (by decide)) (fun c14 => ?_)
    refine ab_aload_n (pc := 17) dX4_step_17 rfl rfl ?_
    refine ab_iconst (pc := 18) (v := 3) dX4_step_18 (by decide) ?_
    refine ab_puti (pc := 19) dX4_step_19 fwX4_197 rfl rfl ?_
    refine ab_goto (pc := 22) 94 dX4_step_22 (by decide) ?_
    exact ab_retv (pc := 94) dX4_step_94 rfl ⟨rfl, (by first | rw [m_step, if_pos q16] | (rw [m_step, if_neg q16, ← esN, if_pos c29]; rfl) | rw [m_step, if_neg q16, ← esN, if_neg (ne_true_of_eq_false c29), if_pos c43] | rw [m_step, if_neg q16, ← esN, ← eaN, ← ebN, if_neg (ne_true_of_eq_false c29), if_neg c43])⟩

/-- the entries below u may be undone: their places are there -/
def m_uok (h : ab_H) (u : Nat) : Prop := ∀ j, j < u → (h 13 j = 1 ∨ h 13 j = 2 → vp_in (h 14 j) 8) ∧ (h 13 j = 7 → vp_in (h 14 j) 4) ∧ (¬ h 13 j = 1 → ¬ h 13 j = 2 → ¬ h 13 j = 5 → ¬ h 13 j = 7 → ∀ i : Int32, ¬ i < 0 → i < h 15 j → vp_in i 16)
def m_pok (h : ab_H) : Prop := ∀ i : Int32, ¬ i < 0 → i < h 0 7 → vp_in i 16
theorem m_undo_ne (h : ab_H) (u i : Nat) (h0 : i ≠ 0) (h5 : i ≠ 5) (h6 : i ≠ 6) (h7 : i ≠ 7) : m_undo h u i = h i := by
  unfold m_undo m_undoB
  repeat' split
  all_goals (funext k; simp [ab_rd, ab_rdA, h0, h5, h6, h7])
theorem m_undo_0 (h : ab_H) (u k : Nat) (h1 : k ≠ 28) (h2 : k ≠ 17) (h3 : k ≠ 18) (h4 : k ≠ 7) : m_undo h u 0 k = h 0 k := by
  unfold m_undo m_undoB
  repeat' split
  all_goals simp [ab_rd, ab_rdA, h1, h2, h3, h4]
theorem m_undo_28 (h : ab_H) (u : Nat) : m_undo h u 0 28 = nI u := by
  unfold m_undo m_undoB
  repeat' split
  all_goals simp [ab_rd, ab_rdA]
theorem m_undo_uok {h : ab_H} {u : Nat} (H : m_uok h (u + 1)) : m_uok (m_undo h u) u := by
  intro j hj
  rw [m_undo_ne h u 13 (by omega) (by omega) (by omega) (by omega), m_undo_ne h u 14 (by omega) (by omega) (by omega) (by omega), m_undo_ne h u 15 (by omega) (by omega) (by omega) (by omega)]
  exact H j (by omega)
theorem m_undo_pok {h : ab_H} {u : Nat} (H : m_uok h (u + 1)) (P : m_pok h) : m_pok (m_undo h u) := by
  have H := (H u (by omega)).2.2
  unfold m_undo m_undoB
  split
  · intro i h1 h2
    exact P i h1 (by simpa [ab_rd] using h2)
  · next q =>
    split
    · intro i h1 h2
      exact P i h1 (by simpa [ab_rd] using h2)
    · next q1 =>
      split
      · intro i h1 h2
        exact P i h1 (by simpa [ab_rd] using h2)
      · next q2 =>
        split
        · intro i h1 h2
          exact P i h1 (by simpa [ab_rd] using h2)
        · next q3 =>
          split
          · intro i h1 h2
            exact P i h1 (by simpa [ab_rd] using h2)
          · next q4 =>
            intro i h1 h2
            exact H q1 q2 q3 q4 i h1 (by simpa [ab_rd, ab_rdA] using h2)
/-- undo n entries, down to mk -/
def m_ua (mk : Nat) : Nat → ab_H → ab_H
  | 0, h => h
  | n + 1, h => m_ua mk n (m_undo h (mk + n))
theorem m_ua_ne (mk : Nat) (i : Nat) (h0 : i ≠ 0) (h5 : i ≠ 5) (h6 : i ≠ 6) (h7 : i ≠ 7) : ∀ (n : Nat) (h : ab_H), m_ua mk n h i = h i
  | 0, _ => rfl
  | n + 1, h => (m_ua_ne mk i h0 h5 h6 h7 n _).trans (m_undo_ne h _ i h0 h5 h6 h7)
theorem m_ua_0 (mk : Nat) (k : Nat) (h1 : k ≠ 28) (h2 : k ≠ 17) (h3 : k ≠ 18) (h4 : k ≠ 7) : ∀ (n : Nat) (h : ab_H), m_ua mk n h 0 k = h 0 k
  | 0, _ => rfl
  | n + 1, h => (m_ua_0 mk k h1 h2 h3 h4 n _).trans (m_undo_0 h _ k h1 h2 h3 h4)
set_option maxRecDepth 100000 in
set_option maxHeartbeats 4000000 in
theorem lpX4_ended {l : Launch} {d : Nat} {mk : Nat} {Q : Option ab_V → ab_H → Prop} : ∀ (n : Nat) (h : ab_H), h 0 28 = nI (mk + n) → mk + n ≤ 70 → h 17 (h 0 30).toNatClampNeg = nI mk → vp_in (h 0 30) 70 → m_uok h (mk + n) → m_pok h → ab_J l layM mX4_ended (d + 1) Q 128 [(0, ab_R 0)] [] (m_ua mk n h) → ab_J l layM mX4_ended (d + 1) Q 105 [(0, ab_R 0)] [] h := by
  intro n
  induction n with
  | zero =>
    intro h hu hle hmk hsc hok hpl K
    refine ab_aload_n (pc := 105) dX4_ended_105 rfl rfl ?_
    refine ab_geti (pc := 106) dX4_ended_106 fX4_130 rfl rfl ?_
    refine ab_aload_n (pc := 109) dX4_ended_109 rfl rfl ?_
    refine ab_getr (pc := 110) dX4_ended_110 fX4_65 rfl rfl ?_
    refine ab_aload_n (pc := 113) dX4_ended_113 rfl rfl ?_
    refine ab_geti (pc := 114) dX4_ended_114 fX4_127 rfl rfl ?_
    refine ab_iald (pc := 117) dX4_ended_117 rfl hsc ?_
    rw [hu, hmk]
    refine ab_icmp_le (pc := 118) 128 dX4_ended_118 (by decide) (fun c118 => ?_) (fun c118 => ?_)
    · exact K
    · exact absurd (nI_le (by omega) (by omega)) c118
  | succ n ih =>
    intro h hu hle hmk hsc hok hpl K
    refine ab_aload_n (pc := 105) dX4_ended_105 rfl rfl ?_
    refine ab_geti (pc := 106) dX4_ended_106 fX4_130 rfl rfl ?_
    refine ab_aload_n (pc := 109) dX4_ended_109 rfl rfl ?_
    refine ab_getr (pc := 110) dX4_ended_110 fX4_65 rfl rfl ?_
    refine ab_aload_n (pc := 113) dX4_ended_113 rfl rfl ?_
    refine ab_geti (pc := 114) dX4_ended_114 fX4_127 rfl rfl ?_
    refine ab_iald (pc := 117) dX4_ended_117 rfl hsc ?_
    rw [hu, hmk]
    refine ab_icmp_le (pc := 118) 128 dX4_ended_118 (by decide) (fun c118 => ?_) (fun c118 => ?_)
    · exact absurd c118 (nI_ge (by omega) (by omega))
    · refine ab_aload_n (pc := 121) dX4_ended_121 rfl rfl ?_
      refine ab_V0 (pc := 122) dX4_ended_122 mvX4_224 rfl rfl (kX4_undoOne (u := mk + n) hu (by omega) (hok _ (by omega)).1 (fun _ => hpl _) (hok _ (by omega)).2.1) (ab_kv fun h122 e122 => ?_)
      obtain rfl := e122.symm
      refine ab_goto (pc := 125) 105 dX4_ended_125 (by decide) ?_
      exact ih _ (m_undo_28 _ _) (by omega) (by rw [m_undo_ne h _ 17 (by omega) (by omega) (by omega) (by omega), m_undo_0 h _ 30 (by omega) (by omega) (by omega) (by omega)]; exact hmk) (by rw [m_undo_0 h _ 30 (by omega) (by omega) (by omega) (by omega)]; exact hsc) (m_undo_uok hok) (m_undo_pok hok hpl) K
