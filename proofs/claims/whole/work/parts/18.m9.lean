/-! boxes are numbered anew; the run -/
def m_st1 (h : ab_H) (k : Nat) : ab_H := ab_up (ab_up h 10 k (h 8 (h 7 k).toNatClampNeg)) 11 k (h 9 (h 7 k).toNatClampNeg)
def m_st2 (h : ab_H) (k : Nat) : ab_H := ab_up (ab_up (ab_up h 8 (k + 1) (h 10 k)) 9 (k + 1) (h 11 k)) 7 k (if h 7 k = 0 then 0 else nI (k + 1))
def m_s1 (h : ab_H) : Nat → ab_H
  | 0 => h
  | k + 1 => m_st1 (m_s1 h k) k
def m_s2 (h : ab_H) : Nat → ab_H
  | 0 => h
  | k + 1 => m_st2 (m_s2 h k) k
def m_settle (h : ab_H) : ab_H := ab_up (m_s2 (m_s1 h 4) 4) 0 13 5
theorem m_s1_7 (h : ab_H) : ∀ k, m_s1 h k 7 = h 7
  | 0 => rfl
  | k + 1 => by
    show m_st1 (m_s1 h k) k 7 = h 7
    rw [← m_s1_7 h k]
    rfl
theorem m_ge4 {k : Nat} (hk : k ≤ 4) (c : 4 ≤ nI k) : k = 4 := by
  have : nI 4 ≤ nI k := c
  rw [nI_leI (by omega) (by omega)] at this
  omega
theorem m_lt4 {k : Nat} (hk : k ≤ 4) (c : ¬ 4 ≤ nI k) : k < 4 := by
  rcases Nat.lt_or_ge k 4 with h | h
  · exact h
  · exact absurd (show nI 4 ≤ nI k from nI_le h (by omega)) c
set_option maxRecDepth 100000 in
set_option maxHeartbeats 4000000 in
theorem lpX4_settle1 {l : Launch} {d : Nat} {h : ab_H} {Q : Option ab_V → ab_H → Prop} (hs : ∀ k, k < 4 → vp_in (h 7 k) 80) (K : ab_J l layM mX4_settle d Q 47 [(0, ab_R 0)] [] (m_s1 h 4)) : ∀ (n : Nat) (k : Nat), k ≤ 4 → 4 < k + n → ab_J l layM mX4_settle (d) (Q) 2 [(0, ab_R 0), (1, ab_I (nI k))] [] (m_s1 h k) := by
  intro n
  induction n with
  | zero =>
    intro k hk hn
    omega
  | succ n ih =>
    intro k hk hn
    refine ab_iload_n (pc := 2) dX4_settle_2 rfl rfl ?_
    refine ab_iconst (pc := 3) (v := 4) dX4_settle_3 (by decide) ?_
    refine ab_icmp_ge (pc := 4) 47 dX4_settle_4 (by decide) (fun c4 => ?_) (fun c4 => ?_)
    · obtain rfl := m_ge4 hk (by assumption)
      refine ab_weak [(0, ab_R 0)] ⟨rfl, trivial⟩ ?_
      exact K
    · have hk2 := m_lt4 hk (by assumption)
      have hc : (nI k).toNatClampNeg = k := nI_clamp (by omega)
      have hc1 : (nI (k + 1)).toNatClampNeg = k + 1 := nI_clamp (by omega)
      have hi : vp_in (nI k) 4 := vp_in_nI hk2 (by omega)
      have hb : vp_in (m_s1 h k 7 k) 80 := by rw [m_s1_7]; exact hs k hk2
      refine ab_aload_n (pc := 7) dX4_settle_7 rfl rfl ?_
      refine ab_getr (pc := 8) dX4_settle_8 fX4_41 rfl rfl ?_
      refine ab_iload_n (pc := 11) dX4_settle_11 rfl rfl ?_
      refine ab_aload_n (pc := 12) dX4_settle_12 rfl rfl ?_
      refine ab_getr (pc := 13) dX4_settle_13 fX4_35 rfl rfl ?_
      refine ab_aload_n (pc := 16) dX4_settle_16 rfl rfl ?_
      refine ab_getr (pc := 17) dX4_settle_17 fX4_32 rfl rfl ?_
      refine ab_iload_n (pc := 20) dX4_settle_20 rfl rfl ?_
      refine ab_iald (pc := 21) dX4_settle_21 rfl hi ?_
      refine ab_topi (by (try simp only [ab_rd, ab_rdA, Nat.reduceEqDiff, reduceIte, hc]); exact rfl) ?_
      refine ab_iald (pc := 22) dX4_settle_22 rfl hb ?_
      refine ab_topi (by (try simp only [ab_rd, ab_rdA, Nat.reduceEqDiff, reduceIte, hc]); exact rfl) ?_
      refine ab_iast (pc := 23) dX4_settle_23 rfl hi ?_
      refine ab_aload_n (pc := 24) dX4_settle_24 rfl rfl ?_
      refine ab_getr (pc := 25) dX4_settle_25 fX4_44 rfl rfl ?_
      refine ab_iload_n (pc := 28) dX4_settle_28 rfl rfl ?_
      refine ab_aload_n (pc := 29) dX4_settle_29 rfl rfl ?_
      refine ab_getr (pc := 30) dX4_settle_30 fX4_38 rfl rfl ?_
      refine ab_aload_n (pc := 33) dX4_settle_33 rfl rfl ?_
      refine ab_getr (pc := 34) dX4_settle_34 fX4_32 rfl rfl ?_
      refine ab_iload_n (pc := 37) dX4_settle_37 rfl rfl ?_
      refine ab_iald (pc := 38) dX4_settle_38 rfl hi ?_
      refine ab_topi (by (try simp only [ab_rd, ab_rdA, Nat.reduceEqDiff, reduceIte, hc]); exact rfl) ?_
      refine ab_iald (pc := 39) dX4_settle_39 rfl hb ?_
      refine ab_topi (by (try simp only [ab_rd, ab_rdA, Nat.reduceEqDiff, reduceIte, hc]); exact rfl) ?_
      refine ab_iast (pc := 40) dX4_settle_40 rfl hi ?_
      refine ab_iinc (pc := 41) (v := 1) dX4_settle_41 rfl (by decide) rfl ?_
      refine ab_goto (pc := 44) 2 dX4_settle_44 (by decide) ?_
      refine ab_weak [(0, ab_R 0), (1, ab_I (nI k + 1))] ⟨rfl, rfl, trivial⟩ ?_
      rw [nI_1]
      refine ab_heq ?_ (ih (k + 1) (by omega) (by omega))
      rw [hc]
      rfl

set_option maxRecDepth 100000 in
set_option maxHeartbeats 4000000 in
theorem lpX4_settle2 {l : Launch} {d : Nat} {h : ab_H} {P : ab_H → Prop} (hP : P (ab_up (m_s2 h 4) 0 13 5)) : ∀ (n : Nat) (k : Nat), k ≤ 4 → 4 < k + n → ab_J l layM mX4_settle (d) (ab_qv P) 49 [(0, ab_R 0), (1, ab_I (nI k))] [] (m_s2 h k) := by
  intro n
  induction n with
  | zero =>
    intro k hk hn
    omega
  | succ n ih =>
    intro k hk hn
    refine ab_iload_n (pc := 49) dX4_settle_49 rfl rfl ?_
    refine ab_iconst (pc := 50) (v := 4) dX4_settle_50 (by decide) ?_
    refine ab_icmp_ge (pc := 51) 110 dX4_settle_51 (by decide) (fun c51 => ?_) (fun c51 => ?_)
    · obtain rfl := m_ge4 hk (by assumption)
      refine ab_aload_n (pc := 110) dX4_settle_110 rfl rfl ?_
      refine ab_iconst (pc := 111) (v := 5) dX4_settle_111 (by decide) ?_
      refine ab_puti (pc := 112) dX4_settle_112 fwX4_47 rfl rfl ?_
      exact ab_retv (pc := 115) dX4_settle_115 rfl ⟨rfl, hP⟩
    · have hk2 := m_lt4 hk (by assumption)
      have hc : (nI k).toNatClampNeg = k := nI_clamp (by omega)
      have hc1 : (nI (k + 1)).toNatClampNeg = k + 1 := nI_clamp (by omega)
      have hi : vp_in (nI k) 4 := vp_in_nI hk2 (by omega)
      have hi1 : vp_in (nI k + 1) 80 := by rw [nI_1]; exact vp_in_nI (by omega) (by omega)
      refine ab_aload_n (pc := 54) dX4_settle_54 rfl rfl ?_
      refine ab_getr (pc := 55) dX4_settle_55 fX4_35 rfl rfl ?_
      refine ab_iload_n (pc := 58) dX4_settle_58 rfl rfl ?_
      refine ab_iconst (pc := 59) (v := 1) dX4_settle_59 (by decide) ?_
      refine ab_iadd (pc := 60) dX4_settle_60 ?_
      refine ab_aload_n (pc := 61) dX4_settle_61 rfl rfl ?_
      refine ab_getr (pc := 62) dX4_settle_62 fX4_41 rfl rfl ?_
      refine ab_iload_n (pc := 65) dX4_settle_65 rfl rfl ?_
      refine ab_iald (pc := 66) dX4_settle_66 rfl hi ?_
      refine ab_topi (by (try simp only [ab_rd, ab_rdA, Nat.reduceEqDiff, reduceIte, hc, hc1, nI_1]); exact rfl) ?_
      refine ab_iast (pc := 67) dX4_settle_67 rfl hi1 ?_
      refine ab_aload_n (pc := 68) dX4_settle_68 rfl rfl ?_
      refine ab_getr (pc := 69) dX4_settle_69 fX4_38 rfl rfl ?_
      refine ab_iload_n (pc := 72) dX4_settle_72 rfl rfl ?_
      refine ab_iconst (pc := 73) (v := 1) dX4_settle_73 (by decide) ?_
      refine ab_iadd (pc := 74) dX4_settle_74 ?_
      refine ab_aload_n (pc := 75) dX4_settle_75 rfl rfl ?_
      refine ab_getr (pc := 76) dX4_settle_76 fX4_44 rfl rfl ?_
      refine ab_iload_n (pc := 79) dX4_settle_79 rfl rfl ?_
      refine ab_iald (pc := 80) dX4_settle_80 rfl hi ?_
      refine ab_topi (by (try simp only [ab_rd, ab_rdA, Nat.reduceEqDiff, reduceIte, hc, hc1, nI_1]); exact rfl) ?_
      refine ab_iast (pc := 81) dX4_settle_81 rfl hi1 ?_
      refine ab_aload_n (pc := 82) dX4_settle_82 rfl rfl ?_
      refine ab_getr (pc := 83) dX4_settle_83 fX4_32 rfl rfl ?_
      refine ab_iload_n (pc := 86) dX4_settle_86 rfl rfl ?_
      refine ab_aload_n (pc := 87) dX4_settle_87 rfl rfl ?_
      refine ab_getr (pc := 88) dX4_settle_88 fX4_32 rfl rfl ?_
      refine ab_iload_n (pc := 91) dX4_settle_91 rfl rfl ?_
      refine ab_iald (pc := 92) dX4_settle_92 rfl hi ?_
      refine ab_topi (by (try simp only [ab_rd, ab_rdA, Nat.reduceEqDiff, reduceIte, hc, hc1, nI_1]); exact rfl) ?_
      refine ab_if_ne (pc := 93) 100 dX4_settle_93 (by decide) (fun c93 => ?_) (fun c93 => ?_)
      · refine ab_iload_n (pc := 100) dX4_settle_100 rfl rfl ?_
        refine ab_iconst (pc := 101) (v := 1) dX4_settle_101 (by decide) ?_
        refine ab_iadd (pc := 102) dX4_settle_102 ?_
        refine ab_iast (pc := 103) dX4_settle_103 rfl hi ?_
        refine ab_iinc (pc := 104) (v := 1) dX4_settle_104 rfl (by decide) rfl ?_
        refine ab_goto (pc := 107) 49 dX4_settle_107 (by decide) ?_
        refine ab_weak [(0, ab_R 0), (1, ab_I (nI k + 1))] ⟨rfl, rfl, trivial⟩ ?_
        rw [nI_1]
        refine ab_heq ?_ (ih (k + 1) (by omega) (by omega))
        show _ = m_st2 (m_s2 h k) k
        first | (rw [m_st2, if_pos c93]; simp only [hc, hc1, nI_1]; done) | (rw [m_st2, if_neg c93]; simp only [hc, hc1, nI_1]; done)
      · refine ab_iconst (pc := 96) (v := 0) dX4_settle_96 (by decide) ?_
        refine ab_goto (pc := 97) 103 dX4_settle_97 (by decide) ?_
        refine ab_iast (pc := 103) dX4_settle_103 rfl hi ?_
        refine ab_iinc (pc := 104) (v := 1) dX4_settle_104 rfl (by decide) rfl ?_
        refine ab_goto (pc := 107) 49 dX4_settle_107 (by decide) ?_
        refine ab_weak [(0, ab_R 0), (1, ab_I (nI k + 1))] ⟨rfl, rfl, trivial⟩ ?_
        rw [nI_1]
        refine ab_heq ?_ (ih (k + 1) (by omega) (by omega))
        show _ = m_st2 (m_s2 h k) k
        first | (rw [m_st2, if_pos c93]; simp only [hc, hc1, nI_1]; done) | (rw [m_st2, if_neg c93]; simp only [hc, hc1, nI_1]; done)

set_option maxRecDepth 100000 in
set_option maxHeartbeats 4000000 in
theorem kX4_settle {l : Launch} {d : Nat} {h : ab_H} (hs : ∀ k, k < 4 → vp_in (h 7 k) 80) : ab_C l layM (d) mX4_settle [ab_R 0] h (ab_qv fun h' => h' = m_settle h) := by
  refine ab_enter (by decide) (Nat.le_of_ble_eq_true rfl) ?_
  refine ab_iconst (pc := 0) (v := 0) dX4_settle_0 (by decide) ?_
  refine ab_istore_n (pc := 1) dX4_settle_1 rfl rfl ?_
  refine ab_weak [(0, ab_R 0), (1, ab_I (nI 0))] ⟨rfl, rfl, trivial⟩ ?_
  refine lpX4_settle1 hs ?_ 5 0 (by omega) (by omega)
  refine ab_iconst (pc := 47) (v := 0) dX4_settle_47 (by decide) ?_
  refine ab_istore_n (pc := 48) dX4_settle_48 rfl rfl ?_
  refine ab_weak [(0, ab_R 0), (1, ab_I (nI 0))] ⟨rfl, rfl, trivial⟩ ?_
  exact lpX4_settle2 (h := m_s1 h 4) (P := fun h' => h' = m_settle h) rfl 5 0 (by omega) (by omega)

/-- what must hold where a NODE begins: rows that are read are there -/
def m_stepOK (h : ab_H) (u : Nat) (en q z : Int32) : Prop :=
  (vp_in (h 0 40) 480) ∧
  (vp_in (h 0 39) 80) ∧
  (m_opens (h 1 (h 0 40).toNatClampNeg) = true → m_endOf (h 1) (h 0 40) = some en) ∧
  (h 1 (h 0 40).toNatClampNeg = 14 → vp_in (h 0 30) 70) ∧
  (h 1 (h 0 40).toNatClampNeg = 21 → vp_in (h 2 (h 0 40).toNatClampNeg) 8) ∧
  (h 1 (h 0 40).toNatClampNeg = 21 → m_partE (h 1) (h 0 40) 22 = some q) ∧
  (h 1 (h 0 40).toNatClampNeg = 20 → vp_in (h 3 (h 0 40).toNatClampNeg) 8) ∧
  (h 1 (h 0 40).toNatClampNeg = 20 → m_unended h (h 3 (h 0 40).toNatClampNeg) = some z) ∧
  (h 0 28 = nI u) ∧
  (u < 70) ∧
  (h 1 (h 0 40).toNatClampNeg = 0 ∨ h 1 (h 0 40).toNatClampNeg = 1 ∨ h 1 (h 0 40).toNatClampNeg = 2 ∨ h 1 (h 0 40).toNatClampNeg = 3 ∨ h 1 (h 0 40).toNatClampNeg = 4 ∨ h 1 (h 0 40).toNatClampNeg = 5 ∨ h 1 (h 0 40).toNatClampNeg = 6 ∨ h 1 (h 0 40).toNatClampNeg = 19 → vp_in (h 2 (h 0 40).toNatClampNeg) 8) ∧
  (h 1 (h 0 40).toNatClampNeg = 3 ∨ h 1 (h 0 40).toNatClampNeg = 4 ∨ h 1 (h 0 40).toNatClampNeg = 5 → vp_in (h 3 (h 0 40).toNatClampNeg) 8) ∧
  (h 1 (h 0 40).toNatClampNeg = 7 ∨ h 1 (h 0 40).toNatClampNeg = 8 → vp_in (h 2 (h 0 40).toNatClampNeg) 4) ∧
  (¬ h 0 15 = 100 → vp_in (h 0 15) 100) ∧
  (∀ i : Int32, ¬ i < 0 → i < h 0 7 → vp_in i 16) ∧
  (vp_in (h 0 13) 80) ∧
  (h 1 (h 0 40).toNatClampNeg = 8 → vp_in (h 7 (h 2 (h 0 40).toNatClampNeg).toNatClampNeg) 80) ∧
  (¬ h 0 30 ≤ 0 → vp_in (h 0 30 - 1) 70)
theorem kX4_step2 {l : Launch} {d : Nat} {h : ab_H} {u : Nat} {en q z : Int32} (hok : m_stepOK h u en q z) : ab_C l layM (d + 4) mX4_step [ab_R 0] h (ab_qv fun h' => h' = m_step h en (m_partR (h 1) 22 q) z) := by
  obtain ⟨hat, hop, he, hsc, hnm, hp, hw, hz, hu, hu2, hA, hB, hS, hlg, hp16, hbx, hsl, hmk⟩ := hok
  exact kX4_step rfl rfl rfl hat hop he hsc hnm hp hw hz hu hu2 hA hB hS hlg hp16 hbx hsl hmk
/-- one turn of the run's loop -/
def m_turn (h h' : ab_H) : Prop := vp_in (h 0 39 - 1) 80 ∧ (¬ h 18 (h 0 39 - 1).toNatClampNeg = 0 → h 0 41 = 0 → vp_in (h 0 40) 480) ∧
  ((¬ h 0 41 = 0 ∨ m_atEnd h = true) → ∃ (c f : Int32) (mk n : Nat), m_endOK h c f mk n ∧ h' = m_ended h (m_partR (h 1) 11 c) (m_partR (h 1) 12 f) mk n) ∧
  (h 0 41 = 0 → m_atEnd h = false → ∃ (u : Nat) (en q z : Int32), m_stepOK h u en q z ∧ h' = m_step h en (m_partR (h 1) 22 q) z)
/-- so many turns lead from h to g, where nothing is open -/
def m_runs : Nat → ab_H → ab_H → Prop
  | 0, h, g => h 0 39 ≤ 0 ∧ g = h
  | n + 1, h, g => ¬ h 0 39 ≤ 0 ∧ ∃ h', m_turn h h' ∧ m_runs n h' g
def m_ans (h : ab_H) : Int32 := if h 0 41 = 0 then 0 else if h 0 41 = 2 then 1 else if h 0 41 = 1 then 2 + h 0 21 else -1
def m_fin (h : ab_H) : ab_H := ab_up h 0 20 (if h 0 41 = 2 then h 0 22 else 0)
def m_init (h : ab_H) (w : Int32) : ab_H := ab_up (m_push (m_settle (ab_up (ab_up (ab_up (ab_up (ab_up (ab_up (ab_up (ab_up (ab_up (ab_up h 0 0 0) 0 15 0) 0 16 0) 0 30 0) 0 28 0) 0 23 1) 0 22 0) 0 39 0) 0 41 0) 0 19 (h 0 19 + 1))) 0 0 (60 * w + m_settle (ab_up (ab_up (ab_up (ab_up (ab_up (ab_up (ab_up (ab_up (ab_up (ab_up h 0 0 0) 0 15 0) 0 16 0) 0 30 0) 0 28 0) 0 23 1) 0 22 0) 0 39 0) 0 41 0) 0 19 (h 0 19 + 1)) 4 w.toNatClampNeg)) 0 40 (60 * w)
set_option maxRecDepth 100000 in
set_option maxHeartbeats 4000000 in
theorem lpX4_run {l : Launch} {d : Nat} {g : ab_H} : ∀ (n : Nat) (h : ab_H), m_runs n h g → ab_J l layM mX4_run (d + 5) (ab_qi fun r h' => r = m_ans g ∧ h' = m_fin g) 113 [(0, ab_R 0)] [] h := by
  intro n
  induction n with
  | zero =>
    intro h hr
    obtain ⟨h0, rfl⟩ := hr
    refine ab_aload_n (pc := 113) dX4_run_113 rfl rfl ?_
    refine ab_geti (pc := 114) dX4_run_114 fX4_95 rfl rfl ?_
    refine ab_if_le (pc := 117) 148 dX4_run_117 (by decide) (fun c117 => ?_) (fun c117 => ?_)
    · refine ab_aload_n (pc := 148) dX4_run_148 rfl rfl ?_
      refine ab_aload_n (pc := 149) dX4_run_149 rfl rfl ?_
      refine ab_geti (pc := 150) dX4_run_150 fX4_197 rfl rfl ?_
      refine ab_iconst (pc := 153) (v := 2) dX4_run_153 (by decide) ?_
      refine ab_icmp_ne (pc := 154) 164 dX4_run_154 (by decide) (fun c154 => ?_) (fun c154 => ?_)
      · refine ab_iconst (pc := 164) (v := 0) dX4_run_164 (by decide) ?_
        refine ab_puti (pc := 165) dX4_run_165 fwX4_242 rfl rfl ?_
        refine ab_aload_n (pc := 168) dX4_run_168 rfl rfl ?_
        refine ab_geti (pc := 169) dX4_run_169 fX4_197 rfl rfl ?_
        refine ab_topi (by (try simp only [ab_rd, ab_rdA, Nat.reduceEqDiff, reduceIte]); exact rfl) ?_
        refine ab_if_ne (pc := 172) 179 dX4_run_172 (by decide) (fun c172 => ?_) (fun c172 => ?_)
        · refine ab_aload_n (pc := 179) dX4_run_179 rfl rfl ?_
          refine ab_geti (pc := 180) dX4_run_180 fX4_197 rfl rfl ?_
          refine ab_topi (by (try simp only [ab_rd, ab_rdA, Nat.reduceEqDiff, reduceIte]); exact rfl) ?_
          refine ab_iconst (pc := 183) (v := 2) dX4_run_183 (by decide) ?_
          refine ab_icmp_ne (pc := 184) 191 dX4_run_184 (by decide) (fun c184 => ?_) (fun c184 => ?_)
          · refine ab_aload_n (pc := 191) dX4_run_191 rfl rfl ?_
            refine ab_geti (pc := 192) dX4_run_192 fX4_197 rfl rfl ?_
            refine ab_topi (by (try simp only [ab_rd, ab_rdA, Nat.reduceEqDiff, reduceIte]); exact rfl) ?_
            refine ab_iconst (pc := 195) (v := 1) dX4_run_195 (by decide) ?_
            refine ab_icmp_ne (pc := 196) 208 dX4_run_196 (by decide) (fun c196 => ?_) (fun c196 => ?_)
            · refine ab_iconst (pc := 208) (v := (-1)) dX4_run_208 (by decide) ?_
              exact ab_reti (pc := 209) dX4_run_209 rfl ⟨_, rfl, ⟨by first | rw [m_ans, if_pos c172] | rw [m_ans, if_neg c172, if_pos c184] | rw [m_ans, if_neg c172, if_neg c184, if_pos c196] | rw [m_ans, if_neg c172, if_neg c184, if_neg c196], by first | rw [m_fin, if_pos c154] | rw [m_fin, if_neg c154]⟩⟩
            · refine ab_iconst (pc := 199) (v := 2) dX4_run_199 (by decide) ?_
              refine ab_aload_n (pc := 200) dX4_run_200 rfl rfl ?_
              refine ab_geti (pc := 201) dX4_run_201 fX4_142 rfl rfl ?_
              refine ab_topi (by (try simp only [ab_rd, ab_rdA, Nat.reduceEqDiff, reduceIte]); exact rfl) ?_
              refine ab_iadd (pc := 204) dX4_run_204 ?_
              refine ab_goto (pc := 205) 209 dX4_run_205 (by decide) ?_
              exact ab_reti (pc := 209) dX4_run_209 rfl ⟨_, rfl, ⟨by first | rw [m_ans, if_pos c172] | rw [m_ans, if_neg c172, if_pos c184] | rw [m_ans, if_neg c172, if_neg c184, if_pos c196] | rw [m_ans, if_neg c172, if_neg c184, if_neg c196], by first | rw [m_fin, if_pos c154] | rw [m_fin, if_neg c154]⟩⟩
          · refine ab_iconst (pc := 187) (v := 1) dX4_run_187 (by decide) ?_
            refine ab_goto (pc := 188) 209 dX4_run_188 (by decide) ?_
            exact ab_reti (pc := 209) dX4_run_209 rfl ⟨_, rfl, ⟨by first | rw [m_ans, if_pos c172] | rw [m_ans, if_neg c172, if_pos c184] | rw [m_ans, if_neg c172, if_neg c184, if_pos c196] | rw [m_ans, if_neg c172, if_neg c184, if_neg c196], by first | rw [m_fin, if_pos c154] | rw [m_fin, if_neg c154]⟩⟩
        · refine ab_iconst (pc := 175) (v := 0) dX4_run_175 (by decide) ?_
          refine ab_goto (pc := 176) 209 dX4_run_176 (by decide) ?_
          exact ab_reti (pc := 209) dX4_run_209 rfl ⟨_, rfl, ⟨by first | rw [m_ans, if_pos c172] | rw [m_ans, if_neg c172, if_pos c184] | rw [m_ans, if_neg c172, if_neg c184, if_pos c196] | rw [m_ans, if_neg c172, if_neg c184, if_neg c196], by first | rw [m_fin, if_pos c154] | rw [m_fin, if_neg c154]⟩⟩
      · refine ab_aload_n (pc := 157) dX4_run_157 rfl rfl ?_
        refine ab_geti (pc := 158) dX4_run_158 fX4_171 rfl rfl ?_
        refine ab_goto (pc := 161) 165 dX4_run_161 (by decide) ?_
        refine ab_puti (pc := 165) dX4_run_165 fwX4_242 rfl rfl ?_
        refine ab_aload_n (pc := 168) dX4_run_168 rfl rfl ?_
        refine ab_geti (pc := 169) dX4_run_169 fX4_197 rfl rfl ?_
        refine ab_topi (by (try simp only [ab_rd, ab_rdA, Nat.reduceEqDiff, reduceIte]); exact rfl) ?_
        refine ab_if_ne (pc := 172) 179 dX4_run_172 (by decide) (fun c172 => ?_) (fun c172 => ?_)
        · refine ab_aload_n (pc := 179) dX4_run_179 rfl rfl ?_
          refine ab_geti (pc := 180) dX4_run_180 fX4_197 rfl rfl ?_
          refine ab_topi (by (try simp only [ab_rd, ab_rdA, Nat.reduceEqDiff, reduceIte]); exact rfl) ?_
          refine ab_iconst (pc := 183) (v := 2) dX4_run_183 (by decide) ?_
          refine ab_icmp_ne (pc := 184) 191 dX4_run_184 (by decide) (fun c184 => ?_) (fun c184 => ?_)
          · refine ab_aload_n (pc := 191) dX4_run_191 rfl rfl ?_
            refine ab_geti (pc := 192) dX4_run_192 fX4_197 rfl rfl ?_
            refine ab_topi (by (try simp only [ab_rd, ab_rdA, Nat.reduceEqDiff, reduceIte]); exact rfl) ?_
            refine ab_iconst (pc := 195) (v := 1) dX4_run_195 (by decide) ?_
            refine ab_icmp_ne (pc := 196) 208 dX4_run_196 (by decide) (fun c196 => ?_) (fun c196 => ?_)
            · refine ab_iconst (pc := 208) (v := (-1)) dX4_run_208 (by decide) ?_
              exact ab_reti (pc := 209) dX4_run_209 rfl ⟨_, rfl, ⟨by first | rw [m_ans, if_pos c172] | rw [m_ans, if_neg c172, if_pos c184] | rw [m_ans, if_neg c172, if_neg c184, if_pos c196] | rw [m_ans, if_neg c172, if_neg c184, if_neg c196], by first | rw [m_fin, if_pos c154] | rw [m_fin, if_neg c154]⟩⟩
            · refine ab_iconst (pc := 199) (v := 2) dX4_run_199 (by decide) ?_
              refine ab_aload_n (pc := 200) dX4_run_200 rfl rfl ?_
              refine ab_geti (pc := 201) dX4_run_201 fX4_142 rfl rfl ?_
              refine ab_topi (by (try simp only [ab_rd, ab_rdA, Nat.reduceEqDiff, reduceIte]); exact rfl) ?_
              refine ab_iadd (pc := 204) dX4_run_204 ?_
              refine ab_goto (pc := 205) 209 dX4_run_205 (by decide) ?_
              exact ab_reti (pc := 209) dX4_run_209 rfl ⟨_, rfl, ⟨by first | rw [m_ans, if_pos c172] | rw [m_ans, if_neg c172, if_pos c184] | rw [m_ans, if_neg c172, if_neg c184, if_pos c196] | rw [m_ans, if_neg c172, if_neg c184, if_neg c196], by first | rw [m_fin, if_pos c154] | rw [m_fin, if_neg c154]⟩⟩
          · refine ab_iconst (pc := 187) (v := 1) dX4_run_187 (by decide) ?_
            refine ab_goto (pc := 188) 209 dX4_run_188 (by decide) ?_
            exact ab_reti (pc := 209) dX4_run_209 rfl ⟨_, rfl, ⟨by first | rw [m_ans, if_pos c172] | rw [m_ans, if_neg c172, if_pos c184] | rw [m_ans, if_neg c172, if_neg c184, if_pos c196] | rw [m_ans, if_neg c172, if_neg c184, if_neg c196], by first | rw [m_fin, if_pos c154] | rw [m_fin, if_neg c154]⟩⟩
        · refine ab_iconst (pc := 175) (v := 0) dX4_run_175 (by decide) ?_
          refine ab_goto (pc := 176) 209 dX4_run_176 (by decide) ?_
          exact ab_reti (pc := 209) dX4_run_209 rfl ⟨_, rfl, ⟨by first | rw [m_ans, if_pos c172] | rw [m_ans, if_neg c172, if_pos c184] | rw [m_ans, if_neg c172, if_neg c184, if_pos c196] | rw [m_ans, if_neg c172, if_neg c184, if_neg c196], by first | rw [m_fin, if_pos c154] | rw [m_fin, if_neg c154]⟩⟩
    · exact absurd h0 c117
  | succ n ih =>
    intro h hr
    obtain ⟨h0, h2, hT, hr2⟩ := hr
    obtain ⟨ho, ha, hE, hS⟩ := hT
    refine ab_aload_n (pc := 113) dX4_run_113 rfl rfl ?_
    refine ab_geti (pc := 114) dX4_run_114 fX4_95 rfl rfl ?_
    refine ab_if_le (pc := 117) 148 dX4_run_117 (by decide) (fun c117 => ?_) (fun c117 => ?_)
    · exact absurd c117 h0
    · refine ab_aload_n (pc := 120) dX4_run_120 rfl rfl ?_
      refine ab_geti (pc := 121) dX4_run_121 fX4_197 rfl rfl ?_
      refine ab_if_ne (pc := 124) 134 dX4_run_124 (by decide) (fun c124 => ?_) (fun c124 => ?_)
      · obtain ⟨c, f, mk, n2, hok, rfl⟩ := hE (by first | exact Or.inl c124 | exact Or.inr c131)
        refine ab_aload_n (pc := 134) dX4_run_134 rfl rfl ?_
        refine ab_V0 (pc := 135) dX4_run_135 mvX4_236 rfl rfl (kX4_ended ho hok) (ab_kv fun h135 e135 => ?_)
        obtain rfl := e135.symm
        refine ab_goto (pc := 138) 113 dX4_run_138 (by decide) ?_
        exact ih _ hr2
      · refine ab_aload_n (pc := 127) dX4_run_127 rfl rfl ?_
        refine ab_V0 (pc := 128) dX4_run_128 mvX4_233 rfl rfl (kX4_atEnd ho (fun z => ha z c124)) (ab_ki fun r128 h128 e128 => ?_)
        obtain ⟨rfl, rfl⟩ := And.intro e128.1.symm e128.2.symm
        refine ab_if_eq (pc := 131) 141 dX4_run_131 (by decide) (fun c131 => ?_) (fun c131 => ?_)
        · replace c131 := b2i_0.mp c131
          obtain ⟨u, en, q, z, hok, rfl⟩ := hS c124 c131
          refine ab_aload_n (pc := 141) dX4_run_141 rfl rfl ?_
          refine ab_V0 (pc := 142) dX4_run_142 mvX4_239 rfl rfl (kX4_step2 hok) (ab_kv fun h142 e142 => ?_)
          obtain rfl := e142.symm
          refine ab_goto (pc := 145) 113 dX4_run_145 (by decide) ?_
          exact ih _ hr2
        · replace c131 := b2i_1.mp c131
          obtain ⟨c, f, mk, n2, hok, rfl⟩ := hE (by first | exact Or.inl c124 | exact Or.inr c131)
          refine ab_aload_n (pc := 134) dX4_run_134 rfl rfl ?_
          refine ab_V0 (pc := 135) dX4_run_135 mvX4_236 rfl rfl (kX4_ended ho hok) (ab_kv fun h135 e135 => ?_)
          obtain rfl := e135.symm
          refine ab_goto (pc := 138) 113 dX4_run_138 (by decide) ?_
          exact ih _ hr2
theorem m_within_8 {w : Int32} (h : m_within w 7 = true) : vp_in w 8 := by
  simp only [m_within, Bool.and_eq_true, decide_eq_true_eq] at h
  obtain ⟨j, hj, rfl⟩ := nI_of h.1
  refine vp_in_nI ?_ (by omega)
  have h2 : ¬ nI 7 < nI j := h.2
  rw [nI_ltI (by omega) hj] at h2
  omega
set_option maxRecDepth 100000 in
set_option maxHeartbeats 4000000 in
theorem kX4_run {l : Launch} {d : Nat} {h : ab_H} {w z : Int32} {g : ab_H} (hz : m_within w 7 = true → m_unended h w = some z) (hs : ∀ k, k < 4 → vp_in (h 7 k) 80) (hr : m_within w 7 = true → z = 0 → ∃ n, m_runs n (m_init h w) g) : ab_C l layM (d + 5) mX4_run [ab_R 0, ab_I w] h (ab_qi fun r h' => r = (if m_within w 7 = true then (if z = 0 then m_ans g else 0) else 0) ∧ h' = (if m_within w 7 = true then (if z = 0 then m_fin g else ab_up h 0 0 2) else ab_up h 0 0 1)) := by
  refine ab_enter (by decide) (Nat.le_of_ble_eq_true rfl) ?_
  refine ab_iload_n (pc := 0) dX4_run_0 rfl rfl ?_
  refine ab_bipush (pc := 1) (v := 7) dX4_run_1 (by decide) ?_
  refine ab_S2 (pc := 3) dX4_run_3 msX4_105 rfl (kX4_within) (ab_ki fun r3 h3 e3 => ?_)
  obtain ⟨rfl, rfl⟩ := And.intro e3.1.symm e3.2.symm
  refine ab_if_ne (pc := 6) 15 dX4_run_6 (by decide) (fun c6 => ?_) (fun c6 => ?_)
  · replace c6 := b2i_1.mp c6
    have hw : vp_in w 8 := m_within_8 c6
    refine ab_aload_n (pc := 15) dX4_run_15 rfl rfl ?_
    refine ab_iload_n (pc := 16) dX4_run_16 rfl rfl ?_
    refine ab_V1 (pc := 17) dX4_run_17 mvX4_203 rfl rfl (kX4_unended hw (hz c6)) (ab_ki fun r17 h17 e17 => ?_)
    obtain ⟨rfl, rfl⟩ := And.intro e17.1.symm e17.2.symm
    refine ab_if_eq (pc := 20) 29 dX4_run_20 (by decide) (fun c20 => ?_) (fun c20 => ?_)
    · refine ab_aload_n (pc := 29) dX4_run_29 rfl rfl ?_
      refine ab_iconst (pc := 30) (v := 0) dX4_run_30 (by decide) ?_
      refine ab_puti (pc := 31) dX4_run_31 fwX4_92 rfl rfl ?_
      refine ab_aload_n (pc := 34) dX4_run_34 rfl rfl ?_
      refine ab_iconst (pc := 35) (v := 0) dX4_run_35 (by decide) ?_
      refine ab_puti (pc := 36) dX4_run_36 fwX4_145 rfl rfl ?_
      refine ab_aload_n (pc := 39) dX4_run_39 rfl rfl ?_
      refine ab_iconst (pc := 40) (v := 0) dX4_run_40 (by decide) ?_
      refine ab_puti (pc := 41) dX4_run_41 fwX4_139 rfl rfl ?_
      refine ab_aload_n (pc := 44) dX4_run_44 rfl rfl ?_
      refine ab_iconst (pc := 45) (v := 0) dX4_run_45 (by decide) ?_
      refine ab_puti (pc := 46) dX4_run_46 fwX4_127 rfl rfl ?_
      refine ab_aload_n (pc := 49) dX4_run_49 rfl rfl ?_
      refine ab_iconst (pc := 50) (v := 0) dX4_run_50 (by decide) ?_
      refine ab_puti (pc := 51) dX4_run_51 fwX4_130 rfl rfl ?_
      refine ab_aload_n (pc := 54) dX4_run_54 rfl rfl ?_
      refine ab_iconst (pc := 55) (v := 1) dX4_run_55 (by decide) ?_
      refine ab_puti (pc := 56) dX4_run_56 fwX4_200 rfl rfl ?_
      refine ab_aload_n (pc := 59) dX4_run_59 rfl rfl ?_
      refine ab_iconst (pc := 60) (v := 0) dX4_run_60 (by decide) ?_
      refine ab_puti (pc := 61) dX4_run_61 fwX4_171 rfl rfl ?_
      refine ab_aload_n (pc := 64) dX4_run_64 rfl rfl ?_
      refine ab_iconst (pc := 65) (v := 0) dX4_run_65 (by decide) ?_
      refine ab_puti (pc := 66) dX4_run_66 fwX4_95 rfl rfl ?_
      refine ab_aload_n (pc := 69) dX4_run_69 rfl rfl ?_
      refine ab_iconst (pc := 70) (v := 0) dX4_run_70 (by decide) ?_
      refine ab_puti (pc := 71) dX4_run_71 fwX4_197 rfl rfl ?_
      refine ab_aload_n (pc := 74) dX4_run_74 rfl rfl ?_
      refine ab_dup (pc := 75) dX4_run_75 rfl ?_
      refine ab_geti (pc := 76) dX4_run_76 fX4_227 rfl rfl ?_
      refine ab_iconst (pc := 79) (v := 1) dX4_run_79 (by decide) ?_
      refine ab_iadd (pc := 80) dX4_run_80 ?_
      refine ab_puti (pc := 81) dX4_run_81 fwX4_227 rfl rfl ?_
      refine ab_aload_n (pc := 84) dX4_run_84 rfl rfl ?_
      refine ab_V0 (pc := 85) dX4_run_85 mvX4_230 rfl rfl (kX4_settle hs) (ab_kv fun h85 e85 => ?_)
      obtain rfl := e85.symm
      refine ab_aload_n (pc := 88) dX4_run_88 rfl rfl ?_
      refine ab_iconst (pc := 89) (v := 0) dX4_run_89 (by decide) ?_
      refine ab_iconst (pc := 90) (v := 0) dX4_run_90 (by decide) ?_
      refine ab_bipush (pc := 91) (v := 60) dX4_run_91 (by decide) ?_
      refine ab_iload_n (pc := 93) dX4_run_93 rfl rfl ?_
      refine ab_imul (pc := 94) dX4_run_94 ?_
      refine ab_aload_n (pc := 95) dX4_run_95 rfl rfl ?_
      refine ab_getr (pc := 96) dX4_run_96 fX4_19 rfl rfl ?_
      refine ab_iload_n (pc := 99) dX4_run_99 rfl rfl ?_
      refine ab_iald (pc := 100) dX4_run_100 rfl hw ?_
      refine ab_iadd (pc := 101) dX4_run_101 ?_
      refine ab_V3 (pc := 102) dX4_run_102 mvX4_180 rfl rfl (kX4_push (show vp_in (nI 0) 80 from vp_in_nI (by omega) (by omega))) (ab_kv fun h102 e102 => ?_)
      obtain rfl := e102.symm
      refine ab_aload_n (pc := 105) dX4_run_105 rfl rfl ?_
      refine ab_bipush (pc := 106) (v := 60) dX4_run_106 (by decide) ?_
      refine ab_iload_n (pc := 108) dX4_run_108 rfl rfl ?_
      refine ab_imul (pc := 109) dX4_run_109 ?_
      refine ab_puti (pc := 110) dX4_run_110 fwX4_174 rfl rfl ?_
      obtain ⟨n, hr⟩ := hr c6 c20
      refine ab_weak [(0, ab_R 0)] ⟨rfl, trivial⟩ ?_
      rw [if_pos c6, if_pos c20, if_pos c6, if_pos c20]
      exact lpX4_run n _ hr
    · refine ab_aload_n (pc := 23) dX4_run_23 rfl rfl ?_
      refine ab_iconst (pc := 24) (v := 2) dX4_run_24 (by decide) ?_
      refine ab_V1 (pc := 25) dX4_run_25 mvX4_113 rfl rfl (kX4_no) (ab_ki fun r25 h25 e25 => ?_)
      obtain ⟨rfl, rfl⟩ := And.intro e25.1.symm e25.2.symm
      exact ab_reti (pc := 28) dX4_run_28 rfl ⟨_, rfl, ⟨by rw [if_pos c6, if_neg c20], by rw [if_pos c6, if_neg c20]⟩⟩
  · replace c6 := b2i_0.mp c6
    refine ab_aload_n (pc := 9) dX4_run_9 rfl rfl ?_
    refine ab_iconst (pc := 10) (v := 1) dX4_run_10 (by decide) ?_
    refine ab_V1 (pc := 11) dX4_run_11 mvX4_113 rfl rfl (kX4_no) (ab_ki fun r11 h11 e11 => ?_)
    obtain ⟨rfl, rfl⟩ := And.intro e11.1.symm e11.2.symm
    exact ab_reti (pc := 14) dX4_run_14 rfl ⟨_, rfl, ⟨by rw [if_neg (ne_true_of_eq_false c6)], by rw [if_neg (ne_true_of_eq_false c6)]⟩⟩
