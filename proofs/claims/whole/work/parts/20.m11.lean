/-! the reference's look at what is open; node; count -/
def m_lkS (h : ab_H) (s : Int32) : ab_H := if m_opens s = true then ab_up (ab_up (ab_up h 18 (h 0 39).toNatClampNeg s) 21 (h 0 39).toNatClampNeg 0) 0 39 (h 0 39 + 1)
  else if s = 16 then ab_up h 0 39 (h 0 39 - 1) else if s = 11 ∨ s = 12 ∨ s = 22 then ab_up h 21 (h 0 39 - 1).toNatClampNeg (if s = 12 then 2 else 1) else h
theorem m_lkS_ne (h : ab_H) (s : Int32) (i : Nat) (h0 : i ≠ 0) (h1 : i ≠ 18) (h2 : i ≠ 21) : m_lkS h s i = h i := by
  unfold m_lkS
  repeat' split
  all_goals (funext k; simp [ab_rd, h0, h1, h2])
/-- n NODES from k on are looked at: from h to g -/
def m_lk (e : Int32) : Nat → Int32 → ab_H → ab_H → Prop
  | 0, k, h, g => e ≤ k ∧ g = h
  | n + 1, k, h, g => ¬ e ≤ k ∧ vp_in k 480 ∧ (m_opens (h 1 k.toNatClampNeg) = true → vp_in (h 0 39) 80) ∧ (h 1 k.toNatClampNeg = 11 ∨ h 1 k.toNatClampNeg = 12 ∨ h 1 k.toNatClampNeg = 22 → vp_in (h 0 39 - 1) 80) ∧ m_lk e n (k + 1) (m_lkS h (h 1 k.toNatClampNeg)) g
def m_cnt (f : Nat → Int32) : Nat → Nat
  | 0 => 0
  | n + 1 => m_cnt f n + (if f n = 13 then 1 else 0)
theorem m_cnt_le (f : Nat → Int32) : ∀ n, m_cnt f n ≤ n
  | 0 => Nat.le_refl 0
  | n + 1 => by
    have := m_cnt_le f n
    unfold m_cnt
    split <;> omega
def m_look (g : ab_H) (o : Nat) : ab_H := ab_up g 0 42 (nI (m_cnt (g 18) o))
set_option maxRecDepth 100000 in
set_option maxHeartbeats 4000000 in
theorem lpX4_look {l : Launch} {d : Nat} {w mw : Int32} {g : ab_H} {Q : Option ab_V → ab_H → Prop} (hw : vp_in w 8) (K : ab_J l layM mX4_look (d + 1) Q 137 [(0, ab_R 0)] [] g) : ∀ (n : Nat) (k : Int32) (h : ab_H), h 4 w.toNatClampNeg = mw → m_lk (60 * w + mw) n k h g → ab_J l layM mX4_look (d + 1) Q 10 [(0, ab_R 0), (1, ab_I w), (2, ab_I k)] [] h := by
  intro n
  induction n with
  | zero =>
    intro k h hm hr
    obtain ⟨h0, rfl⟩ := hr
    refine ab_iload_n (pc := 10) dX4_look_10 rfl rfl ?_
    refine ab_bipush (pc := 11) (v := 60) dX4_look_11 (by decide) ?_
    refine ab_iload_n (pc := 13) dX4_look_13 rfl rfl ?_
    refine ab_imul (pc := 14) dX4_look_14 ?_
    refine ab_aload_n (pc := 15) dX4_look_15 rfl rfl ?_
    refine ab_getr (pc := 16) dX4_look_16 fX4_19 rfl rfl ?_
    refine ab_iload_n (pc := 19) dX4_look_19 rfl rfl ?_
    refine ab_iald (pc := 20) dX4_look_20 rfl hw ?_
    rw [hm]
    refine ab_iadd (pc := 21) dX4_look_21 ?_
    refine ab_icmp_ge (pc := 22) 137 dX4_look_22 (by decide) (fun c22 => ?_) (fun c22 => ?_)
    · refine ab_weak [(0, ab_R 0)] ⟨rfl, trivial⟩ ?_
      exact K
    · exact absurd h0 c22
  | succ n ih =>
    intro k h hm hr
    obtain ⟨h0, hin, hop, hpt, hr2⟩ := hr
    refine ab_iload_n (pc := 10) dX4_look_10 rfl rfl ?_
    refine ab_bipush (pc := 11) (v := 60) dX4_look_11 (by decide) ?_
    refine ab_iload_n (pc := 13) dX4_look_13 rfl rfl ?_
    refine ab_imul (pc := 14) dX4_look_14 ?_
    refine ab_aload_n (pc := 15) dX4_look_15 rfl rfl ?_
    refine ab_getr (pc := 16) dX4_look_16 fX4_19 rfl rfl ?_
    refine ab_iload_n (pc := 19) dX4_look_19 rfl rfl ?_
    refine ab_iald (pc := 20) dX4_look_20 rfl hw ?_
    rw [hm]
    refine ab_iadd (pc := 21) dX4_look_21 ?_
    refine ab_icmp_ge (pc := 22) 137 dX4_look_22 (by decide) (fun c22 => ?_) (fun c22 => ?_)
    · exact absurd c22 h0
    · refine ab_aload_n (pc := 25) dX4_look_25 rfl rfl ?_
      refine ab_getr (pc := 26) dX4_look_26 fX4_7 rfl rfl ?_
      refine ab_iload_n (pc := 29) dX4_look_29 rfl rfl ?_
      refine ab_iald (pc := 30) dX4_look_30 rfl hin ?_
      refine ab_istore_n (pc := 31) dX4_look_31 rfl rfl ?_
      refine ab_iload_n (pc := 32) dX4_look_32 rfl rfl ?_
      refine ab_S1 (pc := 33) dX4_look_33 msX4_98 rfl (kX4_opens) (ab_ki fun r33 h33 e33 => ?_)
      obtain ⟨rfl, rfl⟩ := And.intro e33.1.symm e33.2.symm
      refine ab_if_eq (pc := 36) 72 dX4_look_36 (by decide) (fun c36 => ?_) (fun c36 => ?_)
      · replace c36 := b2i_0.mp c36
        refine ab_iload_n (pc := 72) dX4_look_72 rfl rfl ?_
        refine ab_bipush (pc := 73) (v := 16) dX4_look_73 (by decide) ?_
        refine ab_icmp_ne (pc := 75) 91 dX4_look_75 (by decide) (fun c75 => ?_) (fun c75 => ?_)
        · refine ab_iload_n (pc := 91) dX4_look_91 rfl rfl ?_
          refine ab_bipush (pc := 92) (v := 11) dX4_look_92 (by decide) ?_
          refine ab_icmp_eq (pc := 94) 109 dX4_look_94 (by decide) (fun c94 => ?_) (fun c94 => ?_)
          · refine ab_aload_n (pc := 109) dX4_look_109 rfl rfl ?_
            refine ab_getr (pc := 110) dX4_look_110 fX4_77 rfl rfl ?_
            refine ab_aload_n (pc := 113) dX4_look_113 rfl rfl ?_
            refine ab_geti (pc := 114) dX4_look_114 fX4_95 rfl rfl ?_
            refine ab_topi (by (try simp only [ab_rd, ab_rdA, Nat.reduceEqDiff, reduceIte]); exact rfl) ?_
            refine ab_iconst (pc := 117) (v := 1) dX4_look_117 (by decide) ?_
            refine ab_isub (pc := 118) dX4_look_118 ?_
            refine ab_iload_n (pc := 119) dX4_look_119 rfl rfl ?_
            refine ab_bipush (pc := 120) (v := 12) dX4_look_120 (by decide) ?_
            refine ab_icmp_ne (pc := 122) 129 dX4_look_122 (by decide) (fun c122 => ?_) (fun c122 => ?_)
            · refine ab_iconst (pc := 129) (v := 1) dX4_look_129 (by decide) ?_
              refine ab_iast (pc := 130) dX4_look_130 rfl (hpt (by first | exact Or.inl c94 | exact Or.inr (Or.inl c100) | exact Or.inr (Or.inr c106))) ?_
              refine ab_iinc (pc := 131) (v := 1) dX4_look_131 rfl (by decide) rfl ?_
              refine ab_goto (pc := 134) 10 dX4_look_134 (by decide) ?_
              refine ab_weak [(0, ab_R 0), (1, ab_I w), (2, ab_I (k + 1))] ⟨rfl, rfl, rfl, trivial⟩ ?_
              refine ab_heq ?_ (ih _ _ (by rw [m_lkS_ne h _ 4 (by omega) (by omega) (by omega)]; exact hm) hr2)
              first | rw [m_lkS, if_pos c36] | rw [m_lkS, if_neg (ne_true_of_eq_false c36), if_pos c75] | rw [m_lkS, if_neg (ne_true_of_eq_false c36), if_neg c75, if_pos (Or.inl c94), if_pos c122] | rw [m_lkS, if_neg (ne_true_of_eq_false c36), if_neg c75, if_pos (Or.inl c94), if_neg c122] | rw [m_lkS, if_neg (ne_true_of_eq_false c36), if_neg c75, if_pos (Or.inr (Or.inl c100)), if_pos c122] | rw [m_lkS, if_neg (ne_true_of_eq_false c36), if_neg c75, if_pos (Or.inr (Or.inl c100)), if_neg c122] | rw [m_lkS, if_neg (ne_true_of_eq_false c36), if_neg c75, if_pos (Or.inr (Or.inr c106)), if_pos c122] | rw [m_lkS, if_neg (ne_true_of_eq_false c36), if_neg c75, if_pos (Or.inr (Or.inr c106)), if_neg c122] | rw [m_lkS, if_neg (ne_true_of_eq_false c36), if_neg c75, if_neg (fun q => q.elim c94 (fun q => q.elim c100 c106))]
            · refine ab_iconst (pc := 125) (v := 2) dX4_look_125 (by decide) ?_
              refine ab_goto (pc := 126) 130 dX4_look_126 (by decide) ?_
              refine ab_iast (pc := 130) dX4_look_130 rfl (hpt (by first | exact Or.inl c94 | exact Or.inr (Or.inl c100) | exact Or.inr (Or.inr c106))) ?_
              refine ab_iinc (pc := 131) (v := 1) dX4_look_131 rfl (by decide) rfl ?_
              refine ab_goto (pc := 134) 10 dX4_look_134 (by decide) ?_
              refine ab_weak [(0, ab_R 0), (1, ab_I w), (2, ab_I (k + 1))] ⟨rfl, rfl, rfl, trivial⟩ ?_
              refine ab_heq ?_ (ih _ _ (by rw [m_lkS_ne h _ 4 (by omega) (by omega) (by omega)]; exact hm) hr2)
              first | rw [m_lkS, if_pos c36] | rw [m_lkS, if_neg (ne_true_of_eq_false c36), if_pos c75] | rw [m_lkS, if_neg (ne_true_of_eq_false c36), if_neg c75, if_pos (Or.inl c94), if_pos c122] | rw [m_lkS, if_neg (ne_true_of_eq_false c36), if_neg c75, if_pos (Or.inl c94), if_neg c122] | rw [m_lkS, if_neg (ne_true_of_eq_false c36), if_neg c75, if_pos (Or.inr (Or.inl c100)), if_pos c122] | rw [m_lkS, if_neg (ne_true_of_eq_false c36), if_neg c75, if_pos (Or.inr (Or.inl c100)), if_neg c122] | rw [m_lkS, if_neg (ne_true_of_eq_false c36), if_neg c75, if_pos (Or.inr (Or.inr c106)), if_pos c122] | rw [m_lkS, if_neg (ne_true_of_eq_false c36), if_neg c75, if_pos (Or.inr (Or.inr c106)), if_neg c122] | rw [m_lkS, if_neg (ne_true_of_eq_false c36), if_neg c75, if_neg (fun q => q.elim c94 (fun q => q.elim c100 c106))]
          · refine ab_iload_n (pc := 97) dX4_look_97 rfl rfl ?_
            refine ab_bipush (pc := 98) (v := 12) dX4_look_98 (by decide) ?_
            refine ab_icmp_eq (pc := 100) 109 dX4_look_100 (by decide) (fun c100 => ?_) (fun c100 => ?_)
            · refine ab_aload_n (pc := 109) dX4_look_109 rfl rfl ?_
              refine ab_getr (pc := 110) dX4_look_110 fX4_77 rfl rfl ?_
              refine ab_aload_n (pc := 113) dX4_look_113 rfl rfl ?_
              refine ab_geti (pc := 114) dX4_look_114 fX4_95 rfl rfl ?_
              refine ab_topi (by (try simp only [ab_rd, ab_rdA, Nat.reduceEqDiff, reduceIte]); exact rfl) ?_
              refine ab_iconst (pc := 117) (v := 1) dX4_look_117 (by decide) ?_
              refine ab_isub (pc := 118) dX4_look_118 ?_
              refine ab_iload_n (pc := 119) dX4_look_119 rfl rfl ?_
              refine ab_bipush (pc := 120) (v := 12) dX4_look_120 (by decide) ?_
              refine ab_icmp_ne (pc := 122) 129 dX4_look_122 (by decide) (fun c122 => ?_) (fun c122 => ?_)
              · refine ab_iconst (pc := 129) (v := 1) dX4_look_129 (by decide) ?_
                refine ab_iast (pc := 130) dX4_look_130 rfl (hpt (by first | exact Or.inl c94 | exact Or.inr (Or.inl c100) | exact Or.inr (Or.inr c106))) ?_
                refine ab_iinc (pc := 131) (v := 1) dX4_look_131 rfl (by decide) rfl ?_
                refine ab_goto (pc := 134) 10 dX4_look_134 (by decide) ?_
                refine ab_weak [(0, ab_R 0), (1, ab_I w), (2, ab_I (k + 1))] ⟨rfl, rfl, rfl, trivial⟩ ?_
                refine ab_heq ?_ (ih _ _ (by rw [m_lkS_ne h _ 4 (by omega) (by omega) (by omega)]; exact hm) hr2)
                first | rw [m_lkS, if_pos c36] | rw [m_lkS, if_neg (ne_true_of_eq_false c36), if_pos c75] | rw [m_lkS, if_neg (ne_true_of_eq_false c36), if_neg c75, if_pos (Or.inl c94), if_pos c122] | rw [m_lkS, if_neg (ne_true_of_eq_false c36), if_neg c75, if_pos (Or.inl c94), if_neg c122] | rw [m_lkS, if_neg (ne_true_of_eq_false c36), if_neg c75, if_pos (Or.inr (Or.inl c100)), if_pos c122] | rw [m_lkS, if_neg (ne_true_of_eq_false c36), if_neg c75, if_pos (Or.inr (Or.inl c100)), if_neg c122] | rw [m_lkS, if_neg (ne_true_of_eq_false c36), if_neg c75, if_pos (Or.inr (Or.inr c106)), if_pos c122] | rw [m_lkS, if_neg (ne_true_of_eq_false c36), if_neg c75, if_pos (Or.inr (Or.inr c106)), if_neg c122] | rw [m_lkS, if_neg (ne_true_of_eq_false c36), if_neg c75, if_neg (fun q => q.elim c94 (fun q => q.elim c100 c106))]
              · refine ab_iconst (pc := 125) (v := 2) dX4_look_125 (by decide) ?_
                refine ab_goto (pc := 126) 130 dX4_look_126 (by decide) ?_
                refine ab_iast (pc := 130) dX4_look_130 rfl (hpt (by first | exact Or.inl c94 | exact Or.inr (Or.inl c100) | exact Or.inr (Or.inr c106))) ?_
                refine ab_iinc (pc := 131) (v := 1) dX4_look_131 rfl (by decide) rfl ?_
                refine ab_goto (pc := 134) 10 dX4_look_134 (by decide) ?_
                refine ab_weak [(0, ab_R 0), (1, ab_I w), (2, ab_I (k + 1))] ⟨rfl, rfl, rfl, trivial⟩ ?_
                refine ab_heq ?_ (ih _ _ (by rw [m_lkS_ne h _ 4 (by omega) (by omega) (by omega)]; exact hm) hr2)
                first | rw [m_lkS, if_pos c36] | rw [m_lkS, if_neg (ne_true_of_eq_false c36), if_pos c75] | rw [m_lkS, if_neg (ne_true_of_eq_false c36), if_neg c75, if_pos (Or.inl c94), if_pos c122] | rw [m_lkS, if_neg (ne_true_of_eq_false c36), if_neg c75, if_pos (Or.inl c94), if_neg c122] | rw [m_lkS, if_neg (ne_true_of_eq_false c36), if_neg c75, if_pos (Or.inr (Or.inl c100)), if_pos c122] | rw [m_lkS, if_neg (ne_true_of_eq_false c36), if_neg c75, if_pos (Or.inr (Or.inl c100)), if_neg c122] | rw [m_lkS, if_neg (ne_true_of_eq_false c36), if_neg c75, if_pos (Or.inr (Or.inr c106)), if_pos c122] | rw [m_lkS, if_neg (ne_true_of_eq_false c36), if_neg c75, if_pos (Or.inr (Or.inr c106)), if_neg c122] | rw [m_lkS, if_neg (ne_true_of_eq_false c36), if_neg c75, if_neg (fun q => q.elim c94 (fun q => q.elim c100 c106))]
            · refine ab_iload_n (pc := 103) dX4_look_103 rfl rfl ?_
              refine ab_bipush (pc := 104) (v := 22) dX4_look_104 (by decide) ?_
              refine ab_icmp_ne (pc := 106) 131 dX4_look_106 (by decide) (fun c106 => ?_) (fun c106 => ?_)
              · refine ab_iinc (pc := 131) (v := 1) dX4_look_131 rfl (by decide) rfl ?_
                refine ab_goto (pc := 134) 10 dX4_look_134 (by decide) ?_
                refine ab_weak [(0, ab_R 0), (1, ab_I w), (2, ab_I (k + 1))] ⟨rfl, rfl, rfl, trivial⟩ ?_
                refine ab_heq ?_ (ih _ _ (by rw [m_lkS_ne h _ 4 (by omega) (by omega) (by omega)]; exact hm) hr2)
                first | rw [m_lkS, if_pos c36] | rw [m_lkS, if_neg (ne_true_of_eq_false c36), if_pos c75] | rw [m_lkS, if_neg (ne_true_of_eq_false c36), if_neg c75, if_pos (Or.inl c94), if_pos c122] | rw [m_lkS, if_neg (ne_true_of_eq_false c36), if_neg c75, if_pos (Or.inl c94), if_neg c122] | rw [m_lkS, if_neg (ne_true_of_eq_false c36), if_neg c75, if_pos (Or.inr (Or.inl c100)), if_pos c122] | rw [m_lkS, if_neg (ne_true_of_eq_false c36), if_neg c75, if_pos (Or.inr (Or.inl c100)), if_neg c122] | rw [m_lkS, if_neg (ne_true_of_eq_false c36), if_neg c75, if_pos (Or.inr (Or.inr c106)), if_pos c122] | rw [m_lkS, if_neg (ne_true_of_eq_false c36), if_neg c75, if_pos (Or.inr (Or.inr c106)), if_neg c122] | rw [m_lkS, if_neg (ne_true_of_eq_false c36), if_neg c75, if_neg (fun q => q.elim c94 (fun q => q.elim c100 c106))]
              · refine ab_aload_n (pc := 109) dX4_look_109 rfl rfl ?_
                refine ab_getr (pc := 110) dX4_look_110 fX4_77 rfl rfl ?_
                refine ab_aload_n (pc := 113) dX4_look_113 rfl rfl ?_
                refine ab_geti (pc := 114) dX4_look_114 fX4_95 rfl rfl ?_
                refine ab_topi (by (try simp only [ab_rd, ab_rdA, Nat.reduceEqDiff, reduceIte]); exact rfl) ?_
                refine ab_iconst (pc := 117) (v := 1) dX4_look_117 (by decide) ?_
                refine ab_isub (pc := 118) dX4_look_118 ?_
                refine ab_iload_n (pc := 119) dX4_look_119 rfl rfl ?_
                refine ab_bipush (pc := 120) (v := 12) dX4_look_120 (by decide) ?_
                refine ab_icmp_ne (pc := 122) 129 dX4_look_122 (by decide) (fun c122 => ?_) (fun c122 => ?_)
                · refine ab_iconst (pc := 129) (v := 1) dX4_look_129 (by decide) ?_
                  refine ab_iast (pc := 130) dX4_look_130 rfl (hpt (by first | exact Or.inl c94 | exact Or.inr (Or.inl c100) | exact Or.inr (Or.inr c106))) ?_
                  refine ab_iinc (pc := 131) (v := 1) dX4_look_131 rfl (by decide) rfl ?_
                  refine ab_goto (pc := 134) 10 dX4_look_134 (by decide) ?_
                  refine ab_weak [(0, ab_R 0), (1, ab_I w), (2, ab_I (k + 1))] ⟨rfl, rfl, rfl, trivial⟩ ?_
                  refine ab_heq ?_ (ih _ _ (by rw [m_lkS_ne h _ 4 (by omega) (by omega) (by omega)]; exact hm) hr2)
                  first | rw [m_lkS, if_pos c36] | rw [m_lkS, if_neg (ne_true_of_eq_false c36), if_pos c75] | rw [m_lkS, if_neg (ne_true_of_eq_false c36), if_neg c75, if_pos (Or.inl c94), if_pos c122] | rw [m_lkS, if_neg (ne_true_of_eq_false c36), if_neg c75, if_pos (Or.inl c94), if_neg c122] | rw [m_lkS, if_neg (ne_true_of_eq_false c36), if_neg c75, if_pos (Or.inr (Or.inl c100)), if_pos c122] | rw [m_lkS, if_neg (ne_true_of_eq_false c36), if_neg c75, if_pos (Or.inr (Or.inl c100)), if_neg c122] | rw [m_lkS, if_neg (ne_true_of_eq_false c36), if_neg c75, if_pos (Or.inr (Or.inr c106)), if_pos c122] | rw [m_lkS, if_neg (ne_true_of_eq_false c36), if_neg c75, if_pos (Or.inr (Or.inr c106)), if_neg c122] | rw [m_lkS, if_neg (ne_true_of_eq_false c36), if_neg c75, if_neg (fun q => q.elim c94 (fun q => q.elim c100 c106))]
                · refine ab_iconst (pc := 125) (v := 2) dX4_look_125 (by decide) ?_
                  refine ab_goto (pc := 126) 130 dX4_look_126 (by decide) ?_
                  refine ab_iast (pc := 130) dX4_look_130 rfl (hpt (by first | exact Or.inl c94 | exact Or.inr (Or.inl c100) | exact Or.inr (Or.inr c106))) ?_
                  refine ab_iinc (pc := 131) (v := 1) dX4_look_131 rfl (by decide) rfl ?_
                  refine ab_goto (pc := 134) 10 dX4_look_134 (by decide) ?_
                  refine ab_weak [(0, ab_R 0), (1, ab_I w), (2, ab_I (k + 1))] ⟨rfl, rfl, rfl, trivial⟩ ?_
                  refine ab_heq ?_ (ih _ _ (by rw [m_lkS_ne h _ 4 (by omega) (by omega) (by omega)]; exact hm) hr2)
                  first | rw [m_lkS, if_pos c36] | rw [m_lkS, if_neg (ne_true_of_eq_false c36), if_pos c75] | rw [m_lkS, if_neg (ne_true_of_eq_false c36), if_neg c75, if_pos (Or.inl c94), if_pos c122] | rw [m_lkS, if_neg (ne_true_of_eq_false c36), if_neg c75, if_pos (Or.inl c94), if_neg c122] | rw [m_lkS, if_neg (ne_true_of_eq_false c36), if_neg c75, if_pos (Or.inr (Or.inl c100)), if_pos c122] | rw [m_lkS, if_neg (ne_true_of_eq_false c36), if_neg c75, if_pos (Or.inr (Or.inl c100)), if_neg c122] | rw [m_lkS, if_neg (ne_true_of_eq_false c36), if_neg c75, if_pos (Or.inr (Or.inr c106)), if_pos c122] | rw [m_lkS, if_neg (ne_true_of_eq_false c36), if_neg c75, if_pos (Or.inr (Or.inr c106)), if_neg c122] | rw [m_lkS, if_neg (ne_true_of_eq_false c36), if_neg c75, if_neg (fun q => q.elim c94 (fun q => q.elim c100 c106))]
        · refine ab_aload_n (pc := 78) dX4_look_78 rfl rfl ?_
          refine ab_dup (pc := 79) dX4_look_79 rfl ?_
          refine ab_geti (pc := 80) dX4_look_80 fX4_95 rfl rfl ?_
          refine ab_topi (by (try simp only [ab_rd, ab_rdA, Nat.reduceEqDiff, reduceIte]); exact rfl) ?_
          refine ab_iconst (pc := 83) (v := 1) dX4_look_83 (by decide) ?_
          refine ab_isub (pc := 84) dX4_look_84 ?_
          refine ab_puti (pc := 85) dX4_look_85 fwX4_95 rfl rfl ?_
          refine ab_goto (pc := 88) 131 dX4_look_88 (by decide) ?_
          refine ab_iinc (pc := 131) (v := 1) dX4_look_131 rfl (by decide) rfl ?_
          refine ab_goto (pc := 134) 10 dX4_look_134 (by decide) ?_
          refine ab_weak [(0, ab_R 0), (1, ab_I w), (2, ab_I (k + 1))] ⟨rfl, rfl, rfl, trivial⟩ ?_
          refine ab_heq ?_ (ih _ _ (by rw [m_lkS_ne h _ 4 (by omega) (by omega) (by omega)]; exact hm) hr2)
          first | rw [m_lkS, if_pos c36] | rw [m_lkS, if_neg (ne_true_of_eq_false c36), if_pos c75] | rw [m_lkS, if_neg (ne_true_of_eq_false c36), if_neg c75, if_pos (Or.inl c94), if_pos c122] | rw [m_lkS, if_neg (ne_true_of_eq_false c36), if_neg c75, if_pos (Or.inl c94), if_neg c122] | rw [m_lkS, if_neg (ne_true_of_eq_false c36), if_neg c75, if_pos (Or.inr (Or.inl c100)), if_pos c122] | rw [m_lkS, if_neg (ne_true_of_eq_false c36), if_neg c75, if_pos (Or.inr (Or.inl c100)), if_neg c122] | rw [m_lkS, if_neg (ne_true_of_eq_false c36), if_neg c75, if_pos (Or.inr (Or.inr c106)), if_pos c122] | rw [m_lkS, if_neg (ne_true_of_eq_false c36), if_neg c75, if_pos (Or.inr (Or.inr c106)), if_neg c122] | rw [m_lkS, if_neg (ne_true_of_eq_false c36), if_neg c75, if_neg (fun q => q.elim c94 (fun q => q.elim c100 c106))]
      · replace c36 := b2i_1.mp c36
        refine ab_aload_n (pc := 39) dX4_look_39 rfl rfl ?_
        refine ab_getr (pc := 40) dX4_look_40 fX4_68 rfl rfl ?_
        refine ab_aload_n (pc := 43) dX4_look_43 rfl rfl ?_
        refine ab_geti (pc := 44) dX4_look_44 fX4_95 rfl rfl ?_
        refine ab_topi (by (try simp only [ab_rd, ab_rdA, Nat.reduceEqDiff, reduceIte]); exact rfl) ?_
        refine ab_iload_n (pc := 47) dX4_look_47 rfl rfl ?_
        refine ab_iast (pc := 48) dX4_look_48 rfl (hop c36) ?_
        refine ab_aload_n (pc := 49) dX4_look_49 rfl rfl ?_
        refine ab_getr (pc := 50) dX4_look_50 fX4_77 rfl rfl ?_
        refine ab_aload_n (pc := 53) dX4_look_53 rfl rfl ?_
        refine ab_geti (pc := 54) dX4_look_54 fX4_95 rfl rfl ?_
        refine ab_topi (by (try simp only [ab_rd, ab_rdA, Nat.reduceEqDiff, reduceIte]); exact rfl) ?_
        refine ab_iconst (pc := 57) (v := 0) dX4_look_57 (by decide) ?_
        refine ab_iast (pc := 58) dX4_look_58 rfl (hop c36) ?_
        refine ab_aload_n (pc := 59) dX4_look_59 rfl rfl ?_
        refine ab_dup (pc := 60) dX4_look_60 rfl ?_
        refine ab_geti (pc := 61) dX4_look_61 fX4_95 rfl rfl ?_
        refine ab_topi (by (try simp only [ab_rd, ab_rdA, Nat.reduceEqDiff, reduceIte]); exact rfl) ?_
        refine ab_iconst (pc := 64) (v := 1) dX4_look_64 (by decide) ?_
        refine ab_iadd (pc := 65) dX4_look_65 ?_
        refine ab_puti (pc := 66) dX4_look_66 fwX4_95 rfl rfl ?_
        refine ab_goto (pc := 69) 131 dX4_look_69 (by decide) ?_
        refine ab_iinc (pc := 131) (v := 1) dX4_look_131 rfl (by decide) rfl ?_
        refine ab_goto (pc := 134) 10 dX4_look_134 (by decide) ?_
        refine ab_weak [(0, ab_R 0), (1, ab_I w), (2, ab_I (k + 1))] ⟨rfl, rfl, rfl, trivial⟩ ?_
        refine ab_heq ?_ (ih _ _ (by rw [m_lkS_ne h _ 4 (by omega) (by omega) (by omega)]; exact hm) hr2)
        first | rw [m_lkS, if_pos c36] | rw [m_lkS, if_neg (ne_true_of_eq_false c36), if_pos c75] | rw [m_lkS, if_neg (ne_true_of_eq_false c36), if_neg c75, if_pos (Or.inl c94), if_pos c122] | rw [m_lkS, if_neg (ne_true_of_eq_false c36), if_neg c75, if_pos (Or.inl c94), if_neg c122] | rw [m_lkS, if_neg (ne_true_of_eq_false c36), if_neg c75, if_pos (Or.inr (Or.inl c100)), if_pos c122] | rw [m_lkS, if_neg (ne_true_of_eq_false c36), if_neg c75, if_pos (Or.inr (Or.inl c100)), if_neg c122] | rw [m_lkS, if_neg (ne_true_of_eq_false c36), if_neg c75, if_pos (Or.inr (Or.inr c106)), if_pos c122] | rw [m_lkS, if_neg (ne_true_of_eq_false c36), if_neg c75, if_pos (Or.inr (Or.inr c106)), if_neg c122] | rw [m_lkS, if_neg (ne_true_of_eq_false c36), if_neg c75, if_neg (fun q => q.elim c94 (fun q => q.elim c100 c106))]
theorem ab_up_up (h : ab_H) (i k : Nat) (v w : Int32) : ab_up (ab_up h i k v) i k w = ab_up h i k w := by
  funext j n
  simp only [ab_rd]
  by_cases e : j = i
  · subst e
    simp only [if_true]
    by_cases e2 : n = k
    · simp only [if_pos e2]
    · simp only [if_neg e2]
  · simp only [if_neg e]
theorem m_cnt_t {f : Nat → Int32} {k : Nat} (c : f k = 13) : m_cnt f (k + 1) = m_cnt f k + 1 := by rw [m_cnt, if_pos c]
theorem m_cnt_f {f : Nat → Int32} {k : Nat} (c : ¬ f k = 13) : m_cnt f (k + 1) = m_cnt f k := by rw [m_cnt, if_neg c, Nat.add_zero]
set_option maxRecDepth 100000 in
set_option maxHeartbeats 4000000 in
theorem lpX4_look2 {l : Launch} {d : Nat} {g : ab_H} {oN : Nat} (ho : g 0 39 = nI oN) (ho2 : oN ≤ 80) {P : ab_H → Prop} (hP : P (m_look g oN)) : ∀ (n : Nat) (k : Nat), k ≤ oN → oN < k + n → ab_J l layM mX4_look (d + 1) (ab_qv P) 144 [(0, ab_R 0), (2, ab_I (nI k))] [] (ab_up g 0 42 (nI (m_cnt (g 18) k))) := by
  intro n
  induction n with
  | zero =>
    intro k hk hn
    omega
  | succ n ih =>
    intro k hk hn
    have hc : (nI k).toNatClampNeg = k := nI_clamp (by omega)
    refine ab_iload_n (pc := 144) dX4_look_144 rfl rfl ?_
    refine ab_aload_n (pc := 145) dX4_look_145 rfl rfl ?_
    refine ab_geti (pc := 146) dX4_look_146 fX4_95 rfl rfl ?_
    refine ab_topi (by (try simp only [ab_rd, ab_rdA, Nat.reduceEqDiff, reduceIte, hc, ho]); exact rfl) ?_
    refine ab_icmp_ge (pc := 149) 179 dX4_look_149 (by decide) (fun c149 => ?_) (fun c149 => ?_)
    · obtain rfl : k = oN := by
        have := c149
        rw [nI_leI (by omega) (by omega)] at this
        omega
      exact ab_retv (pc := 179) dX4_look_179 rfl ⟨rfl, hP⟩
    · have hk2 : k < oN := by
        rcases Nat.lt_or_ge k oN with z | z
        · exact z
        · exact absurd (nI_le z (by omega)) c149
      refine ab_aload_n (pc := 152) dX4_look_152 rfl rfl ?_
      refine ab_getr (pc := 153) dX4_look_153 fX4_68 rfl rfl ?_
      refine ab_iload_n (pc := 156) dX4_look_156 rfl rfl ?_
      refine ab_iald (pc := 157) dX4_look_157 rfl (vp_in_nI (by omega) (by omega)) ?_
      refine ab_topi (by (try simp only [ab_rd, ab_rdA, Nat.reduceEqDiff, reduceIte, hc, ho]); exact rfl) ?_
      refine ab_bipush (pc := 158) (v := 13) dX4_look_158 (by decide) ?_
      refine ab_icmp_ne (pc := 160) 173 dX4_look_160 (by decide) (fun c160 => ?_) (fun c160 => ?_)
      · refine ab_iinc (pc := 173) (v := 1) dX4_look_173 rfl (by decide) rfl ?_
        refine ab_goto (pc := 176) 144 dX4_look_176 (by decide) ?_
        refine ab_weak [(0, ab_R 0), (2, ab_I (nI k + 1))] ⟨rfl, rfl, trivial⟩ ?_
        rw [nI_1]
        refine ab_heq ?_ (ih (k + 1) (by omega) (by omega))
        first | rw [m_cnt_f c160] | (rw [m_cnt_t c160, ← nI_1]; exact ab_up_up _ _ _ _ _)
      · refine ab_aload_n (pc := 163) dX4_look_163 rfl rfl ?_
        refine ab_dup (pc := 164) dX4_look_164 rfl ?_
        refine ab_geti (pc := 165) dX4_look_165 fX4_102 rfl rfl ?_
        refine ab_topi (by (try simp only [ab_rd, ab_rdA, Nat.reduceEqDiff, reduceIte, hc, ho]); exact rfl) ?_
        refine ab_iconst (pc := 168) (v := 1) dX4_look_168 (by decide) ?_
        refine ab_iadd (pc := 169) dX4_look_169 ?_
        refine ab_puti (pc := 170) dX4_look_170 fwX4_102 rfl rfl ?_
        refine ab_iinc (pc := 173) (v := 1) dX4_look_173 rfl (by decide) rfl ?_
        refine ab_goto (pc := 176) 144 dX4_look_176 (by decide) ?_
        refine ab_weak [(0, ab_R 0), (2, ab_I (nI k + 1))] ⟨rfl, rfl, trivial⟩ ?_
        rw [nI_1]
        refine ab_heq ?_ (ih (k + 1) (by omega) (by omega))
        first | rw [m_cnt_f c160] | (rw [m_cnt_t c160, ← nI_1]; exact ab_up_up _ _ _ _ _)

set_option maxRecDepth 100000 in
set_option maxHeartbeats 4000000 in
theorem kX4_look {l : Launch} {d : Nat} {h : ab_H} {w : Int32} {n oN : Nat} {g : ab_H} (hw : vp_in w 8) (hl : m_lk (60 * w + h 4 w.toNatClampNeg) n (60 * w) (ab_up h 0 39 0) g) (ho : g 0 39 = nI oN) (ho2 : oN ≤ 80) : ab_C l layM (d + 1) mX4_look [ab_R 0, ab_I w] h (ab_qv fun h' => h' = m_look g oN) := by
  refine ab_enter (by decide) (Nat.le_of_ble_eq_true rfl) ?_
  refine ab_aload_n (pc := 0) dX4_look_0 rfl rfl ?_
  refine ab_iconst (pc := 1) (v := 0) dX4_look_1 (by decide) ?_
  refine ab_puti (pc := 2) dX4_look_2 fwX4_95 rfl rfl ?_
  refine ab_bipush (pc := 5) (v := 60) dX4_look_5 (by decide) ?_
  refine ab_iload_n (pc := 7) dX4_look_7 rfl rfl ?_
  refine ab_imul (pc := 8) dX4_look_8 ?_
  refine ab_istore_n (pc := 9) dX4_look_9 rfl rfl ?_
  refine ab_weak [(0, ab_R 0), (1, ab_I w), (2, ab_I _)] ⟨rfl, rfl, rfl, trivial⟩ ?_
  refine lpX4_look (mw := h 4 w.toNatClampNeg) hw ?_ n _ _ rfl hl
  refine ab_aload_n (pc := 137) dX4_look_137 rfl rfl ?_
  refine ab_iconst (pc := 138) (v := 0) dX4_look_138 (by decide) ?_
  refine ab_puti (pc := 139) dX4_look_139 fwX4_102 rfl rfl ?_
  refine ab_iconst (pc := 142) (v := 0) dX4_look_142 (by decide) ?_
  refine ab_istore_n (pc := 143) dX4_look_143 rfl rfl ?_
  refine ab_weak [(0, ab_R 0), (2, ab_I (nI 0))] ⟨rfl, rfl, trivial⟩ ?_
  exact lpX4_look2 (P := fun h' => h' = m_look g oN) ho ho2 rfl (oN + 1) 0 (by omega) (by omega)

theorem m_stands_d {h : ab_H} {s b : Int32} (hn : ¬ s = 11 ∧ ¬ s = 12 ∧ ¬ s = 22 ∧ ¬ s = 16 ∧ ¬ s = 17 ∧ ¬ s = 18) : m_stands h s b = (!m_opens s || decide (¬ 10 ≤ h 0 39)) := by
  rw [m_stands, if_neg hn.1, if_neg hn.2.1, if_neg hn.2.2.1, if_neg hn.2.2.2.1, if_neg (fun q => q.elim hn.2.2.2.2.1 hn.2.2.2.2.2)]
set_option maxRecDepth 100000 in
set_option maxHeartbeats 4000000 in
theorem kX4_stands {l : Launch} {d : Nat} {h : ab_H} {s b : Int32} (ho : ¬ h 0 39 = 0 → vp_in (h 0 39 - 1) 80) : ab_C l layM (d + 1) mX4_stands [ab_R 0, ab_I s, ab_I b] h (ab_qi fun r h' => r = b2i (m_stands h s b) ∧ h' = h) := by
  refine ab_enter (by decide) (Nat.le_of_ble_eq_true rfl) ?_
  refine ab_aload_n (pc := 0) dX4_stands_0 rfl rfl ?_
  refine ab_geti (pc := 1) dX4_stands_1 fX4_95 rfl rfl ?_
  refine ab_if_ne (pc := 4) 11 dX4_stands_4 (by decide) (fun c4 => ?_) (fun c4 => ?_)
  · refine ab_aload_n (pc := 11) dX4_stands_11 rfl rfl ?_
    refine ab_getr (pc := 12) dX4_stands_12 fX4_68 rfl rfl ?_
    refine ab_aload_n (pc := 15) dX4_stands_15 rfl rfl ?_
    refine ab_geti (pc := 16) dX4_stands_16 fX4_95 rfl rfl ?_
    refine ab_iconst (pc := 19) (v := 1) dX4_stands_19 (by decide) ?_
    refine ab_isub (pc := 20) dX4_stands_20 ?_
    refine ab_iald (pc := 21) dX4_stands_21 rfl (ho (by assumption)) ?_
    refine ab_topi (y := m_in h) (by first | rw [m_in, if_pos c4] | rw [m_in, if_neg c4]) ?_
    refine ab_istore_n (pc := 22) dX4_stands_22 rfl rfl ?_
    refine ab_aload_n (pc := 23) dX4_stands_23 rfl rfl ?_
    refine ab_geti (pc := 24) dX4_stands_24 fX4_95 rfl rfl ?_
    refine ab_if_ne (pc := 27) 34 dX4_stands_27 (by decide) (fun c27 => ?_) (fun c27 => ?_)
    · refine ab_aload_n (pc := 34) dX4_stands_34 rfl rfl ?_
      refine ab_getr (pc := 35) dX4_stands_35 fX4_77 rfl rfl ?_
      refine ab_aload_n (pc := 38) dX4_stands_38 rfl rfl ?_
      refine ab_geti (pc := 39) dX4_stands_39 fX4_95 rfl rfl ?_
      refine ab_iconst (pc := 42) (v := 1) dX4_stands_42 (by decide) ?_
      refine ab_isub (pc := 43) dX4_stands_43 ?_
      refine ab_iald (pc := 44) dX4_stands_44 rfl (ho (by assumption)) ?_
      refine ab_topi (y := m_pt h) (by first | rw [m_pt, if_pos c27] | rw [m_pt, if_neg c27]) ?_
      refine ab_istore (pc := 45) dX4_stands_45 rfl ?_
      refine ab_iload_n (pc := 47) dX4_stands_47 rfl rfl ?_
      refine ab_table (pc := 48) dX4_stands_48 (by decide) (by decide) (by decide) (by decide) ?_
      refine ab_tw_c 11 112 (by decide) (by decide) (fun s48 => ?_) (fun n48_11 => ?_)
      · refine ab_iload_n (pc := 112) dX4_stands_112 rfl rfl ?_
        refine ab_bipush (pc := 113) (v := 10) dX4_stands_113 (by decide) ?_
        refine ab_icmp_ne (pc := 115) 127 dX4_stands_115 (by decide) (fun c115 => ?_) (fun c115 => ?_)
        · refine ab_iconst (pc := 127) (v := 0) dX4_stands_127 (by decide) ?_
          exact ab_retz (pc := 128) dX4_stands_128 rfl rfl ⟨_, rfl, ⟨by simp [m_stands, s48, b2i, *], rfl⟩⟩
        · refine ab_iload (pc := 118) dX4_stands_118 rfl ?_
          refine ab_if_ne (pc := 120) 127 dX4_stands_120 (by decide) (fun c120 => ?_) (fun c120 => ?_)
          · refine ab_iconst (pc := 127) (v := 0) dX4_stands_127 (by decide) ?_
            exact ab_retz (pc := 128) dX4_stands_128 rfl rfl ⟨_, rfl, ⟨by simp [m_stands, s48, b2i, *], rfl⟩⟩
          · refine ab_iconst (pc := 123) (v := 1) dX4_stands_123 (by decide) ?_
            refine ab_goto (pc := 124) 128 dX4_stands_124 (by decide) ?_
            exact ab_retz (pc := 128) dX4_stands_128 rfl rfl ⟨_, rfl, ⟨by simp [m_stands, s48, b2i, *], rfl⟩⟩
      refine ab_tw_c 12 129 (by decide) (by decide) (fun s48 => ?_) (fun n48_12 => ?_)
      · refine ab_iload_n (pc := 129) dX4_stands_129 rfl rfl ?_
        refine ab_bipush (pc := 130) (v := 10) dX4_stands_130 (by decide) ?_
        refine ab_icmp_ne (pc := 132) 145 dX4_stands_132 (by decide) (fun c132 => ?_) (fun c132 => ?_)
        · refine ab_iconst (pc := 145) (v := 0) dX4_stands_145 (by decide) ?_
          exact ab_retz (pc := 146) dX4_stands_146 rfl rfl ⟨_, rfl, ⟨by simp [m_stands, s48, b2i, *], rfl⟩⟩
        · refine ab_iload (pc := 135) dX4_stands_135 rfl ?_
          refine ab_iconst (pc := 137) (v := 2) dX4_stands_137 (by decide) ?_
          refine ab_icmp_ge (pc := 138) 145 dX4_stands_138 (by decide) (fun c138 => ?_) (fun c138 => ?_)
          · refine ab_iconst (pc := 145) (v := 0) dX4_stands_145 (by decide) ?_
            exact ab_retz (pc := 146) dX4_stands_146 rfl rfl ⟨_, rfl, ⟨by simp [m_stands, s48, b2i, *], rfl⟩⟩
          · refine ab_iconst (pc := 141) (v := 1) dX4_stands_141 (by decide) ?_
            refine ab_goto (pc := 142) 146 dX4_stands_142 (by decide) ?_
            exact ab_retz (pc := 146) dX4_stands_146 rfl rfl ⟨_, rfl, ⟨by simp [m_stands, s48, b2i, *], rfl⟩⟩
      refine ab_tw_c 13 191 (by decide) (by decide) (fun s48 => ?_) (fun n48_13 => ?_)
      · have hd : ¬ s = 11 ∧ ¬ s = 12 ∧ ¬ s = 22 ∧ ¬ s = 16 ∧ ¬ s = 17 ∧ ¬ s = 18 := by first | (rw [s48]; decide) | exact And.intro n48_11 (And.intro n48_12 (And.intro n48_22 (And.intro n48_16 (And.intro n48_17 n48_18))))
        refine ab_iload_n (pc := 191) dX4_stands_191 rfl rfl ?_
        refine ab_S1 (pc := 192) dX4_stands_192 msX4_98 rfl (kX4_opens) (ab_ki fun r192 h192 e192 => ?_)
        obtain ⟨rfl, rfl⟩ := And.intro e192.1.symm e192.2.symm
        refine ab_if_eq (pc := 195) 207 dX4_stands_195 (by decide) (fun c195 => ?_) (fun c195 => ?_)
        · replace c195 := b2i_0.mp c195
          refine ab_iconst (pc := 207) (v := 1) dX4_stands_207 (by decide) ?_
          refine ab_goto (pc := 208) 212 dX4_stands_208 (by decide) ?_
          exact ab_retz (pc := 212) dX4_stands_212 rfl rfl ⟨_, rfl, ⟨by first | (rw [m_stands_d hd, decide_eq_true c204, c195]; rfl) | (rw [m_stands_d hd, decide_eq_false (not_not_intro c204), c195]; rfl) | (rw [m_stands_d hd, c195]; rfl), rfl⟩⟩
        · replace c195 := b2i_1.mp c195
          refine ab_aload_n (pc := 198) dX4_stands_198 rfl rfl ?_
          refine ab_geti (pc := 199) dX4_stands_199 fX4_95 rfl rfl ?_
          refine ab_bipush (pc := 202) (v := 10) dX4_stands_202 (by decide) ?_
          refine ab_icmp_ge (pc := 204) 211 dX4_stands_204 (by decide) (fun c204 => ?_) (fun c204 => ?_)
          · refine ab_iconst (pc := 211) (v := 0) dX4_stands_211 (by decide) ?_
            exact ab_retz (pc := 212) dX4_stands_212 rfl rfl ⟨_, rfl, ⟨by first | (rw [m_stands_d hd, decide_eq_true c204, c195]; rfl) | (rw [m_stands_d hd, decide_eq_false (not_not_intro c204), c195]; rfl) | (rw [m_stands_d hd, c195]; rfl), rfl⟩⟩
          · refine ab_iconst (pc := 207) (v := 1) dX4_stands_207 (by decide) ?_
            refine ab_goto (pc := 208) 212 dX4_stands_208 (by decide) ?_
            exact ab_retz (pc := 212) dX4_stands_212 rfl rfl ⟨_, rfl, ⟨by first | (rw [m_stands_d hd, decide_eq_true c204, c195]; rfl) | (rw [m_stands_d hd, decide_eq_false (not_not_intro c204), c195]; rfl) | (rw [m_stands_d hd, c195]; rfl), rfl⟩⟩
      refine ab_tw_c 14 191 (by decide) (by decide) (fun s48 => ?_) (fun n48_14 => ?_)
      · have hd : ¬ s = 11 ∧ ¬ s = 12 ∧ ¬ s = 22 ∧ ¬ s = 16 ∧ ¬ s = 17 ∧ ¬ s = 18 := by first | (rw [s48]; decide) | exact And.intro n48_11 (And.intro n48_12 (And.intro n48_22 (And.intro n48_16 (And.intro n48_17 n48_18))))
        refine ab_iload_n (pc := 191) dX4_stands_191 rfl rfl ?_
        refine ab_S1 (pc := 192) dX4_stands_192 msX4_98 rfl (kX4_opens) (ab_ki fun r192 h192 e192 => ?_)
        obtain ⟨rfl, rfl⟩ := And.intro e192.1.symm e192.2.symm
        refine ab_if_eq (pc := 195) 207 dX4_stands_195 (by decide) (fun c195 => ?_) (fun c195 => ?_)
        · replace c195 := b2i_0.mp c195
          refine ab_iconst (pc := 207) (v := 1) dX4_stands_207 (by decide) ?_
          refine ab_goto (pc := 208) 212 dX4_stands_208 (by decide) ?_
          exact ab_retz (pc := 212) dX4_stands_212 rfl rfl ⟨_, rfl, ⟨by first | (rw [m_stands_d hd, decide_eq_true c204, c195]; rfl) | (rw [m_stands_d hd, decide_eq_false (not_not_intro c204), c195]; rfl) | (rw [m_stands_d hd, c195]; rfl), rfl⟩⟩
        · replace c195 := b2i_1.mp c195
          refine ab_aload_n (pc := 198) dX4_stands_198 rfl rfl ?_
          refine ab_geti (pc := 199) dX4_stands_199 fX4_95 rfl rfl ?_
          refine ab_bipush (pc := 202) (v := 10) dX4_stands_202 (by decide) ?_
          refine ab_icmp_ge (pc := 204) 211 dX4_stands_204 (by decide) (fun c204 => ?_) (fun c204 => ?_)
          · refine ab_iconst (pc := 211) (v := 0) dX4_stands_211 (by decide) ?_
            exact ab_retz (pc := 212) dX4_stands_212 rfl rfl ⟨_, rfl, ⟨by first | (rw [m_stands_d hd, decide_eq_true c204, c195]; rfl) | (rw [m_stands_d hd, decide_eq_false (not_not_intro c204), c195]; rfl) | (rw [m_stands_d hd, c195]; rfl), rfl⟩⟩
          · refine ab_iconst (pc := 207) (v := 1) dX4_stands_207 (by decide) ?_
            refine ab_goto (pc := 208) 212 dX4_stands_208 (by decide) ?_
            exact ab_retz (pc := 212) dX4_stands_212 rfl rfl ⟨_, rfl, ⟨by first | (rw [m_stands_d hd, decide_eq_true c204, c195]; rfl) | (rw [m_stands_d hd, decide_eq_false (not_not_intro c204), c195]; rfl) | (rw [m_stands_d hd, c195]; rfl), rfl⟩⟩
      refine ab_tw_c 15 191 (by decide) (by decide) (fun s48 => ?_) (fun n48_15 => ?_)
      · have hd : ¬ s = 11 ∧ ¬ s = 12 ∧ ¬ s = 22 ∧ ¬ s = 16 ∧ ¬ s = 17 ∧ ¬ s = 18 := by first | (rw [s48]; decide) | exact And.intro n48_11 (And.intro n48_12 (And.intro n48_22 (And.intro n48_16 (And.intro n48_17 n48_18))))
        refine ab_iload_n (pc := 191) dX4_stands_191 rfl rfl ?_
        refine ab_S1 (pc := 192) dX4_stands_192 msX4_98 rfl (kX4_opens) (ab_ki fun r192 h192 e192 => ?_)
        obtain ⟨rfl, rfl⟩ := And.intro e192.1.symm e192.2.symm
        refine ab_if_eq (pc := 195) 207 dX4_stands_195 (by decide) (fun c195 => ?_) (fun c195 => ?_)
        · replace c195 := b2i_0.mp c195
          refine ab_iconst (pc := 207) (v := 1) dX4_stands_207 (by decide) ?_
          refine ab_goto (pc := 208) 212 dX4_stands_208 (by decide) ?_
          exact ab_retz (pc := 212) dX4_stands_212 rfl rfl ⟨_, rfl, ⟨by first | (rw [m_stands_d hd, decide_eq_true c204, c195]; rfl) | (rw [m_stands_d hd, decide_eq_false (not_not_intro c204), c195]; rfl) | (rw [m_stands_d hd, c195]; rfl), rfl⟩⟩
        · replace c195 := b2i_1.mp c195
          refine ab_aload_n (pc := 198) dX4_stands_198 rfl rfl ?_
          refine ab_geti (pc := 199) dX4_stands_199 fX4_95 rfl rfl ?_
          refine ab_bipush (pc := 202) (v := 10) dX4_stands_202 (by decide) ?_
          refine ab_icmp_ge (pc := 204) 211 dX4_stands_204 (by decide) (fun c204 => ?_) (fun c204 => ?_)
          · refine ab_iconst (pc := 211) (v := 0) dX4_stands_211 (by decide) ?_
            exact ab_retz (pc := 212) dX4_stands_212 rfl rfl ⟨_, rfl, ⟨by first | (rw [m_stands_d hd, decide_eq_true c204, c195]; rfl) | (rw [m_stands_d hd, decide_eq_false (not_not_intro c204), c195]; rfl) | (rw [m_stands_d hd, c195]; rfl), rfl⟩⟩
          · refine ab_iconst (pc := 207) (v := 1) dX4_stands_207 (by decide) ?_
            refine ab_goto (pc := 208) 212 dX4_stands_208 (by decide) ?_
            exact ab_retz (pc := 212) dX4_stands_212 rfl rfl ⟨_, rfl, ⟨by first | (rw [m_stands_d hd, decide_eq_true c204, c195]; rfl) | (rw [m_stands_d hd, decide_eq_false (not_not_intro c204), c195]; rfl) | (rw [m_stands_d hd, c195]; rfl), rfl⟩⟩
      refine ab_tw_c 16 164 (by decide) (by decide) (fun s48 => ?_) (fun n48_16 => ?_)
      · refine ab_aload_n (pc := 164) dX4_stands_164 rfl rfl ?_
        refine ab_geti (pc := 165) dX4_stands_165 fX4_95 rfl rfl ?_
        refine ab_if_le (pc := 168) 175 dX4_stands_168 (by decide) (fun c168 => ?_) (fun c168 => ?_)
        · refine ab_iconst (pc := 175) (v := 0) dX4_stands_175 (by decide) ?_
          exact ab_retz (pc := 176) dX4_stands_176 rfl rfl ⟨_, rfl, ⟨by simp [m_stands, s48, b2i, c168], rfl⟩⟩
        · refine ab_iconst (pc := 171) (v := 1) dX4_stands_171 (by decide) ?_
          refine ab_goto (pc := 172) 176 dX4_stands_172 (by decide) ?_
          exact ab_retz (pc := 176) dX4_stands_176 rfl rfl ⟨_, rfl, ⟨by simp [m_stands, s48, b2i, c168], rfl⟩⟩
      refine ab_tw_c 17 177 (by decide) (by decide) (fun s48 => ?_) (fun n48_17 => ?_)
      · refine ab_aload_n (pc := 177) dX4_stands_177 rfl rfl ?_
        refine ab_geti (pc := 178) dX4_stands_178 fX4_102 rfl rfl ?_
        refine ab_iload_n (pc := 181) dX4_stands_181 rfl rfl ?_
        refine ab_icmp_le (pc := 182) 189 dX4_stands_182 (by decide) (fun c182 => ?_) (fun c182 => ?_)
        · refine ab_iconst (pc := 189) (v := 0) dX4_stands_189 (by decide) ?_
          exact ab_retz (pc := 190) dX4_stands_190 rfl rfl ⟨_, rfl, ⟨by simp [m_stands, s48, b2i, *], rfl⟩⟩
        · refine ab_iconst (pc := 185) (v := 1) dX4_stands_185 (by decide) ?_
          refine ab_goto (pc := 186) 190 dX4_stands_186 (by decide) ?_
          exact ab_retz (pc := 190) dX4_stands_190 rfl rfl ⟨_, rfl, ⟨by simp [m_stands, s48, b2i, *], rfl⟩⟩
      refine ab_tw_c 18 177 (by decide) (by decide) (fun s48 => ?_) (fun n48_18 => ?_)
      · refine ab_aload_n (pc := 177) dX4_stands_177 rfl rfl ?_
        refine ab_geti (pc := 178) dX4_stands_178 fX4_102 rfl rfl ?_
        refine ab_iload_n (pc := 181) dX4_stands_181 rfl rfl ?_
        refine ab_icmp_le (pc := 182) 189 dX4_stands_182 (by decide) (fun c182 => ?_) (fun c182 => ?_)
        · refine ab_iconst (pc := 189) (v := 0) dX4_stands_189 (by decide) ?_
          exact ab_retz (pc := 190) dX4_stands_190 rfl rfl ⟨_, rfl, ⟨by simp [m_stands, s48, b2i, *], rfl⟩⟩
        · refine ab_iconst (pc := 185) (v := 1) dX4_stands_185 (by decide) ?_
          refine ab_goto (pc := 186) 190 dX4_stands_186 (by decide) ?_
          exact ab_retz (pc := 190) dX4_stands_190 rfl rfl ⟨_, rfl, ⟨by simp [m_stands, s48, b2i, *], rfl⟩⟩
      refine ab_tw_c 19 191 (by decide) (by decide) (fun s48 => ?_) (fun n48_19 => ?_)
      · have hd : ¬ s = 11 ∧ ¬ s = 12 ∧ ¬ s = 22 ∧ ¬ s = 16 ∧ ¬ s = 17 ∧ ¬ s = 18 := by first | (rw [s48]; decide) | exact And.intro n48_11 (And.intro n48_12 (And.intro n48_22 (And.intro n48_16 (And.intro n48_17 n48_18))))
        refine ab_iload_n (pc := 191) dX4_stands_191 rfl rfl ?_
        refine ab_S1 (pc := 192) dX4_stands_192 msX4_98 rfl (kX4_opens) (ab_ki fun r192 h192 e192 => ?_)
        obtain ⟨rfl, rfl⟩ := And.intro e192.1.symm e192.2.symm
        refine ab_if_eq (pc := 195) 207 dX4_stands_195 (by decide) (fun c195 => ?_) (fun c195 => ?_)
        · replace c195 := b2i_0.mp c195
          refine ab_iconst (pc := 207) (v := 1) dX4_stands_207 (by decide) ?_
          refine ab_goto (pc := 208) 212 dX4_stands_208 (by decide) ?_
          exact ab_retz (pc := 212) dX4_stands_212 rfl rfl ⟨_, rfl, ⟨by first | (rw [m_stands_d hd, decide_eq_true c204, c195]; rfl) | (rw [m_stands_d hd, decide_eq_false (not_not_intro c204), c195]; rfl) | (rw [m_stands_d hd, c195]; rfl), rfl⟩⟩
        · replace c195 := b2i_1.mp c195
          refine ab_aload_n (pc := 198) dX4_stands_198 rfl rfl ?_
          refine ab_geti (pc := 199) dX4_stands_199 fX4_95 rfl rfl ?_
          refine ab_bipush (pc := 202) (v := 10) dX4_stands_202 (by decide) ?_
          refine ab_icmp_ge (pc := 204) 211 dX4_stands_204 (by decide) (fun c204 => ?_) (fun c204 => ?_)
          · refine ab_iconst (pc := 211) (v := 0) dX4_stands_211 (by decide) ?_
            exact ab_retz (pc := 212) dX4_stands_212 rfl rfl ⟨_, rfl, ⟨by first | (rw [m_stands_d hd, decide_eq_true c204, c195]; rfl) | (rw [m_stands_d hd, decide_eq_false (not_not_intro c204), c195]; rfl) | (rw [m_stands_d hd, c195]; rfl), rfl⟩⟩
          · refine ab_iconst (pc := 207) (v := 1) dX4_stands_207 (by decide) ?_
            refine ab_goto (pc := 208) 212 dX4_stands_208 (by decide) ?_
            exact ab_retz (pc := 212) dX4_stands_212 rfl rfl ⟨_, rfl, ⟨by first | (rw [m_stands_d hd, decide_eq_true c204, c195]; rfl) | (rw [m_stands_d hd, decide_eq_false (not_not_intro c204), c195]; rfl) | (rw [m_stands_d hd, c195]; rfl), rfl⟩⟩
      refine ab_tw_c 20 191 (by decide) (by decide) (fun s48 => ?_) (fun n48_20 => ?_)
      · have hd : ¬ s = 11 ∧ ¬ s = 12 ∧ ¬ s = 22 ∧ ¬ s = 16 ∧ ¬ s = 17 ∧ ¬ s = 18 := by first | (rw [s48]; decide) | exact And.intro n48_11 (And.intro n48_12 (And.intro n48_22 (And.intro n48_16 (And.intro n48_17 n48_18))))
        refine ab_iload_n (pc := 191) dX4_stands_191 rfl rfl ?_
        refine ab_S1 (pc := 192) dX4_stands_192 msX4_98 rfl (kX4_opens) (ab_ki fun r192 h192 e192 => ?_)
        obtain ⟨rfl, rfl⟩ := And.intro e192.1.symm e192.2.symm
        refine ab_if_eq (pc := 195) 207 dX4_stands_195 (by decide) (fun c195 => ?_) (fun c195 => ?_)
        · replace c195 := b2i_0.mp c195
          refine ab_iconst (pc := 207) (v := 1) dX4_stands_207 (by decide) ?_
          refine ab_goto (pc := 208) 212 dX4_stands_208 (by decide) ?_
          exact ab_retz (pc := 212) dX4_stands_212 rfl rfl ⟨_, rfl, ⟨by first | (rw [m_stands_d hd, decide_eq_true c204, c195]; rfl) | (rw [m_stands_d hd, decide_eq_false (not_not_intro c204), c195]; rfl) | (rw [m_stands_d hd, c195]; rfl), rfl⟩⟩
        · replace c195 := b2i_1.mp c195
          refine ab_aload_n (pc := 198) dX4_stands_198 rfl rfl ?_
          refine ab_geti (pc := 199) dX4_stands_199 fX4_95 rfl rfl ?_
          refine ab_bipush (pc := 202) (v := 10) dX4_stands_202 (by decide) ?_
          refine ab_icmp_ge (pc := 204) 211 dX4_stands_204 (by decide) (fun c204 => ?_) (fun c204 => ?_)
          · refine ab_iconst (pc := 211) (v := 0) dX4_stands_211 (by decide) ?_
            exact ab_retz (pc := 212) dX4_stands_212 rfl rfl ⟨_, rfl, ⟨by first | (rw [m_stands_d hd, decide_eq_true c204, c195]; rfl) | (rw [m_stands_d hd, decide_eq_false (not_not_intro c204), c195]; rfl) | (rw [m_stands_d hd, c195]; rfl), rfl⟩⟩
          · refine ab_iconst (pc := 207) (v := 1) dX4_stands_207 (by decide) ?_
            refine ab_goto (pc := 208) 212 dX4_stands_208 (by decide) ?_
            exact ab_retz (pc := 212) dX4_stands_212 rfl rfl ⟨_, rfl, ⟨by first | (rw [m_stands_d hd, decide_eq_true c204, c195]; rfl) | (rw [m_stands_d hd, decide_eq_false (not_not_intro c204), c195]; rfl) | (rw [m_stands_d hd, c195]; rfl), rfl⟩⟩
      refine ab_tw_c 21 191 (by decide) (by decide) (fun s48 => ?_) (fun n48_21 => ?_)
      · have hd : ¬ s = 11 ∧ ¬ s = 12 ∧ ¬ s = 22 ∧ ¬ s = 16 ∧ ¬ s = 17 ∧ ¬ s = 18 := by first | (rw [s48]; decide) | exact And.intro n48_11 (And.intro n48_12 (And.intro n48_22 (And.intro n48_16 (And.intro n48_17 n48_18))))
        refine ab_iload_n (pc := 191) dX4_stands_191 rfl rfl ?_
        refine ab_S1 (pc := 192) dX4_stands_192 msX4_98 rfl (kX4_opens) (ab_ki fun r192 h192 e192 => ?_)
        obtain ⟨rfl, rfl⟩ := And.intro e192.1.symm e192.2.symm
        refine ab_if_eq (pc := 195) 207 dX4_stands_195 (by decide) (fun c195 => ?_) (fun c195 => ?_)
        · replace c195 := b2i_0.mp c195
          refine ab_iconst (pc := 207) (v := 1) dX4_stands_207 (by decide) ?_
          refine ab_goto (pc := 208) 212 dX4_stands_208 (by decide) ?_
          exact ab_retz (pc := 212) dX4_stands_212 rfl rfl ⟨_, rfl, ⟨by first | (rw [m_stands_d hd, decide_eq_true c204, c195]; rfl) | (rw [m_stands_d hd, decide_eq_false (not_not_intro c204), c195]; rfl) | (rw [m_stands_d hd, c195]; rfl), rfl⟩⟩
        · replace c195 := b2i_1.mp c195
          refine ab_aload_n (pc := 198) dX4_stands_198 rfl rfl ?_
          refine ab_geti (pc := 199) dX4_stands_199 fX4_95 rfl rfl ?_
          refine ab_bipush (pc := 202) (v := 10) dX4_stands_202 (by decide) ?_
          refine ab_icmp_ge (pc := 204) 211 dX4_stands_204 (by decide) (fun c204 => ?_) (fun c204 => ?_)
          · refine ab_iconst (pc := 211) (v := 0) dX4_stands_211 (by decide) ?_
            exact ab_retz (pc := 212) dX4_stands_212 rfl rfl ⟨_, rfl, ⟨by first | (rw [m_stands_d hd, decide_eq_true c204, c195]; rfl) | (rw [m_stands_d hd, decide_eq_false (not_not_intro c204), c195]; rfl) | (rw [m_stands_d hd, c195]; rfl), rfl⟩⟩
          · refine ab_iconst (pc := 207) (v := 1) dX4_stands_207 (by decide) ?_
            refine ab_goto (pc := 208) 212 dX4_stands_208 (by decide) ?_
            exact ab_retz (pc := 212) dX4_stands_212 rfl rfl ⟨_, rfl, ⟨by first | (rw [m_stands_d hd, decide_eq_true c204, c195]; rfl) | (rw [m_stands_d hd, decide_eq_false (not_not_intro c204), c195]; rfl) | (rw [m_stands_d hd, c195]; rfl), rfl⟩⟩
      refine ab_tw_c 22 147 (by decide) (by decide) (fun s48 => ?_) (fun n48_22 => ?_)
      · refine ab_iload_n (pc := 147) dX4_stands_147 rfl rfl ?_
        refine ab_bipush (pc := 148) (v := 21) dX4_stands_148 (by decide) ?_
        refine ab_icmp_ne (pc := 150) 162 dX4_stands_150 (by decide) (fun c150 => ?_) (fun c150 => ?_)
        · refine ab_iconst (pc := 162) (v := 0) dX4_stands_162 (by decide) ?_
          exact ab_retz (pc := 163) dX4_stands_163 rfl rfl ⟨_, rfl, ⟨by simp [m_stands, s48, b2i, *], rfl⟩⟩
        · refine ab_iload (pc := 153) dX4_stands_153 rfl ?_
          refine ab_if_ne (pc := 155) 162 dX4_stands_155 (by decide) (fun c155 => ?_) (fun c155 => ?_)
          · refine ab_iconst (pc := 162) (v := 0) dX4_stands_162 (by decide) ?_
            exact ab_retz (pc := 163) dX4_stands_163 rfl rfl ⟨_, rfl, ⟨by simp [m_stands, s48, b2i, *], rfl⟩⟩
          · refine ab_iconst (pc := 158) (v := 1) dX4_stands_158 (by decide) ?_
            refine ab_goto (pc := 159) 163 dX4_stands_159 (by decide) ?_
            exact ab_retz (pc := 163) dX4_stands_163 rfl rfl ⟨_, rfl, ⟨by simp [m_stands, s48, b2i, *], rfl⟩⟩
      refine ab_tw_n 191 (by decide) ?_
      have hd : ¬ s = 11 ∧ ¬ s = 12 ∧ ¬ s = 22 ∧ ¬ s = 16 ∧ ¬ s = 17 ∧ ¬ s = 18 := by first | (rw [s48]; decide) | exact And.intro n48_11 (And.intro n48_12 (And.intro n48_22 (And.intro n48_16 (And.intro n48_17 n48_18))))
      refine ab_iload_n (pc := 191) dX4_stands_191 rfl rfl ?_
      refine ab_S1 (pc := 192) dX4_stands_192 msX4_98 rfl (kX4_opens) (ab_ki fun r192 h192 e192 => ?_)
      obtain ⟨rfl, rfl⟩ := And.intro e192.1.symm e192.2.symm
      refine ab_if_eq (pc := 195) 207 dX4_stands_195 (by decide) (fun c195 => ?_) (fun c195 => ?_)
      · replace c195 := b2i_0.mp c195
        refine ab_iconst (pc := 207) (v := 1) dX4_stands_207 (by decide) ?_
        refine ab_goto (pc := 208) 212 dX4_stands_208 (by decide) ?_
        exact ab_retz (pc := 212) dX4_stands_212 rfl rfl ⟨_, rfl, ⟨by first | (rw [m_stands_d hd, decide_eq_true c204, c195]; rfl) | (rw [m_stands_d hd, decide_eq_false (not_not_intro c204), c195]; rfl) | (rw [m_stands_d hd, c195]; rfl), rfl⟩⟩
      · replace c195 := b2i_1.mp c195
        refine ab_aload_n (pc := 198) dX4_stands_198 rfl rfl ?_
        refine ab_geti (pc := 199) dX4_stands_199 fX4_95 rfl rfl ?_
        refine ab_bipush (pc := 202) (v := 10) dX4_stands_202 (by decide) ?_
        refine ab_icmp_ge (pc := 204) 211 dX4_stands_204 (by decide) (fun c204 => ?_) (fun c204 => ?_)
        · refine ab_iconst (pc := 211) (v := 0) dX4_stands_211 (by decide) ?_
          exact ab_retz (pc := 212) dX4_stands_212 rfl rfl ⟨_, rfl, ⟨by first | (rw [m_stands_d hd, decide_eq_true c204, c195]; rfl) | (rw [m_stands_d hd, decide_eq_false (not_not_intro c204), c195]; rfl) | (rw [m_stands_d hd, c195]; rfl), rfl⟩⟩
        · refine ab_iconst (pc := 207) (v := 1) dX4_stands_207 (by decide) ?_
          refine ab_goto (pc := 208) 212 dX4_stands_208 (by decide) ?_
          exact ab_retz (pc := 212) dX4_stands_212 rfl rfl ⟨_, rfl, ⟨by first | (rw [m_stands_d hd, decide_eq_true c204, c195]; rfl) | (rw [m_stands_d hd, decide_eq_false (not_not_intro c204), c195]; rfl) | (rw [m_stands_d hd, c195]; rfl), rfl⟩⟩
    · refine ab_iconst (pc := 30) (v := 0) dX4_stands_30 (by decide) ?_
      refine ab_goto (pc := 31) 45 dX4_stands_31 (by decide) ?_
      refine ab_topi (y := m_pt h) (by first | rw [m_pt, if_pos c27] | rw [m_pt, if_neg c27]) ?_
      refine ab_istore (pc := 45) dX4_stands_45 rfl ?_
      refine ab_iload_n (pc := 47) dX4_stands_47 rfl rfl ?_
      refine ab_table (pc := 48) dX4_stands_48 (by decide) (by decide) (by decide) (by decide) ?_
      refine ab_tw_c 11 112 (by decide) (by decide) (fun s48 => ?_) (fun n48_11 => ?_)
      · refine ab_iload_n (pc := 112) dX4_stands_112 rfl rfl ?_
        refine ab_bipush (pc := 113) (v := 10) dX4_stands_113 (by decide) ?_
        refine ab_icmp_ne (pc := 115) 127 dX4_stands_115 (by decide) (fun c115 => ?_) (fun c115 => ?_)
        · refine ab_iconst (pc := 127) (v := 0) dX4_stands_127 (by decide) ?_
          exact ab_retz (pc := 128) dX4_stands_128 rfl rfl ⟨_, rfl, ⟨by simp [m_stands, s48, b2i, *], rfl⟩⟩
        · refine ab_iload (pc := 118) dX4_stands_118 rfl ?_
          refine ab_if_ne (pc := 120) 127 dX4_stands_120 (by decide) (fun c120 => ?_) (fun c120 => ?_)
          · refine ab_iconst (pc := 127) (v := 0) dX4_stands_127 (by decide) ?_
            exact ab_retz (pc := 128) dX4_stands_128 rfl rfl ⟨_, rfl, ⟨by simp [m_stands, s48, b2i, *], rfl⟩⟩
          · refine ab_iconst (pc := 123) (v := 1) dX4_stands_123 (by decide) ?_
            refine ab_goto (pc := 124) 128 dX4_stands_124 (by decide) ?_
            exact ab_retz (pc := 128) dX4_stands_128 rfl rfl ⟨_, rfl, ⟨by simp [m_stands, s48, b2i, *], rfl⟩⟩
      refine ab_tw_c 12 129 (by decide) (by decide) (fun s48 => ?_) (fun n48_12 => ?_)
      · refine ab_iload_n (pc := 129) dX4_stands_129 rfl rfl ?_
        refine ab_bipush (pc := 130) (v := 10) dX4_stands_130 (by decide) ?_
        refine ab_icmp_ne (pc := 132) 145 dX4_stands_132 (by decide) (fun c132 => ?_) (fun c132 => ?_)
        · refine ab_iconst (pc := 145) (v := 0) dX4_stands_145 (by decide) ?_
          exact ab_retz (pc := 146) dX4_stands_146 rfl rfl ⟨_, rfl, ⟨by simp [m_stands, s48, b2i, *], rfl⟩⟩
        · refine ab_iload (pc := 135) dX4_stands_135 rfl ?_
          refine ab_iconst (pc := 137) (v := 2) dX4_stands_137 (by decide) ?_
          refine ab_icmp_ge (pc := 138) 145 dX4_stands_138 (by decide) (fun c138 => ?_) (fun c138 => ?_)
          · refine ab_iconst (pc := 145) (v := 0) dX4_stands_145 (by decide) ?_
            exact ab_retz (pc := 146) dX4_stands_146 rfl rfl ⟨_, rfl, ⟨by simp [m_stands, s48, b2i, *], rfl⟩⟩
          · refine ab_iconst (pc := 141) (v := 1) dX4_stands_141 (by decide) ?_
            refine ab_goto (pc := 142) 146 dX4_stands_142 (by decide) ?_
            exact ab_retz (pc := 146) dX4_stands_146 rfl rfl ⟨_, rfl, ⟨by simp [m_stands, s48, b2i, *], rfl⟩⟩
      refine ab_tw_c 13 191 (by decide) (by decide) (fun s48 => ?_) (fun n48_13 => ?_)
      · have hd : ¬ s = 11 ∧ ¬ s = 12 ∧ ¬ s = 22 ∧ ¬ s = 16 ∧ ¬ s = 17 ∧ ¬ s = 18 := by first | (rw [s48]; decide) | exact And.intro n48_11 (And.intro n48_12 (And.intro n48_22 (And.intro n48_16 (And.intro n48_17 n48_18))))
        refine ab_iload_n (pc := 191) dX4_stands_191 rfl rfl ?_
        refine ab_S1 (pc := 192) dX4_stands_192 msX4_98 rfl (kX4_opens) (ab_ki fun r192 h192 e192 => ?_)
        obtain ⟨rfl, rfl⟩ := And.intro e192.1.symm e192.2.symm
        refine ab_if_eq (pc := 195) 207 dX4_stands_195 (by decide) (fun c195 => ?_) (fun c195 => ?_)
        · replace c195 := b2i_0.mp c195
          refine ab_iconst (pc := 207) (v := 1) dX4_stands_207 (by decide) ?_
          refine ab_goto (pc := 208) 212 dX4_stands_208 (by decide) ?_
          exact ab_retz (pc := 212) dX4_stands_212 rfl rfl ⟨_, rfl, ⟨by first | (rw [m_stands_d hd, decide_eq_true c204, c195]; rfl) | (rw [m_stands_d hd, decide_eq_false (not_not_intro c204), c195]; rfl) | (rw [m_stands_d hd, c195]; rfl), rfl⟩⟩
        · replace c195 := b2i_1.mp c195
          refine ab_aload_n (pc := 198) dX4_stands_198 rfl rfl ?_
          refine ab_geti (pc := 199) dX4_stands_199 fX4_95 rfl rfl ?_
          refine ab_bipush (pc := 202) (v := 10) dX4_stands_202 (by decide) ?_
          refine ab_icmp_ge (pc := 204) 211 dX4_stands_204 (by decide) (fun c204 => ?_) (fun c204 => ?_)
          · refine ab_iconst (pc := 211) (v := 0) dX4_stands_211 (by decide) ?_
            exact ab_retz (pc := 212) dX4_stands_212 rfl rfl ⟨_, rfl, ⟨by first | (rw [m_stands_d hd, decide_eq_true c204, c195]; rfl) | (rw [m_stands_d hd, decide_eq_false (not_not_intro c204), c195]; rfl) | (rw [m_stands_d hd, c195]; rfl), rfl⟩⟩
          · refine ab_iconst (pc := 207) (v := 1) dX4_stands_207 (by decide) ?_
            refine ab_goto (pc := 208) 212 dX4_stands_208 (by decide) ?_
            exact ab_retz (pc := 212) dX4_stands_212 rfl rfl ⟨_, rfl, ⟨by first | (rw [m_stands_d hd, decide_eq_true c204, c195]; rfl) | (rw [m_stands_d hd, decide_eq_false (not_not_intro c204), c195]; rfl) | (rw [m_stands_d hd, c195]; rfl), rfl⟩⟩
      refine ab_tw_c 14 191 (by decide) (by decide) (fun s48 => ?_) (fun n48_14 => ?_)
      · have hd : ¬ s = 11 ∧ ¬ s = 12 ∧ ¬ s = 22 ∧ ¬ s = 16 ∧ ¬ s = 17 ∧ ¬ s = 18 := by first | (rw [s48]; decide) | exact And.intro n48_11 (And.intro n48_12 (And.intro n48_22 (And.intro n48_16 (And.intro n48_17 n48_18))))
        refine ab_iload_n (pc := 191) dX4_stands_191 rfl rfl ?_
        refine ab_S1 (pc := 192) dX4_stands_192 msX4_98 rfl (kX4_opens) (ab_ki fun r192 h192 e192 => ?_)
        obtain ⟨rfl, rfl⟩ := And.intro e192.1.symm e192.2.symm
        refine ab_if_eq (pc := 195) 207 dX4_stands_195 (by decide) (fun c195 => ?_) (fun c195 => ?_)
        · replace c195 := b2i_0.mp c195
          refine ab_iconst (pc := 207) (v := 1) dX4_stands_207 (by decide) ?_
          refine ab_goto (pc := 208) 212 dX4_stands_208 (by decide) ?_
          exact ab_retz (pc := 212) dX4_stands_212 rfl rfl ⟨_, rfl, ⟨by first | (rw [m_stands_d hd, decide_eq_true c204, c195]; rfl) | (rw [m_stands_d hd, decide_eq_false (not_not_intro c204), c195]; rfl) | (rw [m_stands_d hd, c195]; rfl), rfl⟩⟩
        · replace c195 := b2i_1.mp c195
          refine ab_aload_n (pc := 198) dX4_stands_198 rfl rfl ?_
          refine ab_geti (pc := 199) dX4_stands_199 fX4_95 rfl rfl ?_
          refine ab_bipush (pc := 202) (v := 10) dX4_stands_202 (by decide) ?_
          refine ab_icmp_ge (pc := 204) 211 dX4_stands_204 (by decide) (fun c204 => ?_) (fun c204 => ?_)
          · refine ab_iconst (pc := 211) (v := 0) dX4_stands_211 (by decide) ?_
            exact ab_retz (pc := 212) dX4_stands_212 rfl rfl ⟨_, rfl, ⟨by first | (rw [m_stands_d hd, decide_eq_true c204, c195]; rfl) | (rw [m_stands_d hd, decide_eq_false (not_not_intro c204), c195]; rfl) | (rw [m_stands_d hd, c195]; rfl), rfl⟩⟩
          · refine ab_iconst (pc := 207) (v := 1) dX4_stands_207 (by decide) ?_
            refine ab_goto (pc := 208) 212 dX4_stands_208 (by decide) ?_
            exact ab_retz (pc := 212) dX4_stands_212 rfl rfl ⟨_, rfl, ⟨by first | (rw [m_stands_d hd, decide_eq_true c204, c195]; rfl) | (rw [m_stands_d hd, decide_eq_false (not_not_intro c204), c195]; rfl) | (rw [m_stands_d hd, c195]; rfl), rfl⟩⟩
      refine ab_tw_c 15 191 (by decide) (by decide) (fun s48 => ?_) (fun n48_15 => ?_)
      · have hd : ¬ s = 11 ∧ ¬ s = 12 ∧ ¬ s = 22 ∧ ¬ s = 16 ∧ ¬ s = 17 ∧ ¬ s = 18 := by first | (rw [s48]; decide) | exact And.intro n48_11 (And.intro n48_12 (And.intro n48_22 (And.intro n48_16 (And.intro n48_17 n48_18))))
        refine ab_iload_n (pc := 191) dX4_stands_191 rfl rfl ?_
        refine ab_S1 (pc := 192) dX4_stands_192 msX4_98 rfl (kX4_opens) (ab_ki fun r192 h192 e192 => ?_)
        obtain ⟨rfl, rfl⟩ := And.intro e192.1.symm e192.2.symm
        refine ab_if_eq (pc := 195) 207 dX4_stands_195 (by decide) (fun c195 => ?_) (fun c195 => ?_)
        · replace c195 := b2i_0.mp c195
          refine ab_iconst (pc := 207) (v := 1) dX4_stands_207 (by decide) ?_
          refine ab_goto (pc := 208) 212 dX4_stands_208 (by decide) ?_
          exact ab_retz (pc := 212) dX4_stands_212 rfl rfl ⟨_, rfl, ⟨by first | (rw [m_stands_d hd, decide_eq_true c204, c195]; rfl) | (rw [m_stands_d hd, decide_eq_false (not_not_intro c204), c195]; rfl) | (rw [m_stands_d hd, c195]; rfl), rfl⟩⟩
        · replace c195 := b2i_1.mp c195
          refine ab_aload_n (pc := 198) dX4_stands_198 rfl rfl ?_
          refine ab_geti (pc := 199) dX4_stands_199 fX4_95 rfl rfl ?_
          refine ab_bipush (pc := 202) (v := 10) dX4_stands_202 (by decide) ?_
          refine ab_icmp_ge (pc := 204) 211 dX4_stands_204 (by decide) (fun c204 => ?_) (fun c204 => ?_)
          · refine ab_iconst (pc := 211) (v := 0) dX4_stands_211 (by decide) ?_
            exact ab_retz (pc := 212) dX4_stands_212 rfl rfl ⟨_, rfl, ⟨by first | (rw [m_stands_d hd, decide_eq_true c204, c195]; rfl) | (rw [m_stands_d hd, decide_eq_false (not_not_intro c204), c195]; rfl) | (rw [m_stands_d hd, c195]; rfl), rfl⟩⟩
          · refine ab_iconst (pc := 207) (v := 1) dX4_stands_207 (by decide) ?_
            refine ab_goto (pc := 208) 212 dX4_stands_208 (by decide) ?_
            exact ab_retz (pc := 212) dX4_stands_212 rfl rfl ⟨_, rfl, ⟨by first | (rw [m_stands_d hd, decide_eq_true c204, c195]; rfl) | (rw [m_stands_d hd, decide_eq_false (not_not_intro c204), c195]; rfl) | (rw [m_stands_d hd, c195]; rfl), rfl⟩⟩
      refine ab_tw_c 16 164 (by decide) (by decide) (fun s48 => ?_) (fun n48_16 => ?_)
      · refine ab_aload_n (pc := 164) dX4_stands_164 rfl rfl ?_
        refine ab_geti (pc := 165) dX4_stands_165 fX4_95 rfl rfl ?_
        refine ab_if_le (pc := 168) 175 dX4_stands_168 (by decide) (fun c168 => ?_) (fun c168 => ?_)
        · refine ab_iconst (pc := 175) (v := 0) dX4_stands_175 (by decide) ?_
          exact ab_retz (pc := 176) dX4_stands_176 rfl rfl ⟨_, rfl, ⟨by simp [m_stands, s48, b2i, c168], rfl⟩⟩
        · refine ab_iconst (pc := 171) (v := 1) dX4_stands_171 (by decide) ?_
          refine ab_goto (pc := 172) 176 dX4_stands_172 (by decide) ?_
          exact ab_retz (pc := 176) dX4_stands_176 rfl rfl ⟨_, rfl, ⟨by simp [m_stands, s48, b2i, c168], rfl⟩⟩
      refine ab_tw_c 17 177 (by decide) (by decide) (fun s48 => ?_) (fun n48_17 => ?_)
      · refine ab_aload_n (pc := 177) dX4_stands_177 rfl rfl ?_
        refine ab_geti (pc := 178) dX4_stands_178 fX4_102 rfl rfl ?_
        refine ab_iload_n (pc := 181) dX4_stands_181 rfl rfl ?_
        refine ab_icmp_le (pc := 182) 189 dX4_stands_182 (by decide) (fun c182 => ?_) (fun c182 => ?_)
        · refine ab_iconst (pc := 189) (v := 0) dX4_stands_189 (by decide) ?_
          exact ab_retz (pc := 190) dX4_stands_190 rfl rfl ⟨_, rfl, ⟨by simp [m_stands, s48, b2i, *], rfl⟩⟩
        · refine ab_iconst (pc := 185) (v := 1) dX4_stands_185 (by decide) ?_
          refine ab_goto (pc := 186) 190 dX4_stands_186 (by decide) ?_
          exact ab_retz (pc := 190) dX4_stands_190 rfl rfl ⟨_, rfl, ⟨by simp [m_stands, s48, b2i, *], rfl⟩⟩
      refine ab_tw_c 18 177 (by decide) (by decide) (fun s48 => ?_) (fun n48_18 => ?_)
      · refine ab_aload_n (pc := 177) dX4_stands_177 rfl rfl ?_
        refine ab_geti (pc := 178) dX4_stands_178 fX4_102 rfl rfl ?_
        refine ab_iload_n (pc := 181) dX4_stands_181 rfl rfl ?_
        refine ab_icmp_le (pc := 182) 189 dX4_stands_182 (by decide) (fun c182 => ?_) (fun c182 => ?_)
        · refine ab_iconst (pc := 189) (v := 0) dX4_stands_189 (by decide) ?_
          exact ab_retz (pc := 190) dX4_stands_190 rfl rfl ⟨_, rfl, ⟨by simp [m_stands, s48, b2i, *], rfl⟩⟩
        · refine ab_iconst (pc := 185) (v := 1) dX4_stands_185 (by decide) ?_
          refine ab_goto (pc := 186) 190 dX4_stands_186 (by decide) ?_
          exact ab_retz (pc := 190) dX4_stands_190 rfl rfl ⟨_, rfl, ⟨by simp [m_stands, s48, b2i, *], rfl⟩⟩
      refine ab_tw_c 19 191 (by decide) (by decide) (fun s48 => ?_) (fun n48_19 => ?_)
      · have hd : ¬ s = 11 ∧ ¬ s = 12 ∧ ¬ s = 22 ∧ ¬ s = 16 ∧ ¬ s = 17 ∧ ¬ s = 18 := by first | (rw [s48]; decide) | exact And.intro n48_11 (And.intro n48_12 (And.intro n48_22 (And.intro n48_16 (And.intro n48_17 n48_18))))
        refine ab_iload_n (pc := 191) dX4_stands_191 rfl rfl ?_
        refine ab_S1 (pc := 192) dX4_stands_192 msX4_98 rfl (kX4_opens) (ab_ki fun r192 h192 e192 => ?_)
        obtain ⟨rfl, rfl⟩ := And.intro e192.1.symm e192.2.symm
        refine ab_if_eq (pc := 195) 207 dX4_stands_195 (by decide) (fun c195 => ?_) (fun c195 => ?_)
        · replace c195 := b2i_0.mp c195
          refine ab_iconst (pc := 207) (v := 1) dX4_stands_207 (by decide) ?_
          refine ab_goto (pc := 208) 212 dX4_stands_208 (by decide) ?_
          exact ab_retz (pc := 212) dX4_stands_212 rfl rfl ⟨_, rfl, ⟨by first | (rw [m_stands_d hd, decide_eq_true c204, c195]; rfl) | (rw [m_stands_d hd, decide_eq_false (not_not_intro c204), c195]; rfl) | (rw [m_stands_d hd, c195]; rfl), rfl⟩⟩
        · replace c195 := b2i_1.mp c195
          refine ab_aload_n (pc := 198) dX4_stands_198 rfl rfl ?_
          refine ab_geti (pc := 199) dX4_stands_199 fX4_95 rfl rfl ?_
          refine ab_bipush (pc := 202) (v := 10) dX4_stands_202 (by decide) ?_
          refine ab_icmp_ge (pc := 204) 211 dX4_stands_204 (by decide) (fun c204 => ?_) (fun c204 => ?_)
          · refine ab_iconst (pc := 211) (v := 0) dX4_stands_211 (by decide) ?_
            exact ab_retz (pc := 212) dX4_stands_212 rfl rfl ⟨_, rfl, ⟨by first | (rw [m_stands_d hd, decide_eq_true c204, c195]; rfl) | (rw [m_stands_d hd, decide_eq_false (not_not_intro c204), c195]; rfl) | (rw [m_stands_d hd, c195]; rfl), rfl⟩⟩
          · refine ab_iconst (pc := 207) (v := 1) dX4_stands_207 (by decide) ?_
            refine ab_goto (pc := 208) 212 dX4_stands_208 (by decide) ?_
            exact ab_retz (pc := 212) dX4_stands_212 rfl rfl ⟨_, rfl, ⟨by first | (rw [m_stands_d hd, decide_eq_true c204, c195]; rfl) | (rw [m_stands_d hd, decide_eq_false (not_not_intro c204), c195]; rfl) | (rw [m_stands_d hd, c195]; rfl), rfl⟩⟩
      refine ab_tw_c 20 191 (by decide) (by decide) (fun s48 => ?_) (fun n48_20 => ?_)
      · have hd : ¬ s = 11 ∧ ¬ s = 12 ∧ ¬ s = 22 ∧ ¬ s = 16 ∧ ¬ s = 17 ∧ ¬ s = 18 := by first | (rw [s48]; decide) | exact And.intro n48_11 (And.intro n48_12 (And.intro n48_22 (And.intro n48_16 (And.intro n48_17 n48_18))))
        refine ab_iload_n (pc := 191) dX4_stands_191 rfl rfl ?_
        refine ab_S1 (pc := 192) dX4_stands_192 msX4_98 rfl (kX4_opens) (ab_ki fun r192 h192 e192 => ?_)
        obtain ⟨rfl, rfl⟩ := And.intro e192.1.symm e192.2.symm
        refine ab_if_eq (pc := 195) 207 dX4_stands_195 (by decide) (fun c195 => ?_) (fun c195 => ?_)
        · replace c195 := b2i_0.mp c195
          refine ab_iconst (pc := 207) (v := 1) dX4_stands_207 (by decide) ?_
          refine ab_goto (pc := 208) 212 dX4_stands_208 (by decide) ?_
          exact ab_retz (pc := 212) dX4_stands_212 rfl rfl ⟨_, rfl, ⟨by first | (rw [m_stands_d hd, decide_eq_true c204, c195]; rfl) | (rw [m_stands_d hd, decide_eq_false (not_not_intro c204), c195]; rfl) | (rw [m_stands_d hd, c195]; rfl), rfl⟩⟩
        · replace c195 := b2i_1.mp c195
          refine ab_aload_n (pc := 198) dX4_stands_198 rfl rfl ?_
          refine ab_geti (pc := 199) dX4_stands_199 fX4_95 rfl rfl ?_
          refine ab_bipush (pc := 202) (v := 10) dX4_stands_202 (by decide) ?_
          refine ab_icmp_ge (pc := 204) 211 dX4_stands_204 (by decide) (fun c204 => ?_) (fun c204 => ?_)
          · refine ab_iconst (pc := 211) (v := 0) dX4_stands_211 (by decide) ?_
            exact ab_retz (pc := 212) dX4_stands_212 rfl rfl ⟨_, rfl, ⟨by first | (rw [m_stands_d hd, decide_eq_true c204, c195]; rfl) | (rw [m_stands_d hd, decide_eq_false (not_not_intro c204), c195]; rfl) | (rw [m_stands_d hd, c195]; rfl), rfl⟩⟩
          · refine ab_iconst (pc := 207) (v := 1) dX4_stands_207 (by decide) ?_
            refine ab_goto (pc := 208) 212 dX4_stands_208 (by decide) ?_
            exact ab_retz (pc := 212) dX4_stands_212 rfl rfl ⟨_, rfl, ⟨by first | (rw [m_stands_d hd, decide_eq_true c204, c195]; rfl) | (rw [m_stands_d hd, decide_eq_false (not_not_intro c204), c195]; rfl) | (rw [m_stands_d hd, c195]; rfl), rfl⟩⟩
      refine ab_tw_c 21 191 (by decide) (by decide) (fun s48 => ?_) (fun n48_21 => ?_)
      · have hd : ¬ s = 11 ∧ ¬ s = 12 ∧ ¬ s = 22 ∧ ¬ s = 16 ∧ ¬ s = 17 ∧ ¬ s = 18 := by first | (rw [s48]; decide) | exact And.intro n48_11 (And.intro n48_12 (And.intro n48_22 (And.intro n48_16 (And.intro n48_17 n48_18))))
        refine ab_iload_n (pc := 191) dX4_stands_191 rfl rfl ?_
        refine ab_S1 (pc := 192) dX4_stands_192 msX4_98 rfl (kX4_opens) (ab_ki fun r192 h192 e192 => ?_)
        obtain ⟨rfl, rfl⟩ := And.intro e192.1.symm e192.2.symm
        refine ab_if_eq (pc := 195) 207 dX4_stands_195 (by decide) (fun c195 => ?_) (fun c195 => ?_)
        · replace c195 := b2i_0.mp c195
          refine ab_iconst (pc := 207) (v := 1) dX4_stands_207 (by decide) ?_
          refine ab_goto (pc := 208) 212 dX4_stands_208 (by decide) ?_
          exact ab_retz (pc := 212) dX4_stands_212 rfl rfl ⟨_, rfl, ⟨by first | (rw [m_stands_d hd, decide_eq_true c204, c195]; rfl) | (rw [m_stands_d hd, decide_eq_false (not_not_intro c204), c195]; rfl) | (rw [m_stands_d hd, c195]; rfl), rfl⟩⟩
        · replace c195 := b2i_1.mp c195
          refine ab_aload_n (pc := 198) dX4_stands_198 rfl rfl ?_
          refine ab_geti (pc := 199) dX4_stands_199 fX4_95 rfl rfl ?_
          refine ab_bipush (pc := 202) (v := 10) dX4_stands_202 (by decide) ?_
          refine ab_icmp_ge (pc := 204) 211 dX4_stands_204 (by decide) (fun c204 => ?_) (fun c204 => ?_)
          · refine ab_iconst (pc := 211) (v := 0) dX4_stands_211 (by decide) ?_
            exact ab_retz (pc := 212) dX4_stands_212 rfl rfl ⟨_, rfl, ⟨by first | (rw [m_stands_d hd, decide_eq_true c204, c195]; rfl) | (rw [m_stands_d hd, decide_eq_false (not_not_intro c204), c195]; rfl) | (rw [m_stands_d hd, c195]; rfl), rfl⟩⟩
          · refine ab_iconst (pc := 207) (v := 1) dX4_stands_207 (by decide) ?_
            refine ab_goto (pc := 208) 212 dX4_stands_208 (by decide) ?_
            exact ab_retz (pc := 212) dX4_stands_212 rfl rfl ⟨_, rfl, ⟨by first | (rw [m_stands_d hd, decide_eq_true c204, c195]; rfl) | (rw [m_stands_d hd, decide_eq_false (not_not_intro c204), c195]; rfl) | (rw [m_stands_d hd, c195]; rfl), rfl⟩⟩
      refine ab_tw_c 22 147 (by decide) (by decide) (fun s48 => ?_) (fun n48_22 => ?_)
      · refine ab_iload_n (pc := 147) dX4_stands_147 rfl rfl ?_
        refine ab_bipush (pc := 148) (v := 21) dX4_stands_148 (by decide) ?_
        refine ab_icmp_ne (pc := 150) 162 dX4_stands_150 (by decide) (fun c150 => ?_) (fun c150 => ?_)
        · refine ab_iconst (pc := 162) (v := 0) dX4_stands_162 (by decide) ?_
          exact ab_retz (pc := 163) dX4_stands_163 rfl rfl ⟨_, rfl, ⟨by simp [m_stands, s48, b2i, *], rfl⟩⟩
        · refine ab_iload (pc := 153) dX4_stands_153 rfl ?_
          refine ab_if_ne (pc := 155) 162 dX4_stands_155 (by decide) (fun c155 => ?_) (fun c155 => ?_)
          · refine ab_iconst (pc := 162) (v := 0) dX4_stands_162 (by decide) ?_
            exact ab_retz (pc := 163) dX4_stands_163 rfl rfl ⟨_, rfl, ⟨by simp [m_stands, s48, b2i, *], rfl⟩⟩
          · refine ab_iconst (pc := 158) (v := 1) dX4_stands_158 (by decide) ?_
            refine ab_goto (pc := 159) 163 dX4_stands_159 (by decide) ?_
            exact ab_retz (pc := 163) dX4_stands_163 rfl rfl ⟨_, rfl, ⟨by simp [m_stands, s48, b2i, *], rfl⟩⟩
      refine ab_tw_n 191 (by decide) ?_
      have hd : ¬ s = 11 ∧ ¬ s = 12 ∧ ¬ s = 22 ∧ ¬ s = 16 ∧ ¬ s = 17 ∧ ¬ s = 18 := by first | (rw [s48]; decide) | exact And.intro n48_11 (And.intro n48_12 (And.intro n48_22 (And.intro n48_16 (And.intro n48_17 n48_18))))
      refine ab_iload_n (pc := 191) dX4_stands_191 rfl rfl ?_
      refine ab_S1 (pc := 192) dX4_stands_192 msX4_98 rfl (kX4_opens) (ab_ki fun r192 h192 e192 => ?_)
      obtain ⟨rfl, rfl⟩ := And.intro e192.1.symm e192.2.symm
      refine ab_if_eq (pc := 195) 207 dX4_stands_195 (by decide) (fun c195 => ?_) (fun c195 => ?_)
      · replace c195 := b2i_0.mp c195
        refine ab_iconst (pc := 207) (v := 1) dX4_stands_207 (by decide) ?_
        refine ab_goto (pc := 208) 212 dX4_stands_208 (by decide) ?_
        exact ab_retz (pc := 212) dX4_stands_212 rfl rfl ⟨_, rfl, ⟨by first | (rw [m_stands_d hd, decide_eq_true c204, c195]; rfl) | (rw [m_stands_d hd, decide_eq_false (not_not_intro c204), c195]; rfl) | (rw [m_stands_d hd, c195]; rfl), rfl⟩⟩
      · replace c195 := b2i_1.mp c195
        refine ab_aload_n (pc := 198) dX4_stands_198 rfl rfl ?_
        refine ab_geti (pc := 199) dX4_stands_199 fX4_95 rfl rfl ?_
        refine ab_bipush (pc := 202) (v := 10) dX4_stands_202 (by decide) ?_
        refine ab_icmp_ge (pc := 204) 211 dX4_stands_204 (by decide) (fun c204 => ?_) (fun c204 => ?_)
        · refine ab_iconst (pc := 211) (v := 0) dX4_stands_211 (by decide) ?_
          exact ab_retz (pc := 212) dX4_stands_212 rfl rfl ⟨_, rfl, ⟨by first | (rw [m_stands_d hd, decide_eq_true c204, c195]; rfl) | (rw [m_stands_d hd, decide_eq_false (not_not_intro c204), c195]; rfl) | (rw [m_stands_d hd, c195]; rfl), rfl⟩⟩
        · refine ab_iconst (pc := 207) (v := 1) dX4_stands_207 (by decide) ?_
          refine ab_goto (pc := 208) 212 dX4_stands_208 (by decide) ?_
          exact ab_retz (pc := 212) dX4_stands_212 rfl rfl ⟨_, rfl, ⟨by first | (rw [m_stands_d hd, decide_eq_true c204, c195]; rfl) | (rw [m_stands_d hd, decide_eq_false (not_not_intro c204), c195]; rfl) | (rw [m_stands_d hd, c195]; rfl), rfl⟩⟩
  · refine ab_iconst (pc := 7) (v := (-1)) dX4_stands_7 (by decide) ?_
    refine ab_goto (pc := 8) 22 dX4_stands_8 (by decide) ?_
    refine ab_topi (y := m_in h) (by first | rw [m_in, if_pos c4] | rw [m_in, if_neg c4]) ?_
    refine ab_istore_n (pc := 22) dX4_stands_22 rfl rfl ?_
    refine ab_aload_n (pc := 23) dX4_stands_23 rfl rfl ?_
    refine ab_geti (pc := 24) dX4_stands_24 fX4_95 rfl rfl ?_
    refine ab_if_ne (pc := 27) 34 dX4_stands_27 (by decide) (fun c27 => ?_) (fun c27 => ?_)
    · refine ab_aload_n (pc := 34) dX4_stands_34 rfl rfl ?_
      refine ab_getr (pc := 35) dX4_stands_35 fX4_77 rfl rfl ?_
      refine ab_aload_n (pc := 38) dX4_stands_38 rfl rfl ?_
      refine ab_geti (pc := 39) dX4_stands_39 fX4_95 rfl rfl ?_
      refine ab_iconst (pc := 42) (v := 1) dX4_stands_42 (by decide) ?_
      refine ab_isub (pc := 43) dX4_stands_43 ?_
      refine ab_iald (pc := 44) dX4_stands_44 rfl (ho (by assumption)) ?_
      refine ab_topi (y := m_pt h) (by first | rw [m_pt, if_pos c27] | rw [m_pt, if_neg c27]) ?_
      refine ab_istore (pc := 45) dX4_stands_45 rfl ?_
      refine ab_iload_n (pc := 47) dX4_stands_47 rfl rfl ?_
      refine ab_table (pc := 48) dX4_stands_48 (by decide) (by decide) (by decide) (by decide) ?_
      refine ab_tw_c 11 112 (by decide) (by decide) (fun s48 => ?_) (fun n48_11 => ?_)
      · refine ab_iload_n (pc := 112) dX4_stands_112 rfl rfl ?_
        refine ab_bipush (pc := 113) (v := 10) dX4_stands_113 (by decide) ?_
        refine ab_icmp_ne (pc := 115) 127 dX4_stands_115 (by decide) (fun c115 => ?_) (fun c115 => ?_)
        · refine ab_iconst (pc := 127) (v := 0) dX4_stands_127 (by decide) ?_
          exact ab_retz (pc := 128) dX4_stands_128 rfl rfl ⟨_, rfl, ⟨by simp [m_stands, s48, b2i, *], rfl⟩⟩
        · refine ab_iload (pc := 118) dX4_stands_118 rfl ?_
          refine ab_if_ne (pc := 120) 127 dX4_stands_120 (by decide) (fun c120 => ?_) (fun c120 => ?_)
          · refine ab_iconst (pc := 127) (v := 0) dX4_stands_127 (by decide) ?_
            exact ab_retz (pc := 128) dX4_stands_128 rfl rfl ⟨_, rfl, ⟨by simp [m_stands, s48, b2i, *], rfl⟩⟩
          · refine ab_iconst (pc := 123) (v := 1) dX4_stands_123 (by decide) ?_
            refine ab_goto (pc := 124) 128 dX4_stands_124 (by decide) ?_
            exact ab_retz (pc := 128) dX4_stands_128 rfl rfl ⟨_, rfl, ⟨by simp [m_stands, s48, b2i, *], rfl⟩⟩
      refine ab_tw_c 12 129 (by decide) (by decide) (fun s48 => ?_) (fun n48_12 => ?_)
      · refine ab_iload_n (pc := 129) dX4_stands_129 rfl rfl ?_
        refine ab_bipush (pc := 130) (v := 10) dX4_stands_130 (by decide) ?_
        refine ab_icmp_ne (pc := 132) 145 dX4_stands_132 (by decide) (fun c132 => ?_) (fun c132 => ?_)
        · refine ab_iconst (pc := 145) (v := 0) dX4_stands_145 (by decide) ?_
          exact ab_retz (pc := 146) dX4_stands_146 rfl rfl ⟨_, rfl, ⟨by simp [m_stands, s48, b2i, *], rfl⟩⟩
        · refine ab_iload (pc := 135) dX4_stands_135 rfl ?_
          refine ab_iconst (pc := 137) (v := 2) dX4_stands_137 (by decide) ?_
          refine ab_icmp_ge (pc := 138) 145 dX4_stands_138 (by decide) (fun c138 => ?_) (fun c138 => ?_)
          · refine ab_iconst (pc := 145) (v := 0) dX4_stands_145 (by decide) ?_
            exact ab_retz (pc := 146) dX4_stands_146 rfl rfl ⟨_, rfl, ⟨by simp [m_stands, s48, b2i, *], rfl⟩⟩
          · refine ab_iconst (pc := 141) (v := 1) dX4_stands_141 (by decide) ?_
            refine ab_goto (pc := 142) 146 dX4_stands_142 (by decide) ?_
            exact ab_retz (pc := 146) dX4_stands_146 rfl rfl ⟨_, rfl, ⟨by simp [m_stands, s48, b2i, *], rfl⟩⟩
      refine ab_tw_c 13 191 (by decide) (by decide) (fun s48 => ?_) (fun n48_13 => ?_)
      · have hd : ¬ s = 11 ∧ ¬ s = 12 ∧ ¬ s = 22 ∧ ¬ s = 16 ∧ ¬ s = 17 ∧ ¬ s = 18 := by first | (rw [s48]; decide) | exact And.intro n48_11 (And.intro n48_12 (And.intro n48_22 (And.intro n48_16 (And.intro n48_17 n48_18))))
        refine ab_iload_n (pc := 191) dX4_stands_191 rfl rfl ?_
        refine ab_S1 (pc := 192) dX4_stands_192 msX4_98 rfl (kX4_opens) (ab_ki fun r192 h192 e192 => ?_)
        obtain ⟨rfl, rfl⟩ := And.intro e192.1.symm e192.2.symm
        refine ab_if_eq (pc := 195) 207 dX4_stands_195 (by decide) (fun c195 => ?_) (fun c195 => ?_)
        · replace c195 := b2i_0.mp c195
          refine ab_iconst (pc := 207) (v := 1) dX4_stands_207 (by decide) ?_
          refine ab_goto (pc := 208) 212 dX4_stands_208 (by decide) ?_
          exact ab_retz (pc := 212) dX4_stands_212 rfl rfl ⟨_, rfl, ⟨by first | (rw [m_stands_d hd, decide_eq_true c204, c195]; rfl) | (rw [m_stands_d hd, decide_eq_false (not_not_intro c204), c195]; rfl) | (rw [m_stands_d hd, c195]; rfl), rfl⟩⟩
        · replace c195 := b2i_1.mp c195
          refine ab_aload_n (pc := 198) dX4_stands_198 rfl rfl ?_
          refine ab_geti (pc := 199) dX4_stands_199 fX4_95 rfl rfl ?_
          refine ab_bipush (pc := 202) (v := 10) dX4_stands_202 (by decide) ?_
          refine ab_icmp_ge (pc := 204) 211 dX4_stands_204 (by decide) (fun c204 => ?_) (fun c204 => ?_)
          · refine ab_iconst (pc := 211) (v := 0) dX4_stands_211 (by decide) ?_
            exact ab_retz (pc := 212) dX4_stands_212 rfl rfl ⟨_, rfl, ⟨by first | (rw [m_stands_d hd, decide_eq_true c204, c195]; rfl) | (rw [m_stands_d hd, decide_eq_false (not_not_intro c204), c195]; rfl) | (rw [m_stands_d hd, c195]; rfl), rfl⟩⟩
          · refine ab_iconst (pc := 207) (v := 1) dX4_stands_207 (by decide) ?_
            refine ab_goto (pc := 208) 212 dX4_stands_208 (by decide) ?_
            exact ab_retz (pc := 212) dX4_stands_212 rfl rfl ⟨_, rfl, ⟨by first | (rw [m_stands_d hd, decide_eq_true c204, c195]; rfl) | (rw [m_stands_d hd, decide_eq_false (not_not_intro c204), c195]; rfl) | (rw [m_stands_d hd, c195]; rfl), rfl⟩⟩
      refine ab_tw_c 14 191 (by decide) (by decide) (fun s48 => ?_) (fun n48_14 => ?_)
      · have hd : ¬ s = 11 ∧ ¬ s = 12 ∧ ¬ s = 22 ∧ ¬ s = 16 ∧ ¬ s = 17 ∧ ¬ s = 18 := by first | (rw [s48]; decide) | exact And.intro n48_11 (And.intro n48_12 (And.intro n48_22 (And.intro n48_16 (And.intro n48_17 n48_18))))
        refine ab_iload_n (pc := 191) dX4_stands_191 rfl rfl ?_
        refine ab_S1 (pc := 192) dX4_stands_192 msX4_98 rfl (kX4_opens) (ab_ki fun r192 h192 e192 => ?_)
        obtain ⟨rfl, rfl⟩ := And.intro e192.1.symm e192.2.symm
        refine ab_if_eq (pc := 195) 207 dX4_stands_195 (by decide) (fun c195 => ?_) (fun c195 => ?_)
        · replace c195 := b2i_0.mp c195
          refine ab_iconst (pc := 207) (v := 1) dX4_stands_207 (by decide) ?_
          refine ab_goto (pc := 208) 212 dX4_stands_208 (by decide) ?_
          exact ab_retz (pc := 212) dX4_stands_212 rfl rfl ⟨_, rfl, ⟨by first | (rw [m_stands_d hd, decide_eq_true c204, c195]; rfl) | (rw [m_stands_d hd, decide_eq_false (not_not_intro c204), c195]; rfl) | (rw [m_stands_d hd, c195]; rfl), rfl⟩⟩
        · replace c195 := b2i_1.mp c195
          refine ab_aload_n (pc := 198) dX4_stands_198 rfl rfl ?_
          refine ab_geti (pc := 199) dX4_stands_199 fX4_95 rfl rfl ?_
          refine ab_bipush (pc := 202) (v := 10) dX4_stands_202 (by decide) ?_
          refine ab_icmp_ge (pc := 204) 211 dX4_stands_204 (by decide) (fun c204 => ?_) (fun c204 => ?_)
          · refine ab_iconst (pc := 211) (v := 0) dX4_stands_211 (by decide) ?_
            exact ab_retz (pc := 212) dX4_stands_212 rfl rfl ⟨_, rfl, ⟨by first | (rw [m_stands_d hd, decide_eq_true c204, c195]; rfl) | (rw [m_stands_d hd, decide_eq_false (not_not_intro c204), c195]; rfl) | (rw [m_stands_d hd, c195]; rfl), rfl⟩⟩
          · refine ab_iconst (pc := 207) (v := 1) dX4_stands_207 (by decide) ?_
            refine ab_goto (pc := 208) 212 dX4_stands_208 (by decide) ?_
            exact ab_retz (pc := 212) dX4_stands_212 rfl rfl ⟨_, rfl, ⟨by first | (rw [m_stands_d hd, decide_eq_true c204, c195]; rfl) | (rw [m_stands_d hd, decide_eq_false (not_not_intro c204), c195]; rfl) | (rw [m_stands_d hd, c195]; rfl), rfl⟩⟩
      refine ab_tw_c 15 191 (by decide) (by decide) (fun s48 => ?_) (fun n48_15 => ?_)
      · have hd : ¬ s = 11 ∧ ¬ s = 12 ∧ ¬ s = 22 ∧ ¬ s = 16 ∧ ¬ s = 17 ∧ ¬ s = 18 := by first | (rw [s48]; decide) | exact And.intro n48_11 (And.intro n48_12 (And.intro n48_22 (And.intro n48_16 (And.intro n48_17 n48_18))))
        refine ab_iload_n (pc := 191) dX4_stands_191 rfl rfl ?_
        refine ab_S1 (pc := 192) dX4_stands_192 msX4_98 rfl (kX4_opens) (ab_ki fun r192 h192 e192 => ?_)
        obtain ⟨rfl, rfl⟩ := And.intro e192.1.symm e192.2.symm
        refine ab_if_eq (pc := 195) 207 dX4_stands_195 (by decide) (fun c195 => ?_) (fun c195 => ?_)
        · replace c195 := b2i_0.mp c195
          refine ab_iconst (pc := 207) (v := 1) dX4_stands_207 (by decide) ?_
          refine ab_goto (pc := 208) 212 dX4_stands_208 (by decide) ?_
          exact ab_retz (pc := 212) dX4_stands_212 rfl rfl ⟨_, rfl, ⟨by first | (rw [m_stands_d hd, decide_eq_true c204, c195]; rfl) | (rw [m_stands_d hd, decide_eq_false (not_not_intro c204), c195]; rfl) | (rw [m_stands_d hd, c195]; rfl), rfl⟩⟩
        · replace c195 := b2i_1.mp c195
          refine ab_aload_n (pc := 198) dX4_stands_198 rfl rfl ?_
          refine ab_geti (pc := 199) dX4_stands_199 fX4_95 rfl rfl ?_
          refine ab_bipush (pc := 202) (v := 10) dX4_stands_202 (by decide) ?_
          refine ab_icmp_ge (pc := 204) 211 dX4_stands_204 (by decide) (fun c204 => ?_) (fun c204 => ?_)
          · refine ab_iconst (pc := 211) (v := 0) dX4_stands_211 (by decide) ?_
            exact ab_retz (pc := 212) dX4_stands_212 rfl rfl ⟨_, rfl, ⟨by first | (rw [m_stands_d hd, decide_eq_true c204, c195]; rfl) | (rw [m_stands_d hd, decide_eq_false (not_not_intro c204), c195]; rfl) | (rw [m_stands_d hd, c195]; rfl), rfl⟩⟩
          · refine ab_iconst (pc := 207) (v := 1) dX4_stands_207 (by decide) ?_
            refine ab_goto (pc := 208) 212 dX4_stands_208 (by decide) ?_
            exact ab_retz (pc := 212) dX4_stands_212 rfl rfl ⟨_, rfl, ⟨by first | (rw [m_stands_d hd, decide_eq_true c204, c195]; rfl) | (rw [m_stands_d hd, decide_eq_false (not_not_intro c204), c195]; rfl) | (rw [m_stands_d hd, c195]; rfl), rfl⟩⟩
      refine ab_tw_c 16 164 (by decide) (by decide) (fun s48 => ?_) (fun n48_16 => ?_)
      · refine ab_aload_n (pc := 164) dX4_stands_164 rfl rfl ?_
        refine ab_geti (pc := 165) dX4_stands_165 fX4_95 rfl rfl ?_
        refine ab_if_le (pc := 168) 175 dX4_stands_168 (by decide) (fun c168 => ?_) (fun c168 => ?_)
        · refine ab_iconst (pc := 175) (v := 0) dX4_stands_175 (by decide) ?_
          exact ab_retz (pc := 176) dX4_stands_176 rfl rfl ⟨_, rfl, ⟨by simp [m_stands, s48, b2i, c168], rfl⟩⟩
        · refine ab_iconst (pc := 171) (v := 1) dX4_stands_171 (by decide) ?_
          refine ab_goto (pc := 172) 176 dX4_stands_172 (by decide) ?_
          exact ab_retz (pc := 176) dX4_stands_176 rfl rfl ⟨_, rfl, ⟨by simp [m_stands, s48, b2i, c168], rfl⟩⟩
      refine ab_tw_c 17 177 (by decide) (by decide) (fun s48 => ?_) (fun n48_17 => ?_)
      · refine ab_aload_n (pc := 177) dX4_stands_177 rfl rfl ?_
        refine ab_geti (pc := 178) dX4_stands_178 fX4_102 rfl rfl ?_
        refine ab_iload_n (pc := 181) dX4_stands_181 rfl rfl ?_
        refine ab_icmp_le (pc := 182) 189 dX4_stands_182 (by decide) (fun c182 => ?_) (fun c182 => ?_)
        · refine ab_iconst (pc := 189) (v := 0) dX4_stands_189 (by decide) ?_
          exact ab_retz (pc := 190) dX4_stands_190 rfl rfl ⟨_, rfl, ⟨by simp [m_stands, s48, b2i, *], rfl⟩⟩
        · refine ab_iconst (pc := 185) (v := 1) dX4_stands_185 (by decide) ?_
          refine ab_goto (pc := 186) 190 dX4_stands_186 (by decide) ?_
          exact ab_retz (pc := 190) dX4_stands_190 rfl rfl ⟨_, rfl, ⟨by simp [m_stands, s48, b2i, *], rfl⟩⟩
      refine ab_tw_c 18 177 (by decide) (by decide) (fun s48 => ?_) (fun n48_18 => ?_)
      · refine ab_aload_n (pc := 177) dX4_stands_177 rfl rfl ?_
        refine ab_geti (pc := 178) dX4_stands_178 fX4_102 rfl rfl ?_
        refine ab_iload_n (pc := 181) dX4_stands_181 rfl rfl ?_
        refine ab_icmp_le (pc := 182) 189 dX4_stands_182 (by decide) (fun c182 => ?_) (fun c182 => ?_)
        · refine ab_iconst (pc := 189) (v := 0) dX4_stands_189 (by decide) ?_
          exact ab_retz (pc := 190) dX4_stands_190 rfl rfl ⟨_, rfl, ⟨by simp [m_stands, s48, b2i, *], rfl⟩⟩
        · refine ab_iconst (pc := 185) (v := 1) dX4_stands_185 (by decide) ?_
          refine ab_goto (pc := 186) 190 dX4_stands_186 (by decide) ?_
          exact ab_retz (pc := 190) dX4_stands_190 rfl rfl ⟨_, rfl, ⟨by simp [m_stands, s48, b2i, *], rfl⟩⟩
      refine ab_tw_c 19 191 (by decide) (by decide) (fun s48 => ?_) (fun n48_19 => ?_)
      · have hd : ¬ s = 11 ∧ ¬ s = 12 ∧ ¬ s = 22 ∧ ¬ s = 16 ∧ ¬ s = 17 ∧ ¬ s = 18 := by first | (rw [s48]; decide) | exact And.intro n48_11 (And.intro n48_12 (And.intro n48_22 (And.intro n48_16 (And.intro n48_17 n48_18))))
        refine ab_iload_n (pc := 191) dX4_stands_191 rfl rfl ?_
        refine ab_S1 (pc := 192) dX4_stands_192 msX4_98 rfl (kX4_opens) (ab_ki fun r192 h192 e192 => ?_)
        obtain ⟨rfl, rfl⟩ := And.intro e192.1.symm e192.2.symm
        refine ab_if_eq (pc := 195) 207 dX4_stands_195 (by decide) (fun c195 => ?_) (fun c195 => ?_)
        · replace c195 := b2i_0.mp c195
          refine ab_iconst (pc := 207) (v := 1) dX4_stands_207 (by decide) ?_
          refine ab_goto (pc := 208) 212 dX4_stands_208 (by decide) ?_
          exact ab_retz (pc := 212) dX4_stands_212 rfl rfl ⟨_, rfl, ⟨by first | (rw [m_stands_d hd, decide_eq_true c204, c195]; rfl) | (rw [m_stands_d hd, decide_eq_false (not_not_intro c204), c195]; rfl) | (rw [m_stands_d hd, c195]; rfl), rfl⟩⟩
        · replace c195 := b2i_1.mp c195
          refine ab_aload_n (pc := 198) dX4_stands_198 rfl rfl ?_
          refine ab_geti (pc := 199) dX4_stands_199 fX4_95 rfl rfl ?_
          refine ab_bipush (pc := 202) (v := 10) dX4_stands_202 (by decide) ?_
          refine ab_icmp_ge (pc := 204) 211 dX4_stands_204 (by decide) (fun c204 => ?_) (fun c204 => ?_)
          · refine ab_iconst (pc := 211) (v := 0) dX4_stands_211 (by decide) ?_
            exact ab_retz (pc := 212) dX4_stands_212 rfl rfl ⟨_, rfl, ⟨by first | (rw [m_stands_d hd, decide_eq_true c204, c195]; rfl) | (rw [m_stands_d hd, decide_eq_false (not_not_intro c204), c195]; rfl) | (rw [m_stands_d hd, c195]; rfl), rfl⟩⟩
          · refine ab_iconst (pc := 207) (v := 1) dX4_stands_207 (by decide) ?_
            refine ab_goto (pc := 208) 212 dX4_stands_208 (by decide) ?_
            exact ab_retz (pc := 212) dX4_stands_212 rfl rfl ⟨_, rfl, ⟨by first | (rw [m_stands_d hd, decide_eq_true c204, c195]; rfl) | (rw [m_stands_d hd, decide_eq_false (not_not_intro c204), c195]; rfl) | (rw [m_stands_d hd, c195]; rfl), rfl⟩⟩
      refine ab_tw_c 20 191 (by decide) (by decide) (fun s48 => ?_) (fun n48_20 => ?_)
      · have hd : ¬ s = 11 ∧ ¬ s = 12 ∧ ¬ s = 22 ∧ ¬ s = 16 ∧ ¬ s = 17 ∧ ¬ s = 18 := by first | (rw [s48]; decide) | exact And.intro n48_11 (And.intro n48_12 (And.intro n48_22 (And.intro n48_16 (And.intro n48_17 n48_18))))
        refine ab_iload_n (pc := 191) dX4_stands_191 rfl rfl ?_
        refine ab_S1 (pc := 192) dX4_stands_192 msX4_98 rfl (kX4_opens) (ab_ki fun r192 h192 e192 => ?_)
        obtain ⟨rfl, rfl⟩ := And.intro e192.1.symm e192.2.symm
        refine ab_if_eq (pc := 195) 207 dX4_stands_195 (by decide) (fun c195 => ?_) (fun c195 => ?_)
        · replace c195 := b2i_0.mp c195
          refine ab_iconst (pc := 207) (v := 1) dX4_stands_207 (by decide) ?_
          refine ab_goto (pc := 208) 212 dX4_stands_208 (by decide) ?_
          exact ab_retz (pc := 212) dX4_stands_212 rfl rfl ⟨_, rfl, ⟨by first | (rw [m_stands_d hd, decide_eq_true c204, c195]; rfl) | (rw [m_stands_d hd, decide_eq_false (not_not_intro c204), c195]; rfl) | (rw [m_stands_d hd, c195]; rfl), rfl⟩⟩
        · replace c195 := b2i_1.mp c195
          refine ab_aload_n (pc := 198) dX4_stands_198 rfl rfl ?_
          refine ab_geti (pc := 199) dX4_stands_199 fX4_95 rfl rfl ?_
          refine ab_bipush (pc := 202) (v := 10) dX4_stands_202 (by decide) ?_
          refine ab_icmp_ge (pc := 204) 211 dX4_stands_204 (by decide) (fun c204 => ?_) (fun c204 => ?_)
          · refine ab_iconst (pc := 211) (v := 0) dX4_stands_211 (by decide) ?_
            exact ab_retz (pc := 212) dX4_stands_212 rfl rfl ⟨_, rfl, ⟨by first | (rw [m_stands_d hd, decide_eq_true c204, c195]; rfl) | (rw [m_stands_d hd, decide_eq_false (not_not_intro c204), c195]; rfl) | (rw [m_stands_d hd, c195]; rfl), rfl⟩⟩
          · refine ab_iconst (pc := 207) (v := 1) dX4_stands_207 (by decide) ?_
            refine ab_goto (pc := 208) 212 dX4_stands_208 (by decide) ?_
            exact ab_retz (pc := 212) dX4_stands_212 rfl rfl ⟨_, rfl, ⟨by first | (rw [m_stands_d hd, decide_eq_true c204, c195]; rfl) | (rw [m_stands_d hd, decide_eq_false (not_not_intro c204), c195]; rfl) | (rw [m_stands_d hd, c195]; rfl), rfl⟩⟩
      refine ab_tw_c 21 191 (by decide) (by decide) (fun s48 => ?_) (fun n48_21 => ?_)
      · have hd : ¬ s = 11 ∧ ¬ s = 12 ∧ ¬ s = 22 ∧ ¬ s = 16 ∧ ¬ s = 17 ∧ ¬ s = 18 := by first | (rw [s48]; decide) | exact And.intro n48_11 (And.intro n48_12 (And.intro n48_22 (And.intro n48_16 (And.intro n48_17 n48_18))))
        refine ab_iload_n (pc := 191) dX4_stands_191 rfl rfl ?_
        refine ab_S1 (pc := 192) dX4_stands_192 msX4_98 rfl (kX4_opens) (ab_ki fun r192 h192 e192 => ?_)
        obtain ⟨rfl, rfl⟩ := And.intro e192.1.symm e192.2.symm
        refine ab_if_eq (pc := 195) 207 dX4_stands_195 (by decide) (fun c195 => ?_) (fun c195 => ?_)
        · replace c195 := b2i_0.mp c195
          refine ab_iconst (pc := 207) (v := 1) dX4_stands_207 (by decide) ?_
          refine ab_goto (pc := 208) 212 dX4_stands_208 (by decide) ?_
          exact ab_retz (pc := 212) dX4_stands_212 rfl rfl ⟨_, rfl, ⟨by first | (rw [m_stands_d hd, decide_eq_true c204, c195]; rfl) | (rw [m_stands_d hd, decide_eq_false (not_not_intro c204), c195]; rfl) | (rw [m_stands_d hd, c195]; rfl), rfl⟩⟩
        · replace c195 := b2i_1.mp c195
          refine ab_aload_n (pc := 198) dX4_stands_198 rfl rfl ?_
          refine ab_geti (pc := 199) dX4_stands_199 fX4_95 rfl rfl ?_
          refine ab_bipush (pc := 202) (v := 10) dX4_stands_202 (by decide) ?_
          refine ab_icmp_ge (pc := 204) 211 dX4_stands_204 (by decide) (fun c204 => ?_) (fun c204 => ?_)
          · refine ab_iconst (pc := 211) (v := 0) dX4_stands_211 (by decide) ?_
            exact ab_retz (pc := 212) dX4_stands_212 rfl rfl ⟨_, rfl, ⟨by first | (rw [m_stands_d hd, decide_eq_true c204, c195]; rfl) | (rw [m_stands_d hd, decide_eq_false (not_not_intro c204), c195]; rfl) | (rw [m_stands_d hd, c195]; rfl), rfl⟩⟩
          · refine ab_iconst (pc := 207) (v := 1) dX4_stands_207 (by decide) ?_
            refine ab_goto (pc := 208) 212 dX4_stands_208 (by decide) ?_
            exact ab_retz (pc := 212) dX4_stands_212 rfl rfl ⟨_, rfl, ⟨by first | (rw [m_stands_d hd, decide_eq_true c204, c195]; rfl) | (rw [m_stands_d hd, decide_eq_false (not_not_intro c204), c195]; rfl) | (rw [m_stands_d hd, c195]; rfl), rfl⟩⟩
      refine ab_tw_c 22 147 (by decide) (by decide) (fun s48 => ?_) (fun n48_22 => ?_)
      · refine ab_iload_n (pc := 147) dX4_stands_147 rfl rfl ?_
        refine ab_bipush (pc := 148) (v := 21) dX4_stands_148 (by decide) ?_
        refine ab_icmp_ne (pc := 150) 162 dX4_stands_150 (by decide) (fun c150 => ?_) (fun c150 => ?_)
        · refine ab_iconst (pc := 162) (v := 0) dX4_stands_162 (by decide) ?_
          exact ab_retz (pc := 163) dX4_stands_163 rfl rfl ⟨_, rfl, ⟨by simp [m_stands, s48, b2i, *], rfl⟩⟩
        · refine ab_iload (pc := 153) dX4_stands_153 rfl ?_
          refine ab_if_ne (pc := 155) 162 dX4_stands_155 (by decide) (fun c155 => ?_) (fun c155 => ?_)
          · refine ab_iconst (pc := 162) (v := 0) dX4_stands_162 (by decide) ?_
            exact ab_retz (pc := 163) dX4_stands_163 rfl rfl ⟨_, rfl, ⟨by simp [m_stands, s48, b2i, *], rfl⟩⟩
          · refine ab_iconst (pc := 158) (v := 1) dX4_stands_158 (by decide) ?_
            refine ab_goto (pc := 159) 163 dX4_stands_159 (by decide) ?_
            exact ab_retz (pc := 163) dX4_stands_163 rfl rfl ⟨_, rfl, ⟨by simp [m_stands, s48, b2i, *], rfl⟩⟩
      refine ab_tw_n 191 (by decide) ?_
      have hd : ¬ s = 11 ∧ ¬ s = 12 ∧ ¬ s = 22 ∧ ¬ s = 16 ∧ ¬ s = 17 ∧ ¬ s = 18 := by first | (rw [s48]; decide) | exact And.intro n48_11 (And.intro n48_12 (And.intro n48_22 (And.intro n48_16 (And.intro n48_17 n48_18))))
      refine ab_iload_n (pc := 191) dX4_stands_191 rfl rfl ?_
      refine ab_S1 (pc := 192) dX4_stands_192 msX4_98 rfl (kX4_opens) (ab_ki fun r192 h192 e192 => ?_)
      obtain ⟨rfl, rfl⟩ := And.intro e192.1.symm e192.2.symm
      refine ab_if_eq (pc := 195) 207 dX4_stands_195 (by decide) (fun c195 => ?_) (fun c195 => ?_)
      · replace c195 := b2i_0.mp c195
        refine ab_iconst (pc := 207) (v := 1) dX4_stands_207 (by decide) ?_
        refine ab_goto (pc := 208) 212 dX4_stands_208 (by decide) ?_
        exact ab_retz (pc := 212) dX4_stands_212 rfl rfl ⟨_, rfl, ⟨by first | (rw [m_stands_d hd, decide_eq_true c204, c195]; rfl) | (rw [m_stands_d hd, decide_eq_false (not_not_intro c204), c195]; rfl) | (rw [m_stands_d hd, c195]; rfl), rfl⟩⟩
      · replace c195 := b2i_1.mp c195
        refine ab_aload_n (pc := 198) dX4_stands_198 rfl rfl ?_
        refine ab_geti (pc := 199) dX4_stands_199 fX4_95 rfl rfl ?_
        refine ab_bipush (pc := 202) (v := 10) dX4_stands_202 (by decide) ?_
        refine ab_icmp_ge (pc := 204) 211 dX4_stands_204 (by decide) (fun c204 => ?_) (fun c204 => ?_)
        · refine ab_iconst (pc := 211) (v := 0) dX4_stands_211 (by decide) ?_
          exact ab_retz (pc := 212) dX4_stands_212 rfl rfl ⟨_, rfl, ⟨by first | (rw [m_stands_d hd, decide_eq_true c204, c195]; rfl) | (rw [m_stands_d hd, decide_eq_false (not_not_intro c204), c195]; rfl) | (rw [m_stands_d hd, c195]; rfl), rfl⟩⟩
        · refine ab_iconst (pc := 207) (v := 1) dX4_stands_207 (by decide) ?_
          refine ab_goto (pc := 208) 212 dX4_stands_208 (by decide) ?_
          exact ab_retz (pc := 212) dX4_stands_212 rfl rfl ⟨_, rfl, ⟨by first | (rw [m_stands_d hd, decide_eq_true c204, c195]; rfl) | (rw [m_stands_d hd, decide_eq_false (not_not_intro c204), c195]; rfl) | (rw [m_stands_d hd, c195]; rfl), rfl⟩⟩
    · refine ab_iconst (pc := 30) (v := 0) dX4_stands_30 (by decide) ?_
      refine ab_goto (pc := 31) 45 dX4_stands_31 (by decide) ?_
      refine ab_topi (y := m_pt h) (by first | rw [m_pt, if_pos c27] | rw [m_pt, if_neg c27]) ?_
      refine ab_istore (pc := 45) dX4_stands_45 rfl ?_
      refine ab_iload_n (pc := 47) dX4_stands_47 rfl rfl ?_
      refine ab_table (pc := 48) dX4_stands_48 (by decide) (by decide) (by decide) (by decide) ?_
      refine ab_tw_c 11 112 (by decide) (by decide) (fun s48 => ?_) (fun n48_11 => ?_)
      · refine ab_iload_n (pc := 112) dX4_stands_112 rfl rfl ?_
        refine ab_bipush (pc := 113) (v := 10) dX4_stands_113 (by decide) ?_
        refine ab_icmp_ne (pc := 115) 127 dX4_stands_115 (by decide) (fun c115 => ?_) (fun c115 => ?_)
        · refine ab_iconst (pc := 127) (v := 0) dX4_stands_127 (by decide) ?_
          exact ab_retz (pc := 128) dX4_stands_128 rfl rfl ⟨_, rfl, ⟨by simp [m_stands, s48, b2i, *], rfl⟩⟩
        · refine ab_iload (pc := 118) dX4_stands_118 rfl ?_
          refine ab_if_ne (pc := 120) 127 dX4_stands_120 (by decide) (fun c120 => ?_) (fun c120 => ?_)
          · refine ab_iconst (pc := 127) (v := 0) dX4_stands_127 (by decide) ?_
            exact ab_retz (pc := 128) dX4_stands_128 rfl rfl ⟨_, rfl, ⟨by simp [m_stands, s48, b2i, *], rfl⟩⟩
          · refine ab_iconst (pc := 123) (v := 1) dX4_stands_123 (by decide) ?_
            refine ab_goto (pc := 124) 128 dX4_stands_124 (by decide) ?_
            exact ab_retz (pc := 128) dX4_stands_128 rfl rfl ⟨_, rfl, ⟨by simp [m_stands, s48, b2i, *], rfl⟩⟩
      refine ab_tw_c 12 129 (by decide) (by decide) (fun s48 => ?_) (fun n48_12 => ?_)
      · refine ab_iload_n (pc := 129) dX4_stands_129 rfl rfl ?_
        refine ab_bipush (pc := 130) (v := 10) dX4_stands_130 (by decide) ?_
        refine ab_icmp_ne (pc := 132) 145 dX4_stands_132 (by decide) (fun c132 => ?_) (fun c132 => ?_)
        · refine ab_iconst (pc := 145) (v := 0) dX4_stands_145 (by decide) ?_
          exact ab_retz (pc := 146) dX4_stands_146 rfl rfl ⟨_, rfl, ⟨by simp [m_stands, s48, b2i, *], rfl⟩⟩
        · refine ab_iload (pc := 135) dX4_stands_135 rfl ?_
          refine ab_iconst (pc := 137) (v := 2) dX4_stands_137 (by decide) ?_
          refine ab_icmp_ge (pc := 138) 145 dX4_stands_138 (by decide) (fun c138 => ?_) (fun c138 => ?_)
          · refine ab_iconst (pc := 145) (v := 0) dX4_stands_145 (by decide) ?_
            exact ab_retz (pc := 146) dX4_stands_146 rfl rfl ⟨_, rfl, ⟨by simp [m_stands, s48, b2i, *], rfl⟩⟩
          · refine ab_iconst (pc := 141) (v := 1) dX4_stands_141 (by decide) ?_
            refine ab_goto (pc := 142) 146 dX4_stands_142 (by decide) ?_
            exact ab_retz (pc := 146) dX4_stands_146 rfl rfl ⟨_, rfl, ⟨by simp [m_stands, s48, b2i, *], rfl⟩⟩
      refine ab_tw_c 13 191 (by decide) (by decide) (fun s48 => ?_) (fun n48_13 => ?_)
      · have hd : ¬ s = 11 ∧ ¬ s = 12 ∧ ¬ s = 22 ∧ ¬ s = 16 ∧ ¬ s = 17 ∧ ¬ s = 18 := by first | (rw [s48]; decide) | exact And.intro n48_11 (And.intro n48_12 (And.intro n48_22 (And.intro n48_16 (And.intro n48_17 n48_18))))
        refine ab_iload_n (pc := 191) dX4_stands_191 rfl rfl ?_
        refine ab_S1 (pc := 192) dX4_stands_192 msX4_98 rfl (kX4_opens) (ab_ki fun r192 h192 e192 => ?_)
        obtain ⟨rfl, rfl⟩ := And.intro e192.1.symm e192.2.symm
        refine ab_if_eq (pc := 195) 207 dX4_stands_195 (by decide) (fun c195 => ?_) (fun c195 => ?_)
        · replace c195 := b2i_0.mp c195
          refine ab_iconst (pc := 207) (v := 1) dX4_stands_207 (by decide) ?_
          refine ab_goto (pc := 208) 212 dX4_stands_208 (by decide) ?_
          exact ab_retz (pc := 212) dX4_stands_212 rfl rfl ⟨_, rfl, ⟨by first | (rw [m_stands_d hd, decide_eq_true c204, c195]; rfl) | (rw [m_stands_d hd, decide_eq_false (not_not_intro c204), c195]; rfl) | (rw [m_stands_d hd, c195]; rfl), rfl⟩⟩
        · replace c195 := b2i_1.mp c195
          refine ab_aload_n (pc := 198) dX4_stands_198 rfl rfl ?_
          refine ab_geti (pc := 199) dX4_stands_199 fX4_95 rfl rfl ?_
          refine ab_bipush (pc := 202) (v := 10) dX4_stands_202 (by decide) ?_
          refine ab_icmp_ge (pc := 204) 211 dX4_stands_204 (by decide) (fun c204 => ?_) (fun c204 => ?_)
          · refine ab_iconst (pc := 211) (v := 0) dX4_stands_211 (by decide) ?_
            exact ab_retz (pc := 212) dX4_stands_212 rfl rfl ⟨_, rfl, ⟨by first | (rw [m_stands_d hd, decide_eq_true c204, c195]; rfl) | (rw [m_stands_d hd, decide_eq_false (not_not_intro c204), c195]; rfl) | (rw [m_stands_d hd, c195]; rfl), rfl⟩⟩
          · refine ab_iconst (pc := 207) (v := 1) dX4_stands_207 (by decide) ?_
            refine ab_goto (pc := 208) 212 dX4_stands_208 (by decide) ?_
            exact ab_retz (pc := 212) dX4_stands_212 rfl rfl ⟨_, rfl, ⟨by first | (rw [m_stands_d hd, decide_eq_true c204, c195]; rfl) | (rw [m_stands_d hd, decide_eq_false (not_not_intro c204), c195]; rfl) | (rw [m_stands_d hd, c195]; rfl), rfl⟩⟩
      refine ab_tw_c 14 191 (by decide) (by decide) (fun s48 => ?_) (fun n48_14 => ?_)
      · have hd : ¬ s = 11 ∧ ¬ s = 12 ∧ ¬ s = 22 ∧ ¬ s = 16 ∧ ¬ s = 17 ∧ ¬ s = 18 := by first | (rw [s48]; decide) | exact And.intro n48_11 (And.intro n48_12 (And.intro n48_22 (And.intro n48_16 (And.intro n48_17 n48_18))))
        refine ab_iload_n (pc := 191) dX4_stands_191 rfl rfl ?_
        refine ab_S1 (pc := 192) dX4_stands_192 msX4_98 rfl (kX4_opens) (ab_ki fun r192 h192 e192 => ?_)
        obtain ⟨rfl, rfl⟩ := And.intro e192.1.symm e192.2.symm
        refine ab_if_eq (pc := 195) 207 dX4_stands_195 (by decide) (fun c195 => ?_) (fun c195 => ?_)
        · replace c195 := b2i_0.mp c195
          refine ab_iconst (pc := 207) (v := 1) dX4_stands_207 (by decide) ?_
          refine ab_goto (pc := 208) 212 dX4_stands_208 (by decide) ?_
          exact ab_retz (pc := 212) dX4_stands_212 rfl rfl ⟨_, rfl, ⟨by first | (rw [m_stands_d hd, decide_eq_true c204, c195]; rfl) | (rw [m_stands_d hd, decide_eq_false (not_not_intro c204), c195]; rfl) | (rw [m_stands_d hd, c195]; rfl), rfl⟩⟩
        · replace c195 := b2i_1.mp c195
          refine ab_aload_n (pc := 198) dX4_stands_198 rfl rfl ?_
          refine ab_geti (pc := 199) dX4_stands_199 fX4_95 rfl rfl ?_
          refine ab_bipush (pc := 202) (v := 10) dX4_stands_202 (by decide) ?_
          refine ab_icmp_ge (pc := 204) 211 dX4_stands_204 (by decide) (fun c204 => ?_) (fun c204 => ?_)
          · refine ab_iconst (pc := 211) (v := 0) dX4_stands_211 (by decide) ?_
            exact ab_retz (pc := 212) dX4_stands_212 rfl rfl ⟨_, rfl, ⟨by first | (rw [m_stands_d hd, decide_eq_true c204, c195]; rfl) | (rw [m_stands_d hd, decide_eq_false (not_not_intro c204), c195]; rfl) | (rw [m_stands_d hd, c195]; rfl), rfl⟩⟩
          · refine ab_iconst (pc := 207) (v := 1) dX4_stands_207 (by decide) ?_
            refine ab_goto (pc := 208) 212 dX4_stands_208 (by decide) ?_
            exact ab_retz (pc := 212) dX4_stands_212 rfl rfl ⟨_, rfl, ⟨by first | (rw [m_stands_d hd, decide_eq_true c204, c195]; rfl) | (rw [m_stands_d hd, decide_eq_false (not_not_intro c204), c195]; rfl) | (rw [m_stands_d hd, c195]; rfl), rfl⟩⟩
      refine ab_tw_c 15 191 (by decide) (by decide) (fun s48 => ?_) (fun n48_15 => ?_)
      · have hd : ¬ s = 11 ∧ ¬ s = 12 ∧ ¬ s = 22 ∧ ¬ s = 16 ∧ ¬ s = 17 ∧ ¬ s = 18 := by first | (rw [s48]; decide) | exact And.intro n48_11 (And.intro n48_12 (And.intro n48_22 (And.intro n48_16 (And.intro n48_17 n48_18))))
        refine ab_iload_n (pc := 191) dX4_stands_191 rfl rfl ?_
        refine ab_S1 (pc := 192) dX4_stands_192 msX4_98 rfl (kX4_opens) (ab_ki fun r192 h192 e192 => ?_)
        obtain ⟨rfl, rfl⟩ := And.intro e192.1.symm e192.2.symm
        refine ab_if_eq (pc := 195) 207 dX4_stands_195 (by decide) (fun c195 => ?_) (fun c195 => ?_)
        · replace c195 := b2i_0.mp c195
          refine ab_iconst (pc := 207) (v := 1) dX4_stands_207 (by decide) ?_
          refine ab_goto (pc := 208) 212 dX4_stands_208 (by decide) ?_
          exact ab_retz (pc := 212) dX4_stands_212 rfl rfl ⟨_, rfl, ⟨by first | (rw [m_stands_d hd, decide_eq_true c204, c195]; rfl) | (rw [m_stands_d hd, decide_eq_false (not_not_intro c204), c195]; rfl) | (rw [m_stands_d hd, c195]; rfl), rfl⟩⟩
        · replace c195 := b2i_1.mp c195
          refine ab_aload_n (pc := 198) dX4_stands_198 rfl rfl ?_
          refine ab_geti (pc := 199) dX4_stands_199 fX4_95 rfl rfl ?_
          refine ab_bipush (pc := 202) (v := 10) dX4_stands_202 (by decide) ?_
          refine ab_icmp_ge (pc := 204) 211 dX4_stands_204 (by decide) (fun c204 => ?_) (fun c204 => ?_)
          · refine ab_iconst (pc := 211) (v := 0) dX4_stands_211 (by decide) ?_
            exact ab_retz (pc := 212) dX4_stands_212 rfl rfl ⟨_, rfl, ⟨by first | (rw [m_stands_d hd, decide_eq_true c204, c195]; rfl) | (rw [m_stands_d hd, decide_eq_false (not_not_intro c204), c195]; rfl) | (rw [m_stands_d hd, c195]; rfl), rfl⟩⟩
          · refine ab_iconst (pc := 207) (v := 1) dX4_stands_207 (by decide) ?_
            refine ab_goto (pc := 208) 212 dX4_stands_208 (by decide) ?_
            exact ab_retz (pc := 212) dX4_stands_212 rfl rfl ⟨_, rfl, ⟨by first | (rw [m_stands_d hd, decide_eq_true c204, c195]; rfl) | (rw [m_stands_d hd, decide_eq_false (not_not_intro c204), c195]; rfl) | (rw [m_stands_d hd, c195]; rfl), rfl⟩⟩
      refine ab_tw_c 16 164 (by decide) (by decide) (fun s48 => ?_) (fun n48_16 => ?_)
      · refine ab_aload_n (pc := 164) dX4_stands_164 rfl rfl ?_
        refine ab_geti (pc := 165) dX4_stands_165 fX4_95 rfl rfl ?_
        refine ab_if_le (pc := 168) 175 dX4_stands_168 (by decide) (fun c168 => ?_) (fun c168 => ?_)
        · refine ab_iconst (pc := 175) (v := 0) dX4_stands_175 (by decide) ?_
          exact ab_retz (pc := 176) dX4_stands_176 rfl rfl ⟨_, rfl, ⟨by simp [m_stands, s48, b2i, c168], rfl⟩⟩
        · refine ab_iconst (pc := 171) (v := 1) dX4_stands_171 (by decide) ?_
          refine ab_goto (pc := 172) 176 dX4_stands_172 (by decide) ?_
          exact ab_retz (pc := 176) dX4_stands_176 rfl rfl ⟨_, rfl, ⟨by simp [m_stands, s48, b2i, c168], rfl⟩⟩
      refine ab_tw_c 17 177 (by decide) (by decide) (fun s48 => ?_) (fun n48_17 => ?_)
      · refine ab_aload_n (pc := 177) dX4_stands_177 rfl rfl ?_
        refine ab_geti (pc := 178) dX4_stands_178 fX4_102 rfl rfl ?_
        refine ab_iload_n (pc := 181) dX4_stands_181 rfl rfl ?_
        refine ab_icmp_le (pc := 182) 189 dX4_stands_182 (by decide) (fun c182 => ?_) (fun c182 => ?_)
        · refine ab_iconst (pc := 189) (v := 0) dX4_stands_189 (by decide) ?_
          exact ab_retz (pc := 190) dX4_stands_190 rfl rfl ⟨_, rfl, ⟨by simp [m_stands, s48, b2i, *], rfl⟩⟩
        · refine ab_iconst (pc := 185) (v := 1) dX4_stands_185 (by decide) ?_
          refine ab_goto (pc := 186) 190 dX4_stands_186 (by decide) ?_
          exact ab_retz (pc := 190) dX4_stands_190 rfl rfl ⟨_, rfl, ⟨by simp [m_stands, s48, b2i, *], rfl⟩⟩
      refine ab_tw_c 18 177 (by decide) (by decide) (fun s48 => ?_) (fun n48_18 => ?_)
      · refine ab_aload_n (pc := 177) dX4_stands_177 rfl rfl ?_
        refine ab_geti (pc := 178) dX4_stands_178 fX4_102 rfl rfl ?_
        refine ab_iload_n (pc := 181) dX4_stands_181 rfl rfl ?_
        refine ab_icmp_le (pc := 182) 189 dX4_stands_182 (by decide) (fun c182 => ?_) (fun c182 => ?_)
        · refine ab_iconst (pc := 189) (v := 0) dX4_stands_189 (by decide) ?_
          exact ab_retz (pc := 190) dX4_stands_190 rfl rfl ⟨_, rfl, ⟨by simp [m_stands, s48, b2i, *], rfl⟩⟩
        · refine ab_iconst (pc := 185) (v := 1) dX4_stands_185 (by decide) ?_
          refine ab_goto (pc := 186) 190 dX4_stands_186 (by decide) ?_
          exact ab_retz (pc := 190) dX4_stands_190 rfl rfl ⟨_, rfl, ⟨by simp [m_stands, s48, b2i, *], rfl⟩⟩
      refine ab_tw_c 19 191 (by decide) (by decide) (fun s48 => ?_) (fun n48_19 => ?_)
      · have hd : ¬ s = 11 ∧ ¬ s = 12 ∧ ¬ s = 22 ∧ ¬ s = 16 ∧ ¬ s = 17 ∧ ¬ s = 18 := by first | (rw [s48]; decide) | exact And.intro n48_11 (And.intro n48_12 (And.intro n48_22 (And.intro n48_16 (And.intro n48_17 n48_18))))
        refine ab_iload_n (pc := 191) dX4_stands_191 rfl rfl ?_
        refine ab_S1 (pc := 192) dX4_stands_192 msX4_98 rfl (kX4_opens) (ab_ki fun r192 h192 e192 => ?_)
        obtain ⟨rfl, rfl⟩ := And.intro e192.1.symm e192.2.symm
        refine ab_if_eq (pc := 195) 207 dX4_stands_195 (by decide) (fun c195 => ?_) (fun c195 => ?_)
        · replace c195 := b2i_0.mp c195
          refine ab_iconst (pc := 207) (v := 1) dX4_stands_207 (by decide) ?_
          refine ab_goto (pc := 208) 212 dX4_stands_208 (by decide) ?_
          exact ab_retz (pc := 212) dX4_stands_212 rfl rfl ⟨_, rfl, ⟨by first | (rw [m_stands_d hd, decide_eq_true c204, c195]; rfl) | (rw [m_stands_d hd, decide_eq_false (not_not_intro c204), c195]; rfl) | (rw [m_stands_d hd, c195]; rfl), rfl⟩⟩
        · replace c195 := b2i_1.mp c195
          refine ab_aload_n (pc := 198) dX4_stands_198 rfl rfl ?_
          refine ab_geti (pc := 199) dX4_stands_199 fX4_95 rfl rfl ?_
          refine ab_bipush (pc := 202) (v := 10) dX4_stands_202 (by decide) ?_
          refine ab_icmp_ge (pc := 204) 211 dX4_stands_204 (by decide) (fun c204 => ?_) (fun c204 => ?_)
          · refine ab_iconst (pc := 211) (v := 0) dX4_stands_211 (by decide) ?_
            exact ab_retz (pc := 212) dX4_stands_212 rfl rfl ⟨_, rfl, ⟨by first | (rw [m_stands_d hd, decide_eq_true c204, c195]; rfl) | (rw [m_stands_d hd, decide_eq_false (not_not_intro c204), c195]; rfl) | (rw [m_stands_d hd, c195]; rfl), rfl⟩⟩
          · refine ab_iconst (pc := 207) (v := 1) dX4_stands_207 (by decide) ?_
            refine ab_goto (pc := 208) 212 dX4_stands_208 (by decide) ?_
            exact ab_retz (pc := 212) dX4_stands_212 rfl rfl ⟨_, rfl, ⟨by first | (rw [m_stands_d hd, decide_eq_true c204, c195]; rfl) | (rw [m_stands_d hd, decide_eq_false (not_not_intro c204), c195]; rfl) | (rw [m_stands_d hd, c195]; rfl), rfl⟩⟩
      refine ab_tw_c 20 191 (by decide) (by decide) (fun s48 => ?_) (fun n48_20 => ?_)
      · have hd : ¬ s = 11 ∧ ¬ s = 12 ∧ ¬ s = 22 ∧ ¬ s = 16 ∧ ¬ s = 17 ∧ ¬ s = 18 := by first | (rw [s48]; decide) | exact And.intro n48_11 (And.intro n48_12 (And.intro n48_22 (And.intro n48_16 (And.intro n48_17 n48_18))))
        refine ab_iload_n (pc := 191) dX4_stands_191 rfl rfl ?_
        refine ab_S1 (pc := 192) dX4_stands_192 msX4_98 rfl (kX4_opens) (ab_ki fun r192 h192 e192 => ?_)
        obtain ⟨rfl, rfl⟩ := And.intro e192.1.symm e192.2.symm
        refine ab_if_eq (pc := 195) 207 dX4_stands_195 (by decide) (fun c195 => ?_) (fun c195 => ?_)
        · replace c195 := b2i_0.mp c195
          refine ab_iconst (pc := 207) (v := 1) dX4_stands_207 (by decide) ?_
          refine ab_goto (pc := 208) 212 dX4_stands_208 (by decide) ?_
          exact ab_retz (pc := 212) dX4_stands_212 rfl rfl ⟨_, rfl, ⟨by first | (rw [m_stands_d hd, decide_eq_true c204, c195]; rfl) | (rw [m_stands_d hd, decide_eq_false (not_not_intro c204), c195]; rfl) | (rw [m_stands_d hd, c195]; rfl), rfl⟩⟩
        · replace c195 := b2i_1.mp c195
          refine ab_aload_n (pc := 198) dX4_stands_198 rfl rfl ?_
          refine ab_geti (pc := 199) dX4_stands_199 fX4_95 rfl rfl ?_
          refine ab_bipush (pc := 202) (v := 10) dX4_stands_202 (by decide) ?_
          refine ab_icmp_ge (pc := 204) 211 dX4_stands_204 (by decide) (fun c204 => ?_) (fun c204 => ?_)
          · refine ab_iconst (pc := 211) (v := 0) dX4_stands_211 (by decide) ?_
            exact ab_retz (pc := 212) dX4_stands_212 rfl rfl ⟨_, rfl, ⟨by first | (rw [m_stands_d hd, decide_eq_true c204, c195]; rfl) | (rw [m_stands_d hd, decide_eq_false (not_not_intro c204), c195]; rfl) | (rw [m_stands_d hd, c195]; rfl), rfl⟩⟩
          · refine ab_iconst (pc := 207) (v := 1) dX4_stands_207 (by decide) ?_
            refine ab_goto (pc := 208) 212 dX4_stands_208 (by decide) ?_
            exact ab_retz (pc := 212) dX4_stands_212 rfl rfl ⟨_, rfl, ⟨by first | (rw [m_stands_d hd, decide_eq_true c204, c195]; rfl) | (rw [m_stands_d hd, decide_eq_false (not_not_intro c204), c195]; rfl) | (rw [m_stands_d hd, c195]; rfl), rfl⟩⟩
      refine ab_tw_c 21 191 (by decide) (by decide) (fun s48 => ?_) (fun n48_21 => ?_)
      · have hd : ¬ s = 11 ∧ ¬ s = 12 ∧ ¬ s = 22 ∧ ¬ s = 16 ∧ ¬ s = 17 ∧ ¬ s = 18 := by first | (rw [s48]; decide) | exact And.intro n48_11 (And.intro n48_12 (And.intro n48_22 (And.intro n48_16 (And.intro n48_17 n48_18))))
        refine ab_iload_n (pc := 191) dX4_stands_191 rfl rfl ?_
        refine ab_S1 (pc := 192) dX4_stands_192 msX4_98 rfl (kX4_opens) (ab_ki fun r192 h192 e192 => ?_)
        obtain ⟨rfl, rfl⟩ := And.intro e192.1.symm e192.2.symm
        refine ab_if_eq (pc := 195) 207 dX4_stands_195 (by decide) (fun c195 => ?_) (fun c195 => ?_)
        · replace c195 := b2i_0.mp c195
          refine ab_iconst (pc := 207) (v := 1) dX4_stands_207 (by decide) ?_
          refine ab_goto (pc := 208) 212 dX4_stands_208 (by decide) ?_
          exact ab_retz (pc := 212) dX4_stands_212 rfl rfl ⟨_, rfl, ⟨by first | (rw [m_stands_d hd, decide_eq_true c204, c195]; rfl) | (rw [m_stands_d hd, decide_eq_false (not_not_intro c204), c195]; rfl) | (rw [m_stands_d hd, c195]; rfl), rfl⟩⟩
        · replace c195 := b2i_1.mp c195
          refine ab_aload_n (pc := 198) dX4_stands_198 rfl rfl ?_
          refine ab_geti (pc := 199) dX4_stands_199 fX4_95 rfl rfl ?_
          refine ab_bipush (pc := 202) (v := 10) dX4_stands_202 (by decide) ?_
          refine ab_icmp_ge (pc := 204) 211 dX4_stands_204 (by decide) (fun c204 => ?_) (fun c204 => ?_)
          · refine ab_iconst (pc := 211) (v := 0) dX4_stands_211 (by decide) ?_
            exact ab_retz (pc := 212) dX4_stands_212 rfl rfl ⟨_, rfl, ⟨by first | (rw [m_stands_d hd, decide_eq_true c204, c195]; rfl) | (rw [m_stands_d hd, decide_eq_false (not_not_intro c204), c195]; rfl) | (rw [m_stands_d hd, c195]; rfl), rfl⟩⟩
          · refine ab_iconst (pc := 207) (v := 1) dX4_stands_207 (by decide) ?_
            refine ab_goto (pc := 208) 212 dX4_stands_208 (by decide) ?_
            exact ab_retz (pc := 212) dX4_stands_212 rfl rfl ⟨_, rfl, ⟨by first | (rw [m_stands_d hd, decide_eq_true c204, c195]; rfl) | (rw [m_stands_d hd, decide_eq_false (not_not_intro c204), c195]; rfl) | (rw [m_stands_d hd, c195]; rfl), rfl⟩⟩
      refine ab_tw_c 22 147 (by decide) (by decide) (fun s48 => ?_) (fun n48_22 => ?_)
      · refine ab_iload_n (pc := 147) dX4_stands_147 rfl rfl ?_
        refine ab_bipush (pc := 148) (v := 21) dX4_stands_148 (by decide) ?_
        refine ab_icmp_ne (pc := 150) 162 dX4_stands_150 (by decide) (fun c150 => ?_) (fun c150 => ?_)
        · refine ab_iconst (pc := 162) (v := 0) dX4_stands_162 (by decide) ?_
          exact ab_retz (pc := 163) dX4_stands_163 rfl rfl ⟨_, rfl, ⟨by simp [m_stands, s48, b2i, *], rfl⟩⟩
        · refine ab_iload (pc := 153) dX4_stands_153 rfl ?_
          refine ab_if_ne (pc := 155) 162 dX4_stands_155 (by decide) (fun c155 => ?_) (fun c155 => ?_)
          · refine ab_iconst (pc := 162) (v := 0) dX4_stands_162 (by decide) ?_
            exact ab_retz (pc := 163) dX4_stands_163 rfl rfl ⟨_, rfl, ⟨by simp [m_stands, s48, b2i, *], rfl⟩⟩
          · refine ab_iconst (pc := 158) (v := 1) dX4_stands_158 (by decide) ?_
            refine ab_goto (pc := 159) 163 dX4_stands_159 (by decide) ?_
            exact ab_retz (pc := 163) dX4_stands_163 rfl rfl ⟨_, rfl, ⟨by simp [m_stands, s48, b2i, *], rfl⟩⟩
      refine ab_tw_n 191 (by decide) ?_
      have hd : ¬ s = 11 ∧ ¬ s = 12 ∧ ¬ s = 22 ∧ ¬ s = 16 ∧ ¬ s = 17 ∧ ¬ s = 18 := by first | (rw [s48]; decide) | exact And.intro n48_11 (And.intro n48_12 (And.intro n48_22 (And.intro n48_16 (And.intro n48_17 n48_18))))
      refine ab_iload_n (pc := 191) dX4_stands_191 rfl rfl ?_
      refine ab_S1 (pc := 192) dX4_stands_192 msX4_98 rfl (kX4_opens) (ab_ki fun r192 h192 e192 => ?_)
      obtain ⟨rfl, rfl⟩ := And.intro e192.1.symm e192.2.symm
      refine ab_if_eq (pc := 195) 207 dX4_stands_195 (by decide) (fun c195 => ?_) (fun c195 => ?_)
      · replace c195 := b2i_0.mp c195
        refine ab_iconst (pc := 207) (v := 1) dX4_stands_207 (by decide) ?_
        refine ab_goto (pc := 208) 212 dX4_stands_208 (by decide) ?_
        exact ab_retz (pc := 212) dX4_stands_212 rfl rfl ⟨_, rfl, ⟨by first | (rw [m_stands_d hd, decide_eq_true c204, c195]; rfl) | (rw [m_stands_d hd, decide_eq_false (not_not_intro c204), c195]; rfl) | (rw [m_stands_d hd, c195]; rfl), rfl⟩⟩
      · replace c195 := b2i_1.mp c195
        refine ab_aload_n (pc := 198) dX4_stands_198 rfl rfl ?_
        refine ab_geti (pc := 199) dX4_stands_199 fX4_95 rfl rfl ?_
        refine ab_bipush (pc := 202) (v := 10) dX4_stands_202 (by decide) ?_
        refine ab_icmp_ge (pc := 204) 211 dX4_stands_204 (by decide) (fun c204 => ?_) (fun c204 => ?_)
        · refine ab_iconst (pc := 211) (v := 0) dX4_stands_211 (by decide) ?_
          exact ab_retz (pc := 212) dX4_stands_212 rfl rfl ⟨_, rfl, ⟨by first | (rw [m_stands_d hd, decide_eq_true c204, c195]; rfl) | (rw [m_stands_d hd, decide_eq_false (not_not_intro c204), c195]; rfl) | (rw [m_stands_d hd, c195]; rfl), rfl⟩⟩
        · refine ab_iconst (pc := 207) (v := 1) dX4_stands_207 (by decide) ?_
          refine ab_goto (pc := 208) 212 dX4_stands_208 (by decide) ?_
          exact ab_retz (pc := 212) dX4_stands_212 rfl rfl ⟨_, rfl, ⟨by first | (rw [m_stands_d hd, decide_eq_true c204, c195]; rfl) | (rw [m_stands_d hd, decide_eq_false (not_not_intro c204), c195]; rfl) | (rw [m_stands_d hd, c195]; rfl), rfl⟩⟩

def m_sum (f : Nat → Int32) : Nat → Int32
  | 0 => 0
  | n + 1 => m_sum f n + f n
def m_count (h : ab_H) (w : Int32) : Int32 := if w = 0 then h 0 7 else if w = 1 then h 0 15 else if w = 2 then h 0 16 else if w = 3 then h 0 17 else if w = 4 then h 0 18 else if w = 5 then m_sum (h 4) 8 else if w = 6 then h 0 19
  else if w = 10 ∨ w = 11 ∨ w = 12 ∨ w = 13 then (if h 7 (w - 10).toNatClampNeg = 0 then 0 else h 8 (h 7 (w - 10).toNatClampNeg).toNatClampNeg) else -1
theorem m_count_d {h : ab_H} {w : Int32} (hn : ¬ w = 0 ∧ ¬ w = 1 ∧ ¬ w = 2 ∧ ¬ w = 3 ∧ ¬ w = 4 ∧ ¬ w = 5 ∧ ¬ w = 6 ∧ ¬ (w = 10 ∨ w = 11 ∨ w = 12 ∨ w = 13)) : m_count h w = -1 := by
  rw [m_count, if_neg hn.1, if_neg hn.2.1, if_neg hn.2.2.1, if_neg hn.2.2.2.1, if_neg hn.2.2.2.2.1, if_neg hn.2.2.2.2.2.1, if_neg hn.2.2.2.2.2.2.1, if_neg hn.2.2.2.2.2.2.2]
theorem m_ge8 {k : Nat} (hk : k ≤ 8) (c : 8 ≤ nI k) : k = 8 := by
  have : nI 8 ≤ nI k := c
  rw [nI_leI (by omega) (by omega)] at this
  omega
theorem m_lt8 {k : Nat} (hk : k ≤ 8) (c : ¬ 8 ≤ nI k) : k < 8 := by
  rcases Nat.lt_or_ge k 8 with h | h
  · exact h
  · exact absurd (show nI 8 ≤ nI k from nI_le h (by omega)) c
set_option maxRecDepth 100000 in
set_option maxHeartbeats 4000000 in
theorem lpX4_count {l : Launch} {d : Nat} {h : ab_H} {P : Int32 → ab_H → Prop} (hP : P (m_sum (h 4) 8) h) : ∀ (n : Nat) (k : Nat), k ≤ 8 → 8 < k + n → ab_J l layM mX4_count (d) (ab_qi P) 107 [(0, ab_R 0), (2, ab_I (m_sum (h 4) k)), (3, ab_I (nI k))] [] h := by
  intro n
  induction n with
  | zero =>
    intro k hk hn
    omega
  | succ n ih =>
    intro k hk hn
    have hc : (nI k).toNatClampNeg = k := nI_clamp (by omega)
    refine ab_iload_n (pc := 107) dX4_count_107 rfl rfl ?_
    refine ab_bipush (pc := 108) (v := 8) dX4_count_108 (by decide) ?_
    refine ab_icmp_ge (pc := 110) 128 dX4_count_110 (by decide) (fun c110 => ?_) (fun c110 => ?_)
    · obtain rfl := m_ge8 hk c110
      refine ab_iload_n (pc := 128) dX4_count_128 rfl rfl ?_
      exact ab_reti (pc := 129) dX4_count_129 rfl ⟨_, rfl, hP⟩
    · have hk2 := m_lt8 hk c110
      refine ab_iload_n (pc := 113) dX4_count_113 rfl rfl ?_
      refine ab_aload_n (pc := 114) dX4_count_114 rfl rfl ?_
      refine ab_getr (pc := 115) dX4_count_115 fX4_19 rfl rfl ?_
      refine ab_iload_n (pc := 118) dX4_count_118 rfl rfl ?_
      refine ab_iald (pc := 119) dX4_count_119 rfl (vp_in_nI hk2 (by omega)) ?_
      refine ab_topi (by (try simp only [ab_rd, ab_rdA, Nat.reduceEqDiff, reduceIte, hc]); exact rfl) ?_
      refine ab_iadd (pc := 120) dX4_count_120 ?_
      refine ab_istore_n (pc := 121) dX4_count_121 rfl rfl ?_
      refine ab_iinc (pc := 122) (v := 1) dX4_count_122 rfl (by decide) rfl ?_
      refine ab_goto (pc := 125) 107 dX4_count_125 (by decide) ?_
      refine ab_weak [(0, ab_R 0), (2, ab_I (m_sum (h 4) (k + 1))), (3, ab_I (nI k + 1))] ⟨rfl, rfl, rfl, trivial⟩ ?_
      rw [nI_1]
      exact ih (k + 1) (by omega) (by omega)

set_option maxRecDepth 100000 in
set_option maxHeartbeats 4000000 in
theorem kX4_count {l : Launch} {d : Nat} {h : ab_H} {w : Int32} (hs : ∀ k, k < 4 → vp_in (h 7 k) 80) : ab_C l layM (d) mX4_count [ab_R 0, ab_I w] h (ab_qi fun r h' => r = m_count h w ∧ h' = ab_up h 0 0 0) := by
  refine ab_enter (by decide) (Nat.le_of_ble_eq_true rfl) ?_
  refine ab_aload_n (pc := 0) dX4_count_0 rfl rfl ?_
  refine ab_iconst (pc := 1) (v := 0) dX4_count_1 (by decide) ?_
  refine ab_puti (pc := 2) dX4_count_2 fwX4_92 rfl rfl ?_
  refine ab_iconst (pc := 5) (v := 0) dX4_count_5 (by decide) ?_
  refine ab_istore_n (pc := 6) dX4_count_6 rfl rfl ?_
  refine ab_iload_n (pc := 7) dX4_count_7 rfl rfl ?_
  refine ab_table (pc := 8) dX4_count_8 (by decide) (by decide) (by decide) (by decide) ?_
  refine ab_tw_c 0 80 (by decide) (by decide) (fun s8 => ?_) (fun n8_0 => ?_)
  · refine ab_aload_n (pc := 80) dX4_count_80 rfl rfl ?_
    refine ab_geti (pc := 81) dX4_count_81 fX4_28 rfl rfl ?_
    exact ab_reti (pc := 84) dX4_count_84 rfl ⟨_, rfl, ⟨by rw [m_count, if_pos s8]; rfl, rfl⟩⟩
  refine ab_tw_c 1 85 (by decide) (by decide) (fun s8 => ?_) (fun n8_1 => ?_)
  · refine ab_aload_n (pc := 85) dX4_count_85 rfl rfl ?_
    refine ab_geti (pc := 86) dX4_count_86 fX4_145 rfl rfl ?_
    exact ab_reti (pc := 89) dX4_count_89 rfl ⟨_, rfl, ⟨by rw [m_count, if_neg n8_0, if_pos s8]; rfl, rfl⟩⟩
  refine ab_tw_c 2 90 (by decide) (by decide) (fun s8 => ?_) (fun n8_2 => ?_)
  · refine ab_aload_n (pc := 90) dX4_count_90 rfl rfl ?_
    refine ab_geti (pc := 91) dX4_count_91 fX4_139 rfl rfl ?_
    exact ab_reti (pc := 94) dX4_count_94 rfl ⟨_, rfl, ⟨by rw [m_count, if_neg n8_0, if_neg n8_1, if_pos s8]; rfl, rfl⟩⟩
  refine ab_tw_c 3 95 (by decide) (by decide) (fun s8 => ?_) (fun n8_3 => ?_)
  · refine ab_aload_n (pc := 95) dX4_count_95 rfl rfl ?_
    refine ab_geti (pc := 96) dX4_count_96 fX4_133 rfl rfl ?_
    exact ab_reti (pc := 99) dX4_count_99 rfl ⟨_, rfl, ⟨by rw [m_count, if_neg n8_0, if_neg n8_1, if_neg n8_2, if_pos s8]; rfl, rfl⟩⟩
  refine ab_tw_c 4 100 (by decide) (by decide) (fun s8 => ?_) (fun n8_4 => ?_)
  · refine ab_aload_n (pc := 100) dX4_count_100 rfl rfl ?_
    refine ab_geti (pc := 101) dX4_count_101 fX4_136 rfl rfl ?_
    exact ab_reti (pc := 104) dX4_count_104 rfl ⟨_, rfl, ⟨by rw [m_count, if_neg n8_0, if_neg n8_1, if_neg n8_2, if_neg n8_3, if_pos s8]; rfl, rfl⟩⟩
  refine ab_tw_c 5 105 (by decide) (by decide) (fun s8 => ?_) (fun n8_5 => ?_)
  · refine ab_iconst (pc := 105) (v := 0) dX4_count_105 (by decide) ?_
    refine ab_istore_n (pc := 106) dX4_count_106 rfl rfl ?_
    refine ab_weak [(0, ab_R 0), (2, ab_I (m_sum (ab_up h 0 0 0 4) 0)), (3, ab_I (nI 0))] ⟨rfl, rfl, rfl, trivial⟩ ?_
    exact lpX4_count (h := ab_up h 0 0 0) (P := fun r h' => r = m_count h w ∧ h' = ab_up h 0 0 0) ⟨by rw [m_count, if_neg n8_0, if_neg n8_1, if_neg n8_2, if_neg n8_3, if_neg n8_4, if_pos s8]; rfl, rfl⟩ 9 0 (by omega) (by omega)
  refine ab_tw_c 6 130 (by decide) (by decide) (fun s8 => ?_) (fun n8_6 => ?_)
  · refine ab_aload_n (pc := 130) dX4_count_130 rfl rfl ?_
    refine ab_geti (pc := 131) dX4_count_131 fX4_227 rfl rfl ?_
    exact ab_reti (pc := 134) dX4_count_134 rfl ⟨_, rfl, ⟨by rw [m_count, if_neg n8_0, if_neg n8_1, if_neg n8_2, if_neg n8_3, if_neg n8_4, if_neg n8_5, if_pos s8]; rfl, rfl⟩⟩
  refine ab_tw_c 7 166 (by decide) (by decide) (fun s8 => ?_) (fun n8_7 => ?_)
  · have hd : ¬ w = 0 ∧ ¬ w = 1 ∧ ¬ w = 2 ∧ ¬ w = 3 ∧ ¬ w = 4 ∧ ¬ w = 5 ∧ ¬ w = 6 ∧ ¬ (w = 10 ∨ w = 11 ∨ w = 12 ∨ w = 13) := by first | (rw [s8]; decide) | exact ⟨n8_0, n8_1, n8_2, n8_3, n8_4, n8_5, n8_6, fun q => q.elim n8_10 (fun q => q.elim n8_11 (fun q => q.elim n8_12 n8_13))⟩
    refine ab_iconst (pc := 166) (v := (-1)) dX4_count_166 (by decide) ?_
    exact ab_reti (pc := 167) dX4_count_167 rfl ⟨_, rfl, ⟨(m_count_d hd).symm, rfl⟩⟩
  refine ab_tw_c 8 166 (by decide) (by decide) (fun s8 => ?_) (fun n8_8 => ?_)
  · have hd : ¬ w = 0 ∧ ¬ w = 1 ∧ ¬ w = 2 ∧ ¬ w = 3 ∧ ¬ w = 4 ∧ ¬ w = 5 ∧ ¬ w = 6 ∧ ¬ (w = 10 ∨ w = 11 ∨ w = 12 ∨ w = 13) := by first | (rw [s8]; decide) | exact ⟨n8_0, n8_1, n8_2, n8_3, n8_4, n8_5, n8_6, fun q => q.elim n8_10 (fun q => q.elim n8_11 (fun q => q.elim n8_12 n8_13))⟩
    refine ab_iconst (pc := 166) (v := (-1)) dX4_count_166 (by decide) ?_
    exact ab_reti (pc := 167) dX4_count_167 rfl ⟨_, rfl, ⟨(m_count_d hd).symm, rfl⟩⟩
  refine ab_tw_c 9 166 (by decide) (by decide) (fun s8 => ?_) (fun n8_9 => ?_)
  · have hd : ¬ w = 0 ∧ ¬ w = 1 ∧ ¬ w = 2 ∧ ¬ w = 3 ∧ ¬ w = 4 ∧ ¬ w = 5 ∧ ¬ w = 6 ∧ ¬ (w = 10 ∨ w = 11 ∨ w = 12 ∨ w = 13) := by first | (rw [s8]; decide) | exact ⟨n8_0, n8_1, n8_2, n8_3, n8_4, n8_5, n8_6, fun q => q.elim n8_10 (fun q => q.elim n8_11 (fun q => q.elim n8_12 n8_13))⟩
    refine ab_iconst (pc := 166) (v := (-1)) dX4_count_166 (by decide) ?_
    exact ab_reti (pc := 167) dX4_count_167 rfl ⟨_, rfl, ⟨(m_count_d hd).symm, rfl⟩⟩
  refine ab_tw_c 10 135 (by decide) (by decide) (fun s8 => ?_) (fun n8_10 => ?_)
  · have hi : ∃ k, k < 4 ∧ w - 10 = nI k := by first | exact ⟨0, by omega, by rw [s8]; decide⟩ | exact ⟨1, by omega, by rw [s8]; decide⟩ | exact ⟨2, by omega, by rw [s8]; decide⟩ | exact ⟨3, by omega, by rw [s8]; decide⟩
    obtain ⟨k, hk, ek⟩ := hi
    have hb4 : vp_in (w - 10) 4 := by rw [ek]; exact vp_in_nI hk (by omega)
    have hb80 : vp_in (h 7 (w - 10).toNatClampNeg) 80 := by rw [ek, nI_clamp (by omega)]; exact hs k hk
    have ew : w = 10 ∨ w = 11 ∨ w = 12 ∨ w = 13 := by rw [s8]; decide
    refine ab_aload_n (pc := 135) dX4_count_135 rfl rfl ?_
    refine ab_getr (pc := 136) dX4_count_136 fX4_32 rfl rfl ?_
    refine ab_iload_n (pc := 139) dX4_count_139 rfl rfl ?_
    refine ab_bipush (pc := 140) (v := 10) dX4_count_140 (by decide) ?_
    refine ab_isub (pc := 142) dX4_count_142 ?_
    refine ab_iald (pc := 143) dX4_count_143 rfl hb4 ?_
    refine ab_if_ne (pc := 144) 151 dX4_count_144 (by decide) (fun c144 => ?_) (fun c144 => ?_)
    · refine ab_aload_n (pc := 151) dX4_count_151 rfl rfl ?_
      refine ab_getr (pc := 152) dX4_count_152 fX4_35 rfl rfl ?_
      refine ab_aload_n (pc := 155) dX4_count_155 rfl rfl ?_
      refine ab_getr (pc := 156) dX4_count_156 fX4_32 rfl rfl ?_
      refine ab_iload_n (pc := 159) dX4_count_159 rfl rfl ?_
      refine ab_bipush (pc := 160) (v := 10) dX4_count_160 (by decide) ?_
      refine ab_isub (pc := 162) dX4_count_162 ?_
      refine ab_iald (pc := 163) dX4_count_163 rfl hb4 ?_
      refine ab_iald (pc := 164) dX4_count_164 rfl hb80 ?_
      exact ab_reti (pc := 165) dX4_count_165 rfl ⟨_, rfl, ⟨by rw [m_count, if_neg n8_0, if_neg n8_1, if_neg n8_2, if_neg n8_3, if_neg n8_4, if_neg n8_5, if_neg n8_6, if_pos ew]; first | rw [if_pos (show h 7 (w - 10).toNatClampNeg = 0 from c144)] | (rw [if_neg (show ¬ h 7 (w - 10).toNatClampNeg = 0 from c144)]; rfl), rfl⟩⟩
    · refine ab_iconst (pc := 147) (v := 0) dX4_count_147 (by decide) ?_
      refine ab_goto (pc := 148) 165 dX4_count_148 (by decide) ?_
      exact ab_reti (pc := 165) dX4_count_165 rfl ⟨_, rfl, ⟨by rw [m_count, if_neg n8_0, if_neg n8_1, if_neg n8_2, if_neg n8_3, if_neg n8_4, if_neg n8_5, if_neg n8_6, if_pos ew]; first | rw [if_pos (show h 7 (w - 10).toNatClampNeg = 0 from c144)] | (rw [if_neg (show ¬ h 7 (w - 10).toNatClampNeg = 0 from c144)]; rfl), rfl⟩⟩
  refine ab_tw_c 11 135 (by decide) (by decide) (fun s8 => ?_) (fun n8_11 => ?_)
  · have hi : ∃ k, k < 4 ∧ w - 10 = nI k := by first | exact ⟨0, by omega, by rw [s8]; decide⟩ | exact ⟨1, by omega, by rw [s8]; decide⟩ | exact ⟨2, by omega, by rw [s8]; decide⟩ | exact ⟨3, by omega, by rw [s8]; decide⟩
    obtain ⟨k, hk, ek⟩ := hi
    have hb4 : vp_in (w - 10) 4 := by rw [ek]; exact vp_in_nI hk (by omega)
    have hb80 : vp_in (h 7 (w - 10).toNatClampNeg) 80 := by rw [ek, nI_clamp (by omega)]; exact hs k hk
    have ew : w = 10 ∨ w = 11 ∨ w = 12 ∨ w = 13 := by rw [s8]; decide
    refine ab_aload_n (pc := 135) dX4_count_135 rfl rfl ?_
    refine ab_getr (pc := 136) dX4_count_136 fX4_32 rfl rfl ?_
    refine ab_iload_n (pc := 139) dX4_count_139 rfl rfl ?_
    refine ab_bipush (pc := 140) (v := 10) dX4_count_140 (by decide) ?_
    refine ab_isub (pc := 142) dX4_count_142 ?_
    refine ab_iald (pc := 143) dX4_count_143 rfl hb4 ?_
    refine ab_if_ne (pc := 144) 151 dX4_count_144 (by decide) (fun c144 => ?_) (fun c144 => ?_)
    · refine ab_aload_n (pc := 151) dX4_count_151 rfl rfl ?_
      refine ab_getr (pc := 152) dX4_count_152 fX4_35 rfl rfl ?_
      refine ab_aload_n (pc := 155) dX4_count_155 rfl rfl ?_
      refine ab_getr (pc := 156) dX4_count_156 fX4_32 rfl rfl ?_
      refine ab_iload_n (pc := 159) dX4_count_159 rfl rfl ?_
      refine ab_bipush (pc := 160) (v := 10) dX4_count_160 (by decide) ?_
      refine ab_isub (pc := 162) dX4_count_162 ?_
      refine ab_iald (pc := 163) dX4_count_163 rfl hb4 ?_
      refine ab_iald (pc := 164) dX4_count_164 rfl hb80 ?_
      exact ab_reti (pc := 165) dX4_count_165 rfl ⟨_, rfl, ⟨by rw [m_count, if_neg n8_0, if_neg n8_1, if_neg n8_2, if_neg n8_3, if_neg n8_4, if_neg n8_5, if_neg n8_6, if_pos ew]; first | rw [if_pos (show h 7 (w - 10).toNatClampNeg = 0 from c144)] | (rw [if_neg (show ¬ h 7 (w - 10).toNatClampNeg = 0 from c144)]; rfl), rfl⟩⟩
    · refine ab_iconst (pc := 147) (v := 0) dX4_count_147 (by decide) ?_
      refine ab_goto (pc := 148) 165 dX4_count_148 (by decide) ?_
      exact ab_reti (pc := 165) dX4_count_165 rfl ⟨_, rfl, ⟨by rw [m_count, if_neg n8_0, if_neg n8_1, if_neg n8_2, if_neg n8_3, if_neg n8_4, if_neg n8_5, if_neg n8_6, if_pos ew]; first | rw [if_pos (show h 7 (w - 10).toNatClampNeg = 0 from c144)] | (rw [if_neg (show ¬ h 7 (w - 10).toNatClampNeg = 0 from c144)]; rfl), rfl⟩⟩
  refine ab_tw_c 12 135 (by decide) (by decide) (fun s8 => ?_) (fun n8_12 => ?_)
  · have hi : ∃ k, k < 4 ∧ w - 10 = nI k := by first | exact ⟨0, by omega, by rw [s8]; decide⟩ | exact ⟨1, by omega, by rw [s8]; decide⟩ | exact ⟨2, by omega, by rw [s8]; decide⟩ | exact ⟨3, by omega, by rw [s8]; decide⟩
    obtain ⟨k, hk, ek⟩ := hi
    have hb4 : vp_in (w - 10) 4 := by rw [ek]; exact vp_in_nI hk (by omega)
    have hb80 : vp_in (h 7 (w - 10).toNatClampNeg) 80 := by rw [ek, nI_clamp (by omega)]; exact hs k hk
    have ew : w = 10 ∨ w = 11 ∨ w = 12 ∨ w = 13 := by rw [s8]; decide
    refine ab_aload_n (pc := 135) dX4_count_135 rfl rfl ?_
    refine ab_getr (pc := 136) dX4_count_136 fX4_32 rfl rfl ?_
    refine ab_iload_n (pc := 139) dX4_count_139 rfl rfl ?_
    refine ab_bipush (pc := 140) (v := 10) dX4_count_140 (by decide) ?_
    refine ab_isub (pc := 142) dX4_count_142 ?_
    refine ab_iald (pc := 143) dX4_count_143 rfl hb4 ?_
    refine ab_if_ne (pc := 144) 151 dX4_count_144 (by decide) (fun c144 => ?_) (fun c144 => ?_)
    · refine ab_aload_n (pc := 151) dX4_count_151 rfl rfl ?_
      refine ab_getr (pc := 152) dX4_count_152 fX4_35 rfl rfl ?_
      refine ab_aload_n (pc := 155) dX4_count_155 rfl rfl ?_
      refine ab_getr (pc := 156) dX4_count_156 fX4_32 rfl rfl ?_
      refine ab_iload_n (pc := 159) dX4_count_159 rfl rfl ?_
      refine ab_bipush (pc := 160) (v := 10) dX4_count_160 (by decide) ?_
      refine ab_isub (pc := 162) dX4_count_162 ?_
      refine ab_iald (pc := 163) dX4_count_163 rfl hb4 ?_
      refine ab_iald (pc := 164) dX4_count_164 rfl hb80 ?_
      exact ab_reti (pc := 165) dX4_count_165 rfl ⟨_, rfl, ⟨by rw [m_count, if_neg n8_0, if_neg n8_1, if_neg n8_2, if_neg n8_3, if_neg n8_4, if_neg n8_5, if_neg n8_6, if_pos ew]; first | rw [if_pos (show h 7 (w - 10).toNatClampNeg = 0 from c144)] | (rw [if_neg (show ¬ h 7 (w - 10).toNatClampNeg = 0 from c144)]; rfl), rfl⟩⟩
    · refine ab_iconst (pc := 147) (v := 0) dX4_count_147 (by decide) ?_
      refine ab_goto (pc := 148) 165 dX4_count_148 (by decide) ?_
      exact ab_reti (pc := 165) dX4_count_165 rfl ⟨_, rfl, ⟨by rw [m_count, if_neg n8_0, if_neg n8_1, if_neg n8_2, if_neg n8_3, if_neg n8_4, if_neg n8_5, if_neg n8_6, if_pos ew]; first | rw [if_pos (show h 7 (w - 10).toNatClampNeg = 0 from c144)] | (rw [if_neg (show ¬ h 7 (w - 10).toNatClampNeg = 0 from c144)]; rfl), rfl⟩⟩
  refine ab_tw_c 13 135 (by decide) (by decide) (fun s8 => ?_) (fun n8_13 => ?_)
  · have hi : ∃ k, k < 4 ∧ w - 10 = nI k := by first | exact ⟨0, by omega, by rw [s8]; decide⟩ | exact ⟨1, by omega, by rw [s8]; decide⟩ | exact ⟨2, by omega, by rw [s8]; decide⟩ | exact ⟨3, by omega, by rw [s8]; decide⟩
    obtain ⟨k, hk, ek⟩ := hi
    have hb4 : vp_in (w - 10) 4 := by rw [ek]; exact vp_in_nI hk (by omega)
    have hb80 : vp_in (h 7 (w - 10).toNatClampNeg) 80 := by rw [ek, nI_clamp (by omega)]; exact hs k hk
    have ew : w = 10 ∨ w = 11 ∨ w = 12 ∨ w = 13 := by rw [s8]; decide
    refine ab_aload_n (pc := 135) dX4_count_135 rfl rfl ?_
    refine ab_getr (pc := 136) dX4_count_136 fX4_32 rfl rfl ?_
    refine ab_iload_n (pc := 139) dX4_count_139 rfl rfl ?_
    refine ab_bipush (pc := 140) (v := 10) dX4_count_140 (by decide) ?_
    refine ab_isub (pc := 142) dX4_count_142 ?_
    refine ab_iald (pc := 143) dX4_count_143 rfl hb4 ?_
    refine ab_if_ne (pc := 144) 151 dX4_count_144 (by decide) (fun c144 => ?_) (fun c144 => ?_)
    · refine ab_aload_n (pc := 151) dX4_count_151 rfl rfl ?_
      refine ab_getr (pc := 152) dX4_count_152 fX4_35 rfl rfl ?_
      refine ab_aload_n (pc := 155) dX4_count_155 rfl rfl ?_
      refine ab_getr (pc := 156) dX4_count_156 fX4_32 rfl rfl ?_
      refine ab_iload_n (pc := 159) dX4_count_159 rfl rfl ?_
      refine ab_bipush (pc := 160) (v := 10) dX4_count_160 (by decide) ?_
      refine ab_isub (pc := 162) dX4_count_162 ?_
      refine ab_iald (pc := 163) dX4_count_163 rfl hb4 ?_
      refine ab_iald (pc := 164) dX4_count_164 rfl hb80 ?_
      exact ab_reti (pc := 165) dX4_count_165 rfl ⟨_, rfl, ⟨by rw [m_count, if_neg n8_0, if_neg n8_1, if_neg n8_2, if_neg n8_3, if_neg n8_4, if_neg n8_5, if_neg n8_6, if_pos ew]; first | rw [if_pos (show h 7 (w - 10).toNatClampNeg = 0 from c144)] | (rw [if_neg (show ¬ h 7 (w - 10).toNatClampNeg = 0 from c144)]; rfl), rfl⟩⟩
    · refine ab_iconst (pc := 147) (v := 0) dX4_count_147 (by decide) ?_
      refine ab_goto (pc := 148) 165 dX4_count_148 (by decide) ?_
      exact ab_reti (pc := 165) dX4_count_165 rfl ⟨_, rfl, ⟨by rw [m_count, if_neg n8_0, if_neg n8_1, if_neg n8_2, if_neg n8_3, if_neg n8_4, if_neg n8_5, if_neg n8_6, if_pos ew]; first | rw [if_pos (show h 7 (w - 10).toNatClampNeg = 0 from c144)] | (rw [if_neg (show ¬ h 7 (w - 10).toNatClampNeg = 0 from c144)]; rfl), rfl⟩⟩
  refine ab_tw_n 166 (by decide) ?_
  have hd : ¬ w = 0 ∧ ¬ w = 1 ∧ ¬ w = 2 ∧ ¬ w = 3 ∧ ¬ w = 4 ∧ ¬ w = 5 ∧ ¬ w = 6 ∧ ¬ (w = 10 ∨ w = 11 ∨ w = 12 ∨ w = 13) := by first | (rw [s8]; decide) | exact ⟨n8_0, n8_1, n8_2, n8_3, n8_4, n8_5, n8_6, fun q => q.elim n8_10 (fun q => q.elim n8_11 (fun q => q.elim n8_12 n8_13))⟩
  refine ab_iconst (pc := 166) (v := (-1)) dX4_count_166 (by decide) ?_
  exact ab_reti (pc := 167) dX4_count_167 rfl ⟨_, rfl, ⟨(m_count_d hd).symm, rfl⟩⟩

def m_nodeR (h g : ab_H) (w s b : Int32) : Int32 := if m_stands g s b = true then (if h 4 w.toNatClampNeg = 60 then 0 else h 4 w.toNatClampNeg + 1) else 0
def m_nodeH (h g : ab_H) (w s a b : Int32) : ab_H := if m_stands g s b = true then (if h 4 w.toNatClampNeg = 60 then ab_up g 0 0 2 else
  ab_up (ab_up (ab_up (ab_up (ab_up g 0 0 0) 1 (60 * w + h 4 w.toNatClampNeg).toNatClampNeg s) 2 (60 * w + h 4 w.toNatClampNeg).toNatClampNeg a) 3 (60 * w + h 4 w.toNatClampNeg).toNatClampNeg b) 4 w.toNatClampNeg (h 4 w.toNatClampNeg + 1)) else ab_up g 0 0 2
theorem and_nl {a b : Prop} (h : ¬ a) : ¬ (a ∧ b) := fun q => h q.1
set_option maxRecDepth 100000 in
set_option maxHeartbeats 4000000 in
theorem kX4_node {l : Launch} {d : Nat} {h : ab_H} {w s a b : Int32} {n oN : Nat} {g : ab_H} (hl : m_within w 7 = true → m_lk (60 * w + h 4 w.toNatClampNeg) n (60 * w) (ab_up h 0 39 0) g) (h4 : m_within w 7 = true → g 4 = h 4) (ho : m_within w 7 = true → g 0 39 = nI oN) (ho2 : oN ≤ 80) (hk : m_within w 7 = true → ¬ h 4 w.toNatClampNeg = 60 → vp_in (60 * w + h 4 w.toNatClampNeg) 480) : ab_C l layM (d + 2) mX4_node [ab_R 0, ab_I w, ab_I s, ab_I a, ab_I b] h (ab_qi fun r h' => r = (if m_within w 7 = true ∧ m_right s a b = true then m_nodeR h (m_look g oN) w s b else 0) ∧ h' = (if m_within w 7 = true ∧ m_right s a b = true then m_nodeH h (m_look g oN) w s a b else ab_up h 0 0 1)) := by
  refine ab_enter (by decide) (Nat.le_of_ble_eq_true rfl) ?_
  refine ab_iload_n (pc := 0) dX4_node_0 rfl rfl ?_
  refine ab_bipush (pc := 1) (v := 7) dX4_node_1 (by decide) ?_
  refine ab_S2 (pc := 3) dX4_node_3 msX4_105 rfl (kX4_within) (ab_ki fun r3 h3 e3 => ?_)
  obtain ⟨rfl, rfl⟩ := And.intro e3.1.symm e3.2.symm
  refine ab_if_eq (pc := 6) 19 dX4_node_6 (by decide) (fun c6 => ?_) (fun c6 => ?_)
  · replace c6 := b2i_0.mp c6
    refine ab_aload_n (pc := 19) dX4_node_19 rfl rfl ?_
    refine ab_iconst (pc := 20) (v := 1) dX4_node_20 (by decide) ?_
    refine ab_V1 (pc := 21) dX4_node_21 mvX4_113 rfl rfl (kX4_no) (ab_ki fun r21 h21 e21 => ?_)
    obtain ⟨rfl, rfl⟩ := And.intro e21.1.symm e21.2.symm
    exact ab_reti (pc := 24) dX4_node_24 rfl ⟨_, rfl, (by constructor <;> first | rw [if_neg (and_nl (ne_true_of_eq_false c6))] | rw [if_neg (and_nr (ne_true_of_eq_false c16))])⟩
  · replace c6 := b2i_1.mp c6
    refine ab_iload_n (pc := 9) dX4_node_9 rfl rfl ?_
    refine ab_iload_n (pc := 10) dX4_node_10 rfl rfl ?_
    refine ab_iload (pc := 11) dX4_node_11 rfl ?_
    refine ab_S3 (pc := 13) dX4_node_13 msX4_109 rfl (kX4_right) (ab_ki fun r13 h13 e13 => ?_)
    obtain ⟨rfl, rfl⟩ := And.intro e13.1.symm e13.2.symm
    refine ab_if_ne (pc := 16) 25 dX4_node_16 (by decide) (fun c16 => ?_) (fun c16 => ?_)
    · replace c16 := b2i_1.mp c16
      have hw : vp_in w 8 := m_within_8 c6
      have e4 : m_look g oN 4 w.toNatClampNeg = h 4 w.toNatClampNeg := by rw [← h4 c6]; rfl
      have ho3 : ¬ m_look g oN 0 39 = 0 → vp_in (m_look g oN 0 39 - 1) 80 := fun z => by
        have e : m_look g oN 0 39 = nI oN := ho c6
        rw [e] at z ⊢
        cases oN with
        | zero => exact absurd rfl z
        | succ j => rw [nI_pred]; exact vp_in_nI (by omega) (by omega)
      refine ab_aload_n (pc := 25) dX4_node_25 rfl rfl ?_
      refine ab_iload_n (pc := 26) dX4_node_26 rfl rfl ?_
      refine ab_V1 (pc := 27) dX4_node_27 mvX4_117 rfl rfl (kX4_look hw (hl c6) (ho c6) ho2) (ab_kv fun h27 e27 => ?_)
      obtain rfl := e27.symm
      refine ab_aload_n (pc := 30) dX4_node_30 rfl rfl ?_
      refine ab_iload_n (pc := 31) dX4_node_31 rfl rfl ?_
      refine ab_iload (pc := 32) dX4_node_32 rfl ?_
      refine ab_V2 (pc := 34) dX4_node_34 mvX4_121 rfl rfl (kX4_stands ho3) (ab_ki fun r34 h34 e34 => ?_)
      obtain ⟨rfl, rfl⟩ := And.intro e34.1.symm e34.2.symm
      refine ab_if_eq (pc := 37) 51 dX4_node_37 (by decide) (fun c37 => ?_) (fun c37 => ?_)
      · replace c37 := b2i_0.mp c37
        refine ab_aload_n (pc := 51) dX4_node_51 rfl rfl ?_
        refine ab_iconst (pc := 52) (v := 2) dX4_node_52 (by decide) ?_
        refine ab_V1 (pc := 53) dX4_node_53 mvX4_113 rfl rfl (kX4_no) (ab_ki fun r53 h53 e53 => ?_)
        obtain ⟨rfl, rfl⟩ := And.intro e53.1.symm e53.2.symm
        exact ab_reti (pc := 56) dX4_node_56 rfl ⟨_, rfl, (by constructor <;> rw [if_pos (show m_within w 7 = true ∧ m_right s a b = true from And.intro c6 c16)] <;> first | rw [m_nodeR, if_neg (ne_true_of_eq_false c37)] | rw [m_nodeH, if_neg (ne_true_of_eq_false c37)] | rw [m_nodeR, if_pos c37, if_pos c48] | rw [m_nodeH, if_pos c37, if_pos c48])⟩
      · replace c37 := b2i_1.mp c37
        refine ab_aload_n (pc := 40) dX4_node_40 rfl rfl ?_
        refine ab_getr (pc := 41) dX4_node_41 fX4_19 rfl rfl ?_
        refine ab_iload_n (pc := 44) dX4_node_44 rfl rfl ?_
        refine ab_iald (pc := 45) dX4_node_45 rfl hw ?_
        refine ab_topi (by (try simp only [ab_rd, ab_rdA, Nat.reduceEqDiff, reduceIte, e4]); exact rfl) ?_
        refine ab_bipush (pc := 46) (v := 60) dX4_node_46 (by decide) ?_
        refine ab_icmp_ne (pc := 48) 57 dX4_node_48 (by decide) (fun c48 => ?_) (fun c48 => ?_)
        · refine ab_aload_n (pc := 57) dX4_node_57 rfl rfl ?_
          refine ab_iconst (pc := 58) (v := 0) dX4_node_58 (by decide) ?_
          refine ab_puti (pc := 59) dX4_node_59 fwX4_92 rfl rfl ?_
          refine ab_bipush (pc := 62) (v := 60) dX4_node_62 (by decide) ?_
          refine ab_iload_n (pc := 64) dX4_node_64 rfl rfl ?_
          refine ab_imul (pc := 65) dX4_node_65 ?_
          refine ab_aload_n (pc := 66) dX4_node_66 rfl rfl ?_
          refine ab_getr (pc := 67) dX4_node_67 fX4_19 rfl rfl ?_
          refine ab_iload_n (pc := 70) dX4_node_70 rfl rfl ?_
          refine ab_iald (pc := 71) dX4_node_71 rfl hw ?_
          refine ab_topi (by (try simp only [ab_rd, ab_rdA, Nat.reduceEqDiff, reduceIte, e4]); exact rfl) ?_
          refine ab_iadd (pc := 72) dX4_node_72 ?_
          refine ab_istore (pc := 73) dX4_node_73 rfl ?_
          refine ab_aload_n (pc := 75) dX4_node_75 rfl rfl ?_
          refine ab_getr (pc := 76) dX4_node_76 fX4_7 rfl rfl ?_
          refine ab_iload (pc := 79) dX4_node_79 rfl ?_
          refine ab_iload_n (pc := 81) dX4_node_81 rfl rfl ?_
          refine ab_iast (pc := 82) dX4_node_82 rfl (hk c6 c48) ?_
          refine ab_aload_n (pc := 83) dX4_node_83 rfl rfl ?_
          refine ab_getr (pc := 84) dX4_node_84 fX4_13 rfl rfl ?_
          refine ab_iload (pc := 87) dX4_node_87 rfl ?_
          refine ab_iload_n (pc := 89) dX4_node_89 rfl rfl ?_
          refine ab_iast (pc := 90) dX4_node_90 rfl (hk c6 c48) ?_
          refine ab_aload_n (pc := 91) dX4_node_91 rfl rfl ?_
          refine ab_getr (pc := 92) dX4_node_92 fX4_16 rfl rfl ?_
          refine ab_iload (pc := 95) dX4_node_95 rfl ?_
          refine ab_iload (pc := 97) dX4_node_97 rfl ?_
          refine ab_iast (pc := 99) dX4_node_99 rfl (hk c6 c48) ?_
          refine ab_aload_n (pc := 100) dX4_node_100 rfl rfl ?_
          refine ab_getr (pc := 101) dX4_node_101 fX4_19 rfl rfl ?_
          refine ab_iload_n (pc := 104) dX4_node_104 rfl rfl ?_
          refine ab_dup2 (pc := 105) dX4_node_105 rfl rfl ?_
          refine ab_iald (pc := 106) dX4_node_106 rfl hw ?_
          refine ab_topi (by (try simp only [ab_rd, ab_rdA, Nat.reduceEqDiff, reduceIte, e4]); exact rfl) ?_
          refine ab_iconst (pc := 107) (v := 1) dX4_node_107 (by decide) ?_
          refine ab_iadd (pc := 108) dX4_node_108 ?_
          refine ab_iast (pc := 109) dX4_node_109 rfl hw ?_
          refine ab_aload_n (pc := 110) dX4_node_110 rfl rfl ?_
          refine ab_getr (pc := 111) dX4_node_111 fX4_19 rfl rfl ?_
          refine ab_iload_n (pc := 114) dX4_node_114 rfl rfl ?_
          refine ab_iald (pc := 115) dX4_node_115 rfl hw ?_
          refine ab_topi (by (try simp only [ab_rd, ab_rdA, Nat.reduceEqDiff, reduceIte, e4]); exact rfl) ?_
          exact ab_reti (pc := 116) dX4_node_116 rfl ⟨_, rfl, (by constructor <;> rw [if_pos (show m_within w 7 = true ∧ m_right s a b = true from And.intro c6 c16)] <;> first | rw [m_nodeR, if_pos c37, if_neg c48] | rw [m_nodeH, if_pos c37, if_neg c48])⟩
        · refine ab_aload_n (pc := 51) dX4_node_51 rfl rfl ?_
          refine ab_iconst (pc := 52) (v := 2) dX4_node_52 (by decide) ?_
          refine ab_V1 (pc := 53) dX4_node_53 mvX4_113 rfl rfl (kX4_no) (ab_ki fun r53 h53 e53 => ?_)
          obtain ⟨rfl, rfl⟩ := And.intro e53.1.symm e53.2.symm
          exact ab_reti (pc := 56) dX4_node_56 rfl ⟨_, rfl, (by constructor <;> rw [if_pos (show m_within w 7 = true ∧ m_right s a b = true from And.intro c6 c16)] <;> first | rw [m_nodeR, if_neg (ne_true_of_eq_false c37)] | rw [m_nodeH, if_neg (ne_true_of_eq_false c37)] | rw [m_nodeR, if_pos c37, if_pos c48] | rw [m_nodeH, if_pos c37, if_pos c48])⟩
    · replace c16 := b2i_0.mp c16
      refine ab_aload_n (pc := 19) dX4_node_19 rfl rfl ?_
      refine ab_iconst (pc := 20) (v := 1) dX4_node_20 (by decide) ?_
      refine ab_V1 (pc := 21) dX4_node_21 mvX4_113 rfl rfl (kX4_no) (ab_ki fun r21 h21 e21 => ?_)
      obtain ⟨rfl, rfl⟩ := And.intro e21.1.symm e21.2.symm
      exact ab_reti (pc := 24) dX4_node_24 rfl ⟨_, rfl, (by constructor <;> first | rw [if_neg (and_nl (ne_true_of_eq_false c6))] | rw [if_neg (and_nr (ne_true_of_eq_false c16))])⟩
