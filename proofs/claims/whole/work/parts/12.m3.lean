/-! the reference's plain steps, and what it undoes -/
theorem ab_heq {l : Launch} {lay : List ab_E} {M : ab_M} {d : Nat} {Q : Option ab_V → ab_H → Prop} {pc : Nat} {L : List (Nat × ab_V)} {S : List ab_V} {h h' : ab_H} (e : h = h') (k : ab_J l lay M d Q pc L S h') : ab_J l lay M d Q pc L S h := by
  rw [e]
  exact k
theorem ab_rd (h : ab_H) (i k : Nat) (v : Int32) (j n : Nat) : ab_up h i k v j n = if j = i then (if n = k then v else h i n) else h j n := by
  by_cases e : j = i
  · simp [ab_up, e, upd]
  · simp [ab_up, e]
theorem ab_rdA (h : ab_H) (i : Nat) (g : Nat → Int32) (j n : Nat) : ab_upA h i g j n = if j = i then g n else h j n := by
  by_cases e : j = i
  · simp [ab_upA, e]
  · simp [ab_upA, e]
theorem ab_up_upA (h : ab_H) (i k : Nat) (g : Nat → Int32) (v : Int32) : ab_up (ab_upA h i g) i k v = ab_upA h i (upd g k v) := by
  funext j
  by_cases e : j = i
  · simp [ab_up, ab_upA, e]
  · simp [ab_up, ab_upA, e]
theorem ab_upA_0 (h : ab_H) (i : Nat) : ab_upA h i (h i) = h := by
  funext j
  by_cases e : j = i
  · rw [e]; simp [ab_upA]
  · simp [ab_upA, e]
theorem va_cpy_0 {α : Type} (f g : Nat → α) (sp dp : Nat) : va_cpy f g sp dp 0 = g := by
  funext j
  exact pk_cpy_out (by omega)
theorem va_cpy_s (f g : Nat → Int32) (sp dp k : Nat) : upd (va_cpy f g sp dp k) (dp + k) (f (sp + k)) = va_cpy f g sp dp (k + 1) := by
  funext j
  by_cases e : j = dp + k
  · subst e
    rw [pk_us, pk_cpy_in (by omega) (by omega)]
    congr 1
    omega
  · rw [pk_un e]
    by_cases e2 : dp ≤ j ∧ j < dp + k
    · rw [pk_cpy_in e2.1 e2.2, pk_cpy_in e2.1 (by omega)]
    · rw [pk_cpy_out (by omega), pk_cpy_out (by omega)]
theorem m_16 {x : Int32} {u k : Nat} (hu : x = nI u) : 16 * x + nI k = nI (16 * u + k) := by
  rw [hu, show (16 : Int32) = nI 16 from rfl, pk_mul, nI_add]
theorem m_in16 {x : Int32} {u k : Nat} (hu : x = nI u) (hu2 : u < 70) (hk : k < 16) : vp_in (16 * x + nI k) 1120 := by
  rw [m_16 hu]
  exact vp_in_nI (by omega) (by omega)
theorem m_ge16 {k : Nat} (hk : k ≤ 16) (c : 16 ≤ nI k) : k = 16 := by
  have : nI 16 ≤ nI k := c
  rw [nI_leI (by omega) (by omega)] at this
  omega
theorem m_lt16 {k : Nat} (hk : k ≤ 16) (c : ¬ 16 ≤ nI k) : k < 16 := by
  rcases Nat.lt_or_ge k 16 with h | h
  · exact h
  · exact absurd (show nI 16 ≤ nI k from nI_le h (by omega)) c
/-- the sum of the openings less the ENDs, from k on to below e -/
def m_une (f : Nat → Int32) (e : Int32) : Nat → Int32 → Int32 → Option Int32
  | 0, _, _ => none
  | g + 1, k, n => if e ≤ k then some n else if k < 0 ∨ 480 ≤ k.toNatClampNeg then none else m_une f e g (k + 1) (m_dstep (f k.toNatClampNeg) n)
theorem m_une_in {f : Nat → Int32} {e : Int32} {g : Nat} {k n r : Int32} (hr : m_une f e (g + 1) k n = some r) : (e ≤ k → r = n) ∧ (¬ e ≤ k → vp_in k 480 ∧ ∀ dd, m_dstep (f k.toNatClampNeg) n = dd → m_une f e g (k + 1) dd = some r) := by
  rw [m_une] at hr
  refine ⟨fun c => ?_, fun c => ?_⟩
  · rw [if_pos c] at hr
    exact (Option.some.inj hr).symm
  · rw [if_neg c] at hr
    by_cases hi : k < 0 ∨ 480 ≤ k.toNatClampNeg
    · rw [if_pos hi] at hr
      cases hr
    · rw [if_neg hi] at hr
      exact ⟨hi, fun dd e => by rw [← e]; exact hr⟩
def m_unended (h : ab_H) (w : Int32) : Option Int32 := m_une (h 1) (60 * w + h 4 w.toNatClampNeg) 481 (60 * w) 0
def m_rem (h : ab_H) (s a was : Int32) : ab_H := if h 0 30 = 0 then h else
  ab_up (if s = 6 then ab_upA (ab_up (ab_up (ab_up h 13 (h 0 28).toNatClampNeg s) 14 (h 0 28).toNatClampNeg a) 15 (h 0 28).toNatClampNeg was) 16 (va_cpy (h 6) (h 16) 0 (16 * (h 0 28).toNatClampNeg) 16)
    else ab_up (ab_up (ab_up h 13 (h 0 28).toNatClampNeg s) 14 (h 0 28).toNatClampNeg a) 15 (h 0 28).toNatClampNeg was) 0 28 (h 0 28 + 1)
theorem m_rr_s {h : ab_H} {u k : Nat} (hu : h 0 28 = nI u) (hu2 : u < 70) (hk : k < 16) : ab_up (ab_upA h 16 (va_cpy (h 6) (h 16) 0 (16 * u) k)) 16 (16 * h 0 28 + nI k).toNatClampNeg (h 6 (nI k).toNatClampNeg) = ab_upA h 16 (va_cpy (h 6) (h 16) 0 (16 * u) (k + 1)) := by
  rw [ab_up_upA, m_16 hu, nI_clamp (by omega), nI_clamp (by omega), ← va_cpy_s, Nat.zero_add]
set_option maxRecDepth 100000 in
set_option maxHeartbeats 4000000 in
theorem lpX4_unended {l : Launch} {d : Nat} {h : ab_H} {w : Int32} (hw : vp_in w 8) : ∀ (n : Nat) (k m r : Int32), m_une (h 1) (60 * w + h 4 w.toNatClampNeg) n k m = some r → ab_J l layM mX4_unended (d + 1) (ab_qi fun z h' => z = r ∧ h' = h) 7 [(0, ab_R 0), (1, ab_I w), (2, ab_I m), (3, ab_I k)] [] h := by
  intro n
  induction n with
  | zero =>
    intro k m r hr
    cases hr
  | succ n ih =>
    intro k m r hr
    obtain ⟨hr1, hr2⟩ := m_une_in hr
    refine ab_iload_n (pc := 7) dX4_unended_7 rfl rfl ?_
    refine ab_bipush (pc := 8) (v := 60) dX4_unended_8 (by decide) ?_
    refine ab_iload_n (pc := 10) dX4_unended_10 rfl rfl ?_
    refine ab_imul (pc := 11) dX4_unended_11 ?_
    refine ab_aload_n (pc := 12) dX4_unended_12 rfl rfl ?_
    refine ab_getr (pc := 13) dX4_unended_13 fX4_19 rfl rfl ?_
    refine ab_iload_n (pc := 16) dX4_unended_16 rfl rfl ?_
    refine ab_iald (pc := 17) dX4_unended_17 rfl (by assumption) ?_
    refine ab_iadd (pc := 18) dX4_unended_18 ?_
    refine ab_icmp_ge (pc := 19) 57 dX4_unended_19 (by decide) (fun c19 => ?_) (fun c19 => ?_)
    · refine ab_iload_n (pc := 57) dX4_unended_57 rfl rfl ?_
      exact ab_reti (pc := 58) dX4_unended_58 rfl ⟨_, rfl, ⟨(hr1 (by assumption)).symm, rfl⟩⟩
    · obtain ⟨hin, hr3⟩ := hr2 (by assumption)
      refine ab_aload_n (pc := 22) dX4_unended_22 rfl rfl ?_
      refine ab_getr (pc := 23) dX4_unended_23 fX4_7 rfl rfl ?_
      refine ab_iload_n (pc := 26) dX4_unended_26 rfl rfl ?_
      refine ab_iald (pc := 27) dX4_unended_27 rfl (by assumption) ?_
      refine ab_S1 (pc := 28) dX4_unended_28 msX4_98 rfl (kX4_opens) (ab_ki fun r28 h28 e28 => ?_)
      obtain ⟨rfl, rfl⟩ := And.intro e28.1.symm e28.2.symm
      refine ab_if_eq (pc := 31) 37 dX4_unended_31 (by decide) (fun c31 => ?_) (fun c31 => ?_)
      · replace c31 := b2i_0.mp c31
        refine ab_aload_n (pc := 37) dX4_unended_37 rfl rfl ?_
        refine ab_getr (pc := 38) dX4_unended_38 fX4_7 rfl rfl ?_
        refine ab_iload_n (pc := 41) dX4_unended_41 rfl rfl ?_
        refine ab_iald (pc := 42) dX4_unended_42 rfl (by assumption) ?_
        refine ab_bipush (pc := 43) (v := 16) dX4_unended_43 (by decide) ?_
        refine ab_icmp_ne (pc := 45) 51 dX4_unended_45 (by decide) (fun c45 => ?_) (fun c45 => ?_)
        · refine ab_iinc (pc := 51) (v := 1) dX4_unended_51 rfl (by decide) rfl ?_
          refine ab_goto (pc := 54) 7 dX4_unended_54 (by decide) ?_
          refine ab_weak [(0, ab_R 0), (1, ab_I _), (2, ab_I _), (3, ab_I _)] ⟨rfl, rfl, rfl, rfl, trivial⟩ ?_
          exact ih _ _ _ (hr3 _ (by first | rw [m_dstep, if_pos c45, if_pos c31] | rw [m_dstep, if_pos c45, if_neg (ne_true_of_eq_false c31)] | rw [m_dstep, if_neg c45, if_pos c31] | rw [m_dstep, if_neg c45, if_neg (ne_true_of_eq_false c31)]))
        · refine ab_iinc (pc := 48) (v := (-1)) dX4_unended_48 rfl (by decide) rfl ?_
          refine ab_iinc (pc := 51) (v := 1) dX4_unended_51 rfl (by decide) rfl ?_
          refine ab_goto (pc := 54) 7 dX4_unended_54 (by decide) ?_
          refine ab_weak [(0, ab_R 0), (1, ab_I _), (2, ab_I _), (3, ab_I _)] ⟨rfl, rfl, rfl, rfl, trivial⟩ ?_
          exact ih _ _ _ (hr3 _ (by first | rw [m_dstep, if_pos c45, if_pos c31] | rw [m_dstep, if_pos c45, if_neg (ne_true_of_eq_false c31)] | rw [m_dstep, if_neg c45, if_pos c31] | rw [m_dstep, if_neg c45, if_neg (ne_true_of_eq_false c31)]))
      · replace c31 := b2i_1.mp c31
        refine ab_iinc (pc := 34) (v := 1) dX4_unended_34 rfl (by decide) rfl ?_
        refine ab_aload_n (pc := 37) dX4_unended_37 rfl rfl ?_
        refine ab_getr (pc := 38) dX4_unended_38 fX4_7 rfl rfl ?_
        refine ab_iload_n (pc := 41) dX4_unended_41 rfl rfl ?_
        refine ab_iald (pc := 42) dX4_unended_42 rfl (by assumption) ?_
        refine ab_bipush (pc := 43) (v := 16) dX4_unended_43 (by decide) ?_
        refine ab_icmp_ne (pc := 45) 51 dX4_unended_45 (by decide) (fun c45 => ?_) (fun c45 => ?_)
        · refine ab_iinc (pc := 51) (v := 1) dX4_unended_51 rfl (by decide) rfl ?_
          refine ab_goto (pc := 54) 7 dX4_unended_54 (by decide) ?_
          refine ab_weak [(0, ab_R 0), (1, ab_I _), (2, ab_I _), (3, ab_I _)] ⟨rfl, rfl, rfl, rfl, trivial⟩ ?_
          exact ih _ _ _ (hr3 _ (by first | rw [m_dstep, if_pos c45, if_pos c31] | rw [m_dstep, if_pos c45, if_neg (ne_true_of_eq_false c31)] | rw [m_dstep, if_neg c45, if_pos c31] | rw [m_dstep, if_neg c45, if_neg (ne_true_of_eq_false c31)]))
        · refine ab_iinc (pc := 48) (v := (-1)) dX4_unended_48 rfl (by decide) rfl ?_
          refine ab_iinc (pc := 51) (v := 1) dX4_unended_51 rfl (by decide) rfl ?_
          refine ab_goto (pc := 54) 7 dX4_unended_54 (by decide) ?_
          refine ab_weak [(0, ab_R 0), (1, ab_I _), (2, ab_I _), (3, ab_I _)] ⟨rfl, rfl, rfl, rfl, trivial⟩ ?_
          exact ih _ _ _ (hr3 _ (by first | rw [m_dstep, if_pos c45, if_pos c31] | rw [m_dstep, if_pos c45, if_neg (ne_true_of_eq_false c31)] | rw [m_dstep, if_neg c45, if_pos c31] | rw [m_dstep, if_neg c45, if_neg (ne_true_of_eq_false c31)]))

set_option maxRecDepth 100000 in
set_option maxHeartbeats 4000000 in
theorem kX4_unended {l : Launch} {d : Nat} {h : ab_H} {w r : Int32} (hw : vp_in w 8) (hr : m_unended h w = some r) : ab_C l layM (d + 1) mX4_unended [ab_R 0, ab_I w] h (ab_qi fun z h' => z = r ∧ h' = h) := by
  refine ab_enter (by decide) (Nat.le_of_ble_eq_true rfl) ?_
  refine ab_iconst (pc := 0) (v := 0) dX4_unended_0 (by decide) ?_
  refine ab_istore_n (pc := 1) dX4_unended_1 rfl rfl ?_
  refine ab_bipush (pc := 2) (v := 60) dX4_unended_2 (by decide) ?_
  refine ab_iload_n (pc := 4) dX4_unended_4 rfl rfl ?_
  refine ab_imul (pc := 5) dX4_unended_5 ?_
  refine ab_istore_n (pc := 6) dX4_unended_6 rfl rfl ?_
  refine ab_weak [(0, ab_R 0), (1, ab_I _), (2, ab_I _), (3, ab_I _)] ⟨rfl, rfl, rfl, rfl, trivial⟩ ?_
  exact lpX4_unended hw _ _ _ _ hr

set_option maxRecDepth 100000 in
set_option maxHeartbeats 4000000 in
theorem lpX4_remember {l : Launch} {d : Nat} {h : ab_H} {u : Nat} (hu : h 0 28 = nI u) (hu2 : u < 70) {P : ab_H → Prop} (hP : P (ab_up (ab_upA h 16 (va_cpy (h 6) (h 16) 0 (16 * u) 16)) 0 28 (h 0 28 + 1))) : ∀ (n : Nat) (k : Nat), k ≤ 16 → 16 < k + n → ab_J l layM mX4_remember (d) (ab_qv P) 47 [(0, ab_R 0), (4, ab_I (nI k))] [] (ab_upA h 16 (va_cpy (h 6) (h 16) 0 (16 * u) k)) := by
  intro n
  induction n with
  | zero =>
    intro k hk hn
    omega
  | succ n ih =>
    intro k hk hn
    refine ab_iload (pc := 47) dX4_remember_47 rfl ?_
    refine ab_bipush (pc := 49) (v := 16) dX4_remember_49 (by decide) ?_
    refine ab_icmp_ge (pc := 51) 82 dX4_remember_51 (by decide) (fun c51 => ?_) (fun c51 => ?_)
    · obtain rfl := m_ge16 hk (by assumption)
      refine ab_aload_n (pc := 82) dX4_remember_82 rfl rfl ?_
      refine ab_dup (pc := 83) dX4_remember_83 rfl ?_
      refine ab_geti (pc := 84) dX4_remember_84 fX4_130 rfl rfl ?_
      refine ab_iconst (pc := 87) (v := 1) dX4_remember_87 (by decide) ?_
      refine ab_iadd (pc := 88) dX4_remember_88 ?_
      refine ab_puti (pc := 89) dX4_remember_89 fwX4_130 rfl rfl ?_
      exact ab_retv (pc := 92) dX4_remember_92 rfl ⟨rfl, hP⟩
    · have hk2 := m_lt16 hk (by assumption)
      refine ab_aload_n (pc := 54) dX4_remember_54 rfl rfl ?_
      refine ab_getr (pc := 55) dX4_remember_55 fX4_62 rfl rfl ?_
      refine ab_bipush (pc := 58) (v := 16) dX4_remember_58 (by decide) ?_
      refine ab_aload_n (pc := 60) dX4_remember_60 rfl rfl ?_
      refine ab_geti (pc := 61) dX4_remember_61 fX4_130 rfl rfl ?_
      refine ab_imul (pc := 64) dX4_remember_64 ?_
      refine ab_iload (pc := 65) dX4_remember_65 rfl ?_
      refine ab_iadd (pc := 67) dX4_remember_67 ?_
      refine ab_aload_n (pc := 68) dX4_remember_68 rfl rfl ?_
      refine ab_getr (pc := 69) dX4_remember_69 fX4_25 rfl rfl ?_
      refine ab_iload (pc := 72) dX4_remember_72 rfl ?_
      refine ab_iald (pc := 74) dX4_remember_74 rfl (vp_in_nI hk2 (by omega)) ?_
      refine ab_iast (pc := 75) dX4_remember_75 rfl (m_in16 hu hu2 hk2) ?_
      refine ab_iinc (pc := 76) (v := 1) dX4_remember_76 rfl (by decide) rfl ?_
      refine ab_goto (pc := 79) 47 dX4_remember_79 (by decide) ?_
      refine ab_weak [(0, ab_R 0), (4, ab_I (nI k + 1))] ⟨rfl, rfl, trivial⟩ ?_
      rw [nI_1]
      exact ab_heq (m_rr_s hu hu2 hk2) (ih (k + 1) (by omega) (by omega))

set_option maxRecDepth 100000 in
set_option maxHeartbeats 4000000 in
theorem kX4_remember {l : Launch} {d : Nat} {h : ab_H} {u : Nat} {s a was : Int32} (hu : h 0 28 = nI u) (hu2 : u < 70) : ab_C l layM (d) mX4_remember [ab_R 0, ab_I s, ab_I a, ab_I was] h (ab_qv fun h' => h' = m_rem h s a was) := by
  refine ab_enter (by decide) (Nat.le_of_ble_eq_true rfl) ?_
  have hin : vp_in (h 0 28) 70 := by rw [hu]; exact vp_in_nI hu2 (by omega)
  refine ab_aload_n (pc := 0) dX4_remember_0 rfl rfl ?_
  refine ab_geti (pc := 1) dX4_remember_1 fX4_127 rfl rfl ?_
  refine ab_if_ne (pc := 4) 8 dX4_remember_4 (by decide) (fun c4 => ?_) (fun c4 => ?_)
  · refine ab_aload_n (pc := 8) dX4_remember_8 rfl rfl ?_
    refine ab_getr (pc := 9) dX4_remember_9 fX4_53 rfl rfl ?_
    refine ab_aload_n (pc := 12) dX4_remember_12 rfl rfl ?_
    refine ab_geti (pc := 13) dX4_remember_13 fX4_130 rfl rfl ?_
    refine ab_iload_n (pc := 16) dX4_remember_16 rfl rfl ?_
    refine ab_iast (pc := 17) dX4_remember_17 rfl (by assumption) ?_
    refine ab_aload_n (pc := 18) dX4_remember_18 rfl rfl ?_
    refine ab_getr (pc := 19) dX4_remember_19 fX4_56 rfl rfl ?_
    refine ab_aload_n (pc := 22) dX4_remember_22 rfl rfl ?_
    refine ab_geti (pc := 23) dX4_remember_23 fX4_130 rfl rfl ?_
    refine ab_iload_n (pc := 26) dX4_remember_26 rfl rfl ?_
    refine ab_iast (pc := 27) dX4_remember_27 rfl (by assumption) ?_
    refine ab_aload_n (pc := 28) dX4_remember_28 rfl rfl ?_
    refine ab_getr (pc := 29) dX4_remember_29 fX4_59 rfl rfl ?_
    refine ab_aload_n (pc := 32) dX4_remember_32 rfl rfl ?_
    refine ab_geti (pc := 33) dX4_remember_33 fX4_130 rfl rfl ?_
    refine ab_iload_n (pc := 36) dX4_remember_36 rfl rfl ?_
    refine ab_iast (pc := 37) dX4_remember_37 rfl (by assumption) ?_
    refine ab_iload_n (pc := 38) dX4_remember_38 rfl rfl ?_
    refine ab_bipush (pc := 39) (v := 6) dX4_remember_39 (by decide) ?_
    refine ab_icmp_ne (pc := 41) 82 dX4_remember_41 (by decide) (fun c41 => ?_) (fun c41 => ?_)
    · refine ab_aload_n (pc := 82) dX4_remember_82 rfl rfl ?_
      refine ab_dup (pc := 83) dX4_remember_83 rfl ?_
      refine ab_geti (pc := 84) dX4_remember_84 fX4_130 rfl rfl ?_
      refine ab_iconst (pc := 87) (v := 1) dX4_remember_87 (by decide) ?_
      refine ab_iadd (pc := 88) dX4_remember_88 ?_
      refine ab_puti (pc := 89) dX4_remember_89 fwX4_130 rfl rfl ?_
      exact ab_retv (pc := 92) dX4_remember_92 rfl ⟨rfl, (by simp [m_rem, ab_rd, c4, c41])⟩
    · refine ab_iconst (pc := 44) (v := 0) dX4_remember_44 (by decide) ?_
      refine ab_istore (pc := 45) dX4_remember_45 rfl ?_
      refine ab_weak [(0, ab_R 0), (4, ab_I (nI 0))] ⟨rfl, rfl, trivial⟩ ?_
      refine ab_heq ?_ (lpX4_remember (h := ab_up (ab_up (ab_up h 13 (h 0 28).toNatClampNeg s) 14 (h 0 28).toNatClampNeg a) 15 (h 0 28).toNatClampNeg was) hu hu2 ?_ 17 0 (by omega) (by omega))
      · rw [va_cpy_0, ab_upA_0]
        rfl
      · show _ = m_rem h s a was
        rw [m_rem, if_neg c4, if_pos c41, show (h 0 28).toNatClampNeg = u by rw [hu]; exact nI_clamp (by omega)]
        rfl
  · exact ab_retv (pc := 7) dX4_remember_7 rfl ⟨rfl, (by rw [m_rem, if_pos c4])⟩
