/-! the reference's searches -/
theorem b2i_0 {b : Bool} : b2i b = 0 ↔ b = false := by cases b <;> decide
theorem b2i_1 {b : Bool} : ¬ b2i b = 0 ↔ b = true := by cases b <;> decide
def m_part (s : Int32) : Bool := decide (s = 11) || (decide (s = 12) || (decide (s = 22) || decide (s = 16)))
def m_dstep (s deep : Int32) : Int32 := if s = 16 then (if m_opens s = true then deep + 1 else deep) + -1 else (if m_opens s = true then deep + 1 else deep)
def m_aft (f : Nat → Int32) : Nat → Int32 → Int32 → Option Int32
  | 0, _, _ => none
  | n + 1, x, deep => if x < 0 ∨ 480 ≤ x.toNatClampNeg then none else if ¬ 0 < deep ∧ m_part (f x.toNatClampNeg) = true then some x else m_aft f n (x + 1) (m_dstep (f x.toNatClampNeg) deep)
theorem m_aft_in {f : Nat → Int32} {n : Nat} {x deep r : Int32} (hr : m_aft f (n + 1) x deep = some r) : vp_in x 480 ∧ (if ¬ 0 < deep ∧ m_part (f x.toNatClampNeg) = true then some x else m_aft f n (x + 1) (m_dstep (f x.toNatClampNeg) deep)) = some r := by
  rw [m_aft] at hr
  by_cases hi : x < 0 ∨ 480 ≤ x.toNatClampNeg
  · rw [if_pos hi] at hr
    cases hr
  · rw [if_neg hi] at hr
    exact ⟨hi, hr⟩
theorem m_aft_go {f : Nat → Int32} {n : Nat} {x s deep r dd : Int32} (hr : (if ¬ 0 < deep ∧ m_part s = true then some x else m_aft f n (x + 1) (m_dstep s deep)) = some r) (hn : ¬ (¬ 0 < deep ∧ m_part s = true)) (e : m_dstep s deep = dd) : m_aft f n (x + 1) dd = some r := by
  rw [if_neg hn, e] at hr
  exact hr
set_option maxRecDepth 100000 in
set_option maxHeartbeats 4000000 in
theorem lpX4_after {l : Launch} {d : Nat} {h : ab_H} : ∀ (n : Nat) (x deep r : Int32), m_aft (h 1) n x deep = some r → ab_J l layM mX4_after (d + 1) (ab_qi fun z h' => z = r ∧ h' = h) 4 [(0, ab_R 0), (2, ab_I deep), (3, ab_I x)] [] h := by
  intro n
  induction n with
  | zero =>
    intro x deep r hr
    cases hr
  | succ n ih =>
    intro x deep r hr
    obtain ⟨hin, hr⟩ := m_aft_in hr
    refine ab_iload_n (pc := 4) dX4_after_4 rfl rfl ?_
    refine ab_if_gt (pc := 5) 52 dX4_after_5 (by decide) (fun c5 => ?_) (fun c5 => ?_)
    · refine ab_aload_n (pc := 52) dX4_after_52 rfl rfl ?_
      refine ab_getr (pc := 53) dX4_after_53 fX4_7 rfl rfl ?_
      refine ab_iload_n (pc := 56) dX4_after_56 rfl rfl ?_
      refine ab_iald (pc := 57) dX4_after_57 rfl (by assumption) ?_
      refine ab_S1 (pc := 58) dX4_after_58 msX4_98 rfl (kX4_opens) (ab_ki fun r58 h58 e58 => ?_)
      obtain ⟨rfl, rfl⟩ := And.intro e58.1.symm e58.2.symm
      refine ab_if_eq (pc := 61) 67 dX4_after_61 (by decide) (fun c61 => ?_) (fun c61 => ?_)
      · replace c61 := b2i_0.mp c61
        refine ab_aload_n (pc := 67) dX4_after_67 rfl rfl ?_
        refine ab_getr (pc := 68) dX4_after_68 fX4_7 rfl rfl ?_
        refine ab_iload_n (pc := 71) dX4_after_71 rfl rfl ?_
        refine ab_iald (pc := 72) dX4_after_72 rfl (by assumption) ?_
        refine ab_bipush (pc := 73) (v := 16) dX4_after_73 (by decide) ?_
        refine ab_icmp_ne (pc := 75) 81 dX4_after_75 (by decide) (fun c75 => ?_) (fun c75 => ?_)
        · refine ab_iinc (pc := 81) (v := 1) dX4_after_81 rfl (by decide) rfl ?_
          refine ab_goto (pc := 84) 4 dX4_after_84 (by decide) ?_
          refine ab_weak [(0, ab_R 0), (2, ab_I _), (3, ab_I _)] ⟨rfl, rfl, rfl, trivial⟩ ?_
          exact ih _ _ _ (m_aft_go hr (by first | exact fun q => q.1 c5 | (simp [m_part, c16, c27, c38, c49]; done)) (by first | rw [m_dstep, if_pos c75, if_pos c61] | rw [m_dstep, if_pos c75, if_neg (ne_true_of_eq_false c61)] | rw [m_dstep, if_neg c75, if_pos c61] | rw [m_dstep, if_neg c75, if_neg (ne_true_of_eq_false c61)]))
        · refine ab_iinc (pc := 78) (v := (-1)) dX4_after_78 rfl (by decide) rfl ?_
          refine ab_iinc (pc := 81) (v := 1) dX4_after_81 rfl (by decide) rfl ?_
          refine ab_goto (pc := 84) 4 dX4_after_84 (by decide) ?_
          refine ab_weak [(0, ab_R 0), (2, ab_I _), (3, ab_I _)] ⟨rfl, rfl, rfl, trivial⟩ ?_
          exact ih _ _ _ (m_aft_go hr (by first | exact fun q => q.1 c5 | (simp [m_part, c16, c27, c38, c49]; done)) (by first | rw [m_dstep, if_pos c75, if_pos c61] | rw [m_dstep, if_pos c75, if_neg (ne_true_of_eq_false c61)] | rw [m_dstep, if_neg c75, if_pos c61] | rw [m_dstep, if_neg c75, if_neg (ne_true_of_eq_false c61)]))
      · replace c61 := b2i_1.mp c61
        refine ab_iinc (pc := 64) (v := 1) dX4_after_64 rfl (by decide) rfl ?_
        refine ab_aload_n (pc := 67) dX4_after_67 rfl rfl ?_
        refine ab_getr (pc := 68) dX4_after_68 fX4_7 rfl rfl ?_
        refine ab_iload_n (pc := 71) dX4_after_71 rfl rfl ?_
        refine ab_iald (pc := 72) dX4_after_72 rfl (by assumption) ?_
        refine ab_bipush (pc := 73) (v := 16) dX4_after_73 (by decide) ?_
        refine ab_icmp_ne (pc := 75) 81 dX4_after_75 (by decide) (fun c75 => ?_) (fun c75 => ?_)
        · refine ab_iinc (pc := 81) (v := 1) dX4_after_81 rfl (by decide) rfl ?_
          refine ab_goto (pc := 84) 4 dX4_after_84 (by decide) ?_
          refine ab_weak [(0, ab_R 0), (2, ab_I _), (3, ab_I _)] ⟨rfl, rfl, rfl, trivial⟩ ?_
          exact ih _ _ _ (m_aft_go hr (by first | exact fun q => q.1 c5 | (simp [m_part, c16, c27, c38, c49]; done)) (by first | rw [m_dstep, if_pos c75, if_pos c61] | rw [m_dstep, if_pos c75, if_neg (ne_true_of_eq_false c61)] | rw [m_dstep, if_neg c75, if_pos c61] | rw [m_dstep, if_neg c75, if_neg (ne_true_of_eq_false c61)]))
        · refine ab_iinc (pc := 78) (v := (-1)) dX4_after_78 rfl (by decide) rfl ?_
          refine ab_iinc (pc := 81) (v := 1) dX4_after_81 rfl (by decide) rfl ?_
          refine ab_goto (pc := 84) 4 dX4_after_84 (by decide) ?_
          refine ab_weak [(0, ab_R 0), (2, ab_I _), (3, ab_I _)] ⟨rfl, rfl, rfl, trivial⟩ ?_
          exact ih _ _ _ (m_aft_go hr (by first | exact fun q => q.1 c5 | (simp [m_part, c16, c27, c38, c49]; done)) (by first | rw [m_dstep, if_pos c75, if_pos c61] | rw [m_dstep, if_pos c75, if_neg (ne_true_of_eq_false c61)] | rw [m_dstep, if_neg c75, if_pos c61] | rw [m_dstep, if_neg c75, if_neg (ne_true_of_eq_false c61)]))
    · refine ab_aload_n (pc := 8) dX4_after_8 rfl rfl ?_
      refine ab_getr (pc := 9) dX4_after_9 fX4_7 rfl rfl ?_
      refine ab_iload_n (pc := 12) dX4_after_12 rfl rfl ?_
      refine ab_iald (pc := 13) dX4_after_13 rfl (by assumption) ?_
      refine ab_bipush (pc := 14) (v := 11) dX4_after_14 (by decide) ?_
      refine ab_icmp_eq (pc := 16) 87 dX4_after_16 (by decide) (fun c16 => ?_) (fun c16 => ?_)
      · refine ab_iload_n (pc := 87) dX4_after_87 rfl rfl ?_
        exact ab_reti (pc := 88) dX4_after_88 rfl ⟨_, rfl, ⟨by simpa [m_part, *] using hr, rfl⟩⟩
      · refine ab_aload_n (pc := 19) dX4_after_19 rfl rfl ?_
        refine ab_getr (pc := 20) dX4_after_20 fX4_7 rfl rfl ?_
        refine ab_iload_n (pc := 23) dX4_after_23 rfl rfl ?_
        refine ab_iald (pc := 24) dX4_after_24 rfl (by assumption) ?_
        refine ab_bipush (pc := 25) (v := 12) dX4_after_25 (by decide) ?_
        refine ab_icmp_eq (pc := 27) 87 dX4_after_27 (by decide) (fun c27 => ?_) (fun c27 => ?_)
        · refine ab_iload_n (pc := 87) dX4_after_87 rfl rfl ?_
          exact ab_reti (pc := 88) dX4_after_88 rfl ⟨_, rfl, ⟨by simpa [m_part, *] using hr, rfl⟩⟩
        · refine ab_aload_n (pc := 30) dX4_after_30 rfl rfl ?_
          refine ab_getr (pc := 31) dX4_after_31 fX4_7 rfl rfl ?_
          refine ab_iload_n (pc := 34) dX4_after_34 rfl rfl ?_
          refine ab_iald (pc := 35) dX4_after_35 rfl (by assumption) ?_
          refine ab_bipush (pc := 36) (v := 22) dX4_after_36 (by decide) ?_
          refine ab_icmp_eq (pc := 38) 87 dX4_after_38 (by decide) (fun c38 => ?_) (fun c38 => ?_)
          · refine ab_iload_n (pc := 87) dX4_after_87 rfl rfl ?_
            exact ab_reti (pc := 88) dX4_after_88 rfl ⟨_, rfl, ⟨by simpa [m_part, *] using hr, rfl⟩⟩
          · refine ab_aload_n (pc := 41) dX4_after_41 rfl rfl ?_
            refine ab_getr (pc := 42) dX4_after_42 fX4_7 rfl rfl ?_
            refine ab_iload_n (pc := 45) dX4_after_45 rfl rfl ?_
            refine ab_iald (pc := 46) dX4_after_46 rfl (by assumption) ?_
            refine ab_bipush (pc := 47) (v := 16) dX4_after_47 (by decide) ?_
            refine ab_icmp_eq (pc := 49) 87 dX4_after_49 (by decide) (fun c49 => ?_) (fun c49 => ?_)
            · refine ab_iload_n (pc := 87) dX4_after_87 rfl rfl ?_
              exact ab_reti (pc := 88) dX4_after_88 rfl ⟨_, rfl, ⟨by simpa [m_part, *] using hr, rfl⟩⟩
            · refine ab_aload_n (pc := 52) dX4_after_52 rfl rfl ?_
              refine ab_getr (pc := 53) dX4_after_53 fX4_7 rfl rfl ?_
              refine ab_iload_n (pc := 56) dX4_after_56 rfl rfl ?_
              refine ab_iald (pc := 57) dX4_after_57 rfl (by assumption) ?_
              refine ab_S1 (pc := 58) dX4_after_58 msX4_98 rfl (kX4_opens) (ab_ki fun r58 h58 e58 => ?_)
              obtain ⟨rfl, rfl⟩ := And.intro e58.1.symm e58.2.symm
              refine ab_if_eq (pc := 61) 67 dX4_after_61 (by decide) (fun c61 => ?_) (fun c61 => ?_)
              · replace c61 := b2i_0.mp c61
                refine ab_aload_n (pc := 67) dX4_after_67 rfl rfl ?_
                refine ab_getr (pc := 68) dX4_after_68 fX4_7 rfl rfl ?_
                refine ab_iload_n (pc := 71) dX4_after_71 rfl rfl ?_
                refine ab_iald (pc := 72) dX4_after_72 rfl (by assumption) ?_
                refine ab_bipush (pc := 73) (v := 16) dX4_after_73 (by decide) ?_
                refine ab_icmp_ne (pc := 75) 81 dX4_after_75 (by decide) (fun c75 => ?_) (fun c75 => ?_)
                · refine ab_iinc (pc := 81) (v := 1) dX4_after_81 rfl (by decide) rfl ?_
                  refine ab_goto (pc := 84) 4 dX4_after_84 (by decide) ?_
                  refine ab_weak [(0, ab_R 0), (2, ab_I _), (3, ab_I _)] ⟨rfl, rfl, rfl, trivial⟩ ?_
                  exact ih _ _ _ (m_aft_go hr (by first | exact fun q => q.1 c5 | (simp [m_part, c16, c27, c38, c49]; done)) (by first | rw [m_dstep, if_pos c75, if_pos c61] | rw [m_dstep, if_pos c75, if_neg (ne_true_of_eq_false c61)] | rw [m_dstep, if_neg c75, if_pos c61] | rw [m_dstep, if_neg c75, if_neg (ne_true_of_eq_false c61)]))
                · refine ab_iinc (pc := 78) (v := (-1)) dX4_after_78 rfl (by decide) rfl ?_
                  refine ab_iinc (pc := 81) (v := 1) dX4_after_81 rfl (by decide) rfl ?_
                  refine ab_goto (pc := 84) 4 dX4_after_84 (by decide) ?_
                  refine ab_weak [(0, ab_R 0), (2, ab_I _), (3, ab_I _)] ⟨rfl, rfl, rfl, trivial⟩ ?_
                  exact ih _ _ _ (m_aft_go hr (by first | exact fun q => q.1 c5 | (simp [m_part, c16, c27, c38, c49]; done)) (by first | rw [m_dstep, if_pos c75, if_pos c61] | rw [m_dstep, if_pos c75, if_neg (ne_true_of_eq_false c61)] | rw [m_dstep, if_neg c75, if_pos c61] | rw [m_dstep, if_neg c75, if_neg (ne_true_of_eq_false c61)]))
              · replace c61 := b2i_1.mp c61
                refine ab_iinc (pc := 64) (v := 1) dX4_after_64 rfl (by decide) rfl ?_
                refine ab_aload_n (pc := 67) dX4_after_67 rfl rfl ?_
                refine ab_getr (pc := 68) dX4_after_68 fX4_7 rfl rfl ?_
                refine ab_iload_n (pc := 71) dX4_after_71 rfl rfl ?_
                refine ab_iald (pc := 72) dX4_after_72 rfl (by assumption) ?_
                refine ab_bipush (pc := 73) (v := 16) dX4_after_73 (by decide) ?_
                refine ab_icmp_ne (pc := 75) 81 dX4_after_75 (by decide) (fun c75 => ?_) (fun c75 => ?_)
                · refine ab_iinc (pc := 81) (v := 1) dX4_after_81 rfl (by decide) rfl ?_
                  refine ab_goto (pc := 84) 4 dX4_after_84 (by decide) ?_
                  refine ab_weak [(0, ab_R 0), (2, ab_I _), (3, ab_I _)] ⟨rfl, rfl, rfl, trivial⟩ ?_
                  exact ih _ _ _ (m_aft_go hr (by first | exact fun q => q.1 c5 | (simp [m_part, c16, c27, c38, c49]; done)) (by first | rw [m_dstep, if_pos c75, if_pos c61] | rw [m_dstep, if_pos c75, if_neg (ne_true_of_eq_false c61)] | rw [m_dstep, if_neg c75, if_pos c61] | rw [m_dstep, if_neg c75, if_neg (ne_true_of_eq_false c61)]))
                · refine ab_iinc (pc := 78) (v := (-1)) dX4_after_78 rfl (by decide) rfl ?_
                  refine ab_iinc (pc := 81) (v := 1) dX4_after_81 rfl (by decide) rfl ?_
                  refine ab_goto (pc := 84) 4 dX4_after_84 (by decide) ?_
                  refine ab_weak [(0, ab_R 0), (2, ab_I _), (3, ab_I _)] ⟨rfl, rfl, rfl, trivial⟩ ?_
                  exact ih _ _ _ (m_aft_go hr (by first | exact fun q => q.1 c5 | (simp [m_part, c16, c27, c38, c49]; done)) (by first | rw [m_dstep, if_pos c75, if_pos c61] | rw [m_dstep, if_pos c75, if_neg (ne_true_of_eq_false c61)] | rw [m_dstep, if_neg c75, if_pos c61] | rw [m_dstep, if_neg c75, if_neg (ne_true_of_eq_false c61)]))

set_option maxRecDepth 100000 in
set_option maxHeartbeats 4000000 in
theorem kX4_after {l : Launch} {d : Nat} {h : ab_H} {n : Nat} {x r : Int32} (hr : m_aft (h 1) n x 0 = some r) : ab_C l layM (d + 1) mX4_after [ab_R 0, ab_I x] h (ab_qi fun z h' => z = r ∧ h' = h) := by
  refine ab_enter (by decide) (Nat.le_of_ble_eq_true rfl) ?_
  refine ab_iconst (pc := 0) (v := 0) dX4_after_0 (by decide) ?_
  refine ab_istore_n (pc := 1) dX4_after_1 rfl rfl ?_
  refine ab_iload_n (pc := 2) dX4_after_2 rfl rfl ?_
  refine ab_istore_n (pc := 3) dX4_after_3 rfl rfl ?_
  refine ab_weak [(0, ab_R 0), (2, ab_I _), (3, ab_I _)] ⟨rfl, rfl, rfl, trivial⟩ ?_
  exact lpX4_after _ _ _ _ hr

/-- on from the end of a part to the END -/
def m_eo (f : Nat → Int32) : Nat → Int32 → Option Int32
  | 0, _ => none
  | n + 1, x => if x < 0 ∨ 480 ≤ x.toNatClampNeg then none else if f x.toNatClampNeg = 16 then some x else (m_aft f 480 (x + 1) 0).bind (m_eo f n)
theorem m_eo_in {f : Nat → Int32} {n : Nat} {x r : Int32} (hr : m_eo f (n + 1) x = some r) : vp_in x 480 ∧ (f x.toNatClampNeg = 16 → r = x) ∧ (¬ f x.toNatClampNeg = 16 → ∃ y, m_aft f 480 (x + 1) 0 = some y ∧ m_eo f n y = some r) := by
  rw [m_eo] at hr
  by_cases hi : x < 0 ∨ 480 ≤ x.toNatClampNeg
  · rw [if_pos hi] at hr
    cases hr
  · rw [if_neg hi] at hr
    refine ⟨hi, fun e => ?_, fun e => ?_⟩
    · rw [if_pos e] at hr
      exact (Option.some.inj hr).symm
    · rw [if_neg e] at hr
      exact Option.bind_eq_some_iff.mp hr
def m_endOf (f : Nat → Int32) (head : Int32) : Option Int32 := (m_aft f 480 (head + 1) 0).bind (m_eo f 60)
def m_po (f : Nat → Int32) (what : Int32) : Nat → Int32 → Option Int32
  | 0, _ => none
  | n + 1, x => if x < 0 ∨ 480 ≤ x.toNatClampNeg then none else if f x.toNatClampNeg = 16 ∨ f x.toNatClampNeg = what then some x else (m_aft f 480 (x + 1) 0).bind (m_po f what n)
theorem m_po_in {f : Nat → Int32} {what : Int32} {n : Nat} {x r : Int32} (hr : m_po f what (n + 1) x = some r) : vp_in x 480 ∧ ((f x.toNatClampNeg = 16 ∨ f x.toNatClampNeg = what) → r = x) ∧ (¬ (f x.toNatClampNeg = 16 ∨ f x.toNatClampNeg = what) → ∃ y, m_aft f 480 (x + 1) 0 = some y ∧ m_po f what n y = some r) := by
  rw [m_po] at hr
  by_cases hi : x < 0 ∨ 480 ≤ x.toNatClampNeg
  · rw [if_pos hi] at hr
    cases hr
  · rw [if_neg hi] at hr
    refine ⟨hi, fun e => ?_, fun e => ?_⟩
    · rw [if_pos e] at hr
      exact (Option.some.inj hr).symm
    · rw [if_neg e] at hr
      exact Option.bind_eq_some_iff.mp hr
/-- where the search of partOf ends; its answer is that, or -1 -/
def m_partE (f : Nat → Int32) (head what : Int32) : Option Int32 := (m_aft f 480 (head + 1) 0).bind (m_po f what 60)
def m_partR (f : Nat → Int32) (what x : Int32) : Int32 := if f x.toNatClampNeg = what then x else -1
set_option maxRecDepth 100000 in
set_option maxHeartbeats 4000000 in
theorem lpX4_endOf {l : Launch} {d : Nat} {h : ab_H} : ∀ (n : Nat) (x r : Int32), m_eo (h 1) n x = some r → ab_J l layM mX4_endOf (d + 2) (ab_qi fun z h' => z = r ∧ h' = h) 8 [(0, ab_R 0), (2, ab_I x)] [] h := by
  intro n
  induction n with
  | zero =>
    intro x r hr
    cases hr
  | succ n ih =>
    intro x r hr
    obtain ⟨hin, hr1, hr2⟩ := m_eo_in hr
    refine ab_aload_n (pc := 8) dX4_endOf_8 rfl rfl ?_
    refine ab_getr (pc := 9) dX4_endOf_9 fX4_7 rfl rfl ?_
    refine ab_iload_n (pc := 12) dX4_endOf_12 rfl rfl ?_
    refine ab_iald (pc := 13) dX4_endOf_13 rfl (by assumption) ?_
    refine ab_bipush (pc := 14) (v := 16) dX4_endOf_14 (by decide) ?_
    refine ab_icmp_eq (pc := 16) 30 dX4_endOf_16 (by decide) (fun c16 => ?_) (fun c16 => ?_)
    · refine ab_iload_n (pc := 30) dX4_endOf_30 rfl rfl ?_
      exact ab_reti (pc := 31) dX4_endOf_31 rfl ⟨_, rfl, ⟨(hr1 (by assumption)).symm, rfl⟩⟩
    · obtain ⟨y, hy, hr3⟩ := hr2 (by assumption)
      refine ab_aload_n (pc := 19) dX4_endOf_19 rfl rfl ?_
      refine ab_iload_n (pc := 20) dX4_endOf_20 rfl rfl ?_
      refine ab_iconst (pc := 21) (v := 1) dX4_endOf_21 (by decide) ?_
      refine ab_iadd (pc := 22) dX4_endOf_22 ?_
      refine ab_V1 (pc := 23) dX4_endOf_23 mvX4_124 rfl rfl (kX4_after hy) (ab_ki fun r23 h23 e23 => ?_)
      obtain ⟨rfl, rfl⟩ := And.intro e23.1.symm e23.2.symm
      refine ab_istore_n (pc := 26) dX4_endOf_26 rfl rfl ?_
      refine ab_goto (pc := 27) 8 dX4_endOf_27 (by decide) ?_
      refine ab_weak [(0, ab_R 0), (2, ab_I _)] ⟨rfl, rfl, trivial⟩ ?_
      exact ih _ _ hr3

set_option maxRecDepth 100000 in
set_option maxHeartbeats 4000000 in
theorem kX4_endOf {l : Launch} {d : Nat} {h : ab_H} {x r : Int32} (hr : m_endOf (h 1) x = some r) : ab_C l layM (d + 2) mX4_endOf [ab_R 0, ab_I x] h (ab_qi fun z h' => z = r ∧ h' = h) := by
  refine ab_enter (by decide) (Nat.le_of_ble_eq_true rfl) ?_
  obtain ⟨y, hy, hr⟩ := Option.bind_eq_some_iff.mp hr
  refine ab_aload_n (pc := 0) dX4_endOf_0 rfl rfl ?_
  refine ab_iload_n (pc := 1) dX4_endOf_1 rfl rfl ?_
  refine ab_iconst (pc := 2) (v := 1) dX4_endOf_2 (by decide) ?_
  refine ab_iadd (pc := 3) dX4_endOf_3 ?_
  refine ab_V1 (pc := 4) dX4_endOf_4 mvX4_124 rfl rfl (kX4_after hy) (ab_ki fun r4 h4 e4 => ?_)
  obtain ⟨rfl, rfl⟩ := And.intro e4.1.symm e4.2.symm
  refine ab_istore_n (pc := 7) dX4_endOf_7 rfl rfl ?_
  refine ab_weak [(0, ab_R 0), (2, ab_I _)] ⟨rfl, rfl, trivial⟩ ?_
  exact lpX4_endOf _ _ _ hr

set_option maxRecDepth 100000 in
set_option maxHeartbeats 4000000 in
theorem lpX4_partOf {l : Launch} {d : Nat} {h : ab_H} {what : Int32} : ∀ (n : Nat) (x r : Int32), m_po (h 1) what n x = some r → ab_J l layM mX4_partOf (d + 2) (ab_qi fun z h' => z = m_partR (h 1) what r ∧ h' = h) 8 [(0, ab_R 0), (2, ab_I what), (3, ab_I x)] [] h := by
  intro n
  induction n with
  | zero =>
    intro x r hr
    cases hr
  | succ n ih =>
    intro x r hr
    obtain ⟨hin, hr1, hr2⟩ := m_po_in hr
    refine ab_aload_n (pc := 8) dX4_partOf_8 rfl rfl ?_
    refine ab_getr (pc := 9) dX4_partOf_9 fX4_7 rfl rfl ?_
    refine ab_iload_n (pc := 12) dX4_partOf_12 rfl rfl ?_
    refine ab_iald (pc := 13) dX4_partOf_13 rfl (by assumption) ?_
    refine ab_bipush (pc := 14) (v := 16) dX4_partOf_14 (by decide) ?_
    refine ab_icmp_eq (pc := 16) 40 dX4_partOf_16 (by decide) (fun c16 => ?_) (fun c16 => ?_)
    · obtain rfl := hr1 (by simp [*])
      refine ab_aload_n (pc := 40) dX4_partOf_40 rfl rfl ?_
      refine ab_getr (pc := 41) dX4_partOf_41 fX4_7 rfl rfl ?_
      refine ab_iload_n (pc := 44) dX4_partOf_44 rfl rfl ?_
      refine ab_iald (pc := 45) dX4_partOf_45 rfl (by assumption) ?_
      refine ab_iload_n (pc := 46) dX4_partOf_46 rfl rfl ?_
      refine ab_icmp_ne (pc := 47) 54 dX4_partOf_47 (by decide) (fun c47 => ?_) (fun c47 => ?_)
      · refine ab_iconst (pc := 54) (v := (-1)) dX4_partOf_54 (by decide) ?_
        exact ab_reti (pc := 55) dX4_partOf_55 rfl ⟨_, rfl, ⟨by first | rw [m_partR, if_pos c47] | rw [m_partR, if_neg c47], rfl⟩⟩
      · refine ab_iload_n (pc := 50) dX4_partOf_50 rfl rfl ?_
        refine ab_goto (pc := 51) 55 dX4_partOf_51 (by decide) ?_
        exact ab_reti (pc := 55) dX4_partOf_55 rfl ⟨_, rfl, ⟨by first | rw [m_partR, if_pos c47] | rw [m_partR, if_neg c47], rfl⟩⟩
    · refine ab_aload_n (pc := 19) dX4_partOf_19 rfl rfl ?_
      refine ab_getr (pc := 20) dX4_partOf_20 fX4_7 rfl rfl ?_
      refine ab_iload_n (pc := 23) dX4_partOf_23 rfl rfl ?_
      refine ab_iald (pc := 24) dX4_partOf_24 rfl (by assumption) ?_
      refine ab_iload_n (pc := 25) dX4_partOf_25 rfl rfl ?_
      refine ab_icmp_eq (pc := 26) 40 dX4_partOf_26 (by decide) (fun c26 => ?_) (fun c26 => ?_)
      · obtain rfl := hr1 (by simp [*])
        refine ab_aload_n (pc := 40) dX4_partOf_40 rfl rfl ?_
        refine ab_getr (pc := 41) dX4_partOf_41 fX4_7 rfl rfl ?_
        refine ab_iload_n (pc := 44) dX4_partOf_44 rfl rfl ?_
        refine ab_iald (pc := 45) dX4_partOf_45 rfl (by assumption) ?_
        refine ab_iload_n (pc := 46) dX4_partOf_46 rfl rfl ?_
        refine ab_icmp_ne (pc := 47) 54 dX4_partOf_47 (by decide) (fun c47 => ?_) (fun c47 => ?_)
        · refine ab_iconst (pc := 54) (v := (-1)) dX4_partOf_54 (by decide) ?_
          exact ab_reti (pc := 55) dX4_partOf_55 rfl ⟨_, rfl, ⟨by first | rw [m_partR, if_pos c47] | rw [m_partR, if_neg c47], rfl⟩⟩
        · refine ab_iload_n (pc := 50) dX4_partOf_50 rfl rfl ?_
          refine ab_goto (pc := 51) 55 dX4_partOf_51 (by decide) ?_
          exact ab_reti (pc := 55) dX4_partOf_55 rfl ⟨_, rfl, ⟨by first | rw [m_partR, if_pos c47] | rw [m_partR, if_neg c47], rfl⟩⟩
      · obtain ⟨y, hy, hr3⟩ := hr2 (by simp [*])
        refine ab_aload_n (pc := 29) dX4_partOf_29 rfl rfl ?_
        refine ab_iload_n (pc := 30) dX4_partOf_30 rfl rfl ?_
        refine ab_iconst (pc := 31) (v := 1) dX4_partOf_31 (by decide) ?_
        refine ab_iadd (pc := 32) dX4_partOf_32 ?_
        refine ab_V1 (pc := 33) dX4_partOf_33 mvX4_124 rfl rfl (kX4_after hy) (ab_ki fun r33 h33 e33 => ?_)
        obtain ⟨rfl, rfl⟩ := And.intro e33.1.symm e33.2.symm
        refine ab_istore_n (pc := 36) dX4_partOf_36 rfl rfl ?_
        refine ab_goto (pc := 37) 8 dX4_partOf_37 (by decide) ?_
        refine ab_weak [(0, ab_R 0), (2, ab_I _), (3, ab_I _)] ⟨rfl, rfl, rfl, trivial⟩ ?_
        exact ih _ _ hr3

set_option maxRecDepth 100000 in
set_option maxHeartbeats 4000000 in
theorem kX4_partOf {l : Launch} {d : Nat} {h : ab_H} {x what r : Int32} (hr : m_partE (h 1) x what = some r) : ab_C l layM (d + 2) mX4_partOf [ab_R 0, ab_I x, ab_I what] h (ab_qi fun z h' => z = m_partR (h 1) what r ∧ h' = h) := by
  refine ab_enter (by decide) (Nat.le_of_ble_eq_true rfl) ?_
  obtain ⟨y, hy, hr⟩ := Option.bind_eq_some_iff.mp hr
  refine ab_aload_n (pc := 0) dX4_partOf_0 rfl rfl ?_
  refine ab_iload_n (pc := 1) dX4_partOf_1 rfl rfl ?_
  refine ab_iconst (pc := 2) (v := 1) dX4_partOf_2 (by decide) ?_
  refine ab_iadd (pc := 3) dX4_partOf_3 ?_
  refine ab_V1 (pc := 4) dX4_partOf_4 mvX4_124 rfl rfl (kX4_after hy) (ab_ki fun r4 h4 e4 => ?_)
  obtain ⟨rfl, rfl⟩ := And.intro e4.1.symm e4.2.symm
  refine ab_istore_n (pc := 7) dX4_partOf_7 rfl rfl ?_
  refine ab_weak [(0, ab_R 0), (2, ab_I _), (3, ab_I _)] ⟨rfl, rfl, rfl, trivial⟩ ?_
  exact lpX4_partOf _ _ _ hr
