/-! how blocks stand in one another: the blocks that are open behind so many NODES, the innermost first: where each begins, and where its latest part does -/
theorem z_op {s : Int32} : m_opens s = true ↔ s = 10 ∨ s = 13 ∨ s = 14 ∨ s = 15 ∨ s = 21 := by
  simp only [m_opens, Bool.or_eq_true, Bool.and_eq_true, decide_eq_true_eq]
  constructor
  · rintro ((h | ⟨h1, h2⟩) | h)
    · exact Or.inl h
    · rw [Int32.lt_iff_toInt_lt] at h1
      rw [Int32.le_iff_toInt_le] at h2
      have e1 : (13 : Int32).toInt = 13 := by decide
      have e2 : (15 : Int32).toInt = 15 := by decide
      have : s.toInt = 13 ∨ s.toInt = 14 ∨ s.toInt = 15 := by omega
      rcases this with e | e | e
      · exact Or.inr (Or.inl (Int32.toInt_inj.mp e))
      · exact Or.inr (Or.inr (Or.inl (Int32.toInt_inj.mp e)))
      · exact Or.inr (Or.inr (Or.inr (Or.inl (Int32.toInt_inj.mp e))))
    · exact Or.inr (Or.inr (Or.inr (Or.inr h)))
  · rintro (h | h | h | h | h)
    · exact Or.inl (Or.inl h)
    · subst h; exact Or.inl (Or.inr (by decide))
    · subst h; exact Or.inl (Or.inr (by decide))
    · subst h; exact Or.inl (Or.inr (by decide))
    · exact Or.inr h
theorem z_pt {s : Int32} : m_part s = true ↔ s = 11 ∨ s = 12 ∨ s = 22 ∨ s = 16 := by
  simp only [m_part, Bool.or_eq_true, decide_eq_true_eq]
theorem z_pf {s : Int32} : m_part s = false ↔ ¬ s = 11 ∧ ¬ s = 12 ∧ ¬ s = 22 ∧ ¬ s = 16 := by
  simp only [m_part, Bool.or_eq_false_iff, decide_eq_false_iff_not]
theorem z_opf {s : Int32} (h : m_opens s = true) : m_part s = false := by
  rcases z_op.mp h with e | e | e | e | e <;> (subst e; decide)
def z_sk (f : Nat → Int32) : Nat → List (Nat × Nat)
  | 0 => []
  | k + 1 => if m_opens (f k) = true then (k, k) :: z_sk f k else if f k = 16 then (z_sk f k).tail else if f k = 11 ∨ f k = 12 ∨ f k = 22 then (match z_sk f k with
    | [] => []
    | x :: L => (x.1, k) :: L) else z_sk f k
/-- what may come behind a part -/
def z_nx (s t : Int32) : Prop := s = 10 ∧ (t = 11 ∨ t = 12) ∨ s = 11 ∧ t = 12 ∨ s = 21 ∧ t = 22
def z_ok (f : Nat → Int32) (z : Nat) : Prop := ∀ k, k < z → (f k = 16 → ∃ x L, z_sk f k = x :: L) ∧ (f k = 11 ∨ f k = 12 ∨ f k = 22 → ∃ b p L, z_sk f k = (b, p) :: L ∧ z_nx (f p) (f k))
theorem z_ok_le {f : Nat → Int32} {z y : Nat} (h : z_ok f z) (hy : y ≤ z) : z_ok f y := fun k hk => h k (by omega)
def z_D (f : Nat → Int32) (k : Nat) : Nat := (z_sk f k).length
theorem z_cases {f : Nat → Int32} {z k : Nat} (ok : z_ok f z) (hk : k < z) :
    (m_opens (f k) = true ∧ m_part (f k) = false ∧ z_sk f (k + 1) = (k, k) :: z_sk f k) ∨
    (m_opens (f k) = false ∧ f k = 16 ∧ ∃ x L, z_sk f k = x :: L ∧ z_sk f (k + 1) = L) ∨
    (m_opens (f k) = false ∧ (f k = 11 ∨ f k = 12 ∨ f k = 22) ∧ ∃ b p L, z_sk f k = (b, p) :: L ∧ z_sk f (k + 1) = (b, k) :: L ∧ z_nx (f p) (f k)) ∨
    (m_opens (f k) = false ∧ m_part (f k) = false ∧ z_sk f (k + 1) = z_sk f k) := by
  cases ho : m_opens (f k) with
  | true => exact Or.inl ⟨rfl, z_opf ho, by rw [z_sk, if_pos ho]⟩
  | false =>
    have hn : ¬ m_opens (f k) = true := by rw [ho]; decide
    by_cases h16 : f k = 16
    · obtain ⟨x, L, e⟩ := (ok k hk).1 h16
      exact Or.inr (Or.inl ⟨rfl, h16, x, L, e, by rw [z_sk, if_neg hn, if_pos h16, e]; rfl⟩)
    · by_cases hp : f k = 11 ∨ f k = 12 ∨ f k = 22
      · obtain ⟨b, p, L, e, hx⟩ := (ok k hk).2 hp
        exact Or.inr (Or.inr (Or.inl ⟨rfl, hp, b, p, L, e, by rw [z_sk, if_neg hn, if_neg h16, if_pos hp, e], hx⟩))
      · refine Or.inr (Or.inr (Or.inr ⟨rfl, z_pf.mpr ⟨fun e => hp (Or.inl e), fun e => hp (Or.inr (Or.inl e)), fun e => hp (Or.inr (Or.inr e)), h16⟩, ?_⟩))
        rw [z_sk, if_neg hn, if_neg h16, if_neg hp]
theorem z_le {f : Nat → Int32} {z : Nat} (ok : z_ok f z) : ∀ k, k ≤ z → z_D f k ≤ k := by
  intro k
  induction k with
  | zero => intro _; exact Nat.le_refl 0
  | succ k ih =>
    intro hk
    have := ih (by omega)
    unfold z_D at *
    rcases z_cases ok (show k < z by omega) with ⟨-, -, e⟩ | ⟨-, -, x, L, e1, e⟩ | ⟨-, -, b, p, L, e1, e, -⟩ | ⟨-, -, e⟩
    · rw [e]; simp only [List.length_cons]; omega
    · rw [e1] at this; rw [e]; simp only [List.length_cons] at this; omega
    · rw [e1] at this; rw [e]; simp only [List.length_cons] at this ⊢; omega
    · rw [e]; omega
/-- what stands of a block that is open behind z NODES -/
def z_T (f : Nat → Int32) (z b p n : Nat) : Prop := b ≤ p ∧ p < z ∧ m_opens (f b) = true ∧ z_D f b = n ∧ (∀ j, b < j → j ≤ z → n < z_D f j) ∧ z_D f (p + 1) = n + 1 ∧ (∀ j, p < j → j < z → z_D f j = n + 1 → m_part (f j) = false) ∧ (p = b ∨ f b = 10 ∧ (f p = 11 ∨ f p = 12) ∨ f b = 21 ∧ f p = 22)
theorem z_T_s {f : Nat → Int32} {z b p n : Nat} (h : z_T f z b p n) (h1 : n < z_D f (z + 1)) (h2 : z_D f z = n + 1 → m_part (f z) = false) : z_T f (z + 1) b p n := by
  obtain ⟨a1, a2, a3, a4, a5, a6, a7, a8⟩ := h
  refine ⟨a1, by omega, a3, a4, fun j h3 h4 => ?_, a6, fun j h3 h4 h5 => ?_, a8⟩
  · by_cases e : j = z + 1
    · rw [e]; exact h1
    · exact a5 j h3 (by omega)
  · by_cases e : j = z
    · rw [e] at h5 ⊢; exact h2 h5
    · exact a7 j h3 (by omega) h5
theorem z_top {f : Nat → Int32} : ∀ {z : Nat}, z_ok f z → ∀ (A : List (Nat × Nat)) (b p : Nat) (B : List (Nat × Nat)), z_sk f z = A ++ (b, p) :: B → z_T f z b p B.length := by
  intro z
  induction z with
  | zero =>
    intro _ A b p B e
    have : A ++ (b, p) :: B = [] := e.symm
    simp at this
  | succ z ih =>
    intro ok A b p B e
    have IH := ih (z_ok_le ok (by omega))
    rcases z_cases ok (show z < z + 1 by omega) with ⟨ho, hp, e1⟩ | ⟨-, h16, x, L, e1, e2⟩ | ⟨ho, hp, b1, p1, L, e1, e2, hx⟩ | ⟨-, hp, e1⟩
    · rw [e1] at e
      cases A with
      | nil =>
        simp only [List.nil_append, List.cons.injEq, Prod.mk.injEq] at e
        obtain ⟨⟨rfl, rfl⟩, rfl⟩ := e
        refine ⟨Nat.le_refl _, by omega, ho, rfl, fun j h3 h4 => ?_, ?_, fun j h3 h4 => absurd h4 (by omega), Or.inl rfl⟩
        · have : j = z + 1 := by omega
          rw [this]; unfold z_D; rw [e1]; simp
        · unfold z_D; rw [e1]; rfl
      | cons y A =>
        simp only [List.cons_append, List.cons.injEq] at e
        have t := IH A b p B e.2
        refine z_T_s t ?_ (fun _ => hp)
        unfold z_D; rw [e1, e.2]; simp only [List.length_cons, List.length_append]; omega
    · rw [e2] at e
      have t := IH (x :: A) b p B (by rw [e1, e]; rfl)
      refine z_T_s t ?_ (fun hd => ?_)
      · unfold z_D; rw [e2, e]; simp only [List.length_cons, List.length_append]; omega
      · unfold z_D at hd
        rw [e1, e] at hd
        simp only [List.length_cons, List.length_append] at hd
        omega
    · rw [e2] at e
      cases A with
      | nil =>
        simp only [List.nil_append, List.cons.injEq, Prod.mk.injEq] at e
        obtain ⟨⟨rfl, rfl⟩, rfl⟩ := e
        obtain ⟨a1, a2, a3, a4, a5, a6, a7, a8⟩ := IH [] b1 p1 L e1
        refine ⟨by omega, by omega, a3, a4, fun j h3 h4 => ?_, ?_, fun j h3 h4 => absurd h4 (by omega), ?_⟩
        · by_cases e : j = z + 1
          · rw [e]; unfold z_D; rw [e2]; simp
          · exact a5 j h3 (by omega)
        · unfold z_D; rw [e2]; rfl
        · right
          rcases hx with ⟨x1, x2⟩ | ⟨x1, x2⟩ | ⟨x1, x2⟩
          · rcases a8 with q | ⟨-, q | q⟩ | ⟨-, q⟩
            · rw [q] at x1; exact Or.inl ⟨x1, x2⟩
            · rw [q] at x1; exact absurd x1 (by decide)
            · rw [q] at x1; exact absurd x1 (by decide)
            · rw [q] at x1; exact absurd x1 (by decide)
          · rcases a8 with q | ⟨q2, q⟩ | ⟨-, q⟩
            · rw [← q, x1] at a3; exact absurd a3 (by decide)
            · exact Or.inl ⟨q2, Or.inr x2⟩
            · rw [q] at x1; exact absurd x1 (by decide)
          · rcases a8 with q | ⟨-, q | q⟩ | ⟨-, q⟩
            · rw [q] at x1; exact Or.inr ⟨x1, x2⟩
            · rw [q] at x1; exact absurd x1 (by decide)
            · rw [q] at x1; exact absurd x1 (by decide)
            · rw [q] at x1; exact absurd x1 (by decide)
      | cons y A =>
        simp only [List.cons_append, List.cons.injEq] at e
        have t := IH ((b1, p1) :: A) b p B (by rw [e1, e.2]; rfl)
        refine z_T_s t ?_ (fun hd => ?_)
        · unfold z_D; rw [e2, e.2]; simp only [List.length_cons, List.length_append]; omega
        · unfold z_D at hd
          rw [e1, e.2] at hd
          simp only [List.length_cons, List.length_append] at hd
          omega
    · rw [e1] at e
      have t := IH A b p B e
      refine z_T_s t ?_ (fun _ => hp)
      unfold z_D; rw [e1, e]; simp only [List.length_cons, List.length_append]; omega
/-- the blocks around -/
def z_hd (f : Nat → Int32) (k : Nat) : List Nat := (z_sk f k).map Prod.fst
theorem z_suf {f : Nat → Int32} {z i : Nat} (ok : z_ok f z) : ∀ j, i ≤ j → j ≤ z → (∀ k, i ≤ k → k ≤ j → z_D f i ≤ z_D f k) → ∃ A, z_hd f j = A ++ z_hd f i := by
  intro j
  induction j with
  | zero =>
    intro h1 h2 _
    have : i = 0 := by omega
    subst this
    exact ⟨[], rfl⟩
  | succ j ih =>
    intro h1 h2 hd
    by_cases e : i = j + 1
    · subst e; exact ⟨[], rfl⟩
    · obtain ⟨A, hA⟩ := ih (by omega) (by omega) (fun k a b => hd k a (by omega))
      unfold z_hd at *
      rcases z_cases ok (show j < z by omega) with ⟨-, -, e1⟩ | ⟨-, -, x, L, e1, e2⟩ | ⟨-, -, b1, p1, L, e1, e2, -⟩ | ⟨-, -, e1⟩
      · exact ⟨j :: A, by rw [e1, List.map_cons, hA]; rfl⟩
      · have hl := hd (j + 1) (by omega) (Nat.le_refl _)
        unfold z_D at hl
        rw [e2] at hl ⊢
        rw [e1, List.map_cons] at hA
        cases A with
        | nil =>
          have := congrArg List.length hA
          simp at this
          omega
        | cons y A =>
          simp only [List.cons_append, List.cons.injEq] at hA
          exact ⟨A, hA.2⟩
      · rw [e2]
        rw [e1] at hA
        exact ⟨A, hA⟩
      · rw [e1]
        exact ⟨A, hA⟩
theorem z_hd_len (f : Nat → Int32) (k : Nat) : (z_hd f k).length = z_D f k := by
  unfold z_hd z_D
  rw [List.length_map]
theorem z_suf0 {f : Nat → Int32} {z i j : Nat} (ok : z_ok f z) (h1 : i ≤ j) (h2 : j ≤ z) (hd : ∀ k, i ≤ k → k ≤ j → z_D f i ≤ z_D f k) (he : z_D f j = z_D f i) : z_hd f j = z_hd f i := by
  obtain ⟨A, hA⟩ := z_suf ok j h1 h2 hd
  have := congrArg List.length hA
  rw [List.length_append, z_hd_len, z_hd_len] at this
  have hn : A = [] := List.eq_nil_of_length_eq_zero (by omega)
  rw [hA, hn]
  rfl
/-- how many LOOPs are open -/
def z_lp (f : Nat → Int32) (k : Nat) : Nat := ((z_hd f k).filter fun b => decide (f b = 13)).length
/-- the END of the block that begins at i stands at e -/
def z_E (f : Nat → Int32) (i e : Nat) : Prop := i < e ∧ f e = 16 ∧ z_D f e = z_D f i + 1 ∧ z_D f (e + 1) = z_D f i ∧ ∀ j, i < j → j ≤ e → z_D f i < z_D f j
/-- the part that begins at p ends at q -/
def z_N (f : Nat → Int32) (p q : Nat) : Prop := p < q ∧ z_D f q = z_D f (p + 1) ∧ m_part (f q) = true ∧ ∀ j, p < j → j < q → z_D f (p + 1) ≤ z_D f j ∧ (z_D f j = z_D f (p + 1) → m_part (f j) = false)
