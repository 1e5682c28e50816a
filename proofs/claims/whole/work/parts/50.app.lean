/-! a NODE more: the rows -/
/-- what may stand behind z NODES -/
def z_al (f : Nat → Int32) (z : Nat) (s bv : Int32) : Prop := (s = 16 → ∃ x L, z_sk f z = x :: L) ∧ (s = 11 ∨ s = 12 ∨ s = 22 → ∃ b p L, z_sk f z = (b, p) :: L ∧ z_nx (f p) s) ∧ (s = 17 ∨ s = 18 → ∃ n, n < 11 ∧ bv = nI n ∧ n < z_lp f z)
section ZA
variable {f f' b b' PE PE' BE BE' : Nat → Int32} {z : Nat}
theorem z_ok_app (ok : z_ok f z) (e : ∀ i, i < z → f' i = f i) (al : z_al f z (f' z) (b' z)) : z_ok f' (z + 1) := by
  intro k hk
  by_cases c : k = z
  · subst c
    rw [z_sk_eq k e]
    refine ⟨al.1, fun q => ?_⟩
    obtain ⟨b, p, L, h1, h2⟩ := al.2.1 q
    have hm := z_mem ok (x := (b, p)) (by rw [h1]; exact List.mem_cons_self)
    exact ⟨b, p, L, h1, by rw [e p hm.2]; exact h2⟩
  · have hk2 : k < z := by omega
    rw [z_sk_eq k fun i hi => e i (by omega), e k hk2]
    refine ⟨(ok k hk2).1, fun q => ?_⟩
    obtain ⟨b, p, L, h1, h2⟩ := (ok k hk2).2 q
    have hm := z_mem (z_ok_le ok (show k ≤ z by omega)) (x := (b, p)) (by rw [h1]; exact List.mem_cons_self)
    simp only at hm
    exact ⟨b, p, L, h1, by rw [e p (by omega)]; exact h2⟩
theorem z_BE_app (e : ∀ i, i < z → f' i = f i) {i : Nat} (hB : BE' i = BE i) (H : z_BE f BE z i) : z_BE f' BE' (z + 1) i := by
  have d : ∀ k, k ≤ z → z_D f' k = z_D f k := fun k hk => z_D_eq fun i hi => e i (by omega)
  obtain ⟨x, h1, h2, h3, h4, h5, h6, h7⟩ := H
  refine ⟨x, by omega, hB.trans h2, h3, by rw [e x h1]; exact h4, by rw [d x (by omega), d i (by omega)]; exact h5, by rw [d (x + 1) (by omega), d i (by omega)]; exact h6, fun j j1 j2 => ?_⟩
  rw [d i (by omega), d j (by omega)]
  exact h7 j j1 j2
theorem z_PE_app (e : ∀ i, i < z → f' i = f i) {p : Nat} (hP : PE' p = PE p) (H : z_PE f PE z p) : z_PE f' PE' (z + 1) p := by
  have d : ∀ k, k ≤ z → z_D f' k = z_D f k := fun k hk => z_D_eq fun i hi => e i (by omega)
  obtain ⟨q, h1, h2, ⟨h3, h4, h5, h6⟩, h7⟩ := H
  refine ⟨q, by omega, hP.trans h2, ⟨h3, by rw [d q (by omega), d (p + 1) (by omega)]; exact h4, by rw [e q h1]; exact h5, fun j j1 j2 => ?_⟩, by rw [e p (by omega), e q h1]; exact h7⟩
  rw [d (p + 1) (by omega), d j (by omega), e j (by omega)]
  exact h6 j j1 j2
theorem z_I_app (I : z_I f b PE BE z) (hz : z < 60) (e : ∀ i, i < z → f' i = f i) (eb : ∀ i, i < z → b' i = b i) (al : z_al f z (f' z) (b' z))
    (hBz : m_opens (f' z) = false → BE' z = nI z)
    (hB : f' z = 16 → ∀ x L, z_sk f z = x :: L → BE' x.1 = nI z) (oB : ∀ i, i < z → (f' z = 16 → ∀ x L, z_sk f z = x :: L → i ≠ x.1) → BE' i = BE i)
    (hP : m_part (f' z) = true → ∀ x L, z_sk f z = x :: L → PE' x.2 = nI z) (oP : ∀ p, p < z → (m_part (f' z) = true → ∀ x L, z_sk f z = x :: L → p ≠ x.2) → PE' p = PE p) : z_I f' b' PE' BE' (z + 1) := by
  obtain ⟨ok, -, I1, I2, I3, I4⟩ := I
  have ok' := z_ok_app ok e al
  have es := z_sk_eq z e
  have cs := z_cases ok' (show z < z + 1 by omega)
  have top : ∀ x L, z_sk f z = x :: L → z_T f' z x.1 x.2 L.length := fun x L h => z_top (z_ok_le ok' (by omega)) [] x.1 x.2 L (by rw [es, h]; rfl)
  have newB : f' z = 16 → ∀ x L, z_sk f z = x :: L → z_BE f' BE' (z + 1) x.1 := fun h16 x L h => by
    obtain ⟨a1, a2, a3, a4, a5, a6, a7, a8⟩ := top x L h
    have d0 : z_D f' z = L.length + 1 := by unfold z_D; rw [es, h]; rfl
    refine ⟨z, by omega, hB h16 x L h, by omega, h16, by omega, ?_, fun j j1 j2 => by rw [a4]; exact a5 j j1 j2⟩
    rcases z_Ds ok' (show z < z + 1 by omega) with ⟨q, -⟩ | ⟨-, q⟩ | ⟨-, q, -⟩
    · rw [h16] at q; exact absurd q (by decide)
    · omega
    · exact absurd h16 q
  have newP : m_part (f' z) = true → (f' z = 16 ∨ ∃ b p L, z_sk f z = (b, p) :: L ∧ z_nx (f p) (f' z)) → ∀ x L, z_sk f z = x :: L → z_PE f' PE' (z + 1) x.2 := fun hp hn x L h => by
    obtain ⟨a1, a2, a3, a4, a5, a6, a7, a8⟩ := top x L h
    have d0 : z_D f' z = L.length + 1 := by unfold z_D; rw [es, h]; rfl
    refine ⟨z, by omega, hP hp x L h, ⟨a2, by omega, hp, fun j j1 j2 => ⟨?_, fun q => a7 j j1 j2 (by omega)⟩⟩, ?_⟩
    · have := a5 j (by omega) (by omega)
      omega
    · rcases hn with q | ⟨b1, p1, L1, q1, q2⟩
      · exact Or.inr q
      · rw [h] at q1
        simp only [List.cons.injEq] at q1
        rw [q1.1]
        left
        rw [q1.1] at a2
        rw [e p1 a2]
        exact q2
  have pn : m_part (f' z) = true → (f' z = 16 ∨ ∃ b p L, z_sk f z = (b, p) :: L ∧ z_nx (f p) (f' z)) := fun hp => by
    by_cases c : f' z = 16
    · exact Or.inl c
    · right
      refine al.2.1 ?_
      rcases z_pt.mp hp with q | q | q | q
      · exact Or.inl q
      · exact Or.inr (Or.inl q)
      · exact Or.inr (Or.inr q)
      · exact absurd q c
  refine ⟨ok', by omega, fun i hi ho => ?_, fun i hi ho => ?_, fun p hp hh => ?_, fun i hi hq => ?_⟩
  · by_cases c : i = z
    · subst c; exact hBz ho
    · have hi2 : i < z := by omega
      rw [oB i hi2 fun h16 x L h q => ?_]
      · exact I1 i hi2 (by rw [← e i hi2]; exact ho)
      · have := (top x L h).2.2.1
        rw [← q, ho] at this
        cases this
  · by_cases c : i = z
    · subst c
      rcases cs with ⟨-, -, e1⟩ | ⟨q, -⟩ | ⟨q, -⟩ | ⟨q, -⟩
      · exact Or.inl ⟨i, by rw [e1]; exact List.mem_cons_self⟩
      · rw [q] at ho; cases ho
      · rw [q] at ho; cases ho
      · rw [q] at ho; cases ho
    · have hi2 : i < z := by omega
      by_cases cx : f' z = 16 ∧ ∃ x L, z_sk f z = x :: L ∧ i = x.1
      · obtain ⟨h16, x, L, h, rfl⟩ := cx
        exact Or.inr (newB h16 x L h)
      · rcases I2 i hi2 (by rw [← e i hi2]; exact ho) with ⟨p, hm⟩ | q
        · left
          rcases cs with ⟨-, -, e1⟩ | ⟨-, h16, x, L, e1, e2⟩ | ⟨-, -, b1, p1, L, e1, e2, -⟩ | ⟨-, -, e1⟩
          · exact ⟨p, by rw [e1, es]; exact List.mem_cons_of_mem _ hm⟩
          · rw [es] at e1
            rw [e1] at hm
            rcases List.mem_cons.mp hm with q | q
            · exact absurd ⟨h16, x, L, e1, by rw [← q]⟩ cx
            · exact ⟨p, by rw [e2]; exact q⟩
          · rw [es] at e1
            rw [e1] at hm
            rw [e2]
            rcases List.mem_cons.mp hm with q | q
            · simp only [Prod.mk.injEq] at q
              exact ⟨z, by rw [q.1]; exact List.mem_cons_self⟩
            · exact ⟨p, List.mem_cons_of_mem _ q⟩
          · exact ⟨p, by rw [e1, es]; exact hm⟩
        · exact Or.inr (z_BE_app e (oB i hi2 fun h16 x L h q => cx ⟨h16, x, L, h, q⟩) q)
  · by_cases c : p = z
    · subst c
      left
      rcases cs with ⟨-, -, e1⟩ | ⟨q, q2, -⟩ | ⟨-, -, b1, p1, L, e1, e2, -⟩ | ⟨q, q2, -⟩
      · exact ⟨p, by rw [e1]; exact List.mem_cons_self⟩
      · rcases hh with hh | hh | hh | hh
        · rw [q] at hh; cases hh
        · rw [q2] at hh; exact absurd hh (by decide)
        · rw [q2] at hh; exact absurd hh (by decide)
        · rw [q2] at hh; exact absurd hh (by decide)
      · exact ⟨b1, by rw [e2]; exact List.mem_cons_self⟩
      · have hq := z_pf.mp q2
        rcases hh with hh | hh | hh | hh
        · rw [q] at hh; cases hh
        · exact absurd hh hq.1
        · exact absurd hh hq.2.1
        · exact absurd hh hq.2.2.1
    · have hp2 : p < z := by omega
      by_cases cx : m_part (f' z) = true ∧ ∃ x L, z_sk f z = x :: L ∧ p = x.2
      · obtain ⟨h16, x, L, h, rfl⟩ := cx
        exact Or.inr (newP h16 (pn h16) x L h)
      · rcases I3 p hp2 (by rw [← e p hp2]; exact hh) with ⟨b0, hm⟩ | q
        · left
          rcases cs with ⟨-, -, e1⟩ | ⟨-, h16, x, L, e1, e2⟩ | ⟨-, h16, b1, p1, L, e1, e2, -⟩ | ⟨-, -, e1⟩
          · exact ⟨b0, by rw [e1, es]; exact List.mem_cons_of_mem _ hm⟩
          · rw [es] at e1
            rw [e1] at hm
            rcases List.mem_cons.mp hm with q | q
            · exact absurd ⟨by rw [h16]; decide, x, L, e1, by rw [← q]⟩ cx
            · exact ⟨b0, by rw [e2]; exact q⟩
          · rw [es] at e1
            rw [e1] at hm
            rw [e2]
            rcases List.mem_cons.mp hm with q | q
            · simp only [Prod.mk.injEq] at q
              exact absurd ⟨z_pt.mpr (by rcases h16 with h | h | h <;> simp [h]), (b1, p1), L, e1, q.2⟩ cx
            · exact ⟨b0, List.mem_cons_of_mem _ q⟩
          · exact ⟨b0, by rw [e1, es]; exact hm⟩
        · exact Or.inr (z_PE_app e (oP p hp2 fun h16 x L h q => cx ⟨h16, x, L, h, q⟩) q)
  · by_cases c : i = z
    · subst c
      rw [z_lp_eq ok e]
      exact al.2.2 hq
    · have hi2 : i < z := by omega
      rw [z_lp_eq (z_ok_le ok (show i ≤ z by omega)) fun j hj => e j (by omega), eb i hi2]
      exact I4 i hi2 (by rw [← e i hi2]; exact hq)
end ZA
