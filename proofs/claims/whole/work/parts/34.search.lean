/-! what the reference's searches find in a workflow's rows -/
def z_head (s : Int32) : Prop := m_opens s = true ∨ s = 11 ∨ s = 12 ∨ s = 22
def z_PE (f PE : Nat → Int32) (z p : Nat) : Prop := ∃ q, q < z ∧ PE p = nI q ∧ z_N f p q ∧ (z_nx (f p) (f q) ∨ f q = 16)
def z_BE (f BE : Nat → Int32) (z i : Nat) : Prop := ∃ e, e < z ∧ BE i = nI e ∧ z_E f i e
/-- a workflow's rows, as the class keeps them -/
def z_I (f b PE BE : Nat → Int32) (z : Nat) : Prop := z_ok f z ∧ z ≤ 60 ∧
  (∀ i, i < z → m_opens (f i) = false → BE i = nI i) ∧ (∀ i, i < z → m_opens (f i) = true → (∃ p, (i, p) ∈ z_sk f z) ∨ z_BE f BE z i) ∧
  (∀ p, p < z → z_head (f p) → (∃ b, (b, p) ∈ z_sk f z) ∨ z_PE f PE z p) ∧
  (∀ i, i < z → f i = 17 ∨ f i = 18 → ∃ n, n < 11 ∧ b i = nI n ∧ n < z_lp f i)
def z_W (f b PE BE : Nat → Int32) (z : Nat) : Prop := z_I f b PE BE z ∧ z_sk f z = []
section ZS
variable {f b PE BE G : Nat → Int32} {z o : Nat}
theorem z_W_b (W : z_W f b PE BE z) {i : Nat} (hi : i < z) (h : m_opens (f i) = true) : z_BE f BE z i := by
  rcases W.1.2.2.2.1 i hi h with ⟨p, hp⟩ | q
  · rw [W.2] at hp; cases hp
  · exact q
theorem z_W_p (W : z_W f b PE BE z) {p : Nat} (hp : p < z) (h : z_head (f p)) : z_PE f PE z p := by
  rcases W.1.2.2.2.2.1 p hp h with ⟨c, hc⟩ | q
  · rw [W.2] at hc; cases hc
  · exact q
theorem z_Ds (ok : z_ok f z) {k : Nat} (hk : k < z) : (m_opens (f k) = true ∧ z_D f (k + 1) = z_D f k + 1) ∨ (f k = 16 ∧ z_D f k = z_D f (k + 1) + 1) ∨ (m_opens (f k) = false ∧ ¬ f k = 16 ∧ z_D f (k + 1) = z_D f k) := by
  unfold z_D
  rcases z_cases ok hk with ⟨h, -, e⟩ | ⟨-, h, x, L, e1, e⟩ | ⟨h, h2, b, p, L, e1, e, -⟩ | ⟨h, h2, e⟩
  · exact Or.inl ⟨h, by rw [e]; rfl⟩
  · exact Or.inr (Or.inl ⟨h, by rw [e, e1]; rfl⟩)
  · refine Or.inr (Or.inr ⟨h, ?_, by rw [e, e1]; rfl⟩)
    intro q
    rw [q] at h2
    revert h2
    decide
  · exact Or.inr (Or.inr ⟨h, (z_pf.mp h2).2.2.2, by rw [e]⟩)
theorem z_ds_o {s : Int32} {d : Nat} (h : m_opens s = true) : m_dstep s (nI d) = nI (d + 1) := by
  unfold m_dstep
  rw [if_neg (z_pf.mp (z_opf h)).2.2.2, if_pos h, nI_1]
theorem z_ds_e {d : Nat} : m_dstep 16 (nI (d + 1)) = nI d := by
  unfold m_dstep
  rw [if_pos rfl, if_neg (by decide), i_add_m1, nI_pred]
theorem z_ds_n {s x : Int32} (h : m_opens s = false) (h16 : ¬ s = 16) : m_dstep s x = x := by
  unfold m_dstep
  rw [if_neg h16, if_neg (by rw [h]; decide)]
theorem z_aft {p q : Nat} (ok : z_ok f z) (hG : ∀ i, i < z → G (o + i) = f i) (ho : o + z ≤ 480) (hq : q < z) (hN : z_N f p q) : ∀ (n k d : Nat), p < k → k ≤ q → z_D f k = z_D f (p + 1) + d → q - k < n → m_aft G n (nI (o + k)) (nI d) = some (nI (o + q)) := by
  intro n
  induction n with
  | zero => intro k d _ _ _ h; omega
  | succ n ih =>
    intro k d h1 h2 h3 h4
    have hd : d ≤ z := by
      have := z_le ok k (by omega)
      omega
    rw [m_aft, if_neg (nI_in (by omega) (by omega)), nI_clamp (by omega), hG k (by omega)]
    by_cases e : k = q
    · subst e
      have hd0 : d = 0 := by
        have := hN.2.1
        omega
      subst hd0
      rw [if_pos ⟨by decide, hN.2.2.1⟩]
    · obtain ⟨hN1, hN2, hN3, hN4⟩ := hN
      have hj := hN4 k h1 (by omega)
      rw [if_neg, nI_1]
      · rcases z_Ds ok (show k < z by omega) with ⟨h, e1⟩ | ⟨h, e1⟩ | ⟨h, h5, e1⟩
        · rw [z_ds_o h]
          exact ih (k + 1) (d + 1) (by omega) (by omega) (by omega) (by omega)
        · cases d with
          | zero =>
            have := hj.2 (by omega)
            rw [h] at this
            exact absurd this (by decide)
          | succ d =>
            rw [h, z_ds_e]
            exact ih (k + 1) d (by omega) (by omega) (by omega) (by omega)
        · rw [z_ds_n h h5]
          exact ih (k + 1) d (by omega) (by omega) (by omega) (by omega)
      · rintro ⟨q1, q2⟩
        cases d with
        | zero => rw [hj.2 (by omega)] at q2; cases q2
        | succ d => exact q1 (nI_lt (a := 0) (by omega) (by omega))
theorem z_aft0 {p q : Nat} (ok : z_ok f z) (hG : ∀ i, i < z → G (o + i) = f i) (ho : o + z ≤ 480) (hz : z ≤ 60) (hq : q < z) (hN : z_N f p q) : m_aft G 480 (nI (o + p) + 1) 0 = some (nI (o + q)) := by
  have := z_aft ok hG ho hq hN 480 (p + 1) 0 (by omega) hN.1 rfl (by omega)
  rw [nI_1]
  exact this
theorem z_N_le {p q e : Nat} (hN : z_N f p q) (h1 : p < e) (h2 : z_D f e = z_D f (p + 1)) (h3 : m_part (f e) = true) : q ≤ e := by
  refine Nat.le_of_not_lt fun h => ?_
  rw [(hN.2.2.2 e h1 h).2 h2] at h3
  cases h3
theorem z_E16 {i e k : Nat} (ok : z_ok f z) (he : e < z) (hE : z_E f i e) (h1 : i < k) (h2 : k ≤ e) (h3 : z_D f k = z_D f i + 1) (h16 : f k = 16) : k = e := by
  refine Nat.le_antisymm h2 (Nat.le_of_not_lt fun h => ?_)
  have := hE.2.2.2.2 (k + 1) (by omega) (by omega)
  rcases z_Ds ok (show k < z by omega) with ⟨q, -⟩ | ⟨-, e1⟩ | ⟨-, q, -⟩
  · rw [h16] at q; exact absurd q (by decide)
  · omega
  · exact q h16
theorem z_pD (ok : z_ok f z) {p : Nat} (hp : p < z) (h : f p = 11 ∨ f p = 12 ∨ f p = 22) : z_D f (p + 1) = z_D f p := by
  rcases z_Ds ok hp with ⟨q, -⟩ | ⟨q, -⟩ | ⟨-, -, e⟩
  · rcases h with h | h | h <;> (rw [h] at q; exact absurd q (by decide))
  · rcases h with h | h | h <;> (rw [h] at q; exact absurd q (by decide))
  · exact e
theorem z_oD (ok : z_ok f z) {p : Nat} (hp : p < z) (h : m_opens (f p) = true) : z_D f (p + 1) = z_D f p + 1 := by
  rcases z_Ds ok hp with ⟨q, e⟩ | ⟨q, -⟩ | ⟨q, -⟩
  · exact e
  · rw [q] at h; exact absurd h (by decide)
  · rw [q] at h; cases h
theorem z_eoL (W : z_W f b PE BE z) (hG : ∀ i, i < z → G (o + i) = f i) (ho : o + z ≤ 480) {i e : Nat} (he : e < z) (hE : z_E f i e) : ∀ (n k : Nat), i < k → k ≤ e → z_D f k = z_D f i + 1 → m_part (f k) = true → e - k < n → m_eo G n (nI (o + k)) = some (nI (o + e)) := by
  have ok := W.1.1
  intro n
  induction n with
  | zero => intro k _ _ _ _ h; omega
  | succ n ih =>
    intro k h1 h2 h3 h4 h5
    rw [m_eo, if_neg (nI_in (by omega) (by omega)), nI_clamp (by omega), hG k (by omega)]
    by_cases h16 : f k = 16
    · rw [if_pos h16, z_E16 ok he hE h1 h2 h3 h16]
    · have hp : f k = 11 ∨ f k = 12 ∨ f k = 22 := by
        rcases z_pt.mp h4 with q | q | q | q
        · exact Or.inl q
        · exact Or.inr (Or.inl q)
        · exact Or.inr (Or.inr q)
        · exact absurd q h16
      obtain ⟨q, hq, -, hN, -⟩ := z_W_p W (show k < z by omega) (Or.inr hp)
      have hD := z_pD ok (show k < z by omega) hp
      have hke : k ≠ e := fun c => h16 (by rw [c]; exact hE.2.1)
      have hle := z_N_le hN (show k < e by omega) (by rw [hD, h3, hE.2.2.1]) (by rw [hE.2.1]; decide)
      rw [if_neg h16, z_aft0 ok hG ho W.1.2.1 hq hN]
      exact ih q (by have := hN.1; omega) hle (by rw [hN.2.1, hD, h3]) hN.2.2.1 (by have := hN.1; omega)
theorem z_endOf (W : z_W f b PE BE z) (hG : ∀ i, i < z → G (o + i) = f i) (ho : o + z ≤ 480) {i e : Nat} (he : e < z) (hE : z_E f i e) (h : m_opens (f i) = true) : m_endOf G (nI (o + i)) = some (nI (o + e)) := by
  have ok := W.1.1
  have hi : i < z := by have := hE.1; omega
  obtain ⟨q, hq, -, hN, -⟩ := z_W_p W hi (Or.inl h)
  have hD := z_oD ok hi h
  have hz := W.1.2.1
  have hle := z_N_le hN hE.1 (by rw [hD, hE.2.2.1]) (by rw [hE.2.1]; decide)
  rw [m_endOf, z_aft0 ok hG ho W.1.2.1 hq hN]
  exact z_eoL W hG ho he hE 60 q hN.1 hle (by rw [hN.2.1, hD]) hN.2.2.1 (by omega)
theorem z_po1 (hG : ∀ i, i < z → G (o + i) = f i) (ho : o + z ≤ 480) {q : Nat} (hq : q < z) {what : Int32} {n : Nat} (h : f q = 16 ∨ f q = what) : m_po G what (n + 1) (nI (o + q)) = some (nI (o + q)) := by
  rw [m_po, if_neg (nI_in (by omega) (by omega)), nI_clamp (by omega), hG q hq, if_pos h]
theorem z_part1 (W : z_W f b PE BE z) (hG : ∀ i, i < z → G (o + i) = f i) (ho : o + z ≤ 480) {i q : Nat} {what : Int32} (hi : i < z) (hq : q < z) (hN : z_N f i q) (h : f q = 16 ∨ f q = what) : m_partE G (nI (o + i)) what = some (nI (o + q)) := by
  rw [m_partE, z_aft0 W.1.1 hG ho W.1.2.1 hq hN]
  exact z_po1 hG ho hq h
theorem z_part2 (W : z_W f b PE BE z) (hG : ∀ i, i < z → G (o + i) = f i) (ho : o + z ≤ 480) {i q r : Nat} {what : Int32} (hi : i < z) (hq : q < z) (hN : z_N f i q) (h : ¬ (f q = 16 ∨ f q = what)) (hr : r < z) (hN2 : z_N f q r) (h2 : f r = 16 ∨ f r = what) : m_partE G (nI (o + i)) what = some (nI (o + r)) := by
  rw [m_partE, z_aft0 W.1.1 hG ho W.1.2.1 hq hN]
  show m_po G what 60 (nI (o + q)) = _
  rw [m_po, if_neg (nI_in (by omega) (by omega)), nI_clamp (by omega), hG q hq, if_neg h, z_aft0 W.1.1 hG ho W.1.2.1 hr hN2]
  exact z_po1 hG ho hr h2
theorem z_partR (hG : ∀ i, i < z → G (o + i) = f i) (ho : o + z ≤ 480) {q : Nat} (hq : q < z) (what : Int32) : m_partR G what (nI (o + q)) = if f q = what then nI (o + q) else -1 := by
  rw [m_partR, nI_clamp (by omega), hG q hq]
theorem z_uneL (ok : z_ok f z) (hG : ∀ i, i < z → G (o + i) = f i) (ho : o + z ≤ 480) : ∀ (n k : Nat), k ≤ z → z - k < n → m_une G (nI (o + z)) n (nI (o + k)) (nI (z_D f k)) = some (nI (z_D f z)) := by
  intro n
  induction n with
  | zero => intro k _ h; omega
  | succ n ih =>
    intro k h1 h2
    rw [m_une]
    by_cases e : k = z
    · subst e
      rw [if_pos (nI_le (Nat.le_refl _) (by omega))]
    · rw [if_neg (nI_ge (by omega) (by omega)), if_neg (nI_in (by omega) (by omega)), nI_clamp (by omega), hG k (by omega), nI_1]
      have : m_dstep (f k) (nI (z_D f k)) = nI (z_D f (k + 1)) := by
        rcases z_Ds ok (show k < z by omega) with ⟨h, e1⟩ | ⟨h, e1⟩ | ⟨h, h5, e1⟩
        · rw [z_ds_o h, e1]
        · rw [h, e1, z_ds_e]
        · rw [z_ds_n h h5, e1]
      rw [this]
      exact ih (k + 1) (by omega) (by omega)
/-- from lo on, on its level, to q -/
def z_R (f : Nat → Int32) (lo q : Nat) : Prop := lo ≤ q ∧ z_D f q = z_D f lo ∧ ∀ j, lo ≤ j → j < q → z_D f lo ≤ z_D f j ∧ (z_D f j = z_D f lo → m_part (f j) = false)
theorem z_R_N {p q : Nat} (hN : z_N f p q) : z_R f (p + 1) q := ⟨hN.1, hN.2.1, fun j h1 h2 => hN.2.2.2 j h1 h2⟩
theorem z_R_W (W : z_W f b PE BE z) : z_R f 0 z := by
  refine ⟨Nat.zero_le _, by unfold z_D; rw [W.2]; rfl, fun j h1 h2 => ⟨Nat.zero_le _, fun h3 => ?_⟩⟩
  have h0 : z_sk f j = [] := List.eq_nil_of_length_eq_zero h3
  refine z_pf.mpr ⟨fun e => ?_, fun e => ?_, fun e => ?_, fun e => ?_⟩
  · obtain ⟨_, _, _, q, -⟩ := (W.1.1 j h2).2 (Or.inl e)
    rw [h0] at q; cases q
  · obtain ⟨_, _, _, q, -⟩ := (W.1.1 j h2).2 (Or.inr (Or.inl e))
    rw [h0] at q; cases q
  · obtain ⟨_, _, _, q, -⟩ := (W.1.1 j h2).2 (Or.inr (Or.inr e))
    rw [h0] at q; cases q
  · obtain ⟨_, _, q⟩ := (W.1.1 j h2).1 e
    rw [h0] at q; cases q
theorem z_R_to {i k q : Nat} (R : z_R f i q) (h1 : i ≤ k) (h2 : k ≤ q) (hd : z_D f k = z_D f i) : z_R f k q := ⟨h2, by rw [R.2.1, hd], fun j a c => by rw [hd]; exact R.2.2 j (by omega) c⟩
theorem z_R_p {i q : Nat} (R : z_R f i q) (h : i < q) : m_part (f i) = false := (R.2.2 i (Nat.le_refl _) h).2 rfl
theorem z_R_n (ok : z_ok f z) {i q : Nat} (R : z_R f i q) (h : i < q) (hq : q ≤ z) (ho : m_opens (f i) = false) : z_R f (i + 1) q ∧ z_hd f (i + 1) = z_hd f i := by
  have hp := z_R_p R h
  rcases z_cases ok (show i < z by omega) with ⟨q1, -⟩ | ⟨-, q1, -⟩ | ⟨-, q1, -⟩ | ⟨-, -, e⟩
  · rw [ho] at q1; cases q1
  · rw [q1] at hp; exact absurd hp (by decide)
  · rcases q1 with q1 | q1 | q1 <;> (rw [q1] at hp; exact absurd hp (by decide))
  · exact ⟨z_R_to R (by omega) (by omega) (by unfold z_D; rw [e]), by unfold z_hd; rw [e]⟩
theorem z_R_o (ok : z_ok f z) {i q e : Nat} (R : z_R f i q) (h : i < q) (hq : q ≤ z) (hE : z_E f i e) : e < q ∧ z_R f (e + 1) q ∧ z_hd f (e + 1) = z_hd f i := by
  have he : e < q := by
    refine Nat.lt_of_not_le fun c => ?_
    have := hE.2.2.2.2 q h c
    have := R.2.1
    omega
  refine ⟨he, z_R_to R (by have := hE.1; omega) (by omega) hE.2.2.2.1, z_suf0 ok (by have := hE.1; omega) (by omega) (fun k h1 h2 => ?_) hE.2.2.2.1⟩
  by_cases c : k = i
  · rw [c]; exact Nat.le_refl _
  · by_cases c2 : k = e + 1
    · rw [c2, hE.2.2.2.1]; exact Nat.le_refl _
    · have := hE.2.2.2.2 k (by omega) (by omega)
      omega
theorem z_hd_o (ok : z_ok f z) {i : Nat} (hi : i < z) (h : m_opens (f i) = true) : z_hd f (i + 1) = i :: z_hd f i := by
  unfold z_hd
  rcases z_cases ok hi with ⟨-, -, e⟩ | ⟨q, -⟩ | ⟨q, -⟩ | ⟨q, -⟩
  · rw [e]; rfl
  · rw [q] at h; cases h
  · rw [q] at h; cases h
  · rw [q] at h; cases h
theorem z_hd_p (ok : z_ok f z) {i q : Nat} (hN : z_N f i q) (hq : q < z) (h : f q = 11 ∨ f q = 12 ∨ f q = 22) : z_hd f (q + 1) = z_hd f (i + 1) := by
  have h1 : z_hd f q = z_hd f (i + 1) := z_suf0 ok hN.1 (by omega) (fun k a c => by
    by_cases e : k = q
    · rw [e, hN.2.1]; exact Nat.le_refl _
    · exact (hN.2.2.2 k (by omega) (by omega)).1) hN.2.1
  rw [← h1]
  unfold z_hd
  rcases z_cases ok hq with ⟨-, q1, -⟩ | ⟨-, q1, -⟩ | ⟨-, -, b1, p1, L, e1, e2, -⟩ | ⟨-, q1, -⟩
  · rcases h with h | h | h <;> (rw [h] at q1; exact absurd q1 (by decide))
  · rcases h with h | h | h <;> (rw [h] at q1; exact absurd q1 (by decide))
  · rw [e1, e2]; rfl
  · rcases h with h | h | h <;> (rw [h] at q1; exact absurd q1 (by decide))
end ZS
