/-! a NODE that is no block -/
def s_At (h g : ab_H) (w z i q c o sc : Nat) (deep : Int32) : Prop := w < 8 ∧ s_F h g w z ∧ z_sk (h (8 * w + 15)) z = [] ∧ i < q ∧ q ≤ z ∧ z_R (h (8 * w + 15)) i q ∧ s_Q c c o sc deep h g ∧ s_top g o w q (h (8 * w + 15)) z ∧ g 0 41 = 0 ∧ g 0 40 = nI (60 * w + i)
theorem z_nx21 {t : Int32} (h : z_nx 21 t ∨ t = 16) : t = 22 ∨ t = 16 := by
  rcases h with (⟨a, -⟩ | ⟨a, -⟩ | ⟨-, a⟩) | a
  · exact absurd a (by decide)
  · exact absurd a (by decide)
  · exact Or.inl a
  · exact Or.inr a
theorem s_go {h g : ab_H} {w z i q c o sc : Nat} {deep : Int32} (A : s_At h g w z i q c o sc deep) : ∃ en qq zz, m_to g (m_step g en (m_partR (g 1) 22 qq) zz) ∧ (m_opens (h (8 * w + 15) i) = true → ∃ e, e < z ∧ h (8 * w + 19) i = nI e ∧ z_E (h (8 * w + 15)) i e ∧ en = nI (60 * w + e)) ∧
    (h (8 * w + 15) i = 21 → ∃ q1, q1 < z ∧ h (8 * w + 18) i = nI q1 ∧ z_N (h (8 * w + 15)) i q1 ∧ (h (8 * w + 15) q1 = 22 ∨ h (8 * w + 15) q1 = 16) ∧ qq = nI (60 * w + q1)) ∧
    (h (8 * w + 15) i = 20 → ∃ wb zb, wb < 8 ∧ h (8 * w + 17) i = nI wb ∧ s_F h g wb zb ∧ zz = nI (z_D (h (8 * wb + 15)) zb)) := by
  obtain ⟨hw, F, hW, hiq, hqz, R, Q, T, h41, hat⟩ := A
  have hz := s_z F
  have W := s_F_W F hW
  have hi : i < z := by omega
  have hG : ∀ j, j < z → g 1 (60 * w + j) = h (8 * w + 15) j := fun j hj => (F.2.2.1 j hj).1
  obtain ⟨e39, h1, h2, -⟩ := s_Q_o Q
  have hna := s_natEnd hG hw hz e39 h1 h2 T R hiq hqz hat
  have A1 : ∃ en, m_opens (h (8 * w + 15) i) = true → m_endOf (g 1) (nI (60 * w + i)) = some en ∧ ∃ e, e < z ∧ h (8 * w + 19) i = nI e ∧ z_E (h (8 * w + 15)) i e ∧ en = nI (60 * w + e) := by
    by_cases ho : m_opens (h (8 * w + 15) i) = true
    · obtain ⟨e, he, hB, hE⟩ := z_W_b W hi ho
      exact ⟨nI (60 * w + e), fun _ => ⟨z_endOf W hG (by omega) he hE ho, e, he, hB, hE, rfl⟩⟩
    · exact ⟨0, fun q => absurd q ho⟩
  have A2 : ∃ qq, h (8 * w + 15) i = 21 → m_partE (g 1) (nI (60 * w + i)) 22 = some qq ∧ ∃ q1, q1 < z ∧ h (8 * w + 18) i = nI q1 ∧ z_N (h (8 * w + 15)) i q1 ∧ (h (8 * w + 15) q1 = 22 ∨ h (8 * w + 15) q1 = 16) ∧ qq = nI (60 * w + q1) := by
    by_cases ho : h (8 * w + 15) i = 21
    · obtain ⟨q1, hq1, hP, hN, hx⟩ := z_W_p W hi (Or.inl (by rw [ho]; decide))
      rw [ho] at hx
      have hx2 := z_nx21 hx
      exact ⟨nI (60 * w + q1), fun _ => ⟨z_part1 W hG (by omega) hi hq1 hN hx2.symm, q1, hq1, hP, hN, hx2, rfl⟩⟩
    · exact ⟨0, fun q => absurd q ho⟩
  have A3 : ∃ zz, h (8 * w + 15) i = 20 → m_unended g (h (8 * w + 17) i) = some zz ∧ ∃ wb zb, wb < 8 ∧ h (8 * w + 17) i = nI wb ∧ s_F h g wb zb ∧ zz = nI (z_D (h (8 * wb + 15)) zb) := by
    by_cases ho : h (8 * w + 15) i = 20
    · have hb : vp_in (h (8 * w + 17) i) 8 := ((Q.2.1.1 w hw).2 i (by omega)).1.2.1 (by rw [ho]; decide)
      obtain ⟨wb, hwb, eb⟩ := vp_in_of hb (by omega)
      obtain ⟨zb, Fb⟩ := Q.1 wb hwb
      have hzb := s_z Fb
      refine ⟨_, fun _ => ⟨?_, wb, zb, hwb, eb, Fb, rfl⟩⟩
      have := z_uneL (o := 60 * wb) (G := g 1) Fb.2.2.2.1.1 (fun j hj => (Fb.2.2.1 j hj).1) (by omega) 481 0 (by omega) (by omega)
      have e60 : (60 : Int32) * nI wb = nI (60 * wb) := (Int32.ofNat_mul 60 wb).symm
      unfold m_unended
      rw [eb, nI_clamp (by omega), Fb.2.1, e60, nI_add]
      exact this
    · exact ⟨0, fun q => absurd q ho⟩
  obtain ⟨en, B1⟩ := A1
  obtain ⟨qq, B2⟩ := A2
  obtain ⟨zz, B3⟩ := A3
  exact ⟨en, qq, zz, s_step_to Q hw F hi hat h41 hna (fun q => (B1 q).1) (fun q => (B2 q).1) (fun q => (B3 q).1), fun q => (B1 q).2, fun q => (B2 q).2, fun q => (B3 q).2⟩
theorem s_c60 {h g : ab_H} {K c o sc : Nat} {deep : Int32} (Q : s_Q K c o sc deep h g) : (h 0 3 < 60 ∧ ¬ g 0 16 = 60 ∧ c < 60) ∨ (¬ h 0 3 < 60 ∧ g 0 16 = 60 ∧ c = 60) := by
  obtain ⟨-, -, -, -, -, -, e1, e2, h1, -⟩ := Q
  rw [e1, e2]
  by_cases e : c = 60
  · subst e
    exact Or.inr ⟨by decide, rfl, rfl⟩
  · refine Or.inl ⟨nI_lt (b := 60) (by omega) (by omega), fun q => e ((nI_eq (b := 60) (by omega) (by omega)).mp q), by omega⟩
theorem s_stop {h g : ab_H} {w z i q c o sc lp x : Nat} {deep : Int32} (A : s_At h g w z i q c o sc deep) (e : g 0 16 = 60) : s_End c o sc deep lp x g (5, 0, h) := by
  obtain ⟨en, qq, zz, hto, -⟩ := s_go A
  obtain ⟨hw, F, hW, hiq, hqz, R, Q, T, h41, hat⟩ := A
  unfold m_step at hto
  rw [if_pos e] at hto
  obtain ⟨e39, h1, h2, -⟩ := s_Q_o Q
  exact ⟨_, c, Nat.le_refl _, hto, s_Q_g Q (s_dat_0 (by decide)) (s_kp_0 (by decide) (by decide)) rfl rfl rfl e39 h1 Q.2.2.2.2.2.1.2.2.1, s_kp_0 (by decide) (by decide), Or.inr (Or.inr (Or.inr (Or.inr (Or.inr ⟨rfl, rfl⟩)))), fun q => absurd (show (5 : Int32) = 0 from q) (by decide)⟩
theorem s_100 (m : Nat) : (100 : Int32) + nI m = nI (100 + m) := (Int32.ofNat_add 100 m).symm
theorem s_200 (m : Nat) : (200 : Int32) + nI m = nI (200 + m) := (Int32.ofNat_add 200 m).symm
theorem s_nodeP {P : c_PT} {h g : ab_H} {w z i q c o sc : Nat} {deep : Int32} (A : s_At h g w z i q c o sc deep) (hc : c < 60) (ho : m_opens (h (8 * w + 15) i) = false) (h20 : ¬ h (8 * w + 15) i = 20) :
    s_End c o sc deep (z_lp (h (8 * w + 15)) i) (60 * w + i + 1) g (c_nodeS P (c_pay h) w (nI i) deep (h (8 * w + 15) i) (h (8 * w + 16) i) (h (8 * w + 17) i)) := by
  obtain ⟨en, qq, zz, hto, -⟩ := s_go A
  obtain ⟨hw, F, hW, hiq, hqz, R, Q, T, h41, hat⟩ := A
  have hz := s_z F
  have hi : i < z := by omega
  obtain ⟨r1, r2, r3⟩ := F.2.2.1 i hi
  have hc16 : ¬ g 0 16 = 60 := by
    rcases s_c60 Q with ⟨-, q, -⟩ | ⟨-, -, q⟩
    · exact q
    · omega
  have nok := ((Q.2.1.1 w hw).2 i (by omega)).1
  have hlp := F.2.2.2.1.2.2.2.2.2 i hi
  unfold m_step at hto
  rw [if_neg hc16, hat, nI_clamp (by omega), r1, r2, r3, if_neg (by rw [ho]; decide), if_neg h20] at hto
  have Qp := s_Q_pay Q hc
  have hinv : c_inv (c_pay h) := Qp.2.1
  have hEp : s_E c (c_pay h) (ab_up g 0 16 (g 0 16 + 1)) := Qp.2.2.1
  have hE1 : ∀ k v, ¬ (k = 7 ∨ k = 13 ∨ k = 15 ∨ k = 17 ∨ k = 18 ∨ k = 19 ∨ k = 28) → s_E (c + 1) (c_pay h) (ab_up (ab_up g 0 16 (g 0 16 + 1)) 0 k v) := fun k v hk => by
    obtain ⟨u, bx, b1, b2, b3, b4⟩ := hEp
    exact ⟨u, bx, by omega, by omega, s_dat_RD (s_dat_0 hk) b3, b4⟩
  have hE0 : s_E (c + 1) (c_pay h) (ab_up g 0 16 (g 0 16 + 1)) := by
    obtain ⟨u, bx, b1, b2, b3, b4⟩ := hEp
    exact ⟨u, bx, by omega, by omega, b3, b4⟩
  generalize hs : h (8 * w + 15) i = s at *
  generalize ha : h (8 * w + 16) i = a at *
  generalize hb : h (8 * w + 17) i = b at *
  have n10 : ¬ s = 10 := fun e => by rw [e] at ho; exact absurd ho (by decide)
  have n13 : ¬ s = 13 := fun e => by rw [e] at ho; exact absurd ho (by decide)
  have n14 : ¬ s = 14 := fun e => by rw [e] at ho; exact absurd ho (by decide)
  have n15 : ¬ s = 15 := fun e => by rw [e] at ho; exact absurd ho (by decide)
  have n21 : ¬ s = 21 := fun e => by rw [e] at ho; exact absurd ho (by decide)
  by_cases e9 : s = 9
  · subst e9
    exact s_plain_end Q hc hat (s_ctl_0 (by decide)) (hE1 21 b (by decide)) hinv (c_sm_rf _) (Or.inr (Or.inr (Or.inr (Or.inr (Or.inl ⟨rfl, rfl, rfl⟩))))) hto
  by_cases e17 : s = 17
  · subst e17
    obtain ⟨m, hm, rfl, hm2⟩ := hlp (Or.inl rfl)
    exact s_plain_end Q hc hat (s_ctl_rf _) hE0 hinv (c_sm_rf _) (Or.inr (Or.inl ⟨rfl, m, hm, hm2, rfl, s_100 m⟩)) hto
  by_cases e18 : s = 18
  · subst e18
    obtain ⟨m, hm, rfl, hm2⟩ := hlp (Or.inr rfl)
    exact s_plain_end Q hc hat (s_ctl_rf _) hE0 hinv (c_sm_rf _) (Or.inr (Or.inr (Or.inl ⟨rfl, m, hm, hm2, rfl, s_200 m⟩))) hto
  by_cases e19 : s = 19
  · subst e19
    have hva : vp_in a 8 := nok.1 (by decide)
    have e4 : h 4 a.toNatClampNeg = g 5 a.toNatClampNeg := by
      obtain ⟨u, bx, b1, b2, b3, b4⟩ := Q.2.2.1
      exact b3.1 _ (vp_lt hva)
    refine s_plain_end (n := h 4 a.toNatClampNeg) Q hc hat (s_ctl_0 (by decide)) (hE1 22 (g 5 a.toNatClampNeg) (by decide)) hinv (c_sm_rf _) (Or.inr (Or.inr (Or.inr (Or.inl ⟨rfl, rfl, ?_⟩)))) hto
    exact e4.symm
  · rw [c_nodeS_d ⟨e9, n10, n13, n14, n15, e17, e18, e19, h20, n21⟩]
    obtain ⟨u, bx, b1, b2, b3, b4⟩ := hEp
    have hS := Qp.2.2.2.1
    have hmk : ∀ mk, c_pay h 3 6 = nI mk → mk ≤ 60 → mk ≤ u := fun mk m1 m2 => by
      obtain ⟨u', v1, v2, v3, v4⟩ := hinv.2.2.2
      have hu' : u' = u := (nI_eq (by omega) (by omega)).mp (v2.symm.trans b4)
      rcases v4 with ⟨v5, -⟩ | ⟨mk', v5, v6⟩
      · rw [m1] at v5
        exact absurd v5 (nI_m mk (by omega))
      · have : mk = mk' := (nI_eq (by omega) (by omega)).mp (m1.symm.trans v6)
        omega
    have St := s_plain b3 b4 hS hmk (by omega) (by omega) nok e9 e17 e18 e19
    obtain ⟨u', bx', t1, t2, t3, t4, t5, t6, t7⟩ := St
    have ck := c_step_keep hinv nok
    refine s_plain_end Q hc hat t5 ⟨u', bx', by omega, by omega, t3, t4⟩ ck.1 ck.2 ?_ hto
    by_cases k0 : c_stepK (c_pay h) s a b = 0
    · exact Or.inl ⟨k0, t6 k0⟩
    · obtain ⟨y1, y2, y3⟩ := t7 k0
      exact Or.inr (Or.inr (Or.inr (Or.inr (Or.inl ⟨y1, y2, y3⟩))))
