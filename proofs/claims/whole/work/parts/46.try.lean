/-! TRY, class beside reference -/
theorem i_bit (x : Int32) : x &&& 1 = 0 ∨ x &&& 1 = 1 := by
  have e : (x &&& 1).toBitVec = (BitVec.ofBool (x.toBitVec.getLsbD 0)).setWidth 32 := by
    show x.toBitVec &&& 1#32 = _
    exact BitVec.and_one_eq_setWidth_ofBool_getLsbD
  cases hb : x.toBitVec.getLsbD 0 with
  | false => rw [hb] at e; exact Or.inl (Int32.toBitVec_inj.mp (e.trans (by decide)))
  | true => rw [hb] at e; exact Or.inr (Int32.toBitVec_inj.mp (e.trans (by decide)))
section SM7
variable {K c o sc w z i q : Nat} {deep : Int32} {h g : ab_H}
theorem s_tried_o {cR fR : Int32} {mk n : Nat} (e39 : g 0 39 = nI (o + 1)) (ho : o ≤ 61) (h10 : g 18 o = 10) : m_ended g cR fR mk n = m_tried g (nI o) cR fR := by
  have o1 := s_o1 e39 (by omega) (by omega)
  have o1a : g 0 39 - 1 = nI o := o1.1
  have o1b : (g 0 39 - 1).toNatClampNeg = o := o1.2
  unfold m_ended
  rw [o1b, h10, if_neg (by decide), if_pos rfl, o1a]
/-- FINAL, or no FINAL -/
theorem s_tryF {n : Nat} {P : c_PT} (hP : s_SP n P) (hI : c_IP n P) {e p lp : Nat} {f PE : Nat → Int32} {r : c_R} {cc ff : Int32} (hw : w < 8) (ho : 1 ≤ o) (hi : i < z) (hp : p < z) (F : s_F r.2.2 g w z) (hf : r.2.2 (8 * w + 15) = f) (hPE : r.2.2 (8 * w + 18) = PE) (hW : z_sk f z = []) (hlp : z_lp f (p + 1) = lp ∨ ¬ f p = 12)
    (Q : s_Q c c (o + 1) sc deep r.2.2 g) (hco : c_cost n r.2.2) (hwy : s_way lp r.1 r.2.1 g) (t6 : g 0 41 = 0 → m_atEnd g = true ∧ vp_in (g 0 40) 480) (e18 : g 18 o = 10) (e19 : g 19 o = nI (60 * w + i)) (e20 : g 20 o = nI (60 * w + e)) (e21 : ¬ g 21 o = 2)
    (h11 : m_partE (g 1) (nI (60 * w + i)) 11 = some cc) (h12 : m_partE (g 1) (nI (60 * w + i)) 12 = some ff) (hfR : m_partR (g 1) 12 ff = if f p = 12 then nI (60 * w + p) else -1) (hcat : m_catch g (nI o) (m_partR (g 1) 11 cc) = false) :
    s_End c o sc deep lp (60 * w + e + 1) g (c_tryF P r w (nI p) deep) := by
  have hz := s_z F
  obtain ⟨e39, -, ho61, -⟩ := s_Q_o Q
  have okE : m_endOK g cc ff 0 0 := by
    have o1b : (g 0 39 - 1).toNatClampNeg = o := (s_o1 e39 (by omega) (by omega)).2
    unfold m_endOK
    rw [o1b, e18, e19]
    exact ⟨fun q => absurd q (by decide), fun _ => ⟨vp_in_nI (by omega) (by omega), fun _ => ⟨h11, h12⟩⟩, fun q => absurd q (by decide)⟩
  have tE := s_end_to Q t6 okE
  rw [s_tried_o e39 (by omega) e18] at tE
  unfold m_tried at tE
  rw [nI_clamp (by omega), if_neg e21, if_neg (by rw [hcat]; decide), hfR] at tE
  unfold c_tryF
  rw [hf, nI_clamp (by omega)]
  have out : m_to g (m_leave g) → s_End c o sc deep lp (60 * w + e + 1) g r := fun tt => s_out ho (Nat.le_refl _) (m_to_rf g) (s_kp_rf _ _ _) tt (s_kp_rf _ _ _) Q e20 hwy
  by_cases hp12 : f p = 12
  · rw [if_pos hp12]
    rw [if_pos hp12] at tE
    by_cases c5 : r.1 = 5
    · rw [if_pos c5]
      rw [if_pos (Or.inr ((s_way_3 hwy).mp c5))] at tE
      exact out tE
    · rw [if_neg c5]
      have c3 : ¬ g 0 41 = 3 := fun q => c5 ((s_way_3 hwy).mpr q)
      rw [if_neg (fun q => q.elim (fun q => absurd q (nI_pos (by omega))) c3), nI_1] at tE
      have k1 : s_kp o sc g (ab_up (ab_up (ab_up (ab_up (ab_up (ab_up g 23 o (g 0 41)) 24 o (g 0 21)) 25 o (g 0 22)) 21 o 2) 0 41 0) 0 40 (nI (60 * w + p + 1))) := s_kp_tr (s_kp_tr (s_kp_tr (s_kp_tr (s_kp_tr (s_kp_up (Or.inr (Or.inl ⟨by decide, Nat.le_refl _⟩))) (s_kp_up (Or.inr (Or.inl ⟨by decide, Nat.le_refl _⟩)))) (s_kp_up (Or.inr (Or.inl ⟨by decide, Nat.le_refl _⟩)))) (s_kp_up (Or.inr (Or.inl ⟨by decide, Nat.le_refl _⟩)))) (s_kp_0 (by decide) (by decide))) (s_kp_0 (by decide) (by decide))
      have Q1 : s_Q c c (o + 1) sc deep r.2.2 (ab_up (ab_up (ab_up (ab_up (ab_up (ab_up g 23 o (g 0 41)) 24 o (g 0 21)) 25 o (g 0 22)) 21 o 2) 0 41 0) 0 40 (nI (60 * w + p + 1))) := s_Q_g Q (s_dat_tr (s_dat_tr (s_dat_tr (s_dat_tr (s_dat_tr (s_dat_up (by decide)) (s_dat_up (by decide))) (s_dat_up (by decide))) (s_dat_up (by decide))) (s_dat_0 (by decide))) (s_dat_0 (by decide))) (s_kp_le k1 (Nat.zero_le o) (Nat.le_refl sc)) rfl rfl rfl e39 (by omega) Q.2.2.2.2.2.1.2.2.1
      have x18 : (ab_up (ab_up (ab_up (ab_up (ab_up (ab_up g 23 o (g 0 41)) 24 o (g 0 21)) 25 o (g 0 22)) 21 o 2) 0 41 0) 0 40 (nI (60 * w + p + 1))) 18 o = 10 := e18
      have x19 : (ab_up (ab_up (ab_up (ab_up (ab_up (ab_up g 23 o (g 0 41)) 24 o (g 0 21)) 25 o (g 0 22)) 21 o 2) 0 41 0) 0 40 (nI (60 * w + p + 1))) 19 o = nI (60 * w + i) := e19
      have x20 : (ab_up (ab_up (ab_up (ab_up (ab_up (ab_up g 23 o (g 0 41)) 24 o (g 0 21)) 25 o (g 0 22)) 21 o 2) 0 41 0) 0 40 (nI (60 * w + p + 1))) 20 o = nI (60 * w + e) := e20
      have x21 : (ab_up (ab_up (ab_up (ab_up (ab_up (ab_up g 23 o (g 0 41)) 24 o (g 0 21)) 25 o (g 0 22)) 21 o 2) 0 41 0) 0 40 (nI (60 * w + p + 1))) 21 o = 2 := pk_us
      have x23 : (ab_up (ab_up (ab_up (ab_up (ab_up (ab_up g 23 o (g 0 41)) 24 o (g 0 21)) 25 o (g 0 22)) 21 o 2) 0 41 0) 0 40 (nI (60 * w + p + 1))) 23 o = g 0 41 := pk_us
      have x24 : (ab_up (ab_up (ab_up (ab_up (ab_up (ab_up g 23 o (g 0 41)) 24 o (g 0 21)) 25 o (g 0 22)) 21 o 2) 0 41 0) 0 40 (nI (60 * w + p + 1))) 24 o = g 0 21 := pk_us
      have x25 : (ab_up (ab_up (ab_up (ab_up (ab_up (ab_up g 23 o (g 0 41)) 24 o (g 0 21)) 25 o (g 0 22)) 21 o 2) 0 41 0) 0 40 (nI (60 * w + p + 1))) 25 o = g 0 22 := pk_us
      have x41 : (ab_up (ab_up (ab_up (ab_up (ab_up (ab_up g 23 o (g 0 41)) 24 o (g 0 21)) 25 o (g 0 22)) 21 o 2) 0 41 0) 0 40 (nI (60 * w + p + 1))) 0 41 = 0 := rfl
      have xa : (ab_up (ab_up (ab_up (ab_up (ab_up (ab_up g 23 o (g 0 41)) 24 o (g 0 21)) 25 o (g 0 22)) 21 o 2) 0 41 0) 0 40 (nI (60 * w + p + 1))) 0 40 = nI (60 * w + p + 1) := rfl
      generalize ab_up (ab_up (ab_up (ab_up (ab_up (ab_up g 23 o (g 0 41)) 24 o (g 0 21)) 25 o (g 0 22)) 21 o 2) 0 41 0) 0 40 (nI (60 * w + p + 1)) = g1 at *
      have F1 : s_F r.2.2 g1 w z := s_F_mv (fun _ _ => rfl) k1.1 F
      have W := s_F_W F (by rw [hf]; exact hW)
      obtain ⟨q3, hq3, hP3, hN3, -⟩ := z_W_p W hp (Or.inr (Or.inr (Or.inl (by rw [hf]; exact hp12))))
      obtain ⟨post, g2, c2, t1, t2, t3, t4, t5, t7⟩ := s_inner hP hI (p := p) (q := q3) hw F1 (by rw [hf]; exact hW) hp hq3 hP3 hN3 hco Q1 (by rw [x18]; decide) x41 xa
      have hlp' : z_lp f (p + 1) = lp := hlp.elim id (fun q => absurd hp12 q)
      rw [hf, hlp'] at t5
      generalize P r.2.2 w (nI p) deep = x at *
      obtain ⟨f39, -, -, -⟩ := s_Q_o t3
      have f18 : g2 18 o = 10 := by rw [t4.2.1 18 (by omega) o (by omega), x18]
      have f19 : g2 19 o = nI (60 * w + i) := by rw [t4.2.1 19 (by omega) o (by omega), x19]
      have f20 : g2 20 o = nI (60 * w + e) := by rw [t4.2.1 20 (by omega) o (by omega), x20]
      have f21 : g2 21 o = 2 := by rw [t4.2.1 21 (by omega) o (by omega), x21]
      have f23 : g2 23 o = g 0 41 := by rw [t4.2.1 23 (by omega) o (by omega), x23]
      have f24 : g2 24 o = g 0 21 := by rw [t4.2.1 24 (by omega) o (by omega), x24]
      have f25 : g2 25 o = g 0 22 := by rw [t4.2.1 25 (by omega) o (by omega), x25]
      have okE2 : m_endOK g2 0 0 0 0 := by
        have o1b : (g2 0 39 - 1).toNatClampNeg = o := (s_o1 f39 (by omega) (by omega)).2
        unfold m_endOK
        rw [o1b, f18, f19, f21]
        exact ⟨fun q => absurd q (by decide), fun _ => ⟨vp_in_nI (by omega) (by omega), fun q => absurd rfl q⟩, fun q => absurd q (by decide)⟩
      have tE2 := s_end_to t3 t7 okE2
      rw [s_tried_o f39 (by omega) f18] at tE2
      unfold m_tried at tE2
      rw [nI_clamp (by omega), if_pos f21, f23, f24, f25] at tE2
      have k2 := s_kp_le t4 (show o ≤ o + 1 by omega) (Nat.le_refl sc)
      by_cases c0 : x.1 = 0
      · rw [if_pos c0]
        rw [if_pos ((s_way_0 t5).mp c0)] at tE2
        have k3 : s_kp (o + 1) sc g2 (ab_up (ab_up (ab_up g2 0 41 (g 0 41)) 0 21 (g 0 21)) 0 22 (g 0 22)) := s_kp_tr (s_kp_tr (s_kp_0 (by decide) (by decide)) (s_kp_0 (by decide) (by decide))) (s_kp_0 (by decide) (by decide))
        have Q3 : s_Q c2 c2 (o + 1) sc deep x.2.2 (ab_up (ab_up (ab_up g2 0 41 (g 0 41)) 0 21 (g 0 21)) 0 22 (g 0 22)) := s_Q_g t3 (s_dat_tr (s_dat_tr (s_dat_0 (by decide)) (s_dat_0 (by decide))) (s_dat_0 (by decide))) (s_kp_le k3 (Nat.zero_le _) (Nat.le_refl sc)) rfl rfl rfl f39 (by omega) t3.2.2.2.2.2.1.2.2.1
        exact s_out ho (by omega) tE k1 (m_to_tr t2 tE2) (s_kp_tr k2 (s_kp_le k3 (show o ≤ o + 1 by omega) (Nat.le_refl sc))) Q3 f20 (s_way_mv rfl rfl rfl hwy)
      · rw [if_neg c0]
        rw [if_neg (fun q => c0 ((s_way_0 t5).mpr q))] at tE2
        exact s_out ho (by omega) tE k1 (m_to_tr t2 tE2) k2 t3 f20 t5
  · rw [if_neg hp12]
    rw [if_neg hp12, if_pos (Or.inl (by decide))] at tE
    exact out tE
theorem z_nx10 {t : Int32} (h : z_nx 10 t ∨ t = 16) : t = 11 ∨ t = 12 ∨ t = 16 := by
  rcases h with (⟨-, a | a⟩ | ⟨a, -⟩ | ⟨a, -⟩) | a
  · exact Or.inl a
  · exact Or.inr (Or.inl a)
  · exact absurd a (by decide)
  · exact absurd a (by decide)
  · exact Or.inr (Or.inr a)
theorem z_nx11 {t : Int32} (h : z_nx 11 t ∨ t = 16) : t = 12 ∨ t = 16 := by
  rcases h with (⟨a, -⟩ | ⟨-, a⟩ | ⟨a, -⟩) | a
  · exact absurd a (by decide)
  · exact Or.inl a
  · exact absurd a (by decide)
  · exact Or.inr a
theorem z_nx12 {t : Int32} (h : z_nx 12 t ∨ t = 16) : t = 16 := by
  rcases h with (⟨a, -⟩ | ⟨a, -⟩ | ⟨a, -⟩) | a
  · exact absurd a (by decide)
  · exact absurd a (by decide)
  · exact absurd a (by decide)
  · exact a
theorem s_try {n : Nat} {P : c_PT} (hP : s_SP n P) (hI : c_IP n P) (A : s_At h g w z i q c o sc deep) (hc : c < 60) (hco : c_cost n (c_pay h)) (hs : h (8 * w + 15) i = 10) :
    s_End c o sc deep (z_lp (h (8 * w + 15)) i) (60 * w + (h (8 * w + 19) i).toNatClampNeg + 1) g (c_try P (c_pay h) w (nI i) deep) := by
  have ho : m_opens (h (8 * w + 15) i) = true := by rw [hs]; decide
  obtain ⟨e, q1, pR, he, hB, hE, hq1, hP1, hN1, hx1, -, hto⟩ := s_enter A hc ho
  rw [hs] at hx1
  replace hx1 := z_nx10 hx1
  unfold m_begin at hto
  rw [if_neg (by rw [hs]; decide), if_neg (by rw [hs]; decide), if_neg (by rw [hs]; exact fun q => absurd q.1 (by decide)), s_begin A, s_at1 A] at hto
  have I := s_in A hc e (nI (60 * w + i + 1))
  generalize s_pu (ab_up g 0 16 (g 0 16 + 1)) o (h (8 * w + 15) i) (ab_up g 0 16 (g 0 16 + 1) 0 40) (nI (60 * w + e)) (nI (60 * w + i + 1)) = g1 at *
  obtain ⟨Q1, k1, e18, e19, e20, e21, ea, e41, F1⟩ := I
  obtain ⟨hw, F, hW, hiq, hqz, R, Q, T, h41, hat⟩ := A
  have hz := s_z F
  have W := s_F_W F hW
  have hi : i < z := by omega
  obtain ⟨e39, h1, h2, -⟩ := s_Q_o Q
  have hlp : z_lp (h (8 * w + 15)) (i + 1) = z_lp (h (8 * w + 15)) i := s_lp_o W.1.1 hi ho (by rw [hs]; decide)
  obtain ⟨post, g2, c2, t1, t2, t3, t4, t5, t6⟩ := s_inner hP hI hw F1 hW hi hq1 hP1 hN1 hco Q1 (by rw [e18, hs]; decide) e41 ea
  have t5' : s_way (z_lp (h (8 * w + 15)) i) (P (c_pay h) w (nI i) deep).1 (P (c_pay h) w (nI i) deep).2.1 g2 := by rw [← hlp]; exact t5
  have p15 : ∀ j, 15 ≤ j → c_pay h j = h j := fun j hj => ab_up_ne (by omega)
  have q15 : (P (c_pay h) w (nI i) deep).2.2 (8 * w + 15) = h (8 * w + 15) := (post.2.2.2.1 _ (by omega)).trans (p15 _ (by omega))
  have q18 : (P (c_pay h) w (nI i) deep).2.2 (8 * w + 18) = h (8 * w + 18) := (post.2.2.2.1 _ (by omega)).trans (p15 _ (by omega))
  have q17 : (P (c_pay h) w (nI i) deep).2.2 (8 * w + 17) = h (8 * w + 17) := (post.2.2.2.1 _ (by omega)).trans (p15 _ (by omega))
  have F2 : s_F (P (c_pay h) w (nI i) deep).2.2 g2 w z := s_F_mv post.2.2.2.1 t4.1 F1
  have pco : c_cost n (P (c_pay h) w (nI i) deep).2.2 := post.2.2.2.2.2
  unfold c_try
  rw [nI_clamp (by omega), q15, q18, hP1, nI_clamp (by omega)]
  generalize P (c_pay h) w (nI i) deep = x at *
  obtain ⟨f39, -, ho61, -⟩ := s_Q_o t3
  have f18 : g2 18 o = 10 := by rw [t4.2.1 18 (by omega) o (by omega), e18, hs]
  have f19 : g2 19 o = nI (60 * w + i) := by rw [t4.2.1 19 (by omega) o (by omega), e19]
  have f20 : g2 20 o = nI (60 * w + e) := by rw [t4.2.1 20 (by omega) o (by omega), e20]
  have f21 : g2 21 o = 0 := by rw [t4.2.1 21 (by omega) o (by omega), e21]
  have k2 := s_kp_le t4 (show o ≤ o + 1 by omega) (Nat.le_refl sc)
  have kk : s_kp o sc g g2 := s_kp_tr k1 k2
  have hG : ∀ j, j < z → g2 1 (60 * w + j) = h (8 * w + 15) j := fun j hj => by
    rw [(F2.2.2.1 j hj).1, q15]
  have h48 : 60 * w + z ≤ 480 := by omega
  rw [hB, nI_clamp (by omega)]
  have hlq : ∀ p, z_N (h (8 * w + 15)) i p → p < z → (h (8 * w + 15) p = 11 ∨ h (8 * w + 15) p = 12) → z_lp (h (8 * w + 15)) (p + 1) = z_lp (h (8 * w + 15)) i := fun p hN hp hh => by
    rw [s_lp_hd (z_hd_p W.1.1 hN hp (hh.elim Or.inl (fun q => Or.inr (Or.inl q))))]
    exact hlp
  by_cases h11 : h (8 * w + 15) q1 = 11
  · rw [if_pos h11]
    obtain ⟨q2, hq2, hP2, hN2, hx2⟩ := z_W_p W hq1 (Or.inr (Or.inl h11))
    rw [h11] at hx2
    replace hx2 := z_nx11 hx2
    have hn : ¬ (h (8 * w + 15) q1 = 16 ∨ h (8 * w + 15) q1 = 12) := by rw [h11]; decide
    have lpq1 := hlq q1 hN1 hq1 (Or.inl h11)
    have lpq2 : z_lp (h (8 * w + 15)) (q2 + 1) = z_lp (h (8 * w + 15)) i ∨ ¬ h (8 * w + 15) q2 = 12 := by
      by_cases c12 : h (8 * w + 15) q2 = 12
      · left
        rw [s_lp_hd (z_hd_p W.1.1 hN2 hq2 (Or.inr (Or.inl c12)))]
        exact lpq1
      · exact Or.inr c12
    have PEs : ∀ G : Nat → Int32, (∀ j, j < z → G (60 * w + j) = h (8 * w + 15) j) → m_partE G (nI (60 * w + i)) 11 = some (nI (60 * w + q1)) ∧ m_partE G (nI (60 * w + i)) 12 = some (nI (60 * w + q2)) ∧ m_partR G 12 (nI (60 * w + q2)) = (if h (8 * w + 15) q2 = 12 then nI (60 * w + q2) else -1) ∧ m_partR G 11 (nI (60 * w + q1)) = nI (60 * w + q1) := fun G hG => by
      refine ⟨z_part1 W hG h48 hi hq1 hN1 (Or.inr h11), z_part2 W hG h48 hi hq1 hN1 hn hq2 hN2 hx2.symm, z_partR hG h48 hq2 12, ?_⟩
      rw [z_partR hG h48 hq1 11, if_pos h11]
    obtain ⟨E1, E2, E3, E4⟩ := PEs (g2 1) hG
    unfold c_tryC
    have hcat : m_catch g2 (nI o) (m_partR (g2 1) 11 (nI (60 * w + q1))) = (decide (g2 0 41 = 1) && decide (¬ (h (8 * w + 17) i >>> (g2 0 21 &&& 31)) &&& 1 = 0)) := by
      unfold m_catch
      have hx3 : g2 3 (60 * w + i) = h (8 * w + 17) i := by rw [(F2.2.2.1 i hi).2.2, q17]
      rw [E4, nI_clamp (by omega), f21, f19, nI_clamp (by omega), hx3, decide_eq_true (show (0 : Int32) = 0 from rfl), decide_eq_true (nI_pos (show 60 * w + q1 < 2 ^ 31 by omega)), Bool.true_and, Bool.true_and]
    by_cases c4 : x.1 = 4
    · have w1 := (s_way_1 t5').mp c4
      have w21 : g2 0 21 = x.2.1 := by
        rcases t5' with ⟨a, b⟩ | ⟨a, m, -⟩ | ⟨a, m, -⟩ | ⟨a, b, d⟩ | ⟨a, b1, b2⟩ | ⟨a, b⟩
        · exact absurd (a.symm.trans c4) (by decide)
        · exact absurd (a.symm.trans c4) (by decide)
        · exact absurd (a.symm.trans c4) (by decide)
        · exact absurd (a.symm.trans c4) (by decide)
        · exact b2
        · exact absurd (a.symm.trans c4) (by decide)
      rw [if_pos c4, q17, nI_clamp (show i < 2 ^ 31 by omega)]
      rw [w1, w21, decide_eq_true (show (1 : Int32) = 1 from rfl), Bool.true_and] at hcat
      rcases i_bit (h (8 * w + 17) i >>> (x.2.1 &&& 31)) with b0 | b1
      · rw [if_neg (by rw [b0]; decide), q18, hP2]
        rw [b0, decide_eq_false (fun q => q rfl)] at hcat
        exact s_End_pre (c1 := c2) (by omega) (m_to_tr hto t2) kk (s_tryF hP hI (e := e) (p := q2) (f := h (8 * w + 15)) (PE := h (8 * w + 18)) hw h1 hi hq2 F2 q15 q18 hW lpq2 t3 pco t5' t6 f18 f19 f20 (by rw [f21]; decide) E1 E2 E3 hcat)
      · rw [if_pos b1]
        rw [b1, decide_eq_true (show ¬ (1 : Int32) = 0 by decide)] at hcat
        have okE : m_endOK g2 (nI (60 * w + q1)) (nI (60 * w + q2)) 0 0 := by
          have o1b : (g2 0 39 - 1).toNatClampNeg = o := (s_o1 f39 (by omega) (by omega)).2
          unfold m_endOK
          rw [o1b, f18, f19]
          exact ⟨fun q => absurd q (by decide), fun _ => ⟨vp_in_nI (by omega) (by omega), fun _ => ⟨E1, E2⟩⟩, fun q => absurd q (by decide)⟩
        have tE := s_end_to t3 t6 okE
        rw [s_tried_o f39 (by omega) f18] at tE
        unfold m_tried at tE
        rw [nI_clamp (by omega), if_neg (by rw [f21]; decide), if_pos hcat, E4, nI_1, w21] at tE
        have Qn := s_Q_num t3 7 x.2.1
        have k3 : s_kp o sc (ab_up g2 5 7 x.2.1) (ab_up (ab_up (ab_up (ab_up g2 5 7 x.2.1) 21 o 1) 0 41 0) 0 40 (nI (60 * w + q1 + 1))) := s_kp_tr (s_kp_tr (s_kp_up (Or.inr (Or.inl ⟨by decide, Nat.le_refl _⟩))) (s_kp_0 (by decide) (by decide))) (s_kp_0 (by decide) (by decide))
        have Q3 : s_Q c2 c2 (o + 1) sc deep (ab_up x.2.2 4 7 x.2.1) (ab_up (ab_up (ab_up (ab_up g2 5 7 x.2.1) 21 o 1) 0 41 0) 0 40 (nI (60 * w + q1 + 1))) := s_Q_g Qn (s_dat_tr (s_dat_tr (s_dat_up (by decide)) (s_dat_0 (by decide))) (s_dat_0 (by decide))) (s_kp_le k3 (Nat.zero_le o) (Nat.le_refl sc)) rfl rfl rfl f39 (by omega) t3.2.2.2.2.2.1.2.2.1
        have k4 : s_kp o sc g2 (ab_up (ab_up (ab_up (ab_up g2 5 7 x.2.1) 21 o 1) 0 41 0) 0 40 (nI (60 * w + q1 + 1))) := s_kp_tr (s_kp_up (Or.inl (by decide))) k3
        have x18 : (ab_up (ab_up (ab_up (ab_up g2 5 7 x.2.1) 21 o 1) 0 41 0) 0 40 (nI (60 * w + q1 + 1))) 18 o = 10 := f18
        have x19 : (ab_up (ab_up (ab_up (ab_up g2 5 7 x.2.1) 21 o 1) 0 41 0) 0 40 (nI (60 * w + q1 + 1))) 19 o = nI (60 * w + i) := f19
        have x20 : (ab_up (ab_up (ab_up (ab_up g2 5 7 x.2.1) 21 o 1) 0 41 0) 0 40 (nI (60 * w + q1 + 1))) 20 o = nI (60 * w + e) := f20
        have x21 : (ab_up (ab_up (ab_up (ab_up g2 5 7 x.2.1) 21 o 1) 0 41 0) 0 40 (nI (60 * w + q1 + 1))) 21 o = 1 := pk_us
        have x41 : (ab_up (ab_up (ab_up (ab_up g2 5 7 x.2.1) 21 o 1) 0 41 0) 0 40 (nI (60 * w + q1 + 1))) 0 41 = 0 := rfl
        have xa : (ab_up (ab_up (ab_up (ab_up g2 5 7 x.2.1) 21 o 1) 0 41 0) 0 40 (nI (60 * w + q1 + 1))) 0 40 = nI (60 * w + q1 + 1) := rfl
        generalize ab_up (ab_up (ab_up (ab_up g2 5 7 x.2.1) 21 o 1) 0 41 0) 0 40 (nI (60 * w + q1 + 1)) = g3 at *
        have m14 : ∀ j, 14 ≤ j → ab_up x.2.2 4 7 x.2.1 j = x.2.2 j := fun j hj => ab_up_ne (by omega)
        have F3 : s_F (ab_up x.2.2 4 7 x.2.1) g3 w z := s_F_mv m14 k4.1 F2
        have n15 : ab_up x.2.2 4 7 x.2.1 (8 * w + 15) = h (8 * w + 15) := (m14 _ (by omega)).trans q15
        have n18 : ab_up x.2.2 4 7 x.2.1 (8 * w + 18) = h (8 * w + 18) := (m14 _ (by omega)).trans q18
        obtain ⟨post2, g4, c4, v1, v2, v3, v4, v5, v6⟩ := s_inner hP hI (p := q1) (q := q2) hw F3 (by rw [n15]; exact hW) hq1 hq2 (by rw [n18]; exact hP2) (by rw [n15]; exact hN2) (c_cost_up (by decide) pco) Q3 (by rw [x18]; decide) x41 xa
        rw [n15, lpq1] at v5
        have F4 : s_F (P (ab_up x.2.2 4 7 x.2.1) w (nI q1) deep).2.2 g4 w z := s_F_mv post2.2.2.2.1 v4.1 F3
        have r15 : (P (ab_up x.2.2 4 7 x.2.1) w (nI q1) deep).2.2 (8 * w + 15) = h (8 * w + 15) := (post2.2.2.2.1 _ (by omega)).trans n15
        have r18 : (P (ab_up x.2.2 4 7 x.2.1) w (nI q1) deep).2.2 (8 * w + 18) = h (8 * w + 18) := (post2.2.2.2.1 _ (by omega)).trans n18
        have pco2 : c_cost n (P (ab_up x.2.2 4 7 x.2.1) w (nI q1) deep).2.2 := post2.2.2.2.2.2
        generalize P (ab_up x.2.2 4 7 x.2.1) w (nI q1) deep = y at *
        rw [r18, hP2]
        have y18 : g4 18 o = 10 := by rw [v4.2.1 18 (by omega) o (by omega), x18]
        have y19 : g4 19 o = nI (60 * w + i) := by rw [v4.2.1 19 (by omega) o (by omega), x19]
        have y20 : g4 20 o = nI (60 * w + e) := by rw [v4.2.1 20 (by omega) o (by omega), x20]
        have y21 : g4 21 o = 1 := by rw [v4.2.1 21 (by omega) o (by omega), x21]
        obtain ⟨E1', E2', E3', E4'⟩ := PEs (g4 1) (fun j hj => by rw [(F4.2.2.1 j hj).1, r15])
        have hcat2 : m_catch g4 (nI o) (m_partR (g4 1) 11 (nI (60 * w + q1))) = false := by
          unfold m_catch
          rw [nI_clamp (by omega), y21, decide_eq_false (show ¬ (1 : Int32) = 0 by decide), Bool.false_and]
        exact s_End_pre (c1 := c4) (by omega) (m_to_tr hto (m_to_tr t2 (m_to_tr tE v2))) (s_kp_tr kk (s_kp_tr k4 (s_kp_le v4 (show o ≤ o + 1 by omega) (Nat.le_refl sc)))) (s_tryF hP hI (e := e) (p := q2) (f := h (8 * w + 15)) (PE := h (8 * w + 18)) hw h1 hi hq2 F4 r15 r18 hW lpq2 v3 pco2 v5 v6 y18 y19 y20 (by rw [y21]; decide) E1' E2' E3' hcat2)
    · rw [if_neg c4, q18, hP2]
      rw [decide_eq_false (fun q => c4 ((s_way_1 t5').mpr q)), Bool.false_and] at hcat
      exact s_End_pre (c1 := c2) (by omega) (m_to_tr hto t2) kk (s_tryF hP hI (e := e) (p := q2) (f := h (8 * w + 15)) (PE := h (8 * w + 18)) hw h1 hi hq2 F2 q15 q18 hW lpq2 t3 pco t5' t6 f18 f19 f20 (by rw [f21]; decide) E1 E2 E3 hcat)
  · rw [if_neg h11]
    have hx3 : h (8 * w + 15) q1 = 16 ∨ h (8 * w + 15) q1 = 12 := by
      rcases hx1 with q | q | q
      · exact absurd q h11
      · exact Or.inr q
      · exact Or.inl q
    have E2 : m_partE (g2 1) (nI (60 * w + i)) 12 = some (nI (60 * w + q1)) := z_part1 W hG h48 hi hq1 hN1 hx3
    have E3 : m_partR (g2 1) 12 (nI (60 * w + q1)) = (if h (8 * w + 15) q1 = 12 then nI (60 * w + q1) else -1) := z_partR hG h48 hq1 12
    have E1 : ∃ cc, m_partE (g2 1) (nI (60 * w + i)) 11 = some cc ∧ m_partR (g2 1) 11 cc = -1 := by
      rcases hx3 with q16 | q12
      · exact ⟨_, z_part1 W hG h48 hi hq1 hN1 (Or.inl q16), by rw [z_partR hG h48 hq1 11, if_neg h11]⟩
      · obtain ⟨q2, hq2, hP2, hN2, hx2⟩ := z_W_p W hq1 (Or.inr (Or.inr (Or.inl q12)))
        rw [q12] at hx2
        replace hx2 := z_nx12 hx2
        exact ⟨_, z_part2 W hG h48 hi hq1 hN1 (by rw [q12]; decide) hq2 hN2 (Or.inl hx2), by rw [z_partR hG h48 hq2 11, if_neg (by rw [hx2]; decide)]⟩
    obtain ⟨cc, E1, E4⟩ := E1
    have hcat : m_catch g2 (nI o) (m_partR (g2 1) 11 cc) = false := by
      unfold m_catch
      rw [E4, decide_eq_false (show ¬ ¬ (-1 : Int32) < 0 by decide), Bool.false_and, Bool.and_false, Bool.and_false]
    have lpq : z_lp (h (8 * w + 15)) (q1 + 1) = z_lp (h (8 * w + 15)) i ∨ ¬ h (8 * w + 15) q1 = 12 := by
      by_cases c12 : h (8 * w + 15) q1 = 12
      · exact Or.inl (hlq q1 hN1 hq1 (Or.inr c12))
      · exact Or.inr c12
    exact s_End_pre (c1 := c2) (by omega) (m_to_tr hto t2) kk (s_tryF hP hI (e := e) (p := q1) (f := h (8 * w + 15)) (PE := h (8 * w + 18)) hw h1 hi hq1 F2 q15 q18 hW lpq t3 pco t5' t6 f18 f19 f20 (by rw [f21]; decide) E1 E2 E3 hcat)
end SM7
