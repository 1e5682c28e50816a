/-! CALL and SCOPE, class beside reference -/
section SM4
variable {K c o sc w z i q : Nat} {deep : Int32} {h g : ab_H}
theorem s_Q_gd {o' : Nat} {deep' : Int32} {g' : ab_H} (Q : s_Q K c o sc deep h g) (d : s_dat g g') (k : s_kp 0 sc g g') (e30 : g' 0 30 = g 0 30) (e23 : s_dp deep' g') (e16 : g' 0 16 = g 0 16) (e39 : g' 0 39 = nI o') (h1 : 1 ≤ o') (h2 : o' ≤ K + 1) : s_Q K c o' sc deep' h g' := by
  obtain ⟨q1, q2, ⟨u, bx, q3, q4, q5, q6⟩, q7, q8, q9, q10⟩ := Q
  exact ⟨s_Fs_mv (fun _ _ => rfl) k.1 q1, q2, ⟨u, bx, q3, q4, s_dat_RD d q5, q6⟩, s_S_mv rfl e30 k.2.2.1 q7, e23, ⟨e39, h1, h2, q9.2.2.2⟩, q10.1, e16.trans q10.2.1, q10.2.2⟩
theorem s_Q_num (Q : s_Q K c o sc deep h g) (j : Nat) (x : Int32) : s_Q K c o sc deep (ab_up h 4 j x) (ab_up g 5 j x) := by
  obtain ⟨q1, q2, ⟨u, bx, q3, q4, q5, q6⟩, q7, q8, q9, q10⟩ := Q
  exact ⟨s_Fs_mv (fun i hi => ab_up_ne (by omega)) (fun i h1 h2 => ab_up_ne (by omega)) q1, c_inv_4 q2, ⟨u, bx, q3, q4, s_num q5 j x, q6⟩, s_S_mv rfl rfl (fun _ _ => rfl) q7, q8, q9, q10⟩
/-- the end of a CALL -/
theorem s_end_to0 (Q : s_Q K c (o + 1) sc deep h g) (h18 : g 18 o = 0) (h1 : g 0 41 = 0 → m_atEnd g = true) {cc ff : Int32} {mk n : Nat} (ok : m_endOK g cc ff mk n) : m_to g (m_ended g (m_partR (g 1) 11 cc) (m_partR (g 1) 12 ff) mk n) := by
  obtain ⟨e39, h2, h3, h4⟩ := s_Q_o Q
  have o1 := s_o1 e39 h2 (by omega)
  refine m_to_1 h4 ⟨?_, fun q _ => ?_, fun _ => ⟨cc, ff, mk, n, ok, rfl⟩, fun e1 e2 => ?_⟩
  · rw [o1.1]
    exact vp_in_nI (by omega) (by omega)
  · rw [o1.2] at q
    exact absurd h18 q
  · rw [h1 e1] at e2; cases e2
theorem s_call {n : Nat} {P : c_PT} (hP : s_SP n P) (hI : c_IP n P) (A : s_At h g w z i q c o sc deep) (hc : c < 60) (hco : c_cost n (c_pay h)) (hs : h (8 * w + 15) i = 20) :
    s_End c o sc deep (z_lp (h (8 * w + 15)) i) (60 * w + i + 1) g (c_call P (c_pay h) (h (8 * w + 16) i) (h (8 * w + 17) i) deep) := by
  obtain ⟨en, qq, zz, hto, -, -, B3⟩ := s_go A
  obtain ⟨hw, F, hW, hiq, hqz, R, Q, T, h41, hat⟩ := A
  have hz := s_z F
  have hi : i < z := by omega
  obtain ⟨wb, zb, hwb, eb, Fb, rfl⟩ := B3 hs
  have hzb := s_z Fb
  obtain ⟨r1, r2, r3⟩ := F.2.2.1 i hi
  obtain ⟨e39, h1, h2, -⟩ := s_Q_o Q
  have hva : vp_in (h (8 * w + 16) i) 8 := ((Q.2.1.1 w hw).2 i (by omega)).1.1 (by rw [hs]; decide)
  have hD : z_D (h (8 * wb + 15)) zb ≤ 60 := by
    have := z_le Fb.2.2.2.1.1 zb (Nat.le_refl _)
    omega
  have Qp := s_Q_K (s_Q_pay Q hc) (K' := c + 1) (by omega) (Nat.le_refl _)
  obtain ⟨hdp, dd, hdd, edd⟩ := Q.2.2.2.2.1
  unfold m_step at hto
  rw [if_neg (s_c16 Q hc), hat, nI_clamp (by omega), r1, if_neg (by rw [hs]; decide), if_pos hs] at hto
  unfold m_call at hto
  have e23 : ab_up g 0 16 (g 0 16 + 1) 0 23 = nI dd := hdp.trans edd
  have e3 : ab_up g 0 16 (g 0 16 + 1) 3 (nI (60 * w + i)).toNatClampNeg = nI wb := by
    rw [nI_clamp (by omega)]
    show g 3 _ = _
    rw [r3, eb]
  have e4 : ab_up g 0 16 (g 0 16 + 1) 4 (nI wb).toNatClampNeg = nI zb := by
    rw [nI_clamp (by omega)]
    exact Fb.2.1
  have e60 : (60 : Int32) * nI wb = nI (60 * wb) := (Int32.ofNat_mul 60 wb).symm
  rw [e23, e3, e4, e60, nI_add, nI_1] at hto
  have Fail : (nI dd = 6 ∨ ¬ nI (z_D (h (8 * wb + 15)) zb) = 0) → s_End c o sc deep (z_lp (h (8 * w + 15)) i) (60 * w + i + 1) g (4, 7, c_pay h) := fun hf => by
    rw [if_pos hf] at hto
    have kk : s_kp o sc g (ab_up (ab_up (ab_up g 0 16 (g 0 16 + 1)) 0 21 7) 0 41 1) := s_kp_tr (s_kp_tr (s_kp_0 (by decide) (by decide)) (s_kp_0 (by decide) (by decide))) (s_kp_0 (by decide) (by decide))
    refine ⟨_, c + 1, by omega, hto, s_Q_g Qp (s_dat_tr (s_dat_0 (by decide)) (s_dat_0 (by decide))) (s_kp_tr (s_kp_0 (by decide) (by decide)) (s_kp_0 (by decide) (by decide))) rfl rfl rfl e39 h1 Qp.2.2.2.2.2.1.2.2.1, kk, Or.inr (Or.inr (Or.inr (Or.inr (Or.inl ⟨rfl, rfl, rfl⟩)))), fun q => absurd (show (4 : Int32) = 0 from q) (by decide)⟩
  rw [eb]
  unfold c_call
  rw [nI_clamp (by omega)]
  have hwh : c_whole (c_pay h) wb = decide (nI (z_D (h (8 * wb + 15)) zb) = 0) := by
    unfold c_whole
    have : c_pay h (8 * wb + 14) = h (8 * wb + 14) := ab_up_ne (by omega)
    rw [this, Fb.2.2.2.2]
  rw [hwh]
  by_cases c0 : nI (z_D (h (8 * wb + 15)) zb) = 0
  · rw [if_pos (decide_eq_true c0)]
    by_cases c6 : deep < 6
    · rw [if_pos c6]
      have hd6 : dd < 6 := by
        rw [edd] at c6
        exact (nI_ltI (b := 6) (by omega) (by omega)).mp c6
      have hd6' : ¬ nI dd = 6 := fun q => by
        have := (nI_eq (b := 6) (by omega) (by omega)).mp q
        omega
      have hWb : z_sk (h (8 * wb + 15)) zb = [] := by
        have : z_D (h (8 * wb + 15)) zb = 0 := (nI_eq (b := 0) (by omega) (by omega)).mp c0
        exact List.eq_nil_of_length_eq_zero this
      rw [if_neg (fun q => q.elim hd6' (fun q => q c0)), s_pu_eq (g := ab_up (ab_up (ab_up g 0 16 (g 0 16 + 1)) 0 23 (nI (dd + 1))) 0 22 0) (o := o) e39 (by omega)] at hto
      have Qn : s_Q (c + 1) (c + 1) (o + 1) sc (deep + 1) (c_pay h) (s_pu (ab_up (ab_up (ab_up g 0 16 (g 0 16 + 1)) 0 23 (nI (dd + 1))) 0 22 0) o 0 (nI (60 * w + i)) (nI (60 * wb + zb)) (nI (60 * wb))) := by
        refine s_Q_gd Qp (s_dat_tr (s_dat_tr (s_dat_0 (by decide)) (s_dat_0 (by decide))) s_pu_dat) (s_kp_le (s_kp_tr (s_kp_tr (s_kp_0 (by decide) (by decide)) (s_kp_0 (by decide) (by decide))) s_pu_kp) (Nat.zero_le o) (Nat.le_refl sc)) rfl ⟨?_, dd + 1, by omega, by rw [edd, nI_1]⟩ rfl rfl (by omega) (by have := Q.2.2.2.2.2.1.2.2.1; omega)
        show nI (dd + 1) = _
        rw [edd, nI_1]
      have k1 : s_kp o sc g (s_pu (ab_up (ab_up (ab_up g 0 16 (g 0 16 + 1)) 0 23 (nI (dd + 1))) 0 22 0) o 0 (nI (60 * w + i)) (nI (60 * wb + zb)) (nI (60 * wb))) := s_kp_tr (s_kp_tr (s_kp_tr (s_kp_0 (by decide) (by decide)) (s_kp_0 (by decide) (by decide))) (s_kp_0 (by decide) (by decide))) s_pu_kp
      have e18 : s_pu (ab_up (ab_up (ab_up g 0 16 (g 0 16 + 1)) 0 23 (nI (dd + 1))) 0 22 0) o 0 (nI (60 * w + i)) (nI (60 * wb + zb)) (nI (60 * wb)) 18 o = 0 := s_pu_18
      have e19 : s_pu (ab_up (ab_up (ab_up g 0 16 (g 0 16 + 1)) 0 23 (nI (dd + 1))) 0 22 0) o 0 (nI (60 * w + i)) (nI (60 * wb + zb)) (nI (60 * wb)) 19 o = nI (60 * w + i) := s_pu_19
      have e20 : s_pu (ab_up (ab_up (ab_up g 0 16 (g 0 16 + 1)) 0 23 (nI (dd + 1))) 0 22 0) o 0 (nI (60 * w + i)) (nI (60 * wb + zb)) (nI (60 * wb)) 20 o = nI (60 * wb + zb) := s_pu_20
      have e41 : s_pu (ab_up (ab_up (ab_up g 0 16 (g 0 16 + 1)) 0 23 (nI (dd + 1))) 0 22 0) o 0 (nI (60 * w + i)) (nI (60 * wb + zb)) (nI (60 * wb)) 0 41 = 0 := h41
      have ea : s_pu (ab_up (ab_up (ab_up g 0 16 (g 0 16 + 1)) 0 23 (nI (dd + 1))) 0 22 0) o 0 (nI (60 * w + i)) (nI (60 * wb + zb)) (nI (60 * wb)) 0 40 = nI (60 * wb + 0) := rfl
      generalize s_pu (ab_up (ab_up (ab_up g 0 16 (g 0 16 + 1)) 0 23 (nI (dd + 1))) 0 22 0) o 0 (nI (60 * w + i)) (nI (60 * wb + zb)) (nI (60 * wb)) = g1 at *
      have F1 : s_F (c_pay h) g1 wb zb := s_F_mv (fun i hi => ab_up_ne (by omega)) k1.1 Fb
      have Fw1 : s_F (c_pay h) g1 w z := s_F_mv (fun i hi => ab_up_ne (by omega)) k1.1 F
      have E := hP (c_pay h) g1 wb zb 0 zb (c + 1) (o + 1) sc (-1) (deep + 1) hwb F1 hWb (by decide) (Or.inl rfl) (by rw [if_pos rfl]; exact F1.1) (z_R_W (s_F_W F1 hWb)) (Nat.le_refl _) hco Qn (Or.inl ⟨e18, e20⟩) e41 ea
      have post := hI (c_pay h) wb (-1) (deep + 1) ⟨Qn.2.1, hwb, Or.inl rfl, hco⟩
      generalize hx : P (c_pay h) wb (-1) (deep + 1) = x at *
      obtain ⟨g2, c2, t1, t2, t3, t4, t5, t6⟩ := E
      obtain ⟨f39, -, ho61, -⟩ := s_Q_o t3
      have o1 := s_o1 f39 (by omega) (by omega)
      have o1a : g2 0 39 - 1 = nI o := o1.1
      have o1b : (g2 0 39 - 1).toNatClampNeg = o := o1.2
      have f18 : g2 18 o = 0 := by rw [t4.2.1 18 (by omega) o (by omega), e18]
      have f19 : g2 19 o = nI (60 * w + i) := by rw [t4.2.1 19 (by omega) o (by omega), e19]
      have f2 : g2 2 (60 * w + i) = h (8 * w + 16) i := by
        rw [t4.1 2 (by decide) (by decide), k1.1 2 (by decide) (by decide), r2]
      have hone : ¬ nI o = 0 := nI_ne0 (by omega) (by omega)
      have f20 : g2 20 o = nI (60 * wb + zb) := by rw [t4.2.1 20 (by omega) o (by omega), e20]
      have hend : g2 0 41 = 0 → m_atEnd g2 = true := fun e => by
        have hat2 := t6 ((s_way_0 t5).mpr e)
        unfold m_atEnd
        rw [o1b, f18, if_pos rfl, f20, hat2, decide_eq_true rfl]
      have okE : m_endOK g2 0 0 0 0 := by
        unfold m_endOK
        rw [o1b, f18, f19, nI_clamp (by omega), f2]
        exact ⟨fun _ _ => ⟨vp_in_nI (by omega) (by omega), hva⟩, fun q => absurd q (by decide), fun q => absurd q (by decide)⟩
      have tE := s_end_to0 t3 f18 hend okE
      unfold m_ended at tE
      rw [o1b, f18, if_pos rfl] at tE
      unfold m_back at tE
      rw [if_neg (by rw [o1a]; exact hone), o1b, o1a, f19, nI_clamp (by omega), f2, nI_1] at tE
      have e23b : g2 0 23 - 1 = deep := by
        rw [t3.2.2.2.2.1.1, edd, nI_1, nI_pred]
      rw [e23b] at tE
      have hbo : o ≤ c2 + 1 := by have := t3.2.2.2.2.2.1.2.2.1; omega
      have k2 := s_kp_le t4 (show o ≤ o + 1 by omega) (Nat.le_refl sc)
      by_cases c45 : x.1 = 4 ∨ x.1 = 5
      · rw [if_pos c45]
        have c13 : g2 0 41 = 1 ∨ g2 0 41 = 3 := c45.elim (fun q => Or.inl ((s_way_1 t5).mp q)) (fun q => Or.inr ((s_way_3 t5).mp q))
        rw [if_pos c13] at tE
        have k3 : s_kp o sc g2 (ab_up (ab_up (ab_up g2 0 39 (nI o)) 0 23 deep) 0 40 (nI (60 * w + i + 1))) := s_kp_tr (s_kp_tr (s_kp_0 (by decide) (by decide)) (s_kp_0 (by decide) (by decide))) (s_kp_0 (by decide) (by decide))
        refine ⟨_, c2, by omega, m_to_tr hto (m_to_tr t2 tE), s_Q_gd t3 (s_dat_tr (s_dat_tr (s_dat_0 (by decide)) (s_dat_0 (by decide))) (s_dat_0 (by decide))) (s_kp_le k3 (Nat.zero_le o) (Nat.le_refl sc)) rfl ⟨rfl, dd, hdd, edd⟩ rfl rfl h1 hbo, s_kp_tr k1 (s_kp_tr k2 k3), ?_, fun _ => rfl⟩
        rcases c45 with q | q
        · rcases t5 with ⟨a, b⟩ | ⟨a, m, -⟩ | ⟨a, m, -⟩ | ⟨a, b, -⟩ | ⟨a, b1, b2⟩ | ⟨a, b⟩
          · exact absurd (a.symm.trans q) (by decide)
          · exact absurd (a.symm.trans q) (by decide)
          · exact absurd (a.symm.trans q) (by decide)
          · exact absurd (a.symm.trans q) (by decide)
          · exact Or.inr (Or.inr (Or.inr (Or.inr (Or.inl ⟨a, b1, b2⟩))))
          · exact absurd (a.symm.trans q) (by decide)
        · exact Or.inr (Or.inr (Or.inr (Or.inr (Or.inr ⟨q, (s_way_3 t5).mp q⟩))))
      · rw [if_neg c45]
        have c13 : ¬ (g2 0 41 = 1 ∨ g2 0 41 = 3) := fun q => c45 (q.elim (fun q => Or.inl ((s_way_1 t5).mpr q)) (fun q => Or.inr ((s_way_3 t5).mpr q)))
        have hval : (if x.1 = 3 then x.2.1 else 0) = (if g2 0 41 = 2 then g2 0 22 else 0) := by
          by_cases c3 : x.1 = 3
          · rw [if_pos c3, if_pos ((s_way_2 t5).mp c3)]
            rcases t5 with ⟨a, b⟩ | ⟨a, m, -⟩ | ⟨a, m, -⟩ | ⟨a, b, d⟩ | ⟨a, b1, b2⟩ | ⟨a, b⟩
            · exact absurd (a.symm.trans c3) (by decide)
            · exact absurd (a.symm.trans c3) (by decide)
            · exact absurd (a.symm.trans c3) (by decide)
            · exact d.symm
            · exact absurd (a.symm.trans c3) (by decide)
            · exact absurd (a.symm.trans c3) (by decide)
          · rw [if_neg c3, if_neg (fun q => c3 ((s_way_2 t5).mpr q))]
        rw [if_neg c13, ← hval] at tE
        have k3 : s_kp o sc g2 (ab_up (ab_up (ab_up g2 0 39 (nI o)) 0 23 deep) 0 40 (nI (60 * w + i + 1))) := s_kp_tr (s_kp_tr (s_kp_0 (by decide) (by decide)) (s_kp_0 (by decide) (by decide))) (s_kp_0 (by decide) (by decide))
        have Q3 := s_Q_gd (o' := o) (deep' := deep) (g' := ab_up (ab_up (ab_up g2 0 39 (nI o)) 0 23 deep) 0 40 (nI (60 * w + i + 1))) t3 (s_dat_tr (s_dat_tr (s_dat_0 (by decide)) (s_dat_0 (by decide))) (s_dat_0 (by decide))) (s_kp_le k3 (Nat.zero_le o) (Nat.le_refl sc)) rfl ⟨rfl, dd, hdd, edd⟩ rfl rfl h1 hbo
        have Q4 := s_Q_41 (s_Q_num Q3 (h (8 * w + 16) i).toNatClampNeg (if x.1 = 3 then x.2.1 else 0)) 0
        exact ⟨_, c2, by omega, m_to_tr hto (m_to_tr t2 tE), Q4.1, s_kp_tr k1 (s_kp_tr k2 (s_kp_tr k3 (s_kp_tr (s_kp_up (Or.inl (by decide))) Q4.2))), Or.inl ⟨rfl, rfl⟩, fun _ => rfl⟩
    · rw [if_neg c6]
      refine Fail (Or.inl ?_)
      rw [edd] at c6
      have : ¬ dd < 6 := fun q => c6 (nI_lt (b := 6) q (by omega))
      have : dd = 6 := by omega
      rw [this]; rfl
  · rw [if_neg (by rw [decide_eq_false c0]; decide)]
    exact Fail (Or.inr c0)
end SM4
