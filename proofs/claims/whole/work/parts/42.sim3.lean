/-! blocks: going in, going through a part, leaving; MUTE and IF -/
def s_pu (g : ab_H) (o : Nat) (s hd en at_ : Int32) : ab_H := ab_up (ab_up (ab_up (ab_up (ab_up (ab_up (ab_up g 18 o s) 19 o hd) 20 o en) 21 o 0) 22 o 0) 0 39 (nI (o + 1))) 0 40 at_
theorem s_pu_eq {g : ab_H} {o : Nat} {s hd en at_ : Int32} (e : g 0 39 = nI o) (ho : o ≤ 100) : ab_up (m_push g s hd en) 0 40 at_ = s_pu g o s hd en at_ := by
  unfold m_push s_pu
  rw [e, nI_clamp (by omega), nI_1]
theorem s_pu_dat {g : ab_H} {o : Nat} {s hd en at_ : Int32} : s_dat g (s_pu g o s hd en at_) := s_dat_tr (s_dat_tr (s_dat_tr (s_dat_tr (s_dat_tr (s_dat_tr (s_dat_up (by decide)) (s_dat_up (by decide))) (s_dat_up (by decide))) (s_dat_up (by decide))) (s_dat_up (by decide))) (s_dat_0 (by decide))) (s_dat_0 (by decide))
theorem s_pu_kp {g : ab_H} {o sc : Nat} {s hd en at_ : Int32} : s_kp o sc g (s_pu g o s hd en at_) := s_kp_tr (s_kp_tr (s_kp_tr (s_kp_tr (s_kp_tr (s_kp_tr (s_kp_up (Or.inr (Or.inl ⟨by decide, Nat.le_refl _⟩))) (s_kp_up (Or.inr (Or.inl ⟨by decide, Nat.le_refl _⟩)))) (s_kp_up (Or.inr (Or.inl ⟨by decide, Nat.le_refl _⟩)))) (s_kp_up (Or.inr (Or.inl ⟨by decide, Nat.le_refl _⟩)))) (s_kp_up (Or.inr (Or.inl ⟨by decide, Nat.le_refl _⟩)))) (s_kp_0 (by decide) (by decide))) (s_kp_0 (by decide) (by decide))
theorem s_pu_18 {g : ab_H} {o : Nat} {s hd en at_ : Int32} : s_pu g o s hd en at_ 18 o = s := pk_us
theorem s_pu_19 {g : ab_H} {o : Nat} {s hd en at_ : Int32} : s_pu g o s hd en at_ 19 o = hd := pk_us
theorem s_pu_20 {g : ab_H} {o : Nat} {s hd en at_ : Int32} : s_pu g o s hd en at_ 20 o = en := pk_us
theorem s_pu_21 {g : ab_H} {o : Nat} {s hd en at_ : Int32} : s_pu g o s hd en at_ 21 o = 0 := pk_us
section SM3
variable {K c o sc w z i q : Nat} {deep : Int32} {h g : ab_H}
/-- the COST is paid and a frame stands on top -/
theorem s_pu_Q (Q : s_Q c c o sc deep h g) (hc : c < 60) (s hd en at_ : Int32) : s_Q (c + 1) (c + 1) (o + 1) sc deep (c_pay h) (s_pu (ab_up g 0 16 (g 0 16 + 1)) o s hd en at_) ∧ s_kp o sc g (s_pu (ab_up g 0 16 (g 0 16 + 1)) o s hd en at_) := by
  have Qp := s_Q_K (s_Q_pay Q hc) (K' := c + 1) (by omega) (Nat.le_refl _)
  exact ⟨s_Q_g Qp s_pu_dat (s_kp_le s_pu_kp (Nat.zero_le o) (Nat.le_refl _)) rfl rfl rfl rfl (by omega) (by have := Q.2.2.2.2.2.1.2.2.1; omega), s_kp_tr (s_kp_0 (by decide) (by decide)) s_pu_kp⟩
theorem s_inner {n : Nat} {P : c_PT} (hP : s_SP n P) (hI : c_IP n P) {p : Nat} (hw : w < 8) (F : s_F h g w z) (hW : z_sk (h (8 * w + 15)) z = []) (hp : p < z) (hq : q < z) (hE : h (8 * w + 18) p = nI q) (hN : z_N (h (8 * w + 15)) p q) (hc : c_cost n h) (Q : s_Q c c (o + 1) sc deep h g)
    (h18 : ¬ g 18 o = 0) (h41 : g 0 41 = 0) (hat : g 0 40 = nI (60 * w + p + 1)) : c_post n h (P h w (nI p) deep) ∧ ∃ g2 c2, c ≤ c2 ∧ m_to g g2 ∧ s_Q c2 c2 (o + 1) sc deep (P h w (nI p) deep).2.2 g2 ∧ s_kp (o + 1) sc g g2 ∧
      s_way (z_lp (h (8 * w + 15)) (p + 1)) (P h w (nI p) deep).1 (P h w (nI p) deep).2.1 g2 ∧ (g2 0 41 = 0 → m_atEnd g2 = true ∧ vp_in (g2 0 40) 480) := by
  have hz := s_z F
  have hm1 : ¬ nI p = -1 := nI_m p (by omega)
  have hpv : vp_in (nI p) 60 := vp_in_nI (by omega) (by omega)
  have T : s_top g (o + 1) w q (h (8 * w + 15)) z := Or.inr ⟨h18, hq, hN.2.2.1⟩
  have E := hP h g w z (p + 1) q c (o + 1) sc (nI p) deep hw F hW (nI_1 p) (Or.inr hpv) (by rw [if_neg hm1, nI_clamp (by omega)]; exact hE) (z_R_N hN) (by omega) hc Q T h41 (by rw [hat, Nat.add_assoc])
  have post := hI h w (nI p) deep ⟨Q.2.1, hw, Or.inr hpv, hc⟩
  obtain ⟨g2, c2, e1, e2, e3, e4, e5, e6⟩ := E
  refine ⟨post, g2, c2, e1, e2, e3, e4, e5, fun e => ?_⟩
  have hat2 := e6 ((s_way_0 e5).mpr e)
  have F2 := s_F_mv post.2.2.2.1 e4.1 F
  have f15 := post.2.2.2.1 (8 * w + 15) (by omega)
  obtain ⟨e39, h1, h2, -⟩ := s_Q_o e3
  refine ⟨s_atEnd (f := h (8 * w + 15)) (fun j hj => ?_) hw hz e39 h1 h2 (s_top_kp (by omega) e4 T) hat2, by rw [hat2]; exact vp_in_nI (by omega) (by omega)⟩
  rw [(F2.2.2.1 j hj).1, f15]
theorem s_leave {e : Nat} (Q : s_Q c c (o + 1) sc deep h g) (ho : 1 ≤ o) (e20 : g 20 o = nI e) : s_Q c c o sc deep h (m_leave g) ∧ s_kp o sc g (m_leave g) ∧ m_leave g 0 40 = nI (e + 1) := by
  obtain ⟨e39, h1, h2, -⟩ := s_Q_o Q
  have hb := Q.2.2.2.2.2.1.2.2.1
  obtain ⟨o1, o2⟩ := s_o1 e39 h1 (by omega)
  have k : s_kp o sc g (m_leave g) := s_kp_tr (s_kp_0 (by decide) (by decide)) (s_kp_0 (by decide) (by decide))
  refine ⟨s_Q_g Q (s_dat_tr (s_dat_0 (by decide)) (s_dat_0 (by decide))) (s_kp_le k (Nat.zero_le _) (Nat.le_refl _)) rfl rfl rfl o1 ho (by omega), k, ?_⟩
  show g 20 (g 0 39 - 1).toNatClampNeg + 1 = _
  rw [o2]
  show g 20 o + 1 = _
  rw [e20, nI_1]
/-- the way is another -/
theorem s_Q_41 (Q : s_Q K c o sc deep h g) (v : Int32) : s_Q K c o sc deep h (ab_up g 0 41 v) ∧ s_kp o sc g (ab_up g 0 41 v) :=
  ⟨s_Q_g Q (s_dat_0 (by decide)) (s_kp_0 (by decide) (by decide)) rfl rfl rfl (s_Q_o Q).1 (s_Q_o Q).2.1 Q.2.2.2.2.2.1.2.2.1, s_kp_0 (by decide) (by decide)⟩
theorem s_lp_o {f : Nat → Int32} (ok : z_ok f z) (hi : i < z) (ho : m_opens (f i) = true) (h13 : ¬ f i = 13) : z_lp f (i + 1) = z_lp f i := by
  unfold z_lp
  rw [z_hd_o ok hi ho, List.filter_cons_of_neg (by simpa using h13)]
theorem s_lp_13 {f : Nat → Int32} (ok : z_ok f z) (hi : i < z) (h13 : f i = 13) : z_lp f (i + 1) = z_lp f i + 1 := by
  unfold z_lp
  rw [z_hd_o ok hi (by rw [h13]; decide), List.filter_cons_of_pos (by simpa using h13)]
  rfl
theorem s_endOK_o (e39 : g 0 39 = nI (o + 1)) (ho : o ≤ 61) (h0 : ¬ g 18 o = 0) (h10 : ¬ g 18 o = 10) (h14 : ¬ g 18 o = 14) : m_endOK g 0 0 0 0 := by
  have o2 := (s_o1 e39 (by omega) (by omega)).2
  unfold m_endOK
  rw [o2]
  exact ⟨fun q => absurd q h0, fun q => absurd q h10, fun q => absurd q h14⟩
/-- a block that is gone through in one part, and left -/
theorem s_c16 (Q : s_Q K c o sc deep h g) (hc : c < 60) : ¬ g 0 16 = 60 := by
  rcases s_c60 Q with ⟨-, q, -⟩ | ⟨-, -, q⟩
  · exact q
  · omega
theorem s_cost_pay {n : Nat} (Q : s_Q c c o sc deep h g) (hc : c < 60) (H : c_cost (n + 1) h) : c_cost n (c_pay h) := by
  obtain ⟨x, h1, h2, h3⟩ := H
  have := Q.2.2.2.2.2.2.1
  refine ⟨c + 1, by omega, ?_, ?_⟩
  · show h 0 3 + 1 = _
    rw [this, nI_1]
  · have : c = x := (nI_eq (by omega) (by omega)).mp (this.symm.trans h2)
    omega
/-- into a block -/
theorem s_enter (A : s_At h g w z i q c o sc deep) (hc : c < 60) (ho : m_opens (h (8 * w + 15) i) = true) : ∃ e q1 pR, e < z ∧ h (8 * w + 19) i = nI e ∧ z_E (h (8 * w + 15)) i e ∧ q1 < z ∧ h (8 * w + 18) i = nI q1 ∧ z_N (h (8 * w + 15)) i q1 ∧ (z_nx (h (8 * w + 15) i) (h (8 * w + 15) q1) ∨ h (8 * w + 15) q1 = 16) ∧
    (h (8 * w + 15) i = 21 → pR = if h (8 * w + 15) q1 = 22 then nI (60 * w + q1) else -1) ∧ m_to g (m_begin (ab_up g 0 16 (g 0 16 + 1)) (h (8 * w + 15) i) (nI (60 * w + e)) pR) := by
  obtain ⟨en, qq, zz, hto, B1, B2, -⟩ := s_go A
  obtain ⟨hw, F, hW, hiq, hqz, R, Q, T, h41, hat⟩ := A
  have hz := s_z F
  have W := s_F_W F hW
  have hi : i < z := by omega
  obtain ⟨e, he, hB, hE, rfl⟩ := B1 ho
  obtain ⟨q1, hq1, hP1, hN1, hx⟩ := z_W_p W hi (Or.inl ho)
  obtain ⟨r1, r2, r3⟩ := F.2.2.1 i hi
  unfold m_step at hto
  rw [if_neg (s_c16 Q hc), hat, nI_clamp (by omega), r1, if_pos ho] at hto
  refine ⟨e, q1, _, he, hB, hE, hq1, hP1, hN1, hx, fun h21 => ?_, hto⟩
  obtain ⟨q2, hq2, hP2, -, -, rfl⟩ := B2 h21
  have : q2 = q1 := (nI_eq (by omega) (by omega)).mp (hP2.symm.trans hP1)
  subst this
  exact z_partR (fun j hj => (F.2.2.1 j hj).1) (by omega) hq2 22
/-- the state in a block -/
def s_In (h g g1 : ab_H) (w z i e c o sc : Nat) (deep at_ : Int32) : Prop := s_Q (c + 1) (c + 1) (o + 1) sc deep (c_pay h) g1 ∧ s_kp o sc g g1 ∧ g1 18 o = h (8 * w + 15) i ∧ g1 19 o = nI (60 * w + i) ∧ g1 20 o = nI (60 * w + e) ∧ g1 21 o = 0 ∧ g1 0 40 = at_ ∧ g1 0 41 = 0 ∧ s_F (c_pay h) g1 w z
theorem s_in (A : s_At h g w z i q c o sc deep) (hc : c < 60) (e : Nat) (at_ : Int32) : s_In h g (s_pu (ab_up g 0 16 (g 0 16 + 1)) o (h (8 * w + 15) i) (ab_up g 0 16 (g 0 16 + 1) 0 40) (nI (60 * w + e)) at_) w z i e c o sc deep at_ := by
  obtain ⟨hw, F, hW, hiq, hqz, R, Q, T, h41, hat⟩ := A
  obtain ⟨Q1, k1⟩ := s_pu_Q Q hc (h (8 * w + 15) i) (ab_up g 0 16 (g 0 16 + 1) 0 40) (nI (60 * w + e)) at_
  exact ⟨Q1, k1, s_pu_18, s_pu_19.trans hat, s_pu_20, s_pu_21, rfl, h41, s_F_mv (fun i hi => ab_up_ne (by omega)) k1.1 F⟩
theorem s_begin (A : s_At h g w z i q c o sc deep) (e : Nat) (at_ : Int32) : ab_up (m_push (ab_up g 0 16 (g 0 16 + 1)) (h (8 * w + 15) i) (ab_up g 0 16 (g 0 16 + 1) 0 40) (nI (60 * w + e))) 0 40 at_ = s_pu (ab_up g 0 16 (g 0 16 + 1)) o (h (8 * w + 15) i) (ab_up g 0 16 (g 0 16 + 1) 0 40) (nI (60 * w + e)) at_ := by
  obtain ⟨hw, F, hW, hiq, hqz, R, Q, T, h41, hat⟩ := A
  obtain ⟨e39, h1, h2, -⟩ := s_Q_o Q
  exact s_pu_eq e39 (by omega)
theorem s_at1 (A : s_At h g w z i q c o sc deep) : ab_up g 0 16 (g 0 16 + 1) 0 40 + 1 = nI (60 * w + i + 1) := by
  obtain ⟨hw, F, hW, hiq, hqz, R, Q, T, h41, hat⟩ := A
  show g 0 40 + 1 = _
  rw [hat, nI_1]
/-- the block's frame goes -/
theorem s_out {g1 g2 : ab_H} {c2 e lp : Nat} {h2 : ab_H} {k v : Int32} (ho : 1 ≤ o) (hc : c ≤ c2) (t1 : m_to g g1) (k1 : s_kp o sc g g1) (t2 : m_to g1 (m_leave g2)) (k2 : s_kp o sc g1 g2) (Q2 : s_Q c2 c2 (o + 1) sc deep h2 g2) (e20 : g2 20 o = nI (60 * w + e)) (hw : s_way lp k v g2) : s_End c o sc deep lp (60 * w + e + 1) g (k, v, h2) := by
  obtain ⟨L1, L2, L3⟩ := s_leave Q2 ho e20
  exact ⟨_, c2, hc, m_to_tr t1 t2, L1, s_kp_tr k1 (s_kp_tr k2 L2), s_way_mv rfl rfl rfl hw, fun _ => L3⟩
theorem s_mute {n : Nat} {P : c_PT} (hP : s_SP n P) (hI : c_IP n P) (A : s_At h g w z i q c o sc deep) (hc : c < 60) (hco : c_cost n (c_pay h)) (hs : h (8 * w + 15) i = 15) :
    s_End c o sc deep (z_lp (h (8 * w + 15)) i) (60 * w + (h (8 * w + 19) i).toNatClampNeg + 1) g (c_mute P (c_pay h) w (nI i) deep) := by
  have ho : m_opens (h (8 * w + 15) i) = true := by rw [hs]; decide
  obtain ⟨e, q1, pR, he, hB, hE, hq1, hP1, hN1, -, -, hto⟩ := s_enter A hc ho
  unfold m_begin at hto
  rw [if_neg (by rw [hs]; decide), if_neg (by rw [hs]; decide), if_neg (by rw [hs]; exact fun q => absurd q.1 (by decide)), s_begin A, s_at1 A] at hto
  have I := s_in A hc e (nI (60 * w + i + 1))
  generalize s_pu (ab_up g 0 16 (g 0 16 + 1)) o (h (8 * w + 15) i) (ab_up g 0 16 (g 0 16 + 1) 0 40) (nI (60 * w + e)) (nI (60 * w + i + 1)) = g1 at *
  obtain ⟨Q1, k1, e18, e19, e20, e21, ea, e41, F1⟩ := I
  obtain ⟨hw, F, hW, hiq, hqz, R, Q, T, h41, hat⟩ := A
  have hz := s_z F
  have W := s_F_W F hW
  have hi : i < z := by omega
  obtain ⟨e39, h1, h2, -⟩ := s_Q_o Q
  obtain ⟨post, g2, c2, t1, t2, t3, t4, t5, t6⟩ := s_inner hP hI hw F1 hW hi hq1 hP1 hN1 hco Q1 (by rw [e18, hs]; decide) e41 ea
  obtain ⟨f39, -, -, -⟩ := s_Q_o t3
  have f18 : g2 18 o = 15 := by rw [t4.2.1 18 (by omega) o (by omega), e18, hs]
  have f20 : g2 20 o = nI (60 * w + e) := by rw [t4.2.1 20 (by omega) o (by omega), e20]
  have tE := s_end_to t3 t6 (s_endOK_o f39 (by omega) (by rw [f18]; decide) (by rw [f18]; decide) (by rw [f18]; decide))
  unfold m_ended at tE
  rw [(s_o1 f39 (by omega) (by omega)).2, show o + 1 - 1 = o from rfl, f18, if_neg (by decide), if_neg (by decide), if_neg (by decide), if_neg (by decide), if_pos rfl] at tE
  have hlp : z_lp (h (8 * w + 15)) (i + 1) = z_lp (h (8 * w + 15)) i := s_lp_o W.1.1 hi ho (by rw [hs]; decide)
  have t5' : s_way (z_lp (h (8 * w + 15)) i) (P (c_pay h) w (nI i) deep).1 (P (c_pay h) w (nI i) deep).2.1 g2 := by rw [← hlp]; exact t5
  have k2 := s_kp_le t4 (show o ≤ o + 1 by omega) (Nat.le_refl sc)
  rw [hB, nI_clamp (by omega)]
  unfold c_mute
  by_cases c5 : (P (c_pay h) w (nI i) deep).1 = 5
  · rw [if_pos c5]
    rw [if_pos ((s_way_3 t5').mp c5)] at tE
    exact s_out h1 (by omega) hto k1 (m_to_tr t2 tE) k2 t3 f20 t5'
  · rw [if_neg c5]
    rw [if_neg (fun q => c5 ((s_way_3 t5').mpr q))] at tE
    obtain ⟨M1, M2⟩ := s_Q_41 t3 0
    exact s_out h1 (by omega) hto k1 (m_to_tr t2 tE) (s_kp_tr k2 (s_kp_le M2 (show o ≤ o + 1 by omega) (Nat.le_refl sc))) M1 f20 (Or.inl ⟨rfl, rfl⟩)
/-- an IF's frame goes -/
theorem s_if_out {g1 g2 : ab_H} {c2 e lp : Nat} {x : c_R} (ho : 1 ≤ o) (hc : c ≤ c2) (t1 : m_to g g1) (k1 : s_kp o sc g g1) (t2 : m_to g1 g2) (k2 : s_kp (o + 1) sc g1 g2) (Q2 : s_Q c2 c2 (o + 1) sc deep x.2.2 g2) (e18 : g1 18 o = 21) (e20 : g1 20 o = nI (60 * w + e)) (hw : s_way lp x.1 x.2.1 g2) (t6 : g2 0 41 = 0 → m_atEnd g2 = true ∧ vp_in (g2 0 40) 480) : s_End c o sc deep lp (60 * w + e + 1) g x := by
  obtain ⟨f39, -, -, -⟩ := s_Q_o Q2
  have f18 : g2 18 o = 21 := by rw [k2.2.1 18 (by omega) o (by omega), e18]
  have f20 : g2 20 o = nI (60 * w + e) := by rw [k2.2.1 20 (by omega) o (by omega), e20]
  have ho61 : o + 1 ≤ 61 := (s_Q_o Q2).2.2.1
  have tE := s_end_to Q2 t6 (s_endOK_o f39 (by omega) (by rw [f18]; decide) (by rw [f18]; decide) (by rw [f18]; decide))
  unfold m_ended at tE
  rw [(s_o1 f39 (by omega) (by omega)).2, show o + 1 - 1 = o from rfl, f18, if_neg (by decide), if_neg (by decide), if_neg (by decide), if_neg (by decide), if_neg (by decide)] at tE
  exact s_out ho hc t1 k1 (m_to_tr t2 tE) (s_kp_le k2 (show o ≤ o + 1 by omega) (Nat.le_refl sc)) Q2 f20 hw
theorem s_if {n : Nat} {P : c_PT} (hP : s_SP n P) (hI : c_IP n P) (A : s_At h g w z i q c o sc deep) (hc : c < 60) (hco : c_cost n (c_pay h)) (hs : h (8 * w + 15) i = 21) :
    s_End c o sc deep (z_lp (h (8 * w + 15)) i) (60 * w + (h (8 * w + 19) i).toNatClampNeg + 1) g (c_if P (c_pay h) w (nI i) deep) := by
  have ho : m_opens (h (8 * w + 15) i) = true := by rw [hs]; decide
  obtain ⟨e, q1, pR, he, hB, hE, hq1, hP1, hN1, hx, hpR, hto⟩ := s_enter A hc ho
  have A0 := A
  obtain ⟨hw, F, hW, hiq, hqz, R, Q, T, h41, hat⟩ := A
  have hz := s_z F
  have W := s_F_W F hW
  have hi : i < z := by omega
  obtain ⟨e39, h1, h2, -⟩ := s_Q_o Q
  obtain ⟨r1, r2, r3⟩ := F.2.2.1 i hi
  have hva : vp_in (h (8 * w + 16) i) 8 := ((Q.2.1.1 w hw).2 i (by omega)).1.1 (by rw [hs]; decide)
  have hnum : g 5 (h (8 * w + 16) i).toNatClampNeg = h 4 (h (8 * w + 16) i).toNatClampNeg := by
    obtain ⟨u, bx, b1, b2, b3, b4⟩ := Q.2.2.1
    exact (b3.1 _ (vp_lt hva)).symm
  have hcond : (ab_up g 0 16 (g 0 16 + 1)) 5 ((ab_up g 0 16 (g 0 16 + 1)) 2 ((ab_up g 0 16 (g 0 16 + 1)) 0 40).toNatClampNeg).toNatClampNeg = h 4 (h (8 * w + 16) i).toNatClampNeg := by
    show g 5 (g 2 (g 0 40).toNatClampNeg).toNatClampNeg = _
    rw [hat, nI_clamp (by omega), r2, hnum]
  have hlp : z_lp (h (8 * w + 15)) (i + 1) = z_lp (h (8 * w + 15)) i := s_lp_o W.1.1 hi ho (by rw [hs]; decide)
  unfold m_begin at hto
  rw [if_neg (by rw [hs]; decide), if_neg (by rw [hs]; decide), hcond] at hto
  rw [hB, nI_clamp (by omega)]
  unfold c_if
  show s_End _ _ _ _ _ _ _ (if h 4 (h (8 * w + 16) (nI i).toNatClampNeg).toNatClampNeg = 0 then (if h (8 * w + 15) (h (8 * w + 18) (nI i).toNatClampNeg).toNatClampNeg = 22 then P (c_pay h) w (h (8 * w + 18) (nI i).toNatClampNeg) deep else (0, 0, c_pay h)) else P (c_pay h) w (nI i) deep)
  rw [nI_clamp (by omega), hP1, nI_clamp (by omega)]
  by_cases c0 : h 4 (h (8 * w + 16) i).toNatClampNeg = 0
  · rw [if_pos c0]
    rw [if_pos ⟨hs, c0⟩, ab_up_up, s_begin A0, hpR hs] at hto
    by_cases c22 : h (8 * w + 15) q1 = 22
    · rw [if_pos c22]
      rw [if_pos c22, if_pos (nI_pos' (by omega)), nI_1] at hto
      have I := s_in A0 hc e (nI (60 * w + q1 + 1))
      generalize s_pu (ab_up g 0 16 (g 0 16 + 1)) o (h (8 * w + 15) i) (ab_up g 0 16 (g 0 16 + 1) 0 40) (nI (60 * w + e)) (nI (60 * w + q1 + 1)) = g1 at *
      obtain ⟨Q1, k1, e18, e19, e20, e21, ea, e41, F1⟩ := I
      obtain ⟨q2, hq2, hP2, hN2, -⟩ := z_W_p W hq1 (Or.inr (Or.inr (Or.inr c22)))
      obtain ⟨post, g2, c2, t1, t2, t3, t4, t5, t6⟩ := s_inner hP hI hw F1 hW hq1 hq2 hP2 hN2 hco Q1 (by rw [e18, hs]; decide) e41 ea
      have t5' : s_way (z_lp (h (8 * w + 15)) i) (P (c_pay h) w (nI q1) deep).1 (P (c_pay h) w (nI q1) deep).2.1 g2 := by
        rw [← hlp, ← s_lp_hd (z_hd_p W.1.1 hN1 hq1 (Or.inr (Or.inr c22)))]; exact t5
      exact s_if_out h1 (by omega) hto k1 t2 t4 t3 (by rw [e18, hs]) e20 t5' t6
    · rw [if_neg c22]
      rw [if_neg c22, if_neg (by decide)] at hto
      have I := s_in A0 hc e (nI (60 * w + e))
      generalize s_pu (ab_up g 0 16 (g 0 16 + 1)) o (h (8 * w + 15) i) (ab_up g 0 16 (g 0 16 + 1) 0 40) (nI (60 * w + e)) (nI (60 * w + e)) = g1 at *
      obtain ⟨Q1, k1, e18, e19, e20, e21, ea, e41, F1⟩ := I
      refine s_if_out h1 (by omega) hto k1 (m_to_rf g1) (s_kp_rf _ _ _) Q1 (by rw [e18, hs]) e20 (Or.inl ⟨rfl, e41⟩) (fun _ => ⟨?_, by rw [ea]; exact vp_in_nI (by omega) (by omega)⟩)
      exact s_atEnd (f := h (8 * w + 15)) (q := e) (fun j hj => (F1.2.2.1 j hj).1) hw hz (s_Q_o Q1).1 (by omega) (by have := (s_Q_o Q1).2.2.1; omega) (Or.inr ⟨by show ¬ g1 18 o = 0; rw [e18, hs]; decide, he, by rw [hE.2.1]; decide⟩) ea
  · rw [if_neg c0]
    rw [if_neg (fun q => c0 q.2), s_begin A0, s_at1 A0] at hto
    have I := s_in A0 hc e (nI (60 * w + i + 1))
    generalize s_pu (ab_up g 0 16 (g 0 16 + 1)) o (h (8 * w + 15) i) (ab_up g 0 16 (g 0 16 + 1) 0 40) (nI (60 * w + e)) (nI (60 * w + i + 1)) = g1 at *
    obtain ⟨Q1, k1, e18, e19, e20, e21, ea, e41, F1⟩ := I
    obtain ⟨post, g2, c2, t1, t2, t3, t4, t5, t6⟩ := s_inner hP hI hw F1 hW hi hq1 hP1 hN1 hco Q1 (by rw [e18, hs]; decide) e41 ea
    have t5' : s_way (z_lp (h (8 * w + 15)) i) (P (c_pay h) w (nI i) deep).1 (P (c_pay h) w (nI i) deep).2.1 g2 := by rw [← hlp]; exact t5
    exact s_if_out h1 (by omega) hto k1 t2 t4 t3 (by rw [e18, hs]) e20 t5' t6
end SM3
