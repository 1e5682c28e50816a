/-! LOOP, class beside reference -/
section SM6
variable {K c o sc w z i q : Nat} {deep : Int32} {h g : ab_H}
theorem s_round_eq {G : ab_H} (e39 : G 0 39 = nI (o + 1)) (ho : o ≤ 60) : m_round G = if G 22 o = 0 then m_leave G else if G 0 16 = 60 then m_leave (ab_up G 0 41 3) else ab_up (ab_up (ab_up G 0 16 (G 0 16 + 1)) 22 o (G 22 o - 1)) 0 40 (G 19 o + 1) := by
  have o1b : (G 0 39 - 1).toNatClampNeg = o := (s_o1 e39 (by omega) (by omega)).2
  unfold m_round
  rw [o1b]
theorem s_loopL {n : Nat} {P : c_PT} (hP : s_SP n P) (hI : c_IP n P) {e q1 B : Nat} {f : Nat → Int32} (hw : w < 8) (ho : 1 ≤ o) (hi : i < z) (ok : z_ok f z) (h13 : f i = 13) (hWf : z_sk f z = []) (hq1 : q1 < z) (hN1 : z_N f i q1) (hB : B ≤ 9) :
    ∀ (m r c : Nat) (h1 G : ab_H), s_Q c c (o + 1) sc deep h1 G → s_F h1 G w z → h1 (8 * w + 15) = f → h1 (8 * w + 17) i = nI B → h1 (8 * w + 18) i = nI q1 → G 18 o = 13 → G 19 o = nI (60 * w + i) → G 20 o = nI (60 * w + e) → G 22 o = nI (B - r) → r ≤ B → B - r < m → c_cost n h1 → G 0 41 = 0 →
      ∃ g' c', c ≤ c' ∧ m_to (m_round G) g' ∧ s_Q c' c' o sc deep (c_loop P w (nI i) deep m (nI r) h1).2.2 g' ∧ s_kp o sc G g' ∧ s_way (z_lp f i) (c_loop P w (nI i) deep m (nI r) h1).1 (c_loop P w (nI i) deep m (nI r) h1).2.1 g' ∧ ((c_loop P w (nI i) deep m (nI r) h1).1 = 0 → g' 0 40 = nI (60 * w + e + 1)) := by
  intro m
  induction m with
  | zero => intro r c h1 G _ _ _ _ _ _ _ _ _ _ hm; omega
  | succ m ih =>
    intro r c h1 G Q F hf hb hp18 e18 e19 e20 e22 hrB hm hco e41
    have hz := s_z F
    obtain ⟨e39, -, ho61, -⟩ := s_Q_o Q
    rw [c_loop, nI_clamp (by omega), hb, s_round_eq e39 (by omega), e22]
    by_cases hr : r = B
    · subst hr
      rw [if_pos (nI_le (Nat.le_refl _) (by omega)), Nat.sub_self, if_pos (show nI 0 = 0 from rfl)]
      obtain ⟨L1, L2, L3⟩ := s_leave Q ho e20
      exact ⟨_, c, Nat.le_refl _, m_to_rf _, L1, L2, Or.inl ⟨rfl, e41⟩, fun _ => L3⟩
    · rw [if_neg (nI_ge (by omega) (by omega)), if_neg (nI_ne0 (by omega) (by omega))]
      rcases s_c60 Q with ⟨b1, b2, b3⟩ | ⟨b1, b2, b3⟩
      · rw [if_pos b1, if_neg b2, e19]
        have eB : nI (B - r) - 1 = nI (B - (r + 1)) := by
          rw [show B - r = (B - (r + 1)) + 1 by omega, nI_pred]
        rw [eB, nI_1]
        have k1 : s_kp o sc G (ab_up (ab_up (ab_up G 0 16 (G 0 16 + 1)) 22 o (nI (B - (r + 1)))) 0 40 (nI (60 * w + i + 1))) := s_kp_tr (s_kp_tr (s_kp_0 (by decide) (by decide)) (s_kp_up (Or.inr (Or.inl ⟨by decide, Nat.le_refl _⟩)))) (s_kp_0 (by decide) (by decide))
        have Q1 : s_Q (c + 1) (c + 1) (o + 1) sc deep (c_pay h1) (ab_up (ab_up (ab_up G 0 16 (G 0 16 + 1)) 22 o (nI (B - (r + 1)))) 0 40 (nI (60 * w + i + 1))) :=
          s_Q_g (s_Q_K (s_Q_pay Q b3) (K' := c + 1) (by omega) (Nat.le_refl _)) (s_dat_tr (s_dat_up (by decide)) (s_dat_0 (by decide))) (s_kp_tr (s_kp_up (Or.inr (Or.inl ⟨by decide, Nat.zero_le _⟩))) (s_kp_0 (by decide) (by decide))) rfl rfl rfl e39 (by omega) (by have := Q.2.2.2.2.2.1.2.2.1; omega)
        have x18 : (ab_up (ab_up (ab_up G 0 16 (G 0 16 + 1)) 22 o (nI (B - (r + 1)))) 0 40 (nI (60 * w + i + 1))) 18 o = 13 := e18
        have x19 : (ab_up (ab_up (ab_up G 0 16 (G 0 16 + 1)) 22 o (nI (B - (r + 1)))) 0 40 (nI (60 * w + i + 1))) 19 o = nI (60 * w + i) := e19
        have x20 : (ab_up (ab_up (ab_up G 0 16 (G 0 16 + 1)) 22 o (nI (B - (r + 1)))) 0 40 (nI (60 * w + i + 1))) 20 o = nI (60 * w + e) := e20
        have x22 : (ab_up (ab_up (ab_up G 0 16 (G 0 16 + 1)) 22 o (nI (B - (r + 1)))) 0 40 (nI (60 * w + i + 1))) 22 o = nI (B - (r + 1)) := pk_us
        have x41 : (ab_up (ab_up (ab_up G 0 16 (G 0 16 + 1)) 22 o (nI (B - (r + 1)))) 0 40 (nI (60 * w + i + 1))) 0 41 = 0 := e41
        have xa : (ab_up (ab_up (ab_up G 0 16 (G 0 16 + 1)) 22 o (nI (B - (r + 1)))) 0 40 (nI (60 * w + i + 1))) 0 40 = nI (60 * w + i + 1) := rfl
        generalize ab_up (ab_up (ab_up G 0 16 (G 0 16 + 1)) 22 o (nI (B - (r + 1)))) 0 40 (nI (60 * w + i + 1)) = g1 at *
        have F1 : s_F (c_pay h1) g1 w z := s_F_mv (fun i hi => ab_up_ne (by omega)) k1.1 F
        have p15 : c_pay h1 (8 * w + 15) = f := (ab_up_ne (by omega)).trans hf
        have hco1 : c_cost n (c_pay h1) := (c_pre_mono ⟨Q.2.1, hw, Or.inl rfl, hco⟩ b1).2.2.2
        obtain ⟨post, g2, c2, t1, t2, t3, t4, t5, t6⟩ := s_inner hP hI (p := i) (q := q1) hw F1 (by rw [p15]; exact hWf) hi hq1 (by rw [show c_pay h1 (8 * w + 18) = h1 (8 * w + 18) from ab_up_ne (by omega)]; exact hp18) (by rw [p15]; exact hN1) hco1 Q1 (by rw [x18]; decide) x41 xa
        rw [p15, s_lp_13 ok hi h13] at t5
        have q15 : (P (c_pay h1) w (nI i) deep).2.2 (8 * w + 15) = f := (post.2.2.2.1 _ (by omega)).trans p15
        have q17 : (P (c_pay h1) w (nI i) deep).2.2 (8 * w + 17) i = nI B := by rw [post.2.2.2.1 _ (by omega), show c_pay h1 (8 * w + 17) = h1 (8 * w + 17) from ab_up_ne (by omega)]; exact hb
        have q18 : (P (c_pay h1) w (nI i) deep).2.2 (8 * w + 18) i = nI q1 := by rw [post.2.2.2.1 _ (by omega), show c_pay h1 (8 * w + 18) = h1 (8 * w + 18) from ab_up_ne (by omega)]; exact hp18
        have F2 : s_F (P (c_pay h1) w (nI i) deep).2.2 g2 w z := s_F_mv post.2.2.2.1 t4.1 F1
        have pco : c_cost n (P (c_pay h1) w (nI i) deep).2.2 := post.2.2.2.2.2
        generalize P (c_pay h1) w (nI i) deep = x at *
        obtain ⟨f39, -, -, -⟩ := s_Q_o t3
        have o1b : (g2 0 39 - 1).toNatClampNeg = o := (s_o1 f39 (by omega) (by omega)).2
        have f18 : g2 18 o = 13 := by rw [t4.2.1 18 (by omega) o (by omega), x18]
        have f19 : g2 19 o = nI (60 * w + i) := by rw [t4.2.1 19 (by omega) o (by omega), x19]
        have f20 : g2 20 o = nI (60 * w + e) := by rw [t4.2.1 20 (by omega) o (by omega), x20]
        have f22 : g2 22 o = nI (B - (r + 1)) := by rw [t4.2.1 22 (by omega) o (by omega), x22]
        have tE := s_end_to t3 t6 (s_endOK_o f39 (by omega) (by rw [f18]; decide) (by rw [f18]; decide) (by rw [f18]; decide))
        unfold m_ended at tE
        rw [o1b, f18, if_neg (by decide), if_neg (by decide), if_pos rfl] at tE
        unfold m_looped at tE
        have k2 := s_kp_le t4 (show o ≤ o + 1 by omega) (Nat.le_refl sc)
        obtain ⟨M1, M2⟩ := s_Q_41 t3 0
        have k3 := s_kp_le M2 (show o ≤ o + 1 by omega) (Nat.le_refl sc)
        have again : m_to g2 (m_round (ab_up g2 0 41 0)) → ∃ g' c', c ≤ c' ∧ m_to g1 g' ∧ s_Q c' c' o sc deep (c_loop P w (nI i) deep m (nI r + 1) x.2.2).2.2 g' ∧ s_kp o sc G g' ∧ s_way (z_lp f i) (c_loop P w (nI i) deep m (nI r + 1) x.2.2).1 (c_loop P w (nI i) deep m (nI r + 1) x.2.2).2.1 g' ∧ ((c_loop P w (nI i) deep m (nI r + 1) x.2.2).1 = 0 → g' 0 40 = nI (60 * w + e + 1)) := fun tt => by
          rw [nI_1]
          obtain ⟨g', c', y1, y2, y3, y4, y5, y6⟩ := ih (r + 1) c2 x.2.2 (ab_up g2 0 41 0) M1 (s_F_mv (fun _ _ => rfl) (fun j j1 j2 => ab_up_ne (by omega)) F2) q15 q17 q18 f18 f19 f20 f22 (by omega) (by omega) pco rfl
          exact ⟨g', c', by omega, m_to_tr t2 (m_to_tr tt y2), y3, s_kp_tr k1 (s_kp_tr k2 (s_kp_tr k3 y4)), y5, y6⟩
        have out : ∀ (G2 : ab_H) (k v : Int32), m_to g2 (m_leave G2) → s_Q c2 c2 (o + 1) sc deep x.2.2 G2 → s_kp (o + 1) sc g2 G2 → s_way (z_lp f i) k v G2 → ∃ g' c', c ≤ c' ∧ m_to g1 g' ∧ s_Q c' c' o sc deep x.2.2 g' ∧ s_kp o sc G g' ∧ s_way (z_lp f i) k v g' ∧ (k = 0 → g' 0 40 = nI (60 * w + e + 1)) := fun G2 k v tt QQ kq ww => by
          obtain ⟨L1, L2, L3⟩ := s_leave QQ ho (show G2 20 o = nI (60 * w + e) by rw [kq.2.1 20 (by omega) o (by omega)]; exact f20)
          exact ⟨_, c2, by omega, m_to_tr t2 tt, L1, s_kp_tr k1 (s_kp_tr k2 (s_kp_tr (s_kp_le kq (show o ≤ o + 1 by omega) (Nat.le_refl sc)) L2)), s_way_mv rfl rfl rfl ww, fun _ => L3⟩
        rcases t5 with ⟨a, b⟩ | ⟨a, mm, v1, v2, v3, v4⟩ | ⟨a, mm, v1, v2, v3, v4⟩ | ⟨a, b, d⟩ | ⟨a, b, d⟩ | ⟨a, b⟩
        · rw [if_neg (by rw [a]; decide), if_pos a]
          rw [b, if_pos (Or.inl rfl)] at tE
          exact again tE
        · rw [if_pos (Or.inl a), v3]
          rw [v4] at tE
          cases mm with
          | zero =>
            rw [if_pos (by decide), if_pos a]
            rw [if_neg (by decide), if_pos (by decide)] at tE
            exact out _ 0 0 tE M1 M2 (Or.inl ⟨rfl, rfl⟩)
          | succ mm =>
            rw [if_neg (nI_nle (by omega) (by omega)), a, nI_pred]
            rw [if_neg (fun q => q.elim (fun q => absurd q (nI_ne0 (by omega) (by omega))) (fun q => absurd (nI_41 (n := 200) (by omega) q (by omega)) (by omega))), if_neg (show ¬ nI (100 + (mm + 1)) = 100 from fun q => absurd (nI_41 (n := 100) (by omega) q (by omega)) (by omega)), if_neg (show ¬ nI (100 + (mm + 1)) ≤ 100 from nI_ge (a := 100) (by omega) (by omega)), show 100 + (mm + 1) = (100 + mm) + 1 by omega, nI_pred] at tE
            obtain ⟨N1, N2⟩ := s_Q_41 t3 (nI (100 + mm))
            exact out _ 1 (nI mm) tE N1 N2 (Or.inr (Or.inl ⟨rfl, mm, by omega, by omega, rfl, rfl⟩))
        · rw [if_pos (Or.inr a), v3]
          rw [v4] at tE
          cases mm with
          | zero =>
            rw [if_pos (by decide), if_neg (by rw [a]; decide)]
            rw [if_pos (Or.inr (show nI (200 + 0) = 200 from rfl))] at tE
            exact again tE
          | succ mm =>
            rw [if_neg (nI_nle (by omega) (by omega)), a, nI_pred]
            rw [if_neg (fun q => q.elim (fun q => absurd q (nI_ne0 (by omega) (by omega))) (fun q => absurd (nI_41 (n := 200) (by omega) q (by omega)) (by omega))), if_neg (show ¬ nI (200 + (mm + 1)) = 100 from fun q => absurd (nI_41 (n := 100) (by omega) q (by omega)) (by omega)), if_neg (show ¬ nI (200 + (mm + 1)) ≤ 100 from nI_ge (a := 100) (by omega) (by omega)), show 200 + (mm + 1) = (200 + mm) + 1 by omega, nI_pred] at tE
            obtain ⟨N1, N2⟩ := s_Q_41 t3 (nI (200 + mm))
            exact out _ 2 (nI mm) tE N1 N2 (Or.inr (Or.inr (Or.inl ⟨rfl, mm, by omega, by omega, rfl, rfl⟩)))
        · rw [if_neg (by rw [a]; decide), if_neg (by rw [a]; decide)]
          rw [b, if_neg (by decide), if_neg (by decide), if_pos (by decide)] at tE
          exact out g2 x.1 x.2.1 tE t3 (s_kp_rf _ _ _) (Or.inr (Or.inr (Or.inr (Or.inl ⟨a, b, d⟩))))
        · rw [if_neg (by rw [a]; decide), if_neg (by rw [a]; decide)]
          rw [b, if_neg (by decide), if_neg (by decide), if_pos (by decide)] at tE
          exact out g2 x.1 x.2.1 tE t3 (s_kp_rf _ _ _) (Or.inr (Or.inr (Or.inr (Or.inr (Or.inl ⟨a, b, d⟩)))))
        · rw [if_neg (by rw [a]; decide), if_neg (by rw [a]; decide)]
          rw [b, if_neg (by decide), if_neg (by decide), if_pos (by decide)] at tE
          exact out g2 x.1 x.2.1 tE t3 (s_kp_rf _ _ _) (Or.inr (Or.inr (Or.inr (Or.inr (Or.inr ⟨a, b⟩)))))
      · rw [if_neg b1, if_pos b2]
        obtain ⟨M1, M2⟩ := s_Q_41 Q 3
        obtain ⟨L1, L2, L3⟩ := s_leave M1 ho e20
        exact ⟨_, c, Nat.le_refl _, m_to_rf _, L1, s_kp_tr (s_kp_le M2 (show o ≤ o + 1 by omega) (Nat.le_refl sc)) L2, Or.inr (Or.inr (Or.inr (Or.inr (Or.inr ⟨rfl, rfl⟩)))), fun _ => L3⟩
theorem s_loop {n : Nat} {P : c_PT} (hP : s_SP n P) (hI : c_IP n P) (A : s_At h g w z i q c o sc deep) (hc : c < 60) (hco : c_cost n (c_pay h)) (hs : h (8 * w + 15) i = 13) :
    s_End c o sc deep (z_lp (h (8 * w + 15)) i) (60 * w + (h (8 * w + 19) i).toNatClampNeg + 1) g (c_loop P w (nI i) deep 11 0 (c_pay h)) := by
  have ho : m_opens (h (8 * w + 15) i) = true := by rw [hs]; decide
  obtain ⟨e, q1, pR, he, hB, hE, hq1, hP1, hN1, -, -, hto⟩ := s_enter A hc ho
  unfold m_begin at hto
  rw [if_pos hs, s_begin A, s_at1 A] at hto
  have I := s_in A hc e (nI (60 * w + i + 1))
  generalize s_pu (ab_up g 0 16 (g 0 16 + 1)) o (h (8 * w + 15) i) (ab_up g 0 16 (g 0 16 + 1) 0 40) (nI (60 * w + e)) (nI (60 * w + i + 1)) = ga at *
  obtain ⟨Qa, ka, a18, a19, a20, a21, aa, a41, Fa⟩ := I
  obtain ⟨hw, F, hW, hiq, hqz, R, Q, T, h41, hat⟩ := A
  have hz := s_z F
  have W := s_F_W F hW
  have hi : i < z := by omega
  obtain ⟨e39, h1, h2, -⟩ := s_Q_o Q
  obtain ⟨r1, r2, r3⟩ := F.2.2.1 i hi
  have nok := ((Q.2.1.1 w hw).2 i (by omega)).1.2.2.2.1 hs
  obtain ⟨B, hB9, eB⟩ := nI_of2 (M := 9) (n := 9) (by decide) nok.1 (by
    have := nok.2
    rw [Int32.lt_iff_toInt_lt] at this
    rw [Int32.le_iff_toInt_le]
    omega)
  have x39 : (ab_up g 0 16 (g 0 16 + 1) 0 39).toNatClampNeg = o := by
    show (g 0 39).toNatClampNeg = o
    rw [e39, nI_clamp (by omega)]
  have x3 : ab_up g 0 16 (g 0 16 + 1) 3 (ab_up g 0 16 (g 0 16 + 1) 0 40).toNatClampNeg = nI B := by
    show g 3 (g 0 40).toNatClampNeg = _
    rw [hat, nI_clamp (by omega), r3, eB]
  rw [x39, x3] at hto
  have Q1 : s_Q (c + 1) (c + 1) (o + 1) sc deep (c_pay h) (ab_up ga 22 o (nI B)) := s_Q_g Qa (s_dat_up (by decide)) (s_kp_up (Or.inr (Or.inl ⟨by decide, Nat.zero_le _⟩))) rfl rfl rfl (s_Q_o Qa).1 (by omega) Qa.2.2.2.2.2.1.2.2.1
  rw [hB, nI_clamp (by omega)]
  obtain ⟨g', c', y1, y2, y3, y4, y5, y6⟩ := s_loopL hP hI (e := e) (q1 := q1) (B := B) (f := h (8 * w + 15)) (sc := sc) (deep := deep) hw h1 hi W.1.1 hs hW hq1 hN1 hB9 11 0 (c + 1) (c_pay h) (ab_up ga 22 o (nI B)) Q1 (s_F_mv (fun _ _ => rfl) (fun j j1 j2 => ab_up_ne (by omega)) Fa) (ab_up_ne (by omega)) (by rw [show c_pay h (8 * w + 17) = h (8 * w + 17) from ab_up_ne (by omega)]; exact eB) (by rw [show c_pay h (8 * w + 18) = h (8 * w + 18) from ab_up_ne (by omega)]; exact hP1) (a18.trans hs) a19 a20 pk_us (Nat.zero_le _) (by omega) hco a41
  exact ⟨g', c', by omega, m_to_tr hto y2, y3, s_kp_tr (s_kp_tr ka (s_kp_up (Or.inr (Or.inl ⟨by decide, Nat.le_refl _⟩)))) y4, y5, y6⟩
end SM6
