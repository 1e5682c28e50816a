/-! SCOPE, class beside reference -/
section SM5
variable {K c o sc w z i q : Nat} {deep : Int32} {h g : ab_H}
theorem s_ua_ctl {mk n : Nat} : s_ctl g (m_ua mk n g) := ⟨fun i hi => m_ua_ne mk i (by omega) (by omega) (by omega) (by omega) n g, fun k hk => m_ua_0 mk k (by omega) (by omega) (by omega) (by omega) n g⟩
theorem s_scope {n : Nat} {P : c_PT} (hP : s_SP n P) (hI : c_IP n P) (A : s_At h g w z i q c o sc deep) (hc : c < 60) (hco : c_cost n (c_pay h)) (hs : h (8 * w + 15) i = 14) :
    s_End c o sc deep (z_lp (h (8 * w + 15)) i) (60 * w + (h (8 * w + 19) i).toNatClampNeg + 1) g (c_scope P (c_pay h) w (nI i) deep) := by
  have ho : m_opens (h (8 * w + 15) i) = true := by rw [hs]; decide
  obtain ⟨e, q1, pR, he, hB, hE, hq1, hP1, hN1, -, -, hto⟩ := s_enter A hc ho
  unfold m_begin at hto
  rw [if_neg (by rw [hs]; decide), if_pos hs, s_begin A, s_at1 A] at hto
  have I := s_in A hc e (nI (60 * w + i + 1))
  have x30 : s_pu (ab_up g 0 16 (g 0 16 + 1)) o (h (8 * w + 15) i) (ab_up g 0 16 (g 0 16 + 1) 0 40) (nI (60 * w + e)) (nI (60 * w + i + 1)) 0 30 = ab_up g 0 16 (g 0 16 + 1) 0 30 := rfl
  have x28 : s_pu (ab_up g 0 16 (g 0 16 + 1)) o (h (8 * w + 15) i) (ab_up g 0 16 (g 0 16 + 1) 0 40) (nI (60 * w + e)) (nI (60 * w + i + 1)) 0 28 = ab_up g 0 16 (g 0 16 + 1) 0 28 := rfl
  generalize s_pu (ab_up g 0 16 (g 0 16 + 1)) o (h (8 * w + 15) i) (ab_up g 0 16 (g 0 16 + 1) 0 40) (nI (60 * w + e)) (nI (60 * w + i + 1)) = ga at *
  obtain ⟨Qa, ka, a18, a19, a20, a21, aa, a41, Fa⟩ := I
  obtain ⟨hw, F, hW, hiq, hqz, R, Q, T, h41, hat⟩ := A
  have hz := s_z F
  have W := s_F_W F hW
  have hi : i < z := by omega
  obtain ⟨e39, h1, h2, -⟩ := s_Q_o Q
  obtain ⟨p1, p2, ⟨u, bx, p3, p4, p5, p6⟩, p7, p8, p9, p10⟩ := Qa
  have g28 : ga 0 28 = nI u := p5.2.2.2.2.2.2.1
  have hsc : sc ≤ c := Q.2.2.2.2.2.1.2.2.2
  have y30 : ab_up g 0 16 (g 0 16 + 1) 0 30 = nI sc := x30.symm.trans p7.1
  have y28 : ab_up g 0 16 (g 0 16 + 1) 0 28 = nI u := x28.symm.trans g28
  rw [y30, y28, nI_clamp (by omega), nI_1] at hto
  have inv1 : c_inv (ab_up (c_pay h) 3 6 (c_pay h 3 5)) := c_inv_enter p2
  have k1 : s_kp o sc g (ab_up (ab_up ga 17 sc (nI u)) 0 30 (nI (sc + 1))) := s_kp_tr ka (s_kp_tr (s_kp_up (Or.inr (Or.inr ⟨rfl, Nat.le_refl _⟩))) (s_kp_0 (by decide) (by decide)))
  have Q1 : s_Q (c + 1) (c + 1) (o + 1) (sc + 1) deep (ab_up (c_pay h) 3 6 (c_pay h 3 5)) (ab_up (ab_up ga 17 sc (nI u)) 0 30 (nI (sc + 1))) := by
    obtain ⟨d1, d2, d3, d4, d5, d6, d7, d8, d9, d10⟩ := p5
    refine ⟨s_Fs_mv (fun i hi => ab_up_ne (by omega)) (fun i h1 h2 => (ab_up_ne (by omega)).trans (ab_up_ne (by omega))) p1, inv1, ⟨u, bx, p3, p4, ⟨d1, d2, d3, d4, d5, d6, d7, d8, d9, d10⟩, p6⟩, ⟨rfl, by omega, Or.inr ⟨by omega, u, by omega, p6, pk_us⟩⟩, p8, ⟨p9.1, p9.2.1, p9.2.2.1, by omega⟩, p10⟩
  have e18 : (ab_up (ab_up ga 17 sc (nI u)) 0 30 (nI (sc + 1))) 18 o = 14 := a18.trans hs
  have e20 : (ab_up (ab_up ga 17 sc (nI u)) 0 30 (nI (sc + 1))) 20 o = nI (60 * w + e) := a20
  have e17 : (ab_up (ab_up ga 17 sc (nI u)) 0 30 (nI (sc + 1))) 17 sc = nI u := pk_us
  have F1 : s_F (ab_up (c_pay h) 3 6 (c_pay h 3 5)) (ab_up (ab_up ga 17 sc (nI u)) 0 30 (nI (sc + 1))) w z := s_F_mv (fun i hi => (ab_up_ne (by omega)).trans (ab_up_ne (by omega))) k1.1 F
  have e41 : (ab_up (ab_up ga 17 sc (nI u)) 0 30 (nI (sc + 1))) 0 41 = 0 := a41
  have ea : (ab_up (ab_up ga 17 sc (nI u)) 0 30 (nI (sc + 1))) 0 40 = nI (60 * w + i + 1) := aa
  generalize ab_up (ab_up ga 17 sc (nI u)) 0 30 (nI (sc + 1)) = g1 at *
  have spost := c_scope_post hI (h := c_pay h) (w := w) (x := nI i) (deep := deep) ⟨p2, hw, Or.inr (vp_in_nI (by omega) (by omega)), hco⟩
  have hlp : z_lp (h (8 * w + 15)) (i + 1) = z_lp (h (8 * w + 15)) i := s_lp_o W.1.1 hi ho (by rw [hs]; decide)
  obtain ⟨post, g2, c2, t1, t2, t3, t4, t5, t6⟩ := s_inner hP hI hw F1 hW hi hq1 hP1 hN1 (c_cost_up (by decide) hco) Q1 (by rw [e18]; decide) e41 ea
  have t5' : s_way (z_lp (h (8 * w + 15)) i) (P (ab_up (c_pay h) 3 6 (c_pay h 3 5)) w (nI i) deep).1 (P (ab_up (c_pay h) 3 6 (c_pay h 3 5)) w (nI i) deep).2.1 g2 := by rw [← hlp]; exact t5
  unfold c_scope at spost ⊢
  have x36 : (P (ab_up (c_pay h) 3 6 (c_pay h 3 5)) w (nI i) deep).2.2 3 6 = nI u := post.2.2.2.2.1.trans p6
  generalize P (ab_up (c_pay h) 3 6 (c_pay h 3 5)) w (nI i) deep = x at *
  obtain ⟨f39, -, ho61, -⟩ := s_Q_o t3
  have f18 : g2 18 o = 14 := by rw [t4.2.1 18 (by omega) o (by omega), e18]
  have f20 : g2 20 o = nI (60 * w + e) := by rw [t4.2.1 20 (by omega) o (by omega), e20]
  have f17 : g2 17 sc = nI u := by rw [t4.2.2.1 sc (by omega), e17]
  obtain ⟨v1, v2, ⟨u2, bx2, v3, v4, v5, v6⟩, v7, v8, v9, v10⟩ := t3
  have f30 : g2 0 30 = nI (sc + 1) := v7.1
  have f28 : g2 0 28 = nI u2 := v5.2.2.2.2.2.2.1
  have hu2 : u2 ≤ 60 := by have := v10.2.2.1; omega
  have hule : u ≤ u2 := by
    obtain ⟨u', y1, y2, y3, y4⟩ := v2.2.2.2
    have hu' : u' = u2 := (nI_eq (by omega) (by omega)).mp (y2.symm.trans v6)
    rcases y4 with ⟨y5, -⟩ | ⟨mk', y5, y6⟩
    · rw [x36] at y5
      exact absurd y5 (nI_m u (by omega))
    · have : u = mk' := (nI_eq (by omega) (by omega)).mp (x36.symm.trans y6)
      omega
  obtain ⟨nn, rfl⟩ : ∃ nn, u2 = u + nn := ⟨u2 - u, by omega⟩
  have o1b : (g2 0 39 - 1).toNatClampNeg = o := (s_o1 f39 (by omega) (by omega)).2
  have e30m : g2 0 30 - 1 = nI sc := by rw [f30, nI_pred]
  have okE : m_endOK g2 0 0 u nn := by
    unfold m_endOK
    rw [o1b, f18]
    refine ⟨fun q => absurd q (by decide), fun q => absurd q (by decide), fun _ _ => ⟨f28, by omega, ?_, ?_, (s_uok v5).1, (s_uok v5).2⟩⟩
    · rw [e30m, nI_clamp (by omega)]; exact f17
    · rw [e30m]; exact vp_in_nI (by omega) (by omega)
  have tE := s_end_to (K := c2) (c := c2) (o := o + 1) (sc := sc + 1) (deep := deep) (h := x.2.2) ⟨v1, v2, ⟨u + nn, bx2, v3, v4, v5, v6⟩, v7, v8, v9, v10⟩ t6 okE
  unfold m_ended at tE
  rw [o1b, f18, if_neg (by decide), if_neg (by decide), if_neg (by decide), if_pos rfl] at tE
  rw [hB, nI_clamp (by omega)]
  have hS0 : s_S sc (c_pay h) g := by
    have := Q.2.2.2.1
    exact this
  generalize hr : c_pay h 3 6 = ar at *
  have k2 := s_kp_le t4 (show o ≤ o + 1 by omega) (show sc ≤ sc + 1 by omega)
  have kk : s_kp o sc g g2 := s_kp_tr k1 k2
  have hh14 : ∀ j, 14 ≤ j → (c_leave (if x.1 = 4 then c_undoS x.2.2 else x.2.2) ar) j = (c_pay h) j := spost.2.2.2.1
  have key : ∀ (g3 h3 : ab_H) (u3 : Nat), u3 ≤ c2 → s_RD u3 bx2 h3 g3 → h3 3 5 = nI u3 → h3 0 = x.2.2 0 → h3 3 6 = x.2.2 3 6 → s_ctl (ab_up g2 0 30 (nI sc)) g3 → g3 0 21 = g2 0 21 → g3 0 22 = g2 0 22 → c_inv (c_leave h3 ar) → (∀ j, 14 ≤ j → (c_leave h3 ar) j = (c_pay h) j) → m_to g2 (m_leave (m_sc0 g3)) → s_End c o sc deep (z_lp (h (8 * w + 15)) i) (60 * w + e + 1) g (x.1, x.2.1, c_leave h3 ar) := by
    intro g3 h3 u3 hu3 D3 z3 h30 h36 ctl e21 e22 inv3 h14 tE3
    have kc : s_kp o sc g2 g3 := s_kp_tr (s_kp_0 (k := 30) (v := nI sc) (by decide) (by decide)) (s_kp_ctl ctl)
    have g30 : g3 0 30 = nI sc := (ctl.2 30 (by decide)).trans rfl
    have hFs : s_Fs (c_leave h3 ar) g3 := s_Fs_mv h14 (fun j j1 j2 => (s_kp_tr kk kc).1 j j1 j2) (show s_Fs (c_pay h) g from s_Fs_mv (fun i hi => ab_up_ne (by omega)) (fun _ _ _ => rfl) Q.1)
    have h17 : ∀ j, j < sc → g3 17 j = g 17 j := fun j hj => (s_kp_tr kk kc).2.2.1 j hj
    have w3 : s_way (z_lp (h (8 * w + 15)) i) x.1 x.2.1 g3 := s_way_mv ((ctl.2 41 (by decide)).trans rfl) e21 e22 t5'
    have f3 : g3 20 o = nI (60 * w + e) := by rw [ctl.1 20 (Or.inr (by decide))]; exact f20
    have e39' : g3 0 39 = nI (o + 1) := (ctl.2 39 (by decide)).trans f39
    have e16' : g3 0 16 = nI c2 := (ctl.2 16 (by decide)).trans v10.2.1
    have e23' : s_dp deep g3 := ⟨(ctl.2 23 (by decide)).trans v8.1, v8.2⟩
    have hcost : h3 0 3 = nI c2 := by rw [h30]; exact v10.1
    have hb9 := v9.2.2.1
    obtain ⟨d1, d2, d3, d4, d5, d6, d7, d8, d9, d10⟩ := D3
    rcases hS0.2.2 with ⟨s1, s2⟩ | ⟨s1, mk, s2, s3, s4⟩
    · have har : ar = -1 := by rw [← hr]; exact s2
      subst s1
      have em : m_sc0 g3 = ab_up g3 0 28 0 := by
        unfold m_sc0
        rw [if_pos (by rw [g30]; rfl)]
      rw [em] at tE3
      unfold c_leave at inv3 hFs ⊢
      rw [if_pos har] at inv3 hFs ⊢
      refine s_out h1 (show c ≤ c2 by omega) (m_to_tr hto t2) kk tE3 (s_kp_tr kc (s_kp_0 (k := 28) (by decide) (by decide))) (c2 := c2) (e := e) ⟨s_Fs_mv (fun _ _ => rfl) (fun j j1 j2 => ab_up_ne (by omega)) hFs, inv3, ⟨0, bx2, by omega, v4, ⟨d1, d2, d3, d4, d5, d6, rfl, d8, fun j hj => absurd hj (by omega), fun j hj => d10.1 j (by omega), fun j k hj hk => d10.2 j k (by omega) (by omega)⟩, rfl⟩, ⟨g30, by omega, Or.inl ⟨rfl, har⟩⟩, e23', ⟨e39', by omega, hb9, by omega⟩, hcost, e16', v10.2.2⟩ f3 (s_way_mv rfl rfl rfl w3)
    · have har : ar = nI mk := by rw [← hr]; exact s3
      have hne : ¬ ar = -1 := by rw [har]; exact nI_m mk (by omega)
      have em : m_sc0 g3 = g3 := by
        unfold m_sc0
        rw [if_neg (by rw [g30]; exact nI_ne0 s1 (by omega))]
      rw [em] at tE3
      unfold c_leave at inv3 hFs ⊢
      rw [if_neg hne] at inv3 hFs ⊢
      exact s_out h1 (show c ≤ c2 by omega) (m_to_tr hto t2) kk tE3 kc (c2 := c2) (e := e) ⟨hFs, inv3, ⟨u3, bx2, hu3, v4, ⟨d1, d2, d3, d4, d5, d6, d7, d8, d9, d10⟩, z3⟩, ⟨g30, by omega, Or.inr ⟨s1, mk, s2, har, by rw [h17 _ (by omega)]; exact s4⟩⟩, e23', ⟨e39', by omega, hb9, by have := v9.2.2.2; omega⟩, hcost, e16', v10.2.2⟩ f3 w3
  unfold m_scE at tE
  rw [e30m] at tE
  have hinvR := spost.1
  by_cases c4 : x.1 = 4
  · rw [if_pos c4] at hinvR hh14 ⊢
    rw [if_pos ((s_way_1 t5').mp c4)] at tE
    have eU : c_undoS x.2.2 = ab_up (c_ua u nn x.2.2) 3 5 (nI u) := (c_undoS_eq x36 v6 hu2).symm
    rw [eU] at hinvR hh14 ⊢
    have D3 := s_ua (mk := u) (bx := bx2) nn x.2.2 (ab_up g2 0 30 (nI sc)) hu2 (s_dat_RD (s_dat_0 (by decide)) v5)
    refine key (m_ua u nn (ab_up g2 0 30 (nI sc))) (ab_up (c_ua u nn x.2.2) 3 5 (nI u)) u (by omega) ?_ rfl ?_ ?_ s_ua_ctl (m_ua_0 u 21 (by decide) (by decide) (by decide) (by decide) nn _) (m_ua_0 u 22 (by decide) (by decide) (by decide) (by decide) nn _) hinvR hh14 tE
    · obtain ⟨d1, d2, d3, d4, d5, d6, d7, d8, d9, d10⟩ := D3
      exact ⟨d1, d2, d3, d4, d5, d6, d7, d8, d9, d10⟩
    · show c_ua u nn x.2.2 0 = _
      exact (c_ua_keep nn x.2.2 (by
        obtain ⟨u', y1, y2, y3, y4⟩ := v2.2.2.2
        have hu' : u' = u + nn := (nI_eq (by omega) (by omega)).mp (y2.symm.trans v6)
        rw [← hu']; exact y3) v2.2.2.1).2.1 0 (by decide) (by decide) (by decide) (by decide) (by decide) (by decide)
    · show c_ua u nn x.2.2 3 6 = _
      exact c_ua_3 u 6 (by decide) (by decide) nn x.2.2
  · rw [if_neg c4] at hinvR hh14 ⊢
    rw [if_neg (fun q => c4 ((s_way_1 t5').mpr q))] at tE
    exact key (ab_up g2 0 30 (nI sc)) x.2.2 (u + nn) v3 (s_dat_RD (s_dat_0 (by decide)) v5) v6 rfl rfl (s_ctl_rf _) rfl rfl hinvR hh14 tE
end SM5
