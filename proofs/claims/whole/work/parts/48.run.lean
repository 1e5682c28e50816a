/-! a whole run, class beside reference -/
/-- what is alike between two calls, but for the blocks that are open -/
def s_T (h g : ab_H) : Prop := s_Fs h g ∧ c_inv h ∧ (∃ bx, bx ≤ 65 ∧ s_RD 0 bx h g) ∧ h 3 5 = nI 0 ∧ h 3 6 = -1 ∧ h 0 4 = g 0 20 ∧ ∃ c, c ≤ 60 ∧ h 0 3 = nI c ∧ g 0 16 = nI c
theorem m_st1_kp {o sc : Nat} {g : ab_H} {k : Nat} : s_kp o sc g (m_st1 g k) := s_kp_tr (s_kp_up (Or.inl (by decide))) (s_kp_up (Or.inl (by decide)))
theorem m_st2_kp {o sc : Nat} {g : ab_H} {k : Nat} : s_kp o sc g (m_st2 g k) := s_kp_tr (s_kp_tr (s_kp_up (Or.inl (by decide))) (s_kp_up (Or.inl (by decide)))) (s_kp_up (Or.inl (by decide)))
theorem m_settle_kp {o sc : Nat} {g : ab_H} : s_kp o sc g (m_settle g) :=
  s_kp_tr (s_kp_tr (s_kp_tr (s_kp_tr (s_kp_tr (s_kp_tr (s_kp_tr (s_kp_tr m_st1_kp m_st1_kp) m_st1_kp) m_st1_kp) m_st2_kp) m_st2_kp) m_st2_kp) m_st2_kp) (s_kp_0 (by decide) (by decide))
theorem m_settle_7 (g : ab_H) : ∀ k, k < 4 → m_settle g 7 k = if g 7 k = 0 then 0 else nI (k + 1)
  | 0, _ => rfl
  | 1, _ => rfl
  | 2, _ => rfl
  | 3, _ => rfl
  | k + 4, h => absurd h (by omega)
theorem m_settle_8 (g : ab_H) : ∀ k, k < 4 → m_settle g 8 (k + 1) = g 8 (g 7 k).toNatClampNeg
  | 0, _ => rfl
  | 1, _ => rfl
  | 2, _ => rfl
  | 3, _ => rfl
  | k + 4, h => absurd h (by omega)
theorem m_settle_9 (g : ab_H) : ∀ k, k < 4 → m_settle g 9 (k + 1) = g 9 (g 7 k).toNatClampNeg
  | 0, _ => rfl
  | 1, _ => rfl
  | 2, _ => rfl
  | 3, _ => rfl
  | k + 4, h => absurd h (by omega)
theorem s_settle {bx : Nat} {h g : ab_H} (D : s_RD 0 bx h g) : s_RD 0 5 h (m_settle g) := by
  obtain ⟨d1, d2, d3, d4, d5, d6, d7, d8, d9, d10⟩ := D
  refine ⟨d1, d2, d3, d4, d5, fun k hk => ?_, d7, ⟨rfl, by omega⟩, fun j hj => absurd hj (by omega), fun i hi => ?_, fun i j hi hj hij hq => ?_⟩
  · rw [m_settle_7 g k hk]
    have B := d6 k hk
    by_cases c : g 7 k = 0
    · rw [if_pos c]
      exact ⟨fun _ => B.1 c, fun q => absurd rfl q⟩
    · rw [if_neg c]
      refine ⟨fun q => absurd q (nI_ne0 (by omega) (by omega)), fun _ => ?_⟩
      rw [nI_clamp (by omega), m_settle_8 g k hk, m_settle_9 g k hk]
      exact B.2 c
  · rw [s_rf_lt (by omega), m_settle_7 g i (by omega)]
    split
    · exact ⟨0, by omega, rfl⟩
    · exact ⟨i + 1, by omega, rfl⟩
  · rw [s_rf_lt (by omega), m_settle_7 g i (by omega)] at hq ⊢
    rw [s_rf_lt (by omega), m_settle_7 g j (by omega)] at hq
    split
    · rfl
    · next c =>
      rw [if_neg c] at hq
      split at hq
      · exact hq
      · have := (nI_eq (by omega) (by omega)).mp hq
        omega
/-- what the class does before it goes through the workflow -/
def c_run0 (h : ab_H) : ab_H := ab_up (ab_up (ab_up h 0 5 (h 0 5 + 1)) 0 3 0) 2 6 0
theorem c_inv_run0 {h : ab_H} (H : c_inv h) : c_inv (c_run0 h) := by
  obtain ⟨h1, h2, h3, u, h4⟩ := c_inv_0 (k := 3) (v := 0) (c_inv_0 (k := 5) (v := h 0 5 + 1) H)
  exact ⟨fun w hw => by
    have e : ∀ j, 14 ≤ j → c_run0 h j = ab_up (ab_up h 0 5 (h 0 5 + 1)) 0 3 0 j := fun j hj => ab_up_ne (by omega)
    rw [e (8 * w + 14) (by omega), e (8 * w + 15) (by omega), e (8 * w + 16) (by omega), e (8 * w + 17) (by omega), e (8 * w + 18) (by omega), e (8 * w + 19) (by omega)]
    exact h1 w hw, ⟨0, by omega, rfl⟩, h3, u, h4⟩
def m_g0 (h : ab_H) : ab_H := ab_up (ab_up (ab_up (ab_up (ab_up (ab_up (ab_up (ab_up (ab_up (ab_up h 0 0 0) 0 15 0) 0 16 0) 0 30 0) 0 28 0) 0 23 1) 0 22 0) 0 39 0) 0 41 0) 0 19 (h 0 19 + 1)
theorem m_init_eq {h : ab_H} {W z : Nat} (hW : W < 8) (hz : h 4 W = nI z) : m_init h (nI W) = s_pu (m_settle (m_g0 h)) 0 0 0 (nI (60 * W + z)) (nI (60 * W)) := by
  have e60 : (60 : Int32) * nI W = nI (60 * W) := (Int32.ofNat_mul 60 W).symm
  unfold m_init
  show ab_up (m_push (m_settle (m_g0 h)) 0 0 (60 * nI W + m_settle (m_g0 h) 4 (nI W).toNatClampNeg)) 0 40 (60 * nI W) = _
  rw [nI_clamp (by omega), show m_settle (m_g0 h) 4 W = nI z from hz, e60, nI_add]
  exact s_pu_eq (o := 0) rfl (by omega)
theorem s_run {h g : ab_H} {W z : Nat} (H : s_T h g) (hW : W < 8) (F : s_F h g W z) (hw : z_sk (h (8 * W + 15)) z = []) :
    ∃ G n, m_runs n (m_init g (nI W)) G ∧ m_ans G = c_ans (cP 60 (c_run0 h) W (-1) 1).1 (cP 60 (c_run0 h) W (-1) 1).2.1 ∧ m_fin G 0 0 = 0 ∧ c_post 60 (c_run0 h) (cP 60 (c_run0 h) W (-1) 1) ∧
      s_T (ab_up (cP 60 (c_run0 h) W (-1) 1).2.2 0 4 (if (cP 60 (c_run0 h) W (-1) 1).1 = 3 then (cP 60 (c_run0 h) W (-1) 1).2.1 else 0)) (m_fin G) ∧ (∀ i, 1 ≤ i → i ≤ 4 → m_fin G i = g i) := by
  obtain ⟨H1, H2, ⟨bx, H3, H4⟩, H5, H6, H7, c0, H8, H9, H10⟩ := H
  have hz := s_z F
  have hinv := c_inv_run0 H2
  have hco : c_cost 60 (c_run0 h) := ⟨0, by omega, rfl, by omega⟩
  have post := cP_post 60 (c_run0 h) W (-1) 1 ⟨hinv, hW, Or.inl rfl, hco⟩
  rw [m_init_eq hW F.2.1]
  have k1 : s_kp 0 0 g (s_pu (m_settle (m_g0 g)) 0 0 0 (nI (60 * W + z)) (nI (60 * W))) ∨ True := Or.inr trivial
  have e14 : ∀ j, 14 ≤ j → c_run0 h j = h j := fun j hj => (ab_up_ne (by omega)).trans ((ab_up_ne (by omega)).trans (ab_up_ne (by omega)))
  have eg : ∀ i, 1 ≤ i → i ≤ 4 → s_pu (m_settle (m_g0 g)) 0 0 0 (nI (60 * W + z)) (nI (60 * W)) i = g i := fun i h1 h2 => by
    rw [(s_pu_kp (o := 0) (sc := 0)).1 i h1 h2, (m_settle_kp (o := 0) (sc := 0)).1 i h1 h2]
    show m_g0 g i = g i
    unfold m_g0
    rw [ab_up_ne (by omega), ab_up_ne (by omega), ab_up_ne (by omega), ab_up_ne (by omega), ab_up_ne (by omega), ab_up_ne (by omega), ab_up_ne (by omega), ab_up_ne (by omega), ab_up_ne (by omega), ab_up_ne (by omega)]
  have D0 : s_RD 0 bx (c_run0 h) (m_g0 g) := by
    obtain ⟨d1, d2, d3, d4, d5, d6, d7, d8, d9, d10⟩ := H4
    exact ⟨d1, d2, d3, ⟨0, by omega, rfl, rfl, fun k hk => absurd hk (by omega)⟩, ⟨d5.1, d5.2.1, by show h 0 5 + 1 = g 0 19 + 1; rw [d5.2.2]⟩, d6, rfl, d8, d9, d10⟩
  have D1 : s_RD 0 5 (c_run0 h) (s_pu (m_settle (m_g0 g)) 0 0 0 (nI (60 * W + z)) (nI (60 * W))) := s_dat_RD s_pu_dat (s_settle D0)
  have F1 : s_F (c_run0 h) (s_pu (m_settle (m_g0 g)) 0 0 0 (nI (60 * W + z)) (nI (60 * W))) W z := s_F_mv e14 eg F
  have Q : s_Q 0 0 1 0 1 (c_run0 h) (s_pu (m_settle (m_g0 g)) 0 0 0 (nI (60 * W + z)) (nI (60 * W))) :=
    ⟨s_Fs_mv e14 eg H1, hinv, ⟨0, 5, by omega, by omega, D1, H5⟩, ⟨rfl, by omega, Or.inl ⟨rfl, H6⟩⟩, ⟨rfl, 1, by omega, rfl⟩, ⟨rfl, by omega, by omega, by omega⟩, rfl, rfl, by omega, by omega⟩
  have e18 : s_pu (m_settle (m_g0 g)) 0 0 0 (nI (60 * W + z)) (nI (60 * W)) 18 0 = 0 := s_pu_18
  have e20 : s_pu (m_settle (m_g0 g)) 0 0 0 (nI (60 * W + z)) (nI (60 * W)) 20 0 = nI (60 * W + z) := s_pu_20
  have e41 : s_pu (m_settle (m_g0 g)) 0 0 0 (nI (60 * W + z)) (nI (60 * W)) 0 41 = 0 := rfl
  have ea : s_pu (m_settle (m_g0 g)) 0 0 0 (nI (60 * W + z)) (nI (60 * W)) 0 40 = nI (60 * W + 0) := rfl
  have e00 : s_pu (m_settle (m_g0 g)) 0 0 0 (nI (60 * W + z)) (nI (60 * W)) 0 0 = 0 := rfl
  generalize s_pu (m_settle (m_g0 g)) 0 0 0 (nI (60 * W + z)) (nI (60 * W)) = g1 at *
  have hw1 : z_sk (c_run0 h (8 * W + 15)) z = [] := by rw [e14 _ (by omega)]; exact hw
  have E := s_sim 60 (c_run0 h) g1 W z 0 z 0 1 0 (-1) 1 hW F1 hw1 (by decide) (Or.inl rfl) (by rw [if_pos rfl]; exact F1.1) (z_R_W (s_F_W F1 hw1)) (Nat.le_refl _) hco Q (Or.inl ⟨e18, e20⟩) e41 ea
  generalize cP 60 (c_run0 h) W (-1) 1 = x at *
  obtain ⟨g2, c2, t1, t2, t3, t4, t5, t6⟩ := E
  obtain ⟨f39, -, -, -⟩ := s_Q_o t3
  have f18 : g2 18 0 = 0 := by rw [t4.2.1 18 (by omega) 0 (by omega), e18]
  have f20 : g2 20 0 = nI (60 * W + z) := by rw [t4.2.1 20 (by omega) 0 (by omega), e20]
  have o1 := s_o1 f39 (by omega) (by omega)
  have o1a : g2 0 39 - 1 = nI 0 := o1.1
  have o1b : (g2 0 39 - 1).toNatClampNeg = 0 := o1.2
  have hend : g2 0 41 = 0 → m_atEnd g2 = true := fun e => by
    have hat2 := t6 ((s_way_0 t5).mpr e)
    unfold m_atEnd
    rw [o1b, f18, if_pos rfl, f20, hat2, decide_eq_true rfl]
  have okE : m_endOK g2 0 0 0 0 := by
    unfold m_endOK
    rw [o1b, f18, o1a]
    exact ⟨fun _ q => absurd rfl q, fun q => absurd q (by decide), fun q => absurd q (by decide)⟩
  have tE := s_end_to0 (o := 0) t3 f18 hend okE
  unfold m_ended at tE
  rw [o1b, f18, if_pos rfl] at tE
  unfold m_back at tE
  rw [if_pos (by rw [o1a]; rfl), o1a] at tE
  have k3 : s_kp 1 0 g2 (ab_up (ab_up g2 0 39 (nI 0)) 0 23 (g2 0 23 - 1)) := s_kp_tr (s_kp_0 (by decide) (by decide)) (s_kp_0 (by decide) (by decide))
  have runs : ∃ n, m_runs n g1 (ab_up (ab_up g2 0 39 (nI 0)) 0 23 (g2 0 23 - 1)) := by
    obtain ⟨n1, r1⟩ := m_to_tr t2 tE
    exact ⟨_, m_st_runs n1 (k := 0) r1 ⟨(show nI 0 ≤ (0 : Int32) by decide), rfl⟩⟩
  obtain ⟨n, hn⟩ := runs
  have hlp : z_lp (c_run0 h (8 * W + 15)) 0 = 0 := rfl
  obtain ⟨v1, v2, ⟨u2, bx2, v3, v4, v5, v6⟩, v7, v8, v9, v10⟩ := t3
  have p36 : x.2.2 3 6 = -1 := post.2.2.2.2.1.trans H6
  have hu0 : u2 = 0 := by
    have h60 := v10.2.2.1
    obtain ⟨u', y1, y2, y3, y4⟩ := v2.2.2.2
    have hu' : u' = u2 := (nI_eq (by omega) (by omega)).mp (y2.symm.trans v6)
    rcases y4 with ⟨-, y5⟩ | ⟨mk', y5, y6⟩
    · omega
    · rw [p36] at y6
      exact absurd y6.symm (nI_m mk' (by omega))
  subst hu0
  refine ⟨_, n, hn, ?_, ?_, post, ?_, ?_⟩
  · unfold m_ans c_ans
    show (if g2 0 41 = 0 then 0 else if g2 0 41 = 2 then 1 else if g2 0 41 = 1 then 2 + g2 0 21 else -1) = _
    rcases t5 with ⟨a, b⟩ | ⟨a, mm, -, q2, -⟩ | ⟨a, mm, -, q2, -⟩ | ⟨a, b, d⟩ | ⟨a, b, d⟩ | ⟨a, b⟩
    · rw [a, b]; rfl
    · rw [hlp] at q2; omega
    · rw [hlp] at q2; omega
    · rw [a, b]; rfl
    · rw [a, b, d, if_neg (by decide), if_neg (by decide), if_pos rfl, if_neg (by decide), if_pos rfl]
    · rw [a, b]; rfl
  · show g2 0 0 = 0
    rw [t4.2.2.2.2, e00]
  · have hval : (if x.1 = 3 then x.2.1 else 0) = (if g2 0 41 = 2 then g2 0 22 else 0) := by
      by_cases c3 : x.1 = 3
      · rw [if_pos c3, if_pos ((s_way_2 t5).mp c3)]
        rcases t5 with ⟨a, b⟩ | ⟨a, m, -⟩ | ⟨a, m, -⟩ | ⟨a, b, d⟩ | ⟨a, b1, b2⟩ | ⟨a, b⟩
        · exact absurd (a.symm.trans c3) (by decide)
        · exact absurd (a.symm.trans c3) (by decide)
        · exact absurd (a.symm.trans c3) (by decide)
        · exact d.symm
        · exact absurd (a.symm.trans c3) (by decide)
        · exact absurd (a.symm.trans c3) (by decide)
      · rw [if_neg c3, if_neg (fun q => c3 ((s_way_2 t5).mpr q))]
    obtain ⟨d1, d2, d3, d4, d5, d6, d7, d8, d9, d10⟩ := v5
    have h60 := v10.2.2.1
    refine ⟨s_Fs_mv (fun j hj => ab_up_ne (by omega)) (fun j j1 j2 => ?_) v1, c_inv_0 v2, ⟨bx2, by omega, ⟨d1, d2, d3, d4, d5, d6, d7, d8, d9, d10⟩⟩, v6, p36, hval, c2, v10.2.2.1, v10.1, v10.2.1⟩
    unfold m_fin
    rw [ab_up_ne (by omega), ab_up_ne (by omega), ab_up_ne (by omega)]
  · intro j j1 j2
    unfold m_fin
    rw [ab_up_ne (by omega), ab_up_ne (by omega), ab_up_ne (by omega), t4.1 j j1 j2, eg j j1 j2]
