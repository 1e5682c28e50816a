/-! turns of the reference; plain NODES; the NODES of a part one after the other -/
section SM1
variable {K c o sc w z i q : Nat} {deep : Int32} {h g : ab_H}
theorem s_o1 (e : g 0 39 = nI o) (h1 : 1 ≤ o) (h2 : o ≤ 100) : g 0 39 - 1 = nI (o - 1) ∧ (g 0 39 - 1).toNatClampNeg = o - 1 := by
  obtain ⟨k, rfl⟩ : ∃ k, o = k + 1 := ⟨o - 1, by omega⟩
  rw [e, nI_pred, nI_clamp (by omega)]
  exact ⟨rfl, rfl⟩
theorem s_Q_o (Q : s_Q K c o sc deep h g) : g 0 39 = nI o ∧ 1 ≤ o ∧ o ≤ 61 ∧ ¬ g 0 39 ≤ 0 := by
  obtain ⟨-, -, -, -, -, ⟨e, h1, h2, -⟩, -, -, h3, h4⟩ := Q
  exact ⟨e, h1, by omega, by rw [e]; exact nI_nle (by omega) (by omega)⟩
theorem s_z (F : s_F h g w z) : z ≤ 60 := F.2.2.2.1.2.1
theorem s_stepOK (Q : s_Q c c o sc deep h g) (hw : w < 8) (F : s_F h g w z) (hi : i < z) (hat : g 0 40 = nI (60 * w + i)) {en qq zz : Int32} (he : m_opens (h (8 * w + 15) i) = true → m_endOf (g 1) (nI (60 * w + i)) = some en)
    (hq : h (8 * w + 15) i = 21 → m_partE (g 1) (nI (60 * w + i)) 22 = some qq) (hz : h (8 * w + 15) i = 20 → m_unended g (h (8 * w + 17) i) = some zz) : ∃ u, m_stepOK g u en qq zz := by
  have hz60 := s_z F
  obtain ⟨q1, q2, ⟨u, bx, q3, q4, q5, q6⟩, q7, q8, ⟨q9, q9b, q9c, q9d⟩, q10, q11, q12, -⟩ := Q
  obtain ⟨d1, d2, ⟨pl, p1, p2, p3⟩, ⟨lg, l1, l2, l3, l4⟩, d5, d6, d7, ⟨d8, d8b⟩, d9, d10⟩ := q5
  obtain ⟨r1, r2, r3⟩ := F.2.2.1 i hi
  obtain ⟨⟨o1, o2, o3, o4, o5⟩, -⟩ := (q2.1 w hw).2 i (by omega)
  refine ⟨u, ?_⟩
  unfold m_stepOK
  rw [hat, nI_clamp (by omega), r1, r2, r3]
  refine ⟨vp_in_nI (by omega) (by omega), by rw [q9]; exact vp_in_nI (by omega) (by omega), he, fun _ => by rw [q7.1]; exact vp_in_nI (by have := q7.2.1; omega) (by omega), fun e => o1 (by rw [e]; decide), hq, fun e => o2 (by rw [e]; decide), hz, d7, by omega, fun e => o1 ?_, fun e => o2 ?_, o3, fun e => ?_, fun a b1 b2 => ?_, by rw [d8]; exact vp_in_nI (by omega) (by omega), fun e => ?_, fun e => ?_⟩
  · rcases e with e | e | e | e | e | e | e | e <;> (rw [e]; decide)
  · rcases e with e | e | e <;> (rw [e]; decide)
  · rw [l3] at e ⊢
    have : lg ≠ 100 := fun q => e (by rw [q]; rfl)
    exact vp_in_nI (by omega) (by omega)
  · rw [p3] at b2
    obtain ⟨x, hx, rfl⟩ := nI_of b1
    have := (nI_ltI hx (by omega)).mp b2
    exact vp_in_nI (by omega) (by omega)
  · have ha := vp_lt (o3 (Or.inr e))
    obtain ⟨v, hv, ev⟩ := d10.1 (h (8 * w + 16) i).toNatClampNeg (by omega)
    rw [s_rf_lt ha] at ev
    rw [ev]
    exact vp_in_nI (by omega) (by omega)
  · rw [q7.1] at e ⊢
    have hs : sc ≠ 0 := fun q => e (by rw [q]; decide)
    obtain ⟨k, rfl⟩ : ∃ k, sc = k + 1 := ⟨sc - 1, by omega⟩
    rw [nI_pred]
    exact vp_in_nI (by have := q7.2.1; omega) (by omega)
theorem s_step_to (Q : s_Q c c o sc deep h g) (hw : w < 8) (F : s_F h g w z) (hi : i < z) (hat : g 0 40 = nI (60 * w + i)) (h41 : g 0 41 = 0) (hna : m_atEnd g = false) {en qq zz : Int32} (he : m_opens (h (8 * w + 15) i) = true → m_endOf (g 1) (nI (60 * w + i)) = some en)
    (hq : h (8 * w + 15) i = 21 → m_partE (g 1) (nI (60 * w + i)) 22 = some qq) (hz : h (8 * w + 15) i = 20 → m_unended g (h (8 * w + 17) i) = some zz) : m_to g (m_step g en (m_partR (g 1) 22 qq) zz) := by
  obtain ⟨u, ok⟩ := s_stepOK Q hw F hi hat he hq hz
  obtain ⟨e39, h1, h2, h3⟩ := s_Q_o Q
  have hz60 := s_z F
  refine m_to_1 h3 ⟨?_, fun _ _ => ?_, fun q => ?_, fun _ _ => ⟨u, en, qq, zz, ok, rfl⟩⟩
  · rw [(s_o1 e39 h1 (by omega)).1]
    exact vp_in_nI (by omega) (by omega)
  · rw [hat]
    exact vp_in_nI (by omega) (by omega)
  · rcases q with q | q
    · exact absurd h41 q
    · rw [hna] at q; cases q
theorem s_atEnd {f : Nat → Int32} (hG : ∀ i, i < z → g 1 (60 * w + i) = f i) (hw : w < 8) (hz : z ≤ 60) (e39 : g 0 39 = nI o) (h1 : 1 ≤ o) (h2 : o ≤ 61) (T : s_top g o w q f z) (hat : g 0 40 = nI (60 * w + q)) : m_atEnd g = true := by
  unfold m_atEnd
  rw [(s_o1 e39 h1 (by omega)).2, hat]
  rcases T with ⟨t1, t2⟩ | ⟨t1, t2, t3⟩
  · rw [if_pos t1, t2, decide_eq_true rfl]
  · rw [if_neg t1, nI_clamp (by omega), hG q t2]
    exact t3
theorem s_natEnd {f : Nat → Int32} (hG : ∀ i, i < z → g 1 (60 * w + i) = f i) (hw : w < 8) (hz : z ≤ 60) (e39 : g 0 39 = nI o) (h1 : 1 ≤ o) (h2 : o ≤ 61) (T : s_top g o w q f z) (R : z_R f i q) (hi : i < q) (hq : q ≤ z) (hat : g 0 40 = nI (60 * w + i)) : m_atEnd g = false := by
  unfold m_atEnd
  rw [(s_o1 e39 h1 (by omega)).2, hat]
  rcases T with ⟨t1, t2⟩ | ⟨t1, t2, t3⟩
  · rw [if_pos t1, t2]
    refine decide_eq_false fun e => ?_
    have := (nI_eq (by omega) (by omega)).mp e
    omega
  · rw [if_neg t1, nI_clamp (by omega), hG i (by omega)]
    exact z_R_p R hi
/-- the end of a block, or of a part of it -/
theorem s_end_to (Q : s_Q K c o sc deep h g) (h1 : g 0 41 = 0 → m_atEnd g = true ∧ vp_in (g 0 40) 480) {cc ff : Int32} {mk n : Nat} (ok : m_endOK g cc ff mk n) : m_to g (m_ended g (m_partR (g 1) 11 cc) (m_partR (g 1) 12 ff) mk n) := by
  obtain ⟨e39, h2, h3, h4⟩ := s_Q_o Q
  refine m_to_1 h4 ⟨?_, fun _ e => (h1 e).2, fun _ => ⟨cc, ff, mk, n, ok, rfl⟩, fun e1 e2 => ?_⟩
  · rw [(s_o1 e39 h2 (by omega)).1]
    exact vp_in_nI (by omega) (by omega)
  · rw [(h1 e1).1] at e2; cases e2
theorem s_plain_end (Q : s_Q c c o sc deep h g) (hc : c < 60) {lp x : Nat} (hat : g 0 40 = nI x) {G h' : ab_H} {k n R : Int32} (hctl : s_ctl (ab_up g 0 16 (g 0 16 + 1)) G) (hE : s_E (c + 1) h' G) (hinv : c_inv h') (hsm : c_sm (c_pay h) h') (hway : s_way lp k n (ab_up G 0 41 R))
    (hto : m_to g (ab_up (ab_up G 0 41 R) 0 40 (G 0 40 + 1))) : s_End c o sc deep lp (x + 1) g (k, n, h') := by
  have Qp := s_Q_pay Q hc
  obtain ⟨q1, q2, q3, q7, q8, ⟨q9, q9b, q9c, q9d⟩, q10, q11, q12, -⟩ := Qp
  obtain ⟨u, bx, b1, b2, b3, b4⟩ := hE
  refine ⟨_, c + 1, by omega, hto, ?_, ?_, ?_, fun _ => ?_⟩
  · refine ⟨s_Fs_mv hsm.1 (fun i h1 h2 => ((ab_up_ne (by omega)).trans (ab_up_ne (by omega))).trans (hctl.1 i (Or.inl ⟨h1, h2⟩))) q1, hinv, ⟨u, bx, b1, b2, ?_, b4⟩, s_S_mv hsm.2.1 (hctl.2 30 (by decide)) (fun j _ => congrFun (hctl.1 17 (Or.inr (by decide))) j) q7, ⟨(hctl.2 23 (by decide)).trans q8.1, q8.2⟩, ⟨(hctl.2 39 (by decide)).trans q9, q9b, by omega, by omega⟩, ?_, (hctl.2 16 (by decide)).trans q11, q12, by omega⟩
    · exact s_dat_RD (s_dat_tr (s_dat_0 (by decide)) (s_dat_0 (by decide))) b3
    · show h' 0 3 = _
      rw [hsm.2.2]
      exact q10
  · exact s_kp_tr (s_kp_tr (s_kp_tr (s_kp_0 (by decide) (by decide)) (s_kp_ctl hctl)) (s_kp_0 (by decide) (by decide))) (s_kp_0 (by decide) (by decide))
  · exact s_way_mv rfl rfl rfl hway
  · show G 0 40 + 1 = _
    rw [hctl.2 40 (by decide)]
    show g 0 40 + 1 = _
    rw [hat, nI_1]
end SM1
/-- a NODE, class beside reference -/
def s_SN (N : Nat) (P : c_PT) : Prop := ∀ (h g : ab_H) (w z i q c o sc : Nat) (deep : Int32), w < 8 → s_F h g w z → z_sk (h (8 * w + 15)) z = [] → i < q → q ≤ z → z_R (h (8 * w + 15)) i q → c_cost N h → s_Q c c o sc deep h g → s_top g o w q (h (8 * w + 15)) z → g 0 41 = 0 → g 0 40 = nI (60 * w + i) →
  s_End c o sc deep (z_lp (h (8 * w + 15)) i) (60 * w + (if m_opens (h (8 * w + 15) i) = true then (h (8 * w + 19) i).toNatClampNeg else i) + 1) g (c_node P h w (nI i) deep)
theorem s_F_W {h g : ab_H} {w z : Nat} (F : s_F h g w z) (e : z_sk (h (8 * w + 15)) z = []) : z_W (h (8 * w + 15)) (h (8 * w + 17)) (h (8 * w + 18)) (h (8 * w + 19)) z := ⟨F.2.2.2.1, e⟩
theorem s_lp_hd {f : Nat → Int32} {i j : Nat} (e : z_hd f i = z_hd f j) : z_lp f i = z_lp f j := by
  unfold z_lp
  rw [e]
theorem s_top_kp {g g' : ab_H} {o sc w q z : Nat} {f : Nat → Int32} (h1 : 1 ≤ o) (k : s_kp o sc g g') (T : s_top g o w q f z) : s_top g' o w q f z := by
  unfold s_top at *
  rw [k.2.1 18 (by omega) (o - 1) (by omega), k.2.1 20 (by omega) (o - 1) (by omega)]
  exact T
theorem s_partL {N : Nat} {P : c_PT} (hN : s_SN N P) (hI : ∀ n, N = n + 1 → c_IP n P) {w z q o sc : Nat} {deep : Int32} (hw : w < 8) (hq : q ≤ z) : ∀ (m i c : Nat) (h g : ab_H), s_F h g w z → z_sk (h (8 * w + 15)) z = [] → i ≤ q → q - i < m → z_R (h (8 * w + 15)) i q → c_cost N h → s_Q c c o sc deep h g → s_top g o w q (h (8 * w + 15)) z → g 0 41 = 0 → g 0 40 = nI (60 * w + i) →
    s_End c o sc deep (z_lp (h (8 * w + 15)) i) (60 * w + q) g (c_partL P w deep (nI q) m (nI i) h) := by
  intro m
  induction m with
  | zero => intro i c h g _ _ _ h1; omega
  | succ m ih =>
    intro i c h g F hW hiq hm R hc Q T h41 hat
    have hz := s_z F
    have W := s_F_W F hW
    have ok := W.1.1
    rw [c_partL]
    by_cases e : i = q
    · subst e
      rw [if_pos (nI_le (Nat.le_refl _) (by omega))]
      exact ⟨g, c, Nat.le_refl _, m_to_rf g, Q, s_kp_rf _ _ _, Or.inl ⟨rfl, h41⟩, fun _ => hat⟩
    · have hlt : i < q := by omega
      rw [if_neg (nI_ge hlt (by omega))]
      have E := hN h g w z i q c o sc deep hw F hW hlt hq R hc Q T h41 hat
      have post := c_node_post hI (deep := deep) Q.2.1 hw (vp_in_nI (n := i) (N := 60) (by omega) (by omega)) hc
      by_cases e0 : (c_node P h w (nI i) deep).1 = 0
      · rw [if_pos e0]
        obtain ⟨g', c', e1, e2, e3, e4, e5, e6⟩ := E
        have f15 := post.2.2.2.1 (8 * w + 15) (by omega)
        have hat' := e6 e0
        have F' := s_F_mv post.2.2.2.1 e4.1 F
        rw [post.2.2.2.1 (8 * w + 19) (by omega), nI_clamp (by omega)]
        have key : ∀ k, k ≤ 59 → z_R (h (8 * w + 15)) (k + 1) q → z_hd (h (8 * w + 15)) (k + 1) = z_hd (h (8 * w + 15)) i → i ≤ k → g' 0 40 = nI (60 * w + k + 1) → s_End c o sc deep (z_lp (h (8 * w + 15)) i) (60 * w + q) g (c_partL P w deep (nI q) m (nI (k + 1)) (c_node P h w (nI i) deep).2.2) := fun k hk R' hhd hik ha => by
          have := ih (k + 1) c' (c_node P h w (nI i) deep).2.2 g' F' (by rw [f15]; exact hW) R'.1 (by have := R'.1; omega) (by rw [f15]; exact R') post.2.2.2.2.2 e3 (by rw [f15]; exact s_top_kp (s_Q_o Q).2.1 e4 T) ((s_way_0 e5).mp e0) ha
          rw [f15, s_lp_hd hhd] at this
          exact s_End_pre e1 e2 e4 this
        by_cases ho : m_opens (h (8 * w + 15) i) = true
        · obtain ⟨e, he, hB, hE⟩ := z_W_b W (show i < z by omega) ho
          obtain ⟨r1, r2, r3⟩ := z_R_o ok R hlt hq hE
          rw [if_pos ho, hB, nI_clamp (by omega)] at hat'
          rw [hB, c_max_next (by omega) (by omega), show max i e = e by have := hE.1; omega]
          exact key e (by omega) r2 r3 (by have := hE.1; omega) hat'
        · have ho' : m_opens (h (8 * w + 15) i) = false := by
            cases c : m_opens (h (8 * w + 15) i) with
            | true => exact absurd c ho
            | false => rfl
          obtain ⟨r2, r3⟩ := z_R_n ok R hlt hq ho'
          rw [if_neg ho] at hat'
          rw [W.1.2.2.1 i (by omega) ho', c_max_next (by omega) (by omega), Nat.max_self]
          exact key i (by omega) r2 r3 (Nat.le_refl _) hat'
      · rw [if_neg e0]
        obtain ⟨g', c', e1, e2, e3, e4, e5, e6⟩ := E
        exact ⟨g', c', e1, e2, e3, e4, e5, fun q => absurd q e0⟩
theorem s_part {N : Nat} {P : c_PT} (hN : s_SN N P) (hI : ∀ n, N = n + 1 → c_IP n P) : s_SP N (c_part P) := by
  intro h g w z lo q c o sc part deep hw F hW hlo hp hq R hqz hc Q T h41 hat
  unfold c_part
  rw [hq, hlo]
  have hz := s_z F
  exact s_partL hN hI hw hqz 61 lo c h g F hW R.1 (by omega) R hc Q T h41 hat
