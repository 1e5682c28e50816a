/-! what the face answers, class beside reference: the relation between two calls -/
def s_Y (h g : ab_H) : Prop := s_T h g ∧ ∀ w, w < 8 → ∃ z, s_F h g w z ∧ y_st (h (8 * w + 20)) (h (8 * w + 21)) (z_sk (h (8 * w + 15)) z) ∧ z_D (h (8 * w + 15)) z ≤ 10
theorem s_RD_h {u bx : Nat} {h h' g : ab_H} (e : ∀ j, j < 14 → h' j = h j) (D : s_RD u bx h g) : s_RD u bx h' g := by
  unfold s_RD at *
  rw [e 4 (by decide), e 5 (by decide), e 2 (by decide), e 8 (by decide), e 3 (by decide), e 0 (by decide), e 6 (by decide), e 7 (by decide), e 9 (by decide), e 10 (by decide), e 11 (by decide), e 12 (by decide), e 13 (by decide)]
  exact D
theorem c_dyn_mv {h h' : ab_H} (e : ∀ j, j < 14 → h' j = h j) (D : c_dyn h) : c_dyn h' := by
  unfold c_dyn c_pok c_undoI c_uok at *
  rw [e 2 (by decide), e 3 (by decide), e 9 (by decide), e 10 (by decide), e 11 (by decide)]
  exact D
theorem s_T_of {h h' g g' : ab_H} (T : s_T h g) (e : ∀ j, j < 14 → h' j = h j) (d : s_dat g g') (Fs : s_Fs h' g') (st : c_stat h') (e20 : g' 0 20 = g 0 20) (e16 : g' 0 16 = g 0 16) : s_T h' g' := by
  obtain ⟨T1, T2, ⟨bx, T3, T4⟩, T5, T6, T7, c, T8, T9, T10⟩ := T
  refine ⟨Fs, ⟨st, c_dyn_mv e T2.2⟩, ⟨bx, T3, s_RD_h e (s_dat_RD d T4)⟩, ?_, ?_, ?_, c, T8, ?_, ?_⟩
  · rw [e 3 (by decide)]; exact T5
  · rw [e 3 (by decide)]; exact T6
  · rw [e 0 (by decide), e20]; exact T7
  · rw [e 0 (by decide)]; exact T9
  · rw [e16]; exact T10
/-- the reference alone has changed, and nothing that counts -/
def y_kp (g g' : ab_H) : Prop := (∀ i, i ≠ 0 → i ≠ 18 → i ≠ 21 → g' i = g i) ∧ ∀ j, j ≠ 39 → j ≠ 42 → j ≠ 0 → g' 0 j = g 0 j
theorem y_kp_0 {g : ab_H} {v : Int32} : y_kp g (ab_up g 0 0 v) := ⟨fun i h1 _ _ => ab_up_ne h1, fun j _ _ h => by rw [ab_rd, if_pos rfl, if_neg h]⟩
theorem y_kp_tr {a b c : ab_H} (h1 : y_kp a b) (h2 : y_kp b c) : y_kp a c := ⟨fun i x y z => (h2.1 i x y z).trans (h1.1 i x y z), fun j x y z => (h2.2 j x y z).trans (h1.2 j x y z)⟩
theorem y_kp_dat {g g' : ab_H} (h : y_kp g g') : s_dat g g' := ⟨fun i h1 h2 => h.1 i (by omega) (by omega) (by omega), fun k hk => h.2 k (by omega) (by omega) (by omega)⟩
theorem s_Y_kp {h g g' : ab_H} (Y : s_Y h g) (k : y_kp g g') : s_Y h g' := by
  have e : ∀ i, 1 ≤ i → i ≤ 4 → g' i = g i := fun i h1 h2 => k.1 i (by omega) (by omega) (by omega)
  refine ⟨s_T_of Y.1 (fun _ _ => rfl) (y_kp_dat k) (s_Fs_mv (fun _ _ => rfl) e Y.1.1) Y.1.2.1.1 (k.2 20 (by decide) (by decide) (by decide)) (k.2 16 (by decide) (by decide) (by decide)), fun w hw => ?_⟩
  obtain ⟨z, F, q⟩ := Y.2 w hw
  exact ⟨z, s_F_mv (fun _ _ => rfl) e F, q⟩
theorem s_F_oth {h h' g g' : ab_H} {w z : Nat} (hw : w < 8) (e1 : ∀ i, 8 * w + 14 ≤ i → i ≤ 8 * w + 21 → h' i = h i) (e2 : ∀ i, i < 60 → g' 1 (60 * w + i) = g 1 (60 * w + i) ∧ g' 2 (60 * w + i) = g 2 (60 * w + i) ∧ g' 3 (60 * w + i) = g 3 (60 * w + i)) (e4 : g' 4 w = g 4 w) (F : s_F h g w z) : s_F h' g' w z := by
  have hz := F.2.2.2.1.2.1
  unfold s_F at *
  rw [e1 (8 * w + 14) (by omega) (by omega), e1 (8 * w + 15) (by omega) (by omega), e1 (8 * w + 16) (by omega) (by omega), e1 (8 * w + 17) (by omega) (by omega), e1 (8 * w + 18) (by omega) (by omega), e1 (8 * w + 19) (by omega) (by omega), e4]
  refine ⟨F.1, F.2.1, fun i hi => ?_, F.2.2.2⟩
  obtain ⟨q1, q2, q3⟩ := e2 i (by omega)
  rw [q1, q2, q3]
  exact F.2.2.1 i hi
/-- does the class take the NODE -/
def c_canN (h : ab_H) (w : Nat) (s b : Int32) : Bool := c_can h w (m_cnt (c_heads h w) (h (8 * w + 14) 7).toNatClampNeg) s b
/-- 0: it comes back; 1: IllegalArgumentException; 2: IllegalStateException -/
def c_nodeX (h : ab_H) (w s a b : Int32) : Nat := if m_within w 7 = true ∧ c_rng s a b = true then (if c_canN h w.toNatClampNeg s b = true then 0 else 2) else 1
def c_nodeH (h : ab_H) (w s a b : Int32) : ab_H := if m_within w 7 = true ∧ c_rng s a b = true then (if c_canN h w.toNatClampNeg s b = true then c_app h w.toNatClampNeg s a b else h) else h
theorem s_Y_w {h g : ab_H} (Y : s_Y h g) {w : Nat} (hw : w < 8) : ∃ z oN, s_F h g w z ∧ z ≤ 60 ∧ h (8 * w + 14) 8 = nI z ∧ h (8 * w + 14) 7 = nI oN ∧ oN = z_D (h (8 * w + 15)) z ∧ oN ≤ 10 ∧ y_st (h (8 * w + 20)) (h (8 * w + 21)) (z_sk (h (8 * w + 15)) z) ∧ (∀ j, j < oN → vp_in (h (8 * w + 20) j) 60 ∧ vp_in (h (8 * w + 21) j) 60) := by
  obtain ⟨z, F, st, hD⟩ := Y.2 w hw
  have hz := F.2.2.2.1.2.1
  refine ⟨z, _, F, hz, F.1, F.2.2.2.2, rfl, hD, st, fun j hj => ?_⟩
  obtain ⟨x, x1, x2, x3⟩ := y_st_at st j hj
  have := z_mem F.2.2.2.1.1 x1
  rw [x2, x3]
  exact ⟨vp_in_nI (by omega) (by omega), vp_in_nI (by omega) (by omega)⟩
/-- the NODE is the reference's too -/
def m_nodeO (g gl : ab_H) (oN : Nat) (w s a b : Int32) : ab_H := if m_within w 7 = true ∧ m_right s a b = true then m_nodeH g (m_look gl oN) w s a b else ab_up g 0 0 1
def m_nodeA (g gl : ab_H) (oN : Nat) (w s a b : Int32) : Int32 := if m_within w 7 = true ∧ m_right s a b = true then m_nodeR g (m_look gl oN) w s b else 0
theorem i_60 (w : Nat) : (60 : Int32) * nI w = nI (60 * w) := (Int32.ofNat_mul 60 w).symm
theorem s_nodeY {h g : ab_H} (Y : s_Y h g) (w s a b : Int32) : ∃ n oN gl, oN ≤ 80 ∧ (m_within w 7 = true → m_lk (60 * w + g 4 w.toNatClampNeg) n (60 * w) (ab_up g 0 39 0) gl) ∧ (m_within w 7 = true → gl 4 = g 4) ∧ (m_within w 7 = true → gl 0 39 = nI oN) ∧ (m_within w 7 = true → ¬ g 4 w.toNatClampNeg = 60 → vp_in (60 * w + g 4 w.toNatClampNeg) 480) ∧
    m_nodeO g gl oN w s a b 0 0 = nI (c_nodeX h w s a b) ∧ (c_nodeX h w s a b = 0 → m_nodeA g gl oN w s a b = c_nodeH h w s a b (8 * w.toNatClampNeg + 14) 8) ∧ s_Y (c_nodeH h w s a b) (m_nodeO g gl oN w s a b) := by
  unfold m_nodeO m_nodeA c_nodeX c_nodeH
  cases hwi : m_within w 7 with
  | false =>
    refine ⟨0, 0, g, by omega, (fun q => by cases q), (fun q => by cases q), (fun q => by cases q), (fun q => by cases q), ?_⟩
    rw [if_neg (fun q => by cases q.1), if_neg (fun q => by cases q.1), if_neg (fun q => by cases q.1)]
    exact ⟨rfl, fun q => absurd q (by decide), s_Y_kp Y y_kp_0⟩
  | true =>
    obtain ⟨W, hW, rfl⟩ := m_within_of (n := 7) (by decide) hwi
    have hW8 : W < 8 := by omega
    obtain ⟨z, oN, F, hz, h8, h7, hoN, ho10, st, hin⟩ := s_Y_w Y hW8
    have cW : (nI W).toNatClampNeg = W := nI_clamp (by omega)
    have g4 : g 4 W = nI z := F.2.1
    have e60 := i_60 W
    obtain ⟨gl, l1, l2, l3, l4, l5⟩ := y_look (f := h (8 * W + 15)) (o := 60 * W) F.2.2.2.1.1 hz (by omega) z 0 (ab_up g 0 39 0) (by omega) (fun i hi => (F.2.2.1 i hi).1) rfl trivial
    rw [Nat.add_zero] at l1
    rw [cW, g4, e60, nI_add, c_rng_eq]
    have k4 : gl 4 = g 4 := l4 4 (by decide) (by decide) (by decide)
    have hkp : y_kp g (m_look gl oN) := by
      refine ⟨fun i i1 i2 i3 => ?_, fun j j1 j2 j3 => ?_⟩
      · unfold m_look
        rw [ab_up_ne i1, l4 i i1 i2 i3, ab_up_ne i1]
      · unfold m_look
        rw [ab_rd, if_pos rfl, if_neg j2, l5 j j1, ab_rd, if_pos rfl, if_neg j1]
    refine ⟨z, oN, gl, by omega, fun _ => l1, fun _ => k4, fun _ => by rw [hoN]; exact l2, fun _ hne => ?_, ?_⟩
    · refine vp_in_nI ?_ (by omega)
      have : z ≠ 60 := fun e => hne (by rw [e]; rfl)
      omega
    cases hr : c_rng s a b with
    | false =>
      rw [if_neg (fun q => by cases q.2), if_neg (fun q => by cases q.2), if_neg (fun q => by cases q.2)]
      exact ⟨rfl, fun q => absurd q (by decide), s_Y_kp Y y_kp_0⟩
    | true =>
      simp only [and_self, if_true]
      have ecn : m_cnt (c_heads h W) (h (8 * W + 14) 7).toNatClampNeg = z_lp (h (8 * W + 15)) z := by
        rw [h7, nI_clamp (by omega), hoN]
        exact y_st_cnt (f := h (8 * W + 15)) (fun x hx => by have := z_mem F.2.2.2.1.1 hx; omega) st
      have e39 : m_look gl oN 0 39 = nI (z_D (h (8 * W + 15)) z) := by
        unfold m_look
        rw [ab_rd, if_pos rfl, if_neg (by decide)]
        exact l2
      have e42 : m_look gl oN 0 42 = nI (z_lp (h (8 * W + 15)) z) := by
        unfold m_look
        rw [ab_rd, if_pos rfl, if_pos rfl, hoN]
        congr 1
        exact y_lk_cnt l3
      have hkp0 : y_kp g (ab_up (m_look gl oN) 0 0 2) := y_kp_tr hkp y_kp_0
      unfold c_canN
      rw [ecn]
      by_cases hz60 : z = 60
      · have cf : c_can h W (z_lp (h (8 * W + 15)) z) s b = false := by
          unfold c_can
          rw [h8, hz60, if_neg (by decide)]
        rw [cf]
        simp only [Bool.false_eq_true, if_false]
        have eH : m_nodeH g (m_look gl oN) (nI W) s a b = ab_up (m_look gl oN) 0 0 2 := by
          unfold m_nodeH
          rw [cW, g4, hz60, if_pos (show nI 60 = (60 : Int32) from rfl)]
          split <;> rfl
        rw [eH]
        exact ⟨rfl, fun q => absurd q (by decide), s_Y_kp Y hkp0⟩
      · have hz2 : z < 60 := by omega
        have hn60 : ¬ nI z = 60 := fun e => hz60 ((nI_eq (b := 60) (by omega) (by omega)).mp e)
        have cst := s_can (G := m_look gl oN) F hz2 st e39 e42 l3 s b
        cases hc : c_can h W (z_lp (h (8 * W + 15)) z) s b with
        | false =>
          have eH : m_nodeH g (m_look gl oN) (nI W) s a b = ab_up (m_look gl oN) 0 0 2 := by
            unfold m_nodeH
            rw [← cst, hc, if_neg (by decide)]
          simp only [Bool.false_eq_true, if_false]
          rw [eH]
          exact ⟨rfl, fun q => absurd q (by decide), s_Y_kp Y hkp0⟩
        | true =>
          simp only [if_true]
          have nok := c_rng_nok hr
          obtain ⟨al, hop⟩ := s_al F hz2 st hc nok
          have R := s_app (s := s) (a := a) (b := b) F.2.2.2.1 h8 (by rw [h7, hoN]) hz2 st (by omega) al hop
          generalize c_app h W s a b = h' at R ⊢
          obtain ⟨r1, r2, r3, r4, r5, r6, r7, r8, r9, r10⟩ := R
          have eH : m_nodeH g (m_look gl oN) (nI W) s a b = ab_up (ab_up (ab_up (ab_up (ab_up (m_look gl oN) 0 0 0) 1 (60 * W + z) s) 2 (60 * W + z) a) 3 (60 * W + z) b) 4 W (nI (z + 1)) := by
            unfold m_nodeH
            rw [← cst, hc, if_pos rfl, cW, g4, if_neg hn60, e60, nI_add, nI_clamp (by omega), nI_1]
          have eA : m_nodeR g (m_look gl oN) (nI W) s b = nI (z + 1) := by
            unfold m_nodeR
            rw [← cst, hc, if_pos rfl, cW, g4, if_neg hn60, nI_1]
          rw [eH, eA]
          have hkp1 : y_kp g (ab_up (m_look gl oN) 0 0 0) := y_kp_tr hkp y_kp_0
          have g00 : ab_up (m_look gl oN) 0 0 0 0 0 = 0 := rfl
          generalize ab_up (m_look gl oN) 0 0 0 = g1 at hkp1 g00 ⊢
          have c1 : ab_up (ab_up (ab_up (ab_up g1 1 (60 * W + z) s) 2 (60 * W + z) a) 3 (60 * W + z) b) 4 W (nI (z + 1)) 1 = upd (g 1) (60 * W + z) s := by
            rw [ab_up_ne (by decide), ab_up_ne (by decide), ab_up_ne (by decide), ab_up_eq, hkp1.1 1 (by decide) (by decide) (by decide)]
          have c2 : ab_up (ab_up (ab_up (ab_up g1 1 (60 * W + z) s) 2 (60 * W + z) a) 3 (60 * W + z) b) 4 W (nI (z + 1)) 2 = upd (g 2) (60 * W + z) a := by
            rw [ab_up_ne (by decide), ab_up_ne (by decide), ab_up_eq, ab_up_ne (by decide), hkp1.1 2 (by decide) (by decide) (by decide)]
          have c3 : ab_up (ab_up (ab_up (ab_up g1 1 (60 * W + z) s) 2 (60 * W + z) a) 3 (60 * W + z) b) 4 W (nI (z + 1)) 3 = upd (g 3) (60 * W + z) b := by
            rw [ab_up_ne (by decide), ab_up_eq, ab_up_ne (by decide), ab_up_ne (by decide), hkp1.1 3 (by decide) (by decide) (by decide)]
          have c4 : ab_up (ab_up (ab_up (ab_up g1 1 (60 * W + z) s) 2 (60 * W + z) a) 3 (60 * W + z) b) 4 W (nI (z + 1)) 4 = upd (g 4) W (nI (z + 1)) := by
            rw [ab_up_eq, ab_up_ne (by decide), ab_up_ne (by decide), ab_up_ne (by decide), hkp1.1 4 (by decide) (by decide) (by decide)]
          have cn : ∀ i, i ≠ 1 → i ≠ 2 → i ≠ 3 → i ≠ 4 → ab_up (ab_up (ab_up (ab_up g1 1 (60 * W + z) s) 2 (60 * W + z) a) 3 (60 * W + z) b) 4 W (nI (z + 1)) i = g1 i := fun i i1 i2 i3 i4 => by
            rw [ab_up_ne i4, ab_up_ne i3, ab_up_ne i2, ab_up_ne i1]
          have hnew : ∀ w', w' < 8 → ∃ z', s_F h' (ab_up (ab_up (ab_up (ab_up g1 1 (60 * W + z) s) 2 (60 * W + z) a) 3 (60 * W + z) b) 4 W (nI (z + 1))) w' z' ∧ y_st (h' (8 * w' + 20)) (h' (8 * w' + 21)) (z_sk (h' (8 * w' + 15)) z') ∧ z_D (h' (8 * w' + 15)) z' ≤ 10 := fun w' hw' => by
            by_cases ew : w' = W
            · subst ew
              refine ⟨z + 1, ⟨r1, by rw [c4, pk_us], fun i hi => ?_, r6, r2⟩, r7, r8⟩
              rw [c1, c2, c3, r3, r4, r5]
              by_cases ei : i = z
              · subst ei
                exact ⟨by rw [pk_us, pk_us], by rw [pk_us, pk_us], by rw [pk_us, pk_us]⟩
              · have q := F.2.2.1 i (by omega)
                rw [pk_un (by omega), pk_un (by omega), pk_un (by omega), pk_un (by omega), pk_un (by omega), pk_un (by omega)]
                exact q
            · obtain ⟨z', F', st', hD'⟩ := Y.2 w' hw'
              have eo : ∀ i, 8 * w' + 14 ≤ i → i ≤ 8 * w' + 21 → h' i = h i := fun i i1 i2 => r9 i (by omega)
              refine ⟨z', s_F_oth hw' eo (fun i hi => ?_) (by rw [c4, pk_un ew]) F', ?_, ?_⟩
              · rw [c1, c2, c3, pk_un (by omega), pk_un (by omega), pk_un (by omega)]
                exact ⟨rfl, rfl, rfl⟩
              · rw [eo _ (by omega) (by omega), eo _ (by omega) (by omega), eo _ (by omega) (by omega)]
                exact st'
              · rw [eo _ (by omega) (by omega)]
                exact hD'
          generalize hG : ab_up (ab_up (ab_up (ab_up g1 1 (60 * W + z) s) 2 (60 * W + z) a) 3 (60 * W + z) b) 4 W (nI (z + 1)) = G at *
          refine ⟨?_, fun _ => r1.symm, s_T_of Y.1 (fun j hj => r9 j (by omega)) ⟨fun i i1 i2 => ?_, fun k hk => ?_⟩ (fun w' hw' => ?_) (fun w' hw' => ?_) ?_ ?_, hnew⟩
          · rw [cn 0 (by decide) (by decide) (by decide) (by decide), g00]
            rfl
          · rw [cn i (by omega) (by omega) (by omega) (by omega)]
            exact hkp1.1 i (by omega) (by omega) (by omega)
          · rw [cn 0 (by decide) (by decide) (by decide) (by decide)]
            exact hkp1.2 k (by omega) (by omega) (by omega)
          · obtain ⟨z', q, -⟩ := hnew w' hw'
            exact ⟨z', q⟩
          · obtain ⟨z', q, -⟩ := hnew w' hw'
            refine ⟨⟨z', q.2.2.2.1.2.1, q.1⟩, fun i hi => ?_⟩
            by_cases ew : w' = W
            · subst ew
              obtain ⟨o1, o2, o3⟩ := (Y.1.2.1.1 w' hw').2 i hi
              refine ⟨?_, (r10 i hi).1 o2, (r10 i hi).2 o3⟩
              rw [r3, r4, r5]
              by_cases ei : i = z
              · subst ei
                rw [pk_us, pk_us, pk_us]
                exact nok
              · rw [pk_un ei, pk_un ei, pk_un ei]
                exact o1
            · rw [r9 (8 * w' + 15) (by omega), r9 (8 * w' + 16) (by omega), r9 (8 * w' + 17) (by omega), r9 (8 * w' + 18) (by omega), r9 (8 * w' + 19) (by omega)]
              exact (Y.1.2.1.1 w' hw').2 i hi
          · rw [cn 0 (by decide) (by decide) (by decide) (by decide)]
            exact hkp1.2 20 (by decide) (by decide) (by decide)
          · rw [cn 0 (by decide) (by decide) (by decide) (by decide)]
            exact hkp1.2 16 (by decide) (by decide) (by decide)
