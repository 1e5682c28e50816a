/-! SLOTs and boxes: HOLD and USE -/
def s_Bi (r : Nat → Int32) (n bx : Nat) : Prop := (∀ i, i < n → ∃ v, v < bx ∧ r i = nI v) ∧ ∀ i j, i < n → j < n → i ≠ j → r i = r j → r i = 0
theorem s_Bi_set {r r' : Nat → Int32} {n bx j : Nat} (h0 : 1 ≤ bx) (H : s_Bi r n bx) (e : ∀ i, i ≠ j → r' i = r i) (ej : r' j = 0) : s_Bi r' n bx := by
  refine ⟨fun i hi => ?_, fun i k hi hk hik hq => ?_⟩
  · by_cases c : i = j
    · rw [c, ej]; exact ⟨0, by omega, rfl⟩
    · rw [e i c]; exact H.1 i hi
  · by_cases c : i = j
    · rw [c, ej]
    · by_cases c2 : k = j
      · rw [hq, c2, ej]
      · rw [e i c, e k c2] at hq
        rw [e i c]
        exact H.2 i k hi hk hik hq
theorem s_Bi_fresh {r r' : Nat → Int32} {n bx j : Nat} (hb : bx < 2 ^ 30) (H : s_Bi r n bx) (e : ∀ i, i ≠ j → r' i = r i) (ej : r' j = nI bx) : s_Bi r' n (bx + 1) := by
  have hf : ∀ i, i < n → ¬ r i = nI bx := fun i hi q => by
    obtain ⟨v, hv, ev⟩ := H.1 i hi
    rw [ev] at q
    have := (nI_eq (by omega) (by omega)).mp q
    omega
  refine ⟨fun i hi => ?_, fun i k hi hk hik hq => ?_⟩
  · by_cases c : i = j
    · rw [c, ej]; exact ⟨bx, by omega, rfl⟩
    · rw [e i c]
      obtain ⟨v, hv, ev⟩ := H.1 i hi
      exact ⟨v, by omega, ev⟩
  · by_cases c : i = j
    · have c2 : k ≠ j := fun q => hik (by rw [c, q])
      rw [c, ej, e k c2] at hq
      exact absurd hq.symm (hf k hk)
    · by_cases c2 : k = j
      · rw [c2, ej, e i c] at hq
        exact absurd hq (hf i hi)
      · rw [e i c, e k c2] at hq
        rw [e i c]
        exact H.2 i k hi hk hik hq
theorem s_Bi_move {r r' : Nat → Int32} {n bx j : Nat} (h0 : 1 ≤ bx) (hj : j < n) (H : s_Bi r n bx) (e : ∀ i, i < n → i ≠ j → r' i = r i) (ej : r' j = 0) (en : r' n = r j) : s_Bi r' (n + 1) bx := by
  refine ⟨fun i hi => ?_, fun i k hi hk hik hq => ?_⟩
  · by_cases c : i = j
    · rw [c, ej]; exact ⟨0, by omega, rfl⟩
    · by_cases c1 : i = n
      · rw [c1, en]; exact H.1 j hj
      · rw [e i (by omega) c]; exact H.1 i (by omega)
  · by_cases c : i = j
    · rw [c, ej]
    · by_cases c2 : k = j
      · rw [hq, c2, ej]
      · by_cases c3 : i = n
        · have c4 : k ≠ n := fun q => hik (by rw [c3, q])
          rw [c3, en, e k (by omega) c2] at hq
          rw [c3, en]
          exact H.2 j k hj (by omega) (Ne.symm c2) hq
        · by_cases c4 : k = n
          · rw [c4, en, e i (by omega) c] at hq
            rw [e i (by omega) c]
            exact H.2 i j (by omega) hj c hq
          · rw [e i (by omega) c, e k (by omega) c2] at hq
            rw [e i (by omega) c]
            exact H.2 i k (by omega) (by omega) hik hq
theorem s_box_ext {bk bc : Nat → Int32} {v hd ct b x : Int32} {n bx : Nat} (hv : v = nI n) (hn : n < bx) (hb : bx < 2 ^ 30) (H : s_box bk bc v hd ct) : s_box (upd bk bx b) (upd bc bx x) v hd ct := by
  refine ⟨H.1, fun q => ?_⟩
  have e : v.toNatClampNeg = n := by rw [hv, nI_clamp (by omega)]
  have := H.2 q
  rw [e] at this ⊢
  rw [pk_un (by omega), pk_un (by omega)]
  exact this
theorem s_box_0 {bk bc : Nat → Int32} {ct : Int32} : s_box bk bc 0 0 ct := ⟨fun _ => rfl, fun q => absurd rfl q⟩
theorem s_box_n {bk bc : Nat → Int32} {b : Int32} {bx : Nat} (h0 : 1 ≤ bx) (hb : bx < 2 ^ 30) (h : ¬ b = 0) : s_box (upd bk bx b) (upd bc bx 0) (nI bx) b 0 := by
  refine ⟨fun q => absurd q (nI_ne0 (by omega) (by omega)), fun _ => ⟨h, ?_, ?_⟩⟩
  · rw [nI_clamp (by omega), pk_us]
  · rw [nI_clamp (by omega), pk_us]
section SHO
variable {u bx sc : Nat} {h g : ab_H}
theorem s_rf_lt {sl t13 t15 : Nat → Int32} {k : Nat} (hk : k < 4) : s_rf sl t13 t15 k = sl k := if_pos hk
theorem s_rf_7 {sl t13 t15 : Nat → Int32} {j : Nat} (h : t13 j = 7) : s_rf sl t13 t15 (4 + j) = t15 j := by
  unfold s_rf
  rw [if_neg (by omega), show 4 + j - 4 = j by omega, if_pos h]
theorem s_rf_sl {sl t13 t15 : Nat → Int32} {j i : Nat} {x : Int32} (hi : i ≠ j) : s_rf (upd sl j x) t13 t15 i = s_rf sl t13 t15 i := by
  unfold s_rf
  rw [pk_un hi]
theorem s_rf_psh {sl t13 t15 : Nat → Int32} {u i : Nat} {t v : Int32} (hi : i < 4 + u) : s_rf sl (upd t13 u t) (upd t15 u v) i = s_rf sl t13 t15 i := by
  unfold s_rf
  split
  · rfl
  · rw [pk_un (by omega), pk_un (by omega)]
/-- a new box changes no other -/
theorem s_Us_box {a9 a10 a11 a12 a13 t13 t14 t15 t16 bk bc sl : Nat → Int32} {b x : Int32} (hb : bx < 2 ^ 30) (B : s_B sl t13 t15 u bx) (H : s_Us a9 a10 a11 a12 a13 t13 t14 t15 t16 bk bc u) : s_Us a9 a10 a11 a12 a13 t13 t14 t15 t16 (upd bk bx b) (upd bc bx x) u := by
  intro j hj
  rcases H j hj with q | q | q | q | q
  · exact Or.inl q
  · exact Or.inr (Or.inl q)
  · exact Or.inr (Or.inr (Or.inl q))
  · exact Or.inr (Or.inr (Or.inr (Or.inl q)))
  · obtain ⟨v, hv, ev⟩ := B.1 (4 + j) (by omega)
    rw [s_rf_7 q.2.1] at ev
    exact Or.inr (Or.inr (Or.inr (Or.inr ⟨q.1, q.2.1, q.2.2.1, q.2.2.2.1, s_box_ext ev hv hb q.2.2.2.2⟩)))
theorem s_X_box {sl bk bc hd ct t13 t15 : Nat → Int32} {b x : Int32} (hb : bx < 2 ^ 30) (B : s_B sl t13 t15 u bx) (H : s_X sl bk bc hd ct) : s_X sl (upd bk bx b) (upd bc bx x) hd ct := by
  intro k hk
  obtain ⟨v, hv, ev⟩ := B.1 k (by omega)
  rw [s_rf_lt hk] at ev
  exact s_box_ext ev hv hb (H k hk)
theorem s_X_set {sl bk bc hd ct : Nat → Int32} {j : Nat} {v b x : Int32} (H : s_X sl bk bc hd ct) (hn : s_box bk bc v b x) : s_X (upd sl j v) bk bc (upd hd j b) (upd ct j x) := by
  intro k hk
  by_cases c : k = j
  · subst c
    rw [pk_us, pk_us, pk_us]
    exact hn
  · rw [pk_un c, pk_un c, pk_un c]
    exact H k hk
theorem s_St_hold (D : s_RD u bx h g) (hz : h 3 5 = nI u) (hS : s_S sc h g) (hu : u < 60) (hb : bx < 80) {a b : Int32} (ha : vp_in a 4) : s_St u bx g (c_hold h a b)
    (if b = 0 then ab_up (m_rem g 7 a (g 7 a.toNatClampNeg)) 7 a.toNatClampNeg 0 else ab_up (m_boxH (m_rem g 7 a (g 7 a.toNatClampNeg)) b) 7 a.toNatClampNeg (m_rem g 7 a (g 7 a.toNatClampNeg) 0 13 + 1 - 1)) 0 0 0 := by
  obtain ⟨j, hj, rfl⟩ := vp_in_of ha (by omega)
  obtain ⟨d1, d2, d3, d4, d5, d6, d7, ⟨d8, d8b⟩, d9, d10⟩ := D
  have hb3 : bx < 2 ^ 30 := by omega
  unfold c_hold c_remSlot
  rw [nI_clamp (by omega)]
  rcases s_room hS hz hu with ⟨-, c1, c2⟩ | ⟨-, c1, c2⟩
  · rw [if_neg (by rw [c1]; decide), m_rem_f c2]
    by_cases cb : b = 0
    · subst cb
      rw [if_pos rfl]
      refine ⟨u, bx, by omega, by omega, ⟨d1, d2, d3, d4, d5, s_X_set d6 s_box_0, d7, ⟨d8, d8b⟩, d9, s_Bi_set (j := j) d8b d10 (fun i hi => s_rf_sl hi) ?_⟩, hz, s_ctl_up (by decide), fun _ => rfl, fun q => absurd rfl q⟩
      exact (s_rf_lt hj).trans pk_us
    · rw [if_neg cb, m_boxH, d8, nI_clamp (by omega), nI_1, nI_pred]
      refine ⟨u, bx + 1, by omega, by omega, ⟨d1, d2, d3, d4, d5, s_X_set (s_X_box hb3 d10 d6) (s_box_n d8b hb3 cb), d7, ⟨rfl, by omega⟩, s_Us_box hb3 d10 d9, s_Bi_fresh (j := j) hb3 d10 (fun i hi => s_rf_sl hi) ?_⟩, hz, s_ctl_tr (s_ctl_tr (s_ctl_tr (s_ctl_up (by decide)) (s_ctl_up (by decide))) (s_ctl_0 (by decide))) (s_ctl_up (by decide)), fun _ => rfl, fun q => absurd rfl q⟩
      exact (s_rf_lt hj).trans pk_us
  · rw [if_pos c1, hz, nI_clamp (by omega), c_rem_t (h := ab_up h 12 u (h 6 j)) (u := u) hz hu c1, m_rem_t d7 hu c2 (by decide)]
    have hU : s_Us (upd (h 9) u 7) (upd (h 10) u (nI j)) (upd (h 11) u (h 7 j)) (upd (h 12) u (h 6 j)) (h 13) (upd (g 13) u 7) (upd (g 14) u (nI j)) (upd (g 15) u (g 7 j)) (g 16) (g 8) (g 9) (u + 1) := by
      refine s_U_push d9 (fun k hk => pk_un (by omega)) (fun _ _ => rfl) (fun _ _ => rfl) ?_
      unfold s_U
      rw [pk_us, pk_us, pk_us, pk_us, pk_us, pk_us, pk_us]
      exact Or.inr (Or.inr (Or.inr (Or.inr ⟨rfl, rfl, rfl, vp_in_nI hj (by omega), d6 j hj⟩)))
    have hB0 : s_B (upd (g 7) j 0) (upd (g 13) u 7) (upd (g 15) u (g 7 j)) (u + 1) bx := by
      refine s_Bi_move (n := 4 + u) (j := j) d8b (by omega) d10 (fun i hi hij => ?_) ?_ ?_
      · rw [s_rf_psh hi, s_rf_sl hij]
      · rw [s_rf_lt hj, pk_us]
      · rw [s_rf_7 pk_us, s_rf_lt hj, pk_us]
    by_cases cb : b = 0
    · subst cb
      rw [if_pos rfl]
      exact ⟨u + 1, bx, by omega, by omega, ⟨d1, d2, d3, d4, d5, s_X_set d6 s_box_0, rfl, ⟨d8, d8b⟩, hU, hB0⟩, rfl, s_ctl_tr (s_ctl_tr (s_ctl_tr (s_ctl_tr (s_ctl_up (by decide)) (s_ctl_up (by decide))) (s_ctl_up (by decide))) (s_ctl_0 (by decide))) (s_ctl_up (by decide)), fun _ => rfl, fun q => absurd rfl q⟩
    · have e13 : ab_up (ab_up (ab_up (ab_up g 13 u 7) 14 u (nI j)) 15 u (g 7 j)) 0 28 (nI (u + 1)) 0 13 = nI bx := d8
      rw [if_neg cb, m_boxH, e13, nI_clamp (by omega), nI_1, nI_pred]
      refine ⟨u + 1, bx + 1, by omega, by omega, ⟨d1, d2, d3, d4, d5, s_X_set (s_X_box hb3 d10 d6) (s_box_n d8b hb3 cb), rfl, ⟨rfl, by omega⟩, s_Us_box hb3 hB0 hU, s_Bi_fresh (j := j) hb3 hB0 (fun i hi => ?_) ?_⟩, rfl, s_ctl_tr (s_ctl_tr (s_ctl_tr (s_ctl_tr (s_ctl_tr (s_ctl_tr (s_ctl_tr (s_ctl_up (by decide)) (s_ctl_up (by decide))) (s_ctl_up (by decide))) (s_ctl_0 (by decide))) (s_ctl_up (by decide))) (s_ctl_up (by decide))) (s_ctl_0 (by decide))) (s_ctl_up (by decide)), fun _ => rfl, fun q => absurd rfl q⟩
      · rw [s_rf_sl hi]
        exact s_rf_sl hi
      · exact (s_rf_lt hj).trans pk_us
theorem s_use_RD (D : s_RD u bx h g) {j n : Nat} (hj : j < 4) (hb : bx < 80) (hn : n < bx) (hv : g 7 j = nI n) (h0 : ¬ g 7 j = 0) (x : Int32) : s_RD u bx (ab_up h 7 j x) (ab_up g 9 n x) := by
  obtain ⟨d1, d2, d3, d4, d5, d6, d7, ⟨d8, d8b⟩, d9, d10⟩ := D
  have key : ∀ i, i < 4 + u → i ≠ j → ∀ hd ct, s_box (g 8) (g 9) (s_rf (g 7) (g 13) (g 15) i) hd ct → s_box (g 8) (upd (g 9) n x) (s_rf (g 7) (g 13) (g 15) i) hd ct := fun i hi hij hd ct H => by
    refine ⟨H.1, fun q => ?_⟩
    obtain ⟨v, hv2, ev⟩ := d10.1 i hi
    have hvn : v ≠ n := fun c => q (d10.2 i j hi (by omega) hij (by rw [ev, s_rf_lt hj, hv, c]))
    have := H.2 q
    rw [ev, nI_clamp (by omega)] at this ⊢
    rw [pk_un hvn]
    exact this
  refine ⟨d1, d2, d3, d4, d5, fun k hk => ?_, d7, ⟨d8, d8b⟩, fun i hi => ?_, d10⟩
  · show s_box (g 8) (upd (g 9) n x) (g 7 k) (h 6 k) (upd (h 7) j x k)
    by_cases c : k = j
    · subst c
      refine ⟨fun q => absurd q h0, fun _ => ?_⟩
      have := (d6 k hk).2 h0
      rw [hv, nI_clamp (by omega)] at this ⊢
      rw [pk_us, pk_us]
      exact ⟨this.1, this.2.1, rfl⟩
    · rw [pk_un c]
      have := key k (by omega) c (h 6 k) (h 7 k)
      rw [s_rf_lt hk] at this
      exact this (d6 k hk)
  · rcases d9 i hi with q | q | q | q | q
    · exact Or.inl q
    · exact Or.inr (Or.inl q)
    · exact Or.inr (Or.inr (Or.inl q))
    · exact Or.inr (Or.inr (Or.inr (Or.inl q)))
    · have := key (4 + i) (by omega) (by omega) (h 12 i) (h 11 i)
      rw [s_rf_7 q.2.1] at this
      exact Or.inr (Or.inr (Or.inr (Or.inr ⟨q.1, q.2.1, q.2.2.1, q.2.2.2.1, this q.2.2.2.2⟩)))
theorem s_St_use (D : s_RD u bx h g) (hz : h 3 5 = nI u) (hb : bx < 80) {a : Int32} (ha : vp_in a 4) : s_St u bx g (c_use h a) (m_uses g (g 7 a.toNatClampNeg))
    (if h 6 a.toNatClampNeg = 0 then 4 else if h 6 a.toNatClampNeg = 2 then 4 else 0) (if h 6 a.toNatClampNeg = 0 then 5 else if h 6 a.toNatClampNeg = 2 then 6 else 0) (m_usesR g (g 7 a.toNatClampNeg)) := by
  obtain ⟨j, hj, rfl⟩ := vp_in_of ha (by omega)
  have B := D.2.2.2.2.2.1 j hj
  obtain ⟨n, hn, en⟩ := D.2.2.2.2.2.2.2.2.2.1 j (by omega)
  rw [s_rf_lt hj] at en
  unfold c_use m_uses m_usesR
  rw [nI_clamp (by omega)]
  by_cases c : g 7 j = 0
  · rw [if_pos (B.1 c), if_pos (B.1 c), if_pos (B.1 c), if_pos c, if_pos c]
    exact ⟨u, bx, by omega, by omega, s_kind D 5, hz, s_ctl_0 (by decide), fun q => absurd q (by decide), fun _ => ⟨rfl, rfl, rfl⟩⟩
  · obtain ⟨b1, b2, b3⟩ := B.2 c
    rw [en, nI_clamp (by omega)] at b2 b3
    rw [if_neg b1, if_neg b1, if_neg b1, if_neg c, if_neg c, en, nI_clamp (by omega), ← b2]
    by_cases c2 : h 6 j = 2
    · rw [if_pos c2, if_pos c2, if_pos c2, if_pos c2, if_pos c2]
      exact ⟨u, bx, by omega, by omega, s_kind D 6, hz, s_ctl_0 (by decide), fun q => absurd q (by decide), fun _ => ⟨rfl, rfl, rfl⟩⟩
    · rw [if_neg c2, if_neg c2, if_neg c2, if_neg c2, if_neg c2, b3]
      obtain ⟨D2, e3, hc⟩ := s_note (s_use_RD D hj hb hn en c (g 9 n + 1)) (g 9 n + 1)
      exact ⟨u, bx, by omega, by omega, D2, by rw [e3]; exact hz, s_ctl_tr (s_ctl_up (by decide)) hc, fun _ => rfl, fun q => absurd rfl q⟩
end SHO
