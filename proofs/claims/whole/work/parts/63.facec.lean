/-! the class's face, with what it throws -/
theorem xI_at : ∀ w ∈ vx_atS RX3 131 xI ag_sup, w ∈ ab_all ∨ w ∈ ag_ngl := by decide +kernel
theorem xS_at : ∀ w ∈ vx_atS RX3 56 xS ag_sup, w ∈ ab_all ∨ w ∈ ag_ngl := by decide +kernel
theorem xI_k : Cond.classLink RX3 127 xI ∈ ab_all := by decide +kernel
theorem xS_k : Cond.classLink RX3 52 xS ∈ ab_all := by decide +kernel
theorem xI_i : Cond.initialized xI ∈ ab_all := by decide +kernel
theorem xS_i : Cond.initialized xS ∈ ab_all := by decide +kernel
theorem xI_fit : Bundle.fit xI = true := by decide +kernel
theorem xS_fit : Bundle.fit xS = true := by decide +kernel
theorem ag_sup_fit : ∀ n ∈ ag_sup, Bundle.fit n = true := by decide +kernel
theorem xA_l : Cond.fieldLink RX3 34 "UndoWorks" "BELOW_A" "[I" ∈ ab_all := by decide +kernel
theorem xB_l : Cond.fieldLink RX3 42 "UndoWorks" "BELOW_B" "[I" ∈ ab_all := by decide +kernel
section AGV
variable {l : Launch} {lay : List ab_E} {M : ab_M} {R : Room} {K V : Nat} {Q : Option ab_V → ab_H → Prop} {Ex : String → ab_H → Prop} {cc cs : Nat} {pc : Nat} {L : List (Nat × ab_V)} {S : List ab_V} {h : ab_H} {d : Nat}
theorem ag_V0 {M' : ab_M} {idx ci i : Nat} {fl : List (Option Nat)} {Q' : Option ab_V → ab_H → Prop} (hR : ag_fit R d cc cs) (hd : decode M.2.1 pc = .ok (.invokevirtual idx, 3)) (hm : ab_MV M.1.cls idx ci 0 M') (he : lay[i]? = some (.inr (.inr (ci, fl)))) (hS : Nat.ble (S.map ab_cat).sum 8 = true)
    (hc : ab_C l lay d M' [ab_R i] h Q') (kk : ∀ v h', Q' v h' → ag_J l lay M R K V Q Ex cc cs (pc + 3) L (v.toList ++ S) h') : ag_J l lay M R K V Q Ex cc cs pc L (ab_R i :: S) h := ag_callV (As := []) hR hd hm he rfl (Nat.le_of_ble_eq_true hS) hc kk
theorem ag_V2 {M' : ab_M} {idx ci i : Nat} {fl : List (Option Nat)} {a1 a2 : ab_V} {Q' : Option ab_V → ab_H → Prop} (hR : ag_fit R d cc cs) (hd : decode M.2.1 pc = .ok (.invokevirtual idx, 3)) (hm : ab_MV M.1.cls idx ci 2 M') (he : lay[i]? = some (.inr (.inr (ci, fl)))) (hS : Nat.ble (S.map ab_cat).sum 8 = true)
    (hc : ab_C l lay d M' [ab_R i, a1, a2] h Q') (kk : ∀ v h', Q' v h' → ag_J l lay M R K V Q Ex cc cs (pc + 3) L (v.toList ++ S) h') : ag_J l lay M R K V Q Ex cc cs pc L (a2 :: a1 :: ab_R i :: S) h := ag_callV (As := [a1, a2]) hR hd hm he rfl (Nat.le_of_ble_eq_true hS) hc kk
theorem ag_V3 {M' : ab_M} {idx ci i : Nat} {fl : List (Option Nat)} {a1 a2 a3 : ab_V} {Q' : Option ab_V → ab_H → Prop} (hR : ag_fit R d cc cs) (hd : decode M.2.1 pc = .ok (.invokevirtual idx, 3)) (hm : ab_MV M.1.cls idx ci 3 M') (he : lay[i]? = some (.inr (.inr (ci, fl)))) (hS : Nat.ble (S.map ab_cat).sum 8 = true)
    (hc : ab_C l lay d M' [ab_R i, a1, a2, a3] h Q') (kk : ∀ v h', Q' v h' → ag_J l lay M R K V Q Ex cc cs (pc + 3) L (v.toList ++ S) h') : ag_J l lay M R K V Q Ex cc cs pc L (a3 :: a2 :: a1 :: ab_R i :: S) h := ag_callV (As := [a1, a2, a3]) hR hd hm he rfl (Nat.le_of_ble_eq_true hS) hc kk
theorem ag_S1 {M' : ab_M} {idx : Nat} {a1 : ab_V} {Q' : Option ab_V → ab_H → Prop} (hR : ag_fit R d cc cs) (hd : decode M.2.1 pc = .ok (.invokestatic idx, 3)) (hm : ab_MS M.1.cls idx 1 M') (hS : Nat.ble (S.map ab_cat).sum 8 = true)
    (hc : ab_C l lay d M' [a1] h Q') (kk : ∀ v h', Q' v h' → ag_J l lay M R K V Q Ex cc cs (pc + 3) L (v.toList ++ S) h') : ag_J l lay M R K V Q Ex cc cs pc L (a1 :: S) h := ag_callS (As := [a1]) hR hd hm rfl (Nat.le_of_ble_eq_true hS) hc kk
theorem ag_S2 {M' : ab_M} {idx : Nat} {a1 a2 : ab_V} {Q' : Option ab_V → ab_H → Prop} (hR : ag_fit R d cc cs) (hd : decode M.2.1 pc = .ok (.invokestatic idx, 3)) (hm : ab_MS M.1.cls idx 2 M') (hS : Nat.ble (S.map ab_cat).sum 8 = true)
    (hc : ab_C l lay d M' [a1, a2] h Q') (kk : ∀ v h', Q' v h' → ag_J l lay M R K V Q Ex cc cs (pc + 3) L (v.toList ++ S) h') : ag_J l lay M R K V Q Ex cc cs pc L (a2 :: a1 :: S) h := ag_callS (As := [a1, a2]) hR hd hm rfl (Nat.le_of_ble_eq_true hS) hc kk
theorem ag_X1 {M' : ab_M} {idx k v : Nat} {a1 : ab_V} {Q' : Option ab_V → ab_H → Prop} {Ex' : String → ab_H → Prop} (hR : ag_fit R d (cc + k) (cs + v)) (hk : Nat.ble (cc + k) K = true) (hv : Nat.ble (cs + v) V = true) (hd : decode M.2.1 pc = .ok (.invokestatic idx, 3)) (hm : ab_MS M.1.cls idx 1 M') (hS : Nat.ble (S.map ab_cat).sum 8 = true)
    (hc : ag_C l lay d k v M' [a1] h Q' Ex') (kx : ∀ E h', Ex' E h' → Ex E h') (kk : ∀ v' h', Q' v' h' → ag_J l lay M R K V Q Ex (cc + k) (cs + v) (pc + 3) L (v'.toList ++ S) h') : ag_J l lay M R K V Q Ex cc cs pc L (a1 :: S) h := ag_callX (As := [a1]) hR (Nat.le_of_ble_eq_true hk) (Nat.le_of_ble_eq_true hv) hd hm rfl (Nat.le_of_ble_eq_true hS) hc kx kk
theorem ag_X2 {M' : ab_M} {idx k v : Nat} {a1 a2 : ab_V} {Q' : Option ab_V → ab_H → Prop} {Ex' : String → ab_H → Prop} (hR : ag_fit R d (cc + k) (cs + v)) (hk : Nat.ble (cc + k) K = true) (hv : Nat.ble (cs + v) V = true) (hd : decode M.2.1 pc = .ok (.invokestatic idx, 3)) (hm : ab_MS M.1.cls idx 2 M') (hS : Nat.ble (S.map ab_cat).sum 8 = true)
    (hc : ag_C l lay d k v M' [a1, a2] h Q' Ex') (kx : ∀ E h', Ex' E h' → Ex E h') (kk : ∀ v' h', Q' v' h' → ag_J l lay M R K V Q Ex (cc + k) (cs + v) (pc + 3) L (v'.toList ++ S) h') : ag_J l lay M R K V Q Ex cc cs pc L (a2 :: a1 :: S) h := ag_callX (As := [a1, a2]) hR (Nat.le_of_ble_eq_true hk) (Nat.le_of_ble_eq_true hv) hd hm rfl (Nat.le_of_ble_eq_true hS) hc kx kk
end AGV
section FC
variable {l : Launch} {d : Nat} {h : ab_H}
theorem ag_fits {d K V cc cs : Nat} (h1 : Nat.ble cc K = true) (h2 : Nat.ble cs V = true) : ag_fit (ag_rm (d + 1) K V) d cc cs := ⟨Nat.le_refl _, Nat.le_refl _, Nat.le_of_ble_eq_true h1, Nat.le_of_ble_eq_true h2⟩
theorem kX3_demand (hl9 : l.stackTraces = false) {z : Bool} : ag_C l layC (d + 6) 1 6 mX3_demand [ab_I (b2i z)] h (ab_qv fun h' => z = true ∧ h' = h) (fun E h' => E = xI ∧ z = false ∧ h' = h) := by
  refine ag_enter (by decide) (Nat.le_of_ble_eq_true rfl) ?_
  refine ag_iload_n (pc := 0) dX3_demand_0 rfl rfl ?_
  refine ag_if_ne (pc := 1) 14 dX3_demand_1 (by decide) (fun c => ?_) (fun c => ?_)
  · exact ag_retv (pc := 14) rfl rfl dX3_demand_14 rfl ⟨rfl, b2i_1.mp c, rfl⟩
  · exact ag_throw (pc := 4) (names := ag_sup) hl9 xI_fit ag_sup_fit xI_k xI_i (fun s t => t.1) xI_at dX3_demand_4 dX3_demand_7 dX3_demand_8 dX3_demand_10 dX3_demand_13 (show 2 + 3 < d + 6 by omega) (show 0 + (13 * (2 + 1) + 43) ≤ 40 * (d + 6) by omega) (Nat.le_refl 1) (Nat.le_refl 6) (Nat.le_refl 1) (Nat.le_refl 6) ⟨rfl, b2i_0.mp c, rfl⟩
def c_dr (v m : Int32) : Bool := decide (¬ v < 0) && decide (¬ m ≤ v)
theorem c_dr_w {v m n : Int32} (hm : m.toInt = n.toInt + 1) (h0 : ¬ m = 0) : c_dr v m = m_within v n := by
  rw [c_wb hm h0]
  unfold c_dr c_below
  rw [decide_eq_false h0, Bool.false_or]
theorem kX3_demandRange (hl9 : l.stackTraces = false) {v m : Int32} : ag_C l layC (d + 7) 1 6 mX3_demandRange [ab_I v, ab_I m] h (ab_qv fun h' => c_dr v m = true ∧ h' = h) (fun E h' => E = xI ∧ c_dr v m = false ∧ h' = h) := by
  refine ag_enter (by decide) (Nat.le_of_ble_eq_true rfl) ?_
  have tail : ∀ z : Bool, c_dr v m = z → ag_J l layC mX3_demandRange (ag_rm (d + 7) 1 6) 1 6 (ab_qv fun h' => c_dr v m = true ∧ h' = h) (fun E h' => E = xI ∧ c_dr v m = false ∧ h' = h) 0 0 14 [(0, ab_I v), (1, ab_I m)] [ab_I (b2i z)] h := fun z hz => by
    refine ag_X1 (pc := 14) (d := d + 6) (k := 1) (v := 6) (ag_fits rfl rfl) rfl rfl dX3_demandRange_14 msX3_45 rfl (kX3_demand hl9) (fun E h' q => ⟨q.1, hz.trans q.2.1, q.2.2⟩) (ag_kv fun h' q => ?_)
    obtain ⟨q1, rfl⟩ := q
    exact ag_retv (pc := 17) rfl rfl dX3_demandRange_17 rfl ⟨rfl, hz.trans q1, rfl⟩
  refine ag_iload_n (pc := 0) dX3_demandRange_0 rfl rfl ?_
  refine ag_if_lt (pc := 1) 13 dX3_demandRange_1 (by decide) (fun c => ?_) (fun c => ?_)
  · refine ag_iconst (pc := 13) (v := 0) dX3_demandRange_13 (by decide) ?_
    exact tail false (by unfold c_dr; rw [decide_eq_false (fun q => q c), Bool.false_and])
  · refine ag_iload_n (pc := 4) dX3_demandRange_4 rfl rfl ?_
    refine ag_iload_n (pc := 5) dX3_demandRange_5 rfl rfl ?_
    refine ag_icmp_ge (pc := 6) 13 dX3_demandRange_6 (by decide) (fun c2 => ?_) (fun c2 => ?_)
    · refine ag_iconst (pc := 13) (v := 0) dX3_demandRange_13 (by decide) ?_
      exact tail false (by unfold c_dr; rw [decide_eq_false (p := ¬ m ≤ v) (fun q => q c2), Bool.and_false])
    · refine ag_iconst (pc := 9) (v := 1) dX3_demandRange_9 (by decide) ?_
      refine ag_goto (pc := 10) 14 dX3_demandRange_10 (by decide) ?_
      exact tail true (by unfold c_dr; rw [decide_eq_true c, decide_eq_true c2]; rfl)
theorem c_dr8 {v : Int32} : c_dr v 8 = m_within v 7 := c_dr_w (by decide) (by decide)
theorem c_dr24 {v : Int32} : c_dr v 24 = m_within v 23 := c_dr_w (by decide) (by decide)
theorem m_within_in {v M : Int32} {n : Nat} (hM : M.toInt = n) (hn : n + 1 < 2 ^ 31) (h : m_within v M = true) : vp_in v (n + 1) := by
  obtain ⟨j, hj, rfl⟩ := m_within_of hM h
  exact vp_in_nI (by omega) hn
theorem c_dr_in {v m : Int32} (hq : c_dr v m = true) : ¬ v < 0 ∧ v < m := by
  unfold c_dr at hq
  rw [Bool.and_eq_true, decide_eq_true_eq, decide_eq_true_eq] at hq
  refine ⟨hq.1, ?_⟩
  have := hq.2
  rw [Int32.le_iff_toInt_le] at this
  rw [Int32.lt_iff_toInt_lt]
  omega
theorem kX3_number (hl9 : l.stackTraces = false) {i : Int32} : ag_C l layC (d + 8) 1 6 mX3_number [ab_R 0, ab_I i] h (ab_qi fun r h' => m_within i 7 = true ∧ r = h 4 i.toNatClampNeg ∧ h' = h) (fun E h' => E = xI ∧ m_within i 7 = false ∧ h' = h) := by
  refine ag_enter (by decide) (Nat.le_of_ble_eq_true rfl) ?_
  refine ag_iload_n (pc := 0) dX3_number_0 rfl rfl ?_
  refine ag_bipush (pc := 1) (v := 8) dX3_number_1 (by decide) ?_
  refine ag_X2 (pc := 3) (d := d + 7) (k := 1) (v := 6) (ag_fits rfl rfl) rfl rfl dX3_number_3 msX3_30 rfl (kX3_demandRange hl9) (fun E h' q => ⟨q.1, c_dr8.symm.trans q.2.1, q.2.2⟩) (ag_kv fun h' q => ?_)
  obtain ⟨q1, rfl⟩ := q
  rw [c_dr8] at q1
  refine ag_aload_n (pc := 6) dX3_number_6 rfl rfl ?_
  refine ag_getr (pc := 7) dX3_number_7 fX3_19 rfl rfl ?_
  refine ag_getr (pc := 10) dX3_number_10 fX3_102 rfl rfl ?_
  refine ag_iload_n (pc := 13) dX3_number_13 rfl rfl ?_
  refine ag_iald (pc := 14) dX3_number_14 rfl (m_within_in (n := 7) (by decide) (by decide) q1) ?_
  exact ag_reti (pc := 15) rfl rfl dX3_number_15 rfl ⟨_, rfl, q1, rfl, rfl⟩
theorem kX3_row (hl9 : l.stackTraces = false) {i : Int32} (hp : ¬ i < 0 → i < h 2 2 → vp_in i 16) : ag_C l layC (d + 8) 1 6 mX3_row [ab_R 0, ab_I i] h (ab_qi fun r h' => c_dr i (h 2 2) = true ∧ r = h 5 i.toNatClampNeg ∧ h' = h) (fun E h' => E = xI ∧ c_dr i (h 2 2) = false ∧ h' = h) := by
  refine ag_enter (by decide) (Nat.le_of_ble_eq_true rfl) ?_
  refine ag_iload_n (pc := 0) dX3_row_0 rfl rfl ?_
  refine ag_aload_n (pc := 1) dX3_row_1 rfl rfl ?_
  refine ag_getr (pc := 2) dX3_row_2 fX3_19 rfl rfl ?_
  refine ag_geti (pc := 5) dX3_row_5 fX3_105 rfl rfl ?_
  refine ag_X2 (pc := 8) (d := d + 7) (k := 1) (v := 6) (ag_fits rfl rfl) rfl rfl dX3_row_8 msX3_30 rfl (kX3_demandRange hl9) (fun E h' q => q) (ag_kv fun h' q => ?_)
  obtain ⟨q1, rfl⟩ := q
  have q2 := c_dr_in q1
  refine ag_aload_n (pc := 11) dX3_row_11 rfl rfl ?_
  refine ag_getr (pc := 12) dX3_row_12 fX3_19 rfl rfl ?_
  refine ag_getr (pc := 15) dX3_row_15 fX3_108 rfl rfl ?_
  refine ag_iload_n (pc := 18) dX3_row_18 rfl rfl ?_
  refine ag_iald (pc := 19) dX3_row_19 rfl (hp q2.1 q2.2) ?_
  exact ag_reti (pc := 20) rfl rfl dX3_row_20 rfl ⟨_, rfl, q1, rfl, rfl⟩
theorem kX3_log (hl9 : l.stackTraces = false) {i : Int32} (hp : ¬ i < 0 → i < h 2 6 → vp_in i 100) : ag_C l layC (d + 8) 1 6 mX3_log [ab_R 0, ab_I i] h (ab_qi fun r h' => c_dr i (h 2 6) = true ∧ r = h 8 i.toNatClampNeg ∧ h' = h) (fun E h' => E = xI ∧ c_dr i (h 2 6) = false ∧ h' = h) := by
  refine ag_enter (by decide) (Nat.le_of_ble_eq_true rfl) ?_
  refine ag_iload_n (pc := 0) dX3_log_0 rfl rfl ?_
  refine ag_aload_n (pc := 1) dX3_log_1 rfl rfl ?_
  refine ag_getr (pc := 2) dX3_log_2 fX3_19 rfl rfl ?_
  refine ag_geti (pc := 5) dX3_log_5 fX3_82 rfl rfl ?_
  refine ag_X2 (pc := 8) (d := d + 7) (k := 1) (v := 6) (ag_fits rfl rfl) rfl rfl dX3_log_8 msX3_30 rfl (kX3_demandRange hl9) (fun E h' q => q) (ag_kv fun h' q => ?_)
  obtain ⟨q1, rfl⟩ := q
  have q2 := c_dr_in q1
  refine ag_aload_n (pc := 11) dX3_log_11 rfl rfl ?_
  refine ag_getr (pc := 12) dX3_log_12 fX3_19 rfl rfl ?_
  refine ag_getr (pc := 15) dX3_log_15 fX3_111 rfl rfl ?_
  refine ag_iload_n (pc := 18) dX3_log_18 rfl rfl ?_
  refine ag_iald (pc := 19) dX3_log_19 rfl (hp q2.1 q2.2) ?_
  exact ag_reti (pc := 20) rfl rfl dX3_log_20 rfl ⟨_, rfl, q1, rfl, rfl⟩
theorem kX3_clear (hl9 : l.stackTraces = false) {w : Int32} : ag_C l layC (d + 8) 1 6 mX3_clear [ab_R 0, ab_I w] h (ab_qv fun h' => c_clearX w = 0 ∧ h' = c_clearH h w) (fun E h' => E = xI ∧ c_clearX w = 1 ∧ h' = h) := by
  refine ag_enter (by decide) (Nat.le_of_ble_eq_true rfl) ?_
  refine ag_iload_n (pc := 0) dX3_clear_0 rfl rfl ?_
  refine ag_bipush (pc := 1) (v := 8) dX3_clear_1 (by decide) ?_
  refine ag_X2 (pc := 3) (d := d + 7) (k := 1) (v := 6) (ag_fits rfl rfl) rfl rfl dX3_clear_3 msX3_30 rfl (kX3_demandRange hl9) (fun E h' q => ⟨q.1, by unfold c_clearX; rw [← c_dr8, q.2.1]; rfl, q.2.2⟩) (ag_kv fun h' q => ?_)
  obtain ⟨q1, rfl⟩ := q
  rw [c_dr8] at q1
  obtain ⟨W, hW, rfl⟩ := m_within_of (n := 7) (by decide) q1
  have hW8 : W < 8 := by omega
  refine ag_aload_n (pc := 6) dX3_clear_6 rfl rfl ?_
  refine ag_getr (pc := 7) dX3_clear_7 fX3_11 rfl rfl ?_
  refine ag_iload_n (pc := 10) dX3_clear_10 rfl rfl ?_
  refine ag_aald (pc := 11) dX3_clear_11 rfl (c_js rfl hW8) (nI_pos (by omega)) ?_
  refine ag_V0 (pc := 12) (d := d + 7) (ag_fits rfl rfl) dX3_clear_12 mvX3_67 (layC_o W hW8) rfl (kX2_empty hW8) (ag_kv fun h2 q2 => ?_)
  subst q2
  exact ag_retv (pc := 15) rfl rfl dX3_clear_15 rfl ⟨rfl, by unfold c_clearX; rw [q1]; rfl, by unfold c_clearH; rw [q1, if_pos rfl, nI_clamp (by omega)]⟩
end FC
