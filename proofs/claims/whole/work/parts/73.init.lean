/-! the start: a new class and a new reference are alike -/
def m_h0 : ab_H := fun i => match i with
  | 0 => fun k => if k = 7 then 8 else if k = 13 then 1 else 0
  | _ => fun _ => 0
def cn_adM (o : Nat) (q : Nat → Nat) : Nat → Nat := fun i => match i with
  | 0 => o
  | n + 1 => q n
def cn_mi (f : Nat → Option Nat → Value) : Nat → List (Option Nat) → List Value
  | _, [] => []
  | k, x :: l => f k x :: cn_mi f (k + 1) l
theorem cn_mi_eq (f : Nat → Option Nat → Value) : ∀ (l : List (Option Nat)) (k : Nat), l.mapIdx (fun i => f (k + i)) = cn_mi f k l
  | [], _ => rfl
  | x :: l, k => by
    rw [List.mapIdx_cons, cn_mi, ← cn_mi_eq f l (k + 1)]
    congr 1
    congr 1
    funext i
    rw [Nat.add_assoc, Nat.add_comm 1 i]
theorem cn_mi0 (f : Nat → Option Nat → Value) (l : List (Option Nat)) : l.mapIdx f = cn_mi f 0 l := by
  rw [← cn_mi_eq]
  congr 1
  funext i
  rw [Nat.zero_add]
theorem layM_len : layM.length = 26 := rfl
set_option maxRecDepth 100000 in
theorem cn_isM {cI cW : ClassId} {o : Nat} {q : Nat → Nat} : ∀ i, i < 26 → ∃ en, layM[i]? = some en ∧ (cn_w4 cI o q)[i]? = some (cn_adM o q i, ab_e cI cW (cn_adM o q) (m_h0 i) en)
  | 0, _ => ⟨_, rfl, by
    show (cn_w4 cI o q)[0]? = some (o, .inr (4, List.mapIdx (ab_f (cn_adM o q) (m_h0 0)) _))
    rw [cn_mi0]
    rfl⟩
  | 1, _ => ⟨_, rfl, rfl⟩
  | 2, _ => ⟨_, rfl, rfl⟩
  | 3, _ => ⟨_, rfl, rfl⟩
  | 4, _ => ⟨_, rfl, rfl⟩
  | 5, _ => ⟨_, rfl, rfl⟩
  | 6, _ => ⟨_, rfl, rfl⟩
  | 7, _ => ⟨_, rfl, rfl⟩
  | 8, _ => ⟨_, rfl, rfl⟩
  | 9, _ => ⟨_, rfl, rfl⟩
  | 10, _ => ⟨_, rfl, rfl⟩
  | 11, _ => ⟨_, rfl, rfl⟩
  | 12, _ => ⟨_, rfl, rfl⟩
  | 13, _ => ⟨_, rfl, rfl⟩
  | 14, _ => ⟨_, rfl, rfl⟩
  | 15, _ => ⟨_, rfl, rfl⟩
  | 16, _ => ⟨_, rfl, rfl⟩
  | 17, _ => ⟨_, rfl, rfl⟩
  | 18, _ => ⟨_, rfl, rfl⟩
  | 19, _ => ⟨_, rfl, rfl⟩
  | 20, _ => ⟨_, rfl, rfl⟩
  | 21, _ => ⟨_, rfl, rfl⟩
  | 22, _ => ⟨_, rfl, rfl⟩
  | 23, _ => ⟨_, rfl, rfl⟩
  | 24, _ => ⟨_, rfl, rfl⟩
  | 25, _ => ⟨_, rfl, rfl⟩
  | i + 26, h => absurd h (by omega)
theorem cn_finM {D : va_G} {cI cW : ClassId} {o : Nat} {q : Nat → Nat} {H : Heap} (hP : va_P D vwCl (cn_w4 cI o q) H) : va_P D vwCl (ab_w layM cI cW (cn_adM o q) m_h0) H := fun k x hx => by
  obtain ⟨k1, -⟩ := ab_w_in hx
  rw [layM_len] at k1
  obtain ⟨en, e1, e2⟩ := cn_isM (cI := cI) (cW := cW) (o := o) (q := q) k k1
  rw [ab_w_at e1] at hx
  cases hx
  exact hP _ _ e2
theorem cn_finMD {cI cW : ClassId} {A : Nat → Prop} {o : Nat} {q : Nat → Nat} (hD : va_D A (cn_w4 cI o q)) : ab_D layM (cn_adM o q) A := by
  refine ⟨fun i j hi hj e => ?_, fun i hi => ?_⟩
  · rw [layM_len] at hi hj
    obtain ⟨en, -, e2⟩ := cn_isM (cI := cI) (cW := cW) (o := o) (q := q) i hi
    obtain ⟨en', -, e3⟩ := cn_isM (cI := cI) (cW := cW) (o := o) (q := q) j hj
    exact hD.1 _ _ _ _ e2 e3 e
  · rw [layM_len] at hi
    obtain ⟨en, -, e2⟩ := cn_isM (cI := cI) (cW := cW) (o := o) (q := q) i hi
    exact hD.2 _ _ e2
theorem c_h0_hi {i : Nat} (h : 4 ≤ i) : c_h0 i = fun _ => 0 := by
  match i, h with
  | i + 4, _ => rfl
theorem m_h0_hi {i : Nat} (h : 1 ≤ i) : m_h0 i = fun _ => 0 := by
  match i, h with
  | i + 1, _ => rfl
theorem s_Y0 : s_Y c_h0 m_h0 := by
  have F : ∀ w, w < 8 → s_F c_h0 m_h0 w 0 := fun w _ => by
    refine ⟨by rw [c_h0_hi (by omega)]; rfl, rfl, fun i hi => absurd hi (by omega), ⟨fun k hk => absurd hk (by omega), by omega, fun i hi => absurd hi (by omega), fun i hi => absurd hi (by omega), fun i hi => absurd hi (by omega), fun i hi => absurd hi (by omega)⟩, by rw [c_h0_hi (by omega)]; rfl⟩
  have z0 : vp_in (0 : Int32) 8 := vp_in_nI (n := 0) (by decide) (by decide)
  have z4 : vp_in (0 : Int32) 4 := vp_in_nI (n := 0) (by decide) (by decide)
  have z60 : vp_in (0 : Int32) 60 := vp_in_nI (n := 0) (by decide) (by decide)
  refine ⟨⟨fun w hw => ⟨0, F w hw⟩, ⟨fun w hw => ⟨⟨0, by omega, (F w hw).1⟩, fun i hi => ?_⟩, ⟨0, by omega, rfl⟩, fun i h0 h1 => ?_, 0, by omega, rfl, fun j hj => absurd hj (by omega), Or.inl ⟨rfl, rfl⟩⟩, ⟨1, by omega, fun k _ => rfl, fun k _ => rfl, ⟨8, by omega, rfl, rfl⟩, ⟨0, by omega, rfl, rfl, fun k hk => absurd hk (by omega)⟩, ⟨rfl, rfl, rfl⟩, fun k _ => ⟨fun _ => rfl, fun q => absurd rfl q⟩, rfl, ⟨rfl, by omega⟩, fun j hj => absurd hj (by omega), fun i hi => ⟨0, by omega, ?_⟩, fun i j hi hj _ _ => ?_⟩, rfl, rfl, rfl, 0, by omega, rfl, rfl⟩, fun w hw => ⟨0, F w hw, trivial, Nat.zero_le _⟩⟩
  · rw [c_h0_hi (by omega), c_h0_hi (by omega), c_h0_hi (by omega), c_h0_hi (by omega), c_h0_hi (by omega)]
    have z9 : ¬ (0 : Int32) < 0 ∧ ¬ (9 : Int32) < 0 := by decide
    exact ⟨⟨fun _ => z0, fun _ => z0, fun _ => z4, fun _ => z9, fun _ => z9⟩, z60, z60⟩
  · have h2 : ¬ (8 : Int32) ≤ i := h1
    obtain ⟨j, hj, rfl⟩ := nI_of h0
    exact vp_in_nI (by have := (not_congr (nI_leI (a := 8) (by omega) hj)).mp h2; omega) (by omega)
  · unfold s_rf
    rw [if_pos (by omega)]
    rfl
  · unfold s_rf
    rw [if_pos (by omega)]
    rfl
