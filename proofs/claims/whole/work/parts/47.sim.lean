/-! every NODE, every part: class beside reference -/
theorem s_node {N : Nat} {P : c_PT} (hP : ∀ n, N = n + 1 → s_SP n P) (hI : ∀ n, N = n + 1 → c_IP n P) : s_SN N P := by
  intro h g w z i q c o sc deep hw F hW hiq hqz R hco Q T h41 hat
  have A : s_At h g w z i q c o sc deep := ⟨hw, F, hW, hiq, hqz, R, Q, T, h41, hat⟩
  have hz := s_z F
  unfold c_node
  rcases s_c60 Q with ⟨b1, b2, b3⟩ | ⟨b1, b2, b3⟩
  · rw [if_pos b1, nI_clamp (by omega)]
    obtain ⟨n, rfl⟩ : ∃ n, N = n + 1 := by
      cases N with
      | zero => exact absurd b1 (c_cost0 hco)
      | succ n => exact ⟨n, rfl⟩
    have hP' := hP n rfl
    have hI' := hI n rfl
    have hco' := s_cost_pay Q b3 hco
    cases ho : m_opens (h (8 * w + 15) i) with
    | true =>
      rw [if_pos rfl]
      rcases z_op.mp ho with e | e | e | e | e
      · have := s_try hP' hI' A b3 hco' e
        rw [e]; exact this
      · have := s_loop hP' hI' A b3 hco' e
        rw [e]; exact this
      · have := s_scope hP' hI' A b3 hco' e
        rw [e]; exact this
      · have := s_mute hP' hI' A b3 hco' e
        rw [e]; exact this
      · have := s_if hP' hI' A b3 hco' e
        rw [e]; exact this
    | false =>
      rw [if_neg (by decide)]
      by_cases e20 : h (8 * w + 15) i = 20
      · have := s_call hP' hI' A b3 hco' e20
        rw [e20]; exact this
      · exact s_nodeP A b3 ho e20
  · rw [if_neg b1]
    exact s_stop A b2
theorem s_sim : ∀ n, s_SP n (cP n)
  | 0 => s_part (s_node (fun _ e => by cases e) (fun _ e => by cases e)) (fun _ e => by cases e)
  | n + 1 => s_part (s_node (fun k e => by cases e; exact s_sim n) (fun k e => by cases e; exact cP_post n)) (fun k e => by cases e; exact cP_post n)
