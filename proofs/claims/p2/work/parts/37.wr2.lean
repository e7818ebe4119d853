/-! the reference's write -/
theorem q_by (w : Int64) (j : Nat) : ((w.toUInt64 >>> ((8 * nI j).toInt64.toUInt64 &&& Int64.toUInt64 63)).toInt64).toInt32 &&& 255 = nb_by w j := by
  unfold nb_by
  rw [show (8 : Int32) * nI j = nI (8 * j) from pk_mul 8 j]
/-- what write changes: the text and how much there is of it -/
def q_wr (x y : nM) : Prop := (∀ k, k ≠ 1 → y.1 k = x.1 k) ∧ ∀ k, k ≠ 2 → y.2 k = x.2 k
theorem W_88 (w : Int64) : ∀ (n j t : Nat) (x : nM), x.1 1 = nI t → t + nb_cnt w j ≤ 180 → j ≤ 8 → j < n → p_write_88 n x w (nI j - 1) ∧ (k_write_88 n x w (nI j - 1)).2 = 1 ∧ (k_write_88 n x w (nI j - 1)).1.1 1 = nI (t + nb_cnt w j) ∧ q_wr x (k_write_88 n x w (nI j - 1)).1 := by
  intro n
  induction n with
  | zero => intro j t x _ _ _ h; omega
  | succ n ih =>
    intro j t x h1 ht hj hn
    rw [p_write_88, k_write_88]
    cases j with
    | zero =>
      rw [if_pos (show nI 0 - 1 < (0 : Int32) by decide)]
      exact ⟨⟨fun _ => trivial, fun q => absurd (by decide) q⟩, rfl, h1, fun _ _ => rfl, fun _ _ => rfl⟩
    | succ j =>
      rw [nI_pred, if_neg (nI_pos (show j < 2 ^ 31 by omega)), q_by, ← nz_sm]
      by_cases c : nb_by w j = 0
      · rw [if_pos c]
        obtain ⟨k1, k2, k3, k4⟩ := ih j t x h1 (by rw [nb_c0 c] at ht; exact ht) (by omega) (by omega)
        exact ⟨⟨fun q => absurd q (nI_pos (by omega)), fun _ => ⟨fun _ => k1, fun q => absurd c q⟩⟩, k2, by rw [nb_c0 c]; exact k3, k4⟩
      · rw [if_neg c]
        rw [nb_c1 c] at ht ⊢
        obtain ⟨k1, k2, k3, k4⟩ := ih j (t + 1) (nm_f (nm_a x 2 (x.1 1) (vp_nar .char (((nb_by w j).toUInt32 % 65536).toInt32))) 1 (x.1 1 + 1)) (by show x.1 1 + 1 = _; rw [h1, nI_1]) (by omega) (by omega) (by omega)
        refine ⟨⟨fun q => absurd q (nI_pos (by omega)), fun _ => ⟨fun q => absurd q c, fun _ => ⟨by rw [h1]; exact q_in (by omega) (by decide), k1⟩⟩⟩, k2, by rw [k3]; congr 1; omega, fun k hk => ?_, fun k hk => ?_⟩
        · rw [k4.1 k hk, q_f1, if_neg hk, q_a1]
        · rw [k4.2 k hk, q_f2, q_a2, if_neg hk]
theorem W_11 (w : Int64) : ∀ (n j c t : Nat) (x : nM), x.1 1 = nI t → t ≤ 180 → c + j ≤ 8 → nb_ok w 8 = nb_ok w j → nb_cnt w 8 = c + nb_cnt w j → j < n → p_write_11 n x w (nI c) (nI j - 1) ∧ (k_write_11 n x w (nI c) (nI j - 1)).2 = nb_wrn w t ∧ (k_write_11 n x w (nI c) (nI j - 1)).1.1 1 = nI (nb_tn w t) ∧ q_wr x (k_write_11 n x w (nI c) (nI j - 1)).1 := by
  intro n
  induction n with
  | zero => intro j c t x _ _ _ _ _ h; omega
  | succ n ih =>
    intro j c t x h1 ht hcj hok hcn hn
    have rf : q_wr x x := ⟨fun _ _ => rfl, fun _ _ => rfl⟩
    rw [p_write_11, k_write_11]
    cases j with
    | zero =>
      have e0 : x.1 1 + nI c = nI (t + c) := by rw [h1, nI_add]
      have ec : nb_cnt w 8 = c := hcn
      rw [if_pos (show nI 0 - 1 < (0 : Int32) by decide), e0]
      by_cases d : nI (t + c) ≤ 180
      · have hd : t + c ≤ 180 := (nI_leI (b := 180) (by omega) (by decide)).mp d
        rw [if_pos d]
        obtain ⟨k1, k2, k3, k4⟩ := W_88 w 300 8 t x h1 (by omega) (by omega) (by omega)
        rw [show nI 8 - 1 = (7 : Int32) by decide] at k1 k2 k3 k4
        obtain ⟨w1, w2⟩ := nb_w1 (n := t) (show nb_ok w 8 = true from hok) (by omega)
        exact ⟨⟨fun _ => ⟨fun _ => k1, fun q => absurd d q⟩, fun q => absurd (by decide) q⟩, by rw [k2]; exact w1, by rw [k3, ← w2], k4⟩
      · have hd : 180 < t + c := by
          rcases Nat.lt_or_ge 180 (t + c) with q | q
          · exact q
          · exact absurd (nI_le (b := 180) q (by decide)) d
        rw [if_neg d]
        obtain ⟨w1, w2⟩ := nb_w0 (w := w) (n := t) (Or.inr (by omega))
        exact ⟨⟨fun _ => ⟨fun q => absurd q d, fun _ => trivial⟩, fun q => absurd (by decide) q⟩, w1, by rw [← w2]; exact h1, rf⟩
    | succ j =>
      rw [nI_pred, if_neg (nI_pos (show j < 2 ^ 31 by omega)), q_by, ← nz_sm]
      by_cases d : nb_by w j = 0
      · rw [if_pos d, if_pos d]
        obtain ⟨k1, k2⟩ := ih j c t x h1 ht (by omega) (nb_good hok (Or.inl d)) (by rw [nb_c0 d] at hcn; exact hcn) (by omega)
        exact ⟨⟨fun q => absurd q (nI_pos (by omega)), fun _ => ⟨fun _ => ⟨fun _ => k1, fun q => absurd d q⟩, fun q => absurd d q⟩⟩, k2⟩
      · rw [if_neg d]
        by_cases e : nb_by w j < 32
        · rw [if_pos e]
          obtain ⟨w1, w2⟩ := nb_w0 (w := w) (n := t) (Or.inl (nb_badF hok d (Or.inl e)))
          exact ⟨⟨fun q => absurd q (nI_pos (by omega)), fun _ => ⟨fun q => absurd q d, fun _ => ⟨fun _ => trivial, fun q => absurd e q⟩⟩⟩, w1, by rw [← w2]; exact h1, rf⟩
        · rw [if_neg e]
          by_cases f : nb_by w j ≤ 126
          · rw [if_pos f, if_neg d, nI_1]
            obtain ⟨k1, k2⟩ := ih j (c + 1) t x h1 ht (by omega) (nb_good hok (Or.inr ⟨e, f⟩)) (by rw [nb_c1 d] at hcn; omega) (by omega)
            exact ⟨⟨fun q => absurd q (nI_pos (by omega)), fun _ => ⟨fun q => absurd q d, fun _ => ⟨fun q => absurd q e, fun _ => ⟨fun _ => ⟨fun q => absurd q d, fun _ => k1⟩, fun q => absurd f q⟩⟩⟩⟩, k2⟩
          · rw [if_neg f]
            obtain ⟨w1, w2⟩ := nb_w0 (w := w) (n := t) (Or.inl (nb_badF hok d (Or.inr f)))
            exact ⟨⟨fun q => absurd q (nI_pos (by omega)), fun _ => ⟨fun q => absurd q d, fun _ => ⟨fun q => absurd q e, fun _ => ⟨fun q => absurd q f, fun _ => trivial⟩⟩⟩⟩, w1, by rw [← w2]; exact h1, rf⟩
theorem nb_tn180 (w : Int64) {t : Nat} (h : t ≤ 180) : nb_tn w t ≤ 180 := by
  unfold nb_tn; split
  · rename_i h; exact h.2
  · exact h
theorem R_write {x : nM} {ty : Nat} (h : q_RI x ty) (w : Int64) : o_write x w ∧ (m_write x w).2 = nb_wrn w ty ∧ q_RI (m_write x w).1 (nb_tn w ty) := by
  unfold o_write m_write
  obtain ⟨k1, k2, k3, k4⟩ := W_11 w 300 8 0 ty (nm_f x 0 0) h.1 h.2.1 (by omega) rfl (by omega) (by omega)
  rw [show nI 8 - 1 = (7 : Int32) by decide, show nI 0 = (0 : Int32) from rfl] at k1 k2 k3 k4
  exact ⟨k1, k2, (h.f0 0).cg k3 (nb_tn180 w h.2.1) (fun k hk => k4.1 k (by omega)) (fun k hk => k4.2 k (by omega))⟩
