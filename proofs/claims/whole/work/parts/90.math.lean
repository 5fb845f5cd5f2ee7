/-! numbers alone: the loops of both sides come to the same -/
theorem jq_dn_sp {P : Nat → Bool} {a : Nat} : ∀ n r : Nat, ((∀ k, a < k → k ≤ n → P k = false) ∧ jq_dn P a n r = r) ∨ (a < jq_dn P a n r ∧ jq_dn P a n r ≤ n ∧ P (jq_dn P a n r) = true ∧ ∀ k, a < k → k < jq_dn P a n r → P k = false)
  | 0, r => Or.inl ⟨fun k h1 h2 => by omega, rfl⟩
  | n + 1, r => by
    simp only [jq_dn]
    by_cases h : a < n + 1
    · rw [if_pos h]
      by_cases hp : P (n + 1) = true
      · rw [if_pos hp]
        rcases jq_dn_sp (P := P) (a := a) n (n + 1) with ⟨q1, q2⟩ | ⟨q1, q2, q3, q4⟩
        · right
          rw [q2]
          exact ⟨h, Nat.le_refl _, hp, fun k z1 z2 => q1 k z1 (by omega)⟩
        · exact Or.inr ⟨q1, by omega, q3, q4⟩
      · have hp' : P (n + 1) = false := by simpa using hp
        rw [if_neg hp]
        rcases jq_dn_sp (P := P) (a := a) n r with ⟨q1, q2⟩ | ⟨q1, q2, q3, q4⟩
        · refine Or.inl ⟨fun k z1 z2 => ?_, q2⟩
          by_cases e : k = n + 1
          · rw [e]; exact hp'
          · exact q1 k z1 (by omega)
        · exact Or.inr ⟨q1, by omega, q3, q4⟩
    · rw [if_neg h]
      exact Or.inl ⟨fun k z1 z2 => by omega, rfl⟩
theorem jq_fst_sp {Q : Nat → Bool} : ∀ m k : Nat, (jq_fst Q m k = 0 ∧ ∀ j, k ≤ j → j < k + m → Q j = false) ∨ (k ≤ jq_fst Q m k ∧ jq_fst Q m k < k + m ∧ Q (jq_fst Q m k) = true ∧ ∀ j, k ≤ j → j < jq_fst Q m k → Q j = false)
  | 0, k => Or.inl ⟨rfl, fun j h1 h2 => by omega⟩
  | m + 1, k => by
    simp only [jq_fst]
    by_cases hp : Q k = true
    · rw [if_pos hp]
      exact Or.inr ⟨Nat.le_refl _, by omega, hp, fun j h1 h2 => by omega⟩
    · have hp' : Q k = false := by simpa using hp
      rw [if_neg hp]
      rcases jq_fst_sp (Q := Q) m (k + 1) with ⟨q1, q2⟩ | ⟨q1, q2, q3, q4⟩
      · refine Or.inl ⟨q1, fun j z1 z2 => ?_⟩
        by_cases e : j = k
        · rw [e]; exact hp'
        · exact q2 j (by omega) (by omega)
      · refine Or.inr ⟨by omega, by omega, q3, fun j z1 z2 => ?_⟩
        by_cases e : j = k
        · rw [e]; exact hp'
        · exact q4 j (by omega) z2
theorem jq_dn_fst {P Q : Nat → Bool} {a n : Nat} (h1 : ∀ k, a < k → k ≤ n → Q k = P k) (h2 : ∀ k, k ≤ a → Q k = false) (h3 : ∀ k, n < k → k ≤ 24 → Q k = false) (hn : n ≤ 24) : jq_dn P a n 0 = jq_fst Q 24 1 := by
  rcases jq_dn_sp (P := P) (a := a) n 0 with ⟨p1, p2⟩ | ⟨p1, p2, p3, p4⟩ <;> rcases jq_fst_sp (Q := Q) 24 1 with ⟨q1, q2⟩ | ⟨q1, q2, q3, q4⟩
  · rw [p2, q1]
  · exfalso
    generalize jq_fst Q 24 1 = r at *
    by_cases e1 : r ≤ a
    · rw [h2 r e1] at q3; cases q3
    · by_cases e2 : r ≤ n
      · rw [h1 r (by omega) e2, p1 r (by omega) e2] at q3; cases q3
      · rw [h3 r (by omega) (by omega)] at q3; cases q3
  · exfalso
    generalize jq_dn P a n 0 = r at *
    have := q2 r (by omega) (by omega)
    rw [h1 r p1 p2, p3] at this
    cases this
  · generalize jq_dn P a n 0 = r at *
    generalize jq_fst Q 24 1 = s at *
    by_cases e : r = s
    · exact e
    · exfalso
      by_cases e1 : s ≤ a
      · rw [h2 s e1] at q3; cases q3
      · by_cases e2 : s ≤ n
        · have qs : P s = true := by rw [← h1 s (by omega) e2]; exact q3
          by_cases e3 : r < s
          · have := q4 r (by omega) e3
            rw [h1 r p1 p2, p3] at this
            cases this
          · have := p4 s (by omega) (by omega)
            rw [qs] at this
            cases this
        · rw [h3 s (by omega) (by omega)] at q3; cases q3
theorem jq_upl_sp {P : Nat → Bool} : ∀ m k r : Nat, ((∀ j, k ≤ j → j < k + m → P j = false) ∧ jq_upl P m k r = r) ∨ (k ≤ jq_upl P m k r ∧ jq_upl P m k r < k + m ∧ P (jq_upl P m k r) = true ∧ ∀ j, jq_upl P m k r < j → j < k + m → P j = false)
  | 0, k, r => Or.inl ⟨fun j h1 h2 => by omega, rfl⟩
  | m + 1, k, r => by
    simp only [jq_upl]
    by_cases hp : P k = true
    · rw [if_pos hp]
      rcases jq_upl_sp (P := P) m (k + 1) k with ⟨q1, q2⟩ | ⟨q1, q2, q3, q4⟩
      · right
        rw [q2]
        exact ⟨Nat.le_refl _, by omega, hp, fun j z1 z2 => q1 j (by omega) (by omega)⟩
      · exact Or.inr ⟨by omega, by omega, q3, fun j z1 z2 => q4 j z1 (by omega)⟩
    · have hp' : P k = false := by simpa using hp
      rw [if_neg hp]
      rcases jq_upl_sp (P := P) m (k + 1) r with ⟨q1, q2⟩ | ⟨q1, q2, q3, q4⟩
      · refine Or.inl ⟨fun j z1 z2 => ?_, q2⟩
        by_cases e : j = k
        · rw [e]; exact hp'
        · exact q1 j (by omega) (by omega)
      · exact Or.inr ⟨by omega, by omega, q3, fun j z1 z2 => q4 j z1 (by omega)⟩
theorem jq_ld_sp {P : Nat → Bool} : ∀ k : Nat, (jq_ld P k = 0 ∧ ∀ j, 1 ≤ j → j ≤ k → P j = false) ∨ (1 ≤ jq_ld P k ∧ jq_ld P k ≤ k ∧ P (jq_ld P k) = true ∧ ∀ j, jq_ld P k < j → j ≤ k → P j = false)
  | 0 => Or.inl ⟨rfl, fun j h1 h2 => by omega⟩
  | k + 1 => by
    simp only [jq_ld]
    by_cases hp : P (k + 1) = true
    · rw [if_pos hp]
      exact Or.inr ⟨by omega, Nat.le_refl _, hp, fun j h1 h2 => by omega⟩
    · have hp' : P (k + 1) = false := by simpa using hp
      rw [if_neg hp]
      rcases jq_ld_sp (P := P) k with ⟨q1, q2⟩ | ⟨q1, q2, q3, q4⟩
      · refine Or.inl ⟨q1, fun j z1 z2 => ?_⟩
        by_cases e : j = k + 1
        · rw [e]; exact hp'
        · exact q2 j z1 (by omega)
      · refine Or.inr ⟨q1, by omega, q3, fun j z1 z2 => ?_⟩
        by_cases e : j = k + 1
        · rw [e]; exact hp'
        · exact q4 j z1 (by omega)
theorem jq_upl_ld {P Q : Nat → Bool} {n : Nat} (h1 : ∀ k, 1 ≤ k → k ≤ n → Q k = P k) (h3 : ∀ k, n < k → k ≤ 24 → Q k = false) (hn : n ≤ 24) : jq_upl P n 1 0 = jq_ld Q 24 := by
  rcases jq_upl_sp (P := P) n 1 0 with ⟨p1, p2⟩ | ⟨p1, p2, p3, p4⟩ <;> rcases jq_ld_sp (P := Q) 24 with ⟨q1, q2⟩ | ⟨q1, q2, q3, q4⟩
  · rw [p2, q1]
  · exfalso
    generalize jq_ld Q 24 = r at *
    by_cases e2 : r ≤ n
    · rw [h1 r q1 e2, p1 r q1 (by omega)] at q3; cases q3
    · rw [h3 r (by omega) (by omega)] at q3; cases q3
  · exfalso
    generalize jq_upl P n 1 0 = r at *
    have := q2 r p1 (by omega)
    rw [h1 r p1 (by omega), p3] at this
    cases this
  · generalize jq_upl P n 1 0 = r at *
    generalize jq_ld Q 24 = s at *
    by_cases e : r = s
    · exact e
    · exfalso
      by_cases e2 : s ≤ n
      · have qs : P s = true := by rw [← h1 s q1 e2]; exact q3
        by_cases e3 : r < s
        · have := p4 s e3 (by omega)
          rw [qs] at this
          cases this
        · have := q4 r (by omega) (by omega)
          rw [h1 r p1 (by omega), p3] at this
          cases this
      · rw [h3 s (by omega) (by omega)] at q3; cases q3
theorem jq_cnt_ex {P Q : Nat → Bool} : ∀ (m k r : Nat), (∀ j, k ≤ j → j < k + m → P j = Q j) → jq_cnt P m k r = jq_cnt Q m k r
  | 0, k, r, h => rfl
  | m + 1, k, r, h => by
    simp only [jq_cnt]
    rw [h k (Nat.le_refl _) (by omega)]
    exact jq_cnt_ex m (k + 1) _ (fun j h1 h2 => h j (by omega) (by omega))
theorem jq_cnt_no {Q : Nat → Bool} : ∀ (t k r : Nat), (∀ j, k ≤ j → j < k + t → Q j = false) → jq_cnt Q t k r = r
  | 0, k, r, h => rfl
  | t + 1, k, r, h => by
    simp only [jq_cnt]
    rw [h k (Nat.le_refl _) (by omega)]
    exact jq_cnt_no t (k + 1) _ (fun j h1 h2 => h j (by omega) (by omega))
theorem jq_cnt_add {Q : Nat → Bool} : ∀ (m t k r : Nat), jq_cnt Q (m + t) k r = jq_cnt Q t (k + m) (jq_cnt Q m k r)
  | 0, t, k, r => by simp [jq_cnt]
  | m + 1, t, k, r => by
    rw [show m + 1 + t = (m + t) + 1 by omega]
    simp only [jq_cnt]
    rw [jq_cnt_add m t (k + 1), show k + 1 + m = k + (m + 1) by omega]
theorem jq_cnt_24 {P Q : Nat → Bool} {n : Nat} (hn : n ≤ 24) (h1 : ∀ k, 1 ≤ k → k ≤ n → P k = Q k) (h3 : ∀ k, n < k → k ≤ 24 → Q k = false) : jq_cnt P n 1 0 = jq_cnt Q 24 1 0 := by
  have : jq_cnt Q 24 1 0 = jq_cnt Q (24 - n) (1 + n) (jq_cnt Q n 1 0) := by
    rw [← jq_cnt_add, show n + (24 - n) = 24 by omega]
  rw [this, jq_cnt_no _ _ _ (fun j z1 z2 => h3 j (by omega) (by omega))]
  exact jq_cnt_ex n 1 0 (fun j z1 z2 => h1 j z1 (by omega))
theorem jq_cnc_ex {P Q : Nat → Bool} {c e : Nat → Nat} : ∀ (m k : Nat) (M : Nat → Int32), (∀ j, k ≤ j → j < k + m → P j = Q j ∧ (Q j = true → c j = e j)) → jq_cnc P c m k M = jq_cnc Q e m k M
  | 0, k, M, h => rfl
  | m + 1, k, M, h => by
    simp only [jq_cnc]
    have hk := h k (Nat.le_refl _) (by omega)
    rw [hk.1]
    by_cases q : Q k = true
    · rw [if_pos q, if_pos q, hk.2 q]
      exact jq_cnc_ex m (k + 1) _ (fun j h1 h2 => h j (by omega) (by omega))
    · rw [if_neg q, if_neg q]
      exact jq_cnc_ex m (k + 1) _ (fun j h1 h2 => h j (by omega) (by omega))
theorem jq_cnc_no {Q : Nat → Bool} {e : Nat → Nat} : ∀ (t k : Nat) (M : Nat → Int32), (∀ j, k ≤ j → j < k + t → Q j = false) → jq_cnc Q e t k M = M
  | 0, k, M, h => rfl
  | t + 1, k, M, h => by
    simp only [jq_cnc]
    rw [h k (Nat.le_refl _) (by omega)]
    exact jq_cnc_no t (k + 1) _ (fun j h1 h2 => h j (by omega) (by omega))
theorem jq_cnc_add {Q : Nat → Bool} {e : Nat → Nat} : ∀ (m t k : Nat) (M : Nat → Int32), jq_cnc Q e (m + t) k M = jq_cnc Q e t (k + m) (jq_cnc Q e m k M)
  | 0, t, k, M => by simp [jq_cnc]
  | m + 1, t, k, M => by
    rw [show m + 1 + t = (m + t) + 1 by omega]
    simp only [jq_cnc]
    rw [jq_cnc_add m t (k + 1), show k + 1 + m = k + (m + 1) by omega]
theorem jq_cnc_24 {P Q : Nat → Bool} {c e : Nat → Nat} {n : Nat} {M : Nat → Int32} (hn : n ≤ 24) (h1 : ∀ k, 1 ≤ k → k ≤ n → P k = Q k ∧ (Q k = true → c k = e k)) (h3 : ∀ k, n < k → k ≤ 24 → Q k = false) : jq_cnc P c n 1 M = jq_cnc Q e 24 1 M := by
  have : jq_cnc Q e 24 1 M = jq_cnc Q e (24 - n) (1 + n) (jq_cnc Q e n 1 M) := by
    rw [← jq_cnc_add, show n + (24 - n) = 24 by omega]
  rw [this, jq_cnc_no _ _ _ (fun j z1 z2 => h3 j (by omega) (by omega))]
  exact jq_cnc_ex n 1 M (fun j z1 z2 => h1 j z1 (by omega))
/-- money after equal payments is equal where it was -/
theorem jq_cnc_at {Q : Nat → Bool} {e : Nat → Nat} : ∀ (m k : Nat) (M M' : Nat → Int32), (∀ j, k ≤ j → j < k + m → Q j = true → e j < 4) → (∀ u, u < 4 → M u = M' u) → ∀ u, u < 4 → jq_cnc Q e m k M u = jq_cnc Q e m k M' u
  | 0, k, M, M', h, hM => hM
  | m + 1, k, M, M', h, hM => by
    simp only [jq_cnc]
    by_cases q : Q k = true
    · rw [if_pos q, if_pos q]
      refine jq_cnc_at m (k + 1) _ _ (fun j h1 h2 => h j (by omega) (by omega)) (fun u hu => ?_)
      have he := h k (Nat.le_refl _) (by omega) q
      unfold va_up
      rw [hM (e k) he, hM u hu]
    · rw [if_neg q, if_neg q]
      exact jq_cnc_at m (k + 1) _ _ (fun j h1 h2 => h j (by omega) (by omega)) hM
theorem jq_any_iff {P : Nat → Bool} : ∀ (m k : Nat) (s : Bool), jq_any P m k s = true ↔ s = true ∨ ∃ j, k ≤ j ∧ j < k + m ∧ P j = true
  | 0, k, s => by simp only [jq_any]; exact ⟨Or.inl, fun h => h.elim id (fun ⟨j, h1, h2, _⟩ => by omega)⟩
  | m + 1, k, s => by
    simp only [jq_any]
    rw [jq_any_iff m (k + 1)]
    constructor
    · rintro (h | ⟨j, h1, h2, h3⟩)
      · rcases Bool.or_eq_true_iff.mp h with h | h
        · exact Or.inl h
        · exact Or.inr ⟨k, Nat.le_refl _, by omega, h⟩
      · exact Or.inr ⟨j, by omega, by omega, h3⟩
    · rintro (h | ⟨j, h1, h2, h3⟩)
      · exact Or.inl (by rw [h]; rfl)
      · by_cases e : j = k
        · subst e
          exact Or.inl (by rw [h3]; simp)
        · exact Or.inr ⟨j, by omega, by omega, h3⟩
theorem jq_an_iff {Q : Nat → Bool} : ∀ (m k : Nat), jq_an Q m k = true ↔ ∃ j, k ≤ j ∧ j < k + m ∧ Q j = true
  | 0, k => by
    simp only [jq_an]
    exact ⟨fun h => (by cases h), fun ⟨j, h1, h2, _⟩ => (by omega)⟩
  | m + 1, k => by
    simp only [jq_an]
    by_cases q : Q k = true
    · rw [if_pos q]
      exact ⟨fun _ => ⟨k, Nat.le_refl _, by omega, q⟩, fun _ => rfl⟩
    · rw [if_neg q, jq_an_iff m (k + 1)]
      constructor
      · rintro ⟨j, h1, h2, h3⟩
        exact ⟨j, by omega, by omega, h3⟩
      · rintro ⟨j, h1, h2, h3⟩
        by_cases e : j = k
        · subst e; exact absurd h3 q
        · exact ⟨j, by omega, by omega, h3⟩
theorem jq_sum_ex {s t : Nat → Int32} : ∀ (m k : Nat) (x : Int32), (∀ j, k ≤ j → j < k + m → s j = t j) → jq_sum s m k x = jq_sum t m k x
  | 0, k, x, h => rfl
  | m + 1, k, x, h => by
    simp only [jq_sum]
    rw [h k (Nat.le_refl _) (by omega)]
    exact jq_sum_ex m (k + 1) _ (fun j h1 h2 => h j (by omega) (by omega))
theorem jq_sum_no {t : Nat → Int32} : ∀ (m k : Nat) (x : Int32), (∀ j, k ≤ j → j < k + m → t j = 0) → jq_sum t m k x = x
  | 0, k, x, h => rfl
  | m + 1, k, x, h => by
    simp only [jq_sum]
    rw [h k (Nat.le_refl _) (by omega), Int32.add_zero]
    exact jq_sum_no m (k + 1) _ (fun j h1 h2 => h j (by omega) (by omega))
theorem jq_sum_add {t : Nat → Int32} : ∀ (m q k : Nat) (x : Int32), jq_sum t (m + q) k x = jq_sum t q (k + m) (jq_sum t m k x)
  | 0, q, k, x => by simp [jq_sum]
  | m + 1, q, k, x => by
    rw [show m + 1 + q = (m + q) + 1 by omega]
    simp only [jq_sum]
    rw [jq_sum_add m q (k + 1), show k + 1 + m = k + (m + 1) by omega]
theorem jq_sum_8 {s t : Nat → Int32} {cc : Nat} (h8 : cc ≤ 8) (h1 : ∀ k, k < cc → s k = t k) (h2 : ∀ k, cc ≤ k → k < 8 → t k = 0) : jq_sum s cc 0 0 = jq_sum t 8 0 0 := by
  have : jq_sum t 8 0 0 = jq_sum t (8 - cc) (0 + cc) (jq_sum t cc 0 0) := by
    rw [← jq_sum_add, show cc + (8 - cc) = 8 by omega]
  rw [this, jq_sum_no _ _ _ (fun j z1 z2 => h2 j (by omega) (by omega))]
  exact jq_sum_ex cc 0 0 (fun j z1 z2 => h1 j (by omega))
/-! the histories: the reference's fold and the class's two checks -/
theorem jq_snd_f {hid has dep : Nat → Bool} {sp : Nat → Nat → Bool} : ∀ (m k bf : Nat), jq_snd hid has dep sp m k false bf = false
  | 0, k, bf => rfl
  | m + 1, k, bf => by
    simp only [jq_snd, Bool.false_and]
    split
    · exact jq_snd_f m (k + 1) k
    · exact jq_snd_f m (k + 1) bf
/-- behind the first entry -/
theorem jq_snd_ch {hid has dep : Nat → Bool} {sp : Nat → Nat → Bool} : ∀ (m k bf : Nat), 0 < bf → bf < k → jq_snd hid has dep sp m k true bf = (jq_chn has sp m k bf && !(jq_an hid m k))
  | 0, k, bf, h0, hb => by simp [jq_snd, jq_chn, jq_an, h0]
  | m + 1, k, bf, h0, hb => by
    have hne : ¬ bf = 0 := by omega
    simp only [jq_snd, jq_chn, jq_an, Bool.true_and, hne, if_false]
    by_cases hh : hid k = true
    · rw [if_pos hh]
      simp only [hh, Bool.not_true, Bool.false_and, Bool.and_false]
      split
      · exact jq_snd_f m (k + 1) k
      · exact jq_snd_f m (k + 1) bf
    · have hh' : hid k = false := by simpa using hh
      rw [if_neg hh]
      simp only [hh', Bool.not_false, Bool.true_and]
      by_cases ha : has k = true
      · rw [if_pos ha, if_pos ⟨hb, ha⟩]
        by_cases hs : sp k bf = true
        · rw [if_pos hs, hs]
          exact jq_snd_ch m (k + 1) k (by omega) (by omega)
        · have hs' : sp k bf = false := by simpa using hs
          rw [if_neg hs, hs']
          simp only [Bool.false_and]
          exact jq_snd_f m (k + 1) k
      · rw [if_neg ha, if_neg (fun z => ha z.2)]
        exact jq_snd_ch m (k + 1) bf h0 (by omega)
/-- up to the first entry -/
theorem jq_snd_0 {hid has dep : Nat → Bool} {sp : Nat → Nat → Bool} : ∀ (m k : Nat), 1 ≤ k → jq_snd hid has dep sp m k true 0 = (!(jq_an hid m k) && (if jq_fst has m k = 0 then false else dep (jq_fst has m k) && jq_chn has sp m k (jq_fst has m k)))
  | 0, k, hk => by simp [jq_snd, jq_fst]
  | m + 1, k, hk => by
    simp only [jq_snd, jq_an, Bool.true_and, if_true]
    by_cases hh : hid k = true
    · rw [if_pos hh]
      simp only [hh, Bool.not_true, Bool.false_and]
      split
      · exact jq_snd_f m (k + 1) k
      · exact jq_snd_f m (k + 1) 0
    · have hh' : hid k = false := by simpa using hh
      rw [if_neg hh]
      simp only [hh', Bool.not_false, Bool.true_and]
      by_cases ha : has k = true
      · have e1 : jq_fst has (m + 1) k = k := by simp only [jq_fst]; rw [if_pos ha]
        rw [if_pos ha, e1, if_neg (show ¬ k = 0 by omega)]
        have hc : jq_chn has sp (m + 1) k k = jq_chn has sp m (k + 1) k := by
          simp only [jq_chn]
          rw [if_neg (fun z => absurd z.1 (Nat.lt_irrefl _))]
        rw [hc]
        by_cases hd : dep k = true
        · rw [hd, jq_snd_ch m (k + 1) k (by omega) (by omega)]
          simp [Bool.and_comm]
        · have hd' : dep k = false := by simpa using hd
          rw [hd']
          simp only [Bool.false_and, Bool.and_false]
          exact jq_snd_f m (k + 1) k
      · have e1 : jq_fst has (m + 1) k = jq_fst has m (k + 1) := by simp only [jq_fst]; rw [if_neg ha]
        rw [if_neg ha, e1, jq_snd_0 m (k + 1) (by omega)]
        congr 1
        by_cases h0 : jq_fst has m (k + 1) = 0
        · rw [if_pos h0, if_pos h0]
        · rw [if_neg h0, if_neg h0]
          have hc : jq_chn has sp (m + 1) k (jq_fst has m (k + 1)) = jq_chn has sp m (k + 1) (jq_fst has m (k + 1)) := by
            simp only [jq_chn]
            rw [if_neg (fun z => ha z.2)]
          rw [hc]
theorem jq_chn_ex {has has' : Nat → Bool} {sp sp' : Nat → Nat → Bool} : ∀ (m k a : Nat), (∀ j, k ≤ j → j < k + m → has j = has' j) → (∀ j i, sp j i = sp' j i) → jq_chn has sp m k a = jq_chn has' sp' m k a
  | 0, k, a, h, hs => rfl
  | m + 1, k, a, h, hs => by
    simp only [jq_chn]
    rw [h k (Nat.le_refl _) (by omega), hs k a, jq_chn_ex m (k + 1) k (fun j h1 h2 => h j (by omega) (by omega)) hs, jq_chn_ex m (k + 1) a (fun j h1 h2 => h j (by omega) (by omega)) hs]
theorem jq_chn_no {has : Nat → Bool} {sp : Nat → Nat → Bool} : ∀ (m k a : Nat), (∀ j, k ≤ j → j < k + m → has j = false) → jq_chn has sp m k a = true
  | 0, k, a, h => rfl
  | m + 1, k, a, h => by
    simp only [jq_chn]
    rw [if_neg (fun z => by rw [h k (Nat.le_refl _) (by omega)] at z; exact absurd z.2 (by decide))]
    exact jq_chn_no m (k + 1) a (fun j h1 h2 => h j (by omega) (by omega))
theorem jq_chn_24 {has has' : Nat → Bool} {sp sp' : Nat → Nat → Bool} : ∀ (m t k a : Nat), (∀ j, k ≤ j → j < k + m → has j = has' j) → (∀ j, k + m ≤ j → j < k + m + t → has' j = false) → (∀ j i, sp j i = sp' j i) → jq_chn has sp m k a = jq_chn has' sp' (m + t) k a
  | 0, t, k, a, h, h2, hs => by
    rw [Nat.zero_add, jq_chn_no t k a (fun j z1 z2 => h2 j (by omega) (by omega))]
    rfl
  | m + 1, t, k, a, h, h2, hs => by
    rw [show m + 1 + t = (m + t) + 1 by omega]
    simp only [jq_chn]
    rw [h k (Nat.le_refl _) (by omega), hs k a, jq_chn_24 m t (k + 1) k (fun j z1 z2 => h j (by omega) (by omega)) (fun j z1 z2 => h2 j (by omega) (by omega)) hs, jq_chn_24 m t (k + 1) a (fun j z1 z2 => h j (by omega) (by omega)) (fun j z1 z2 => h2 j (by omega) (by omega)) hs]
theorem jq_fst_24 {P Q : Nat → Bool} : ∀ (m t k : Nat), (∀ j, k ≤ j → j < k + m → P j = Q j) → (∀ j, k + m ≤ j → j < k + m + t → Q j = false) → jq_fst P m k = jq_fst Q (m + t) k
  | 0, t, k, h, h2 => by
    rw [Nat.zero_add]
    rcases jq_fst_sp (Q := Q) t k with ⟨q1, -⟩ | ⟨q1, q2, q3, -⟩
    · rw [q1]; rfl
    · have := h2 _ (by omega) (by omega)
      rw [q3] at this
      cases this
  | m + 1, t, k, h, h2 => by
    rw [show m + 1 + t = (m + t) + 1 by omega]
    simp only [jq_fst]
    rw [h k (Nat.le_refl _) (by omega), jq_fst_24 m t (k + 1) (fun j z1 z2 => h j (by omega) (by omega)) (fun j z1 z2 => h2 j (by omega) (by omega))]
