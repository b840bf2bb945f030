/-! what the changed states hold -/
section V9
theorem s9_1 {S : zSt} {i : Nat} : (st9 S i).1 = S.1 := rfl
theorem s9_L {S : zSt} {i : Nat} : (st9 S i).2.1 = S.2.1 := rfl
theorem s9_n {S : zSt} {i u : Nat} (h9 : u ≠ 9) (h : ¬ (u = 100 + i ∨ u = 110 + i ∨ u = 120 + i ∨ u = 130 + i ∨ u = 140 + i ∨ u = 150 + i ∨ (200 + 8 * i ≤ u ∧ u < 208 + 8 * i) ∨ (300 + 8 * i ≤ u ∧ u < 308 + 8 * i))) : (st9 S i).2.2 u = S.2.2 u := st9_n h9 h
theorem s9_z {S : zSt} {i u j : Nat} (h9 : u ≠ 9) (h : u = 100 + i ∨ u = 110 + i ∨ u = 120 + i ∨ u = 130 + i ∨ u = 140 + i ∨ u = 150 + i ∨ (200 + 8 * i ≤ u ∧ u < 208 + 8 * i) ∨ (300 + 8 * i ≤ u ∧ u < 308 + 8 * i)) : (st9 S i).2.2 u j = 0 := congrFun (st9_z h) j
theorem s9_y {S : zSt} {i : Nat} : (st9 S i).2.2 9 i = 1 := (congrFun st9_9 i).trans (if_pos rfl)
theorem s9_o {S : zSt} {i q : Nat} (h : q ≠ i) : (st9 S i).2.2 9 q = S.2.2 9 q := (congrFun st9_9 q).trans (if_neg h)
end V9
section KV
variable {S : zSt} {s r : Int32} {f n : Nat}
theorem putF_n {u : Nat} (h5 : u ≠ 5) (h6 : u ≠ 6) (h7 : u ≠ 7) : (putF S s r f n).2.2 u = S.2.2 u := by
  induction n with
  | zero => rfl
  | succ n ih => rw [putF, stM_n h7, stM_n h6, stM_n h5, ih]
theorem putF_1 : (putF S s r f n).1 = S.1 := by
  induction n with
  | zero => rfl
  | succ n ih => exact ih
theorem putF_L : (putF S s r f n).2.1 = S.2.1 := by
  induction n with
  | zero => rfl
  | succ n ih => exact ih
theorem putF_o {u q : Nat} (h : q < f ∨ f + n ≤ q) : (putF S s r f n).2.2 u q = S.2.2 u q := by
  induction n with
  | zero => rfl
  | succ n ih =>
    have e : ∀ (Q : zSt) (t : Nat) (v : Int32), (stM Q t (f + n) v).2.2 u q = Q.2.2 u q := fun Q t v => by
      by_cases ht : u = t
      · rw [ht, rd_j (by omega)]
      · rw [rd_n ht]
    rw [putF, e, e, e, ih (by omega)]
theorem putF_i {q : Nat} (h1 : f ≤ q) (h2 : q < f + n) : (putF S s r f n).2.2 5 q = s ∧ (putF S s r f n).2.2 6 q = r ∧ (putF S s r f n).2.2 7 q = 1 := by
  induction n with
  | zero => omega
  | succ n ih =>
    rw [putF]
    by_cases e : q = f + n
    · subst e
      simp (disch := omega) only [wOk, wT, mS, mwO, mwT, stL_2, stL_1, stM_1, stM_L, rd_s, rd_j, rd_n, stM_n, rdL_s, rdL_j, rdL_n, stL_n]
      refine ⟨?_, ?_, ?_⟩ <;> first | trivial | rfl
    · simp (disch := omega) only [wOk, wT, mS, mwO, mwT, stL_2, stL_1, stM_1, stM_L, rd_s, rd_j, rd_n, stM_n, rdL_s, rdL_j, rdL_n, stL_n]
      exact ih (by omega)
theorem kpM_1 : (kpM S s r f n).1 = S.1 := by
  induction n with
  | zero => rfl
  | succ n ih => exact ih
theorem kpM_L : (kpM S s r f n).2.1 = S.2.1 := by
  induction n with
  | zero => rfl
  | succ n ih => exact ih
theorem kpM_o {u q : Nat} (h : q < f ∨ f + n ≤ q) : (kpM S s r f n).2.2 u q = S.2.2 u q := by
  induction n with
  | zero => rfl
  | succ n ih =>
    have e : ∀ (Q : zSt) (t : Nat) (v : Int32), (stM Q t (f + n) v).2.2 u q = Q.2.2 u q := fun Q t v => by
      by_cases ht : u = t
      · rw [ht, rd_j (by omega)]
      · rw [rd_n ht]
    rw [kpM, e, e, ih (by omega)]
theorem kpM_i {q : Nat} (h1 : f ≤ q) (h2 : q < f + n) : (kpM S s r f n).2.2 22 q = s ∧ (kpM S s r f n).2.2 23 q = r := by
  induction n with
  | zero => omega
  | succ n ih =>
    rw [kpM]
    by_cases e : q = f + n
    · subst e
      simp (disch := omega) only [wOk, wT, mS, mwO, mwT, stL_2, stL_1, stM_1, stM_L, rd_s, rd_j, rd_n, stM_n, rdL_s, rdL_j, rdL_n, stL_n]
      refine ⟨?_, ?_⟩ <;> first | trivial | rfl
    · simp (disch := omega) only [wOk, wT, mS, mwO, mwT, stL_2, stL_1, stM_1, stM_L, rd_s, rd_j, rd_n, stM_n, rdL_s, rdL_j, rdL_n, stL_n]
      exact ih (by omega)
end KV
section VD
variable {S : zSt} {i n : Nat}
theorem dpF_n {u : Nat} (h : ¬ (200 + 8 * i ≤ u ∧ u < 200 + 8 * i + n)) : (dropF S i n).2.2 u = S.2.2 u := by
  induction n with
  | zero => rfl
  | succ n ih => rw [dropF, stM_n (by omega), stM_n (by omega), ih (by omega)]
theorem dropF_1 : (dropF S i n).1 = S.1 := by
  induction n with
  | zero => rfl
  | succ n ih => exact ih
theorem dropF_L : (dropF S i n).2.1 = S.2.1 := by
  induction n with
  | zero => rfl
  | succ n ih => exact ih
theorem dropF_0 {s j : Nat} (hs : s < n) (hj : j = 1 ∨ j = 2) : (dropF S i n).2.2 (200 + 8 * i + s) j = 0 := by
  induction n with
  | zero => omega
  | succ n ih =>
    rw [dropF]
    by_cases e : s = n
    · subst e
      rcases hj with rfl | rfl
      · simp (disch := omega) only [wOk, wT, mS, mwO, mwT, stL_2, stL_1, stM_1, stM_L, rd_s, rd_j, rd_n, stM_n, rdL_s, rdL_j, rdL_n, stL_n]
      · simp (disch := omega) only [wOk, wT, mS, mwO, mwT, stL_2, stL_1, stM_1, stM_L, rd_s, rd_j, rd_n, stM_n, rdL_s, rdL_j, rdL_n, stL_n]
    · simp (disch := omega) only [wOk, wT, mS, mwO, mwT, stL_2, stL_1, stM_1, stM_L, rd_s, rd_j, rd_n, stM_n, rdL_s, rdL_j, rdL_n, stL_n]
      exact ih (by omega)
theorem clR_1 : (clR S i n).1 = S.1 := by
  induction n with
  | zero => rfl
  | succ n ih => exact ih
theorem clR_L : (clR S i n).2.1 = S.2.1 := by
  induction n with
  | zero => rfl
  | succ n ih => exact ih
theorem clR_o {q : Nat} (h : q < 8 * i ∨ 8 * i + n ≤ q) : (clR S i n).2.2 30 q = S.2.2 30 q := by
  induction n with
  | zero => rfl
  | succ n ih => rw [clR, rd_j (by omega), ih (by omega)]
theorem clR_i {s : Nat} (h : s < n) : (clR S i n).2.2 30 (8 * i + s) = -1 := by
  induction n with
  | zero => omega
  | succ n ih =>
    rw [clR]
    by_cases e : s = n
    · rw [e, rd_s]
    · rw [rd_j (by omega), ih (by omega)]
theorem clP_1 : (clP S i n).1 = S.1 := by
  induction n with
  | zero => rfl
  | succ n ih => exact ih
theorem clP_L : (clP S i n).2.1 = S.2.1 := by
  induction n with
  | zero => rfl
  | succ n ih => exact ih
theorem clP_o {q : Nat} (h : q < 100 * i ∨ 100 * i + n ≤ q) : (clP S i n).2.2 25 q = S.2.2 25 q := by
  induction n with
  | zero => rfl
  | succ n ih => rw [clP, rd_j (by omega), ih (by omega)]
theorem clP_i {s : Nat} (h : s < n) : (clP S i n).2.2 25 (100 * i + s) = if S.2.2 25 (100 * i + s) = 2 then 3 else S.2.2 25 (100 * i + s) := by
  induction n with
  | zero => omega
  | succ n ih =>
    rw [clP]
    by_cases e : s = n
    · rw [e, rd_s]
    · rw [rd_j (by omega), ih (by omega)]
theorem frmF_n {u : Nat} {s : Int32} (h : u ≠ 7) : (frmF S s n).2.2 u = S.2.2 u := by
  induction n with
  | zero => rfl
  | succ n ih =>
    rw [frmF]
    split
    · rw [stM_n h, ih]
    · exact ih
theorem frmF_1 {s : Int32} : (frmF S s n).1 = S.1 := by
  induction n with
  | zero => rfl
  | succ n ih =>
    rw [frmF]
    split
    · exact ih
    · exact ih
theorem frmF_L {s : Int32} : (frmF S s n).2.1 = S.2.1 := by
  induction n with
  | zero => rfl
  | succ n ih =>
    rw [frmF]
    split
    · exact ih
    · exact ih
theorem frmF_7 {s : Int32} {q : Nat} : (frmF S s n).2.2 7 q = if q < n ∧ S.2.2 7 q = 2 ∧ S.2.2 5 q = s then 1 else S.2.2 7 q := by
  induction n with
  | zero => rw [if_neg (by omega)]; rfl
  | succ n ih =>
    rw [frmF]
    have e7 : ∀ y, n ≤ y → (frmF S s n).2.2 7 y = S.2.2 7 y := by
      intro y hy
      clear ih
      induction n with
      | zero => rfl
      | succ n ih2 =>
        rw [frmF]
        split
        · rw [rd_j (by omega)]; exact ih2 (by omega)
        · exact ih2 (by omega)
    by_cases e : q = n
    · subst e
      rw [e7 q (Nat.le_refl _), frmF_n (by decide)]
      by_cases hb : S.2.2 7 q = 2 ∧ S.2.2 5 q = s
      · rw [if_pos hb, rd_s, if_pos ⟨by omega, hb⟩]
      · rw [if_neg hb, if_neg (fun z => hb z.2), e7 q (Nat.le_refl _)]
    · have : (if q < n + 1 ∧ S.2.2 7 q = 2 ∧ S.2.2 5 q = s then (1 : Int32) else S.2.2 7 q) = if q < n ∧ S.2.2 7 q = 2 ∧ S.2.2 5 q = s then 1 else S.2.2 7 q := by
        by_cases hb : q < n ∧ S.2.2 7 q = 2 ∧ S.2.2 5 q = s
        · rw [if_pos hb, if_pos ⟨by omega, hb.2⟩]
        · rw [if_neg hb, if_neg (fun z => hb ⟨by omega, z.2⟩)]
      rw [this, ← ih]
      split
      · rw [rd_j e]
      · rfl
theorem rqF_n {sg ar : Nat → Nat} {u : Nat} (h1 : u ≠ 110 + i) (h2 : u < 50 ∨ 58 ≤ u) (hs : ∀ k, k < n → S.2.2 (110 + i) k = 1 → sg k < 8) : (rpF i sg ar S n).2.2 u = S.2.2 u := by
  induction n with
  | zero => rfl
  | succ n ih =>
    rw [rpF]
    by_cases e : S.2.2 (110 + i) n = 1
    · have := hs n (by omega) e
      rw [if_pos e, stM_n (by omega), stM_n h1, ih (fun k hk => hs k (by omega))]
    · rw [if_neg e, ih (fun k hk => hs k (by omega))]
theorem rpF_1 {sg ar : Nat → Nat} : (rpF i sg ar S n).1 = S.1 := by
  induction n with
  | zero => rfl
  | succ n ih =>
    rw [rpF]
    split
    · exact ih
    · exact ih
theorem rpF_L {sg ar : Nat → Nat} : (rpF i sg ar S n).2.1 = S.2.1 := by
  induction n with
  | zero => rfl
  | succ n ih =>
    rw [rpF]
    split
    · exact ih
    · exact ih
theorem rpF_110 {sg ar : Nat → Nat} {q : Nat} (hs : ∀ k, k < n → S.2.2 (110 + i) k = 1 → sg k < 8) : (rpF i sg ar S n).2.2 (110 + i) q = if q < n ∧ S.2.2 (110 + i) q = 1 then 2 else S.2.2 (110 + i) q := by
  induction n with
  | zero => rw [if_neg (by omega)]; rfl
  | succ n ih =>
    have ih := ih (fun k hk => hs k (by omega))
    rw [rpF]
    by_cases e : S.2.2 (110 + i) n = 1
    · have := hs n (by omega) e
      rw [if_pos e, rd_n (by omega)]
      by_cases eq : q = n
      · rw [eq, rd_s, if_pos ⟨by omega, e⟩]
      · rw [rd_j eq, ih]
        by_cases hb : q < n ∧ S.2.2 (110 + i) q = 1
        · rw [if_pos hb, if_pos ⟨by omega, hb.2⟩]
        · rw [if_neg hb, if_neg (fun z => hb ⟨by omega, z.2⟩)]
    · rw [if_neg e, ih]
      by_cases hb : q < n ∧ S.2.2 (110 + i) q = 1
      · rw [if_pos hb, if_pos ⟨by omega, hb.2⟩]
      · rw [if_neg hb, if_neg (fun z => hb ⟨by have : q ≠ n := (fun z2 => e (z2 ▸ z.2)); omega, z.2⟩)]
theorem rpP_1 : (rpP S i n).1 = S.1 := by
  induction n with
  | zero => rfl
  | succ n ih =>
    rw [rpP]
    split
    · exact ih
    · exact ih
theorem rpP_L : (rpP S i n).2.1 = S.2.1 := by
  induction n with
  | zero => rfl
  | succ n ih =>
    rw [rpP]
    split
    · exact ih
    · exact ih
theorem rpP_25 {q : Nat} : (rpP S i n).2.2 25 q = if 100 * i ≤ q ∧ q < 100 * i + n ∧ S.2.2 25 q = 2 then 1 else S.2.2 25 q := by
  induction n with
  | zero => rw [if_neg (by omega)]; rfl
  | succ n ih =>
    rw [rpP]
    by_cases e : S.2.2 25 (100 * i + n) = 2
    · rw [if_pos e]
      by_cases eq : q = 100 * i + n
      · rw [eq, rd_s, if_pos ⟨by omega, by omega, e⟩]
      · rw [rd_j eq, ih]
        by_cases hb : 100 * i ≤ q ∧ q < 100 * i + n ∧ S.2.2 25 q = 2
        · rw [if_pos hb, if_pos ⟨hb.1, by omega, hb.2.2⟩]
        · rw [if_neg hb, if_neg (fun z => hb ⟨z.1, by omega, z.2.2⟩)]
    · rw [if_neg e, ih]
      by_cases hb : 100 * i ≤ q ∧ q < 100 * i + n ∧ S.2.2 25 q = 2
      · rw [if_pos hb, if_pos ⟨hb.1, by omega, hb.2.2⟩]
      · rw [if_neg hb, if_neg (fun z => hb ⟨z.1, by have : q ≠ 100 * i + n := (fun z2 => e (z2 ▸ z.2.2)); omega, z.2.2⟩)]
theorem rkI_1 {r m : Nat} {gk : Nat → Nat} : (rkI S r m gk n).1 = S.1 := by
  induction n with
  | zero => rfl
  | succ n ih => exact ih
theorem rkI_L {r m : Nat} {gk : Nat → Nat} : (rkI S r m gk n).2.1 = S.2.1 := by
  induction n with
  | zero => rfl
  | succ n ih => exact ih
theorem rpR_1 {Z : Nat} {nx gk : Nat → Nat} : (rpR S i Z nx gk n).1 = S.1 := by
  induction n with
  | zero => rfl
  | succ n ih =>
    rw [rpR, stM_1]
    split
    · exact ih
    · rw [rkI_1]; exact ih
theorem rpR_L {Z : Nat} {nx gk : Nat → Nat} : (rpR S i Z nx gk n).2.1 = S.2.1 := by
  induction n with
  | zero => rfl
  | succ n ih =>
    rw [rpR, stM_L]
    split
    · exact ih
    · rw [rkI_L]; exact ih
theorem rpR_30i {Z s : Nat} {nx gk : Nat → Nat} (h : s < n) : (rpR S i Z nx gk n).2.2 30 (8 * i + s) = -1 := by
  induction n with
  | zero => omega
  | succ n ih =>
    rw [rpR]
    by_cases e : s = n
    · rw [e, rd_s]
    · rw [rd_j (by omega)]
      split
      · exact ih (by omega)
      · rw [rkI_n (by decide)]; exact ih (by omega)
theorem rpR_30o {Z q : Nat} {nx gk : Nat → Nat} (h : q < 8 * i ∨ 8 * i + n ≤ q) : (rpR S i Z nx gk n).2.2 30 q = S.2.2 30 q := by
  induction n with
  | zero => rfl
  | succ n ih =>
    rw [rpR, rd_j (by omega)]
    split
    · exact ih (by omega)
    · rw [rkI_n (by decide)]; exact ih (by omega)
theorem rkI_y {r m y : Nat} {gk : Nat → Nat} (h : ∃ j, j < n ∧ gk (24 * r + (m + j)) = y) : (rkI S r m gk n).2.2 24 y = 0 := by
  induction n with
  | zero => obtain ⟨j, hj, -⟩ := h; omega
  | succ n ih =>
    rw [rkI]
    by_cases e : gk (24 * r + (m + n)) = y
    · rw [e, rd_s]
    · rw [rd_j (Ne.symm e)]
      obtain ⟨j, hj, hy⟩ := h
      exact ih ⟨j, by have : j ≠ n := (fun z => e (z ▸ hy)); omega, hy⟩
theorem rkI_o {r m y : Nat} {gk : Nat → Nat} (h : ∀ j, j < n → gk (24 * r + (m + j)) ≠ y) : (rkI S r m gk n).2.2 24 y = S.2.2 24 y := by
  induction n with
  | zero => rfl
  | succ n ih => rw [rkI, rd_j (Ne.symm (h n (by omega))), ih (fun j hj => h j (by omega))]
theorem rkI_0 {r m y : Nat} {gk : Nat → Nat} (h : S.2.2 24 y = 0) : (rkI S r m gk n).2.2 24 y = 0 := by
  induction n with
  | zero => exact h
  | succ n ih =>
    rw [rkI]
    by_cases e : y = gk (24 * r + (m + n))
    · rw [e, rd_s]
    · rw [rd_j e, ih]
theorem rpR_24y {Z y : Nat} {nx gk : Nat → Nat} (h : ∃ s q, s < n ∧ ¬ S.2.2 30 (8 * i + s) < 0 ∧ nx (8 * i + s) ≤ q ∧ q < Z ∧ gk (24 * (8 * i + s) + q) = y) : (rpR S i Z nx gk n).2.2 24 y = 0 := by
  induction n with
  | zero => obtain ⟨s, q, hs, -⟩ := h; omega
  | succ n ih =>
    obtain ⟨s, q, h1, h2, h3, h4, h5⟩ := h
    rw [rpR, rd_n (by decide)]
    by_cases e : s = n
    · subst e
      rw [if_neg h2]
      exact rkI_y ⟨q - nx (8 * i + s), by omega, by rw [show nx (8 * i + s) + (q - nx (8 * i + s)) = q from by omega]; exact h5⟩
    · have := ih ⟨s, q, by omega, h2, h3, h4, h5⟩
      split
      · exact this
      · exact rkI_0 this
theorem rpR_24n {Z y : Nat} {nx gk : Nat → Nat} (h : ∀ s q, s < n → ¬ S.2.2 30 (8 * i + s) < 0 → nx (8 * i + s) ≤ q → q < Z → gk (24 * (8 * i + s) + q) ≠ y) : (rpR S i Z nx gk n).2.2 24 y = S.2.2 24 y := by
  induction n with
  | zero => rfl
  | succ n ih =>
    have ih := ih (fun s q hs => h s q (by omega))
    rw [rpR, rd_n (by decide)]
    by_cases e : S.2.2 30 (8 * i + n) < 0
    · rw [if_pos e, ih]
    · rw [if_neg e, rkI_o (fun j hj => h n _ (by omega) e (by omega) (by omega)), ih]
theorem gvM_1 {p k : Nat} {s a w : Int32} : (gvM S p s a k w).1 = S.1 := rfl
theorem gvM_L {p k : Nat} {s a w : Int32} : (gvM S p s a k w).2.1 = S.2.1 := rfl
theorem enF_1 {p : Nat} {s a w : Int32} : (enF S i p s a w).1 = S.1 := rfl
theorem enF_L {p : Nat} {s a w : Int32} : (enF S i p s a w).2.1 = S.2.1 := rfl
theorem enF_n {p u : Nat} {s a w : Int32} (h1 : u ≠ 110 + i) (h2 : u ≠ 120 + i) (h3 : u ≠ 130 + i) : (enF S i p s a w).2.2 u = S.2.2 u := by
  rw [enF, stM_n h3, stM_n h2, stM_n h1]
theorem usF_1 {k : Nat} {p : Int32} : (usF S k p).1 = S.1 := rfl
theorem usF_L {k : Nat} {p : Int32} : (usF S k p).2.1 = S.2.1 := rfl
theorem usF_n {k u : Nat} {p : Int32} (h1 : u ≠ 7) (h2 : u ≠ 8) : (usF S k p).2.2 u = S.2.2 u := by
  rw [usF, stM_n h2, stM_n h1]
end VD
