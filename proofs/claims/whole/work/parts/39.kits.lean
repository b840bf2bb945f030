/-! the c-th kit that is free, and what marking does to it -/
theorem nxt_spec {p : Nat → Bool} {m k : Nat} (h : k + m = 1000) : (nxt p m k = 1000 ∧ ∀ q, k ≤ q → q < 1000 → p q = false) ∨ (k ≤ nxt p m k ∧ nxt p m k < 1000 ∧ p (nxt p m k) = true ∧ ∀ q, k ≤ q → q < nxt p m k → p q = false) := by
  induction m generalizing k with
  | zero => exact Or.inl ⟨rfl, fun q h1 h2 => by omega⟩
  | succ m ih =>
    rw [nxt]
    by_cases c : p k = true
    · rw [if_pos c]
      exact Or.inr ⟨Nat.le_refl _, by omega, c, fun q h1 h2 => by omega⟩
    · rw [if_neg c]
      have c' : p k = false := by simpa using c
      rcases ih (k := k + 1) (by omega) with ⟨h1, h2⟩ | ⟨h1, h2, h3, h4⟩
      · refine Or.inl ⟨h1, fun q g1 g2 => ?_⟩
        by_cases z : q = k
        · rw [z]; exact c'
        · exact h2 q (by omega) g2
      · refine Or.inr ⟨by omega, h2, h3, fun q g1 g2 => ?_⟩
        by_cases z : q = k
        · rw [z]; exact c'
        · exact h4 q (by omega) g2
theorem nxt_congr {p r : Nat → Bool} {m k : Nat} (hm : k + m ≤ 1000) (h : ∀ q, q < 1000 → p q = r q) : nxt p m k = nxt r m k := by
  induction m generalizing k with
  | zero => rfl
  | succ m ih => rw [nxt, nxt, h k (by omega), ih (by omega)]
theorem kst_congr {p r : Nat → Bool} (h : ∀ q, q < 1000 → p q = r q) (c : Nat) : kst p c = kst r c := by
  induction c with
  | zero => rfl
  | succ c ih =>
    rw [kst, kst, ih]
    by_cases z : kst r c ≤ 1000
    · rw [nxt_congr (by omega) h]
    · rw [show 1000 - kst r c = 0 by omega]; rfl
theorem kth_congr {p r : Nat → Bool} (h : ∀ q, q < 1000 → p q = r q) (c : Nat) : kth p c = kth r c := by
  unfold kth
  rw [kst_congr h]
  by_cases z : kst r c ≤ 1000
  · rw [nxt_congr (by omega) h]
  · rw [show 1000 - kst r c = 0 by omega]; rfl
theorem cntI_gap {p : Nat → Bool} {a b : Nat} (hab : a ≤ b) (h : ∀ q, a ≤ q → q < b → p q = false) : cntI p b = cntI p a := by
  obtain ⟨d, rfl⟩ : ∃ d, b = a + d := ⟨b - a, by omega⟩
  rw [cntI_add, cntI_none (fun q hq => h (a + q) (by omega) (by omega)), Nat.add_zero]
theorem cntI_mono {p : Nat → Bool} {a b : Nat} (hab : a ≤ b) : cntI p a ≤ cntI p b := by
  obtain ⟨d, rfl⟩ : ∃ d, b = a + d := ⟨b - a, by omega⟩
  rw [cntI_add]
  omega
theorem kst_s {p : Nat → Bool} {c : Nat} : kst p (c + 1) = kth p c + 1 := rfl
theorem kst_cnt {p : Nat → Bool} (c : Nat) : (kst p c ≤ 1000 ∧ cntI p (kst p c) = c) ∨ (kst p c = 1001 ∧ cntI p 1000 < c) := by
  induction c with
  | zero => exact Or.inl ⟨Nat.zero_le _, rfl⟩
  | succ c ih =>
    rw [kst_s]
    rcases ih with ⟨h1, h2⟩ | ⟨h1, h2⟩
    · rcases nxt_spec (p := p) (m := 1000 - kst p c) (k := kst p c) (by omega) with ⟨g1, g2⟩ | ⟨g1, g2, g3, g4⟩
      · have e : kth p c = 1000 := g1
        refine Or.inr ⟨by omega, ?_⟩
        rw [cntI_gap (a := kst p c) h1 g2, h2]
        omega
      · have e : kth p c = nxt p (1000 - kst p c) (kst p c) := rfl
        rw [← e] at g1 g2 g3 g4
        refine Or.inl ⟨by omega, ?_⟩
        rw [cntI, if_pos g3, cntI_gap g1 g4, h2]
    · have e : kth p c = 1000 := by unfold kth; rw [show 1000 - kst p c = 0 by omega]; rfl
      exact Or.inr ⟨by omega, by omega⟩
theorem kth_iff {p : Nat → Bool} {c : Nat} : kth p c < 1000 ↔ c < cntI p 1000 := by
  have h := kst_cnt (p := p) (c + 1)
  rw [kst_s] at h
  have hle := kth_le (p := p) (c := c)
  constructor
  · intro hk
    rcases h with ⟨h1, h2⟩ | ⟨h1, h2⟩
    · have := cntI_mono (p := p) (a := kth p c + 1) (b := 1000) (by omega)
      omega
    · omega
  · intro hc
    rcases h with ⟨h1, h2⟩ | ⟨h1, h2⟩
    · omega
    · omega
theorem kth_lt {p : Nat → Bool} {c d : Nat} (h : c < d) (hd : kst p d ≤ 1000) : kth p c < kst p d ∧ kst p c ≤ 1000 := by
  induction d with
  | zero => omega
  | succ d ih =>
    rw [kst_s] at hd ⊢
    have hk : kst p d ≤ 1000 := by
      rcases kst_cnt (p := p) d with ⟨h1, -⟩ | ⟨h1, -⟩
      · exact h1
      · have e : kth p d = 1000 := by unfold kth; rw [show 1000 - kst p d = 0 by omega]; rfl
        omega
    by_cases z : c = d
    · subst z; exact ⟨by omega, hk⟩
    · obtain ⟨g1, g2⟩ := ih (by omega) hk
      refine ⟨?_, g2⟩
      rcases nxt_spec (p := p) (m := 1000 - kst p d) (k := kst p d) (by omega) with ⟨f1, -⟩ | ⟨f1, -⟩
      · have e : kth p d = 1000 := f1
        omega
      · have e : kth p d = nxt p (1000 - kst p d) (kst p d) := rfl
        omega
theorem kth_p {p : Nat → Bool} {c : Nat} (h : kth p c < 1000) : p (kth p c) = true := by
  have hk : kst p c ≤ 1000 := by
    rcases kst_cnt (p := p) c with ⟨h1, -⟩ | ⟨h1, -⟩
    · exact h1
    · have e : kth p c = 1000 := by unfold kth; rw [show 1000 - kst p c = 0 by omega]; rfl
      omega
  rcases nxt_spec (p := p) (m := 1000 - kst p c) (k := kst p c) (by omega) with ⟨f1, -⟩ | ⟨-, -, f3, -⟩
  · have e : kth p c = 1000 := f1
    omega
  · exact f3
theorem kth_below {p : Nat → Bool} {c k : Nat} (hk : kst p c ≤ 1000) (h : k < kst p c) (hp : p k = true) : ∃ d, d < c ∧ kth p d = k := by
  induction c with
  | zero => exact absurd h (Nat.not_lt_zero _)
  | succ c ih =>
    rw [kst_s] at hk h
    have hc : kst p c ≤ 1000 := by
      rcases kst_cnt (p := p) c with ⟨h1, -⟩ | ⟨h1, -⟩
      · exact h1
      · have e : kth p c = 1000 := by unfold kth; rw [show 1000 - kst p c = 0 by omega]; rfl
        omega
    by_cases z : k = kth p c
    · exact ⟨c, by omega, z.symm⟩
    · by_cases q : k < kst p c
      · obtain ⟨d, g1, g2⟩ := ih hc q
        exact ⟨d, by omega, g2⟩
      · rcases nxt_spec (p := p) (m := 1000 - kst p c) (k := kst p c) (by omega) with ⟨-, f2⟩ | ⟨-, -, -, f4⟩
        · have := f2 k (by omega) (by omega)
          rw [hp] at this
          exact nomatch this
        · have e : kth p c = nxt p (1000 - kst p c) (kst p c) := rfl
          have := f4 k (by omega) (by omega)
          rw [hp] at this
          exact nomatch this
theorem nxt_cut {p r : Nat → Bool} {n : Nat} (hn : n ≤ 1000) (h : ∀ k, k < 1000 → r k = (p k && decide (n ≤ k))) : nxt r 1000 0 = nxt p (1000 - n) n := by
  have t1 : ∀ k, k < 1000 → r k = true → p k = true ∧ n ≤ k := fun k hk hr => by
    rw [h k hk] at hr
    simpa using hr
  have t2 : ∀ k, k < 1000 → n ≤ k → p k = true → r k = true := fun k hk h1 h2 => by
    rw [h k hk, h2]
    simpa using h1
  rcases nxt_spec (p := r) (m := 1000) (k := 0) (by omega) with ⟨a1, a2⟩ | ⟨-, a2, a3, a4⟩
  · rcases nxt_spec (p := p) (m := 1000 - n) (k := n) (by omega) with ⟨b1, -⟩ | ⟨b1, b2, b3, -⟩
    · rw [a1, b1]
    · have := t2 _ b2 b1 b3
      rw [a2 _ (Nat.zero_le _) b2] at this
      exact nomatch this
  · obtain ⟨c1, c2⟩ := t1 _ a2 a3
    rcases nxt_spec (p := p) (m := 1000 - n) (k := n) (by omega) with ⟨-, b2⟩ | ⟨b1, b2, b3, b4⟩
    · rw [b2 _ c2 a2] at c1
      exact nomatch c1
    · have g1 : ¬ nxt r 1000 0 < nxt p (1000 - n) n := fun z => by
        rw [b4 _ c2 z] at c1
        exact nomatch c1
      have g2 : ¬ nxt p (1000 - n) n < nxt r 1000 0 := fun z => by
        have := t2 _ b2 b1 b3
        rw [a4 _ (Nat.zero_le _) z] at this
        exact nomatch this
      omega
theorem kth_0 {p : Nat → Bool} : kth p 0 = nxt p 1000 0 := rfl
theorem rkA_s {ar : Nat → Nat} {a j : Nat} : rkA ar a (j + 1) = rkA ar a j + (if ar j = a then 1 else 0) := by
  unfold rkA
  rw [cntI]
  by_cases h : ar j = a
  · rw [if_pos h, if_pos (by simpa using h)]
  · rw [if_neg h, if_neg (by simpa using h)]
theorem rkA_lt {ar : Nat → Nat} {a j k : Nat} (h : j < k) (hj : ar j = a) : rkA ar a j < rkA ar a k := by
  have h1 : rkA ar a (j + 1) = rkA ar a j + 1 := by rw [rkA_s, if_pos hj]
  have h2 : rkA ar a (j + 1) ≤ rkA ar a k := cntI_mono (by omega)
  omega
theorem rkA_ex {ar : Nat → Nat} {a k c : Nat} (h : c < rkA ar a k) : ∃ j, j < k ∧ ar j = a ∧ rkA ar a j = c := by
  induction k with
  | zero => exact absurd h (Nat.not_lt_zero _)
  | succ k ih =>
    rw [rkA_s] at h
    by_cases hk : ar k = a
    · rw [if_pos hk] at h
      by_cases z : c = rkA ar a k
      · exact ⟨k, by omega, hk, z.symm⟩
      · obtain ⟨j, g1, g2⟩ := ih (by omega)
        exact ⟨j, by omega, g2⟩
    · rw [if_neg hk] at h
      obtain ⟨j, g1, g2⟩ := ih (by omega)
      exact ⟨j, by omega, g2⟩
theorem rmS_24y {S : zSt} {r k q : Nat} {g : Nat → Nat} (h : ∃ j, j < k ∧ g j = q) : (rmS S r g k).2.2 24 q = 1 := by
  induction k with
  | zero => obtain ⟨j, hj, -⟩ := h; omega
  | succ k ih =>
    rw [rmS]
    by_cases z : q = g k
    · rw [z, rd_s]
    · rw [rd_j z, rd_n (by decide)]
      obtain ⟨j, h1, h2⟩ := h
      have : j ≠ k := fun e => z (by rw [← h2, e])
      exact ih ⟨j, by omega, h2⟩
theorem rmS_24n {S : zSt} {r k q : Nat} {g : Nat → Nat} (h : ∀ j, j < k → g j ≠ q) : (rmS S r g k).2.2 24 q = S.2.2 24 q := by
  induction k with
  | zero => rfl
  | succ k ih =>
    rw [rmS, rd_j (fun z => h k (by omega) z.symm), rd_n (by decide)]
    exact ih (fun j hj => h j (by omega))
/-- the reference's kit of an entry -/
def gM (S : zSt) (i : Nat) (ar : Nat → Nat) (q : Nat) : Nat := kth (pM S i (ar q)) (rkA ar (ar q) q)
theorem gM_next {S : zSt} {i r : Nat} {ar : Nat → Nat} {k : Nat} (har : ∀ q, q ≤ k → ar q < 8) (h : ∀ q, q < k → gM S i ar q < 1000) (hk : gM S i ar k < 1000) : nxt (pM (rmS S r (gM S i ar) k) i (ar k)) 1000 0 = gM S i ar k := by
  have hst : kst (pM S i (ar k)) (rkA ar (ar k) k) ≤ 1000 := by
    rcases kst_cnt (p := pM S i (ar k)) (rkA ar (ar k) k) with ⟨h1, -⟩ | ⟨h1, -⟩
    · exact h1
    · have e : gM S i ar k = 1000 := by unfold gM kth; rw [show 1000 - kst (pM S i (ar k)) (rkA ar (ar k) k) = 0 by omega]; rfl
      omega
  refine nxt_cut hst (fun x hx => ?_)
  by_cases hm : ∃ j, j < k ∧ gM S i ar j = x
  · have e1 : pM (rmS S r (gM S i ar) k) i (ar k) x = false := by
      unfold pM
      rw [rmS_24y hm]
      simp
    rw [e1]
    obtain ⟨j, hj, rfl⟩ := hm
    by_cases ha : ar j = ar k
    · have hlt : rkA ar (ar k) j < rkA ar (ar k) k := rkA_lt hj ha
      have e2 : gM S i ar j = kth (pM S i (ar k)) (rkA ar (ar k) j) := by unfold gM; rw [ha]
      have := (kth_lt hlt hst).1
      rw [e2]
      have hf : decide (kst (pM S i (ar k)) (rkA ar (ar k) k) ≤ kth (pM S i (ar k)) (rkA ar (ar k) j)) = false := decide_eq_false (by omega)
      rw [hf]
      simp
    · have hp := kth_p (h j hj)
      have hp' : pM S i (ar j) (gM S i ar j) = true := hp
      unfold pM at hp'
      have hp2 := (decide_eq_true_eq.mp hp').2.1
      have e3 : pM S i (ar k) (gM S i ar j) = false := by
        unfold pM
        refine decide_eq_false (fun z => ?_)
        have := hp2.symm.trans z.2.1
        have h1 := har j (by omega)
        have h2 := har k (Nat.le_refl _)
        exact ha ((nI_eq (by omega) (by omega)).mp this)
      rw [e3]
      rfl
  · have hm' : ∀ j, j < k → gM S i ar j ≠ x := fun j hj z => hm ⟨j, hj, z⟩
    have e1 : pM (rmS S r (gM S i ar) k) i (ar k) x = pM S i (ar k) x := by
      unfold pM
      rw [rmS_24n hm', rmS_n (by decide) (by decide), rmS_n (by decide) (by decide)]
    rw [e1]
    by_cases hp : pM S i (ar k) x = true
    · rw [hp]
      have : kst (pM S i (ar k)) (rkA ar (ar k) k) ≤ x := Nat.le_of_not_lt fun z => by
        obtain ⟨d, g1, g2⟩ := kth_below hst z hp
        obtain ⟨j, f1, f2, f3⟩ := rkA_ex g1
        refine hm' j f1 ?_
        unfold gM
        rw [f2, f3]
        exact g2
      simp [this]
    · have hp' : pM S i (ar k) x = false := by simpa using hp
      rw [hp']
      rfl
/-- there are kits for all entries just when each arm has enough -/
theorem gM_enough {S : zSt} {i Z A : Nat} {ar e : Nat → Nat} (har : ∀ q, q < Z → ar q < A) (hc : ∀ a, a < A → rkA ar a Z = e a) : (∀ q, q < Z → gM S i ar q < 1000) ↔ ∀ a, a < A → e a ≤ cntI (pM S i a) 1000 := by
  constructor
  · intro h a ha
    by_cases z : e a = 0
    · omega
    · obtain ⟨j, h1, h2, h3⟩ := rkA_ex (ar := ar) (a := a) (k := Z) (c := e a - 1) (by rw [hc a ha]; omega)
      have := kth_iff.mp (h j h1)
      rw [h2, h3] at this
      omega
  · intro h q hq
    refine kth_iff.mpr ?_
    have h1 : rkA ar (ar q) q < rkA ar (ar q) Z := rkA_lt hq rfl
    rw [hc _ (har q hq)] at h1
    have := h _ (har q hq)
    omega
theorem gM_inj {S : zSt} {i Z : Nat} {ar : Nat → Nat} (har : ∀ q, q < Z → ar q < 8) (h : ∀ q, q < Z → gM S i ar q < 1000) {q r : Nat} (hq : q < Z) (hr : r < Z) (he : gM S i ar q = gM S i ar r) : q = r := by
  have key : ∀ a b, a < b → b < Z → gM S i ar a ≠ gM S i ar b := by
    intro a b hab hb z
    by_cases ha : ar a = ar b
    · have hlt : rkA ar (ar b) a < rkA ar (ar b) b := rkA_lt hab ha
      have e2 : gM S i ar a = kth (pM S i (ar b)) (rkA ar (ar b) a) := by unfold gM; rw [ha]
      have hk : kst (pM S i (ar b)) (rkA ar (ar b) b) ≤ 1000 := by
        rcases kst_cnt (p := pM S i (ar b)) (rkA ar (ar b) b) with ⟨h1, -⟩ | ⟨h1, -⟩
        · exact h1
        · have e : gM S i ar b = 1000 := by unfold gM kth; rw [show 1000 - kst (pM S i (ar b)) (rkA ar (ar b) b) = 0 by omega]; rfl
          have := h b hb
          omega
      have h1 := (kth_lt hlt hk).1
      have h2 : kst (pM S i (ar b)) (rkA ar (ar b) b) ≤ gM S i ar b := by
        rcases nxt_spec (p := pM S i (ar b)) (m := 1000 - kst (pM S i (ar b)) (rkA ar (ar b) b)) (k := kst (pM S i (ar b)) (rkA ar (ar b) b)) (by omega) with ⟨f1, -⟩ | ⟨f1, -⟩
        · have e : gM S i ar b = 1000 := f1
          omega
        · exact f1
      omega
    · have p1 : pM S i (ar a) (gM S i ar a) = true := kth_p (h a (by omega))
      have p2 : pM S i (ar b) (gM S i ar b) = true := kth_p (h b hb)
      rw [← z] at p2
      unfold pM at p1 p2
      have e1 := (decide_eq_true_eq.mp p1).2.1
      have e2 := (decide_eq_true_eq.mp p2).2.1
      have := e1.symm.trans e2
      have g1 := har a (by omega)
      have g2 := har b hb
      exact ha ((nI_eq (by omega) (by omega)).mp this)
  by_cases c : q < r
  · exact absurd he (key q r c hr)
  · by_cases d : r < q
    · exact absurd he.symm (key r q d hq)
    · omega
