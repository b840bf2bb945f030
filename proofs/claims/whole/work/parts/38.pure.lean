/-! pure facts: what a block looks like, whichever row it is built in -/
def lyV (e : Nat → Nat) : Nat → Nat → Int32
  | 0, _ => 0
  | k + 1, q => if sE e k ≤ q ∧ q < sE e k + e k then nI k else lyV e k q
def swp (f : Nat → Int32) (a b : Nat) : Nat → Int32 := upd (upd f a (f b)) b (f a)
def shP (Z : Nat) (w : Int64) (f : Nat → Int32) : Nat → Int64 × (Nat → Int32)
  | 0 => (w, f)
  | k + 1 => (dwF (shP Z w f k).1 (nI (Z - k)), swp (shP Z w f k).2 (Z - 1 - k) (dN (dwF (shP Z w f k).1 (nI (Z - k))) (Z - k)))
theorem wrS_in {t a m j : Nat} {v : Int32} {S : zSt} (h1 : a ≤ j) (h2 : j < a + m) : (wrS t v a S m).2.2 t j = v := by
  induction m with
  | zero => omega
  | succ m ih =>
    rw [wrS]
    by_cases h : j = a + m
    · rw [h, rd_s]
    · rw [rd_j h]; exact ih (by omega)
theorem wrS_out {t a m j : Nat} {v : Int32} {S : zSt} (h : j < a ∨ a + m ≤ j) : (wrS t v a S m).2.2 t j = S.2.2 t j := by
  induction m with
  | zero => rfl
  | succ m ih => rw [wrS, rd_j (by omega)]; exact ih (by omega)
theorem laS_view {t F : Nat} {e : Nat → Nat} {S : zSt} {k q : Nat} (hq : q < sE e k) : (laS t F e S k).2.2 t (F + q) = lyV e k q := by
  induction k with
  | zero => exact absurd hq (Nat.not_lt_zero _)
  | succ k ih =>
    have h9 : sE e (k + 1) = sE e k + e k := rfl
    rw [laS, lyV]
    by_cases h : sE e k ≤ q ∧ q < sE e k + e k
    · rw [if_pos h]; exact wrS_in (by omega) (by omega)
    · rw [if_neg h, wrS_out (by omega)]; exact ih (by omega)
theorem laS_out {t F : Nat} {e : Nat → Nat} {S : zSt} {k j : Nat} (h : j < F ∨ F + sE e k ≤ j) : (laS t F e S k).2.2 t j = S.2.2 t j := by
  induction k with
  | zero => rfl
  | succ k ih =>
    have h9 : sE e (k + 1) = sE e k + e k := rfl
    rw [laS, wrS_out (by omega), ih (by omega)]
theorem wrS_L {t a m : Nat} {v : Int32} {S : zSt} : (wrS t v a S m).2.1 = S.2.1 := by
  induction m with
  | zero => rfl
  | succ m ih => exact ih
theorem laS_L {t F k : Nat} {e : Nat → Nat} {S : zSt} : (laS t F e S k).2.1 = S.2.1 := by
  induction k with
  | zero => rfl
  | succ k ih => rw [laS, wrS_L, ih]
theorem swp_in {f g : Nat → Int32} {Z a b : Nat} (ha : a < Z) (hb : b < Z) (h : ∀ q, q < Z → f q = g q) : ∀ q, q < Z → swp f a b q = swp g a b q := by
  intro q hq
  unfold swp
  by_cases h1 : q = b
  · rw [h1, pk_us, pk_us, h a ha]
  · rw [pk_un h1, pk_un h1]
    by_cases h2 : q = a
    · rw [h2, pk_us, pk_us, h b hb]
    · rw [pk_un h2, pk_un h2, h q hq]
theorem shD_view {tw jw t F Z : Nat} {S : zSt} {w : Int64} {f : Nat → Int32} (hw : S.2.1 tw jw = w) (hf : ∀ q, q < Z → S.2.2 t (F + q) = f q) {k : Nat} (hk : k + 1 ≤ Z) :
    (shD tw jw t F Z S k).2.1 tw jw = (shP Z w f k).1 ∧ ∀ q, q < Z → (shD tw jw t F Z S k).2.2 t (F + q) = (shP Z w f k).2 q := by
  induction k with
  | zero => exact ⟨hw, hf⟩
  | succ k ih =>
    obtain ⟨i1, i2⟩ := ih (by omega)
    have hd : dN (dwF (shP Z w f k).1 (nI (Z - k))) (Z - k) < Z - k := dN_lt (by omega)
    refine ⟨?_, ?_⟩
    · show (stL (shD tw jw t F Z S k) tw jw _).2.1 tw jw = dwF (shP Z w f k).1 (nI (Z - k))
      rw [rdL_s, i1]
    · intro q hq
      show (swS t (stL (shD tw jw t F Z S k) tw jw (dwF ((shD tw jw t F Z S k).2.1 tw jw) (nI (Z - k)))) (F + (Z - 1 - k)) (F + dN (dwF ((shD tw jw t F Z S k).2.1 tw jw) (nI (Z - k))) (Z - k))).2.2 t (F + q) = swp (shP Z w f k).2 (Z - 1 - k) (dN (dwF (shP Z w f k).1 (nI (Z - k))) (Z - k)) q
      rw [i1]
      generalize hB : dN (dwF (shP Z w f k).1 (nI (Z - k))) (Z - k) = b at hd
      show (stM (stM (shD tw jw t F Z S k) t (F + (Z - 1 - k)) ((shD tw jw t F Z S k).2.2 t (F + b))) t (F + b) ((shD tw jw t F Z S k).2.2 t (F + (Z - 1 - k)))).2.2 t (F + q) = _
      unfold swp
      by_cases h1 : q = b
      · rw [h1, rd_s, pk_us, i2 _ (by omega)]
      · rw [rd_j (by omega), pk_un h1]
        by_cases h2 : q = Z - 1 - k
        · rw [h2, rd_s, pk_us, i2 _ (by omega)]
        · rw [rd_j (by omega), pk_un h2, i2 q hq]
theorem shD_out {tw jw t F Z j : Nat} {S : zSt} {k : Nat} (hk : k + 1 ≤ Z) (hj : j < F ∨ F + Z ≤ j) : (shD tw jw t F Z S k).2.2 t j = S.2.2 t j := by
  induction k with
  | zero => rfl
  | succ k ih =>
    have hd : ∀ w, dN w (Z - k) < Z - k := fun w => dN_lt (by omega)
    have := hd (dwF ((shD tw jw t F Z S k).2.1 tw jw) (nI (Z - k)))
    rw [shD, swS, rd_j (by omega), rd_j (by omega)]
    exact ih (by omega)
theorem shD_L {tw jw t F Z u : Nat} {S : zSt} {k : Nat} (h : u ≠ tw) : (shD tw jw t F Z S k).2.1 u = S.2.1 u := by
  induction k with
  | zero => rfl
  | succ k ih =>
    show (stL (shD tw jw t F Z S k) tw jw _).2.1 u = _
    rw [stL_n h, ih]
theorem shD_Lj {tw jw t F Z j : Nat} {S : zSt} {k : Nat} (h : j ≠ jw) : (shD tw jw t F Z S k).2.1 tw j = S.2.1 tw j := by
  induction k with
  | zero => rfl
  | succ k ih =>
    show (stL (shD tw jw t F Z S k) tw jw _).2.1 tw j = _
    rw [rdL_j h, ih]
/-- the word behind a block, and its entries -/
def BW (w : Int64) (e : Nat → Nat) (A Z : Nat) : Int64 := (shP Z w (lyV e A) (Z - 1)).1
def BV (w : Int64) (e : Nat → Nat) (A Z q : Nat) : Int32 := (shP Z w (lyV e A) (Z - 1)).2 q
/-- how many of the first n are v -/
def cnV (f : Nat → Int32) (v : Int32) (n : Nat) : Nat := cntI (fun q => decide (f q = v)) n
theorem cntI_congr {p r : Nat → Bool} {n : Nat} (h : ∀ q, q < n → p q = r q) : cntI p n = cntI r n := by
  induction n with
  | zero => rfl
  | succ n ih => rw [cntI, cntI, ih (fun q hq => h q (by omega)), h n (by omega)]
/-- one place more that has it -/
theorem cntI_upd {p r : Nat → Bool} {n a : Nat} (ha : a < n) (h : ∀ q, q < n → q ≠ a → p q = r q) (hp : p a = true) (hr : r a = false) : cntI p n = cntI r n + 1 := by
  induction n with
  | zero => omega
  | succ n ih =>
    rw [cntI, cntI]
    by_cases e : a = n
    · subst e
      rw [if_pos hp, if_neg (by rw [hr]; decide), cntI_congr (fun q hq => h q (by omega) (by omega))]
    · rw [ih (by omega) (fun q hq hn => h q (by omega) hn), h n (by omega) (fun z => e z.symm)]
      omega
theorem cntI_set {p r : Nat → Bool} {n a : Nat} (ha : a < n) (h : ∀ q, q < n → q ≠ a → p q = r q) : cntI p n + (if r a = true then 1 else 0) = cntI r n + (if p a = true then 1 else 0) := by
  by_cases hp : p a = true
  · by_cases hr : r a = true
    · rw [if_pos hp, if_pos hr, cntI_congr (p := p) (r := r) (fun q hq => if z : q = a then (by rw [z, hp, hr]) else h q hq z)]
    · rw [if_pos hp, if_neg hr, cntI_upd ha h hp (by simpa using hr)]
  · by_cases hr : r a = true
    · rw [if_neg hp, if_pos hr, cntI_upd ha (fun q hq hn => (h q hq hn).symm) hr (by simpa using hp)]
    · rw [if_neg hp, if_neg hr, cntI_congr (p := p) (r := r) (fun q hq => if z : q = a then (by rw [z]; simp at hp hr; rw [hp, hr]) else h q hq z)]
theorem cnV_swp {f : Nat → Int32} {v : Int32} {n a b : Nat} (ha : a < n) (hb : b < n) : cnV (swp f a b) v n = cnV f v n := by
  unfold cnV
  by_cases hab : a = b
  · subst hab
    refine cntI_congr (fun q hq => ?_)
    unfold swp
    by_cases h : q = a
    · rw [h, pk_us]
    · rw [pk_un h, pk_un h]
  · have h1 := cntI_set (p := fun q => decide (upd f a (f b) q = v)) (r := fun q => decide (f q = v)) ha (fun q _ hn => by show decide (upd f a (f b) q = v) = _; rw [pk_un hn])
    have h2 := cntI_set (p := fun q => decide (swp f a b q = v)) (r := fun q => decide (upd f a (f b) q = v)) hb (fun q _ hn => by show decide (swp f a b q = v) = _; unfold swp; rw [pk_un hn])
    have e1 : upd f a (f b) a = f b := pk_us
    have e2 : swp f a b b = f a := pk_us
    have e3 : upd f a (f b) b = f b := pk_un (fun z => hab z.symm)
    simp only [e1, e2, e3] at h1 h2
    omega
theorem shP_cn {Z : Nat} {w : Int64} {f : Nat → Int32} {v : Int32} {k : Nat} (hk : k + 1 ≤ Z) : cnV (shP Z w f k).2 v Z = cnV f v Z := by
  induction k with
  | zero => rfl
  | succ k ih =>
    have hd : dN (dwF (shP Z w f k).1 (nI (Z - k))) (Z - k) < Z - k := dN_lt (by omega)
    show cnV (swp (shP Z w f k).2 (Z - 1 - k) (dN (dwF (shP Z w f k).1 (nI (Z - k))) (Z - k))) v Z = _
    rw [cnV_swp (by omega) (by omega), ih (by omega)]
theorem shP_val {Z : Nat} {w : Int64} {f : Nat → Int32} {P : Int32 → Prop} (hf : ∀ q, q < Z → P (f q)) {k : Nat} (hk : k + 1 ≤ Z) : ∀ q, q < Z → P ((shP Z w f k).2 q) := by
  induction k with
  | zero => exact hf
  | succ k ih =>
    have hd : dN (dwF (shP Z w f k).1 (nI (Z - k))) (Z - k) < Z - k := dN_lt (by omega)
    intro q hq
    show P (swp (shP Z w f k).2 (Z - 1 - k) (dN (dwF (shP Z w f k).1 (nI (Z - k))) (Z - k)) q)
    unfold swp
    by_cases h1 : q = dN (dwF (shP Z w f k).1 (nI (Z - k))) (Z - k)
    · rw [h1, pk_us]; exact ih (by omega) _ (by omega)
    · rw [pk_un h1]
      by_cases h2 : q = Z - 1 - k
      · rw [h2, pk_us]; exact ih (by omega) _ (by omega)
      · rw [pk_un h2]; exact ih (by omega) q hq
theorem lyV_val {e : Nat → Nat} {k q : Nat} (h : q < sE e k) : ∃ a, a < k ∧ lyV e k q = nI a := by
  induction k with
  | zero => exact absurd h (Nat.not_lt_zero _)
  | succ k ih =>
    have h9 : sE e (k + 1) = sE e k + e k := rfl
    rw [lyV]
    by_cases c : sE e k ≤ q ∧ q < sE e k + e k
    · rw [if_pos c]; exact ⟨k, by omega, rfl⟩
    · rw [if_neg c]
      obtain ⟨a, h1, h2⟩ := ih (by omega)
      exact ⟨a, by omega, h2⟩
theorem cntI_none {p : Nat → Bool} {n : Nat} (h : ∀ q, q < n → p q = false) : cntI p n = 0 := by
  induction n with
  | zero => rfl
  | succ n ih => rw [cntI, ih (fun q hq => h q (by omega)), h n (by omega)]; rfl
theorem cntI_add {p : Nat → Bool} {n m : Nat} : cntI p (n + m) = cntI p n + cntI (fun q => p (n + q)) m := by
  induction m with
  | zero => rfl
  | succ m ih => rw [← Nat.add_assoc, cntI, cntI, ih]; omega
theorem cntI_all {p : Nat → Bool} {n : Nat} (h : ∀ q, q < n → p q = true) : cntI p n = n := by
  induction n with
  | zero => rfl
  | succ n ih => rw [cntI, ih (fun q hq => h q (by omega)), h n (by omega)]; rfl
theorem lyV_cn {e : Nat → Nat} {k a : Nat} (ha : a < k) (hk : k ≤ 8) : cnV (lyV e k) (nI a) (sE e k) = e a := by
  unfold cnV
  induction k with
  | zero => omega
  | succ k ih =>
    have h9 : sE e (k + 1) = sE e k + e k := rfl
    rw [h9, cntI_add]
    have l1 : cntI (fun q => decide (lyV e (k + 1) q = nI a)) (sE e k) = cntI (fun q => decide (lyV e k q = nI a)) (sE e k) := cntI_congr (fun q hq => by show decide ((if sE e k ≤ q ∧ q < sE e k + e k then nI k else lyV e k q) = nI a) = _; rw [if_neg (by omega)])
    have l2 : ∀ q, q < e k → lyV e (k + 1) (sE e k + q) = nI k := fun q hq => by show (if sE e k ≤ sE e k + q ∧ sE e k + q < sE e k + e k then nI k else _) = _; rw [if_pos (by omega)]
    rw [l1]
    by_cases c : a = k
    · subst c
      rw [cntI_none (n := sE e a) (fun q hq => by
        obtain ⟨b, h1, h2⟩ := lyV_val hq
        show decide (lyV e a q = nI a) = false
        rw [h2]
        exact decide_eq_false (fun z => absurd ((nI_eq (by omega) (by omega)).mp z) (by omega))), cntI_all (fun q hq => by show decide (lyV e (a + 1) (sE e a + q) = nI a) = true; rw [l2 q hq]; exact decide_eq_true rfl), Nat.zero_add]
    · rw [ih (by omega) (by omega), cntI_none (n := e k) (fun q hq => by show decide (lyV e (k + 1) (sE e k + q) = nI a) = false; rw [l2 q hq]; exact decide_eq_false (fun z => absurd ((nI_eq (by omega) (by omega)).mp z) (by omega))), Nat.add_zero]
theorem BV_val {w : Int64} {e : Nat → Nat} {A Z q : Nat} (hs : sE e A = Z) (hZ : 1 ≤ Z) (hq : q < Z) : ∃ a, a < A ∧ BV w e A Z q = nI a := by
  refine shP_val (P := fun v => ∃ a, a < A ∧ v = nI a) (fun q hq => ?_) (by omega) q hq
  exact lyV_val (by omega)
theorem BV_cn {w : Int64} {e : Nat → Nat} {A Z a : Nat} (hs : sE e A = Z) (hZ : 1 ≤ Z) (hA : A ≤ 8) (ha : a < A) : cnV (BV w e A Z) (nI a) Z = e a := by
  have := shP_cn (Z := Z) (w := w) (f := lyV e A) (v := nI a) (k := Z - 1) (by omega)
  show cnV (shP Z w (lyV e A) (Z - 1)).2 (nI a) Z = e a
  rw [this, ← hs, lyV_cn ha hA]
