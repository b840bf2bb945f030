/-! a draw: xorshift, and that three words running are never all out of range -/
def xs1 (w : Int64) : Int64 := w ^^^ (w <<< (((13) : Int32).toInt64 &&& 63))
def xs2 (w : Int64) : Int64 := w ^^^ (w.toUInt64 >>> (((7) : Int32).toInt64.toUInt64 &&& Int64.toUInt64 63)).toInt64
def xs3 (w : Int64) : Int64 := w ^^^ (w <<< (((17) : Int32).toInt64 &&& 63))
def xs (w : Int64) : Int64 := xs3 (xs2 (xs1 w))
def up33 (w : Int64) : Int64 := (w.toUInt64 >>> (((33) : Int32).toInt64.toUInt64 &&& Int64.toUInt64 63)).toInt64
def eN (n : Int32) : Int64 := 2147483648 / n.toInt64 * n.toInt64
def XB (x : BitVec 64) : BitVec 64 :=
  let a := x ^^^ (x <<< 13)
  let b := a ^^^ (a >>> 7)
  b ^^^ (b <<< 17)
theorem xs1_B (w : Int64) : (xs1 w).toBitVec = w.toBitVec ^^^ (w.toBitVec <<< 13) := by
  unfold xs1
  rw [Int64.toBitVec_xor, Int64.toBitVec_shiftLeft]
  have : (((((13) : Int32).toInt64 &&& 63) : Int64).toBitVec.smod 64) = (13 : BitVec 64) := by decide
  rw [this]
  rfl
theorem xs3_B (w : Int64) : (xs3 w).toBitVec = w.toBitVec ^^^ (w.toBitVec <<< 17) := by
  unfold xs3
  rw [Int64.toBitVec_xor, Int64.toBitVec_shiftLeft]
  have : (((((17) : Int32).toInt64 &&& 63) : Int64).toBitVec.smod 64) = (17 : BitVec 64) := by decide
  rw [this]
  rfl
theorem xs2_B (w : Int64) : (xs2 w).toBitVec = w.toBitVec ^^^ (w.toBitVec >>> 7) := by
  unfold xs2
  rw [Int64.toBitVec_xor]
  show w.toBitVec ^^^ (w.toUInt64 >>> (((7) : Int32).toInt64.toUInt64 &&& Int64.toUInt64 63)).toBitVec = _
  rw [UInt64.toBitVec_shiftRight]
  have : (((((7) : Int32).toInt64.toUInt64 &&& Int64.toUInt64 63) : UInt64).toBitVec % 64) = (7 : BitVec 64) := by decide
  rw [this]
  rfl
theorem xs_B (w : Int64) : (xs w).toBitVec = XB w.toBitVec := by
  unfold xs XB
  rw [xs3_B, xs2_B, xs1_B]
theorem up33_N (w : Int64) : up33 w = lN (w.toBitVec.toNat / 2 ^ 33) := by
  have h1 : (up33 w).toBitVec = w.toBitVec >>> 33 := by
    show (w.toUInt64 >>> (((33) : Int32).toInt64.toUInt64 &&& Int64.toUInt64 63)).toBitVec = _
    rw [UInt64.toBitVec_shiftRight]
    have : (((((33) : Int32).toInt64.toUInt64 &&& Int64.toUInt64 63) : UInt64).toBitVec % 64) = (33 : BitVec 64) := by decide
    rw [this]
    rfl
  apply Int64.toBitVec_inj.mp
  rw [h1]
  apply BitVec.eq_of_toNat_eq
  rw [BitVec.toNat_ushiftRight, Nat.shiftRight_eq_div_pow]
  show _ = w.toBitVec.toNat / 2 ^ 33 % 2 ^ 64
  rw [Nat.mod_eq_of_lt (Nat.lt_of_le_of_lt (Nat.div_le_self _ _) w.toBitVec.isLt)]
theorem up33_lt (w : Int64) : w.toBitVec.toNat / 2 ^ 33 < 2 ^ 31 := by
  have := w.toBitVec.isLt
  omega
theorem XB_xor (x y : BitVec 64) : XB (x ^^^ y) = XB x ^^^ XB y := by
  have h4 : ∀ a b c d : BitVec 64, (a ^^^ b) ^^^ (c ^^^ d) = (a ^^^ c) ^^^ (b ^^^ d) := by
    intro a b c d
    apply BitVec.eq_of_getLsbD_eq
    intro i hi
    simp only [BitVec.getLsbD_xor]
    cases a.getLsbD i <;> cases b.getLsbD i <;> cases c.getLsbD i <;> cases d.getLsbD i <;> rfl
  have hl : ∀ (k : Nat) (a b : BitVec 64), (a ^^^ b) ^^^ ((a ^^^ b) <<< k) = (a ^^^ (a <<< k)) ^^^ (b ^^^ (b <<< k)) := by
    intro k a b
    rw [BitVec.shiftLeft_xor_distrib, h4]
  have hr : ∀ (k : Nat) (a b : BitVec 64), (a ^^^ b) ^^^ ((a ^^^ b) >>> k) = (a ^^^ (a >>> k)) ^^^ (b ^^^ (b >>> k)) := by
    intro k a b
    rw [BitVec.ushiftRight_xor_distrib, h4]
  unfold XB
  dsimp only
  rw [hl 13 x y, hr 7, hl 17]
/-- the parity of the first k bits -/
def prK (y : BitVec 64) : Nat → Bool
  | 0 => false
  | k + 1 => Bool.xor (prK y k) (y.getLsbD k)
theorem prK_xor (x y : BitVec 64) (k : Nat) : prK (x ^^^ y) k = Bool.xor (prK x k) (prK y k) := by
  induction k with
  | zero => rfl
  | succ k ih =>
    show Bool.xor (prK (x ^^^ y) k) ((x ^^^ y).getLsbD k) = Bool.xor (Bool.xor (prK x k) (x.getLsbD k)) (Bool.xor (prK y k) (y.getLsbD k))
    rw [ih, BitVec.getLsbD_xor]
    cases prK x k <;> cases prK y k <;> cases x.getLsbD k <;> cases y.getLsbD k <;> rfl
def m3a : BitVec 64 := 0x42fe4b4000000000#64
def m3b : BitVec 64 := 0x8faa520000000000#64
def m3c : BitVec 64 := 0x4614000000000#64
def f3 (x : BitVec 64) : Bool := Bool.xor (prK (x &&& m3a) 64) (Bool.xor (prK (XB x &&& m3b) 64) (prK (XB (XB x) &&& m3c) 64))
theorem and_xor3 (x y m : BitVec 64) : (x ^^^ y) &&& m = (x &&& m) ^^^ (y &&& m) := by
  apply BitVec.eq_of_getLsbD_eq
  intro i hi
  simp only [BitVec.getLsbD_and, BitVec.getLsbD_xor]
  cases x.getLsbD i <;> cases y.getLsbD i <;> cases m.getLsbD i <;> rfl
theorem f3_xor (x y : BitVec 64) : f3 (x ^^^ y) = Bool.xor (f3 x) (f3 y) := by
  unfold f3
  rw [XB_xor, XB_xor, and_xor3, and_xor3, and_xor3, prK_xor, prK_xor, prK_xor]
  cases prK (x &&& m3a) 64 <;> cases prK (y &&& m3a) 64 <;> cases prK (XB x &&& m3b) 64 <;> cases prK (XB y &&& m3b) 64 <;> cases prK (XB (XB x) &&& m3c) 64 <;> cases prK (XB (XB y) &&& m3c) 64 <;> rfl
theorem f3_basis : ∀ i : Fin 64, f3 (1#64 <<< i.val) = false := by decide +kernel
/-- the first k bits alone -/
def loK (x : BitVec 64) : Nat → BitVec 64
  | 0 => 0#64
  | k + 1 => loK x k ^^^ (if x.getLsbD k then 1#64 <<< k else 0#64)
theorem f3_0 : f3 0#64 = false := by decide +kernel
theorem f3_lo (x : BitVec 64) (k : Nat) (hk : k ≤ 64) : f3 (loK x k) = false := by
  induction k with
  | zero => exact f3_0
  | succ k ih =>
    rw [loK, f3_xor, ih (by omega)]
    by_cases h : x.getLsbD k = true
    · rw [if_pos h, f3_basis ⟨k, by omega⟩]; rfl
    · rw [if_neg h, f3_0]; rfl
theorem loK_bit (x : BitVec 64) (k j : Nat) (hj : j < 64) : (loK x k).getLsbD j = (decide (j < k) && x.getLsbD j) := by
  induction k with
  | zero => simp [loK]
  | succ k ih =>
    rw [loK, BitVec.getLsbD_xor, ih]
    by_cases h : x.getLsbD k = true
    · rw [if_pos h, BitVec.getLsbD_shiftLeft]
      by_cases hjk : j = k
      · subst hjk
        simp [h, hj]
      · by_cases hlt : j < k
        · have h2 : j < k + 1 := by omega
          simp [hlt, h2, hj]
        · have h2 : ¬ j < k + 1 := by omega
          have h3 : ¬ (j - k = 0) := by omega
          simp [hlt, h2, hj, h3]
    · rw [if_neg h]
      by_cases hjk : j = k
      · subst hjk
        simp at h
        simp [h]
      · by_cases hlt : j < k
        · have h2 : j < k + 1 := by omega
          simp [hlt, h2]
        · have h2 : ¬ j < k + 1 := by omega
          simp [hlt, h2]
theorem f3_all (x : BitVec 64) : f3 x = false := by
  have h : loK x 64 = x := by
    apply BitVec.eq_of_getLsbD_eq
    intro i hi
    rw [loK_bit x 64 i hi]
    simp [hi]
  rw [← h]
  exact f3_lo x 64 (by omega)
/-- all ones from bit 38 on -/
def top1 (x : BitVec 64) : Prop := x.toNat / 2 ^ 38 = 2 ^ 26 - 1
theorem top1_bit {x : BitVec 64} (h : top1 x) {i : Nat} (h1 : 38 ≤ i) (h2 : i < 64) : x.getLsbD i = true := by
  have : (x.toNat / 2 ^ 38).testBit (i - 38) = true := by
    rw [h, Nat.testBit_two_pow_sub_one]
    simp
    omega
  rw [Nat.testBit_div_two_pow] at this
  rw [show i - 38 + 38 = i by omega] at this
  exact this
theorem m3_ge : ∀ i : Fin 64, (m3a.getLsbD i.val = true → 38 ≤ i.val) ∧ (m3b.getLsbD i.val = true → 38 ≤ i.val) ∧ (m3c.getLsbD i.val = true → 38 ≤ i.val) := by decide +kernel
theorem top1_and {x m : BitVec 64} (h : top1 x) (hm : ∀ i : Fin 64, m.getLsbD i.val = true → 38 ≤ i.val) : x &&& m = m := by
  apply BitVec.eq_of_getLsbD_eq
  intro i hi
  rw [BitVec.getLsbD_and]
  by_cases q : m.getLsbD i = true
  · rw [top1_bit h (hm ⟨i, hi⟩ q) hi]; simp
  · simp at q
    simp [q]
theorem no3B {x : BitVec 64} (h1 : top1 x) (h2 : top1 (XB x)) (h3 : top1 (XB (XB x))) : False := by
  have h := f3_all x
  unfold f3 at h
  rw [top1_and h1 (fun i => (m3_ge i).1), top1_and h2 (fun i => (m3_ge i).2.1), top1_and h3 (fun i => (m3_ge i).2.2)] at h
  exact absurd h (by decide +kernel)
theorem eN_ge : ∀ n : Fin 25, 1 ≤ n.val → lN (2147483648 - 23) ≤ eN (nI n.val) := by decide +kernel
/-- a word that is refused has all ones on top -/
theorem ref_top {w : Int64} {n : Nat} (h1 : 1 ≤ n) (h2 : n ≤ 24) (h : 0 ≤ lg_cmp (up33 w) (eN (nI n))) : top1 w.toBitVec := by
  rw [lg_cmp_ge, up33_N] at h
  have h3 := Int64.le_trans (eN_ge ⟨n, by omega⟩ h1) h
  rw [pk_lLE (by omega) (Nat.lt_trans (up33_lt w) (by omega))] at h3
  have := up33_lt w
  show w.toBitVec.toNat / 2 ^ 38 = 2 ^ 26 - 1
  omega
theorem no3 {w : Int64} {n : Nat} (h1 : 1 ≤ n) (h2 : n ≤ 24) (a : 0 ≤ lg_cmp (up33 w) (eN (nI n))) (b : 0 ≤ lg_cmp (up33 (xs w)) (eN (nI n))) : ¬ 0 ≤ lg_cmp (up33 (xs (xs w))) (eN (nI n)) := fun c => by
  have a' := ref_top h1 h2 a
  have b' := ref_top h1 h2 b
  have c' := ref_top h1 h2 c
  rw [xs_B] at b' c'
  rw [xs_B] at c'
  exact no3B a' b' c'
/-- the word that a draw below n ends with -/
def dwF (w : Int64) (n : Int32) : Int64 := if 0 ≤ lg_cmp (up33 (xs w)) (eN n) then (if 0 ≤ lg_cmp (up33 (xs (xs w))) (eN n) then xs (xs (xs w)) else xs (xs w)) else xs w
def dvF (w : Int64) (n : Int32) : Int32 := (up33 w - up33 w / n.toInt64 * n.toInt64).toInt32
def dN (w : Int64) (n : Nat) : Nat := w.toBitVec.toNat / 2 ^ 33 % n
theorem dvF_N {w : Int64} {n : Nat} (h1 : 1 ≤ n) (h2 : n ≤ 24) : dvF w (nI n) = nI (dN w n) := by
  unfold dvF dN
  rw [up33_N, nI_l (by omega), pk_lRem (Nat.lt_trans (up33_lt w) (by omega)) (by omega) (by omega), lN_i]
theorem dN_lt {w : Int64} {n : Nat} (h1 : 1 ≤ n) : dN w n < n := Nat.mod_lt _ h1
theorem stL_stL {S : zSt} {t j : Nat} {a b : Int64} : stL (stL S t j a) t j b = stL S t j b := by
  unfold stL
  refine Prod.ext rfl (Prod.ext ?_ rfl)
  funext u
  show (if u = t then vp_updL (if t = t then vp_updL (S.2.1 t) j a else S.2.1 t) j b else if u = t then vp_updL (S.2.1 t) j a else S.2.1 u) = if u = t then vp_updL (S.2.1 t) j b else S.2.1 u
  by_cases h : u = t
  · rw [if_pos h, if_pos h, if_pos rfl]
    funext q
    unfold vp_updL
    by_cases h2 : q = j
    · rw [if_pos h2, if_pos h2]
    · rw [if_neg h2, if_neg h2, if_neg h2]
  · rw [if_neg h, if_neg h, if_neg h]
