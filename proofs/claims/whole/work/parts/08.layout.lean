/-! what lies where: tags 0..11 the desk, 12 the law's out, 13..32 the reference, 40+s a stratum, 50+s its known, 60+s its list, 70+s the plan that it begins with, 80+s that plan's weights, 100+i a site, 110..150+i its rows, 200+8i+k a reserve, 300+8i+k its kits -/
abbrev zSt : Type := (Nat → Nat) × (Nat → Nat → Int64) × (Nat → Nat → Int32)
def stM (S : zSt) (t j : Nat) (v : Int32) : zSt := (S.1, S.2.1, fun u => if u = t then upd (S.2.2 t) j v else S.2.2 u)
def stL (S : zSt) (t j : Nat) (v : Int64) : zSt := (S.1, fun u => if u = t then vp_updL (S.2.1 t) j v else S.2.1 u, S.2.2)
def stP (S : zSt) (t v : Nat) : zSt := (fun u => if u = t then v else S.1 u, S.2.1, S.2.2)
/-- which plan a stratum has: 1 is the desk's -/
def plT (n t : Nat) : Nat := if n = 1 then 1 else t
/-- which tags are there: all but those of sites that were never opened (row 9 tells) -/
def zdom (o : Nat → Int32) (t : Nat) : Bool := decide (t ≤ 32) || (decide (40 ≤ t ∧ t < 48) || (decide (50 ≤ t ∧ t < 58) || (decide (60 ≤ t ∧ t < 68) || (decide (70 ≤ t ∧ t < 78) || (decide (80 ≤ t ∧ t < 88) || (decide (100 ≤ t ∧ t < 160) && decide (o ((t - 100) % 10) ≠ 0) || (decide (200 ≤ t ∧ t < 280) && decide (o ((t - 200) / 8) ≠ 0) || (decide (300 ≤ t ∧ t < 380) && decide (o ((t - 300) / 8) ≠ 0)))))))))
def zar (K : Nat → ClassId) (N : Nat) (f : Nat → Int32) : va_E := .inl (K 0, N, .inl f)
def bodyA (K : Nat → ClassId) (ad : Nat → Nat) (g : Nat → Int64) (f : Nat → Int32) (t : Nat) : va_E := match t with
  | 0 => .inr (0, [.ref (ad 1), .ref (ad 3), .ref (ad 4), .ref (ad 9), .ref (ad 10), .ref (ad 11), .int (f 6), .int (f 7)])
  | 1 => .inr (2, [.ref (ad 2), .int (f 1), .int (f 2), .int (f 3)])
  | 2 => .inl (K 0, 4, .inl f)
  | 3 => .inr (1, [.int (f 0), .int (f 1), .int (f 2)])
  | 4 => .inr (4, [.ref (ad 5), .ref (ad 6), .ref (ad 7), .ref (ad 8)])
  | 5 => .inl (K 0, 1000, .inl f)
  | 6 => .inl (K 0, 1000, .inl f)
  | 7 => .inl (K 0, 1000, .inl f)
  | 8 => .inl (K 0, 1000, .inl f)
  | 9 => .inl (K 3, 10, .inr (.inr (.inr (.inr (fun i => if i < 10 then (if f i = 0 then none else some (ad (100 + i))) else none)))))
  | 10 => .inl (K 4, 8, .inr (.inr (.inr (.inr (fun i => if i < 8 then some (ad (40 + i)) else none)))))
  | 11 => .inl (K 0, 24, .inl f)
  | 12 => .inl (K 1, 1, .inr (.inl g))
  | 13 => .inr (7, [.int (f 0), .int (f 1), .int (f 2), .int (f 3), .int (f 4), .int (f 5), .int (f 6), .long (g 7), .ref (ad 14), .int (f 9), .ref (ad 15), .ref (ad 16), .ref (ad 17), .ref (ad 18), .ref (ad 19), .ref (ad 20), .ref (ad 21), .ref (ad 22), .ref (ad 23), .ref (ad 24), .ref (ad 25), .ref (ad 26), .ref (ad 27), .ref (ad 28), .ref (ad 29), .ref (ad 30), .ref (ad 31), .ref (ad 32)])
  | 14 => .inl (K 0, 4, .inl f)
  | 15 => .inl (K 0, 4200, .inl f)
  | 16 => .inl (K 2, 100800, .inl f)
  | 17 => .inl (K 0, 8, .inl f)
  | 18 => .inl (K 1, 8, .inr (.inl g))
  | 19 => .inl (K 0, 8, .inl f)
  | 20 => .inl (K 0, 8, .inl f)
  | 21 => .inl (K 0, 10, .inl f)
  | 22 => .inl (K 0, 1000, .inl f)
  | 23 => .inl (K 0, 1000, .inl f)
  | 24 => .inl (K 0, 1000, .inl f)
  | 25 => .inl (K 0, 1000, .inl f)
  | 26 => .inl (K 0, 1000, .inl f)
  | 27 => .inl (K 0, 1000, .inl f)
  | 28 => .inl (K 0, 1000, .inl f)
  | 29 => .inl (K 0, 1000, .inl f)
  | 30 => .inl (K 0, 80, .inl f)
  | 31 => .inl (K 0, 80, .inl f)
  | _ => .inl (K 0, 1920, .inl f)
def bodyP (K : Nat → ClassId) (ad : Nat → Nat) (n : Nat) (f : Nat → Int32) (t : Nat) : va_E :=
  if t < 70 then .inl (K 0, n, .inl f)
  else if t < 80 then .inr (2, [.ref (ad (t + 10)), .int 0, .int 0, .int 0])
  else .inl (K 0, 4, .inl (fun _ => 0))
def bodyX (K : Nat → ClassId) (ad : Nat → Nat) (n : Nat) (g : Nat → Int64) (f : Nat → Int32) (t : Nat) : va_E :=
  if t < 40 then bodyA K ad g f t
  else if t < 50 then .inr (6, [.int (f 0), .ref (ad (t + 10)), .ref (ad (plT n (t + 30))), .ref (ad (t + 20)), .long (g 4), .int (f 5), .int (f 6), .int (f 7), .int (f 8)])
  else if t < 60 then .inl (K 0, 4, .inl f)
  else if t < 100 then bodyP K ad n f t
  else if t < 110 then .inr (5, [.ref (ad (t + 10)), .ref (ad (t + 20)), .ref (ad (t + 30)), .ref (ad (t + 40)), .ref (ad (t + 50)), .int (f 5)])
  else if t < 150 then .inl (K 0, 100, .inl f)
  else if t < 160 then .inl (K 5, 8, .inr (.inr (.inr (.inr (fun i => if i < 8 then some (ad (200 + 8 * (t - 150) + i)) else none)))))
  else if t < 300 then .inr (3, [.ref (ad (t + 100)), .int (f 1), .int (f 2)])
  else .inl (K 0, 24, .inl f)
def Lay (K : Nat → ClassId) (ad : Nat → Nat) (S : zSt) : zW := fun t => if zdom (S.2.2 9) t = true then some (bodyX K ad (S.1 t) (S.2.1 t) (S.2.2 t) t) else none
abbrev ztyl (K : Nat → ClassId) : List (ClassId × FieldType) := [(K 0, .int), (K 1, .long), (K 2, .byte), (K 3, .object R_Si), (K 4, .object R_St), (K 5, .object R_Re)]
section LY
variable {K : Nat → ClassId} {ad : Nat → Nat} {S : zSt}
theorem stM_s {t j : Nat} {v : Int32} : (stM S t j v).2.2 t = upd (S.2.2 t) j v := if_pos rfl
theorem stM_n {t u j : Nat} {v : Int32} (h : u ≠ t) : (stM S t j v).2.2 u = S.2.2 u := if_neg h
theorem Lay_in {t : Nat} (h : zdom (S.2.2 9) t = true) : Lay K ad S t = some (bodyX K ad (S.1 t) (S.2.1 t) (S.2.2 t) t) := if_pos h
/-- a number is written: the picture differs at that tag alone -/
theorem Lay_put {t j : Nat} {v : Int32} {e : va_E} (h9 : t ≠ 9) (he : Lay K ad (stM S t j v) t = some e) : ∀ u, Lay K ad (stM S t j v) u = z_up (Lay K ad S) t e u := by
  intro u
  by_cases h : u = t
  · subst h
    rw [z_up_s]
    exact he
  · rw [z_up_n h]
    show (if zdom ((stM S t j v).2.2 9) u = true then some (bodyX K ad _ _ ((stM S t j v).2.2 u) u) else none) = _
    rw [stM_n (Ne.symm h9), stM_n h]
    rfl
theorem Lay_putL {t j : Nat} {v : Int64} {e : va_E} (he : Lay K ad (stL S t j v) t = some e) : ∀ u, Lay K ad (stL S t j v) u = z_up (Lay K ad S) t e u := by
  intro u
  by_cases h : u = t
  · subst h
    rw [z_up_s]
    exact he
  · rw [z_up_n h]
    show (if zdom (S.2.2 9) u = true then some (bodyX K ad _ ((stL S t j v).2.1 u) (S.2.2 u) u) else none) = _
    have : (stL S t j v).2.1 u = S.2.1 u := if_neg h
    rw [this]
    rfl
/-- the strata -/
theorem Lay_St {s : Nat} (hs : s < 8) : Lay K ad S (40 + s) = some (.inr (6, [.int (S.2.2 (40 + s) 0), .ref (ad (50 + s)), .ref (ad (plT (S.1 (40 + s)) (70 + s))), .ref (ad (60 + s)), .long (S.2.1 (40 + s) 4), .int (S.2.2 (40 + s) 5), .int (S.2.2 (40 + s) 6), .int (S.2.2 (40 + s) 7), .int (S.2.2 (40 + s) 8)])) := by
  rw [Lay_in (by simp [zdom]; omega)]
  unfold bodyX
  rw [if_neg (by omega), if_pos (by omega), show 40 + s + 10 = 50 + s by omega, show 40 + s + 20 = 60 + s by omega, show 40 + s + 30 = 70 + s by omega]
theorem Lay_StT {s : Nat} (hs : s < 8) (hg : S.1 (40 + s) = 1) : Lay K ad S (40 + s) = some (.inr (6, [.int (S.2.2 (40 + s) 0), .ref (ad (50 + s)), .ref (ad 1), .ref (ad (60 + s)), .long (S.2.1 (40 + s) 4), .int (S.2.2 (40 + s) 5), .int (S.2.2 (40 + s) 6), .int (S.2.2 (40 + s) 7), .int (S.2.2 (40 + s) 8)])) := by
  rw [Lay_St hs, hg]
  rfl
theorem Lay_StW {s : Nat} (hs : s < 8) (hw : S.1 (40 + s) ≠ 1) : Lay K ad S (40 + s) = some (.inr (6, [.int (S.2.2 (40 + s) 0), .ref (ad (50 + s)), .ref (ad (70 + s)), .ref (ad (60 + s)), .long (S.2.1 (40 + s) 4), .int (S.2.2 (40 + s) 5), .int (S.2.2 (40 + s) 6), .int (S.2.2 (40 + s) 7), .int (S.2.2 (40 + s) 8)])) := by
  rw [Lay_St hs, show plT (S.1 (40 + s)) (70 + s) = 70 + s from if_neg hw]
theorem Lay_pw {s : Nat} (hs : s < 8) : Lay K ad S (70 + s) = some (.inr (2, [.ref (ad (80 + s)), .int 0, .int 0, .int 0])) := by
  rw [Lay_in (by simp [zdom]; omega)]
  unfold bodyX
  rw [if_neg (by omega), if_neg (by omega), if_neg (by omega), if_pos (by omega)]
  unfold bodyP
  rw [if_neg (by omega), if_pos (by omega), show 70 + s + 10 = 80 + s by omega]
theorem Lay_ww {s : Nat} (hs : s < 8) : Lay K ad S (80 + s) = some (.inl (K 0, 4, .inl (fun _ => 0))) := by
  rw [Lay_in (by simp [zdom]; omega)]
  unfold bodyX
  rw [if_neg (by omega), if_neg (by omega), if_neg (by omega), if_pos (by omega)]
  unfold bodyP
  rw [if_neg (by omega), if_neg (by omega)]
theorem stP_s {t v : Nat} : (stP S t v).1 t = v := if_pos rfl
theorem stP_n {t u v : Nat} (h : u ≠ t) : (stP S t v).1 u = S.1 u := if_neg h
theorem Lay_putP {t v : Nat} {e : va_E} (he : Lay K ad (stP S t v) t = some e) : ∀ u, Lay K ad (stP S t v) u = z_up (Lay K ad S) t e u := by
  intro u
  by_cases h : u = t
  · subst h
    rw [z_up_s]
    exact he
  · rw [z_up_n h]
    show (if zdom (S.2.2 9) u = true then some (bodyX K ad ((stP S t v).1 u) (S.2.1 u) (S.2.2 u) u) else none) = _
    rw [stP_n h]
    rfl
theorem Lay_kn {s : Nat} (hs : s < 8) : Lay K ad S (50 + s) = some (.inl (K 0, 4, .inl (S.2.2 (50 + s)))) := by
  rw [Lay_in (by simp [zdom]; omega)]
  unfold bodyX
  rw [if_neg (by omega), if_neg (by omega), if_pos (by omega)]
theorem Lay_li {s : Nat} (hs : s < 8) : Lay K ad S (60 + s) = some (.inl (K 0, S.1 (60 + s), .inl (S.2.2 (60 + s)))) := by
  rw [Lay_in (by simp [zdom]; omega)]
  unfold bodyX
  rw [if_neg (by omega), if_neg (by omega), if_neg (by omega), if_pos (by omega)]
  unfold bodyP
  rw [if_pos (by omega)]
theorem zdom_a {o : Nat → Int32} {i r : Nat} (hi : i < 10) (hr : r < 6) (h : o i ≠ 0) : zdom o (100 + 10 * r + i) = true := by
  unfold zdom
  have e1 : (100 + 10 * r + i - 100) % 10 = i := by omega
  rw [e1]
  have : decide (o i ≠ 0) = true := by simpa using h
  have h2 : decide (100 ≤ 100 + 10 * r + i ∧ 100 + 10 * r + i < 160) = true := by simp; omega
  rw [this, h2]
  simp
theorem zdom_b {o : Nat → Int32} {i k : Nat} (hi : i < 10) (hk : k < 8) (h : o i ≠ 0) : zdom o (200 + 8 * i + k) = true := by
  unfold zdom
  have e1 : (200 + 8 * i + k - 200) / 8 = i := by omega
  rw [e1]
  have : decide (o i ≠ 0) = true := by simpa using h
  have h2 : decide (200 ≤ 200 + 8 * i + k ∧ 200 + 8 * i + k < 280) = true := by simp; omega
  rw [this, h2]
  simp
theorem zdom_c {o : Nat → Int32} {i k : Nat} (hi : i < 10) (hk : k < 8) (h : o i ≠ 0) : zdom o (300 + 8 * i + k) = true := by
  unfold zdom
  have e1 : (300 + 8 * i + k - 300) / 8 = i := by omega
  rw [e1]
  have : decide (o i ≠ 0) = true := by simpa using h
  have h2 : decide (300 ≤ 300 + 8 * i + k ∧ 300 + 8 * i + k < 380) = true := by simp; omega
  rw [this, h2]
  simp
/-- the sites -/
theorem Lay_Si {i : Nat} (hi : i < 10) (h : S.2.2 9 i ≠ 0) : Lay K ad S (100 + i) = some (.inr (5, [.ref (ad (110 + i)), .ref (ad (120 + i)), .ref (ad (130 + i)), .ref (ad (140 + i)), .ref (ad (150 + i)), .int (S.2.2 (100 + i) 5)])) := by
  rw [Lay_in (zdom_a (r := 0) hi (by omega) h)]
  unfold bodyX
  rw [if_neg (by omega), if_neg (by omega), if_neg (by omega), if_neg (by omega), if_pos (by omega), show 100 + i + 10 = 110 + i by omega, show 100 + i + 20 = 120 + i by omega, show 100 + i + 30 = 130 + i by omega, show 100 + i + 40 = 140 + i by omega, show 100 + i + 50 = 150 + i by omega]
theorem Lay_row {i r : Nat} (hi : i < 10) (hr : r < 4) (h : S.2.2 9 i ≠ 0) : Lay K ad S (110 + 10 * r + i) = some (.inl (K 0, 100, .inl (S.2.2 (110 + 10 * r + i)))) := by
  rw [Lay_in (by have := zdom_a (r := r + 1) hi (by omega) h; rwa [show 100 + 10 * (r + 1) + i = 110 + 10 * r + i by omega] at this)]
  unfold bodyX
  rw [if_neg (by omega), if_neg (by omega), if_neg (by omega), if_neg (by omega), if_neg (by omega), if_pos (by omega)]
theorem Lay_ress {i : Nat} (hi : i < 10) (h : S.2.2 9 i ≠ 0) : Lay K ad S (150 + i) = some (.inl (K 5, 8, .inr (.inr (.inr (.inr (fun k => if k < 8 then some (ad (200 + 8 * i + k)) else none)))))) := by
  rw [Lay_in (zdom_a (r := 5) hi (by omega) h)]
  unfold bodyX
  rw [if_neg (by omega), if_neg (by omega), if_neg (by omega), if_neg (by omega), if_neg (by omega), if_neg (by omega), if_pos (by omega), show 150 + i - 150 = i by omega]
theorem Lay_Re {i k : Nat} (hi : i < 10) (hk : k < 8) (h : S.2.2 9 i ≠ 0) : Lay K ad S (200 + 8 * i + k) = some (.inr (3, [.ref (ad (300 + 8 * i + k)), .int (S.2.2 (200 + 8 * i + k) 1), .int (S.2.2 (200 + 8 * i + k) 2)])) := by
  rw [Lay_in (zdom_b hi hk h)]
  unfold bodyX
  rw [if_neg (by omega), if_neg (by omega), if_neg (by omega), if_neg (by omega), if_neg (by omega), if_neg (by omega), if_neg (by omega), if_pos (by omega), show 200 + 8 * i + k + 100 = 300 + 8 * i + k by omega]
theorem Lay_ek {i k : Nat} (hi : i < 10) (hk : k < 8) (h : S.2.2 9 i ≠ 0) : Lay K ad S (300 + 8 * i + k) = some (.inl (K 0, 24, .inl (S.2.2 (300 + 8 * i + k)))) := by
  rw [Lay_in (zdom_c hi hk h)]
  unfold bodyX
  rw [if_neg (by omega), if_neg (by omega), if_neg (by omega), if_neg (by omega), if_neg (by omega), if_neg (by omega), if_neg (by omega), if_neg (by omega)]
end LY
/-- what a method of the system comes back with: the answer, and the numbers behind it -/
def zP (K : Nat → ClassId) (ad : Nat → Nat) (v : Option Value) (S : zSt) : zQ := fun r ad' ce' => r = .inl v ∧ ad' = ad ∧ ce' = Lay K ad S
/-- it throws, and nothing has changed -/
def zX0 (K : Nat → ClassId) (ad : Nat → Nat) (E : String) (S : zSt) : zQ := fun r ad' ce' => r = .inr E ∧ ad' = ad ∧ ce' = Lay K ad S
theorem t4_ok (K : Nat → ClassId) (ad : Nat → Nat) (S : zSt) : Lay K ad S 4 = some (.inr (4, [.ref (ad 5), .ref (ad 6), .ref (ad 7), .ref (ad 8)])) := rfl
theorem t7_ok (K : Nat → ClassId) (ad : Nat → Nat) (S : zSt) (k : Nat) (v : Int32) : Lay K ad (stM S 7 k v) 7 = some (.inl (K 0, 1000, .inl (upd (S.2.2 7) k v))) := rfl
theorem t3_ok (K : Nat → ClassId) (ad : Nat → Nat) (S : zSt) (v : Int32) : Lay K ad (stM S 3 1 v) 3 = some (.inr (1, [.int (S.2.2 3 0), .int v, .int (S.2.2 3 2)])) := rfl
