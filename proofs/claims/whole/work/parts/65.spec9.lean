/-! paper: bytes that are added one by one -/
/-- the list P written from place 0 of a on, its length in s, f -/
def s_sh (M : ew_Mem) (a s f : Nat) (P : List Int) : ew_Mem := ew_wr (s_put M a P) s f (P.length : Int)
theorem s_wr_wr {M : ew_Mem} {a s i f : Nat} {u v : Int} (h : ¬ a = s) : ew_wr (ew_wr M s f u) a i v = ew_wr (ew_wr M a i v) s f u := by
  funext c j
  simp only [ew_wr]
  by_cases h1 : c = a
  · subst h1
    simp [h]
  · simp [h1]
theorem s_wr_2 {M : ew_Mem} {s f : Nat} {u v : Int} : ew_wr (ew_wr M s f u) s f v = ew_wr M s f v := by
  funext c j
  simp only [ew_wr]
  by_cases h1 : c = s
  · by_cases h2 : j = f
    · simp [h1, h2]
    · simp [h1, h2]
  · simp [h1]
theorem s_sh_add {M : ew_Mem} {a s f : Nat} {P : List Int} {v : Int} (h : ¬ a = s) : ew_wr (ew_wr (s_sh M a s f P) a P.length v) s f ((P.length : Int) + 1) = s_sh M a s f (P ++ [v]) := by
  unfold s_sh
  rw [s_wr_wr h, s_put_wr, s_wr_2, show ((P.length : Int) + 1) = (((P ++ [v]).length : Nat) : Int) by simp]
theorem s_sh_len {M : ew_Mem} {a s f : Nat} {P : List Int} : s_sh M a s f P s f = (P.length : Int) := by
  unfold s_sh ew_wr
  simp
theorem s_sh_fr {M : ew_Mem} {a s f : Nat} {P : List Int} (ha : ∀ i, s_scr a i = true) (hs : s_scr s f = true) : s_Fr M (s_sh M a s f P) := s_Fr_wr (s_put_fr s_Fr_rfl ha) hs
/-- the digits from 10 ^ j on -/
def s_dg (x : Int) : Nat → List Int
  | 0 => [48 + x / 1 % 10]
  | 1 => [48 + x / 10 % 10, 48 + x / 1 % 10]
  | 2 => [48 + x / 100 % 10, 48 + x / 10 % 10, 48 + x / 1 % 10]
  | 3 => [48 + x / 1000 % 10, 48 + x / 100 % 10, 48 + x / 10 % 10, 48 + x / 1 % 10]
  | 4 => [48 + x / 10000 % 10, 48 + x / 1000 % 10, 48 + x / 100 % 10, 48 + x / 10 % 10, 48 + x / 1 % 10]
  | _ => [48 + x / 100000 % 10, 48 + x / 10000 % 10, 48 + x / 1000 % 10, 48 + x / 100 % 10, 48 + x / 10 % 10, 48 + x / 1 % 10]
def s_tj (x : Int) : Nat := if x < 10 then 0 else if x < 100 then 1 else if x < 1000 then 2 else if x < 10000 then 3 else if x < 100000 then 4 else 5
def s_ab (x : Int) : Int := if x < 0 then -x else x
/-- a number's bytes -/
def s_nb (x : Int) : List Int := (if x < 0 then [45] else []) ++ s_dg (s_ab x) (s_tj (s_ab x))
theorem s_dg_len (x : Int) (j : Nat) : (s_dg x j).length ≤ 6 := by
  unfold s_dg
  split <;> simp
