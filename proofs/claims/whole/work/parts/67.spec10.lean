/-! paper: what is written -/
theorem s_sh_ne {M : ew_Mem} {a s f c i : Nat} {P : List Int} (h : ¬ c = a) (h2 : ¬ c = s) : s_sh M a s f P c i = M c i := by
  unfold s_sh
  rw [s_ne_rd h2, s_put_ne h]
theorem s_sh_nil {M : ew_Mem} {a s f : Nat} : ew_wr M s f 0 = s_sh M a s f [] := by
  unfold s_sh
  rw [s_put_nil]
  rfl
theorem s_sh_rd {M : ew_Mem} {a s f i : Nat} {P : List Int} (h : ¬ a = s) (hi : i < P.length) : s_sh M a s f P a i = P.getD i 0 := by
  unfold s_sh
  rw [s_ne_rd h, s_put_rd hi]
def s_lt (e : Int) : Int := if e = 1 then 112 else if e = 2 then 119 else 114
def s_pq (V : ew_Mem) : List Int → Int → List Int
  | [], _ => []
  | m :: l, i => (if 0 < i then [59] else []) ++ (s_nb m ++ ([s_lt (s_ecl V m)] ++ ([48 + s_side V m] ++ s_pq V l (i + 1))))
theorem s_nb_len (x : Int) : (s_nb x).length ≤ 7 := by
  have := s_dg_len (s_ab x) (s_tj (s_ab x))
  unfold s_nb
  rw [List.length_append]
  split
  · show 1 + _ ≤ 7; omega
  · show 0 + _ ≤ 7; omega
theorem s_es_ne {V : ew_Mem} : ∀ (j : Nat) (m c : Int), ∀ a ∈ s_es V j m c, ¬ s_ecl V a = 0
  | 0, m, c, a, h => by cases h
  | j + 1, m, c, a, h => by
    unfold s_es at h
    split at h
    · split at h
      · exact s_es_ne j (m + 1) c a h
      · rcases List.mem_cons.mp h with rfl | h
        · assumption
        · exact s_es_ne j (m + 1) (c - 1) a h
    · cases h
theorem s_ecl_h0 {V : ew_Mem} (hV : s_VO V) {m : Int} (h : ¬ s_ecl V m = 0) : 0 < V 6 0 := by
  by_cases h0 : 0 < V 6 0
  · exact h0
  · exfalso
    apply h
    unfold s_ecl
    rw [if_pos (by have := hV.1; omega)]
def s_pp (V : ew_Mem) (m : Int) : List Int := s_pq V (s_E V m 12) 0
def s_a_spell (V : ew_Mem) (m : Int) : Int := if s_isM m then ((s_pp V m).length : Int) else -2
def s_a_paper (V : ew_Mem) (m i : Int) : Int := if s_isM m then s_nth (s_pp V m) i else -2
