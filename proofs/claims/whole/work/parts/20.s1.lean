/-! ===== simple calls of the model and of the class ===== -/
theorem e_X6_isHall {p : Nat} {i : Int32} {I A : am_F} {G : am_G} (hp : p = 5 ∨ p = 25) (hG : G 0 3 = p) : am_e 60 0 [.ref 0, .int i] [] I A G = some (.int (am_bi (decide (¬ i < 0 ∧ ¬ I p 9 ≤ i))), I, A, G) := by
  rcases hp with rfl | rfl <;>
  (simp only [s_X6_isHall_0, s_X6_isHall_1, s_X6_isHall_4, s_X6_isHall_5, s_X6_isHall_6, s_X6_isHall_9_at5, s_X6_isHall_9_at25, s_X6_isHall_12, s_X6_isHall_15, s_X6_isHall_16, s_X6_isHall_19, s_X6_isHall_20, hG, am_01_0, am_01_1, if_true]
   repeat' split
   all_goals simp_all [am_bi])
theorem e_X6_isDoor {p : Nat} {i : Int32} {I A : am_F} {G : am_G} (hp : p = 5 ∨ p = 25) (hG : G 0 3 = p) : am_e 61 0 [.ref 0, .int i] [] I A G = some (.int (am_bi (decide (¬ i < 0 ∧ ¬ I p 10 ≤ i))), I, A, G) := by
  rcases hp with rfl | rfl <;>
  (simp only [s_X6_isDoor_0, s_X6_isDoor_1, s_X6_isDoor_4, s_X6_isDoor_5, s_X6_isDoor_6, s_X6_isDoor_9_at5, s_X6_isDoor_9_at25, s_X6_isDoor_12, s_X6_isDoor_15, s_X6_isDoor_16, s_X6_isDoor_19, s_X6_isDoor_20, hG, am_01_0, am_01_1, if_true]
   repeat' split
   all_goals simp_all [am_bi])
theorem e_X6_isHour {i : Int32} {I A : am_F} {G : am_G} : am_e 62 0 [.int i] [] I A G = some (.int (am_bi (decide (0 ≤ i ∧ i ≤ 999999))), I, A, G) := by
  simp only [s_X6_isHour_0, s_X6_isHour_1, s_X6_isHour_4, s_X6_isHour_5, s_X6_isHour_7, s_X6_isHour_10, s_X6_isHour_11, s_X6_isHour_14, s_X6_isHour_15, am_01_0, am_01_1, if_true]
  by_cases h1 : i < 0
  · rw [if_pos h1, decide_eq_false (fun h => absurd h.1 (Int32.not_le.mpr h1))]; rfl
  · rw [if_neg h1]
    by_cases h2 : 999999 < i
    · rw [if_pos h2, decide_eq_false (fun h => absurd h.2 (Int32.not_le.mpr h2))]; rfl
    · rw [if_neg h2, decide_eq_true ⟨Int32.not_lt.mp h1, Int32.not_lt.mp h2⟩]; rfl
theorem e_X6_isEither {i : Int32} {I A : am_F} {G : am_G} : am_e 63 0 [.int i] [] I A G = some (.int (am_bi (decide (i = 0 ∨ i = 1))), I, A, G) := by
  simp only [s_X6_isEither_0, s_X6_isEither_1, s_X6_isEither_4, s_X6_isEither_5, s_X6_isEither_6, s_X6_isEither_9, s_X6_isEither_10, s_X6_isEither_13, s_X6_isEither_14, am_01_0, am_01_1, if_true]
  by_cases h1 : i = 0
  · subst h1; rfl
  · rw [if_neg h1]
    by_cases h2 : i = 1
    · subst h2; rfl
    · rw [if_neg h2, decide_eq_false (fun h => h.elim h1 h2)]; rfl
theorem e_X6_bitOf {x k : Int32} {I A : am_F} {G : am_G} : am_e 64 0 [.int x, .int k] [] I A G = some (.int (am_bi (decide ((x >>> (k &&& 31)) &&& 1 = 1))), I, A, G) := by
  simp only [s_X6_bitOf_0, s_X6_bitOf_1, s_X6_bitOf_2, s_X6_bitOf_3, s_X6_bitOf_4, s_X6_bitOf_5]
  rw [← am_bit]
def pf_wb (x k : Int32) (on : Int32) : Int32 := if on = 0 then x &&& ((1 <<< (k &&& 31)) ^^^ (-1)) else x ||| (1 <<< (k &&& 31))
theorem e_X6_withBit {x k b : Int32} {I A : am_F} {G : am_G} : am_e 65 0 [.int x, .int k, .int b] [] I A G = some (.int (pf_wb x k b), I, A, G) := by
  simp only [s_X6_withBit_0, s_X6_withBit_1, s_X6_withBit_4, s_X6_withBit_5, s_X6_withBit_6, s_X6_withBit_7, s_X6_withBit_8, s_X6_withBit_9, s_X6_withBit_12, s_X6_withBit_13, s_X6_withBit_14, s_X6_withBit_15, s_X6_withBit_16, s_X6_withBit_17, s_X6_withBit_18, s_X6_withBit_19]
  unfold pf_wb
  split <;> rfl
/-! wipe, forget -/
theorem e_X7_wipe {I A : am_F} {G : am_G} : am_e 82 0 [.ref 69, .null] [] I A G = some (.int (I 69 0), am_u I 69 0 0, A, G) := by
  simp only [s_X7_wipe_0, s_X7_wipe_1, s_X7_wipe_4, s_X7_wipe_5, s_X7_wipe_6, s_X7_wipe_7, s_X7_wipe_10, s_X7_wipe_11]
theorem e_X6_wipe {I A : am_F} {G : am_G} : am_e 36 0 [.ref 0, .null] [] I A G = some (.int (I 0 1), am_u I 0 1 0, A, G) := by
  simp only [s_X6_wipe_0, s_X6_wipe_1, s_X6_wipe_4, s_X6_wipe_5, s_X6_wipe_6, s_X6_wipe_7, s_X6_wipe_10, s_X6_wipe_11]
theorem e_X7_forget {I A : am_F} {G : am_G} : am_e 122 0 [.ref 69, .null] [] I A G = some (.int (I 69 21), am_u I 69 21 0, A, G) := by
  simp only [s_X7_forget_0, s_X7_forget_1, s_X7_forget_4, s_X7_forget_5, s_X7_forget_6, s_X7_forget_7, s_X7_forget_10, s_X7_forget_11]
theorem e_X6_forget {I A : am_F} {G : am_G} : am_e 52 0 [.ref 0, .null] [] I A G = some (.int (I 54 3), am_u I 54 3 0, A, G) := by
  simp only [s_X6_forget_0, s_X6_forget_1, s_X6_forget_4, s_X6_forget_7, s_X6_forget_8, s_X6_forget_9, s_X6_forget_12, s_X6_forget_13, s_X6_forget_16, s_X6_forget_17]
/-! count -/
def pf_count (P : sg_P) (s : sg_S) (m k n : Nat) (w : Int32) : Int32 := if w = 0 then nI (P 7 0) else if w = 1 then nI (P 7 1) else if w = 2 then nI s.2.2.1 else if w = 3 then s.2.2.2 8 else if w = 4 then nI m else if w = 5 then nI k else if w = 6 then nI n else if w = 7 then nI (P 7 6) else -1
theorem e_X7_count {I A : am_F} {G : am_G} {P : sg_P} {s : sg_S} {m k n : Nat} {z K t} {w : Int32} (hp : mr_p P I A) (hs : mr_s s I A) (hk : mr_k k K I A) (hn : mr_n m z I A) (ht : mr_t n t I A) : am_e 130 0 [.ref 69, .int w] [] I A G = some (.int (pf_count P s m k n w), I, A, G) := by
  simp [s_X7_count_0, s_X7_count_1, s_X7_count_48, s_X7_count_49, s_X7_count_52, s_X7_count_53, s_X7_count_54, s_X7_count_57, s_X7_count_58, s_X7_count_59, s_X7_count_62, s_X7_count_63, s_X7_count_64, s_X7_count_67, s_X7_count_68, s_X7_count_69, s_X7_count_72, s_X7_count_73, s_X7_count_74, s_X7_count_77, s_X7_count_78, s_X7_count_79, s_X7_count_82, s_X7_count_83, s_X7_count_84, s_X7_count_87, s_X7_count_88, s_X7_count_89, s_X7_count_90, s_X7_count_91, am_len_76, pf_count, hp.1, hp.2.1, hp.2.2.2.2.2.2.2.2.1, hs.2.2.1, hs.2.2.2.1, hk.1, hn.1, ht.1]
  repeat' split
  all_goals first | rfl | simp_all
theorem e_X6_count {p p' : Nat} {I A : am_F} {G : am_G} {P : sg_P} {s : sg_S} {m k n : Nat} {z K t} {w : Int32} (hG : cr_g p p' G) (hp : cr_p p P I A) (hs : cr_s 45 s I A) (hk : cr_k k K I A) (hn : cr_n m z I A) (ht : cr_t n t I A) : am_e 59 0 [.ref 0, .int w] [] I A G = some (.int (pf_count P s m k n w), I, A, G) := by
  obtain ⟨h3, h4, ⟨rfl, rfl⟩ | ⟨rfl, rfl⟩⟩ := hG <;>
  (simp [s_X6_count_0, s_X6_count_1, s_X6_count_48, s_X6_count_49, s_X6_count_52_at5, s_X6_count_52_at25, s_X6_count_55, s_X6_count_56, s_X6_count_57, s_X6_count_60_at5, s_X6_count_60_at25, s_X6_count_63, s_X6_count_64, s_X6_count_65, s_X6_count_68_at45, s_X6_count_68_at48, s_X6_count_68_at51, s_X6_count_71, s_X6_count_72, s_X6_count_73, s_X6_count_76_at45, s_X6_count_76_at48, s_X6_count_76_at51, s_X6_count_79, s_X6_count_81, s_X6_count_82, s_X6_count_83, s_X6_count_84, s_X6_count_87, s_X6_count_90, s_X6_count_91, s_X6_count_92, s_X6_count_95, s_X6_count_96, s_X6_count_97, s_X6_count_100, s_X6_count_101, s_X6_count_102, s_X6_count_105_at5, s_X6_count_105_at25, s_X6_count_108, s_X6_count_109, s_X6_count_110, am_len_46, h3, pf_count, hp.1, hp.2.1, hp.2.2.2.2.2.2.2.2.1, hs.2.2.1, hs.2.2.2 8 (by omega), hk.1, hn.1, ht.1]
   repeat' split
   all_goals first | rfl | simp_all)
