/-! ===== what the abstract machine's places say of the machine: the store's cells, the locals ===== -/
def am_co (ad : Nat → Nat) (v : Value) : Value := match v with
  | .ref a => .ref (ad a)
  | v => v
theorem am_co_cat (ad : Nat → Nat) (v : Value) : (am_co ad v).category = v.category := by cases v <;> rfl
def am_nf (c : Nat) : Nat := match vwCl[c]? with
  | some q => q.2.2
  | none => 0
def am_ce (cI cB : ClassId) (ad : Nat → Nat) (I A : am_F) (R : am_G) (k : Nat) : va_E := match am_cell k with
  | .inl (b, n) => .inl ((if b = true then cB else cI), n, .inl (A k))
  | .inr c => .inr (c, (List.range (am_nf c)).map (fun j => am_co ad (am_fv I R k c j)))
def am_w (N : Nat) (cI cB : ClassId) (ad : Nat → Nat) (I A : am_F) (R : am_G) : va_W := (List.range N).map (fun k => (ad k, am_ce cI cB ad I A R k))
theorem am_w_at {N k : Nat} (h : k < N) (cI cB : ClassId) (ad : Nat → Nat) (I A : am_F) (R : am_G) : (am_w N cI cB ad I A R)[k]? = some (ad k, am_ce cI cB ad I A R k) := by
  unfold am_w
  rw [List.getElem?_map, List.getElem?_range h]
  rfl
theorem am_w_set {N k : Nat} {cI cB : ClassId} {ad : Nat → Nat} {I A I' A' : am_F} {R R' : am_G} (h : ∀ j, j ≠ k → am_ce cI cB ad I' A' R' j = am_ce cI cB ad I A R j) {e : va_E} (he : am_ce cI cB ad I' A' R' k = e) : (am_w N cI cB ad I A R).set k (ad k, e) = am_w N cI cB ad I' A' R' := by
  subst he
  apply List.ext_getElem?
  intro j
  unfold am_w
  rw [List.getElem?_set]
  by_cases hj : k = j
  · subst hj
    rw [if_pos rfl]
    by_cases hk : k < N
    · rw [if_pos (by simpa using hk), List.getElem?_map, List.getElem?_range hk]
      rfl
    · rw [if_neg (by simpa using hk), List.getElem?_map, List.getElem?_eq_none (by simpa using hk)]
      rfl
  · rw [if_neg hj, List.getElem?_map, List.getElem?_map]
    by_cases hk : j < N
    · rw [List.getElem?_range hk]
      show some (ad j, _) = some (ad j, _)
      rw [h j (fun e => hj e.symm)]
    · rw [List.getElem?_eq_none (by simpa using hk)]
      rfl
theorem am_ce_arr {cI cB : ClassId} {ad : Nat → Nat} {I A : am_F} {R : am_G} {k n : Nat} {b : Bool} (h : am_cell k = .inl (b, n)) : am_ce cI cB ad I A R k = .inl ((if b = true then cB else cI), n, .inl (A k)) := by unfold am_ce; rw [h]
theorem am_ce_obj {cI cB : ClassId} {ad : Nat → Nat} {I A : am_F} {R : am_G} {k c : Nat} (h : am_cell k = .inr c) : am_ce cI cB ad I A R k = .inr (c, (List.range (am_nf c)).map (fun j => am_co ad (am_fv I R k c j))) := by unfold am_ce; rw [h]
/-- a write into a row touches that cell alone -/
theorem am_ce_row {cI cB : ClassId} {ad : Nat → Nat} {I A A' : am_F} {R : am_G} {k : Nat} (h : ∀ j, j ≠ k → A' j = A j) : ∀ j, j ≠ k → am_ce cI cB ad I A' R j = am_ce cI cB ad I A R j := by
  intro j hj
  unfold am_ce
  split
  · rw [h j hj]
  · rfl
theorem am_ce_fld {cI cB : ClassId} {ad : Nat → Nat} {I I' A : am_F} {R R' : am_G} {k : Nat} (h : ∀ j, j ≠ k → I' j = I j ∧ R' j = R j) : ∀ j, j ≠ k → am_ce cI cB ad I' A R' j = am_ce cI cB ad I A R j := by
  intro j hj
  obtain ⟨h1, h2⟩ := h j hj
  unfold am_ce
  split
  · rfl
  · unfold am_fv
    rw [h1, h2]
/-- locals -/
def am_ls (ad : Nat → Nat) (g : Bool) (nL : Nat) (ls : Array Slot) (L : List Value) : Prop := ls.size = nL ∧ lv_wf ls ∧ (∀ (i : Nat) (v : Value), L[i]? = some v → v ≠ .null → ls[i]? = some (.val (am_co ad v))) ∧ (g = false → ∀ v ∈ L, v.category = 1)
def am_lv (ad : Nat → Nat) (L : List Value) : List (Nat × Value) := L.zipIdx.filterMap (fun q => if q.1 = .null then none else some (q.2, am_co ad q.1))
theorem am_lv_mem {ad : Nat → Nat} {L : List Value} {i : Nat} {w : Value} : (i, w) ∈ am_lv ad L ↔ ∃ v, L[i]? = some v ∧ v ≠ .null ∧ w = am_co ad v := by
  unfold am_lv
  rw [List.mem_filterMap]
  constructor
  · rintro ⟨⟨v, j⟩, h1, h2⟩
    rw [List.mem_zipIdx_iff_getElem?] at h1
    dsimp only at h1 h2
    by_cases hn : v = .null
    · rw [if_pos hn] at h2; cases h2
    · rw [if_neg hn] at h2; cases h2
      exact ⟨v, h1, hn, rfl⟩
  · rintro ⟨v, h1, h2, rfl⟩
    refine ⟨(v, i), List.mem_zipIdx_iff_getElem?.mpr h1, ?_⟩
    dsimp only
    rw [if_neg h2]
theorem am_ls.has {ad : Nat → Nat} {g : Bool} {nL : Nat} {ls : Array Slot} {L : List Value} (h : am_ls ad g nL ls L) : lv_has ls nL (am_lv ad L) := by
  refine ⟨h.1, h.2.1, fun q hq => ?_⟩
  obtain ⟨i, w⟩ := q
  obtain ⟨v, h1, h2, rfl⟩ := am_lv_mem.mp hq
  exact h.2.2.1 i v h1 h2
theorem am_cl_false (L : List Value) (i : Nat) : am_cl false L i = L := rfl
theorem am_cl_at {g : Bool} {L : List Value} {i j : Nat} {w : Value} (h : (am_cl g L i)[j]? = some w) (hw : w ≠ .null) : L[j]? = some w ∧ (g = true → j + 1 = i → w.category ≠ 2) := by
  cases g with
  | false => exact ⟨h, fun h => by cases h⟩
  | true =>
    cases i with
    | zero => exact ⟨h, fun _ h => by omega⟩
    | succ i =>
      unfold am_cl at h
      dsimp only at h
      split at h
      · rename_i w0 hw0
        rw [List.getElem?_set] at h
        by_cases hij : i = j
        · subst hij
          rw [if_pos rfl] at h
          split at h
          · have e := Option.some.inj h
            unfold am_clr at e
            split at e
            · exact absurd e.symm hw
            · rename_i hc
              subst e
              exact ⟨hw0, fun _ _ => hc⟩
          · cases h
        · rw [if_neg hij] at h
          exact ⟨h, fun _ h => by omega⟩
      · rename_i hn
        refine ⟨h, fun _ hj => ?_⟩
        have : j = i := by omega
        subst this
        rw [hn] at h
        cases h
theorem am_cl_len {g : Bool} {L : List Value} {i : Nat} : (am_cl g L i).length = L.length := by
  unfold am_cl
  split
  · rfl
  · split
    · rfl
    · split
      · simp
      · rfl
theorem am_ls_store {ad : Nat → Nat} {g : Bool} {nL i : Nat} {ls' : Array Slot} {L : List Value} {v : Value} (hc : v.category = 1) (h4 : g = false → ∀ v ∈ L, v.category = 1)
    (h : lv_has ls' nL ((i, am_co ad v) :: (am_lv ad L).filter (fun q => !(q.1 == i) && !(q.1 + 1 == i && q.2.category == 2)))) : am_ls ad g nL ls' (am_st g L i v) := by
  refine ⟨h.1, h.2.1, fun j w hj hw => ?_, fun hg w hw => ?_⟩
  · unfold am_st at hj
    rw [List.getElem?_set] at hj
    by_cases hij : i = j
    · subst hij
      rw [if_pos rfl] at hj
      split at hj
      · cases hj
        exact h.2.2 (i, _) List.mem_cons_self
      · cases hj
    · rw [if_neg hij] at hj
      obtain ⟨h1, h2⟩ := am_cl_at hj hw
      refine h.2.2 (j, _) (List.mem_cons_of_mem _ (List.mem_filter.mpr ⟨am_lv_mem.mpr ⟨w, h1, hw, rfl⟩, ?_⟩))
      have hne : (j == i) = false := by simpa using fun e => hij e.symm
      show (!(j == i) && !(j + 1 == i && (am_co ad w).category == 2)) = true
      rw [hne, am_co_cat]
      by_cases hji : j + 1 = i
      · have hcat : w.category ≠ 2 := by
          cases g with
          | false => rw [h4 rfl w (List.mem_of_getElem? h1)]; decide
          | true => exact h2 rfl hji
        have : (w.category == 2) = false := by simpa using hcat
        rw [this, Bool.and_false]
        rfl
      · have : (j + 1 == i) = false := by simpa using hji
        rw [this]
        rfl
  · subst hg
    unfold am_st at hw
    rw [am_cl_false] at hw
    rcases List.mem_or_eq_of_mem_set hw with h5 | h5
    · exact h4 rfl w h5
    · rw [h5]; exact hc
theorem am_ls_storeL {ad : Nat → Nat} {nL i : Nat} {ls' : Array Slot} {L : List Value} {x : Int64}
    (h : lv_has ls' nL ((i, .long x) :: (am_lv ad L).filter (fun q => !(q.1 == i) && (!(q.1 == i + 1) && !(q.1 + 1 == i && q.2.category == 2))))) : am_ls ad true nL ls' ((am_st true L i (.long x)).set (i + 1) .null) := by
  refine ⟨h.1, h.2.1, fun j w hj hw => ?_, fun hg => by cases hg⟩
  rw [List.getElem?_set] at hj
  by_cases hij1 : i + 1 = j
  · subst hij1
    rw [if_pos rfl] at hj
    split at hj
    · exact absurd (Option.some.inj hj).symm hw
    · cases hj
  · rw [if_neg hij1] at hj
    unfold am_st at hj
    rw [List.getElem?_set] at hj
    by_cases hij : i = j
    · subst hij
      rw [if_pos rfl] at hj
      split at hj
      · cases hj
        exact h.2.2 (i, _) List.mem_cons_self
      · cases hj
    · rw [if_neg hij] at hj
      obtain ⟨h1, h2⟩ := am_cl_at hj hw
      refine h.2.2 (j, _) (List.mem_cons_of_mem _ (List.mem_filter.mpr ⟨am_lv_mem.mpr ⟨w, h1, hw, rfl⟩, ?_⟩))
      have hne : (j == i) = false := by simpa using fun e => hij e.symm
      have hne1 : (j == i + 1) = false := by simpa using fun e => hij1 e.symm
      show (!(j == i) && (!(j == i + 1) && !(j + 1 == i && (am_co ad w).category == 2))) = true
      rw [hne, hne1, am_co_cat]
      by_cases hji : j + 1 = i
      · have : (w.category == 2) = false := by simpa using h2 rfl hji
        rw [this, Bool.and_false]
        rfl
      · have : (j + 1 == i) = false := by simpa using hji
        rw [this]
        rfl
/-- a method's first locals -/
theorem am_lay_sl (ad : Nat → Nat) : ∀ (as : List Value), (lg_sl (as.map (am_co ad))).length = (am_lay as).length
  | [] => rfl
  | v :: vs => by
    have ih := am_lay_sl ad vs
    unfold lg_sl at ih ⊢
    rw [List.map_cons, List.flatMap_cons, List.length_append, ih, am_co_cat, show am_lay (v :: vs) = if v.category = 2 then v :: .null :: am_lay vs else v :: am_lay vs from rfl]
    by_cases hc : v.category = 2
    · rw [if_pos hc, if_pos hc]; simp; omega
    · rw [if_neg hc, if_neg hc]; simp; omega
theorem am_lay_at (ad : Nat → Nat) : ∀ (as : List Value) (n i : Nat) (v : Value), (am_lay as)[i]? = some v → v ≠ .null → (n + i, am_co ad v) ∈ lv_args n (as.map (am_co ad))
  | [], n, i, v, h, _ => by simp [am_lay] at h
  | a :: as, n, i, v, h, hv => by
    rw [List.map_cons]
    unfold lv_args
    rw [am_co_cat]
    unfold am_lay at h
    by_cases hc : a.category = 2
    · rw [if_pos hc] at h ⊢
      match i, h with
      | 0, h => cases h; exact List.mem_cons_self
      | 1, h => exact absurd (Option.some.inj h).symm hv
      | i + 2, h =>
        have := am_lay_at ad as (n + 2) i v (by simpa using h) hv
        rw [show n + (i + 2) = n + 2 + i by omega]
        exact List.mem_cons_of_mem _ this
    · rw [if_neg hc] at h ⊢
      match i, h with
      | 0, h => cases h; exact List.mem_cons_self
      | i + 1, h =>
        have := am_lay_at ad as (n + 1) i v (by simpa using h) hv
        rw [show n + (i + 1) = n + 1 + i by omega]
        exact List.mem_cons_of_mem _ this
theorem am_lay_cat : ∀ (as : List Value), (∀ v ∈ as, v.category = 1) → ∀ v ∈ am_lay as, v.category = 1
  | [], _, v, h => by cases h
  | a :: as, ha, v, h => by
    unfold am_lay at h
    have h1 := ha a List.mem_cons_self
    rw [if_neg (by omega)] at h
    rcases List.mem_cons.mp h with rfl | h
    · exact h1
    · exact am_lay_cat as (fun w hw => ha w (List.mem_cons_of_mem _ hw)) v h
theorem am_ls_entry (ad : Nat → Nat) (g : Bool) {n : Nat} {as : List Value} (hn : (am_lay as).length ≤ n) (hg : g = false → ∀ v ∈ as, v.category = 1) : am_ls ad g n ((lg_sl (as.map (am_co ad)) ++ List.replicate (n - (lg_sl (as.map (am_co ad))).length) Slot.unset).toArray) (am_ent as n) := by
  have h := lv_entry (as.map (am_co ad)) (n := n) (by rw [am_lay_sl]; exact hn)
  refine ⟨h.1, h.2.1, fun i v hi hv => ?_, fun hg0 v hv => ?_⟩
  · unfold am_ent at hi
    by_cases hl : i < (am_lay as).length
    · rw [List.getElem?_append_left hl] at hi
      have := am_lay_at ad as 0 i v hi hv
      rw [Nat.zero_add] at this
      exact h.2.2 _ this
    · rw [List.getElem?_append_right (by omega)] at hi
      exact absurd (List.eq_of_mem_replicate (List.mem_of_getElem? hi)) hv
  · unfold am_ent at hv
    rcases List.mem_append.mp hv with h1 | h1
    · exact am_lay_cat as (hg hg0) v h1
    · rw [List.eq_of_mem_replicate h1]; rfl
