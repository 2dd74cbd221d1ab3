/-! the two dictionaries -/
def sumT (f : Nat → Nat) : Nat → Nat
  | 0 => 0
  | k + 1 => sumT f k + f k
theorem sumT_le {f g : Nat → Nat} : ∀ k : Nat, (∀ l : Nat, l < k → f l ≤ g l) → sumT f k ≤ sumT g k
  | 0, _ => Nat.le_refl 0
  | k + 1, h => by
    have := sumT_le k (fun l hl => h l (by omega))
    have := h k (by omega)
    show sumT f k + f k ≤ sumT g k + g k
    omega
theorem sumT_one {d : Nat} : ∀ k : Nat, sumT (fun l => if d = l then 1 else 0) k = if d < k then 1 else 0
  | 0 => rfl
  | k + 1 => by
    show sumT _ k + (if d = k then 1 else 0) = _
    rw [sumT_one k]
    by_cases a : d < k
    · rw [if_pos a, if_neg (by omega), if_pos (by omega)]
    · by_cases b : d = k
      · rw [if_neg a, if_pos b, if_pos (by omega)]
      · rw [if_neg a, if_neg b, if_neg (by omega)]
theorem sumT_add (f g : Nat → Nat) : ∀ k : Nat, sumT (fun l => f l + g l) k = sumT f k + sumT g k
  | 0 => rfl
  | k + 1 => by
    show sumT (fun l => f l + g l) k + (f k + g k) = (sumT f k + f k) + (sumT g k + g k)
    rw [sumT_add f g k]
    omega
theorem sumT_0 : ∀ k : Nat, sumT (fun _ => 0) k = 0
  | 0 => rfl
  | k + 1 => by show sumT _ k + 0 = 0; rw [sumT_0 k]
theorem sumT_cntU (n : Nat) : ∀ i : Nat, sumT (cntU n i) 32 = i
  | 0 => sumT_0 32
  | i + 1 => by
    have e : cntU n (i + 1) = fun l => cntU n i l + (if dg n i = l then 1 else 0) := rfl
    rw [e, sumT_add, sumT_cntU n i, sumT_one, if_pos (dg_lt n i)]
theorem cnt_out {m l : Nat} (hw : isW m) (h : l = 0 ∨ 26 < l) : cnt m l = 0 := by
  rcases Nat.eq_zero_or_pos (cnt m l) with e | e
  · exact e
  · obtain ⟨i, hi, rfl⟩ := cnt_pos e
    have := hw.2.2 i hi
    omega
theorem fits_len {n m : Nat} (hw : isW m) (h : fitsB n m = true) : wlen m ≤ wlen n := by
  have h' := fitsB_iff.mp h
  rw [← sumT_cntU m (wlen m), ← sumT_cntU n (wlen n)]
  refine sumT_le 32 fun l hl => ?_
  by_cases a : l = 0 ∨ 26 < l
  · have : cntU m (wlen m) l = 0 := cnt_out hw a
    rw [this]; exact Nat.zero_le _
  · exact h' l (by omega) (by omega)
theorem pick_1 {n m : Nat} (hw : isW m) : pickB n 1 m = askB n 1 m := by
  have h0 : 1 ≤ wlen m := Nat.pos_of_ne_zero fun e => by have := wlen_0iff.mp e; have := hw.1; omega
  unfold pickB askB
  rw [decide_eq_true h0]
  simp
theorem pick_2 {n m : Nat} (hw : isW m) : pickB n (wlen n) m = askB n 2 m := by
  unfold pickB askB
  cases hf : fitsB n m with
  | false => simp
  | true =>
    have := fits_len hw hf
    by_cases e : wlen m = wlen n
    · simp [e]
    · have : ¬ wlen n ≤ wlen m := by omega
      simp [e, this]
theorem filter_ext {p q : Nat → Bool} {S : List Nat} (h : ∀ m ∈ S, p m = q m) : S.filter p = S.filter q := List.filter_congr h
/-- the model's dictionary M holds the words of S -/
def dRel (S M : List Nat) : Prop := dicS S ∧ M.Perm S
theorem perm_len {p : Nat → Bool} {S M : List Nat} (h : M.Perm S) : (M.filter p).length = (S.filter p).length := (h.filter p).length_eq
theorem dRel_W {S M : List Nat} (h : dRel S M) : ∀ m ∈ M, isW m := fun m hm => h.1.1 m (h.2.mem_iff.mp hm)
/-- in order, a word's place is the number of those before it -/
theorem bef_at : ∀ {F : List Nat} {j m : Nat}, F.Pairwise (fun a b => rk a < rk b) → F[j]? = some m → (F.filter (fun x => decide (rk x < rk m))).length = j
  | [], j, m, _, h => by simp at h
  | a :: F, j, m, hp, h => by
    have hp' := List.pairwise_cons.mp hp
    cases j with
    | zero =>
      have e : a = m := by simpa using h
      subst e
      rw [List.filter_cons, decide_eq_false (Nat.lt_irrefl _)]
      show (F.filter _).length = 0
      rw [List.length_eq_zero_iff, List.filter_eq_nil_iff]
      intro x hx
      have := hp'.1 x hx
      simp; omega
    | succ j =>
      rw [List.getElem?_cons_succ] at h
      have hlt := hp'.1 m (List.mem_of_getElem? h)
      rw [List.filter_cons, decide_eq_true hlt]
      show (F.filter _).length + 1 = j + 1
      rw [bef_at hp'.2 h]
theorem bef_S {n q : Nat} {S M : List Nat} (hd : dRel S M) {m j : Nat} (h : (S.filter (askB n q))[j]? = some m) : bef n q M m = j := by
  have e : bef n q M m = ((S.filter (askB n q)).filter (fun x => decide (rk x < rk m))).length := by
    unfold bef
    rw [perm_len hd.2, List.filter_filter]
    congr 2
    funext x
    exact Bool.and_comm _ _
  rw [e]
  exact bef_at (hd.1.2.filter _) h
/-- the word with this index: the model finds it -/
theorem p_xnth {n q : Nat} (hq : q ≤ 2) {v1 v4 : Int32} {v6 : Nat → Int64} {co : Nat → Int32} (hs : spelt n q v4 co) {S M : List Nat} (hr : rowIs v1 v6 M) (hd : dRel S M) {z2 v0 v2 v3 v5 : Int32} {post : Int64 → Prop}
    (h1 : ∀ j m : Nat, z2 = nI j → (S.filter (askB n q))[j]? = some m → post (lN m)) (h0 : (∀ j : Nat, j < (S.filter (askB n q)).length → z2 ≠ nI j) → post 0) : P_X9_asked post (nI q) z2 v0 v1 v2 v3 v4 v5 v6 co := by
  have at' : ∀ m ∈ M, askB n q m = true → ∃ j : Nat, (S.filter (askB n q))[j]? = some m := fun m hm hb => List.getElem?_of_mem (List.mem_filter.mpr ⟨hd.2.mem_iff.mp hm, hb⟩)
  refine p_xasked hq hs hr (dRel_W hd) (fun m hm hb hz => ?_) (fun h => h0 fun j hj hz => ?_)
  · obtain ⟨j, hj⟩ := at' m hm hb
    exact h1 j m (by rw [hz, bef_S hd hj]) hj
  · have hj' := List.getElem?_eq_getElem hj
    have hmem := List.mem_filter.mp (List.getElem_mem hj)
    exact h _ (hd.2.mem_iff.mpr hmem.1) hmem.2 (by rw [bef_S hd hj']; exact hz)
