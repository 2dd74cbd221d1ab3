/-! cutting, by the model; the largest group of both -/
theorem p_xcut {p : Int64} {z : Int32} {v6 v7 v8 v9 : Nat → Int32} {u : Nat → Nat} (hu : isU v6 u) {v0 v1 v2 v3 v4 v5 : Int32} {post : Int32 → Int32 → Int32 → (Nat → Int32) → (Nat → Int32) → (Nat → Int32) → (Nat → Int32) → Prop}
    (h1 : ∀ n c : Nat, p = lN n → isW n → z = nI c → 1 ≤ c → c ≤ 50 → roomU u (fun l => c * cnt n l) → ∀ a sp co, (∀ l : Nat, l ≤ 26 → co l = nI (cnt n l)) → post (sumI (padF v6 (fun l => z * co l) 26) 26) 0 a (padF v6 (fun l => z * co l) 26) (padF v7 (fun l => z * co l) 26) sp co)
    (h2 : ∀ n c : Nat, p = lN n → isW n → z = nI c → 1 ≤ c → c ≤ 50 → ¬ roomU u (fun l => c * cnt n l) → ∀ a sp co, post 0 2 a v6 v7 sp co) (hi : ¬ (isWd p ∧ inR z 1 50) → ∀ a sp co, post 0 1 a v6 v7 sp co) : P_X9_cut post p z v0 v1 v2 v3 v4 v5 v6 v7 v8 v9 := by
  refine p_xisW (fun hw => ⟨fun q => absurd q (by decide), fun _ => p_xwith (lo := 1) (hi := 50) (by omega) (by omega) (fun hz => ⟨fun q => absurd q (by decide), fun _ => ?_⟩) (fun h => ⟨fun _ => p_good0 ⟨fun _ => hi (fun q => h q.2) _ _ _, fun q => absurd rfl q⟩, fun q => absurd rfl q⟩)⟩) (fun h => ⟨fun _ => p_good0 ⟨fun _ => hi (fun q => h q.1) _ _ _, fun q => absurd rfl q⟩, fun q => absurd rfl q⟩)
  obtain ⟨n, rfl, hw⟩ := hw
  obtain ⟨c, a, b, rfl⟩ := hz
  refine p_good1 ⟨fun q => absurd q (by decide), fun _ => p_xspell hw (fun sp co hs => ?_)⟩
  refine p_xcutA b hw.2.1 hu hs.2 (fun hr => ?_) (fun hr => h2 n c rfl hw rfl a b hr _ _ _) 26 0 FU rfl (FU_s _ (by omega)) (fun l a b => by omega)
  have key := p_xcutB (z := nI c) (v := v6) (w := v7) (co := co) (K := fun (w22 : Nat → Int32) (w23 : Nat → Int32) => P_X9_total (fun (r24 : Int32) => post r24 0 (nI (wlen n)) w22 w23 sp co) 0 v1 v2 v3 (nI (wlen n)) v5 w22) (p_xtotal (h1 n c rfl hw rfl a b hr _ _ _ hs.2)) 26 0 FU rfl (FU_s _ (by omega))
  rw [padF_0, padF_0] at key
  exact key
/-- the greatest number of anagrams -/
def grpF (S : List Nat) (a : Nat) (L : List Nat) : Nat := L.foldl (fun x m => max x (S.filter (askB m 2)).length) a
theorem grp_perm {S L L' : List Nat} (h : L.Perm L') (a : Nat) : grpF S a L = grpF S a L' := by
  unfold grpF
  refine h.foldl_eq' ?_ a
  intro x _ y _ z
  omega
theorem maxI {a b : Nat} (ha : a < 2 ^ 31) (hb : b < 2 ^ 31) : (if nI a < nI b then nI b else nI a) = nI (max a b) := by
  by_cases h : a < b
  · rw [if_pos ((nlt ha hb).mpr h), Nat.max_eq_right (by omega)]
  · rw [if_neg (fun q => h ((nlt ha hb).mp q)), Nat.max_eq_left (by omega)]
theorem filt_len {S : List Nat} {q : Nat → Bool} (h : S.length ≤ 60) : (S.filter q).length ≤ 60 := Nat.le_trans (List.length_filter_le _ _) h
theorem grp_le {S : List Nat} (h : S.length ≤ 60) : ∀ (L : List Nat) (a : Nat), a ≤ 60 → grpF S a L ≤ 60 := by
  intro L
  induction L with
  | nil => intro a ha; exact ha
  | cons m L ih =>
    intro a ha
    have := filt_len (q := askB m 2) h
    show grpF S (max a (S.filter (askB m 2)).length) L ≤ 60
    exact ih _ (by omega)
theorem p_clarL {c : Int32} {f : Nat → Int64} {S : List Nat} (hr : rowIs c f S) (hd : dicS S) {K : Int32 → Int32 → (Nat → Int64) → (Nat → Int32) → Prop} :
    ∀ (T : List Nat) (i a fuel : Nat) (v2 : Int32) (v3 : Nat → Int64) (v4 : Nat → Int32), S.drop i = T → i ≤ S.length → T.length < fuel → a ≤ 60 → (∀ v2 v3 v4, K (nI (grpF S a T)) v2 v3 v4) → P_X8_largestAnagramGroup_L4 c f K fuel (nI a) (nI i) v2 v3 v4 := by
  obtain ⟨rfl, h60, -⟩ := id hr
  intro T
  induction T with
  | nil =>
    intro i a fuel v2 v3 v4 hdr hi hf ha h
    obtain ⟨g, rfl⟩ : ∃ g, fuel = g + 1 := ⟨fuel - 1, by simp at hf; omega⟩
    unfold P_X8_largestAnagramGroup_L4
    exact ⟨fun _ => h _ _ _, fun z => absurd (nI_le (drop_nil hdr) (by omega)) z⟩
  | cons m T ih =>
    intro i a fuel v2 v3 v4 hdr hi hf ha h
    obtain ⟨g, rfl⟩ : ∃ g, fuel = g + 1 := ⟨fuel - 1, by simp at hf; omega⟩
    obtain ⟨hai, hd2⟩ := drop_at hdr
    have hil := (List.getElem?_eq_some_iff.mp hai).1
    have hwm := hd.1 m (List.mem_of_getElem? hai)
    have hf2 : T.length < g := by simp at hf; omega
    have h60' := filt_len (q := askB m 2) h60
    unfold P_X8_largestAnagramGroup_L4
    rw [← nI_succ]
    refine ⟨fun z => absurd z (nI_ge hil (by omega)), fun _ => p_word hr hai (p_anagrams hr hd.1 hwm.2.1 (fun c' f' v' hr' y hy => ?_))⟩
    rw [ana_eq hd.1 m] at hr'
    rw [hr'.1, maxI (by omega) (by omega)] at hy
    rw [hy]
    exact ih (i + 1) _ g _ _ _ hd2 (by omega) hf2 (by omega) h
theorem p_clar {c : Int32} {f : Nat → Int64} {S : List Nat} (hr : rowIs c f S) (hd : dicS S) {v2 : Int32} {v3 : Nat → Int64} {v4 : Nat → Int32} {post : Int32 → Int32 → (Nat → Int64) → (Nat → Int32) → Prop}
    (h : ∀ v2 v3 v4, post (nI (grpF S 0 S)) v2 v3 v4) : P_X8_largestAnagramGroup post c f v2 v3 v4 := by
  have h60 := hr.2.1
  have key := p_clarL hr hd (K := fun (x11 : Int32) (w12 : Int32) (w13 : Nat → Int64) (w14 : Nat → Int32) => post x11 w12 w13 w14) S 0 0 FU v2 v3 v4 rfl (Nat.zero_le _) (FU_s _ (by omega)) (by omega) h
  rw [nI_0] at key
  exact key
theorem p_xlarL {v1 : Int32} {v6 : Nat → Int64} {S M : List Nat} (hr : rowIs v1 v6 M) (hd : dRel S M) {v0 v2 v3 v5 : Int32} {K : Int32 → Int32 → (Nat → Int32) → (Nat → Int32) → Prop} :
    ∀ (T : List Nat) (i a fuel : Nat) (v4 : Int32) (v7 v8 : Nat → Int32), M.drop i = T → i ≤ M.length → T.length < fuel → a ≤ 60 → (∀ v4 v7 v8, K (nI (grpF S a T)) v4 v7 v8) → P_X9_largestAnagramGroup_L9 v0 v1 v2 v3 v5 v6 K fuel (nI a) (nI i) v4 v7 v8 := by
  obtain ⟨rfl, h60, hf6⟩ := id hr
  have hS60 : S.length ≤ 60 := by rw [← hd.2.length_eq]; exact h60
  intro T
  induction T with
  | nil =>
    intro i a fuel v4 v7 v8 hdr hi hf ha h
    obtain ⟨g, rfl⟩ : ∃ g, fuel = g + 1 := ⟨fuel - 1, by simp at hf; omega⟩
    unfold P_X9_largestAnagramGroup_L9
    exact ⟨fun _ => h _ _ _, fun z => absurd (nI_le (drop_nil hdr) (by omega)) z⟩
  | cons m T ih =>
    intro i a fuel v4 v7 v8 hdr hi hf ha h
    obtain ⟨g, rfl⟩ : ∃ g, fuel = g + 1 := ⟨fuel - 1, by simp at hf; omega⟩
    obtain ⟨hai, hd2⟩ := drop_at hdr
    have hil := (List.getElem?_eq_some_iff.mp hai).1
    have hwm := dRel_W hd m (List.mem_of_getElem? hai)
    have hf2 : T.length < g := by simp at hf; omega
    have h60' := filt_len (q := askB m 2) hS60
    unfold P_X9_largestAnagramGroup_L9
    rw [nI_clamp (by omega), hf6 i m hai, ← nI_succ]
    refine ⟨fun z => absurd z (nI_ge hil (by omega)), fun _ => ⟨nI_in (by omega) (by omega), p_xspell hwm (fun sp co hs => p_xcask (q := 2) (by omega) (spelt_of hwm hs) hr (dRel_W hd) (fun y hy => ?_))⟩⟩
    rw [perm_len hd.2, maxI (by omega) (by omega)] at hy
    rw [hy]
    exact ih (i + 1) _ g _ _ _ hd2 (by omega) hf2 (by omega) h
theorem p_xlar {v1 : Int32} {v6 : Nat → Int64} {S M : List Nat} (hr : rowIs v1 v6 M) (hd : dRel S M) {v0 v2 v3 v4 v5 : Int32} {v7 v8 : Nat → Int32} {post : Int32 → Int32 → Int32 → (Nat → Int32) → (Nat → Int32) → Prop}
    (h : ∀ v4 v7 v8, post (nI (grpF S 0 S)) 0 v4 v7 v8) : P_X9_largestAnagramGroup post v0 v1 v2 v3 v4 v5 v6 v7 v8 := by
  have h60 := hr.2.1
  have key := p_xlarL hr hd (v0 := 0) (v2 := v2) (v3 := v3) (v5 := v5) (K := fun (x7 : Int32) (w8 : Int32) (w9 : Nat → Int32) (w10 : Nat → Int32) => post x7 0 w8 w9 w10) M 0 0 FU v4 v7 v8 rfl (Nat.zero_le _) (FU_s _ (by omega)) (by omega) (by rw [grp_perm hd.2]; exact h)
  rw [nI_0] at key
  exact key
