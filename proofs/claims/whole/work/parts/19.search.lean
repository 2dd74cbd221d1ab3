/-! searching the dictionary -/
theorem mem_insAt {S : List Nat} {p w m : Nat} : m ∈ insAt S p w ↔ m = w ∨ m ∈ S := by
  unfold insAt
  rw [List.mem_append, List.mem_cons]
  constructor
  · rintro (h | h | h)
    · exact Or.inr (List.mem_of_mem_take h)
    · exact Or.inl h
    · exact Or.inr (List.mem_of_mem_drop h)
  · rintro (h | h)
    · exact Or.inr (Or.inl h)
    · rw [← List.take_append_drop p S] at h
      rcases List.mem_append.mp h with h | h
      · exact Or.inl h
      · exact Or.inr (Or.inr h)
theorem plc_take : ∀ {S : List Nat} {r : Nat}, ∀ m ∈ S.take (plc S r), rk m < r
  | [], _, m, h => by cases h
  | a :: S, r, m, h => by
    unfold plc at h
    by_cases c : rk a < r
    · rw [if_pos c, List.take_succ_cons] at h
      rcases List.mem_cons.mp h with e | e
      · rw [e]; exact c
      · exact plc_take m e
    · rw [if_neg c] at h
      cases h
theorem plc_drop : ∀ {S : List Nat} {r : Nat}, S.Pairwise (fun a b => rk a < rk b) → ∀ m ∈ S.drop (plc S r), r ≤ rk m
  | [], _, _, m, h => by simp [plc] at h
  | a :: S, r, hp, m, h => by
    have hp' := List.pairwise_cons.mp hp
    unfold plc at h
    by_cases c : rk a < r
    · rw [if_pos c, List.drop_succ_cons] at h
      exact plc_drop hp'.2 m h
    · rw [if_neg c, List.drop_zero] at h
      rcases List.mem_cons.mp h with e | e
      · rw [e]; omega
      · have := hp'.1 m e
        omega
theorem dicS_ins {S : List Nat} {n : Nat} (hd : dicS S) (hw : isW n) (hm : n ∉ S) : dicS (insS S n) := by
  refine ⟨fun m h => ?_, ?_⟩
  · rcases mem_insAt.mp h with e | e
    · rw [e]; exact hw
    · exact hd.1 m e
  · unfold insS insAt
    have hs := hd.2
    rw [← List.take_append_drop (plc S (rk n)) S] at hs
    have hs' := List.pairwise_append.mp hs
    refine List.pairwise_append.mpr ⟨hs'.1, List.pairwise_cons.mpr ⟨fun m h => ?_, hs'.2.1⟩, fun a ha b hb => ?_⟩
    · have h1 := plc_drop hd.2 m h
      have hmS := List.mem_of_mem_drop h
      have : rk n ≠ rk m := fun e => hm (by rw [rk_inj hw (hd.1 m hmS) e]; exact hmS)
      omega
    · rcases List.mem_cons.mp hb with e | e
      · rw [e]; exact plc_take a ha
      · exact hs'.2.2 a ha b e
theorem mem_insS {S : List Nat} {n m : Nat} : m ∈ insS S n ↔ m = n ∨ m ∈ S := mem_insAt
theorem insS_len (S : List Nat) (n : Nat) : (insS S n).length = S.length + 1 := insAt_len S _ n
theorem dic_nodup {S : List Nat} (hd : dicS S) : S.Nodup := hd.2.imp fun h e => by rw [e] at h; exact Nat.lt_irrefl _ h
theorem del_split {S : List Nat} {p n : Nat} (h : S[p]? = some n) : S = S.take p ++ n :: S.drop (p + 1) := by
  have hl := (List.getElem?_eq_some_iff.mp h).1
  have e : S.drop p = n :: S.drop (p + 1) := by
    rw [List.drop_eq_getElem_cons hl, (List.getElem?_eq_some_iff.mp h).2]
  rw [← e, List.take_append_drop]
theorem dicS_del {S : List Nat} {n : Nat} (hd : dicS S) (hm : n ∈ S) : dicS (delS S n) ∧ ∀ m, m ∈ delS S n ↔ m ∈ S ∧ m ≠ n := by
  have hs := del_split (plc_mem hd hm)
  have hnd := dic_nodup hd
  have hpw := hd.2
  unfold delS delAt
  generalize S.take (plc S (rk n)) = A at hs ⊢
  generalize S.drop (plc S (rk n) + 1) = B at hs ⊢
  have mem : ∀ m, m ∈ A ++ B ↔ m ∈ S ∧ m ≠ n := fun m => by
    rw [hs] at hnd
    have h1 := List.nodup_append.mp hnd
    have h2 := List.nodup_cons.mp h1.2.1
    rw [hs, List.mem_append, List.mem_append, List.mem_cons]
    constructor
    · rintro (h | h)
      · exact ⟨Or.inl h, fun e => h1.2.2 m h n List.mem_cons_self e⟩
      · exact ⟨Or.inr (Or.inr h), fun e => h2.1 (by rw [← e]; exact h)⟩
    · rintro ⟨h | h | h, e⟩
      · exact Or.inl h
      · exact absurd h e
      · exact Or.inr h
  refine ⟨⟨fun m h => hd.1 m ((mem m).mp h).1, ?_⟩, mem⟩
  rw [hs] at hpw
  have h1 := List.pairwise_append.mp hpw
  exact List.pairwise_append.mpr ⟨h1.1, (List.pairwise_cons.mp h1.2.1).2, fun a ha b hb => h1.2.2 a ha b (List.mem_cons_of_mem _ hb)⟩
theorem delS_len {S : List Nat} {n : Nat} (hd : dicS S) (hm : n ∈ S) : (delS S n).length = S.length - 1 := delAt_len S _ (List.getElem?_eq_some_iff.mp (plc_mem hd hm)).1
/-! which words fit -/
def fitsB (n m : Nat) : Bool := (List.range 27).all (fun l => l == 0 || decide (cnt m l ≤ cnt n l))
theorem fitsB_iff {n m : Nat} : fitsB n m = true ↔ okU (cnt n) m (wlen m) := by
  unfold fitsB okU
  rw [List.all_eq_true]
  constructor
  · intro h l a b
    have := h l (List.mem_range.mpr (by omega))
    simp at this
    rcases this with e | e
    · omega
    · exact e
  · intro h l hl
    have hl' := List.mem_range.mp hl
    simp
    by_cases e : l = 0
    · exact Or.inl e
    · exact Or.inr (h l (by omega) (by omega))
def clrF (v : Nat → Int32) (i : Nat) : Nat → Int32 := fun l => if l < i then 0 else v l
theorem p_clearL {v : Nat → Int32} {K : (Nat → Int32) → Prop} (h : K (clrF v 32)) : ∀ m i fuel : Nat, i + m = 32 → m < fuel → P_X2_clear_L2 K fuel (nI i) (clrF v i) := by
  intro m
  induction m with
  | zero =>
    intro i fuel hi hf
    obtain ⟨g, rfl⟩ : ∃ g, fuel = g + 1 := ⟨fuel - 1, by omega⟩
    have e : i = 32 := by omega
    subst e
    unfold P_X2_clear_L2
    exact ⟨fun _ => h, fun q => absurd (nI_le (a := 32) (b := 32) (Nat.le_refl _) (by omega)) q⟩
  | succ m ih =>
    intro i fuel hi hf
    obtain ⟨g, rfl⟩ : ∃ g, fuel = g + 1 := ⟨fuel - 1, by omega⟩
    unfold P_X2_clear_L2
    refine ⟨fun q => absurd q (nI_ge (b := 32) (by omega) (by omega)), fun _ => ⟨nI_in (by omega) (by omega), ?_⟩⟩
    rw [nI_clamp (by omega), ← nI_succ]
    have e : upd (clrF v i) i 0 = clrF v (i + 1) := by
      funext l
      unfold upd clrF
      by_cases hx : l = i
      · rw [if_pos hx, if_pos (by omega)]
      · rw [if_neg hx]
        by_cases h2 : l < i
        · rw [if_pos h2, if_pos (by omega)]
        · rw [if_neg h2, if_neg (by omega)]
    rw [e]
    exact ih (i + 1) g (by omega) (by omega)
theorem p_clear {v : Nat → Int32} {post : (Nat → Int32) → Prop} (h : post (clrF v 32)) : P_X2_clear post v := by
  unfold P_X2_clear
  have key := p_clearL h 32 0 FU rfl (FU_s _ (by omega))
  have e0 : clrF v 0 = v := by
    funext l
    unfold clrF
    rw [if_neg (by omega)]
  rwa [e0] at key
theorem cnt_le {n : Nat} (hn : n < 32 ^ 12) (l : Nat) : cnt n l ≤ 12 := Nat.le_trans (cntU_le n l _) ((wlen_le (by omega)).mpr hn)
theorem put_clr {n : Nat} (hn : n < 32 ^ 12) (v : Nat → Int32) (c l : Nat) (hl : l < 32) : putF (clrF v 32) n (nI c) (wlen n) l = nI (c * cnt n l) := by
  show clrF v 32 l + nI c * nI (cnt n l) = _
  unfold clrF
  rw [if_pos hl, Int32.zero_add]
  unfold nI
  rw [Int32.ofNat_mul]
theorem isU_clr {n : Nat} (hn : n < 32 ^ 12) (v : Nat → Int32) : isU (putF (clrF v 32) n 1 (wlen n)) (cnt n) := fun l a b => by
  have h := put_clr hn v 1 l (by omega)
  have := cnt_le hn l
  refine ⟨?_, by omega⟩
  rw [Nat.one_mul] at h
  exact h
def pickB (n k : Nat) : Nat → Bool := fun m => decide (k ≤ wlen m) && fitsB n m
theorem p_seaL {c : Int32} {f : Nat → Int64} {S : List Nat} (hr : rowIs c f S) (hS : ∀ n ∈ S, isW n) {n k : Nat} (hk : k ≤ 12) {v4 : Nat → Int32} (hu : isU v4 (cnt n)) {K : Int32 → (Nat → Int64) → (Nat → Int32) → Prop} :
    ∀ (T : List Nat) (i fuel : Nat) (G : List Nat) (c2 : Int32) (f2 : Nat → Int64), S.drop i = T → i ≤ S.length → T.length < fuel → G.length ≤ i → rowIs c2 f2 G → (∀ c' f', rowIs c' f' (G ++ T.filter (pickB n k)) → K c' f' v4) → P_X1_search_L26 (nI k) c f K fuel (nI i) c2 f2 v4 := by
  intro T
  have h60 := hr.2.1
  have hc := hr.1
  induction T with
  | nil =>
    intro i fuel G c2 f2 hd hi hf hG hg h
    obtain ⟨g, rfl⟩ : ∃ g, fuel = g + 1 := ⟨fuel - 1, by simp at hf; omega⟩
    have hlen : S.length ≤ i := by
      have := congrArg List.length hd
      rw [List.length_drop] at this
      simp at this; omega
    unfold P_X1_search_L26
    refine ⟨fun _ => h c2 f2 (by simpa using hg), fun q => absurd ?_ q⟩
    rw [hc]
    exact nI_le hlen (by omega)
  | cons a T ih =>
    intro i fuel G c2 f2 hd hi hf hG hg h
    obtain ⟨g, rfl⟩ : ∃ g, fuel = g + 1 := ⟨fuel - 1, by simp at hf; omega⟩
    have hai : S[i]? = some a := by
      have := List.getElem?_drop (xs := S) (i := i) (j := 0)
      rw [hd] at this
      simpa using this.symm
    have hil := (List.getElem?_eq_some_iff.mp hai).1
    have hwa := hS a (List.mem_of_getElem? hai)
    have hla := isW_len hwa
    have hd2 : S.drop (i + 1) = T := by
      rw [← List.drop_drop (i := 1) (j := i) (l := S)] <;> rw [hd]
      rfl
    have hf2 : T.length < g := by simp at hf; omega
    unfold P_X1_search_L26
    rw [← nI_succ]
    refine ⟨fun q => absurd q (by rw [hc]; exact nI_ge hil (by omega)), fun _ => p_word hr hai (p_len hwa.2.1 ⟨fun q => ?_, fun q => ?_⟩)⟩
    · have q' := (nlt (by omega) (by omega)).mp q
      refine ih (i + 1) g G c2 f2 hd2 (by omega) hf2 (by omega) hg (fun c' f' h' => h c' f' ?_)
      have e : pickB n k a = false := by unfold pickB; rw [decide_eq_false (by omega)]; rfl
      rw [List.filter_cons, e]
      exact h'
    · have q' : k ≤ wlen a := Nat.le_of_not_lt fun z => q ((nlt (by omega) (by omega)).mpr z)
      refine p_holds hwa hu (fun ho => ⟨fun z => absurd z (by decide), fun _ => ?_⟩) (fun ho => ⟨fun _ => ?_, fun z => absurd rfl z⟩)
      · refine p_append hg (by omega) (fun c3 f3 h3 => ?_)
        refine ih (i + 1) g (G ++ [a]) c3 f3 hd2 (by omega) hf2 (by rw [List.length_append]; show G.length + 1 ≤ _; omega) h3 (fun c' f' h' => h c' f' ?_)
        have e : pickB n k a = true := by unfold pickB; rw [decide_eq_true q', fitsB_iff.mpr ho]; rfl
        rw [List.filter_cons, e]
        rw [List.append_assoc] at h'
        exact h'
      · refine ih (i + 1) g G c2 f2 hd2 (by omega) hf2 (by omega) hg (fun c' f' h' => h c' f' ?_)
        have e : pickB n k a = false := by
          unfold pickB
          have : fitsB n a = false := by
            cases hb : fitsB n a with
            | false => rfl
            | true => exact absurd (fitsB_iff.mp hb) ho
          rw [this, Bool.and_false]
        rw [List.filter_cons, e]
        exact h'
theorem p_search {c : Int32} {f : Nat → Int64} {S : List Nat} (hr : rowIs c f S) (hS : ∀ n ∈ S, isW n) {n k : Nat} (hn : n < 32 ^ 12) (hk : k ≤ 12) {v2 : Int32} {v3 : Nat → Int64} {v4 : Nat → Int32} {post : Int32 → (Nat → Int64) → (Nat → Int32) → Prop}
    (h : ∀ c' f' v', rowIs c' f' (S.filter (pickB n k)) → post c' f' v') : P_X1_search post (lN n) (nI k) c f v2 v3 v4 := by
  have h60 := hr.2.1
  have key := p_seaL (K := fun (w15 : Int32) (w16 : Nat → Int64) (w17 : Nat → Int32) => post w15 w16 w17) hr hS hk (isU_clr hn v4) S 0 FU [] (nI 0) v3 rfl (Nat.zero_le _) (FU_s _ (by omega)) (Nat.le_refl _) ⟨rfl, Nat.zero_le _, fun i n hi => by simp at hi⟩ (fun c' f' h' => h c' f' _ h')
  have e0 : nI 0 = 0 := nI_0
  rw [e0] at key
  exact p_clear (p_put hn key)
theorem p_fitting {c : Int32} {f : Nat → Int64} {S : List Nat} (hr : rowIs c f S) (hS : ∀ n ∈ S, isW n) {n : Nat} (hn : n < 32 ^ 12) {v2 : Int32} {v3 : Nat → Int64} {v4 : Nat → Int32} {post : Int32 → (Nat → Int64) → (Nat → Int32) → Prop}
    (h : ∀ c' f' v', rowIs c' f' (S.filter (pickB n 1)) → post c' f' v') : P_X1_fitting post (lN n) c f v2 v3 v4 := p_search hr hS hn (k := 1) (by omega) h
theorem p_anagrams {c : Int32} {f : Nat → Int64} {S : List Nat} (hr : rowIs c f S) (hS : ∀ n ∈ S, isW n) {n : Nat} (hn : n < 32 ^ 12) {v2 : Int32} {v3 : Nat → Int64} {v4 : Nat → Int32} {post : Int32 → (Nat → Int64) → (Nat → Int32) → Prop}
    (h : ∀ c' f' v', rowIs c' f' (S.filter (pickB n (wlen n))) → post c' f' v') : P_X1_anagrams post (lN n) c f v2 v3 v4 := p_len hn (p_search hr hS hn ((wlen_le (by omega)).mpr hn) h)
