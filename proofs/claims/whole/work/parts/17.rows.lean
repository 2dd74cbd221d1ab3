/-! rows of words -/
def rowIs (c : Int32) (f : Nat → Int64) (S : List Nat) : Prop := c = nI S.length ∧ S.length ≤ 60 ∧ ∀ i n : Nat, S[i]? = some n → f i = lN n
theorem FU_s (k : Nat) (hk : k < 1000) : k < FU := Nat.lt_trans hk (by decide)
theorem p_word {c : Int32} {f : Nat → Int64} {S : List Nat} (hr : rowIs c f S) {i n : Nat} (hi : S[i]? = some n) {post : Int64 → Prop} (h : post (lN n)) : P_X6_word post (nI i) c f := by
  obtain ⟨rfl, h60, hf⟩ := hr
  have hl := (List.getElem?_eq_some_iff.mp hi).1
  unfold P_X6_word
  refine ⟨fun q => absurd q (nI_pos (by omega)), fun _ => ⟨fun q => absurd q (nI_ge hl (by omega)), fun _ => ⟨nI_in (by omega) (by omega), ?_⟩⟩⟩
  rw [nI_clamp (by omega), hf i n hi]
  exact h
theorem p_word0 {c : Int32} {f : Nat → Int64} {S : List Nat} (hr : rowIs c f S) {i : Nat} (hi : S.length ≤ i) (hi2 : i < 2 ^ 31) {post : Int64 → Prop} (h : post 0) : P_X6_word post (nI i) c f := by
  obtain ⟨rfl, h60, hf⟩ := hr
  unfold P_X6_word
  exact ⟨fun q => absurd q (nI_pos hi2), fun _ => ⟨fun _ => h, fun q => absurd (nI_le hi hi2) q⟩⟩
def shU (f : Nat → Int64) (L j : Nat) : Nat → Int64 := fun x => if j < x ∧ x ≤ L then f (x - 1) else f x
theorem p_insL {f : Nat → Int64} {L p : Nat} {w : Int64} (hL : L < 60) {K : (Nat → Int64) → Prop} (h : K (shU f L p)) : ∀ m j fuel : Nat, p + m = j → j ≤ L → m < fuel → P_X6_insert_L28 (nI p) w K fuel (nI j) (shU f L j) := by
  intro m
  induction m with
  | zero =>
    intro j fuel hj hjL hf
    obtain ⟨g, rfl⟩ : ∃ g, fuel = g + 1 := ⟨fuel - 1, by omega⟩
    have e : j = p := by omega
    subst e
    unfold P_X6_insert_L28
    exact ⟨fun _ => h, fun q => absurd (nI_le (Nat.le_refl _) (by omega)) q⟩
  | succ m ih =>
    intro j fuel hj hjL hf
    obtain ⟨g, rfl⟩ : ∃ g, fuel = g + 1 := ⟨fuel - 1, by omega⟩
    obtain ⟨k, rfl⟩ : ∃ k, j = k + 1 := ⟨j - 1, by omega⟩
    have e1 : nI (k + 1) - 1 = nI k := by rw [nI_succ, Int32.add_sub_cancel]
    have e2 : nI (k + 1) + (-1) = nI k := by rw [← Int32.sub_eq_add_neg, e1]
    unfold P_X6_insert_L28
    rw [e1, e2]
    refine ⟨fun q => absurd q (nI_ge (by omega) (by omega)), fun _ => ⟨nI_in (by omega) (by omega), nI_in (by omega) (by omega), ?_⟩⟩
    rw [nI_clamp (by omega), nI_clamp (by omega)]
    have e3 : vp_updL (shU f L (k + 1)) (k + 1) (shU f L (k + 1) k) = shU f L k := by
      funext x
      unfold vp_updL shU
      by_cases hx : x = k + 1
      · subst hx
        rw [if_pos rfl, if_neg (by omega), if_pos (by omega)]
        rfl
      · rw [if_neg hx]
        by_cases h2 : k + 1 < x ∧ x ≤ L
        · rw [if_pos h2, if_pos (by omega)]
        · rw [if_neg h2, if_neg (by omega)]
    rw [e3]
    exact ih k g (by omega) (by omega) (by omega)
def insAt (S : List Nat) (p w : Nat) : List Nat := S.take p ++ w :: S.drop p
theorem insAt_len (S : List Nat) (p w : Nat) : (insAt S p w).length = S.length + 1 := by
  unfold insAt
  rw [List.length_append, List.length_cons, List.length_take, List.length_drop]
  omega
theorem p_insert {c : Int32} {f : Nat → Int64} {S : List Nat} (hr : rowIs c f S) (h60 : S.length < 60) {p w : Nat} (hp : p ≤ S.length) {post : Int32 → (Nat → Int64) → Prop} (h : ∀ c' f', rowIs c' f' (insAt S p w) → post c' f') : P_X6_insert post (nI p) (lN w) c f := by
  obtain ⟨rfl, -, hf⟩ := hr
  unfold P_X6_insert
  refine ⟨fun q => absurd q (nI_ge (b := 60) h60 (by omega)), fun _ => ⟨fun q => absurd q (nI_pos (by omega)), fun _ => ⟨fun _ => ?_, fun q => absurd (nI_le hp (by omega)) q⟩⟩⟩
  have e0 : shU f S.length S.length = f := by
    funext x
    unfold shU
    rw [if_neg (by omega)]
  have key := p_insL (f := f) (w := lN w) h60 (p := p) (K := fun (w1 : Nat → Int64) => vp_in (nI p) 60 ∧ post (nI S.length + 1) (vp_updL w1 (nI p).toNatClampNeg (lN w))) ⟨nI_in (by omega) (by omega), ?_⟩ (S.length - p) S.length FU (by omega) (Nat.le_refl _) (FU_s _ (by omega))
  · rwa [e0] at key
  · rw [nI_clamp (by omega), ← nI_succ]
    refine h _ _ ⟨by rw [insAt_len], by rw [insAt_len]; omega, fun i n hi => ?_⟩
    unfold vp_updL shU
    unfold insAt at hi
    have hlt : (S.take p).length = p := by rw [List.length_take]; omega
    by_cases h1 : i = p
    · subst h1
      rw [List.getElem?_append_right (by omega), hlt, Nat.sub_self] at hi
      have := Option.some.inj hi
      rw [if_pos rfl, this]
    · rw [if_neg h1]
      by_cases h2 : i < p
      · rw [List.getElem?_append_left (by omega), List.getElem?_take_of_lt h2] at hi
        rw [if_neg (by omega)]
        exact hf i n hi
      · rw [List.getElem?_append_right (by omega), hlt] at hi
        obtain ⟨k, hk⟩ : ∃ k, i - p = k + 1 := ⟨i - p - 1, by omega⟩
        rw [hk, List.getElem?_cons_succ, List.getElem?_drop] at hi
        have hl := (List.getElem?_eq_some_iff.mp hi).1
        rw [if_pos (by omega)]
        have e : p + k = i - 1 := by omega
        rw [e] at hi
        exact hf (i - 1) n hi
theorem p_append {c : Int32} {f : Nat → Int64} {S : List Nat} (hr : rowIs c f S) (h60 : S.length < 60) {w : Nat} {post : Int32 → (Nat → Int64) → Prop} (h : ∀ c' f', rowIs c' f' (S ++ [w]) → post c' f') : P_X6_append post (lN w) c f := by
  unfold P_X6_append
  have e := hr.1
  rw [e] at hr ⊢
  refine p_insert hr h60 (Nat.le_refl _) fun c' f' h' => h c' f' ?_
  have : insAt S S.length w = S ++ [w] := by
    unfold insAt
    rw [List.take_length, List.drop_length]
  rwa [this] at h'
def shD (f : Nat → Int64) (p j : Nat) : Nat → Int64 := fun x => if p ≤ x ∧ x < j then f (x + 1) else f x
theorem p_delL {f : Nat → Int64} {L p : Nat} (hL : L < 60) {K : (Nat → Int64) → Prop} (h : K (shD f p L)) : ∀ m j fuel : Nat, j + m = L → p ≤ j → m < fuel → P_X6_delete_L25 (nI L) K fuel (nI j) (shD f p j) := by
  intro m
  induction m with
  | zero =>
    intro j fuel hj hp hf
    obtain ⟨g, rfl⟩ : ∃ g, fuel = g + 1 := ⟨fuel - 1, by omega⟩
    have e : j = L := by omega
    subst e
    unfold P_X6_delete_L25
    exact ⟨fun _ => h, fun q => absurd (nI_le (Nat.le_refl _) (by omega)) q⟩
  | succ m ih =>
    intro j fuel hj hp hf
    obtain ⟨g, rfl⟩ : ∃ g, fuel = g + 1 := ⟨fuel - 1, by omega⟩
    unfold P_X6_delete_L25
    rw [← nI_succ]
    refine ⟨fun q => absurd q (nI_ge (by omega) (by omega)), fun _ => ⟨nI_in (by omega) (by omega), nI_in (by omega) (by omega), ?_⟩⟩
    rw [nI_clamp (by omega), nI_clamp (by omega)]
    have e3 : vp_updL (shD f p j) j (shD f p j (j + 1)) = shD f p (j + 1) := by
      funext x
      unfold vp_updL shD
      by_cases hx : x = j
      · subst hx
        rw [if_pos rfl, if_neg (by omega), if_pos (by omega)]
      · rw [if_neg hx]
        by_cases h2 : p ≤ x ∧ x < j
        · rw [if_pos h2, if_pos (by omega)]
        · rw [if_neg h2, if_neg (by omega)]
    rw [e3]
    exact ih (j + 1) g (by omega) (by omega) (by omega)
def delAt (S : List Nat) (p : Nat) : List Nat := S.take p ++ S.drop (p + 1)
theorem delAt_len (S : List Nat) (p : Nat) (h : p < S.length) : (delAt S p).length = S.length - 1 := by
  unfold delAt
  rw [List.length_append, List.length_take, List.length_drop]
  omega
theorem p_delete {c : Int32} {f : Nat → Int64} {S : List Nat} (hr : rowIs c f S) {p : Nat} (hp : p < S.length) {post : Int32 → (Nat → Int64) → Prop} (h : ∀ c' f', rowIs c' f' (delAt S p) → post c' f') : P_X6_delete post (nI p) c f := by
  obtain ⟨rfl, h60, hf⟩ := hr
  have e1 : nI S.length - 1 = nI (S.length - 1) := by
    rw [show S.length = S.length - 1 + 1 by omega, nI_succ, Int32.add_sub_cancel]
    rfl
  unfold P_X6_delete
  rw [e1]
  refine ⟨fun q => absurd q (nI_pos (by omega)), fun _ => ⟨fun _ => ?_, fun q => absurd (nI_lt hp (by omega)) q⟩⟩
  have e0 : shD f p p = f := by
    funext x
    unfold shD
    rw [if_neg (by omega)]
  have key := p_delL (f := f) (L := S.length - 1) (p := p) (by omega) (K := fun (w1 : Nat → Int64) => post (nI (S.length - 1)) w1) ?_ (S.length - 1 - p) p FU (by omega) (Nat.le_refl _) (FU_s _ (by omega))
  · rwa [e0] at key
  · refine h _ _ ⟨by rw [delAt_len S p hp], by rw [delAt_len S p hp]; omega, fun i n hi => ?_⟩
    unfold shD
    unfold delAt at hi
    have hlt : (S.take p).length = p := by rw [List.length_take]; omega
    by_cases h2 : i < p
    · rw [List.getElem?_append_left (by omega), List.getElem?_take_of_lt h2] at hi
      rw [if_neg (by omega)]
      exact hf i n hi
    · rw [List.getElem?_append_right (by omega), hlt, List.getElem?_drop] at hi
      have hl := (List.getElem?_eq_some_iff.mp hi).1
      rw [if_pos (by omega)]
      have e : p + 1 + (i - p) = i + 1 := by omega
      rw [e] at hi
      exact hf (i + 1) n hi
theorem p_copyL {f g0 : Nat → Int64} {L : Nat} (hL : L ≤ 60) {K : (Nat → Int64) → Prop} (h : K (fun x => if x < L then g0 x else f x)) : ∀ m j fuel : Nat, j + m = L → m < fuel → P_X6_copy_L10 (nI L) g0 K fuel (nI j) (fun x => if x < j then g0 x else f x) := by
  intro m
  induction m with
  | zero =>
    intro j fuel hj hf
    obtain ⟨g, rfl⟩ : ∃ g, fuel = g + 1 := ⟨fuel - 1, by omega⟩
    have e : j = L := by omega
    subst e
    unfold P_X6_copy_L10
    exact ⟨fun _ => h, fun q => absurd (nI_le (Nat.le_refl _) (by omega)) q⟩
  | succ m ih =>
    intro j fuel hj hf
    obtain ⟨g, rfl⟩ : ∃ g, fuel = g + 1 := ⟨fuel - 1, by omega⟩
    unfold P_X6_copy_L10
    refine ⟨fun q => absurd q (nI_ge (by omega) (by omega)), fun _ => ⟨nI_in (by omega) (by omega), nI_in (by omega) (by omega), ?_⟩⟩
    rw [nI_clamp (by omega), ← nI_succ]
    have e3 : vp_updL (fun x => if x < j then g0 x else f x) j (g0 j) = fun x => if x < j + 1 then g0 x else f x := by
      funext x
      unfold vp_updL
      by_cases hx : x = j
      · subst hx
        rw [if_pos rfl, if_pos (by omega)]
      · rw [if_neg hx]
        show (if x < j then g0 x else f x) = _
        by_cases h2 : x < j
        · rw [if_pos h2, if_pos (by omega)]
        · rw [if_neg h2, if_neg (by omega)]
    rw [e3]
    exact ih (j + 1) g (by omega) (by omega)
theorem p_copy {c c2 : Int32} {f g0 : Nat → Int64} {S : List Nat} (hr : rowIs c2 g0 S) {post : Int32 → (Nat → Int64) → Prop} (h : ∀ c' f', rowIs c' f' S → post c' f') : P_X6_copy post c f c2 g0 := by
  obtain ⟨rfl, h60, hf⟩ := hr
  unfold P_X6_copy
  have key := p_copyL (f := f) (g0 := g0) h60 (K := fun (w1 : Nat → Int64) => post (nI S.length) w1) ?_ S.length 0 FU (Nat.zero_add _) (FU_s _ (by omega))
  · have e0 : (fun x : Nat => if x < 0 then g0 x else f x) = f := by
      funext x
      rw [if_neg (by omega)]
    rwa [e0] at key
  · refine h _ _ ⟨rfl, h60, fun i n hi => ?_⟩
    have hl := (List.getElem?_eq_some_iff.mp hi).1
    show (if i < S.length then g0 i else f i) = _
    rw [if_pos hl]
    exact hf i n hi
