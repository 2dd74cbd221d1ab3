/-! plans: lists of words out of the fitting ones, tried in order, the first of the best is kept -/
def lenS : List Nat → Nat
  | [] => 0
  | w :: c => wlen w + lenS c
def cntS : List Nat → Nat → Nat
  | [], _ => 0
  | w :: c, l => cnt w l + cntS c l
theorem lenS_app : ∀ a b : List Nat, lenS (a ++ b) = lenS a + lenS b
  | [], b => (Nat.zero_add _).symm
  | w :: a, b => by
    have := lenS_app a b
    show wlen w + lenS (a ++ b) = wlen w + lenS a + lenS b
    omega
theorem cntS_app (l : Nat) : ∀ a b : List Nat, cntS (a ++ b) l = cntS a l + cntS b l
  | [], b => (Nat.zero_add _).symm
  | w :: a, b => by
    have := cntS_app l a b
    show cnt w l + cntS (a ++ b) l = cnt w l + cntS a l + cntS b l
    omega
def fitC (n : Nat) (c : List Nat) : Bool := (List.range 27).all (fun l => l == 0 || decide (cntS c l ≤ cnt n l))
theorem fitC_iff {n : Nat} {c : List Nat} : fitC n c = true ↔ ∀ l : Nat, 1 ≤ l → l ≤ 26 → cntS c l ≤ cnt n l := by
  unfold fitC
  rw [List.all_eq_true]
  constructor
  · intro h l a b
    have := h l (List.mem_range.mpr (by omega))
    rw [Bool.or_eq_true] at this
    rcases this with z | z
    · have := beq_iff_eq.mp z; omega
    · exact of_decide_eq_true z
  · intro h l hl
    have hl2 := List.mem_range.mp hl
    rw [Bool.or_eq_true]
    by_cases e : l = 0
    · exact Or.inl (beq_iff_eq.mpr e)
    · exact Or.inr (decide_eq_true (h l (by omega) (by omega)))
theorem fitC_sub {n : Nat} {a b : List Nat} (h : fitC n (a ++ b) = true) : fitC n a = true := fitC_iff.mpr fun l p q => by
  have := fitC_iff.mp h l p q
  rw [cntS_app] at this
  omega
theorem fitC_nil (n : Nat) : fitC n [] = true := fitC_iff.mpr fun _ _ _ => Nat.zero_le _
def stp (n : Nat) (s : List Nat × Nat) (c : List Nat) : List Nat × Nat := if s.2 < lenS c ∧ fitC n c = true then (c, lenS c) else s
def runP (n : Nat) (s : List Nat × Nat) (L : List (List Nat)) : List Nat × Nat := L.foldl (stp n) s
theorem run_app (n : Nat) (s : List Nat × Nat) (L L' : List (List Nat)) : runP n s (L ++ L') = runP n (runP n s L) L' := List.foldl_append
theorem run_skip {n : Nat} {s : List Nat × Nat} : ∀ L : List (List Nat), (∀ c ∈ L, lenS c ≤ s.2 ∨ fitC n c = false) → runP n s L = s
  | [], _ => rfl
  | c :: L, h => by
    have e : stp n s c = s := if_neg fun q => by
      rcases h c List.mem_cons_self with z | z
      · omega
      · rw [q.2] at z; cases z
    show runP n (stp n s c) L = s
    rw [e]
    exact run_skip L fun d hd => h d (List.mem_cons_of_mem _ hd)
def tjP (g : List Nat → List (List Nat)) : List Nat → List (List Nat)
  | [] => []
  | x :: T => (g (x :: T)).map (fun c => x :: c) ++ tjP g T
def seqP : Nat → List Nat → List (List Nat)
  | 0 => fun _ => [[]]
  | p + 1 => tjP (seqP p)
/-- the members of the sequences -/
theorem seq_mem : ∀ (p : Nat) (F : List Nat), ∀ c ∈ seqP p F, c.length = p ∧ ∀ w ∈ c, w ∈ F := by
  intro p
  induction p with
  | zero =>
    intro F c hc
    have : c = [] := by simpa [seqP] using hc
    subst this
    exact ⟨rfl, fun w hw => absurd hw List.not_mem_nil⟩
  | succ p ih =>
    intro F
    induction F with
    | nil => intro c hc; exact absurd hc List.not_mem_nil
    | cons x T ihT =>
      intro c hc
      have hc' : c ∈ (seqP p (x :: T)).map (fun c => x :: c) ++ seqP (p + 1) T := hc
      rcases List.mem_append.mp hc' with z | z
      · obtain ⟨d, hd, rfl⟩ := List.mem_map.mp z
        have ⟨e1, e2⟩ := ih (x :: T) d hd
        refine ⟨by rw [List.length_cons, e1], fun w hw => ?_⟩
        rcases List.mem_cons.mp hw with q | q
        · rw [q]; exact List.mem_cons_self
        · exact e2 w q
      · have ⟨e1, e2⟩ := ihT c z
        exact ⟨e1, fun w hw => List.mem_cons_of_mem _ (e2 w hw)⟩
theorem lenS_le {lg : Nat} : ∀ c : List Nat, (∀ w ∈ c, wlen w ≤ lg) → lenS c ≤ c.length * lg
  | [], _ => Nat.zero_le _
  | w :: c, h => by
    have a := h w List.mem_cons_self
    have b := lenS_le c fun x hx => h x (List.mem_cons_of_mem _ hx)
    show wlen w + lenS c ≤ (c.length + 1) * lg
    rw [Nat.add_mul, Nat.one_mul]
    omega
/-- all plans with so many words at most, the shorter ones first -/
def canP : Nat → List Nat → List (List Nat)
  | 0, _ => []
  | k + 1, F => canP k F ++ seqP (k + 1) F
def outP (n k : Nat) (F : List Nat) : List Nat × Nat := runP n ([], 0) (canP k F)
/-- what the state of the search is -/
def okP (n : Nat) (F : List Nat) (k : Nat) (s : List Nat × Nat) : Prop := s.2 = lenS s.1 ∧ fitC n s.1 = true ∧ s.1.length ≤ k ∧ ∀ w ∈ s.1, w ∈ F
theorem okP_stp {n k : Nat} {F c : List Nat} {s : List Nat × Nat} (h : okP n F k s) (hc : c.length ≤ k) (hF : ∀ w ∈ c, w ∈ F) : okP n F k (stp n s c) := by
  unfold stp
  split
  · next q => exact ⟨rfl, q.2, hc, hF⟩
  · exact h
theorem okP_run {n k : Nat} {F : List Nat} : ∀ (L : List (List Nat)) (s : List Nat × Nat), okP n F k s → (∀ c ∈ L, c.length ≤ k ∧ ∀ w ∈ c, w ∈ F) → okP n F k (runP n s L)
  | [], s, h, _ => h
  | c :: L, s, h, hL => okP_run L _ (okP_stp h (hL c List.mem_cons_self).1 (hL c List.mem_cons_self).2) fun d hd => hL d (List.mem_cons_of_mem _ hd)
theorem canP_mem {F : List Nat} : ∀ (k : Nat), ∀ c ∈ canP k F, c.length ≤ k ∧ ∀ w ∈ c, w ∈ F
  | 0, c, hc => absurd hc List.not_mem_nil
  | k + 1, c, hc => by
    rcases List.mem_append.mp hc with z | z
    · have := canP_mem k c z
      exact ⟨by omega, this.2⟩
    · have := seq_mem (k + 1) F c z
      exact ⟨by omega, this.2⟩
theorem outP_ok (n k : Nat) (F : List Nat) : okP n F k (outP n k F) := okP_run _ _ ⟨rfl, fitC_nil n, Nat.zero_le _, fun w hw => absurd hw List.not_mem_nil⟩ (canP_mem k)
/-- the letters of words, counted -/
theorem sumT_cntS : ∀ c : List Nat, (∀ w ∈ c, isW w) → sumT (cntS c) 32 = lenS c
  | [], _ => sumT_0 32
  | w :: c, h => by
    have a := sumT_cntS c fun x hx => h x (List.mem_cons_of_mem _ hx)
    have b := sumT_add (cnt w) (cntS c) 32
    have d := sumT_cntU w (wlen w)
    show sumT (fun l => cnt w l + cntS c l) 32 = wlen w + lenS c
    rw [b, a]
    show sumT (cntU w (wlen w)) 32 + lenS c = _
    rw [d]
theorem cntS_out {c : List Nat} {l : Nat} (h : ∀ w ∈ c, isW w) (hl : l = 0 ∨ 26 < l) : cntS c l = 0 := by
  induction c with
  | nil => rfl
  | cons w c ih =>
    show cnt w l + cntS c l = 0
    rw [cnt_out (h w List.mem_cons_self) hl, ih fun x hx => h x (List.mem_cons_of_mem _ hx)]
theorem fitC_len {n : Nat} {c : List Nat} (hc : ∀ w ∈ c, isW w) (h : fitC n c = true) : lenS c ≤ wlen n := by
  rw [← sumT_cntS c hc, ← sumT_cntU n (wlen n)]
  refine sumT_le 32 fun l hl => ?_
  by_cases e : l = 0 ∨ 26 < l
  · rw [cntS_out hc e]; exact Nat.zero_le _
  · exact fitC_iff.mp h l (by omega) (by omega)
