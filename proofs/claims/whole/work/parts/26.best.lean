/-! sales: what can be sold, and the best of it -/
def okB (u : Nat → Nat) (m : Nat) : Bool := (List.range 27).all (fun l => l == 0 || decide (cnt m l ≤ u l))
theorem okB_iff {u : Nat → Nat} {m : Nat} : okB u m = true ↔ okU u m (wlen m) := by
  unfold okB okU
  rw [List.all_eq_true]
  constructor
  · intro h l a b
    have := h l (List.mem_range.mpr (by omega))
    simp at this
    rcases this with e | e
    · omega
    · exact e
  · intro h l hl
    have hl' := List.mem_range.mp hl
    simp
    by_cases e : l = 0
    · exact Or.inl e
    · exact Or.inr (h l (by omega) (by omega))
theorem okB_f {u : Nat → Nat} {m : Nat} : okB u m = false ↔ ¬ okU u m (wlen m) := by
  rw [← okB_iff]
  cases okB u m <;> simp
def refN (S : List Nat) (u b : Nat → Nat) (B n : Nat) : Nat := if n ∈ S then (if okB u n = true then (if costN n u b ≤ B then 0 else 3) else 2) else 1
def selB (u b : Nat → Nat) (B n : Nat) : Bool := okB u n && decide (costN n u b ≤ B)
theorem costN_le {n : Nat} (hw : isW n) {u b : Nat → Nat} (hb : ∀ l : Nat, 1 ≤ l → l ≤ 26 → b l < 1000) : costN n u b ≤ 7500 := by
  have hl := isW_len hw
  have hs := sumN_le hw (u := u) hb (wlen n) (Nat.le_refl _)
  unfold costN
  omega
def isWt (v : Nat → Int32) : Prop := ∀ l : Nat, 1 ≤ l → l ≤ 26 → v l = nI (wN l)
theorem isB_lt {v : Nat → Int32} {b : Nat → Nat} (hb : isB v b) : ∀ l : Nat, 1 ≤ l → l ≤ 26 → b l < 1000 := fun l a c => (hb l a c).2.2
theorem p_canSell {n B : Nat} (hw : isW n) (hB : B < 2 ^ 31) {v v1 v2 : Nat → Int32} {u b : Nat → Nat} (hu : isU v u) (hb : isB v1 b) (ht : isWt v2) {post : Int32 → (Nat → Int32) → Prop} (h1 : selB u b B n = true → post 1 v) (h0 : selB u b B n = false → post 0 v) : P_X5_canSell post (lN n) (nI B) v v1 v2 := by
  have hc := costN_le hw (u := u) (isB_lt hb)
  refine p_holds hw hu (fun ho => ⟨fun z => absurd z (by decide), fun _ => p_weigh hw hu hb ht ho ⟨fun z => h0 ?_, fun z => h1 ?_⟩⟩) (fun ho => ⟨fun _ => h0 ?_, fun z => absurd rfl z⟩)
  · have := (nlt hB (by omega)).mp z
    unfold selB
    rw [decide_eq_false (by omega), Bool.and_false]
  · have : ¬ B < costN n u b := fun w => z ((nlt hB (by omega)).mpr w)
    unfold selB
    rw [decide_eq_true (by omega), okB_iff.mpr ho]
    rfl
  · unfold selB
    rw [okB_f.mpr ho, Bool.false_and]
theorem p_reason {n B : Nat} (hw : isW n) (hB : B < 2 ^ 31) {c : Int32} {f : Nat → Int64} {S : List Nat} (hr : rowIs c f S) (hd : dicS S) {v v1 v2 : Nat → Int32} {u b : Nat → Nat} (hu : isU v u) (hb : isB v1 b) (ht : isWt v2) {post : Int32 → (Nat → Int32) → Prop} (h : post (nI (refN S u b B n)) v) : P_X8_reasonAgainst post (lN n) (nI B) c f v v1 v2 := by
  have hc := costN_le hw (u := u) (isB_lt hb)
  unfold refN at h
  refine p_contains hr hd hw (fun hm => ⟨fun z => absurd z (by decide), fun _ => ?_⟩) (fun hm => ⟨fun _ => ?_, fun z => absurd rfl z⟩)
  · rw [if_pos hm] at h
    refine p_holds hw hu (fun ho => ⟨fun z => absurd z (by decide), fun _ => p_weigh hw hu hb ht ho ⟨fun z => ?_, fun z => ?_⟩⟩) (fun ho => ⟨fun _ => ?_, fun z => absurd rfl z⟩)
    · have := (nle (by omega) hB).mp z
      rw [if_pos (okB_iff.mpr ho), if_pos this] at h
      exact h
    · have : ¬ costN n u b ≤ B := fun w => z ((nle (by omega) hB).mpr w)
      rw [if_pos (okB_iff.mpr ho), if_neg this] at h
      exact h
    · rw [if_neg (fun w => ho (okB_iff.mp w))] at h
      exact h
  · rw [if_neg hm] at h
    exact h
theorem p_xref {n B : Nat} (hw : isW n) (hB : B < 2 ^ 31) {v1 : Int32} {v6 : Nat → Int64} {S M : List Nat} (hr : rowIs v1 v6 M) (hd : dRel S M) {v7 v8 : Nat → Int32} {u b : Nat → Nat} (hu : isU v7 u) (hb : isB v8 b) {v0 v2 v3 v4 v5 : Int32} {v9 v10 v11 : Nat → Int32} {post : Int32 → Int32 → (Nat → Int32) → (Nat → Int32) → (Nat → Int32) → Prop}
    (h : ∀ sp co w, spelIs n sp co → post (nI (refN S u b B n)) (nI (wlen n)) sp co w) : P_X9_refusal post (lN n) (nI B) v0 v1 v2 v3 v4 v5 v6 v7 v8 v9 v10 v11 := by
  have hc := costN_le hw (u := u) (isB_lt hb)
  refine p_xspell hw (fun sp co hs => ?_)
  refine p_xplace hr (dRel_W hd) hw (fun k hk60 hk => ⟨fun z => absurd z (nI_m1 (by omega)), fun _ => ?_⟩) (fun hm => ⟨fun _ => ?_, fun z => absurd rfl z⟩)
  · have hm : n ∈ S := hd.2.mem_iff.mp (List.mem_of_getElem? hk)
    refine p_xmissing hw.2.1 hu hs.2 (fun l hl => ⟨fun z => absurd z (missAt_m1 hl), fun _ => ?_⟩) (fun ho => ⟨fun _ => ?_, fun z => absurd rfl z⟩)
    · have := h sp co v11 hs
      unfold refN at this
      rw [if_pos hm, if_neg (fun w => missAt_no hl (okB_iff.mp w))] at this
      exact this
    · refine p_xcost hw hu hb hs.1 ho (fun w => ⟨fun z => ?_, fun z => ?_⟩)
      · have e := (nle (by omega) hB).mp z
        have := h sp co w hs
        unfold refN at this
        rw [if_pos hm, if_pos (okB_iff.mpr ho), if_pos e] at this
        exact this
      · have e : ¬ costN n u b ≤ B := fun w => z ((nle (by omega) hB).mpr w)
        have := h sp co w hs
        unfold refN at this
        rw [if_pos hm, if_pos (okB_iff.mpr ho), if_neg e] at this
        exact this
  · have hm' : n ∉ S := fun z => hm (hd.2.mem_iff.mpr z)
    have := h sp co v11 hs
    unfold refN at this
    rw [if_neg hm'] at this
    exact this
theorem ref_sel {S : List Nat} {u b : Nat → Nat} {B n : Nat} (hm : n ∈ S) : refN S u b B n = 0 ↔ selB u b B n = true := by
  unfold refN selB
  rw [if_pos hm]
  cases okB u n with
  | false => simp
  | true =>
    by_cases e : costN n u b ≤ B
    · simp [e]
    · simp [e]
theorem ref_le {S : List Nat} {u b : Nat → Nat} {B n : Nat} : refN S u b B n ≤ 3 := by
  unfold refN
  split
  · split
    · split <;> omega
    · omega
  · omega
/-- the better of two words -/
def bett (u b : Nat → Nat) (n m : Nat) : Prop := wlen m < wlen n ∨ (wlen n = wlen m ∧ (costN n u b < costN m u b ∨ (costN n u b = costN m u b ∧ rk n < rk m)))
theorem bett_tr {u b : Nat → Nat} {x y z : Nat} (h : bett u b x y) (g : bett u b y z) : bett u b x z := by
  unfold bett at *
  omega
theorem bett_irr {u b : Nat → Nat} {x : Nat} (h : bett u b x x) : False := by
  unfold bett at h
  omega
def isBest (u b : Nat → Nat) (A : Nat → Prop) (x : Nat) : Prop := (x = 0 ∧ ∀ m : Nat, ¬ A m) ∨ (A x ∧ ∀ m : Nat, A m → m = x ∨ bett u b x m)
theorem best_one {u b : Nat → Nat} {A : Nat → Prop} {x y : Nat} (h : isBest u b A x) (g : isBest u b A y) : x = y := by
  rcases h with ⟨h1, h2⟩ | ⟨h1, h2⟩ <;> rcases g with ⟨g1, g2⟩ | ⟨g1, g2⟩
  · omega
  · exact absurd g1 (h2 y)
  · exact absurd h1 (g2 x)
  · rcases h2 y g1 with e | e
    · exact e.symm
    · rcases g2 x h1 with d | d
      · exact d
      · exact (bett_irr (bett_tr e d)).elim
def curB (u b : Nat → Nat) (A : Nat → Prop) (x l c : Nat) : Prop := (x = 0 ∧ l = 0 ∧ c = 0 ∧ ∀ m : Nat, ¬ A m) ∨ (A x ∧ l = wlen x ∧ c = costN x u b ∧ ∀ m : Nat, A m → m = x ∨ bett u b x m)
theorem p_bestL {B : Nat} (hB : B < 2 ^ 31) {c : Int32} {f : Nat → Int64} {S : List Nat} (hr : rowIs c f S) (hd : dicS S) {v v3 v4 : Nat → Int32} {u b : Nat → Nat} (hu : isU v u) (hb : isB v3 b) (ht : isWt v4) {K : Int64 → (Nat → Int32) → Prop} (h : ∀ x : Nat, isBest u b (fun m => m ∈ S ∧ selB u b B m = true) x → K (lN x) v) :
    ∀ (T : List Nat) (i fuel x l k : Nat), S.drop i = T → i ≤ S.length → T.length < fuel → curB u b (fun m => m ∈ S.take i ∧ selB u b B m = true) x l k → P_X8_bestFor_L11 (nI B) c f v3 v4 K fuel (lN x) (nI l) (nI k) (nI i) v := by
  obtain ⟨rfl, h60, -⟩ := id hr
  intro T
  induction T with
  | nil =>
    intro i fuel x l k hdr hi hf hc
    obtain ⟨g, rfl⟩ : ∃ g, fuel = g + 1 := ⟨fuel - 1, by simp at hf; omega⟩
    unfold P_X8_bestFor_L11
    refine ⟨fun _ => h x ?_, fun z => absurd (nI_le (drop_nil hdr) (by omega)) z⟩
    rw [List.take_of_length_le (drop_nil hdr)] at hc
    rcases hc with ⟨a, -, -, d⟩ | ⟨a, -, -, d⟩
    · exact Or.inl ⟨a, d⟩
    · exact Or.inr ⟨a, d⟩
  | cons m T ih =>
    intro i fuel x l k hdr hi hf hc
    obtain ⟨g, rfl⟩ : ∃ g, fuel = g + 1 := ⟨fuel - 1, by simp at hf; omega⟩
    obtain ⟨hai, hd2⟩ := drop_at hdr
    have hil := (List.getElem?_eq_some_iff.mp hai).1
    have hwm := hd.1 m (List.mem_of_getElem? hai)
    have hf2 : T.length < g := by simp at hf; omega
    have hlm := isW_len hwm
    have hl1 : 1 ≤ wlen m := Nat.pos_of_ne_zero fun e => by have := wlen_0iff.mp e; have := hwm.1; omega
    have hcm := costN_le hwm (u := u) (isB_lt hb)
    have mem : ∀ y, y ∈ S.take (i + 1) ↔ y ∈ S.take i ∨ y = m := fun y => by
      rw [List.take_add_one, hai, List.mem_append]
      simp
    have before : ∀ y, y ∈ S.take i → rk y < rk m := fun y hy => by
      have hs := hd.2
      rw [← List.take_append_drop i S] at hs
      exact (List.pairwise_append.mp hs).2.2 y hy m (by rw [hdr]; exact List.mem_cons_self)
    have hlk : l ≤ 12 ∧ k ≤ 7500 := by
      rcases hc with ⟨-, a, d, -⟩ | ⟨a, d, e, -⟩
      · omega
      · have hwx := hd.1 x (List.mem_of_mem_take a.1)
        have := isW_len hwx
        have := costN_le hwx (u := u) (isB_lt hb)
        omega
    -- m isn't taken: x stays
    have keep : (selB u b B m = true → x ≠ 0 ∧ bett u b x m) → curB u b (fun y => y ∈ S.take (i + 1) ∧ selB u b B y = true) x l k := fun hk => by
      rcases hc with ⟨a, d, e, hno⟩ | ⟨a, d, e, hall⟩
      · refine Or.inl ⟨a, d, e, fun y hy => ?_⟩
        rcases (mem y).mp hy.1 with z | z
        · exact hno y ⟨z, hy.2⟩
        · have := hy.2
          rw [z] at this
          exact (hk this).1 a
      · refine Or.inr ⟨⟨(mem x).mpr (Or.inl a.1), a.2⟩, d, e, fun y hy => ?_⟩
        rcases (mem y).mp hy.1 with z | z
        · exact hall y ⟨z, hy.2⟩
        · have := hy.2
          rw [z] at this ⊢
          exact Or.inr (hk this).2
    have take : selB u b B m = true → (∀ y, y = x → y ∈ S.take i ∧ selB u b B y = true → bett u b m y) → curB u b (fun y => y ∈ S.take (i + 1) ∧ selB u b B y = true) m (wlen m) (costN m u b) := fun hm hx => by
      refine Or.inr ⟨⟨(mem m).mpr (Or.inr rfl), hm⟩, rfl, rfl, fun y hy => ?_⟩
      rcases (mem y).mp hy.1 with z | z
      · rcases hc with ⟨-, -, -, hno⟩ | ⟨a, -, -, hall⟩
        · exact absurd ⟨z, hy.2⟩ (hno y)
        · rcases hall y ⟨z, hy.2⟩ with w | w
          · exact Or.inr (hx y w ⟨z, hy.2⟩)
          · exact Or.inr (bett_tr (hx x rfl a) w)
      · exact Or.inl z
    unfold P_X8_bestFor_L11
    rw [← nI_succ]
    refine ⟨fun z => absurd z (nI_ge hil (by omega)), fun _ => p_word hr hai (p_len hwm.2.1 ⟨fun z => ?_, fun z => p_canSell hwm hB hu hb ht (fun hs => ⟨fun w => absurd w (by decide), fun _ => ?_⟩) (fun hs => ⟨fun _ => ?_, fun w => absurd rfl w⟩)⟩)⟩
    · have z' := (nlt (by omega) (by omega)).mp z
      refine ih (i + 1) g x l k hd2 (by omega) hf2 (keep fun _ => ?_)
      rcases hc with ⟨-, d, -, -⟩ | ⟨a, d, -, -⟩
      · omega
      · have hwx := hd.1 x (List.mem_of_mem_take a.1)
        exact ⟨fun e => by have := hwx.1; omega, Or.inl (by omega)⟩
    · have z' : ¬ wlen m < l := fun w => z ((nlt (by omega) (by omega)).mpr w)
      have ho : okU u m (wlen m) := okB_iff.mp (by unfold selB at hs; exact (Bool.and_eq_true_iff.mp hs).1)
      refine p_weigh hwm hu hb ht ho ⟨fun w => ?_, fun w => ⟨fun y => ?_, fun y => ?_⟩⟩
      · have w' := (nlt (by omega) (by omega)).mp w
        refine ih (i + 1) g m (wlen m) (costN m u b) hd2 (by omega) hf2 (take hs fun y hy hA => ?_)
        rcases hc with ⟨a, -, -, hno⟩ | ⟨a, d, -, -⟩
        · exact absurd hA (hno y)
        · rw [hy]; exact Or.inl (by omega)
      · have w' : ¬ l < wlen m := fun e => w ((nlt (by omega) (by omega)).mpr e)
        have y' := (nle (by omega) (by omega)).mp y
        refine ih (i + 1) g x l k hd2 (by omega) hf2 (keep fun _ => ?_)
        rcases hc with ⟨-, d, -, -⟩ | ⟨a, d, e, -⟩
        · omega
        · have hwx := hd.1 x (List.mem_of_mem_take a.1)
          have hrk := before x a.1
          refine ⟨fun q => by have := hwx.1; omega, Or.inr ⟨by omega, ?_⟩⟩
          omega
      · have w' : ¬ l < wlen m := fun e => w ((nlt (by omega) (by omega)).mpr e)
        have y' : ¬ k ≤ costN m u b := fun e => y ((nle (by omega) (by omega)).mpr e)
        refine ih (i + 1) g m (wlen m) (costN m u b) hd2 (by omega) hf2 (take hs fun q hq hA => ?_)
        rcases hc with ⟨a, -, -, hno⟩ | ⟨a, d, e, -⟩
        · exact absurd hA (hno q)
        · rw [hq]; exact Or.inr ⟨by omega, Or.inl (by omega)⟩
    · exact ih (i + 1) g x l k hd2 (by omega) hf2 (keep fun q => absurd (hs.symm.trans q) (by decide))
theorem p_best {B : Nat} (hB : B < 2 ^ 31) {c : Int32} {f : Nat → Int64} {S : List Nat} (hr : rowIs c f S) (hd : dicS S) {v v3 v4 : Nat → Int32} {u b : Nat → Nat} (hu : isU v u) (hb : isB v3 b) (ht : isWt v4) {post : Int64 → (Nat → Int32) → Prop} (h : ∀ x : Nat, isBest u b (fun m => m ∈ S ∧ selB u b B m = true) x → post (lN x) v) : P_X8_bestFor post (nI B) c f v v3 v4 := by
  have h60 := hr.2.1
  have key := p_bestL hB hr hd hu hb ht (K := fun (x10 : Int64) (w11 : Nat → Int32) => post x10 w11) h S 0 FU 0 0 0 rfl (Nat.zero_le _) (FU_s _ (by omega)) (Or.inl ⟨rfl, rfl, rfl, fun m hm => by simp at hm⟩)
  have e : lN 0 = 0 := rfl
  rw [e, nI_0] at key
  exact key
