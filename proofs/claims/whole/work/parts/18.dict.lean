/-! ranks and the dictionary -/
theorem amtL : ∀ i : Nat, i < 13 → ((5 * (12 - nI i)).toInt64 &&& 63).toBitVec.smod 64 = BitVec.ofNat 64 (5 * (12 - i)) := by decide +kernel
theorem shlN (n : Nat) {s : Int64} {k : Nat} (hs : s.toBitVec.smod 64 = BitVec.ofNat 64 k) (hk : k < 64) : lN n <<< s = lN (n * 2 ^ k) := by
  apply Int64.toBitVec_inj.mp
  show (BitVec.ofNat 64 n) <<< (s.toBitVec.smod 64) = BitVec.ofNat 64 (n * 2 ^ k)
  rw [hs]
  apply BitVec.eq_of_toNat_eq
  rw [BitVec.shiftLeft_eq', BitVec.toNat_shiftLeft, BitVec.toNat_ofNat, BitVec.toNat_ofNat, BitVec.toNat_ofNat, Nat.mod_eq_of_lt (show k < 2 ^ 64 by omega), Nat.shiftLeft_eq, Nat.mod_mul_mod]
def rk (n : Nat) : Nat := n * 32 ^ (12 - wlen n)
theorem rk_lt {n : Nat} (hn : n < 32 ^ 12) : rk n < 32 ^ 12 := by
  have hl : wlen n ≤ 12 := (wlen_le (by omega)).mpr hn
  have h := (wlen_le (n := n) (k := wlen n) (by omega)).mp (Nat.le_refl _)
  have e : (32 : Nat) ^ 12 = 32 ^ wlen n * 32 ^ (12 - wlen n) := by rw [← Nat.pow_add]; congr 1; omega
  rw [e]
  exact (Nat.mul_lt_mul_right (Nat.pow_pos (by decide))).mpr h
theorem rank_eq {n : Nat} (hn : n < 32 ^ 12) : lN n <<< ((5 * (12 - nI (wlen n))).toInt64 &&& 63) = lN (rk n) := by
  have hl : wlen n ≤ 12 := (wlen_le (by omega)).mpr hn
  rw [shlN n (amtL (wlen n) (by omega)) (by omega), p5]
  rfl
theorem p_rank {n : Nat} (hn : n < 32 ^ 12) {post : Int64 → Prop} (h : post (lN (rk n))) : P_X7_rank post (lN n) := by
  refine p_len hn ?_
  rw [rank_eq hn]
  exact h
theorem p_xkey {n : Nat} (hn : n < 32 ^ 12) {post : Int64 → Prop} (h : post (lN (rk n))) : P_X9_key post (lN n) := by
  refine p_xlen (by omega) ?_
  rw [rank_eq hn]
  exact h
theorem pow_val {n m a b : Nat} (hn : n % 32 ≠ 0) (hm : m % 32 ≠ 0) (h : n * 32 ^ a = m * 32 ^ b) : a = b ∧ n = m := by
  rcases Nat.lt_trichotomy a b with c | c | c
  · obtain ⟨d, rfl⟩ : ∃ d, b = a + (d + 1) := ⟨b - a - 1, by omega⟩
    rw [Nat.pow_add, Nat.mul_comm (32 ^ a), ← Nat.mul_assoc] at h
    have e := Nat.eq_of_mul_eq_mul_right (Nat.pow_pos (by decide)) h
    rw [Nat.pow_succ, ← Nat.mul_assoc] at e
    omega
  · subst c
    exact ⟨rfl, Nat.eq_of_mul_eq_mul_right (Nat.pow_pos (by decide)) h⟩
  · obtain ⟨d, rfl⟩ : ∃ d, a = b + (d + 1) := ⟨a - b - 1, by omega⟩
    rw [Nat.pow_add, Nat.mul_comm (32 ^ b), ← Nat.mul_assoc] at h
    have e := Nat.eq_of_mul_eq_mul_right (Nat.pow_pos (by decide)) h
    rw [Nat.pow_succ, ← Nat.mul_assoc] at e
    omega
theorem isW_mod {n : Nat} (h : isW n) : n % 32 ≠ 0 := by
  have h0 : 0 < wlen n := (lt_wlen (by omega)).mpr (by have := h.1; simp; omega)
  have := (h.2.2 0 h0).1
  rw [dg_0] at this
  omega
theorem rk_inj {n m : Nat} (hn : isW n) (hm : isW m) (h : rk n = rk m) : n = m := (pow_val (isW_mod hn) (isW_mod hm) h).2
theorem rk_pos {n : Nat} (hn : isW n) : 0 < rk n := Nat.mul_pos hn.1 (Nat.pow_pos (by decide))
/-- a dictionary's words, in order -/
def dicS (S : List Nat) : Prop := (∀ n ∈ S, isW n) ∧ S.Pairwise (fun a b => rk a < rk b)
def plc : List Nat → Nat → Nat
  | [], _ => 0
  | a :: S, r => if rk a < r then plc S r + 1 else 0
theorem plc_le : ∀ (S : List Nat) (r : Nat), plc S r ≤ S.length
  | [], _ => Nat.le_refl 0
  | a :: S, r => by
    have := plc_le S r
    unfold plc
    split
    · rw [List.length_cons]; omega
    · exact Nat.zero_le _
theorem p_plcL {c : Int32} {f : Nat → Int64} {S : List Nat} (hr : rowIs c f S) (hS : ∀ n ∈ S, isW n) {r : Nat} (hr2 : r < 32 ^ 12) {K : Int32 → Prop} (h : K (nI (plc S r))) : ∀ (T : List Nat) (i fuel : Nat), S.drop i = T → i ≤ S.length → plc S r = i + plc T r → T.length < fuel → P_X1_placeOf_L8 (lN r) c f K fuel (nI i) := by
  intro T
  have h60 := hr.2.1
  have hc := hr.1
  induction T with
  | nil =>
    intro i fuel hd hi he hf
    obtain ⟨g, rfl⟩ : ∃ g, fuel = g + 1 := ⟨fuel - 1, by simp at hf; omega⟩
    have hlen : S.length ≤ i := by
      have := congrArg List.length hd
      rw [List.length_drop] at this
      simp at this; omega
    have ei : i = plc S r := by rw [he]; rfl
    unfold P_X1_placeOf_L8
    refine ⟨fun _ => by rw [ei]; exact h, fun q => absurd ?_ q⟩
    rw [hc]
    exact nI_le hlen (by omega)
  | cons a T ih =>
    intro i fuel hd hi he hf
    obtain ⟨g, rfl⟩ : ∃ g, fuel = g + 1 := ⟨fuel - 1, by simp at hf; omega⟩
    have hai : S[i]? = some a := by
      have := List.getElem?_drop (xs := S) (i := i) (j := 0)
      rw [hd] at this
      simpa using this.symm
    have hil := (List.getElem?_eq_some_iff.mp hai).1
    have hwa := hS a (List.mem_of_getElem? hai)
    have hd2 : S.drop (i + 1) = T := by
      rw [← List.drop_drop (i := 1) (j := i) (l := S)] <;> rw [hd]
      rfl
    unfold P_X1_placeOf_L8
    refine ⟨fun q => absurd q ?_, fun _ => p_word hr hai (p_rank hwa.2.1 ⟨fun q => ?_, fun q => ?_⟩)⟩
    · rw [hc]; exact nI_ge hil (by omega)
    · have q' := (pk_lLE (a := r) (b := rk a) (by omega) (Nat.lt_trans (rk_lt hwa.2.1) (by decide))).mp q
      have : plc (a :: T) r = 0 := by unfold plc; rw [if_neg (by omega)]
      rw [this] at he
      rw [show i = plc S r by omega]
      exact h
    · have q' : ¬ r ≤ rk a := fun z => q ((pk_lLE (a := r) (b := rk a) (by omega) (Nat.lt_trans (rk_lt hwa.2.1) (by decide))).mpr z)
      have : plc (a :: T) r = plc T r + 1 := by show (if rk a < r then plc T r + 1 else 0) = _; rw [if_pos (by omega)]
      rw [← nI_succ]
      exact ih (i + 1) g hd2 (by omega) (by omega) (by simp at hf; omega)
theorem p_place {c : Int32} {f : Nat → Int64} {S : List Nat} (hr : rowIs c f S) (hS : ∀ n ∈ S, isW n) {n : Nat} (hn : n < 32 ^ 12) {post : Int32 → Prop} (h : post (nI (plc S (rk n)))) : P_X1_placeOf post (lN n) c f := by
  refine p_rank hn ?_
  have h60 := hr.2.1
  exact p_plcL hr hS (rk_lt hn) h S 0 FU rfl (Nat.zero_le _) (Nat.zero_add _).symm (FU_s _ (by omega))
theorem plc_mem : ∀ {S : List Nat} {n : Nat}, dicS S → n ∈ S → S[plc S (rk n)]? = some n
  | [], _, _, h => by cases h
  | a :: S, n, hd, h => by
    rcases List.mem_cons.mp h with e | e
    · subst e
      have : plc (n :: S) (rk n) = 0 := by unfold plc; rw [if_neg (Nat.lt_irrefl _)]
      rw [this]
      rfl
    · have hlt := (List.pairwise_cons.mp hd.2).1 n e
      have : plc (a :: S) (rk n) = plc S (rk n) + 1 := by show (if rk a < rk n then _ else _) = _; rw [if_pos hlt]
      rw [this, List.getElem?_cons_succ]
      exact plc_mem ⟨fun m hm => hd.1 m (List.mem_cons_of_mem _ hm), (List.pairwise_cons.mp hd.2).2⟩ e
theorem p_contains {c : Int32} {f : Nat → Int64} {S : List Nat} (hr : rowIs c f S) (hd : dicS S) {n : Nat} (hw : isW n) {post : Int32 → Prop} (h1 : n ∈ S → post 1) (h0 : n ∉ S → post 0) : P_X1_contains post (lN n) c f := by
  have h60 := hr.2.1
  refine p_place hr hd.1 hw.2.1 ?_
  have hn := hw.2.1
  by_cases hm : n ∈ S
  · exact p_word hr (plc_mem hd hm) ⟨fun _ => h1 hm, fun q => absurd rfl q⟩
  · by_cases hp : plc S (rk n) < S.length
    · refine p_word hr (List.getElem?_eq_getElem hp) ⟨fun q => absurd ?_ hm, fun _ => h0 hm⟩
      have hmem := List.getElem_mem hp
      have := (hd.1 _ hmem).2.1
      have e := (pk_lEQ (by omega) (by omega)).mp q
      rw [← e]
      exact hmem
    · refine p_word0 hr (Nat.le_of_not_lt hp) (by have := plc_le S (rk n); omega) ⟨fun q => ?_, fun _ => h0 hm⟩
      have := (lN_ne0 (n := n) (by omega)).mp q.symm
      have := hw.1
      omega
def insS (S : List Nat) (n : Nat) : List Nat := insAt S (plc S (rk n)) n
def delS (S : List Nat) (n : Nat) : List Nat := delAt S (plc S (rk n))
theorem p_dinsert {c : Int32} {f : Nat → Int64} {S : List Nat} (hr : rowIs c f S) (hS : ∀ n ∈ S, isW n) (h60 : S.length < 60) {n : Nat} (hn : n < 32 ^ 12) {post : Int32 → (Nat → Int64) → Prop} (h : ∀ c' f', rowIs c' f' (insS S n) → post c' f') : P_X1_insert post (lN n) c f :=
  p_place hr hS hn (p_insert hr h60 (plc_le _ _) h)
theorem p_ddelete {c : Int32} {f : Nat → Int64} {S : List Nat} (hr : rowIs c f S) (hd : dicS S) {n : Nat} (hm : n ∈ S) {post : Int32 → (Nat → Int64) → Prop} (h : ∀ c' f', rowIs c' f' (delS S n) → post c' f') : P_X1_delete post (lN n) c f :=
  p_place hr hd.1 (hd.1 n hm).2.1 (p_delete hr (List.getElem?_eq_some_iff.mp (plc_mem hd hm)).1 h)
