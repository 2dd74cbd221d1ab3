/-! what each method asks, by program from its bytecode (wip/whole/gen) -/
def P_X7_lengthOf_L2 (z0 : Int64) (K24 : Int32 → Prop) : Nat → Int32 → Prop
  | 0, _ => False
  | n + 1, z2 => (12 ≤ z2 → K24 z2) ∧ (¬ (12 ≤ z2) → (((z0.toUInt64 >>> ((5 * z2).toInt64.toUInt64 &&& Int64.toUInt64 63)).toInt64) = 0 → K24 z2) ∧ (¬ (((z0.toUInt64 >>> ((5 * z2).toInt64.toUInt64 &&& Int64.toUInt64 63)).toInt64) = 0) → P_X7_lengthOf_L2 z0 K24 n (z2 + 1)))
def P_X7_lengthOf (post : Int32 → Prop) (p0 : Int64) : Prop := P_X7_lengthOf_L2 p0 (fun (x1 : Int32) => post x1) FU 0
def P_X7_letter (post : Int32 → Prop) (p0 : Int64) (p2 : Int32) : Prop := post ((((p0.toUInt64 >>> ((5 * p2).toInt64.toUInt64 &&& Int64.toUInt64 63)).toInt64).toInt32) &&& 31)
def P_X7_rank (post : Int64 → Prop) (p0 : Int64) : Prop := P_X7_lengthOf (fun (r1 : Int32) => post (p0 <<< ((5 * (12 - r1)).toInt64 &&& 63))) p0
def P_X7_occurrences_L11 (z0 : Int64) (z2 : Int32) (z3 : Int32) (K36 : Int32 → Prop) : Nat → Int32 → Int32 → Prop
  | 0, _, _ => False
  | n + 1, z4, z5 => (z3 ≤ z5 → K36 z4) ∧ (¬ (z3 ≤ z5) → P_X7_letter (fun (r2 : Int32) => (r2 = z2 → P_X7_occurrences_L11 z0 z2 z3 K36 n (z4 + 1) (z5 + 1)) ∧ (¬ (r2 = z2) → P_X7_occurrences_L11 z0 z2 z3 K36 n z4 (z5 + 1))) z0 z5)
def P_X7_occurrences (post : Int32 → Prop) (p0 : Int64) (p2 : Int32) : Prop := P_X7_lengthOf (fun (r1 : Int32) => P_X7_occurrences_L11 p0 p2 r1 (fun (x3 : Int32) => post x3) FU 0 0) p0
def P_X7_isWord_L23 (z0 : Int64) (z2 : Int32) (K48 : Prop) (K56 : Prop) : Nat → Int32 → Prop
  | 0, _ => False
  | n + 1, z3 => (z2 ≤ z3 → K56) ∧ (¬ (z2 ≤ z3) → P_X7_letter (fun (r2 : Int32) => (r2 < 1 → K48) ∧ (¬ (r2 < 1) → (r2 ≤ 26 → P_X7_isWord_L23 z0 z2 K48 K56 n (z3 + 1)) ∧ (¬ (r2 ≤ 26) → K48))) z0 z3)
def P_X7_isWord (post : Int32 → Prop) (p0 : Int64) : Prop := (p0 ≤ 0 → post 0) ∧ (¬ (p0 ≤ 0) → (p0 < 1152921504606846976 → P_X7_lengthOf (fun (r1 : Int32) => P_X7_isWord_L23 p0 r1 (post 0) (post 1) FU 0) p0) ∧ (¬ (p0 < 1152921504606846976) → post 0))
def P_X2_count (post : Int32 → Prop) (p1 : Int32) (v0 : Nat → Int32) : Prop := vp_in (p1 &&& 31) 32 ∧ post (v0 (p1 &&& 31).toNatClampNeg)
def P_X2_total_L4 (v0 : Nat → Int32) (K25 : Int32 → Prop) : Nat → Int32 → Int32 → Prop
  | 0, _, _ => False
  | n + 1, z1, z2 => (26 < z2 → K25 z1) ∧ (¬ (26 < z2) → vp_in z2 32 ∧ ∀ y1 : Int32, y1 = z1 + (v0 z2.toNatClampNeg) → P_X2_total_L4 v0 K25 n y1 (z2 + 1))
def P_X2_total (post : Int32 → Prop) (v0 : Nat → Int32) : Prop := P_X2_total_L4 v0 (fun (x2 : Int32) => post x2) FU 0 1
def P_X2_clear_L2 (K21 : (Nat → Int32) → Prop) : Nat → Int32 → (Nat → Int32) → Prop
  | 0, _, _ => False
  | n + 1, z1, v0 => (32 ≤ z1 → K21 v0) ∧ (¬ (32 ≤ z1) → vp_in z1 32 ∧ P_X2_clear_L2 K21 n (z1 + 1) (upd v0 z1.toNatClampNeg 0))
def P_X2_clear (post : (Nat → Int32) → Prop) (v0 : Nat → Int32) : Prop := P_X2_clear_L2 (fun (w1 : Nat → Int32) => post w1) FU 0 v0
def P_X2_putAll_L2 (v1 : Nat → Int32) (K29 : (Nat → Int32) → Prop) : Nat → Int32 → (Nat → Int32) → Prop
  | 0, _, _ => False
  | n + 1, z2, v0 => (26 < z2 → K29 v0) ∧ (¬ (26 < z2) → vp_in z2 32 ∧ vp_in z2 32 ∧ vp_in z2 32 ∧ P_X2_putAll_L2 v1 K29 n (z2 + 1) (upd v0 z2.toNatClampNeg ((v0 z2.toNatClampNeg) + (v1 z2.toNatClampNeg))))
def P_X2_putAll (post : (Nat → Int32) → Prop) (v0 : Nat → Int32) (v1 : Nat → Int32) : Prop := P_X2_putAll_L2 v1 (fun (w1 : Nat → Int32) => post w1) FU 1 v0
def P_X2_put_L9 (z1 : Int64) (z3 : Int32) (z4 : Int32) (K37 : (Nat → Int32) → Prop) : Nat → Int32 → (Nat → Int32) → Prop
  | 0, _, _ => False
  | n + 1, z5, v0 => (z4 ≤ z5 → K37 v0) ∧ (¬ (z4 ≤ z5) → P_X7_letter (fun (r2 : Int32) => vp_in r2 32 ∧ vp_in r2 32 ∧ P_X2_put_L9 z1 z3 z4 K37 n (z5 + 1) (upd v0 r2.toNatClampNeg ((v0 r2.toNatClampNeg) + z3))) z1 z5)
def P_X2_put (post : (Nat → Int32) → Prop) (p1 : Int64) (p3 : Int32) (v0 : Nat → Int32) : Prop := P_X7_lengthOf (fun (r1 : Int32) => P_X2_put_L9 p1 p3 r1 (fun (w3 : Nat → Int32) => post w3) FU 0 v0) p1
def P_X2_take_L8 (z1 : Int64) (z3 : Int32) (K49 : Int32 → (Nat → Int32) → Prop) : Nat → Int32 → (Nat → Int32) → Prop
  | 0, _, _ => False
  | n + 1, z4, v0 => (z3 ≤ z4 → K49 z4 v0) ∧ (¬ (z3 ≤ z4) → P_X7_letter (fun (r2 : Int32) => vp_in r2 32 ∧ ((v0 r2.toNatClampNeg) ≤ 0 → K49 z4 v0) ∧ (¬ ((v0 r2.toNatClampNeg) ≤ 0) → P_X7_letter (fun (r3 : Int32) => vp_in r3 32 ∧ vp_in r3 32 ∧ P_X2_take_L8 z1 z3 K49 n (z4 + 1) (upd v0 r3.toNatClampNeg ((v0 r3.toNatClampNeg) - 1))) z1 z4)) z1 z4)
def P_X2_take_L62 (z1 : Int64) (z5 : Int32) (K93 : (Nat → Int32) → Prop) : Nat → Int32 → (Nat → Int32) → Prop
  | 0, _, _ => False
  | n + 1, z4, v0 => (z5 = 0 → (z4 ≤ 0 → K93 v0) ∧ (¬ (z4 ≤ 0) → P_X7_letter (fun (r6 : Int32) => vp_in r6 32 ∧ vp_in r6 32 ∧ P_X2_take_L62 z1 z5 K93 n (z4 + (-1)) (upd v0 r6.toNatClampNeg ((v0 r6.toNatClampNeg) + 1))) z1 (z4 + (-1)))) ∧ (¬ (z5 = 0) → K93 v0)
def P_X2_take (post : Int32 → (Nat → Int32) → Prop) (p1 : Int64) (v0 : Nat → Int32) : Prop := P_X7_lengthOf (fun (r1 : Int32) => P_X2_take_L8 p1 r1 (fun (x4 : Int32) (w5 : Nat → Int32) => (x4 = r1 → P_X2_take_L62 p1 1 (fun (w7 : Nat → Int32) => post 1 w7) FU x4 w5) ∧ (¬ (x4 = r1) → P_X2_take_L62 p1 0 (fun (w8 : Nat → Int32) => post 0 w8) FU x4 w5)) FU 0 v0) p1
def P_X2_takeOne (post : (Nat → Int32) → Prop) (p1 : Int32) (v0 : Nat → Int32) : Prop := vp_in (p1 &&& 31) 32 ∧ vp_in (p1 &&& 31) 32 ∧ post (upd v0 (p1 &&& 31).toNatClampNeg ((v0 (p1 &&& 31).toNatClampNeg) - 1))
def P_X2_holds (post : Int32 → (Nat → Int32) → Prop) (p1 : Int64) (v0 : Nat → Int32) : Prop := P_X2_take (fun (r1 : Int32) (w2 : Nat → Int32) => (r1 = 0 → narrow .boolean (.int r1) = .int r1 ∧ post r1 w2) ∧ (¬ (r1 = 0) → P_X2_put (fun (w4 : Nat → Int32) => narrow .boolean (.int r1) = .int r1 ∧ post r1 w4) p1 1 w2)) p1 v0
def P_X2_lacking_L2 (z1 : Int64) (v0 : Nat → Int32) (K22 : Int32 → Prop) (K30 : Prop) : Nat → Int32 → Prop
  | 0, _ => False
  | n + 1, z3 => (26 < z3 → K30) ∧ (¬ (26 < z3) → vp_in z3 32 ∧ P_X7_occurrences (fun (r1 : Int32) => (r1 ≤ (v0 z3.toNatClampNeg) → P_X2_lacking_L2 z1 v0 K22 K30 n (z3 + 1)) ∧ (¬ (r1 ≤ (v0 z3.toNatClampNeg)) → K22 z3)) z1 z3)
def P_X2_lacking (post : Int32 → Prop) (p1 : Int64) (v0 : Nat → Int32) : Prop := P_X2_lacking_L2 p1 v0 (fun (x2 : Int32) => post x2) (post (-1)) FU 1
def P_X6_size (post : Int32 → Prop) (v0 : Int32) : Prop := post v0
def P_X6_isFull (post : Int32 → Prop) (v0 : Int32) : Prop := (v0 < 60 → post 0) ∧ (¬ (v0 < 60) → post 1)
def P_X6_word (post : Int64 → Prop) (p1 : Int32) (v0 : Int32) (v1 : Nat → Int64) : Prop := (p1 < 0 → post 0) ∧ (¬ (p1 < 0) → (v0 ≤ p1 → post 0) ∧ (¬ (v0 ≤ p1) → vp_in p1 60 ∧ post (v1 p1.toNatClampNeg)))
def P_X6_clear (post : Int32 → Prop) (v0 : Int32) : Prop := post 0
def P_X6_insert_L28 (z1 : Int32) (z2 : Int64) (K56 : (Nat → Int64) → Prop) : Nat → Int32 → (Nat → Int64) → Prop
  | 0, _, _ => False
  | n + 1, z4, v1 => (z4 ≤ z1 → K56 v1) ∧ (¬ (z4 ≤ z1) → vp_in (z4 - 1) 60 ∧ vp_in z4 60 ∧ P_X6_insert_L28 z1 z2 K56 n (z4 + (-1)) (vp_updL v1 z4.toNatClampNeg (v1 (z4 - 1).toNatClampNeg)))
def P_X6_insert (post : Int32 → (Nat → Int64) → Prop) (p1 : Int32) (p2 : Int64) (v0 : Int32) (v1 : Nat → Int64) : Prop := (60 ≤ v0 → post v0 v1) ∧ (¬ (60 ≤ v0) → (p1 < 0 → post v0 v1) ∧ (¬ (p1 < 0) → (p1 ≤ v0 → P_X6_insert_L28 p1 p2 (fun (w1 : Nat → Int64) => vp_in p1 60 ∧ post (v0 + 1) (vp_updL w1 p1.toNatClampNeg p2)) FU v0 v1) ∧ (¬ (p1 ≤ v0) → post v0 v1)))
def P_X6_append (post : Int32 → (Nat → Int64) → Prop) (p1 : Int64) (v0 : Int32) (v1 : Nat → Int64) : Prop := P_X6_insert (fun (w2 : Int32) (w3 : Nat → Int64) => post w2 w3) v0 p1 v0 v1
def P_X6_delete_L25 (v0 : Int32) (K53 : (Nat → Int64) → Prop) : Nat → Int32 → (Nat → Int64) → Prop
  | 0, _, _ => False
  | n + 1, z2, v1 => (v0 ≤ z2 → K53 v1) ∧ (¬ (v0 ≤ z2) → vp_in (z2 + 1) 60 ∧ vp_in z2 60 ∧ P_X6_delete_L25 v0 K53 n (z2 + 1) (vp_updL v1 z2.toNatClampNeg (v1 (z2 + 1).toNatClampNeg)))
def P_X6_delete (post : Int32 → (Nat → Int64) → Prop) (p1 : Int32) (v0 : Int32) (v1 : Nat → Int64) : Prop := (p1 < 0 → post v0 v1) ∧ (¬ (p1 < 0) → (p1 < v0 → P_X6_delete_L25 (v0 - 1) (fun (w1 : Nat → Int64) => post (v0 - 1) w1) FU p1 v1) ∧ (¬ (p1 < v0) → post v0 v1))
def P_X6_copy_L10 (v0 : Int32) (v3 : Nat → Int64) (K36 : (Nat → Int64) → Prop) : Nat → Int32 → (Nat → Int64) → Prop
  | 0, _, _ => False
  | n + 1, z2, v1 => (v0 ≤ z2 → K36 v1) ∧ (¬ (v0 ≤ z2) → vp_in z2 60 ∧ vp_in z2 60 ∧ P_X6_copy_L10 v0 v3 K36 n (z2 + 1) (vp_updL v1 z2.toNatClampNeg (v3 z2.toNatClampNeg)))
def P_X6_copy (post : Int32 → (Nat → Int64) → Prop) (v0 : Int32) (v1 : Nat → Int64) (v2 : Int32) (v3 : Nat → Int64) : Prop := P_X6_copy_L10 v2 v3 (fun (w1 : Nat → Int64) => post v2 w1) FU 0 v1
