/-! arithmetic of the linear machine, and what a write does to regions and kinds -/
section LY4
variable {cst : am_K} {ν : ly_N} {B : ly_B} {len : Nat}
/-- what a result says: a value, or bounds -/
def ly_gR (ν : ly_N) (len : Nat) : ly_R → Value → Prop
  | .inl v, w => ly_g ν len v w
  | .inr p, w => ∃ x : Int32, w = .int x ∧ p.1 ≤ x.toInt ∧ x.toInt ≤ p.2
theorem ly_top (x : Int32) : sx_min ≤ x.toInt ∧ x.toInt ≤ sx_max := by
  have h1 := Int32.le_toInt x
  have h2 := Int32.toInt_lt x
  have e1 : sx_min = -2147483648 := rfl
  have e2 : sx_max = 2147483647 := rfl
  omega
theorem ly_gR_top (x : Int32) : ly_gR ν len (.inr (sx_min, sx_max)) (.int x) := ⟨x, rfl, ly_top x⟩
theorem ly_ex_ok {e : ly_e} {x : Int32} {z : Int} (hB : ly_gB ν B) (he : ly_ev ν e = some z) (hx : x.toInt = Int.bmod z 4294967296) : ly_gR ν len (ly_ex B e) (.int x) := by
  unfold ly_ex
  split
  · rename_i p hp
    cases hc : (sx_le sx_min p.1 && sx_le p.2 sx_max) with
    | false => exact ly_gR_top x
    | true =>
      rw [Bool.and_eq_true, sx_le_iff, sx_le_iff] at hc
      obtain ⟨y, hy, h1, h2⟩ := ly_iv_ok hB hp
      rw [he] at hy
      cases hy
      refine ⟨x, rfl, ?_⟩
      rw [he, hx, sx_bm (by omega) (by omega)]
  · exact ly_gR_top x
theorem ly_add_r {a b : ly_e} {x y : Int32} (hB : ly_gB ν B) (ha : ly_ev ν a = some x.toInt) (hb : ly_ev ν b = some y.toInt) : ly_gR ν len (ly_ex B (ly_add a b)) (.int (x + y)) :=
  ly_ex_ok hB (ly_add_ok ha hb) (by rw [Int32.toInt_add])
theorem ly_sub_r {a b : ly_e} {x y : Int32} (hB : ly_gB ν B) (ha : ly_ev ν a = some x.toInt) (hb : ly_ev ν b = some y.toInt) : ly_gR ν len (ly_ex B (ly_sub a b)) (.int (x - y)) :=
  ly_ex_ok hB (ly_sub_ok ha hb) (by rw [Int32.toInt_sub])
theorem ly_mul_r {a b : ly_e} {x y : Int32} (hB : ly_gB ν B) (ha : ly_ev ν a = some x.toInt) (hb : ly_ev ν b = some y.toInt) : ly_gR ν len (ly_mul B a b) (.int (x * y)) := by
  unfold ly_mul
  split
  · rename_i c hc
    have := ly_con_ok hB hc
    rw [ha] at this
    cases this
    exact ly_ex_ok hB (ly_scl_ok hb) (by rw [Int32.toInt_mul])
  · split
    · rename_i c hc
      have := ly_con_ok hB hc
      rw [hb] at this
      cases this
      exact ly_ex_ok hB (ly_scl_ok ha) (by rw [Int32.toInt_mul, Int.mul_comm])
    · exact ly_gR_top _
theorem ly_op_r {f : Int32 → Int32 → Int32} {gg : Int × Int → Int × Int → Int × Int} {a b : ly_e} {x y : Int32} (hB : ly_gB ν B) (ha : ly_ev ν a = some x.toInt) (hb : ly_ev ν b = some y.toInt)
    (hg : ∀ p q : Int × Int, p.1 ≤ x.toInt → x.toInt ≤ p.2 → q.1 ≤ y.toInt → y.toInt ≤ q.2 → (gg p q).1 ≤ (f x y).toInt ∧ (f x y).toInt ≤ (gg p q).2) : ly_gR ν len (ly_op f gg B a b) (.int (f x y)) := by
  unfold ly_op
  split
  · rename_i u v hu hv
    have e1 := ly_con_ok hB hu
    have e2 := ly_con_ok hB hv
    rw [ha] at e1
    rw [hb] at e2
    cases e1
    cases e2
    refine ⟨_, rfl, ?_⟩
    rw [ly_ev_c, Int32.ofInt_toInt, Int32.ofInt_toInt]
  · split
    · rename_i p q hp hq
      obtain ⟨u, hu, p1, p2⟩ := ly_iv_ok hB hp
      obtain ⟨v, hv, q1, q2⟩ := ly_iv_ok hB hq
      rw [ha] at hu
      rw [hb] at hv
      cases hu
      cases hv
      exact ⟨_, rfl, hg p q p1 p2 q1 q2⟩
    · exact ly_gR_top _
theorem ly_op1_r {f : Int32 → Int32} {lo hi : Int} {a : ly_e} {x : Int32} (hB : ly_gB ν B) (ha : ly_ev ν a = some x.toInt) (h1 : lo ≤ (f x).toInt ∧ (f x).toInt ≤ hi) (h2 : lo ≤ x.toInt → x.toInt ≤ hi → f x = x) : ly_gR ν len (ly_op1 f lo hi B a) (.int (f x)) := by
  unfold ly_op1
  split
  · rename_i u hu
    have e1 := ly_con_ok hB hu
    rw [ha] at e1
    cases e1
    refine ⟨_, rfl, ?_⟩
    rw [ly_ev_c, Int32.ofInt_toInt]
  · split
    · rename_i p hp
      obtain ⟨u, hu, p1, p2⟩ := ly_iv_ok hB hp
      rw [ha] at hu
      cases hu
      cases hc : (sx_le lo p.1 && sx_le p.2 hi) with
      | false => exact ⟨_, rfl, h1⟩
      | true =>
        rw [Bool.and_eq_true, sx_le_iff, sx_le_iff] at hc
        refine ⟨_, rfl, ?_⟩
        rw [h2 (by omega) (by omega)]
        exact ha
    · exact ⟨_, rfl, h1⟩
theorem ly_nat {x : Int32} (h : 0 ≤ x.toInt) : x.toBitVec.msb = false ∧ x.toInt = (x.toBitVec.toNat : Int) := by
  have e : x.toInt = x.toBitVec.toInt := rfl
  rw [e] at h ⊢
  have hm : x.toBitVec.msb = false := by
    cases hb : x.toBitVec.msb with
    | false => rfl
    | true =>
      have := BitVec.toInt_neg_of_msb_true hb
      omega
  exact ⟨hm, BitVec.toInt_eq_toNat_of_msb hm⟩
theorem ly_and_le {x y : Int32} (h : 0 ≤ x.toInt) : 0 ≤ (x &&& y).toInt ∧ (x &&& y).toInt ≤ x.toInt := by
  obtain ⟨hm, hx⟩ := ly_nat h
  have e : (x &&& y).toInt = (x.toBitVec &&& y.toBitVec).toInt := rfl
  have hm2 : (x.toBitVec &&& y.toBitVec).msb = false := by rw [BitVec.msb_and, hm]; rfl
  rw [e, BitVec.toInt_eq_toNat_of_msb hm2, hx, BitVec.toNat_and]
  have := @Nat.and_le_left x.toBitVec.toNat y.toBitVec.toNat
  omega
theorem ly_and_r {x y : Int32} (p q : Int × Int) (p1 : p.1 ≤ x.toInt) (p2 : x.toInt ≤ p.2) (q1 : q.1 ≤ y.toInt) (q2 : y.toInt ≤ q.2) : (ly_gand p q).1 ≤ (x &&& y).toInt ∧ (x &&& y).toInt ≤ (ly_gand p q).2 := by
  have hy : 0 ≤ y.toInt → 0 ≤ (x &&& y).toInt ∧ (x &&& y).toInt ≤ y.toInt := fun h0 => by rw [Int32.and_comm]; exact ly_and_le h0
  unfold ly_gand
  cases h1 : sx_le 0 p.1 with
  | true =>
    have := sx_le_iff.mp h1
    have a1 := ly_and_le (y := y) (show 0 ≤ x.toInt by omega)
    simp only [cond_true]
    cases h2 : sx_le 0 q.1 with
    | true =>
      have := sx_le_iff.mp h2
      have a2 := hy (by omega)
      exact ⟨a1.1, sx_mn_le (by omega) (by omega)⟩
    | false => exact ⟨a1.1, by show _ ≤ p.2; omega⟩
  | false =>
    simp only [cond_false]
    cases h2 : sx_le 0 q.1 with
    | true =>
      have := sx_le_iff.mp h2
      have a2 := hy (by omega)
      exact ⟨a2.1, by show _ ≤ q.2; omega⟩
    | false => exact ly_top _
theorem ly_shr_r {x y : Int32} (p q : Int × Int) (p1 : p.1 ≤ x.toInt) (p2 : x.toInt ≤ p.2) : (ly_gshr p q).1 ≤ (x >>> (y &&& 31)).toInt ∧ (x >>> (y &&& 31)).toInt ≤ (ly_gshr p q).2 := by
  unfold ly_gshr
  cases h1 : sx_le 0 p.1 with
  | false => exact ly_top _
  | true =>
    have := sx_le_iff.mp h1
    obtain ⟨hm, hx⟩ := ly_nat (show 0 ≤ x.toInt by omega)
    have e : (x >>> (y &&& 31)).toInt = (x.toBitVec.sshiftRight' ((y &&& 31).toBitVec.smod 32)).toInt := rfl
    have e2 : x.toBitVec.sshiftRight' ((y &&& 31).toBitVec.smod 32) = x.toBitVec >>> ((y &&& 31).toBitVec.smod 32).toNat := by
      unfold BitVec.sshiftRight'
      exact BitVec.sshiftRight_eq_of_msb_false hm
    have le : (x.toBitVec >>> ((y &&& 31).toBitVec.smod 32).toNat).toNat ≤ x.toBitVec.toNat := by
      rw [BitVec.toNat_ushiftRight]
      exact Nat.shiftRight_le _ _
    have hm2 : (x.toBitVec >>> ((y &&& 31).toBitVec.smod 32).toNat).msb = false := by
      rw [BitVec.msb_eq_false_iff_two_mul_lt] at hm ⊢
      omega
    rw [e, e2, BitVec.toInt_eq_toNat_of_msb hm2]
    refine ⟨Int.natCast_nonneg _, ?_⟩
    show _ ≤ p.2
    omega
theorem ly_div_i {x y : Int32} (hy : 1 ≤ y.toInt) : (x / y).toInt = x.toInt.tdiv y.toInt := by
  refine Int32.toInt_div_of_ne_right x y (fun e => ?_)
  rw [e] at hy
  have : (-1 : Int32).toInt = -1 := rfl
  omega
theorem ly_tdiv_b {a b : Int} (hb : 1 ≤ b) : (0 ≤ a → 0 ≤ a.tdiv b ∧ a.tdiv b ≤ a) ∧ (a ≤ 0 → a ≤ a.tdiv b ∧ a.tdiv b ≤ 0) := by
  refine ⟨fun h => ⟨Int.tdiv_nonneg h (by omega), Int.tdiv_le_self b h⟩, fun h => ?_⟩
  have e : a.tdiv b = -((-a).tdiv b) := by rw [Int.neg_tdiv, Int.neg_neg]
  have h1 := Int.tdiv_nonneg (show 0 ≤ -a by omega) (show 0 ≤ b by omega)
  have h2 := Int.tdiv_le_self b (show 0 ≤ -a by omega)
  omega
theorem ly_div_r {x y : Int32} (p q : Int × Int) (p1 : p.1 ≤ x.toInt) (p2 : x.toInt ≤ p.2) (q1 : q.1 ≤ y.toInt) (q2 : y.toInt ≤ q.2) : (ly_gdiv p q).1 ≤ (x / y).toInt ∧ (x / y).toInt ≤ (ly_gdiv p q).2 := by
  unfold ly_gdiv
  cases h0 : sx_le 1 q.1 with
  | false => exact ly_top _
  | true =>
    have h0 := sx_le_iff.mp h0
    rw [ly_div_i (show 1 ≤ y.toInt by omega)]
    have b := ly_tdiv_b (a := x.toInt) (show 1 ≤ y.toInt by omega)
    simp only [cond_true]
    cases h1 : sx_le 0 p.1 with
    | true =>
      have h1 := sx_le_iff.mp h1
      simp only [cond_true]
      cases h2 : sx_eq q.1 q.2 with
      | true =>
        have h2 := sx_eq_iff.mp h2
        have ey : y.toInt = q.1 := by omega
        rw [ey, Int.tdiv_eq_ediv_of_nonneg (by omega)]
        exact ⟨Int.ediv_le_ediv (by omega) p1, Int.ediv_le_ediv (by omega) p2⟩
      | false =>
        have := b.1 (by omega)
        exact ⟨this.1, by show _ ≤ p.2; omega⟩
    | false =>
      simp only [cond_false]
      by_cases hs : 0 ≤ x.toInt
      · have := b.1 hs
        refine ⟨?_, ?_⟩
        · have : sx_mn p.1 0 ≤ 0 := by unfold sx_mn; cases hh : sx_le p.1 0 <;> simp only [cond_true, cond_false] <;> first | omega | exact sx_le_iff.mp hh
          omega
        · have : p.2 ≤ sx_mx p.2 0 := by unfold sx_mx; cases hh : sx_le p.2 0 <;> simp only [cond_true, cond_false] <;> first | omega | exact sx_le_iff.mp hh
          omega
      · have := b.2 (by omega)
        refine ⟨?_, ?_⟩
        · have : sx_mn p.1 0 ≤ p.1 := by unfold sx_mn; cases hh : sx_le p.1 0 <;> simp only [cond_true, cond_false] <;> first | omega | (have := sx_le_neg hh; omega)
          omega
        · have : 0 ≤ sx_mx p.2 0 := by unfold sx_mx; cases hh : sx_le p.2 0 <;> simp only [cond_true, cond_false] <;> first | omega | (have := sx_le_neg hh; omega)
          omega
theorem ly_rem_r {x y : Int32} (p q : Int × Int) (p1 : p.1 ≤ x.toInt) (q1 : q.1 ≤ y.toInt) (q2 : y.toInt ≤ q.2) : (ly_grem p q).1 ≤ (x - x / y * y).toInt ∧ (x - x / y * y).toInt ≤ (ly_grem p q).2 := by
  unfold ly_grem
  cases h0 : sx_le 1 q.1 with
  | false => exact ly_top _
  | true =>
    have h0 := sx_le_iff.mp h0
    have hy : 1 ≤ y.toInt := by omega
    have t := Int.mul_tdiv_add_tmod x.toInt y.toInt
    have lt := Int.tmod_lt_of_pos x.toInt (show 0 < y.toInt by omega)
    have gt : -y.toInt < x.toInt.tmod y.toInt := by
      by_cases hs : 0 ≤ x.toInt
      · have := Int.tmod_nonneg y.toInt hs
        omega
      · have := Int.tmod_lt_of_pos (-x.toInt) (show 0 < y.toInt by omega)
        rw [Int.neg_tmod] at this
        omega
    have tx := ly_top x
    have ty := ly_top y
    have e1 : sx_min = -2147483648 := rfl
    have e2 : sx_max = 2147483647 := rfl
    have hd := ly_div_i (x := x) hy
    have hm : (x / y * y).toInt = y.toInt * x.toInt.tdiv y.toInt := by
      rw [Int32.toInt_mul, hd, Int.mul_comm]
      refine sx_bm ?_ ?_
      · have b := ly_tdiv_b (a := x.toInt) hy
        by_cases hs : 0 ≤ x.toInt
        · have := Int.mul_nonneg (show 0 ≤ y.toInt by omega) (b.1 hs).1
          omega
        · have : x.toInt.tmod y.toInt ≤ 0 := by
            have := Int.tmod_nonneg y.toInt (show 0 ≤ -x.toInt by omega)
            rw [Int.neg_tmod] at this
            omega
          omega
      · by_cases hs : 0 ≤ x.toInt
        · have := Int.tmod_nonneg y.toInt hs
          omega
        · have b := ly_tdiv_b (a := x.toInt) hy
          have : y.toInt * x.toInt.tdiv y.toInt ≤ 0 := Int.mul_nonpos_of_nonneg_of_nonpos (by omega) (b.2 (by omega)).2
          omega
    have hr : (x - x / y * y).toInt = x.toInt.tmod y.toInt := by
      rw [Int32.toInt_sub, hm, show x.toInt - y.toInt * x.toInt.tdiv y.toInt = x.toInt.tmod y.toInt by omega]
      exact sx_bm (by omega) (by omega)
    rw [hr]
    simp only [cond_true]
    cases h1 : sx_le 0 p.1 with
    | true =>
      have h1 := sx_le_iff.mp h1
      refine ⟨Int.tmod_nonneg _ (by omega), ?_⟩
      show _ ≤ q.2 - 1
      omega
    | false =>
      refine ⟨?_, ?_⟩
      · show 1 - q.2 ≤ _
        omega
      · show _ ≤ q.2 - 1
        omega
theorem ly_i2b_r (x : Int32) : ((-128 : Int) ≤ x.toInt8.toInt32.toInt ∧ x.toInt8.toInt32.toInt ≤ 127) ∧ ((-128 : Int) ≤ x.toInt → x.toInt ≤ 127 → x.toInt8.toInt32 = x) := by
  have e : x.toInt8.toInt32.toInt = x.toInt8.toInt := Int8.toInt_toInt32 _
  refine ⟨?_, fun h1 h2 => ?_⟩
  · rw [e]
    have := Int8.le_toInt x.toInt8
    have := Int8.toInt_lt x.toInt8
    omega
  · refine Int32.toInt_inj.mp ?_
    rw [e, Int32.toInt_toInt8]
    exact Int.bmod_eq_of_le (by show -((256 : Int) / 2) ≤ _; omega) (by show _ < ((256 : Int) + 1) / 2; omega)
theorem ly_u16 (x : Int32) : (x.toUInt32 % 65536).toInt32.toInt = ((x.toUInt32.toNat % 65536 : Nat) : Int) := by
  have h : (x.toUInt32 % 65536).toNat = x.toUInt32.toNat % 65536 := rfl
  have e : (x.toUInt32 % 65536).toInt32.toInt = (x.toUInt32 % 65536).toBitVec.toInt := rfl
  have e2 : (x.toUInt32 % 65536).toBitVec.toNat = x.toUInt32.toNat % 65536 := h
  rw [e, BitVec.toInt_eq_toNat_of_msb, e2]
  rw [BitVec.msb_eq_false_iff_two_mul_lt, e2]
  have := Nat.mod_lt x.toUInt32.toNat (show 65536 > 0 by omega)
  omega
theorem ly_i2c_r (x : Int32) : ((0 : Int) ≤ (x.toUInt32 % 65536).toInt32.toInt ∧ (x.toUInt32 % 65536).toInt32.toInt ≤ 65535) ∧ ((0 : Int) ≤ x.toInt → x.toInt ≤ 65535 → (x.toUInt32 % 65536).toInt32 = x) := by
  refine ⟨?_, fun h1 h2 => ?_⟩
  · rw [ly_u16]
    have := Nat.mod_lt x.toUInt32.toNat (show 65536 > 0 by omega)
    omega
  · refine Int32.toInt_inj.mp ?_
    rw [ly_u16]
    obtain ⟨-, hx⟩ := ly_nat h1
    have e : x.toUInt32.toNat = x.toBitVec.toNat := rfl
    rw [e]
    omega
theorem ly_and_m (x : Int32) : (x &&& 255).toInt = x.toInt % 256 ∧ (x &&& 1).toInt = x.toInt % 2 := by
  have key : ∀ (m : Int32) (k : Nat), k ≤ 8 → m.toBitVec.toNat = 2 ^ k - 1 → (x &&& m).toInt = x.toInt % ((2 ^ k : Nat) : Int) := by
    intro m k hk hm
    have e : (x &&& m).toInt = (x.toBitVec &&& m.toBitVec).toInt := rfl
    have e1 : (x.toBitVec &&& m.toBitVec).toNat = x.toBitVec.toNat % 2 ^ k := by
      rw [BitVec.toNat_and, hm, Nat.and_two_pow_sub_one_eq_mod]
    have hp : 2 ^ k ≤ 256 := by
      have := Nat.pow_le_pow_right (show 0 < 2 by decide) hk
      exact this
    have hp0 : 0 < 2 ^ k := Nat.two_pow_pos k
    have hlt : x.toBitVec.toNat % 2 ^ k < 2 ^ k := Nat.mod_lt _ hp0
    have hmsb : (x.toBitVec &&& m.toBitVec).msb = false := by
      rw [BitVec.msb_eq_false_iff_two_mul_lt, e1]
      omega
    have e2 : x.toInt = x.toBitVec.toInt := rfl
    rw [e, BitVec.toInt_eq_toNat_of_msb hmsb, e1, e2, BitVec.toInt_eq_toNat_cond]
    have hd : (2 ^ k) ∣ 2 ^ 32 := Nat.pow_dvd_pow 2 (by omega)
    obtain ⟨q, hq⟩ := hd
    split
    · exact Int.natCast_emod _ _
    · have e3 : ((x.toBitVec.toNat : Int) - ((2 ^ 32 : Nat) : Int)) = (x.toBitVec.toNat : Int) + ((2 ^ k : Nat) : Int) * (-(q : Int)) := by
        rw [hq]
        rw [Int.natCast_mul, Int.mul_neg]
        rfl
      rw [e3, Int.add_mul_emod_self_left]
      exact Int.natCast_emod _ _
  exact ⟨key 255 8 (by decide) rfl, key 1 1 (by decide) rfl⟩
theorem ly_shr_d {x : Int32} {c : Nat} (hx : 0 ≤ x.toInt) (hc : c ≤ 9) : (x >>> (Int32.ofNat c &&& 31)).toInt = x.toInt / ((2 ^ c : Nat) : Int) := by
  obtain ⟨hm, hxn⟩ := ly_nat hx
  have e : (x >>> (Int32.ofNat c &&& 31)).toInt = (x.toBitVec.sshiftRight' ((Int32.ofNat c &&& 31).toBitVec.smod 32)).toInt := rfl
  have e0 : ((Int32.ofNat c &&& 31).toBitVec.smod 32).toNat = c := by
    match c, hc with
    | 0, _ => rfl
    | 1, _ => rfl
    | 2, _ => rfl
    | 3, _ => rfl
    | 4, _ => rfl
    | 5, _ => rfl
    | 6, _ => rfl
    | 7, _ => rfl
    | 8, _ => rfl
    | 9, _ => rfl
  have e2 : x.toBitVec.sshiftRight' ((Int32.ofNat c &&& 31).toBitVec.smod 32) = x.toBitVec >>> c := by
    unfold BitVec.sshiftRight'
    rw [e0]
    exact BitVec.sshiftRight_eq_of_msb_false hm
  have le : (x.toBitVec >>> c).toNat = x.toBitVec.toNat / 2 ^ c := by
    rw [BitVec.toNat_ushiftRight, Nat.shiftRight_eq_div_pow]
  have hm2 : (x.toBitVec >>> c).msb = false := by
    rw [BitVec.msb_eq_false_iff_two_mul_lt] at hm ⊢
    have := Nat.div_le_self x.toBitVec.toNat (2 ^ c)
    omega
  rw [e, e2, BitVec.toInt_eq_toNat_of_msb hm2, le]
  have : x.toInt = (x.toBitVec.toNat : Int) := by omega
  rw [this]
  exact Int.natCast_ediv _ _
end LY4
