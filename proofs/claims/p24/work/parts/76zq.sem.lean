/-! by hand: what a deed's TESTS are worth, as such (behind 76zg.lwx; p19 and on) -/
/-- a fact's value: the first of its name -/
def lkv : List Int → List Int → Int → Int
  | n :: ns, v :: vs, x => if n = x then v else lkv ns vs x
  | _, _, _ => 0
/-- a TERM's value -/
def tvl (ns vs : List Int) (x : Int) : Int := if 0 < x then lkv ns vs x else -1 - x
def slv (ns vs : List Int) : List Int → Int
  | [] => 0
  | x :: L => tvl ns vs x + slv ns vs L
set_option maxRecDepth 8000 in
theorem slv_ap (ns vs : List Int) : ∀ (L M : List Int), slv ns vs (L ++ M) = slv ns vs L + slv ns vs M
  | [], M => by
    show slv ns vs M = 0 + slv ns vs M
    omega
  | x :: L, M => by
    show tvl ns vs x + slv ns vs (L ++ M) = tvl ns vs x + slv ns vs L + slv ns vs M
    rw [slv_ap ns vs L M]
    omega
def hld (r a b : Int) : Bool := if r = -20001 then decide (b < a) else if r = -20002 then decide (a < b) else if r = -20003 then decide (a = b) else decide (0 < b)
/-- whether a TEST holds -/
def tst (ns vs : List Int) (q : qt_T) : Bool := if q.1 = 0 then decide (0 < slv ns vs q.2.1) else hld (-20000 - q.1) (slv ns vs q.2.1) (slv ns vs q.2.2)
/-- as the class walks its items: tests so far, ahead, sum, relation -/
abbrev mS : Type := List Bool × Int × Int × Int
def mq1 (ns vs : List Int) (s : mS) (x : Int) : mS := if 0 < x then (s.1, s.2.1, s.2.2.1 + lkv ns vs x, s.2.2.2) else if -20000 < x then (s.1, s.2.1, s.2.2.1 + (-1 - x), s.2.2.2) else if -20003 ≤ x then (s.1, s.2.2.1, 0, x) else if x = -20004 then (s.1 ++ [hld s.2.2.2 s.2.1 s.2.2.1], s.2.1, 0, -20004) else s
def mq (ns vs : List Int) (E : List Int) (s : mS) : mS := E.foldl (mq1 ns vs) s
theorem mq_ap (ns vs : List Int) (A B : List Int) (s : mS) : mq ns vs (A ++ B) s = mq ns vs B (mq ns vs A s) := by
  unfold mq
  rw [List.foldl_append]
theorem mq_c (ns vs : List Int) (x : Int) (B : List Int) (s : mS) : mq ns vs (x :: B) s = mq ns vs B (mq1 ns vs s x) := rfl
set_option maxRecDepth 8000 in
theorem mq_t (ns vs : List Int) : ∀ (L : List Int) (ps : List Bool) (a s r : Int), (∀ i ∈ L, itw i) → mq ns vs L (ps, a, s, r) = (ps, a, s + slv ns vs L, r)
  | [], ps, a, s, r, _ => by
    show (ps, a, s, r) = (ps, a, s + 0, r)
    rw [Int.add_zero]
  | x :: L, ps, a, s, r, w => by
    have wx := w x (List.mem_cons_self)
    have e : mq1 ns vs (ps, a, s, r) x = (ps, a, s + tvl ns vs x, r) := by
      unfold mq1 tvl
      by_cases z_9 : 0 < x
      · rw [if_pos z_9, if_pos z_9]
      · rw [if_neg z_9, if_neg z_9, if_pos (by rcases wx with wx | wx <;> omega)]
    rw [mq_c, e, mq_t ns vs L ps a (s + tvl ns vs x) r (fun i hi_9 => w i (List.mem_cons_of_mem _ hi_9))]
    show (ps, a, s + tvl ns vs x + slv ns vs L, r) = (ps, a, s + (tvl ns vs x + slv ns vs L), r)
    rw [Int.add_assoc]
theorem mq_e (ns vs : List Int) {x : qt_T} (w : qwt x) (ps : List Bool) (a : Int) : ∃ a', mq ns vs (qv_1 (.inl x)) (ps, a, 0, -20004) = (ps ++ [tst ns vs x], a', 0, -20004) := by
  obtain ⟨w0_9, w3_9, w1_9, w2_9⟩ := w
  obtain ⟨o, L_9, M_9⟩ := x
  have w0_9 : 0 ≤ o := w0_9
  have w3_9 : o ≤ 3 := w3_9
  have w1_9 : ∀ i_9 ∈ L_9, itw i_9 := w1_9
  have w2_9 : ∀ i_9 ∈ M_9, itw i_9 := w2_9
  show ∃ a', mq ns vs (qt_e (o, L_9, M_9) ++ [-20004]) (ps, a, 0, -20004) = _
  have fin_9 : ∀ (a' s' r_9 : Int), mq ns vs [-20004] (ps, a', s', r_9) = (ps ++ [hld r_9 a' s'], a', 0, -20004) := fun a' s' r_9 => by
    show mq1 ns vs (ps, a', s', r_9) (-20004) = _
    unfold mq1
    rw [if_neg (by decide), if_neg (by decide), if_neg (by decide), if_pos rfl]
  by_cases z_9 : o = 0
  · refine ⟨a, ?_⟩
    have e_9 : qt_e (o, L_9, M_9) = L_9 := by
      unfold qt_e
      show L_9 ++ (if o = 0 then [] else (-20000 - o) :: M_9) = L_9
      rw [if_pos z_9, List.append_nil]
    rw [e_9, mq_ap, mq_t ns vs L_9 ps a 0 (-20004) w1_9, fin_9]
    unfold tst
    rw [if_pos z_9, Int.zero_add]
    rfl
  · refine ⟨slv ns vs L_9, ?_⟩
    have e_9 : qt_e (o, L_9, M_9) = L_9 ++ (-20000 - o) :: M_9 := by
      unfold qt_e
      show L_9 ++ (if o = 0 then [] else (-20000 - o) :: M_9) = _
      rw [if_neg z_9]
    rw [e_9, mq_ap, mq_ap, mq_t ns vs L_9 ps a 0 (-20004) w1_9, mq_c ns vs (-20000 - o) M_9]
    have e2_9 : mq1 ns vs (ps, a, 0 + slv ns vs L_9, -20004) (-20000 - o) = (ps, slv ns vs L_9, 0, -20000 - o) := by
      unfold mq1
      rw [if_neg (by omega), if_neg (by omega), if_pos (by omega), Int.zero_add]
    rw [e2_9, mq_t ns vs M_9 ps _ 0 _ w2_9, fin_9]
    unfold tst
    rw [if_neg z_9, Int.zero_add]
set_option maxRecDepth 8000 in
theorem mq_v (ns vs : List Int) : ∀ (V : List (qt_T ⊕ Int)) (ps : List Bool) (a : Int), (∀ x ∈ V, qw x) → ∃ a', mq ns vs (qv_e V) (ps, a, 0, -20004) = (ps ++ (qv_t V).map (tst ns vs), a', 0, -20004)
  | [], ps, a, _ => ⟨a, by
    show (ps, a, 0, -20004) = (ps ++ [], a, 0, -20004)
    rw [List.append_nil]⟩
  | .inl x :: V, ps, a, w => by
    obtain ⟨a1, e1⟩ := mq_e ns vs (x := x) (w _ (List.mem_cons_self)) ps a
    obtain ⟨a2, e2⟩ := mq_v ns vs V (ps ++ [tst ns vs x]) a1 (fun y hy => w y (List.mem_cons_of_mem _ hy))
    refine ⟨a2, ?_⟩
    show mq ns vs (qv_1 (.inl x) ++ qv_e V) (ps, a, 0, -20004) = (ps ++ (tst ns vs x :: (qv_t V).map (tst ns vs)), a2, 0, -20004)
    rw [mq_ap, e1, e2, List.append_assoc, List.singleton_append]
  | .inr j :: V, ps, a, w => by
    obtain ⟨a2, e2⟩ := mq_v ns vs V ps a (fun y hy => w y (List.mem_cons_of_mem _ hy))
    refine ⟨a2, ?_⟩
    show mq ns vs (j :: qv_e V) (ps, a, 0, -20004) = (ps ++ (qv_t V).map (tst ns vs), a2, 0, -20004)
    have wj : j = -20005 ∨ j = -20006 ∨ j = -20007 := w _ (List.mem_cons_self)
    have e1 : mq1 ns vs (ps, a, 0, -20004) j = (ps, a, 0, -20004) := by
      unfold mq1
      rw [if_neg (by omega), if_neg (by omega), if_neg (by omega), if_neg (by omega)]
    rw [mq_c, e1, e2]
/-- how many TESTS end in a row of items -/
def cnt4 : List Int → Nat
  | [] => 0
  | x :: E => (if x = -20004 then 1 else 0) + cnt4 E
set_option maxRecDepth 8000 in
theorem cnt4_ap : ∀ (A B : List Int), cnt4 (A ++ B) = cnt4 A + cnt4 B
  | [], B => by
    show cnt4 B = 0 + cnt4 B
    omega
  | x :: A, B => by
    show (if x = -20004 then 1 else 0) + cnt4 (A ++ B) = (if x = -20004 then 1 else 0) + cnt4 A + cnt4 B
    rw [cnt4_ap A B]
    omega
set_option maxRecDepth 8000 in
theorem cnt4_t : ∀ (L : List Int), (∀ i ∈ L, itw i) → cnt4 L = 0
  | [], _ => rfl
  | x :: L, w => by
    have wx := w x (List.mem_cons_self)
    show (if x = -20004 then 1 else 0) + cnt4 L = 0
    rw [if_neg (by rcases wx with wx | wx <;> omega), cnt4_t L (fun i hi => w i (List.mem_cons_of_mem _ hi))]
theorem qt_e_w {x : qt_T} (w : qwt x) : cnt4 (qt_e x) = 0 ∧ ∀ i ∈ qt_e x, i ≠ -20000 ∧ i ≠ -20005 ∧ i ≠ -20006 ∧ i ≠ -20007 ∧ i ≠ 0 := by
  obtain ⟨w0_9, w3_9, w1_9, w2_9⟩ := w
  obtain ⟨o, L_9, M_9⟩ := x
  have w0_9 : 0 ≤ o := w0_9
  have w3_9 : o ≤ 3 := w3_9
  have w1_9 : ∀ i ∈ L_9, itw i := w1_9
  have w2_9 : ∀ i ∈ M_9, itw i := w2_9
  have ne_9 : ∀ i, itw i → i ≠ -20000 ∧ i ≠ -20005 ∧ i ≠ -20006 ∧ i ≠ -20007 ∧ i ≠ 0 := fun i h_9 => by rcases h_9 with h_9 | h_9 <;> omega
  unfold qt_e
  show cnt4 (L_9 ++ (if o = 0 then [] else (-20000 - o) :: M_9)) = 0 ∧ ∀ i ∈ L_9 ++ (if o = 0 then [] else (-20000 - o) :: M_9), _
  by_cases z_9 : o = 0
  · rw [if_pos z_9, List.append_nil]
    exact ⟨cnt4_t L_9 w1_9, fun i hi_9 => ne_9 i (w1_9 i hi_9)⟩
  · rw [if_neg z_9]
    refine ⟨?_, fun i hi_9 => ?_⟩
    · rw [cnt4_ap, cnt4_t L_9 w1_9]
      show 0 + ((if -20000 - o = -20004 then 1 else 0) + cnt4 M_9) = 0
      rw [if_neg (by omega), cnt4_t M_9 w2_9]
    · rcases List.mem_append.mp hi_9 with hi_9 | hi_9
      · exact ne_9 i (w1_9 i hi_9)
      · rcases List.mem_cons.mp hi_9 with hi_9 | hi_9
        · subst hi_9
          omega
        · exact ne_9 i (w2_9 i hi_9)
set_option maxRecDepth 8000 in
theorem cnt4_v : ∀ (V : List (qt_T ⊕ Int)), (∀ x ∈ V, qw x) → cnt4 (qv_e V) = (qv_t V).length ∧ ∀ i ∈ qv_e V, i ≠ -20000
  | [], _ => ⟨rfl, fun i hi => by cases hi⟩
  | .inl x :: V, w => by
    obtain ⟨c1, c2⟩ := qt_e_w (x := x) (w _ (List.mem_cons_self))
    obtain ⟨d1, d2⟩ := cnt4_v V (fun y hy => w y (List.mem_cons_of_mem _ hy))
    refine ⟨?_, fun i hi => ?_⟩
    · show cnt4 (qt_e x ++ [-20004] ++ qv_e V) = (qv_t V).length + 1
      rw [cnt4_ap, cnt4_ap, c1, d1]
      show 0 + (1 + 0) + _ = _
      omega
    · have hi : i ∈ qt_e x ++ [-20004] ++ qv_e V := hi
      rcases List.mem_append.mp hi with hi | hi
      · rcases List.mem_append.mp hi with hi | hi
        · exact (c2 i hi).1
        · rw [List.mem_singleton.mp hi]
          decide
      · exact d2 i hi
  | .inr j :: V, w => by
    obtain ⟨d1, d2⟩ := cnt4_v V (fun y hy => w y (List.mem_cons_of_mem _ hy))
    have wj : j = -20005 ∨ j = -20006 ∨ j = -20007 := w _ (List.mem_cons_self)
    refine ⟨?_, fun i hi => ?_⟩
    · show (if j = -20004 then 1 else 0) + cnt4 (qv_e V) = (qv_t V).length
      rw [if_neg (by omega), d1]
      omega
    · have hi : i ∈ j :: qv_e V := hi
      rcases List.mem_cons.mp hi with hi | hi
      · omega
      · exact d2 i hi
/-- a row of values as bits -/
def mbs (ps : List Bool) (b : Int32) : Prop := ∀ i, i < 32 → btq_b b i = ps.getD i false
theorem mbs_0 : mbs [] 0 := fun i_9 hi_9 => by
  rw [btq_0]
  rfl
theorem gd_ap (ps : List Bool) (p : Bool) (i : Nat) : (ps ++ [p]).getD i false = if i = ps.length then p else ps.getD i false := by
  rw [List.getD_eq_getElem?_getD, List.getD_eq_getElem?_getD]
  by_cases z_9 : i < ps.length
  · rw [List.getElem?_append_left z_9, if_neg (by omega)]
  · by_cases y_9 : i = ps.length
    · subst y_9
      rw [List.getElem?_append_right (Nat.le_refl _), Nat.sub_self, if_pos rfl]
      rfl
    · rw [if_neg y_9, List.getElem?_eq_none (by rw [List.length_append, List.length_singleton]; omega), List.getElem?_eq_none (by omega)]
theorem mbs_f {ps : List Bool} {b : Int32} (B : mbs ps b) : mbs (ps ++ [false]) b := fun i_9 hi_9 => by
  rw [gd_ap, B i_9 hi_9]
  by_cases y_9 : i_9 = ps.length
  · rw [if_pos y_9, y_9, List.getD_eq_getElem?_getD, List.getElem?_eq_none (Nat.le_refl _)]
    rfl
  · rw [if_neg y_9]
theorem mbs_t {ps : List Bool} {b x : Int32} (B : mbs ps b) (ex : x.toInt = (ps.length : Int)) (hl : ps.length < 32) : mbs (ps ++ [true]) (b ||| ((1 : Int32) <<< (x &&& 31))) := fun i_9 hi_9 => by
  rw [gd_ap, btq_set ex hl b hi_9, B i_9 hi_9]
  by_cases y_9 : i_9 = ps.length
  · rw [if_pos y_9, decide_eq_true y_9, Bool.or_true]
  · rw [if_neg y_9, decide_eq_false y_9, Bool.or_false]
theorem mbs_u {ps : List Bool} {b d : Int32} (B : mbs ps b) (C : mbs ps d) : b = d := btq_ext (fun i hi => by rw [B i hi, C i hi])
set_option maxRecDepth 8000 in
/-- the values that wait, as the class keeps them -/
theorem mbs_push {st : List Bool} {w : Int32} {p : Bool} {x k : Int32} (W : mbs st w) (hl : st.length < 31) (ek : k.toInt = 1) (ex : x = bif p then 1 else 0) : mbs (p :: st) ((w <<< (k &&& 31)) ||| x) := fun i_9 hi_9 => by
  rw [btq_bor, btq_shl (n := 1) ek (by decide) w hi_9, ex]
  cases i_9 with
  | zero =>
    show ((decide (1 ≤ 0) && btq_b w (0 - 1)) || btq_b (bif p then 1 else 0) 0) = p
    cases p
    · show (false || btq_b 0 0) = false
      rw [btq_0]
      rfl
    · show (false || btq_b 1 0) = true
      rw [btq_1 0 (by decide)]
      rfl
  | succ i_9 =>
    have e0_9 : btq_b (bif p then (1 : Int32) else 0) (i_9 + 1) = false := by
      cases p
      · exact btq_0 _
      · show btq_b 1 (i_9 + 1) = false
        rw [btq_1 (i_9 + 1) hi_9]
        exact decide_eq_false (by omega)
    rw [e0_9, Bool.or_false, decide_eq_true (by omega), Bool.true_and, Nat.add_sub_cancel, W i_9 (by omega)]
    rfl
theorem mbs_hi {st : List Bool} {w : Int32} (W : mbs st w) (hl : st.length < 32) : btq_b w 31 = false := by
  rw [W 31 (by decide), List.getD_eq_getElem?_getD, List.getElem?_eq_none (by omega)]
  rfl
theorem mbs_shr {st : List Bool} {p : Bool} {w k : Int32} (W : mbs (p :: st) w) (hl : st.length < 31) (ek : k.toInt = 1) {i : Nat} (hi : i < 32) : btq_b (w >>> (k &&& 31)) i = st.getD i false := by
  rw [btq_shr (n := 1) ek (by decide) w hi]
  by_cases z_9 : 1 + i < 32
  · rw [if_pos z_9, W _ z_9, Nat.add_comm]
    rfl
  · rw [if_neg z_9, W 31 (by decide), List.getD_eq_getElem?_getD, List.getElem?_eq_none (by rw [List.length_cons]; omega), List.getD_eq_getElem?_getD, List.getElem?_eq_none (by omega)]
theorem btq_xor (x y : Int32) (i : Nat) : btq_b (x ^^^ y) i = (btq_b x i ^^ btq_b y i) := by
  unfold btq_b
  rw [Int32.toBitVec_xor, BitVec.getLsbD_xor]
set_option maxRecDepth 8000 in
theorem mbs_not {st : List Bool} {p : Bool} {w k : Int32} (W : mbs (p :: st) w) (ek : k.toInt = 1) : mbs ((!p) :: st) (w ^^^ k) := fun i_9 hi_9 => by
  have e_9 : k = 1 := Int32.toInt_inj.mp ek
  subst e_9
  rw [btq_xor, W i_9 hi_9, btq_1 i_9 hi_9]
  cases i_9 with
  | zero =>
    show (p ^^ true) = !p
    cases p <;> rfl
  | succ i_9 =>
    rw [decide_eq_false (by omega), Bool.xor_false]
    rfl
theorem btq_m2 : ∀ i, i < 32 → btq_b (-2) i = decide (i ≠ 0) := by decide +kernel
set_option maxRecDepth 8000 in
theorem mbs_and {st : List Bool} {p q : Bool} {w k m : Int32} (W : mbs (p :: q :: st) w) (hl : st.length < 30) (ek : k.toInt = 1) (em : m.toInt = -2) : mbs ((q && p) :: st) ((w >>> (k &&& 31)) &&& (w ||| m)) := fun i_9 hi_9 => by
  have e_9 : m = -2 := Int32.toInt_inj.mp em
  subst e_9
  rw [btq_band, mbs_shr W (by rw [List.length_cons]; omega) ek hi_9, btq_bor, W i_9 hi_9, btq_m2 i_9 hi_9]
  cases i_9 with
  | zero =>
    show (q && (p || false)) = (q && p)
    rw [Bool.or_false]
  | succ i_9 =>
    rw [decide_eq_true (by omega), Bool.or_true, Bool.and_true]
    rfl
set_option maxRecDepth 8000 in
theorem mbs_or {st : List Bool} {p q : Bool} {w k m : Int32} (W : mbs (p :: q :: st) w) (hl : st.length < 30) (ek : k.toInt = 1) (em : m.toInt = 1) : mbs ((q || p) :: st) ((w >>> (k &&& 31)) ||| (w &&& m)) := fun i_9 hi_9 => by
  have e_9 : m = 1 := Int32.toInt_inj.mp em
  subst e_9
  rw [btq_bor, mbs_shr W (by rw [List.length_cons]; omega) ek hi_9, btq_band, W i_9 hi_9, btq_1 i_9 hi_9]
  cases i_9 with
  | zero =>
    show (q || (p && true)) = (q || p)
    rw [Bool.and_true]
  | succ i_9 =>
    rw [decide_eq_false (by omega), Bool.and_false, Bool.or_false]
    rfl
/-- what LACKS -/
def lck (f : Int32 → Bool) (met : Int32) : Nat → Nat → Int
  | 0, _ => 99
  | F + 1, t => if f (met ^^^ ((1 : Int32) <<< (Int32.ofNat t &&& 31))) = true then (t : Int) else lck f met F (t + 1)
def lcks (f : Int32 → Bool) (met : Int32) (m : Nat) : Int := if f met = true then -1 else lck f met m 0
