/-! ===== how many bits a long has ===== -/
def mkB (a : Nat) : Nat → Nat
  | 0 => 0
  | k + 1 => 256 * mkB a k + a
theorem pc_and {lo hi a m k : Nat} (hlo : lo < 256) (ha : a < 2 ^ (8 - k)) (hk : k ≤ 8) : ((256 * hi + lo) >>> k) &&& (256 * m + a) = 256 * ((hi >>> k) &&& m) + ((lo >>> k) &&& a) := by
  have ha8 : a < 2 ^ 8 := Nat.lt_of_lt_of_le ha (Nat.pow_le_pow_right (by decide) (by omega))
  have hl8 : (lo >>> k) &&& a < 2 ^ 8 := Nat.lt_of_le_of_lt Nat.and_le_right ha8
  refine Nat.eq_of_testBit_eq (fun i => ?_)
  have e1 : (256 * hi + lo).testBit (k + i) = if k + i < 8 then lo.testBit (k + i) else hi.testBit (k + i - 8) := Nat.testBit_two_pow_mul_add (i := 8) hi hlo (k + i)
  have e2 : (256 * m + a).testBit i = if i < 8 then a.testBit i else m.testBit (i - 8) := Nat.testBit_two_pow_mul_add (i := 8) m ha8 i
  have e3 : (256 * ((hi >>> k) &&& m) + ((lo >>> k) &&& a)).testBit i = if i < 8 then ((lo >>> k) &&& a).testBit i else ((hi >>> k) &&& m).testBit (i - 8) := Nat.testBit_two_pow_mul_add (i := 8) _ hl8 i
  rw [e3, Nat.testBit_and, Nat.testBit_shiftRight, e1, e2]
  by_cases h8 : i < 8
  · rw [if_pos h8, if_pos h8, Nat.testBit_and, Nat.testBit_shiftRight]
    by_cases h9 : k + i < 8
    · rw [if_pos h9]
    · rw [Nat.testBit_lt_two_pow (x := a) (i := i) (Nat.lt_of_lt_of_le ha (Nat.pow_le_pow_right (by decide) (by omega))), Bool.and_false, Bool.and_false]
  · rw [if_neg h8, if_neg h8, if_neg (by omega), Nat.testBit_and, Nat.testBit_shiftRight, show k + i - 8 = k + (i - 8) by omega]
def pA (n m : Nat) : Nat := n - ((n >>> 1) &&& m)
def pB (n m : Nat) : Nat := (n &&& m) + ((n >>> 2) &&& m)
def pC (n m : Nat) : Nat := (n + n >>> 4) &&& m
theorem and_le_shr (n m k : Nat) : (n >>> k) &&& m ≤ n := Nat.le_trans Nat.and_le_left (by rw [Nat.shiftRight_eq_div_pow]; exact Nat.div_le_self _ _)
theorem pA_s {lo hi m : Nat} (hlo : lo < 256) : pA (256 * hi + lo) (256 * m + 85) = 256 * pA hi m + pA lo 85 := by
  unfold pA
  rw [pc_and (k := 1) hlo (by decide) (by decide)]
  have h1 := and_le_shr hi m 1
  have h2 := and_le_shr lo 85 1
  omega
theorem pB_s {lo hi m : Nat} (hlo : lo < 256) : pB (256 * hi + lo) (256 * m + 51) = 256 * pB hi m + pB lo 51 := by
  unfold pB
  have h0 := pc_and (lo := lo) (hi := hi) (a := 51) (m := m) (k := 0) hlo (by decide) (by decide)
  simp only [Nat.shiftRight_zero] at h0
  rw [h0, pc_and (k := 2) hlo (by decide) (by decide)]
  omega
theorem pC_s {lo hi m : Nat} (hlo : lo ≤ 68) (hh : hi % 16 ≤ 4) : pC (256 * hi + lo) (256 * m + 15) = 256 * pC hi m + pC lo 15 := by
  unfold pC
  simp only [Nat.shiftRight_eq_div_pow]
  have e : 256 * hi + lo + (256 * hi + lo) / 2 ^ 4 = 256 * (hi + hi / 2 ^ 4) + (16 * (hi % 16) + (lo + lo / 2 ^ 4)) := by omega
  have h0 := pc_and (lo := 16 * (hi % 16) + (lo + lo / 2 ^ 4)) (hi := hi + hi / 2 ^ 4) (a := 15) (m := m) (k := 0) (by omega) (by decide) (by decide)
  simp only [Nat.shiftRight_zero] at h0
  rw [e, h0]
  have a1 : (16 * (hi % 16) + (lo + lo / 2 ^ 4)) &&& 15 = (16 * (hi % 16) + (lo + lo / 2 ^ 4)) % 16 := Nat.and_two_pow_sub_one_eq_mod _ 4
  have a2 : (lo + lo / 2 ^ 4) &&& 15 = (lo + lo / 2 ^ 4) % 16 := Nat.and_two_pow_sub_one_eq_mod _ 4
  rw [a1, a2]; omega
/-- the counts of the bytes, byte by byte -/
def pQ : Nat → Nat → Nat
  | 0, _ => 0
  | k + 1, n => 256 * pQ k (n / 256) + pcN (n % 256)
def pR : Nat → Nat → Nat
  | 0, _ => 0
  | k + 1, n => 256 * pR k (n / 256) + pB (pA (n % 256) 85) 51
theorem p8_all : ∀ b, b < 256 → pA b 85 < 256 ∧ pB (pA b 85) 51 ≤ 68 ∧ pB (pA b 85) 51 % 16 ≤ 4 ∧ pC (pB (pA b 85) 51) 15 = pcN b := by decide +kernel
theorem pR_eq : ∀ (k n : Nat), n < 256 ^ k → pB (pA n (mkB 85 k)) (mkB 51 k) = pR k n
  | 0, n, h => by
    have : n = 0 := by simpa using h
    subst this; rfl
  | k + 1, n, h => by
    have hd : n = 256 * (n / 256) + n % 256 := by omega
    have hm : n % 256 < 256 := Nat.mod_lt _ (by decide)
    have h2 : n / 256 < 256 ^ k := by rw [Nat.pow_succ] at h; omega
    conv => lhs; rw [hd]
    show pB (pA _ (256 * mkB 85 k + 85)) (256 * mkB 51 k + 51) = 256 * pR k (n / 256) + _
    rw [pA_s hm, pB_s (p8_all _ hm).1, pR_eq k _ h2]
theorem pR_16 (k n : Nat) : pR k n % 16 ≤ 4 := by
  cases k with
  | zero => exact Nat.zero_le _
  | succ k =>
    have := (p8_all (n % 256) (Nat.mod_lt _ (by decide))).2.2.1
    simp only [pR]; omega
theorem pQ_eq : ∀ (k n : Nat), pC (pR k n) (mkB 15 k) = pQ k n
  | 0, n => Nat.and_zero _
  | k + 1, n => by
    have h8 := p8_all (n % 256) (Nat.mod_lt _ (by decide))
    show pC (256 * pR k (n / 256) + _) (256 * mkB 15 k + 15) = 256 * pQ k (n / 256) + _
    rw [pC_s h8.2.1 (pR_16 _ _), pQ_eq k, h8.2.2.2]
theorem pcN_le (b : Nat) : pcN b ≤ 8 := wCnt_le _ _
theorem wCnt_app (p : Nat → Bool) (a : Nat) : ∀ b, wCnt p (a + b) = wCnt p a + wCnt (fun j => p (a + j)) b
  | 0 => rfl
  | b + 1 => by
    rw [← Nat.add_assoc]; simp only [wCnt]; rw [wCnt_app p a b, Nat.add_assoc]
theorem wCnt_byte : ∀ (k n : Nat), wCnt (fun i => n.testBit i) (8 * (k + 1)) = wCnt (fun i => (n / 256).testBit i) (8 * k) + pcN (n % 256) := fun k n => by
  rw [show 8 * (k + 1) = 8 + 8 * k by omega, wCnt_app, Nat.add_comm]
  congr 1
  · exact wCnt_cong (fun i _ => by rw [show n / 256 = n / 2 ^ 8 from rfl, Nat.testBit_div_two_pow, Nat.add_comm])
  · unfold pcN
    exact wCnt_cong (fun i hi => by rw [show n % 256 = n % 2 ^ 8 from rfl, Nat.testBit_mod_two_pow, decide_eq_true hi, Bool.true_and])
def pcSum : Nat → Nat → Nat
  | 0, _ => 0
  | k + 1, n => pcSum k (n / 256) + pcN (n % 256)
theorem pcSum_eq : ∀ (k n : Nat), wCnt (fun i => n.testBit i) (8 * k) = pcSum k n
  | 0, _ => rfl
  | k + 1, n => by rw [wCnt_byte, pcSum_eq k]; rfl
def uL (x : Int64) : Nat := x.toBitVec.toNat
theorem uL_lt (x : Int64) : uL x < 2 ^ 64 := x.toBitVec.isLt
theorem uL_and (x y : Int64) : uL (x &&& y) = uL x &&& uL y := by unfold uL; rw [Int64.toBitVec_and, BitVec.toNat_and]
theorem uL_add (x y : Int64) : uL (x + y) = (uL x + uL y) % 2 ^ 64 := by unfold uL; rw [Int64.toBitVec_add, BitVec.toNat_add]
theorem uL_sub {x y : Int64} (h : uL y ≤ uL x) : uL (x - y) = uL x - uL y := by
  have h1 := uL_lt x; have h2 := uL_lt y
  unfold uL at h h1 h2 ⊢; rw [Int64.toBitVec_sub, BitVec.toNat_sub]; omega
theorem uL_shr {n : Nat} (hn : n < 64) (x : Int64) : uL ((x.toUInt64 >>> ((nI n).toInt64.toUInt64 &&& Int64.toUInt64 63)).toInt64) = uL x >>> n := by
  rw [lb_cu n hn]
  show (x.toUInt64 >>> UInt64.ofNat n).toNat = _
  have h1 : (UInt64.ofNat n).toNat = n := by
    show (BitVec.ofNat 64 n).toNat = n
    rw [BitVec.toNat_ofNat, Nat.mod_eq_of_lt (by omega)]
  rw [UInt64.toNat_shiftRight, h1, Nat.mod_eq_of_lt hn]
  rfl
theorem l2i127 (x : Int64) : x.toInt32 &&& 127 = nI (uL x % 128) := by
  apply Int32.toBitVec_inj.mp
  apply BitVec.eq_of_toNat_eq
  rw [Int32.toBitVec_and, BitVec.toNat_and]
  have e1 : x.toInt32.toBitVec.toNat = uL x % 2 ^ 32 := by
    show (x.toBitVec.signExtend 32).toNat = _
    rw [BitVec.signExtend_eq_setWidth_of_le _ (by decide), BitVec.toNat_setWidth]; rfl
  have e2 : (nI (uL x % 128)).toBitVec.toNat = uL x % 128 := by
    show (BitVec.ofNat 32 _).toNat = _
    rw [BitVec.toNat_ofNat, Nat.mod_eq_of_lt (by omega)]
  rw [e1, e2]
  show uL x % 2 ^ 32 &&& 127 = _
  have a : uL x % 2 ^ 32 &&& 127 = uL x % 2 ^ 32 % 128 := Nat.and_two_pow_sub_one_eq_mod _ 7
  rw [a]; omega
theorem dv_ {p x k : Nat} (h : p < k) : (p + k * x) / k = x := by
  rw [Nat.add_mul_div_left _ _ (by omega), Nat.div_eq_of_lt h, Nat.zero_add]
theorem s8_d {p0 p1 p2 X1 X2 X3 : Nat} (h1 : X1 = p1 + 256 * X2) (h2 : X2 = p2 + 256 * X3) : p0 + 256 * X1 + X1 = ((p0 + p1) + 256 * (p1 + p2)) + 65536 * (X2 + X3) := by omega
theorem s8_e {p0 p1 p2 p3 p4 p5 p6 X2 X3 X4 X5 X6 X7 : Nat} (h2 : X2 = p2 + 256 * X3) (h3 : X3 = p3 + 256 * X4) (h4 : X4 = p4 + 256 * X5) (h5 : X5 = p5 + 256 * X6) (h6 : X6 = p6 + 256 * X7) : ((p0 + p1) + 256 * (p1 + p2)) + 65536 * (X2 + X3) + (X2 + X3) = ((p0 + p1 + p2 + p3) + 256 * (p1 + p2 + p3 + p4) + 65536 * (p2 + p3 + p4 + p5) + 16777216 * (p3 + p4 + p5 + p6)) + 4294967296 * (X4 + X5 + X6 + X7) := by omega
theorem s8_f {a b c d X4 X5 X6 X7 p4 p5 p6 : Nat} (h4 : X4 = p4 + 256 * X5) (h5 : X5 = p5 + 256 * X6) (h6 : X6 = p6 + 256 * X7) : (a + 256 * b + 65536 * c + 16777216 * d) + 4294967296 * (X4 + X5 + X6 + X7) + (X4 + X5 + X6 + X7) = (a + p4 + p5 + p6 + X7) + 128 * (2 * b + 512 * c + 131072 * d + 33554432 * (X4 + X5 + X6 + X7) + 2 * (X5 + X6 + X7)) := by omega
theorem s8_l1 {a b : Nat} (ha : a ≤ 16) (hb : b ≤ 16) : a + 256 * b < 65536 := by omega
theorem s8_l2 {a b c d : Nat} (ha : a ≤ 32) (hb : b ≤ 32) (hc : c ≤ 32) (hd : d ≤ 32) : a + 256 * b + 65536 * c + 16777216 * d < 4294967296 := by omega
theorem s8_x {p X m : Nat} (hp : p ≤ 8) (hX : X ≤ m) : p + 256 * X ≤ 8 + 256 * m := by omega
theorem sum8 {p0 p1 p2 p3 p4 p5 p6 X1 X2 X3 X4 X5 X6 X7 c : Nat} (g0 : p0 ≤ 8) (g1 : p1 ≤ 8) (g2 : p2 ≤ 8) (g3 : p3 ≤ 8) (g4 : p4 ≤ 8) (g5 : p5 ≤ 8) (g6 : p6 ≤ 8) (g7 : X7 ≤ 8) (hc : c = p0 + 256 * X1) (h1 : X1 = p1 + 256 * X2) (h2 : X2 = p2 + 256 * X3) (h3 : X3 = p3 + 256 * X4) (h4 : X4 = p4 + 256 * X5) (h5 : X5 = p5 + 256 * X6) (h6 : X6 = p6 + 256 * X7) :
    ((c + c / 256 + (c + c / 256) / 65536 + (c + c / 256 + (c + c / 256) / 65536) / 4294967296) % 128 = p0 + p1 + p2 + p3 + p4 + p5 + p6 + X7) ∧ c < 2 ^ 60 := by
  have b6 := s8_x g6 g7; rw [← h6] at b6
  have b5 := s8_x g5 b6; rw [← h5] at b5
  have b4 := s8_x g4 b5; rw [← h4] at b4
  have b3 := s8_x g3 b4; rw [← h3] at b3
  have b2 := s8_x g2 b3; rw [← h2] at b2
  have b1 := s8_x g1 b2; rw [← h1] at b1
  have b0 := s8_x g0 b1; rw [← hc] at b0
  refine ⟨?_, Nat.lt_of_le_of_lt b0 (by decide)⟩
  clear b0 b1 b2 b3 b4 b5 b6
  have c1 : c / 256 = X1 := by rw [hc]; exact dv_ (Nat.lt_of_le_of_lt g0 (by decide))
  have d1 : c + c / 256 = ((p0 + p1) + 256 * (p1 + p2)) + 65536 * (X2 + X3) := by rw [c1, hc]; exact s8_d h1 h2
  have d2 : (c + c / 256) / 65536 = X2 + X3 := by rw [d1]; exact dv_ (s8_l1 (Nat.add_le_add g0 g1) (Nat.add_le_add g1 g2))
  have e1 := s8_e (p0 := p0) (p1 := p1) h2 h3 h4 h5 h6
  rw [← d1] at e1
  rw [d2, e1, dv_ (s8_l2 (Nat.add_le_add (Nat.add_le_add (Nat.add_le_add g0 g1) g2) g3) (Nat.add_le_add (Nat.add_le_add (Nat.add_le_add g1 g2) g3) g4) (Nat.add_le_add (Nat.add_le_add (Nat.add_le_add g2 g3) g4) g5) (Nat.add_le_add (Nat.add_le_add (Nat.add_le_add g3 g4) g5) g6)), s8_f h4 h5 h6, Nat.add_mul_mod_self_left]
  exact Nat.mod_eq_of_lt (Nat.lt_of_le_of_lt (Nat.add_le_add (Nat.add_le_add (Nat.add_le_add (Nat.add_le_add (Nat.add_le_add (Nat.add_le_add (Nat.add_le_add g0 g1) g2) g3) g4) g5) g6) g7) (by decide))
def shU (a : Int64) (n : Int32) : Int64 := (a.toUInt64 >>> (n.toInt64.toUInt64 &&& Int64.toUInt64 63)).toInt64
theorem bcL_eq {x a b c d e f : Int64} (ha : a = x - (shU x 1 &&& 6148914691236517205)) (hb : b = (a &&& 3689348814741910323) + (shU a 2 &&& 3689348814741910323)) (hc : c = (b + shU b 4) &&& 1085102592571150095) (hd : d = c + shU c 8) (he : e = d + shU d 16) (hf : f = e + shU e 32) : bcL x = f.toInt32 &&& 127 := by
  subst ha hb hc hd he hf; rfl
theorem shU_n {n : Nat} (hn : n < 64) (x : Int64) : uL (shU x (nI n)) = uL x >>> n := uL_shr hn x
theorem mk_5 : uL 6148914691236517205 = mkB 85 8 := by decide +kernel
theorem mk_3 : uL 3689348814741910323 = mkB 51 8 := by decide +kernel
theorem mk_1 : uL 1085102592571150095 = mkB 15 8 := by decide +kernel
theorem mk_3l : mkB 51 8 < 2 ^ 62 := by decide +kernel
theorem u256 {x : Int64} : uL x < 256 ^ 8 := Nat.lt_of_lt_of_eq (uL_lt x) (by decide +kernel)
theorem ua_ (x : Int64) : uL (x - (shU x 1 &&& 6148914691236517205)) = pA (uL x) (mkB 85 8) := by
  have s1 : uL (shU x 1) = uL x >>> 1 := shU_n (n := 1) (by decide) x
  rw [uL_sub (by rw [uL_and, s1]; exact and_le_shr _ _ _), uL_and, s1, mk_5]; rfl
theorem ub_ (x a : Int64) (ua : uL a = pA (uL x) (mkB 85 8)) : uL ((a &&& 3689348814741910323) + (shU a 2 &&& 3689348814741910323)) = pR 8 (uL x) ∧ pR 8 (uL x) < 2 ^ 63 := by
  have s2 : uL (shU a 2) = uL a >>> 2 := shU_n (n := 2) (by decide) a
  have hm3 := mk_3l
  have q1 : pA (uL x) (mkB 85 8) &&& mkB 51 8 ≤ mkB 51 8 := Nat.and_le_right
  have q2 : (pA (uL x) (mkB 85 8) >>> 2) &&& mkB 51 8 ≤ mkB 51 8 := Nat.and_le_right
  have e : pR 8 (uL x) = (pA (uL x) (mkB 85 8) &&& mkB 51 8) + ((pA (uL x) (mkB 85 8) >>> 2) &&& mkB 51 8) := (pR_eq 8 _ u256).symm
  constructor
  · rw [uL_add, uL_and, uL_and, s2, mk_3, ua, e]
    exact Nat.mod_eq_of_lt (by omega)
  · omega
theorem uc_ (x b : Int64) (ub : uL b = pR 8 (uL x)) (hb : pR 8 (uL x) < 2 ^ 63) : uL ((b + shU b 4) &&& 1085102592571150095) = pQ 8 (uL x) := by
  have s4 : uL (shU b 4) = uL b >>> 4 := shU_n (n := 4) (by decide) b
  have hl : uL b + uL b >>> 4 < 2 ^ 64 := by rw [Nat.shiftRight_eq_div_pow, ub]; omega
  rw [uL_and, uL_add, s4, mk_1, Nat.mod_eq_of_lt hl, ← pQ_eq 8, ← ub]; rfl
theorem ud_ (c : Int64) (n k : Nat) (hn : n < 64) (hk : 2 ^ n = k) (h : uL c < 2 ^ 62) (h2 : 2 ≤ k) : uL (c + shU c (nI n)) = uL c + uL c / k := by
  have hl : uL c / k ≤ uL c := Nat.div_le_self _ _
  rw [uL_add, shU_n hn, Nat.shiftRight_eq_div_pow, hk, Nat.mod_eq_of_lt (by omega)]
theorem bcL_cnt (x : Int64) : bcL x = nI (wCnt (fun i => lb x i) 64) := by
  have hb : wCnt (fun i => lb x i) 64 = pcSum 8 (uL x) := by
    rw [← pcSum_eq]; exact wCnt_cong (fun i _ => rfl)
  have ub := ub_ x _ (ua_ x)
  have uc := uc_ x _ ub.1 ub.2
  obtain ⟨hs, hc60⟩ := sum8 (c := pQ 8 (uL x)) (pcN_le _) (pcN_le _) (pcN_le _) (pcN_le _) (pcN_le _) (pcN_le _) (pcN_le _) (show pQ 1 (uL x / 256 / 256 / 256 / 256 / 256 / 256 / 256) ≤ 8 from by have := pcN_le (uL x / 256 / 256 / 256 / 256 / 256 / 256 / 256 % 256); simp only [pQ]; omega) (Nat.add_comm _ _ : pQ 8 (uL x) = pcN (uL x % 256) + 256 * pQ 7 (uL x / 256)) (Nat.add_comm _ _ : pQ 7 _ = _ + 256 * pQ 6 _) (Nat.add_comm _ _ : pQ 6 _ = _ + 256 * pQ 5 _) (Nat.add_comm _ _ : pQ 5 _ = _ + 256 * pQ 4 _) (Nat.add_comm _ _ : pQ 4 _ = _ + 256 * pQ 3 _) (Nat.add_comm _ _ : pQ 3 _ = _ + 256 * pQ 2 _) (Nat.add_comm _ _ : pQ 2 _ = _ + 256 * pQ 1 _)
  rw [bcL_eq rfl rfl rfl rfl rfl rfl, l2i127, hb]
  have h1 := ud_ _ 8 256 (by decide) (by decide) (Nat.lt_of_le_of_lt (Nat.le_of_eq uc) (Nat.lt_of_lt_of_le hc60 (by decide))) (by decide)
  rw [uc] at h1
  have h2 := ud_ _ 16 65536 (by decide) (by decide) (show _ < 2 ^ 62 by rw [h1]; omega) (by decide)
  rw [h1] at h2
  have h3 := ud_ _ 32 4294967296 (by decide) (by decide) (show _ < 2 ^ 62 by rw [h2]; omega) (by decide)
  rw [h2] at h3
  have e3 := congrArg (fun q => nI (q % 128)) h3
  refine Eq.trans e3 (congrArg nI ?_)
  refine Eq.trans hs ?_
  simp only [pcSum, pQ, Nat.mul_zero, Nat.zero_add]
  simp only [Nat.add_comm, Nat.add_left_comm, Nat.add_assoc]
theorem wCnt_blk (p : Nat → Bool) : ∀ k, wCnt p (64 * k) = wSum (fun i => wCnt (fun j => p (64 * i + j)) 64) k
  | 0 => rfl
  | k + 1 => by
    rw [show 64 * (k + 1) = 64 * k + 64 by omega, wCnt_app, wCnt_blk p k]; rfl
theorem wCnt64 (p : Nat → Bool) : wCnt p 64 ≤ 64 := wCnt_le _ _
/-- how many states a set has -/
theorem ss_cnt {B : Nat → Int64} {p : Nat → Bool} (h : ∀ s, s < 4096 → sb B s = p s) : wSum (fun i => (bcL (B i)).toNatClampNeg) 64 = wCnt p 4096 := by
  rw [show (4096 : Nat) = 64 * 64 from rfl, wCnt_blk p 64]
  refine wSum_cong (fun i hi => ?_)
  rw [bcL_cnt, nI_clamp (by have := wCnt64 (fun j => lb (B i) j); omega)]
  refine wCnt_cong (fun j hj => ?_)
  rw [← h (64 * i + j) (by omega)]
  unfold sb
  rw [show (64 * i + j) / 64 = i by omega, show (64 * i + j) % 64 = j by omega]
