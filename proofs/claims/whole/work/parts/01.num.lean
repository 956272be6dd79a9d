/-! 01: numbers, bytes, the pure functions, the leaves of both sides -/
theorem pk_us {f : Nat → Int32} {k : Nat} {x : Int32} : upd f k x k = x := if_pos rfl
theorem pk_un {f : Nat → Int32} {k j : Nat} {x : Int32} (h : j ≠ k) : upd f k x j = f j := if_neg h
theorem pk_sub {a b : Nat} (h : b ≤ a) : nI a - nI b = nI (a - b) := by
  obtain ⟨c, rfl⟩ : ∃ c, a = c + b := ⟨a - b, by omega⟩
  rw [← nI_add, Int32.add_sub_cancel, Nat.add_sub_cancel]
theorem pk_mul (a b : Nat) : nI a * nI b = nI (a * b) := (Int32.ofNat_mul a b).symm
theorem pk_div {a d : Nat} (ha : a < 2 ^ 31) (h0 : 0 < d) (hd : d < 2 ^ 31) : nI a / nI d = nI (a / d) := by
  apply Int32.toInt_inj.mp
  rw [lg_idiv_nonneg (by rw [nI_toInt ha]; omega) (by rw [nI_toInt hd]; omega), nI_toInt ha, nI_toInt hd, nI_toInt (Nat.lt_of_le_of_lt (Nat.div_le_self a d) ha)]
  first | rfl | exact (Int.natCast_ediv _ _).symm
theorem pk_rem {a d : Nat} (ha : a < 2 ^ 31) (h0 : 0 < d) (hd : d < 2 ^ 31) : nI a - nI a / nI d * nI d = nI (a % d) := by
  rw [pk_div ha h0 hd, pk_mul, pk_sub (Nat.div_mul_le_self a d)]
  exact congrArg nI (by have := Nat.div_add_mod' a d; omega)
theorem pk_sub_toInt {a b : Nat} (ha : a < 2 ^ 30) (hb : b < 2 ^ 30) : (nI a - nI b).toInt = (a : Int) - b := by
  rw [Int32.toInt_sub, nI_toInt (by omega), nI_toInt (by omega)]
  exact Int.bmod_eq_of_le (by omega) (by omega)
theorem pk_ix (x : Int32) {n : Nat} (hn : n < 2 ^ 31) : x < 0 ∨ nI n ≤ x ∨ ∃ j : Nat, j < n ∧ x = nI j := by
  by_cases h : x < 0
  · exact Or.inl h
  · obtain ⟨j, hj, rfl⟩ := nI_of h
    by_cases h2 : j < n
    · exact Or.inr (Or.inr ⟨j, h2, rfl⟩)
    · exact Or.inr (Or.inl (nI_le (by omega) hj))
theorem pk_in {x : Int32} (n N : Nat) (h : n < N) (hx : x = nI n := by rfl) (hN : N < 2 ^ 31 := by omega) : vp_in x N := by
  subst hx
  exact vp_in_nI h hN
theorem pk_cl {x : Int32} (n : Nat) (hx : x = nI n := by rfl) (h : n < 2 ^ 31 := by omega) : x.toNatClampNeg = n := by
  subst hx
  exact nI_clamp h

theorem sa_10 : ¬ (1 : Int32) = 0 := by decide
theorem sa_01 : ¬ (0 : Int32) = 1 := by decide
theorem sa_80 : ¬ (8 : Int32) = 0 := by decide
theorem sa_8m (i : Nat) : 8 * nI i = nI (8 * i) := pk_mul 8 i
theorem sa_d8 {i : Nat} (h : i ≤ 100) : nI (8 * i) / 8 = nI i := by
  have e : nI (8 * i) / nI 8 = nI (8 * i / 8) := pk_div (by omega) (by decide) (by decide)
  rw [Nat.mul_div_cancel_left i (by decide)] at e
  exact e
theorem sa_p8 (a : Nat) : nI a + 8 = nI (a + 8) := nI_add a 8
theorem sa_p16 (a : Nat) : nI a + 16 = nI (a + 16) := nI_add a 16
theorem sa_le8 {a b : Nat} (ha : a < 2000) (hb : b < 2000) : nI a + 8 ≤ nI b ↔ a + 8 ≤ b := by
  rw [sa_p8]; exact nI_leI (by omega) (by omega)
theorem sa_le16 {a b : Nat} (ha : a < 2000) (hb : b < 2000) : nI a + 16 ≤ nI b ↔ a + 16 ≤ b := by
  rw [sa_p16]; exact nI_leI (by omega) (by omega)
theorem sa_lt8 {a b : Nat} (ha : a < 2000) (hb : b < 2000) : nI b < nI a + 8 ↔ b < a + 8 := by
  rw [sa_p8]; exact nI_ltI (by omega) (by omega)
theorem sa_i8 (x : Int32) : (x &&& 255).toInt8 = x.toInt8 := by
  rw [Int32.toInt8_and, show (255 : Int32).toInt8 = -1 from by decide, Int8.and_neg_one]
def sa_B (v : Int32) : Int32 := vp_nar .byte v.toInt8.toInt32
theorem sa_bB (x : Int32) : sa_B (x &&& 255) = sa_B x := by
  unfold sa_B
  rw [sa_i8]
theorem sa_by {L : Nat → Int32} {q : Nat} {x : Int32} (e : x = nI q) (hq : q < 2 ^ 31) : L x.toNatClampNeg &&& 255 = L q &&& 255 := by
  rw [e, nI_clamp hq]
def sa_dec (b : Int32) : Int32 := if b ≤ 0 then b else b - 1
theorem sa_dec_m1 : sa_dec (-1) = -1 := by
  unfold sa_dec
  exact if_pos (by decide)
/-! mix, ratchet, tag -/
def sa_m2 (a : Int32) : Int32 := a ^^^ ((a.toUInt32 >>> ((16 : Int32).toUInt32 &&& Int32.toUInt32 31)).toInt32)
def sa_m4 (a : Int32) : Int32 := a ^^^ ((a.toUInt32 >>> ((13 : Int32).toUInt32 &&& Int32.toUInt32 31)).toInt32)
def sa_mix (x : Int32) : Int32 := sa_m4 (sa_m2 (x * (-1640531535)) * (-2048144789))
def sa_rat (k : Int32) : Int32 := sa_mix (k ^^^ 1779033703) ^^^ k
def sa_tag (k p a b c d : Int32) : Int32 := sa_mix (sa_mix (sa_mix (sa_mix (k ^^^ p ^^^ a) ^^^ b) ^^^ c) ^^^ d)
variable {ca el ge gk gt gp we wt ws wp sd cr bu vk rs : Int32} {lg rc : Nat → Int32}
theorem sa_xmix {post : Int32 → Prop} {x : Int32} (h : post (sa_mix x)) : wpX_mix post x := by
  unfold wpX_mix
  exact nm_e (nm_e (nm_e h))
theorem sa_ymix {post : Int32 → Prop} {x : Int32} (h : post (sa_mix x)) : wpY_mix post (ca, el, ge, gk, gt, gp, we, wt, ws, wp, bu, vk, rs, sd, cr, lg, rc) x := by
  unfold wpY_mix
  exact nm_e (nm_e (nm_e (nm_e h)))
theorem sa_xrat {post : Int32 → Prop} {k : Int32} (h : post (sa_rat k)) : wpX_ratchet post k := by
  unfold wpX_ratchet
  exact sa_xmix (post := fun r => post (r ^^^ k)) h
theorem sa_yrat {post : Int32 → Prop} {k : Int32} (h : post (sa_rat k)) : wpY_ratchet post (ca, el, ge, gk, gt, gp, we, wt, ws, wp, bu, vk, rs, sd, cr, lg, rc) k := by
  unfold wpY_ratchet
  exact sa_ymix (post := fun r => post (r ^^^ k)) h
theorem sa_xtag {post : Int32 → Prop} {k p a b c d : Int32} (h : post (sa_tag k p a b c d)) : wpX_tag post k p a b c d := by
  unfold wpX_tag
  refine nm_e ?_
  refine sa_xmix ?_
  refine sa_xmix ?_
  refine sa_xmix ?_
  refine sa_xmix ?_
  exact h
theorem sa_ytag {post : Int32 → Prop} {k p a b c d : Int32} (h : post (sa_tag k p a b c d)) : wpY_tag post (ca, el, ge, gk, gt, gp, we, wt, ws, wp, bu, vk, rs, sd, cr, lg, rc) k p a b c d := by
  unfold wpY_tag
  refine nm_e ?_
  refine sa_ymix ?_
  refine sa_ymix ?_
  refine sa_ymix ?_
  refine sa_ymix ?_
  exact h
/-! stored bytes and tags -/
def sa_st (L : Nat → Int32) (q : Nat) : Int32 := ((((L (q + 4) &&& 255) <<< ((24 : Int32) &&& 31)) ||| ((L (q + 5) &&& 255) <<< ((16 : Int32) &&& 31))) ||| ((L (q + 6) &&& 255) <<< ((8 : Int32) &&& 31))) ||| (L (q + 7) &&& 255)
theorem sa_xbyte {post : Int32 → Prop} {q : Nat} {x : Int32} (hq : q < 256) (e : x = nI q) (h : post (lg q &&& 255)) : wpX_byteAt post (ca, el, ge, gk, gt, gp, we, wt, ws, wp, sd, cr, bu, vk, rs, lg) x := by
  subst e
  unfold wpX_byteAt
  refine And.intro (vp_in_nI hq (by decide)) ?_
  rw [nI_clamp (n := q) (by omega)]
  exact h
theorem sa_xstag {post : Int32 → Prop} {i : Nat} (hi : 8 * i + 8 ≤ 256) (h : post (sa_st lg (8 * i))) : wpX_storedTag post (ca, el, ge, gk, gt, gp, we, wt, ws, wp, sd, cr, bu, vk, rs, lg) (nI i) := by
  unfold wpX_storedTag
  refine nm_r (sa_8m i) ?_
  refine sa_xbyte (q := 8 * i + 4) (by omega) (nI_add (8 * i) 4) ?_
  refine sa_xbyte (q := 8 * i + 5) (by omega) (nI_add (8 * i) 5) ?_
  refine sa_xbyte (q := 8 * i + 6) (by omega) (nI_add (8 * i) 6) ?_
  refine sa_xbyte (q := 8 * i + 7) (by omega) (nI_add (8 * i) 7) ?_
  exact h
theorem sa_ystag {post : Int32 → Prop} {q : Nat} (hq : q + 8 ≤ 256) (h : post (sa_st lg q)) : wpY_storedTag post (ca, el, ge, gk, gt, gp, we, wt, ws, wp, bu, vk, rs, sd, cr, lg, rc) (nI q) := by
  have c4 : lg (nI q + 4).toNatClampNeg &&& 255 = lg (q + 4) &&& 255 := sa_by (nI_add q 4) (by omega)
  have c5 : lg (nI q + 5).toNatClampNeg &&& 255 = lg (q + 5) &&& 255 := sa_by (nI_add q 5) (by omega)
  have c6 : lg (nI q + 6).toNatClampNeg &&& 255 = lg (q + 6) &&& 255 := sa_by (nI_add q 6) (by omega)
  have c7 : lg (nI q + 7).toNatClampNeg &&& 255 = lg (q + 7) &&& 255 := sa_by (nI_add q 7) (by omega)
  unfold wpY_storedTag
  refine And.intro (pk_in (q + 4) 256 (by omega) (nI_add q 4)) ?_
  refine And.intro (pk_in (q + 5) 256 (by omega) (nI_add q 5)) ?_
  refine And.intro (pk_in (q + 6) 256 (by omega) (nI_add q 6)) ?_
  refine And.intro (pk_in (q + 7) 256 (by omega) (nI_add q 7)) ?_
  rw [c4, c5, c6, c7]
  exact h
