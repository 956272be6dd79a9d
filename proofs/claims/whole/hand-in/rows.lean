section
/-! 01: numbers, bytes, the pure functions, the leaves of both sides -/
theorem pk_us {f : Nat → Int32} {k : Nat} {x : Int32} : upd f k x k = x := if_pos rfl
theorem pk_un {f : Nat → Int32} {k j : Nat} {x : Int32} (h : j ≠ k) : upd f k x j = f j := if_neg h
theorem pk_sub {a b : Nat} (h : b ≤ a) : nI a - nI b = nI (a - b) := by
  obtain ⟨c, rfl⟩ : ∃ c, a = c + b := ⟨a - b, by omega⟩
  rw [← nI_add, Int32.add_sub_cancel, Nat.add_sub_cancel]
theorem pk_mul (a b : Nat) : nI a * nI b = nI (a * b) := (Int32.ofNat_mul a b).symm
theorem pk_div {a d : Nat} (ha : a < 2 ^ 31) (h0 : 0 < d) (hd : d < 2 ^ 31) : nI a / nI d = nI (a / d) := by
  apply Int32.toInt_inj.mp
  rw [lg_idiv_nonneg (by rw [nI_toInt ha]; omega) (by rw [nI_toInt hd]; omega), nI_toInt ha, nI_toInt hd, nI_toInt (Nat.lt_of_le_of_lt (Nat.div_le_self a d) ha)]
  first | rfl | exact (Int.natCast_ediv _ _).symm
theorem pk_rem {a d : Nat} (ha : a < 2 ^ 31) (h0 : 0 < d) (hd : d < 2 ^ 31) : nI a - nI a / nI d * nI d = nI (a % d) := by
  rw [pk_div ha h0 hd, pk_mul, pk_sub (Nat.div_mul_le_self a d)]
  exact congrArg nI (by have := Nat.div_add_mod' a d; omega)
theorem pk_sub_toInt {a b : Nat} (ha : a < 2 ^ 30) (hb : b < 2 ^ 30) : (nI a - nI b).toInt = (a : Int) - b := by
  rw [Int32.toInt_sub, nI_toInt (by omega), nI_toInt (by omega)]
  exact Int.bmod_eq_of_le (by omega) (by omega)
theorem pk_ix (x : Int32) {n : Nat} (hn : n < 2 ^ 31) : x < 0 ∨ nI n ≤ x ∨ ∃ j : Nat, j < n ∧ x = nI j := by
  by_cases h : x < 0
  · exact Or.inl h
  · obtain ⟨j, hj, rfl⟩ := nI_of h
    by_cases h2 : j < n
    · exact Or.inr (Or.inr ⟨j, h2, rfl⟩)
    · exact Or.inr (Or.inl (nI_le (by omega) hj))
theorem pk_in {x : Int32} (n N : Nat) (h : n < N) (hx : x = nI n := by rfl) (hN : N < 2 ^ 31 := by omega) : vp_in x N := by
  subst hx
  exact vp_in_nI h hN
theorem pk_cl {x : Int32} (n : Nat) (hx : x = nI n := by rfl) (h : n < 2 ^ 31 := by omega) : x.toNatClampNeg = n := by
  subst hx
  exact nI_clamp h

theorem sa_10 : ¬ (1 : Int32) = 0 := by decide
theorem sa_01 : ¬ (0 : Int32) = 1 := by decide
theorem sa_80 : ¬ (8 : Int32) = 0 := by decide
theorem sa_8m (i : Nat) : 8 * nI i = nI (8 * i) := pk_mul 8 i
theorem sa_d8 {i : Nat} (h : i ≤ 100) : nI (8 * i) / 8 = nI i := by
  have e : nI (8 * i) / nI 8 = nI (8 * i / 8) := pk_div (by omega) (by decide) (by decide)
  rw [Nat.mul_div_cancel_left i (by decide)] at e
  exact e
theorem sa_p8 (a : Nat) : nI a + 8 = nI (a + 8) := nI_add a 8
theorem sa_p16 (a : Nat) : nI a + 16 = nI (a + 16) := nI_add a 16
theorem sa_le8 {a b : Nat} (ha : a < 2000) (hb : b < 2000) : nI a + 8 ≤ nI b ↔ a + 8 ≤ b := by
  rw [sa_p8]; exact nI_leI (by omega) (by omega)
theorem sa_le16 {a b : Nat} (ha : a < 2000) (hb : b < 2000) : nI a + 16 ≤ nI b ↔ a + 16 ≤ b := by
  rw [sa_p16]; exact nI_leI (by omega) (by omega)
theorem sa_lt8 {a b : Nat} (ha : a < 2000) (hb : b < 2000) : nI b < nI a + 8 ↔ b < a + 8 := by
  rw [sa_p8]; exact nI_ltI (by omega) (by omega)
theorem sa_i8 (x : Int32) : (x &&& 255).toInt8 = x.toInt8 := by
  rw [Int32.toInt8_and, show (255 : Int32).toInt8 = -1 from by decide, Int8.and_neg_one]
def sa_B (v : Int32) : Int32 := vp_nar .byte v.toInt8.toInt32
theorem sa_bB (x : Int32) : sa_B (x &&& 255) = sa_B x := by
  unfold sa_B
  rw [sa_i8]
theorem sa_by {L : Nat → Int32} {q : Nat} {x : Int32} (e : x = nI q) (hq : q < 2 ^ 31) : L x.toNatClampNeg &&& 255 = L q &&& 255 := by
  rw [e, nI_clamp hq]
def sa_dec (b : Int32) : Int32 := if b ≤ 0 then b else b - 1
theorem sa_dec_m1 : sa_dec (-1) = -1 := by
  unfold sa_dec
  exact if_pos (by decide)
/-! mix, ratchet, tag -/
def sa_m2 (a : Int32) : Int32 := a ^^^ ((a.toUInt32 >>> ((16 : Int32).toUInt32 &&& Int32.toUInt32 31)).toInt32)
def sa_m4 (a : Int32) : Int32 := a ^^^ ((a.toUInt32 >>> ((13 : Int32).toUInt32 &&& Int32.toUInt32 31)).toInt32)
def sa_mix (x : Int32) : Int32 := sa_m4 (sa_m2 (x * (-1640531535)) * (-2048144789))
def sa_rat (k : Int32) : Int32 := sa_mix (k ^^^ 1779033703) ^^^ k
def sa_tag (k p a b c d : Int32) : Int32 := sa_mix (sa_mix (sa_mix (sa_mix (k ^^^ p ^^^ a) ^^^ b) ^^^ c) ^^^ d)
variable {ca el ge gk gt gp we wt ws wp sd cr bu vk rs : Int32} {lg rc : Nat → Int32}
theorem sa_xmix {post : Int32 → Prop} {x : Int32} (h : post (sa_mix x)) : wpX_mix post x := by
  unfold wpX_mix
  exact nm_e (nm_e (nm_e h))
theorem sa_ymix {post : Int32 → Prop} {x : Int32} (h : post (sa_mix x)) : wpY_mix post (ca, el, ge, gk, gt, gp, we, wt, ws, wp, bu, vk, rs, sd, cr, lg, rc) x := by
  unfold wpY_mix
  exact nm_e (nm_e (nm_e (nm_e h)))
theorem sa_xrat {post : Int32 → Prop} {k : Int32} (h : post (sa_rat k)) : wpX_ratchet post k := by
  unfold wpX_ratchet
  exact sa_xmix (post := fun r => post (r ^^^ k)) h
theorem sa_yrat {post : Int32 → Prop} {k : Int32} (h : post (sa_rat k)) : wpY_ratchet post (ca, el, ge, gk, gt, gp, we, wt, ws, wp, bu, vk, rs, sd, cr, lg, rc) k := by
  unfold wpY_ratchet
  exact sa_ymix (post := fun r => post (r ^^^ k)) h
theorem sa_xtag {post : Int32 → Prop} {k p a b c d : Int32} (h : post (sa_tag k p a b c d)) : wpX_tag post k p a b c d := by
  unfold wpX_tag
  refine nm_e ?_
  refine sa_xmix ?_
  refine sa_xmix ?_
  refine sa_xmix ?_
  refine sa_xmix ?_
  exact h
theorem sa_ytag {post : Int32 → Prop} {k p a b c d : Int32} (h : post (sa_tag k p a b c d)) : wpY_tag post (ca, el, ge, gk, gt, gp, we, wt, ws, wp, bu, vk, rs, sd, cr, lg, rc) k p a b c d := by
  unfold wpY_tag
  refine nm_e ?_
  refine sa_ymix ?_
  refine sa_ymix ?_
  refine sa_ymix ?_
  refine sa_ymix ?_
  exact h
/-! stored bytes and tags -/
def sa_st (L : Nat → Int32) (q : Nat) : Int32 := ((((L (q + 4) &&& 255) <<< ((24 : Int32) &&& 31)) ||| ((L (q + 5) &&& 255) <<< ((16 : Int32) &&& 31))) ||| ((L (q + 6) &&& 255) <<< ((8 : Int32) &&& 31))) ||| (L (q + 7) &&& 255)
theorem sa_xbyte {post : Int32 → Prop} {q : Nat} {x : Int32} (hq : q < 256) (e : x = nI q) (h : post (lg q &&& 255)) : wpX_byteAt post (ca, el, ge, gk, gt, gp, we, wt, ws, wp, sd, cr, bu, vk, rs, lg) x := by
  subst e
  unfold wpX_byteAt
  refine And.intro (vp_in_nI hq (by decide)) ?_
  rw [nI_clamp (n := q) (by omega)]
  exact h
theorem sa_xstag {post : Int32 → Prop} {i : Nat} (hi : 8 * i + 8 ≤ 256) (h : post (sa_st lg (8 * i))) : wpX_storedTag post (ca, el, ge, gk, gt, gp, we, wt, ws, wp, sd, cr, bu, vk, rs, lg) (nI i) := by
  unfold wpX_storedTag
  refine nm_r (sa_8m i) ?_
  refine sa_xbyte (q := 8 * i + 4) (by omega) (nI_add (8 * i) 4) ?_
  refine sa_xbyte (q := 8 * i + 5) (by omega) (nI_add (8 * i) 5) ?_
  refine sa_xbyte (q := 8 * i + 6) (by omega) (nI_add (8 * i) 6) ?_
  refine sa_xbyte (q := 8 * i + 7) (by omega) (nI_add (8 * i) 7) ?_
  exact h
theorem sa_ystag {post : Int32 → Prop} {q : Nat} (hq : q + 8 ≤ 256) (h : post (sa_st lg q)) : wpY_storedTag post (ca, el, ge, gk, gt, gp, we, wt, ws, wp, bu, vk, rs, sd, cr, lg, rc) (nI q) := by
  have c4 : lg (nI q + 4).toNatClampNeg &&& 255 = lg (q + 4) &&& 255 := sa_by (nI_add q 4) (by omega)
  have c5 : lg (nI q + 5).toNatClampNeg &&& 255 = lg (q + 5) &&& 255 := sa_by (nI_add q 5) (by omega)
  have c6 : lg (nI q + 6).toNatClampNeg &&& 255 = lg (q + 6) &&& 255 := sa_by (nI_add q 6) (by omega)
  have c7 : lg (nI q + 7).toNatClampNeg &&& 255 = lg (q + 7) &&& 255 := sa_by (nI_add q 7) (by omega)
  unfold wpY_storedTag
  refine And.intro (pk_in (q + 4) 256 (by omega) (nI_add q 4)) ?_
  refine And.intro (pk_in (q + 5) 256 (by omega) (nI_add q 5)) ?_
  refine And.intro (pk_in (q + 6) 256 (by omega) (nI_add q 6)) ?_
  refine And.intro (pk_in (q + 7) 256 (by omega) (nI_add q 7)) ?_
  rw [c4, c5, c6, c7]
  exact h
end
section
/-! 02: runs of write steps, pure; the class's own seal and completion -/
variable {ca el ge gk gt gp we wt ws wp sd cr bu vk rs : Int32} {lg rc : Nat → Int32}
variable {Z K : Int32 → (Nat → Int32) → Prop}
def sa_ws : List (Nat × Int32) → Int32 → (Nat → Int32) → Bool × Int32 × (Nat → Int32)
  | [], b, L => (true, b, L)
  | w :: r, b, L => if b = 0 then (false, b, L) else sa_ws r (sa_dec b) (upd L w.1 w.2)
def sa_W (Z K : Int32 → (Nat → Int32) → Prop) : List (Nat × Int32) → Int32 → (Nat → Int32) → Prop
  | [], b, L => K b L
  | w :: r, b, L => (b = 0 → Z b L) ∧ (¬ b = 0 → sa_W Z K r (sa_dec b) (upd L w.1 w.2))
def sa_wa : List (Nat × Int32) → (Nat → Int32) → (Nat → Int32)
  | [], L => L
  | w :: r, L => sa_wa r (upd L w.1 w.2)
theorem sa_W1 {w : Nat × Int32} {r : List (Nat × Int32)} {b : Int32} {L : Nat → Int32} (H : sa_W Z K (w :: r) b L) : b = 0 → Z b L := And.left H
theorem sa_W2 {w : Nat × Int32} {r : List (Nat × Int32)} {b : Int32} {L : Nat → Int32} (H : sa_W Z K (w :: r) b L) : ¬ b = 0 → sa_W Z K r (sa_dec b) (upd L w.1 w.2) := And.right H
theorem sa_Wt {l : List (Nat × Int32)} {b b' : Int32} {L L' : Nat → Int32} (hr : sa_ws l b L = (true, b', L')) (hK : K b' L') : sa_W Z K l b L := by
  induction l generalizing b L with
  | nil =>
    have e : ((true, b, L) : Bool × Int32 × (Nat → Int32)) = (true, b', L') := hr
    cases e
    exact hK
  | cons w r ih =>
    have e : (if b = 0 then (false, b, L) else sa_ws r (sa_dec b) (upd L w.1 w.2)) = (true, b', L') := hr
    by_cases z : b = 0
    · rw [if_pos z] at e
      cases e
    · rw [if_neg z] at e
      exact And.intro (fun y => absurd y z) (fun _ => ih e)
theorem sa_Wf {l : List (Nat × Int32)} {b b' : Int32} {L L' : Nat → Int32} (hr : sa_ws l b L = (false, b', L')) (hZ : Z b' L') : sa_W Z K l b L := by
  induction l generalizing b L with
  | nil =>
    have e : ((true, b, L) : Bool × Int32 × (Nat → Int32)) = (false, b', L') := hr
    cases e
  | cons w r ih =>
    have e : (if b = 0 then (false, b, L) else sa_ws r (sa_dec b) (upd L w.1 w.2)) = (false, b', L') := hr
    by_cases z : b = 0
    · rw [if_pos z] at e
      cases e
      exact And.intro (fun _ => hZ) (fun y => absurd z y)
    · rw [if_neg z] at e
      exact And.intro (fun y => absurd y z) (fun _ => ih e)
theorem sa_Wm {l : List (Nat × Int32)} {L : Nat → Int32} (hK : K (-1) (sa_wa l L)) : sa_W Z K l (-1) L := by
  induction l generalizing L with
  | nil => exact hK
  | cons w r ih =>
    refine And.intro (fun y => absurd y (by decide)) (fun _ => ?_)
    rw [sa_dec_m1]
    exact ih hK
/-! what a seal writes -/
abbrev sa_r24 (t : Int32) : Int32 := (t.toUInt32 >>> ((24 : Int32).toUInt32 &&& Int32.toUInt32 31)).toInt32
abbrev sa_r16 (t : Int32) : Int32 := (t.toUInt32 >>> ((16 : Int32).toUInt32 &&& Int32.toUInt32 31)).toInt32
abbrev sa_r8 (t : Int32) : Int32 := (t.toUInt32 >>> ((8 : Int32).toUInt32 &&& Int32.toUInt32 31)).toInt32
abbrev sa_sq (p : Int32) : Int32 := (p / 8) &&& 255
abbrev sa_hi (p : Int32) : Int32 := sa_r8 p &&& 255
abbrev sa_lo (p : Int32) : Int32 := p &&& 255
def sa_tg (k pv kd p v : Int32) : Int32 := sa_tag k pv kd (sa_sq p) (sa_hi v) (sa_lo v)
def sa_li (w : Nat) (kd v t : Int32) : List (Nat × Int32) := [(8 * w + 1, sa_B (sa_sq (nI (8 * w)))), (8 * w + 2, sa_B (sa_hi v)), (8 * w + 3, sa_B (sa_lo v)), (8 * w + 4, sa_B (sa_r24 t)), (8 * w + 5, sa_B (sa_r16 t)), (8 * w + 6, sa_B (sa_r8 t)), (8 * w + 7, sa_B t), (8 * w, sa_B kd)]
/-! the class's steps -/
theorem sa_xtake {post : Int32 → SX → Prop} (h0 : bu = 0 → post 0 (ca, el, ge, gk, gt, gp, we, wt, ws, wp, sd, cr, bu, vk, rs, lg)) (h1 : ¬ bu = 0 → post 1 (ca, el, ge, gk, gt, gp, we, wt, ws, wp, sd, cr, (sa_dec bu), vk, rs, lg)) : wpX_takeStep post (ca, el, ge, gk, gt, gp, we, wt, ws, wp, sd, cr, bu, vk, rs, lg) := by
  unfold wpX_takeStep
  refine br_c h0 (fun h => br_c (fun g => ?_) (fun g => nm_e ?_))
  · have y := h1 h
    unfold sa_dec at y
    rw [if_pos g] at y
    exact y
  · have y := h1 h
    unfold sa_dec at y
    rw [if_neg g] at y
    exact y
theorem sa_xwrite {post : Int32 → SX → Prop} {pos val : Int32} (hp : vp_in pos 256) (h0 : bu = 0 → post 0 (ca, el, ge, gk, gt, gp, we, wt, ws, wp, sd, cr, bu, vk, rs, lg)) (h1 : ¬ bu = 0 → post 1 (ca, el, ge, gk, gt, gp, we, wt, ws, wp, sd, cr, (sa_dec bu), vk, rs, (upd lg pos.toNatClampNeg (sa_B val)))) : wpX_writeStep post (ca, el, ge, gk, gt, gp, we, wt, ws, wp, sd, cr, bu, vk, rs, lg) pos val := by
  unfold wpX_writeStep
  refine sa_xtake ?_ ?_
  · intro h
    exact br_t rfl (h0 h)
  · intro h
    exact br_f sa_10 (And.intro hp (nm_e (h1 h)))
theorem sa_xw {post : Int32 → SX → Prop} {r : List (Nat × Int32)} {pos val : Int32} {q : Nat} (e : pos = nI q) (hq : q < 256) (H : sa_W Z K ((q, sa_B val) :: r) bu lg) (h0 : Z bu lg → post 0 (ca, el, ge, gk, gt, gp, we, wt, ws, wp, sd, cr, bu, vk, rs, lg)) (h1 : sa_W Z K r (sa_dec bu) (upd lg q (sa_B val)) → post 1 (ca, el, ge, gk, gt, gp, we, wt, ws, wp, sd, cr, (sa_dec bu), vk, rs, (upd lg q (sa_B val)))) : wpX_writeStep post (ca, el, ge, gk, gt, gp, we, wt, ws, wp, sd, cr, bu, vk, rs, lg) pos val := by
  subst e
  refine sa_xwrite (vp_in_nI hq (by decide)) ?_ ?_
  · intro z
    exact h0 (sa_W1 H z)
  · intro z
    rw [nI_clamp (n := q) (by omega)]
    exact h1 (sa_W2 H z)
theorem sa_x160 {post : Int32 → SX → Prop} {x3 x7 : Int32} (h : post 0 (ca, el, ge, gk, gt, gp, we, wt, ws, wp, sd, cr, bu, vk, rs, lg)) : wX_seal_160 post x3 x7 ca el ge gk gt gp we wt ws wp sd cr bu vk rs lg := by
  unfold wX_seal_160 wX_seal_161
  exact br_t rfl (And.intro rfl h)
theorem sa_xseal {post : Int32 → SX → Prop} {kd v t : Int32} {w : Nat} (hw : 8 * w + 8 ≤ 256) (e : we = nI (8 * w)) (et : sa_tg gk wt kd (nI (8 * w)) v = t) (h0 : ∀ b L, Z b L → post 0 (ca, el, ge, gk, gt, gp, we, wt, ws, wp, sd, cr, b, vk, rs, L)) (h1 : ∀ b L, K b L → post 1 (ca, el, ge, gk, gt, gp, (nI (8 * w + 8)), t, ws, wp, sd, cr, b, vk, rs, L)) (H : sa_W Z K (sa_li w kd v t) bu lg) : wpX_seal post (ca, el, ge, gk, gt, gp, we, wt, ws, wp, sd, cr, bu, vk, rs, lg) kd v := by
  subst e
  subst et
  unfold sa_li at H
  unfold wpX_seal
  refine And.intro sa_80 ?_
  refine nm_e ?_
  refine nm_e ?_
  refine nm_e ?_
  refine sa_xtag ?_
  refine sa_xw (nI_1 (8 * w)) (by omega) H ?_ ?_
  · intro z
    exact br_t rfl (sa_x160 (h0 _ _ z))
  intro H1
  refine br_f sa_10 ?_
  refine sa_xw (nI_add (8 * w) 2) (by omega) H1 ?_ ?_
  · intro z
    exact br_t rfl (sa_x160 (h0 _ _ z))
  intro H2
  refine br_f sa_10 ?_
  refine sa_xw (nI_add (8 * w) 3) (by omega) H2 ?_ ?_
  · intro z
    exact br_t rfl (sa_x160 (h0 _ _ z))
  intro H3
  refine br_f sa_10 ?_
  refine sa_xw (nI_add (8 * w) 4) (by omega) H3 ?_ ?_
  · intro z
    exact br_t rfl (sa_x160 (h0 _ _ z))
  intro H4
  refine br_f sa_10 ?_
  refine sa_xw (nI_add (8 * w) 5) (by omega) H4 ?_ ?_
  · intro z
    exact br_t rfl (sa_x160 (h0 _ _ z))
  intro H5
  refine br_f sa_10 ?_
  refine sa_xw (nI_add (8 * w) 6) (by omega) H5 ?_ ?_
  · intro z
    exact br_t rfl (sa_x160 (h0 _ _ z))
  intro H6
  refine br_f sa_10 ?_
  refine sa_xw (nI_add (8 * w) 7) (by omega) H6 ?_ ?_
  · intro z
    exact br_t rfl (sa_x160 (h0 _ _ z))
  intro H7
  refine br_f sa_10 ?_
  refine sa_xw (q := 8 * w) rfl (by omega) H7 ?_ ?_
  · intro z
    exact br_t rfl (sa_x160 (h0 _ _ z))
  intro H8
  refine br_f sa_10 ?_
  unfold wX_seal_161
  refine br_f sa_10 ?_
  refine nm_r (nI_add (8 * w) 8) ?_
  exact And.intro rfl (h1 _ _ H8)
theorem sa_xclose {post : SX → Prop} (h : post (ca, el, we, (sa_rat gk), wt, (wp + 1), we, wt, 0, (wp + 1), sd, cr, bu, vk, rs, lg)) : wpX_closeEpoch post (ca, el, ge, gk, gt, gp, we, wt, ws, wp, sd, cr, bu, vk, rs, lg) := by
  unfold wpX_closeEpoch
  refine sa_xrat ?_
  exact nm_e (nm_e h)
theorem sa_x28 {post : Int32 → SX → Prop} (h : post 0 (ca, el, ge, gk, gt, gp, we, wt, ws, wp, sd, cr, bu, vk, rs, lg)) : wX_completeCheckpoint_28 post ca el ge gk gt gp we wt ws wp sd cr bu vk rs lg := by
  unfold wX_completeCheckpoint_28 wX_completeCheckpoint_29
  exact br_t rfl (And.intro rfl h)
theorem sa_xcomp {post : Int32 → SX → Prop} {t : Int32} {w : Nat} (hw : 8 * w + 8 ≤ 256) (e : we = nI (8 * w)) (et : sa_tg gk wt 255 (nI (8 * w)) (wp &&& 65535) = t) (h0 : ∀ b L, Z b L → post 0 (ca, el, ge, gk, gt, gp, we, wt, ws, wp, sd, cr, b, vk, rs, L)) (h1 : ∀ b L, Z b L → post 0 (ca, el, ge, gk, gt, gp, (nI (8 * w + 8)), t, ws, wp, sd, cr, b, vk, rs, L)) (h2 : ∀ b L, K b L → post 1 (ca, el, (nI (8 * w + 8)), (sa_rat gk), t, (wp + 1), (nI (8 * w + 8)), t, 0, (wp + 1), sd, cr, b, vk, rs, L)) (H : sa_W Z (fun b L => (b = 0 → Z b L) ∧ (¬ b = 0 → K (sa_dec b) L)) (sa_li w 255 (wp &&& 65535) t) bu lg) : wpX_completeCheckpoint post (ca, el, ge, gk, gt, gp, we, wt, ws, wp, sd, cr, bu, vk, rs, lg) := by
  unfold wpX_completeCheckpoint
  refine sa_xseal hw e et ?_ ?_ H
  · intro b L z
    exact br_t rfl (sa_x28 (h0 b L z))
  · intro b L y
    refine br_f sa_10 ?_
    refine sa_xtake ?_ ?_
    · intro z
      exact br_t rfl (sa_x28 (h1 b L (y.1 z)))
    · intro z
      refine br_f sa_10 ?_
      unfold wX_completeCheckpoint_29
      refine br_f sa_10 ?_
      refine sa_xclose ?_
      exact And.intro rfl (h2 _ _ (y.2 z))
end
section
/-! 03: the reference's seal and completion -/
variable {ca el ge gk gt gp we wt ws wp sd cr bu vk rs : Int32} {lg rc : Nat → Int32}
variable {Z K : Int32 → (Nat → Int32) → Prop}
theorem sa_ystep {post : Int32 → SY → Prop} (h0 : bu = 0 → post 0 (ca, el, ge, gk, gt, gp, 0, 0, 0, 0, (-1), vk, rs, sd, 1, lg, rc)) (h1 : ¬ bu = 0 → post 1 (ca, el, ge, gk, gt, gp, we, wt, ws, wp, (sa_dec bu), vk, rs, sd, cr, lg, rc)) : wpY_stepOk post (ca, el, ge, gk, gt, gp, we, wt, ws, wp, bu, vk, rs, sd, cr, lg, rc) 1 := by
  unfold wpY_stepOk
  refine br_f sa_10 (br_c (fun h => ?_) (fun h => br_c (fun g => ?_) (fun g => nm_e ?_)))
  · unfold wpY_doCrash
    exact h0 h
  · have y := h1 h
    unfold sa_dec at y
    rw [if_pos g] at y
    exact y
  · have y := h1 h
    unfold sa_dec at y
    rw [if_neg g] at y
    exact y
theorem sa_ystep0 {post : Int32 → SY → Prop} (h : post 1 (ca, el, ge, gk, gt, gp, we, wt, ws, wp, bu, vk, rs, sd, cr, lg, rc)) : wpY_stepOk post (ca, el, ge, gk, gt, gp, we, wt, ws, wp, bu, vk, rs, sd, cr, lg, rc) 0 := by
  unfold wpY_stepOk
  exact br_t rfl h
theorem sa_ye {q o : Nat} {b : Int32} (hq : q + 8 ≤ 256) (ho : o < 8) (hv : sa_B (rc o) = b) : upd lg (nI q + nI o).toNatClampNeg (vp_nar .byte ((rc (nI o).toNatClampNeg).toInt8.toInt32)) = upd lg (q + o) b := by
  rw [nI_add, nI_clamp (n := q + o) (by omega), nI_clamp (n := o) (by omega), ← hv]
  rfl
theorem sa_ys1 {post : Int32 → SY → Prop} {t b : Int32} {q n : Nat} {r : List (Nat × Int32)} (k o : Nat) (ho : k % 8 = o) (hk8 : k ≤ 8) (hq : q + 8 ≤ 256) (hv : sa_B (rc o) = b) (H : sa_W Z K ((q + o, b) :: r) bu lg) (h0 : Z bu lg → post 0 (ca, el, ge, gk, gt, gp, 0, 0, 0, 0, (-1), vk, rs, sd, 1, lg, rc)) (h1 : sa_W Z K r (sa_dec bu) (upd lg (q + o) b) → wY_seal_158 post (nI q) 1 t n (nI (k + 1)) ca el ge gk gt gp we wt ws wp (sa_dec bu) vk rs sd cr (upd lg (q + o) b) rc) : wY_seal_158 post (nI q) 1 t (n + 1) (nI k) ca el ge gk gt gp we wt ws wp bu vk rs sd cr lg rc := by
  have o8 : o < 8 := by omega
  refine br_f (nI_nlt (a := 8) (b := k) hk8 (by decide)) ?_
  refine And.intro sa_80 ?_
  refine nm_r (pk_rem (a := k) (d := 8) (by omega) (by decide) (by decide)) ?_
  rw [ho]
  refine sa_ystep ?_ ?_
  · intro z
    exact br_t rfl (h0 (sa_W1 H z))
  · intro z
    refine br_f sa_10 ?_
    refine And.intro (vp_in_nI o8 (by decide)) ?_
    refine And.intro (pk_in (q + o) 256 (by omega) (nI_add q o)) ?_
    refine nm_r (sa_ye hq o8 hv) ?_
    refine nm_r (nI_1 k) ?_
    exact h1 (sa_W2 H z)
theorem sa_ys0 {post : Int32 → SY → Prop} {t b : Int32} {q n : Nat} (k o : Nat) (ho : k % 8 = o) (hk8 : k ≤ 8) (hq : q + 8 ≤ 256) (hv : sa_B (rc o) = b) (h1 : wY_seal_158 post (nI q) 0 t n (nI (k + 1)) ca el ge gk gt gp we wt ws wp bu vk rs sd cr (upd lg (q + o) b) rc) : wY_seal_158 post (nI q) 0 t (n + 1) (nI k) ca el ge gk gt gp we wt ws wp bu vk rs sd cr lg rc := by
  have o8 : o < 8 := by omega
  refine br_f (nI_nlt (a := 8) (b := k) hk8 (by decide)) ?_
  refine And.intro sa_80 ?_
  refine nm_r (pk_rem (a := k) (d := 8) (by omega) (by decide) (by decide)) ?_
  rw [ho]
  refine sa_ystep0 ?_
  refine br_f sa_10 ?_
  refine And.intro (vp_in_nI o8 (by decide)) ?_
  refine And.intro (pk_in (q + o) 256 (by omega) (nI_add q o)) ?_
  refine nm_r (sa_ye hq o8 hv) ?_
  refine nm_r (nI_1 k) ?_
  exact h1
theorem sa_ys9 {post : Int32 → SY → Prop} {t x4 : Int32} {q n : Nat} (h : post 1 (ca, el, ge, gk, gt, gp, (nI (q + 8)), t, ws, wp, bu, vk, rs, sd, cr, lg, rc)) : wY_seal_158 post (nI q) x4 t (n + 1) (nI 9) ca el ge gk gt gp we wt ws wp bu vk rs sd cr lg rc := by
  refine br_t (nI_lt (a := 8) (b := 9) (by decide) (by decide)) ?_
  exact nm_r (nI_add q 8) h
/-! the reference's scratch record -/
def sa_rc (rc : Nat → Int32) (kd s hi lo t : Int32) : Nat → Int32 := upd (upd (upd (upd (upd (upd (upd (upd rc 0 kd) 1 s) 2 hi) 3 lo) 4 (sa_r24 t &&& 255)) 5 (sa_r16 t &&& 255)) 6 (sa_r8 t &&& 255)) 7 (t &&& 255)
theorem sa_rc0 {kd s hi lo t : Int32} : sa_rc rc kd s hi lo t 0 = kd := by simp [sa_rc, upd]
theorem sa_rc1 {kd s hi lo t : Int32} : sa_rc rc kd s hi lo t 1 = s := by simp [sa_rc, upd]
theorem sa_rc2 {kd s hi lo t : Int32} : sa_rc rc kd s hi lo t 2 = hi := by simp [sa_rc, upd]
theorem sa_rc3 {kd s hi lo t : Int32} : sa_rc rc kd s hi lo t 3 = lo := by simp [sa_rc, upd]
theorem sa_rc4 {kd s hi lo t : Int32} : sa_B (sa_rc rc kd s hi lo t 4) = sa_B (sa_r24 t) := by
  rw [show sa_rc rc kd s hi lo t 4 = sa_r24 t &&& 255 from by simp [sa_rc, upd]]
  exact sa_bB _
theorem sa_rc5 {kd s hi lo t : Int32} : sa_B (sa_rc rc kd s hi lo t 5) = sa_B (sa_r16 t) := by
  rw [show sa_rc rc kd s hi lo t 5 = sa_r16 t &&& 255 from by simp [sa_rc, upd]]
  exact sa_bB _
theorem sa_rc6 {kd s hi lo t : Int32} : sa_B (sa_rc rc kd s hi lo t 6) = sa_B (sa_r8 t) := by
  rw [show sa_rc rc kd s hi lo t 6 = sa_r8 t &&& 255 from by simp [sa_rc, upd]]
  exact sa_bB _
theorem sa_rc7 {kd s hi lo t : Int32} : sa_B (sa_rc rc kd s hi lo t 7) = sa_B t := by
  rw [show sa_rc rc kd s hi lo t 7 = t &&& 255 from by simp [sa_rc, upd]]
  exact sa_bB _
theorem sa_yopen {post : Int32 → SY → Prop} {kd v m : Int32} {w R : Nat} (hw : 8 * w + 8 ≤ 8 * R) (hR : R ≤ 32) (ec : ca = nI (8 * R)) (h : wY_seal_158 post (nI (8 * w)) m (sa_tg gk wt kd (nI (8 * w)) v) (8 + 1) (nI 1) ca el ge gk gt gp we wt ws wp bu vk rs sd cr lg (sa_rc rc kd (sa_sq (nI (8 * w))) (sa_hi v) (sa_lo v) (sa_tg gk wt kd (nI (8 * w)) v))) : wpY_seal post (ca, el, ge, gk, gt, gp, we, wt, ws, wp, bu, vk, rs, sd, cr, lg, rc) kd v (nI (8 * w)) m := by
  subst ec
  unfold wpY_seal
  refine br_f (nI_pos (n := 8 * w) (by omega)) ?_
  refine br_t ((sa_le8 (a := 8 * w) (b := 8 * R) (by omega) (by omega)).mpr hw) ?_
  refine And.intro sa_80 ?_
  refine nm_e ?_
  refine nm_e ?_
  refine nm_e ?_
  refine sa_ytag ?_
  refine nm_e ?_
  refine nm_e ?_
  refine nm_e ?_
  refine nm_e ?_
  refine nm_e ?_
  refine nm_e ?_
  refine nm_e ?_
  refine nm_e ?_
  exact Exists.intro (8 + 1) h
theorem sa_yseal {post : Int32 → SY → Prop} {kd v t : Int32} {w R : Nat} (hw : 8 * w + 8 ≤ 8 * R) (hR : R ≤ 32) (ec : ca = nI (8 * R)) (et : sa_tg gk wt kd (nI (8 * w)) v = t) (h0 : ∀ b L rc', Z b L → post 0 (ca, el, ge, gk, gt, gp, 0, 0, 0, 0, (-1), vk, rs, sd, 1, L, rc')) (h1 : ∀ b L rc', K b L → post 1 (ca, el, ge, gk, gt, gp, (nI (8 * w + 8)), t, ws, wp, b, vk, rs, sd, cr, L, rc')) (H : sa_W Z K (sa_li w kd v t) bu lg) : wpY_seal post (ca, el, ge, gk, gt, gp, we, wt, ws, wp, bu, vk, rs, sd, cr, lg, rc) kd v (nI (8 * w)) 1 := by
  have hq : 8 * w + 8 ≤ 256 := by omega
  subst et
  unfold sa_li at H
  refine sa_yopen hw hR ec ?_
  refine sa_ys1 1 1 rfl (by decide) hq (congrArg sa_B sa_rc1) H (fun z => h0 _ _ _ z) ?_
  intro H1
  refine sa_ys1 (n := 7) 2 2 rfl (by decide) hq (congrArg sa_B sa_rc2) H1 (fun z => h0 _ _ _ z) ?_
  intro H2
  refine sa_ys1 (n := 6) 3 3 rfl (by decide) hq (congrArg sa_B sa_rc3) H2 (fun z => h0 _ _ _ z) ?_
  intro H3
  refine sa_ys1 (n := 5) 4 4 rfl (by decide) hq sa_rc4 H3 (fun z => h0 _ _ _ z) ?_
  intro H4
  refine sa_ys1 (n := 4) 5 5 rfl (by decide) hq sa_rc5 H4 (fun z => h0 _ _ _ z) ?_
  intro H5
  refine sa_ys1 (n := 3) 6 6 rfl (by decide) hq sa_rc6 H5 (fun z => h0 _ _ _ z) ?_
  intro H6
  refine sa_ys1 (n := 2) 7 7 rfl (by decide) hq sa_rc7 H6 (fun z => h0 _ _ _ z) ?_
  intro H7
  refine sa_ys1 (n := 1) 8 0 rfl (by decide) hq (congrArg sa_B sa_rc0) H7 (fun z => h0 _ _ _ z) ?_
  intro H8
  refine sa_ys9 (n := 0) ?_
  exact h1 _ _ _ H8
theorem sa_yseal0 {post : Int32 → SY → Prop} {kd v t : Int32} {w R : Nat} (hw : 8 * w + 8 ≤ 8 * R) (hR : R ≤ 32) (ec : ca = nI (8 * R)) (et : sa_tg gk wt kd (nI (8 * w)) v = t) (h1 : ∀ rc', post 1 (ca, el, ge, gk, gt, gp, (nI (8 * w + 8)), t, ws, wp, bu, vk, rs, sd, cr, (sa_wa (sa_li w kd v t) lg), rc')) : wpY_seal post (ca, el, ge, gk, gt, gp, we, wt, ws, wp, bu, vk, rs, sd, cr, lg, rc) kd v (nI (8 * w)) 0 := by
  have hq : 8 * w + 8 ≤ 256 := by omega
  subst et
  refine sa_yopen hw hR ec ?_
  refine sa_ys0 1 1 rfl (by decide) hq (congrArg sa_B sa_rc1) ?_
  refine sa_ys0 (n := 7) 2 2 rfl (by decide) hq (congrArg sa_B sa_rc2) ?_
  refine sa_ys0 (n := 6) 3 3 rfl (by decide) hq (congrArg sa_B sa_rc3) ?_
  refine sa_ys0 (n := 5) 4 4 rfl (by decide) hq sa_rc4 ?_
  refine sa_ys0 (n := 4) 5 5 rfl (by decide) hq sa_rc5 ?_
  refine sa_ys0 (n := 3) 6 6 rfl (by decide) hq sa_rc6 ?_
  refine sa_ys0 (n := 2) 7 7 rfl (by decide) hq sa_rc7 ?_
  refine sa_ys0 (n := 1) 8 0 rfl (by decide) hq (congrArg sa_B sa_rc0) ?_
  refine sa_ys9 (n := 0) ?_
  exact h1 _
theorem sa_ycomp {post : Int32 → SY → Prop} {t : Int32} {w R : Nat} (hw : 8 * w + 8 ≤ 8 * R) (hR : R ≤ 32) (ec : ca = nI (8 * R)) (e : we = nI (8 * w)) (et : sa_tg gk wt 255 (nI (8 * w)) (wp &&& 65535) = t) (h0 : ∀ b L rc', Z b L → post 0 (ca, el, ge, gk, gt, gp, 0, 0, 0, 0, (-1), vk, rs, sd, 1, L, rc')) (h2 : ∀ b L rc', K b L → post 1 (ca, el, (nI (8 * w + 8)), (sa_rat gk), t, (wp + 1), (nI (8 * w + 8)), t, 0, (wp + 1), b, vk, rs, sd, cr, L, rc')) (H : sa_W Z (fun b L => (b = 0 → Z b L) ∧ (¬ b = 0 → K (sa_dec b) L)) (sa_li w 255 (wp &&& 65535) t) bu lg) : wpY_complete post (ca, el, ge, gk, gt, gp, we, wt, ws, wp, bu, vk, rs, sd, cr, lg, rc) 1 := by
  subst e
  unfold wpY_complete
  refine sa_yseal hw hR ec et ?_ ?_ H
  · intro b L rc' z
    exact br_t rfl (h0 b L rc' z)
  · intro b L rc' y
    refine br_f sa_10 ?_
    refine sa_ystep ?_ ?_
    · intro z
      exact br_t rfl (h0 b L rc' (y.1 z))
    · intro z
      refine br_f sa_10 ?_
      refine sa_yrat ?_
      exact nm_e (nm_e (h2 _ _ _ (y.2 z)))
theorem sa_ycomp0 {post : Int32 → SY → Prop} {t : Int32} {w R : Nat} (hw : 8 * w + 8 ≤ 8 * R) (hR : R ≤ 32) (ec : ca = nI (8 * R)) (e : we = nI (8 * w)) (et : sa_tg gk wt 255 (nI (8 * w)) (wp &&& 65535) = t) (h2 : ∀ rc', post 1 (ca, el, (nI (8 * w + 8)), (sa_rat gk), t, (wp + 1), (nI (8 * w + 8)), t, 0, (wp + 1), bu, vk, rs, sd, cr, (sa_wa (sa_li w 255 (wp &&& 65535) t) lg), rc')) : wpY_complete post (ca, el, ge, gk, gt, gp, we, wt, ws, wp, bu, vk, rs, sd, cr, lg, rc) 0 := by
  subst e
  unfold wpY_complete
  refine sa_yseal0 hw hR ec et ?_
  intro rc'
  refine br_f sa_10 ?_
  refine sa_ystep0 ?_
  refine br_f sa_10 ?_
  refine sa_yrat ?_
  exact nm_e (nm_e (h2 rc'))
end
section
/-! 04: the relation, the constructors, the methods without loops -/
def sa_I (ca el ge we : Int32) : Prop := ∃ R e h w : Nat, ca = nI (8 * R) ∧ el = nI e ∧ ge = nI (8 * h) ∧ we = nI (8 * w) ∧ 4 ≤ R ∧ R ≤ 32 ∧ 2 ≤ e ∧ e ≤ 8 ∧ h ≤ R ∧ w ≤ R
/-- both sides hold the same fields and the same bytes; the ends are whole records within the capacity -/
def i_Rel (k : Nat) (u : SX) (v : SY) : Prop := ∃ (ca el ge gk gt gp we wt ws wp sd cr bu vk rs : Int32) (lg rc : Nat → Int32), u = (ca, el, ge, gk, gt, gp, we, wt, ws, wp, sd, cr, bu, vk, rs, lg) ∧ v = (ca, el, ge, gk, gt, gp, we, wt, ws, wp, bu, vk, rs, sd, cr, lg, rc) ∧ sa_I ca el ge we
theorem i_up {k : Nat} {u : SX} {v : SY} (h : i_Rel k u v) : i_Rel (k + 3) u v := h
variable {ca el ge gk gt gp we wt ws wp sd cr bu vk rs : Int32} {lg rc : Nat → Int32}
theorem sa_mk {k : Nat} (J : sa_I ca el ge we) : i_Rel k (ca, el, ge, gk, gt, gp, we, wt, ws, wp, sd, cr, bu, vk, rs, lg) (ca, el, ge, gk, gt, gp, we, wt, ws, wp, bu, vk, rs, sd, cr, lg, rc) := ⟨ca, el, ge, gk, gt, gp, we, wt, ws, wp, sd, cr, bu, vk, rs, lg, rc, rfl, rfl, J⟩
theorem sa_I_w0 (J : sa_I ca el ge we) : sa_I ca el ge 0 := by
  obtain ⟨R, e, h, w, a1, a2, a3, a4, b1, b2, b3, b4, b5, b6⟩ := id J
  exact ⟨R, e, h, 0, a1, a2, a3, nI_0.symm, b1, b2, b3, b4, b5, Nat.zero_le _⟩
theorem sa_I_h0 (J : sa_I ca el ge we) : sa_I ca el 0 we := by
  obtain ⟨R, e, h, w, a1, a2, a3, a4, b1, b2, b3, b4, b5, b6⟩ := id J
  exact ⟨R, e, 0, w, a1, a2, nI_0.symm, a4, b1, b2, b3, b4, Nat.zero_le _, b6⟩
/-! the constructors -/
def sa_CL (x lo hi r : Int32) : Prop := (¬ lo ≤ x ∧ r = lo) ∨ (lo ≤ x ∧ ¬ x ≤ hi ∧ r = hi) ∨ (lo ≤ x ∧ x ≤ hi ∧ r = x)
theorem sa_CLe (x lo hi : Int32) : ∃ r, sa_CL x lo hi r := by
  by_cases a : lo ≤ x
  · by_cases b : x ≤ hi
    · exact ⟨x, Or.inr (Or.inr ⟨a, b, rfl⟩)⟩
    · exact ⟨hi, Or.inr (Or.inl ⟨a, b, rfl⟩)⟩
  · exact ⟨lo, Or.inl ⟨a, rfl⟩⟩
theorem sa_CLn {x r : Int32} {a b : Nat} (hab : a ≤ b) (hb : b < 2 ^ 31) (c : sa_CL x (nI a) (nI b) r) : ∃ j, a ≤ j ∧ j ≤ b ∧ r = nI j := by
  rcases c with ⟨_, e⟩ | ⟨_, _, e⟩ | ⟨p, q, e⟩
  · exact ⟨a, Nat.le_refl _, hab, e⟩
  · exact ⟨b, hab, Nat.le_refl _, e⟩
  · have n0 : ¬ x < 0 := Int32.not_lt.mpr (Int32.le_trans (nI_pos' (n := a) (by omega)) p)
    obtain ⟨j, hj, ej⟩ := nI_of n0
    rw [ej] at p q
    exact ⟨j, (nI_leI (by omega) hj).mp p, (nI_leI hj hb).mp q, e.trans ej⟩
theorem sa_xcl {post : Int32 → Prop} {x lo hi r : Int32} (c : sa_CL x lo hi r) (h : post r) : wpX_clamp post x lo hi := by
  unfold wpX_clamp
  rcases c with ⟨a, e⟩ | ⟨a, b, e⟩ | ⟨a, b, e⟩
  · rw [e] at h
    exact br_f a h
  · rw [e] at h
    exact br_t a (br_f b h)
  · rw [e] at h
    exact br_t a (br_t b h)
theorem sa_y39 {post : SY → Prop} {x3 k1 s : Int32} (c : sa_CL k1 2 8 s) (h : post ((8 * x3), s, ge, gk, gt, gp, we, wt, ws, wp, (-1), vk, rs, sd, cr, lg, rc)) : wY_init_39 post k1 x3 ca el ge gk gt gp we wt ws wp bu vk rs sd cr lg rc := by
  unfold wY_init_39 wY_init_51 wY_init_62
  rcases c with ⟨a, e⟩ | ⟨a, b, e⟩ | ⟨a, b, e⟩
  · rw [e] at h
    exact br_f a (br_t (by decide) (nm_e h))
  · rw [e] at h
    exact br_t a (br_f b (nm_e h))
  · rw [e] at h
    exact br_t a (br_t b (nm_e h))
theorem sa_yinit {post : SY → Prop} {k0 k1 r s : Int32} (c0 : sa_CL k0 4 32 r) (c1 : sa_CL k1 2 8 s) (h : post (8 * r, s, 0, 0, 0, 0, 0, 0, 0, 0, (-1), 0, 0, 0, 0, (fun _ => 0), (fun _ => 0))) : wpY_init post k0 k1 := by
  unfold wpY_init wY_init_30
  rcases c0 with ⟨a, e⟩ | ⟨a, b, e⟩ | ⟨a, b, e⟩
  · rw [e] at h
    exact br_f a (br_t (by decide) (sa_y39 c1 h))
  · rw [e] at h
    exact br_t a (br_f b (sa_y39 c1 h))
  · rw [e] at h
    exact br_t a (br_t b (sa_y39 c1 h))
theorem i_vc0 (k0 : Int32) (k1 : Int32) : wpX_init (fun u => wpY_init (fun v => i_Rel 2 u v) k0 k1) k0 k1 := by
  obtain ⟨r, c0⟩ := sa_CLe k0 4 32
  obtain ⟨s, c1⟩ := sa_CLe k1 2 8
  obtain ⟨R, r1, r2, er⟩ := sa_CLn (a := 4) (b := 32) (by decide) (by decide) c0
  obtain ⟨e, e1, e2, es⟩ := sa_CLn (a := 2) (b := 8) (by decide) (by decide) c1
  unfold wpX_init
  refine sa_xcl c0 ?_
  refine nm_e ?_
  refine sa_xcl c1 ?_
  refine sa_yinit c0 c1 ?_
  refine sa_mk ?_
  exact ⟨R, e, 0, 0, by rw [er]; exact sa_8m R, es, nI_0.symm, nI_0.symm, r1, r2, e1, e2, Nat.zero_le _, Nat.zero_le _⟩
theorem i_vc_start {k : Nat} {u : SX} {v : SY} (I : i_Rel k u v) (hk : k + 3 ≤ 1538) (v1 : Int32) : wpX_start (fun r u' => wpY_start (fun r' v' => r' = r ∧ i_Rel (k + 3) u' v') v v1) u v1 := by
  obtain ⟨ca, el, ge, gk, gt, gp, we, wt, ws, wp, sd, cr, bu, vk, rs, lg, rc, rfl, rfl, J⟩ := I
  unfold wpX_start wpY_start
  refine br_c (fun c => ?_) (fun c => ?_)
  · exact br_t c (And.intro rfl (sa_mk (sa_I_h0 J)))
  · exact br_f c (And.intro rfl (sa_mk J))
theorem i_vc_armCrash {k : Nat} {u : SX} {v : SY} (I : i_Rel k u v) (hk : k + 3 ≤ 1538) (v1 : Int32) : wpX_armCrash (fun u' => wpY_armCrash (fun v' => i_Rel (k + 3) u' v') v v1) u v1 := by
  obtain ⟨ca, el, ge, gk, gt, gp, we, wt, ws, wp, sd, cr, bu, vk, rs, lg, rc, rfl, rfl, J⟩ := I
  unfold wpX_armCrash wpY_armCrash
  exact br_c (fun c => br_t c (sa_mk J)) (fun c => br_f c (sa_mk J))
theorem i_vc_crash {k : Nat} {u : SX} {v : SY} (I : i_Rel k u v) (hk : k + 3 ≤ 1538) : wpX_crash (fun r u' => wpY_crash (fun r' v' => r' = r ∧ i_Rel (k + 3) u' v') v) u := by
  obtain ⟨ca, el, ge, gk, gt, gp, we, wt, ws, wp, sd, cr, bu, vk, rs, lg, rc, rfl, rfl, J⟩ := I
  unfold wpX_crash wpX_loseWriter wpY_crash wpY_doCrash
  refine br_c (fun c => br_t c (And.intro rfl (sa_mk J))) (fun c => br_c (fun d => ?_) (fun d => br_f c (br_f d (And.intro rfl (sa_mk J)))))
  exact br_f c (br_t d (And.intro rfl (sa_mk (sa_I_w0 J))))
theorem i_vc_verifyReason {k : Nat} {u : SX} {v : SY} (I : i_Rel k u v) (hk : k + 3 ≤ 1538) : wpX_verifyReason (fun r => wpY_verifyReason (fun r' => r' = r ∧ i_Rel (k + 3) u v) v) u := by
  obtain ⟨ca, el, ge, gk, gt, gp, we, wt, ws, wp, sd, cr, bu, vk, rs, lg, rc, rfl, rfl, J⟩ := I
  unfold wpX_verifyReason wpY_verifyReason
  exact And.intro rfl (sa_mk J)
theorem i_vc_header {k : Nat} {u : SX} {v : SY} (I : i_Rel k u v) (hk : k + 3 ≤ 1538) (v1 : Int32) : wpX_header (fun r => wpY_header (fun r' => r' = r ∧ i_Rel (k + 3) u v) v v1) u v1 := by
  obtain ⟨ca, el, ge, gk, gt, gp, we, wt, ws, wp, sd, cr, bu, vk, rs, lg, rc, rfl, rfl, J⟩ := I
  unfold wpX_header wpY_header
  by_cases c0 : v1 = 0
  · subst c0
    exact br_f (by decide) (br_f (by decide) (br_t rfl (br_t rfl (And.intro rfl (sa_mk J)))))
  by_cases c1 : v1 = 1
  · subst c1
    exact br_f (by decide) (br_f (by decide) (br_f c0 (br_t rfl (br_f c0 (br_t rfl (And.intro rfl (sa_mk J)))))))
  by_cases c2 : v1 = 2
  · subst c2
    exact br_f (by decide) (br_f (by decide) (br_f c0 (br_f c1 (br_t rfl (br_f c0 (br_f c1 (br_t rfl (And.intro rfl (sa_mk J)))))))))
  by_cases c3 : v1 = 3
  · subst c3
    exact br_f (by decide) (br_f (by decide) (br_f c0 (br_f c1 (br_f c2 (br_t rfl (br_f c0 (br_f c1 (br_f c2 (br_t rfl (And.intro rfl (sa_mk J)))))))))))
  refine br_c (fun _ => ?_) (fun _ => br_c (fun _ => ?_) (fun _ => (br_f c0 (br_f c1 (br_f c2 (br_f c3 trivial))))))
  · exact (br_f c0 (br_f c1 (br_f c2 (br_f c3 (And.intro rfl (sa_mk J))))))
  · exact (br_f c0 (br_f c1 (br_f c2 (br_f c3 (And.intro rfl (sa_mk J))))))
theorem i_vc_writer {k : Nat} {u : SX} {v : SY} (I : i_Rel k u v) (hk : k + 3 ≤ 1538) (v1 : Int32) : wpX_writer (fun r => wpY_writer (fun r' => r' = r ∧ i_Rel (k + 3) u v) v v1) u v1 := by
  obtain ⟨ca, el, ge, gk, gt, gp, we, wt, ws, wp, sd, cr, bu, vk, rs, lg, rc, rfl, rfl, J⟩ := I
  unfold wpX_writer wpY_writer
  by_cases c0 : v1 = 0
  · subst c0
    exact br_f (by decide) (br_f (by decide) (br_t rfl (br_t rfl (And.intro rfl (sa_mk J)))))
  by_cases c1 : v1 = 1
  · subst c1
    exact br_f (by decide) (br_f (by decide) (br_f c0 (br_t rfl (br_f c0 (br_t rfl (And.intro rfl (sa_mk J)))))))
  by_cases c2 : v1 = 2
  · subst c2
    exact br_f (by decide) (br_f (by decide) (br_f c0 (br_f c1 (br_t rfl (br_f c0 (br_f c1 (br_t rfl (And.intro rfl (sa_mk J)))))))))
  by_cases c3 : v1 = 3
  · subst c3
    exact br_f (by decide) (br_f (by decide) (br_f c0 (br_f c1 (br_f c2 (br_t rfl (br_f c0 (br_f c1 (br_f c2 (br_t rfl (And.intro rfl (sa_mk J)))))))))))
  by_cases c4 : v1 = 4
  · subst c4
    exact br_f (by decide) (br_f (by decide) (br_f c0 (br_f c1 (br_f c2 (br_f c3 (br_t rfl (br_f c0 (br_f c1 (br_f c2 (br_f c3 (br_t rfl (And.intro rfl (sa_mk J)))))))))))))
  by_cases c5 : v1 = 5
  · subst c5
    exact br_f (by decide) (br_f (by decide) (br_f c0 (br_f c1 (br_f c2 (br_f c3 (br_f c4 (br_t rfl (br_c (fun d => (br_f c0 (br_f c1 (br_f c2 (br_f c3 (br_f c4 (br_t rfl (br_t d (And.intro rfl (sa_mk J)))))))))) (fun d => (br_f c0 (br_f c1 (br_f c2 (br_f c3 (br_f c4 (br_t rfl (br_f d (And.intro rfl (sa_mk J))))))))))))))))))
  by_cases c6 : v1 = 6
  · subst c6
    exact br_f (by decide) (br_f (by decide) (br_f c0 (br_f c1 (br_f c2 (br_f c3 (br_f c4 (br_f c5 (br_t rfl (br_c (fun d => (br_f c0 (br_f c1 (br_f c2 (br_f c3 (br_f c4 (br_f c5 (br_t rfl (br_t d (And.intro rfl (sa_mk J))))))))))) (fun d => (br_f c0 (br_f c1 (br_f c2 (br_f c3 (br_f c4 (br_f c5 (br_t rfl (br_f d (And.intro rfl (sa_mk J))))))))))))))))))))
  by_cases c7 : v1 = 7
  · subst c7
    exact br_f (by decide) (br_f (by decide) (br_f c0 (br_f c1 (br_f c2 (br_f c3 (br_f c4 (br_f c5 (br_f c6 (br_t rfl (br_f c0 (br_f c1 (br_f c2 (br_f c3 (br_f c4 (br_f c5 (br_f c6 (br_t rfl (And.intro rfl (sa_mk J)))))))))))))))))))
  by_cases c8 : v1 = 8
  · subst c8
    exact br_f (by decide) (br_f (by decide) (br_f c0 (br_f c1 (br_f c2 (br_f c3 (br_f c4 (br_f c5 (br_f c6 (br_f c7 (br_t rfl (br_f c0 (br_f c1 (br_f c2 (br_f c3 (br_f c4 (br_f c5 (br_f c6 (br_f c7 (br_t rfl (And.intro rfl (sa_mk J)))))))))))))))))))))
  refine br_c (fun _ => ?_) (fun _ => br_c (fun _ => ?_) (fun _ => (br_f c0 (br_f c1 (br_f c2 (br_f c3 (br_f c4 (br_f c5 (br_f c6 (br_f c7 (br_f c8 trivial)))))))))))
  · exact (br_f c0 (br_f c1 (br_f c2 (br_f c3 (br_f c4 (br_f c5 (br_f c6 (br_f c7 (br_f c8 (And.intro rfl (sa_mk J)))))))))))
  · exact (br_f c0 (br_f c1 (br_f c2 (br_f c3 (br_f c4 (br_f c5 (br_f c6 (br_f c7 (br_f c8 (And.intro rfl (sa_mk J)))))))))))
theorem sa_ix {x y : Int32} {n : Nat} (e : y = nI n) (hn : n < 2 ^ 31) (c : ¬ x < 0) (d : x < y) : ∃ j, j < n ∧ x = nI j := by
  obtain ⟨j, hj, ej⟩ := nI_of c
  rw [e, ej] at d
  exact ⟨j, (nI_ltI hj hn).mp d, ej⟩
theorem i_vc_storedByte {k : Nat} {u : SX} {v : SY} (I : i_Rel k u v) (hk : k + 3 ≤ 1538) (v1 : Int32) : wpX_storedByte (fun r => wpY_storedByte (fun r' => r' = r ∧ i_Rel (k + 3) u v) v v1) u v1 := by
  obtain ⟨ca, el, ge, gk, gt, gp, we, wt, ws, wp, sd, cr, bu, vk, rs, lg, rc, rfl, rfl, J⟩ := I
  obtain ⟨R, e, h, w, a1, a2, a3, a4, b1, b2, b3, b4, b5, b6⟩ := id J
  unfold wpX_storedByte wpX_byteAt wpY_storedByte
  by_cases c : v1 < 0
  · exact br_t c (br_t c (And.intro rfl (sa_mk J)))
  by_cases d : v1 < ca
  · obtain ⟨j, hj, ej⟩ := sa_ix a1 (by omega) c d
    have n : vp_in v1 256 := pk_in j 256 (by omega) ej
    refine br_f c (br_t d ?_)
    refine And.intro n ?_
    refine br_f c (br_t d ?_)
    refine And.intro n ?_
    exact And.intro rfl (sa_mk J)
  · exact br_f c (br_f d (br_f c (br_f d (And.intro rfl (sa_mk J)))))
theorem i_vc_tamper {k : Nat} {u : SX} {v : SY} (I : i_Rel k u v) (hk : k + 3 ≤ 1538) (v1 : Int32) (v2 : Int32) : wpX_tamper (fun r u' => wpY_tamper (fun r' v' => r' = r ∧ i_Rel (k + 3) u' v') v v1 v2) u v1 v2 := by
  obtain ⟨ca, el, ge, gk, gt, gp, we, wt, ws, wp, sd, cr, bu, vk, rs, lg, rc, rfl, rfl, J⟩ := I
  obtain ⟨R, e, h, w, a1, a2, a3, a4, b1, b2, b3, b4, b5, b6⟩ := id J
  unfold wpX_tamper wpX_isOpen wpY_tamper
  by_cases c1 : sd = 0
  · exact br_t c1 (br_t rfl (br_t c1 (And.intro rfl (sa_mk J))))
  refine br_f c1 ?_
  by_cases c2 : cr = 0
  · refine br_t c2 ?_
    refine br_f sa_10 ?_
    by_cases c3 : v1 < 0
    · exact br_t c3 (br_f c1 (br_t c2 (br_t c3 (And.intro rfl (sa_mk J)))))
    by_cases c4 : we ≤ v1
    · exact br_f c3 (br_t c4 (br_f c1 (br_t c2 (br_f c3 (br_t c4 (And.intro rfl (sa_mk J)))))))
    obtain ⟨j, hj, ej⟩ := sa_ix a4 (by omega) c3 (Int32.not_le.mp c4)
    have n : vp_in v1 256 := pk_in j 256 (by omega) ej
    have d : v1 < ca := by
      rw [a1, ej]
      exact nI_lt (by omega) (by omega)
    refine br_f c3 (br_f c4 ?_)
    by_cases c5 : v2 < 0
    · exact br_t c5 (br_f c1 (br_t c2 (br_f c3 (br_f c4 (br_t d (br_t c5 (And.intro rfl (sa_mk J))))))))
    refine br_f c5 ?_
    by_cases c6 : v2 ≤ 255
    · refine br_t c6 (And.intro n (nm_e ?_))
      refine br_f c1 (br_t c2 (br_f c3 (br_f c4 (br_t d (br_f c5 (br_t c6 ?_))))))
      exact And.intro n (nm_e (And.intro rfl (sa_mk J)))
    · exact br_f c6 (br_f c1 (br_t c2 (br_f c3 (br_f c4 (br_t d (br_f c5 (br_f c6 (And.intro rfl (sa_mk J)))))))))
  · exact br_f c2 (br_t rfl (br_f c1 (br_f c2 (And.intro rfl (sa_mk J)))))
end
section
/-! 05: append -/
variable {ca el ge gk gt gp we wt ws wp sd cr bu vk rs : Int32} {lg rc : Nat → Int32}
variable {Z K : Int32 → (Nat → Int32) → Prop}
/-- append's tests, passed -/
def sa_ok (v1 v2 sd cr ws el : Int32) (w R : Nat) : Prop := ¬ sd = 0 ∧ cr = 0 ∧ ¬ v1 < 1 ∧ v1 < 255 ∧ ¬ v2 < 0 ∧ v2 ≤ 65535 ∧ ¬ ws = el ∧ (ws + 1 < el → 8 * w + 8 ≤ 8 * R) ∧ (¬ ws + 1 < el → 8 * w + 16 ≤ 8 * R)
theorem sa_ok8 {v1 v2 : Int32} {w R : Nat} (o : sa_ok v1 v2 sd cr ws el w R) : 8 * w + 8 ≤ 8 * R := by
  obtain ⟨_, _, _, _, _, _, _, o8, o9⟩ := o
  by_cases y : ws + 1 < el
  · exact o8 y
  · have := o9 y
    omega
theorem sa_ok16 {v1 v2 : Int32} {w R : Nat} (o : sa_ok v1 v2 sd cr ws el w R) (n : ws + 1 = el) : 8 * (w + 1) + 8 ≤ 8 * R := by
  obtain ⟨_, _, _, _, _, _, _, o8, o9⟩ := o
  have y : ¬ ws + 1 < el := by
    rw [n]
    exact Int32.lt_irrefl
  have := o9 y
  omega
theorem sa_xpass {post : Int32 → Prop} {v1 v2 : Int32} {w R : Nat} (hR : R ≤ 32) (o : sa_ok v1 v2 sd cr ws el w R) (h : post 0) : wpX_appendRefusal post ((nI (8 * R)), el, ge, gk, gt, gp, (nI (8 * w)), wt, ws, wp, sd, cr, bu, vk, rs, lg) v1 v2 := by
  have o0 := sa_ok8 o
  obtain ⟨o1, o2, o3, o4, o5, o6, o7, o8, o9⟩ := o
  unfold wpX_appendRefusal wX_appendRefusal_67
  refine br_f o1 (br_t o2 (br_f o3 (br_t o4 (br_f o5 (br_t o6 (br_c (fun y => ?_) (fun y => ?_)))))))
  · exact br_f o7 (br_t ((sa_le8 (by omega) (by omega)).mpr (o8 y)) h)
  · exact br_f o7 (br_t ((sa_le16 (by omega) (by omega)).mpr (o9 y)) h)
theorem sa_v254 {x : Int32} (h : x < 255) : x ≤ 254 := by
  rw [Int32.lt_iff_toInt_lt] at h
  rw [Int32.le_iff_toInt_le]
  have h1 : (255 : Int32).toInt = 255 := by decide
  have h2 : (254 : Int32).toInt = 254 := by decide
  omega
theorem sa_v255 {x : Int32} (h : ¬ x < 255) : ¬ x ≤ 254 := by
  rw [Int32.lt_iff_toInt_lt] at h
  rw [Int32.le_iff_toInt_le]
  have h1 : (255 : Int32).toInt = 255 := by decide
  have h2 : (254 : Int32).toInt = 254 := by decide
  omega
/-! the class: the ends of append -/
theorem sa_xapp_f {post : Int32 → SX → Prop} {v1 v2 t b : Int32} {L : Nat → Int32} {w R : Nat} (hR : R ≤ 32) (o : sa_ok v1 v2 sd cr ws el w R) (et : sa_tg gk wt v1 (nI (8 * w)) v2 = t) (hr : sa_ws (sa_li w v1 v2 t) bu lg = (false, b, L)) (h : post (-6) ((nI (8 * R)), el, ge, gk, gt, gp, 0, 0, 0, 0, sd, 1, (-1), vk, rs, L)) : wpX_append post ((nI (8 * R)), el, ge, gk, gt, gp, (nI (8 * w)), wt, ws, wp, sd, cr, bu, vk, rs, lg) v1 v2 := by
  have o0 := sa_ok8 o
  unfold wpX_append
  refine sa_xpass hR o ?_
  refine br_t rfl ?_
  refine And.intro sa_80 ?_
  refine nm_r (sa_d8 (by omega)) ?_
  refine sa_xseal (Z := fun _ L' => L' = L) (K := fun _ _ => False) (by omega) rfl et ?_ ?_ (sa_Wf hr rfl)
  · intro b' L' z
    have z' : L' = L := z
    subst z'
    refine br_t rfl ?_
    unfold wpX_loseWriter
    exact h
  · intro b' L' z
    exact False.elim z
theorem sa_xapp_t {post : Int32 → SX → Prop} {v1 v2 t b : Int32} {L : Nat → Int32} {w R : Nat} (hR : R ≤ 32) (o : sa_ok v1 v2 sd cr ws el w R) (et : sa_tg gk wt v1 (nI (8 * w)) v2 = t) (hr : sa_ws (sa_li w v1 v2 t) bu lg = (true, b, L)) (n : ¬ ws + 1 = el) (h : post (nI w) ((nI (8 * R)), el, ge, gk, gt, gp, (nI (8 * w + 8)), t, (ws + 1), wp, sd, cr, b, vk, rs, L)) : wpX_append post ((nI (8 * R)), el, ge, gk, gt, gp, (nI (8 * w)), wt, ws, wp, sd, cr, bu, vk, rs, lg) v1 v2 := by
  have o0 := sa_ok8 o
  unfold wpX_append
  refine sa_xpass hR o ?_
  refine br_t rfl ?_
  refine And.intro sa_80 ?_
  refine nm_r (sa_d8 (by omega)) ?_
  refine sa_xseal (Z := fun _ _ => False) (K := fun b' L' => b' = b ∧ L' = L) (by omega) rfl et ?_ ?_ (sa_Wt hr ⟨rfl, rfl⟩)
  · intro b' L' z
    exact False.elim z
  · intro b' L' z
    obtain ⟨z1, z2⟩ : b' = b ∧ L' = L := z
    subst z1 z2
    refine br_f sa_10 ?_
    refine nm_e ?_
    exact br_f n h
theorem sa_xapp_c {post : Int32 → SX → Prop} {v1 v2 t t2 b : Int32} {L : Nat → Int32} {w R : Nat} (hR : R ≤ 32) (o : sa_ok v1 v2 sd cr ws el w R) (et : sa_tg gk wt v1 (nI (8 * w)) v2 = t) (hr : sa_ws (sa_li w v1 v2 t) bu lg = (true, b, L)) (n : ws + 1 = el) (et2 : sa_tg gk t 255 (nI (8 * (w + 1))) (wp &&& 65535) = t2) (h0 : ∀ b' L', Z b' L' → post (nI w) ((nI (8 * R)), el, ge, gk, gt, gp, 0, 0, 0, 0, sd, 1, (-1), vk, rs, L')) (h2 : ∀ b' L', K b' L' → post (nI w) ((nI (8 * R)), el, (nI (8 * (w + 1) + 8)), (sa_rat gk), t2, (wp + 1), (nI (8 * (w + 1) + 8)), t2, 0, (wp + 1), sd, cr, b', vk, rs, L')) (H : sa_W Z (fun b L => (b = 0 → Z b L) ∧ (¬ b = 0 → K (sa_dec b) L)) (sa_li (w + 1) 255 (wp &&& 65535) t2) b L) : wpX_append post ((nI (8 * R)), el, ge, gk, gt, gp, (nI (8 * w)), wt, ws, wp, sd, cr, bu, vk, rs, lg) v1 v2 := by
  have o0 := sa_ok8 o
  unfold wpX_append
  refine sa_xpass hR o ?_
  refine br_t rfl ?_
  refine And.intro sa_80 ?_
  refine nm_r (sa_d8 (by omega)) ?_
  refine sa_xseal (Z := fun _ _ => False) (K := fun b' L' => b' = b ∧ L' = L) (by omega) rfl et ?_ ?_ (sa_Wt hr ⟨rfl, rfl⟩)
  · intro b' L' z
    exact False.elim z
  · intro b' L' z
    obtain ⟨z1, z2⟩ : b' = b ∧ L' = L := z
    subst z1 z2
    have o16 := sa_ok16 o n
    refine br_f sa_10 ?_
    refine nm_e ?_
    refine br_t n ?_
    refine sa_xcomp (w := w + 1) (by omega) (congrArg nI (by omega)) et2 ?_ ?_ ?_ H
    · intro b1 L1 z
      refine br_t rfl ?_
      unfold wpX_loseWriter
      exact h0 b1 L1 z
    · intro b1 L1 z
      refine br_t rfl ?_
      unfold wpX_loseWriter
      exact h0 b1 L1 z
    · intro b1 L1 z
      refine br_f sa_10 ?_
      exact h2 b1 L1 z
/-! the reference: the same ends -/
theorem sa_yapp_f {post : Int32 → SY → Prop} {v1 v2 t b : Int32} {L : Nat → Int32} {w R : Nat} (hR : R ≤ 32) (o : sa_ok v1 v2 sd cr ws el w R) (et : sa_tg gk wt v1 (nI (8 * w)) v2 = t) (hr : sa_ws (sa_li w v1 v2 t) bu lg = (false, b, L)) (h : ∀ rc', post (-6) ((nI (8 * R)), el, ge, gk, gt, gp, 0, 0, 0, 0, (-1), vk, rs, sd, 1, L, rc')) : wpY_append post ((nI (8 * R)), el, ge, gk, gt, gp, (nI (8 * w)), wt, ws, wp, bu, vk, rs, sd, cr, lg, rc) v1 v2 := by
  have o0 := sa_ok8 o
  have oo := o
  obtain ⟨o1, o2, o3, o4, o5, o6, o7, o8, o9⟩ := o
  unfold wpY_append wY_append_66
  refine br_f o1 (br_t o2 (br_f o3 (br_t (sa_v254 o4) (br_f o5 (br_t o6 (br_c (fun y => br_f o7 (br_t ((sa_le8 (by omega) (by omega)).mpr (o8 y)) ?_)) (fun y => br_f o7 (br_t ((sa_le16 (by omega) (by omega)).mpr (o9 y)) ?_))))))))
  all_goals
    refine And.intro sa_80 ?_
    refine nm_r (sa_d8 (by omega)) ?_
    refine sa_yseal (Z := fun _ L' => L' = L) (K := fun _ _ => False) o0 hR rfl et ?_ ?_ (sa_Wf hr rfl)
    · intro b' L' rc' z
      have z' : L' = L := z
      subst z'
      refine br_t rfl ?_
      exact h rc'
    · intro b' L' rc' z
      exact False.elim z
theorem sa_yapp_t {post : Int32 → SY → Prop} {v1 v2 t b : Int32} {L : Nat → Int32} {w R : Nat} (hR : R ≤ 32) (o : sa_ok v1 v2 sd cr ws el w R) (et : sa_tg gk wt v1 (nI (8 * w)) v2 = t) (hr : sa_ws (sa_li w v1 v2 t) bu lg = (true, b, L)) (n : ¬ ws + 1 = el) (h : ∀ rc', post (nI w) ((nI (8 * R)), el, ge, gk, gt, gp, (nI (8 * w + 8)), t, (ws + 1), wp, b, vk, rs, sd, cr, L, rc')) : wpY_append post ((nI (8 * R)), el, ge, gk, gt, gp, (nI (8 * w)), wt, ws, wp, bu, vk, rs, sd, cr, lg, rc) v1 v2 := by
  have o0 := sa_ok8 o
  have oo := o
  obtain ⟨o1, o2, o3, o4, o5, o6, o7, o8, o9⟩ := o
  unfold wpY_append wY_append_66
  refine br_f o1 (br_t o2 (br_f o3 (br_t (sa_v254 o4) (br_f o5 (br_t o6 (br_c (fun y => br_f o7 (br_t ((sa_le8 (by omega) (by omega)).mpr (o8 y)) ?_)) (fun y => br_f o7 (br_t ((sa_le16 (by omega) (by omega)).mpr (o9 y)) ?_))))))))
  all_goals
    refine And.intro sa_80 ?_
    refine nm_r (sa_d8 (by omega)) ?_
    refine sa_yseal (Z := fun _ _ => False) (K := fun b' L' => b' = b ∧ L' = L) o0 hR rfl et ?_ ?_ (sa_Wt hr ⟨rfl, rfl⟩)
    · intro b' L' rc' z
      exact False.elim z
    · intro b' L' rc' z
      obtain ⟨z1, z2⟩ : b' = b ∧ L' = L := z
      subst z1 z2
      refine br_f sa_10 ?_
      refine nm_e ?_
      exact br_f n (h rc')
theorem sa_yapp_c {post : Int32 → SY → Prop} {v1 v2 t t2 b : Int32} {L : Nat → Int32} {w R : Nat} (hR : R ≤ 32) (o : sa_ok v1 v2 sd cr ws el w R) (et : sa_tg gk wt v1 (nI (8 * w)) v2 = t) (hr : sa_ws (sa_li w v1 v2 t) bu lg = (true, b, L)) (n : ws + 1 = el) (et2 : sa_tg gk t 255 (nI (8 * (w + 1))) (wp &&& 65535) = t2) (h0 : ∀ b' L' rc', Z b' L' → post (nI w) ((nI (8 * R)), el, ge, gk, gt, gp, 0, 0, 0, 0, (-1), vk, rs, sd, 1, L', rc')) (h2 : ∀ b' L' rc', K b' L' → post (nI w) ((nI (8 * R)), el, (nI (8 * (w + 1) + 8)), (sa_rat gk), t2, (wp + 1), (nI (8 * (w + 1) + 8)), t2, 0, (wp + 1), b', vk, rs, sd, cr, L', rc')) (H : sa_W Z (fun b L => (b = 0 → Z b L) ∧ (¬ b = 0 → K (sa_dec b) L)) (sa_li (w + 1) 255 (wp &&& 65535) t2) b L) : wpY_append post ((nI (8 * R)), el, ge, gk, gt, gp, (nI (8 * w)), wt, ws, wp, bu, vk, rs, sd, cr, lg, rc) v1 v2 := by
  have o0 := sa_ok8 o
  have oo := o
  obtain ⟨o1, o2, o3, o4, o5, o6, o7, o8, o9⟩ := o
  unfold wpY_append wY_append_66
  refine br_f o1 (br_t o2 (br_f o3 (br_t (sa_v254 o4) (br_f o5 (br_t o6 (br_c (fun y => br_f o7 (br_t ((sa_le8 (by omega) (by omega)).mpr (o8 y)) ?_)) (fun y => br_f o7 (br_t ((sa_le16 (by omega) (by omega)).mpr (o9 y)) ?_))))))))
  all_goals
    refine And.intro sa_80 ?_
    refine nm_r (sa_d8 (by omega)) ?_
    refine sa_yseal (Z := fun _ _ => False) (K := fun b' L' => b' = b ∧ L' = L) o0 hR rfl et ?_ ?_ (sa_Wt hr ⟨rfl, rfl⟩)
    · intro b' L' rc' z
      exact False.elim z
    · intro b' L' rc' z
      obtain ⟨z1, z2⟩ : b' = b ∧ L' = L := z
      subst z1 z2
      have o16 := sa_ok16 oo n
      refine br_f sa_10 ?_
      refine nm_e ?_
      refine br_t n ?_
      refine sa_ycomp (w := w + 1) o16 hR rfl (congrArg nI (by omega)) et2 ?_ ?_ H
      · intro b1 L1 rc1 z
        exact h0 b1 L1 rc1 z
      · intro b1 L1 rc1 z
        exact h2 b1 L1 rc1 z
/-! append -/
theorem sa_app {k : Nat} {v1 v2 : Int32} {R e h w : Nat} (o : sa_ok v1 v2 sd cr ws el w R) (a2 : el = nI e) (a3 : ge = nI (8 * h)) (b1 : 4 ≤ R) (b2 : R ≤ 32) (b3 : 2 ≤ e) (b4 : e ≤ 8) (b5 : h ≤ R) (b6 : w ≤ R) : wpX_append (fun r u' => wpY_append (fun r' v' => r' = r ∧ i_Rel (k + 3) u' v') ((nI (8 * R)), el, ge, gk, gt, gp, (nI (8 * w)), wt, ws, wp, bu, vk, rs, sd, cr, lg, rc) v1 v2) ((nI (8 * R)), el, ge, gk, gt, gp, (nI (8 * w)), wt, ws, wp, sd, cr, bu, vk, rs, lg) v1 v2 := by
  have o0 := sa_ok8 o
  have J0 : sa_I (nI (8 * R)) el ge 0 := ⟨R, e, h, 0, rfl, a2, a3, nI_0.symm, b1, b2, b3, b4, b5, Nat.zero_le _⟩
  have J1 : sa_I (nI (8 * R)) el ge (nI (8 * w + 8)) := ⟨R, e, h, w + 1, rfl, a2, a3, congrArg nI (by omega), b1, b2, b3, b4, b5, by omega⟩
  rcases hr : sa_ws (sa_li w v1 v2 (sa_tg gk wt v1 (nI (8 * w)) v2)) bu lg with ⟨q, b, L⟩
  cases q with
  | false =>
    refine sa_xapp_f b2 o rfl hr ?_
    refine sa_yapp_f b2 o rfl hr ?_
    intro rc'
    exact And.intro rfl (sa_mk J0)
  | true =>
    by_cases n : ws + 1 = el
    · have o1 := sa_ok16 o n
      have J2 : sa_I (nI (8 * R)) el (nI (8 * (w + 1) + 8)) (nI (8 * (w + 1) + 8)) := ⟨R, e, w + 2, w + 2, rfl, a2, congrArg nI (by omega), congrArg nI (by omega), b1, b2, b3, b4, by omega, by omega⟩
      rcases hr2 : sa_ws (sa_li (w + 1) 255 (wp &&& 65535) (sa_tg gk (sa_tg gk wt v1 (nI (8 * w)) v2) 255 (nI (8 * (w + 1))) (wp &&& 65535))) b L with ⟨q2, b', L'⟩
      cases q2 with
      | false =>
        refine sa_xapp_c (Z := fun _ x => x = L') (K := fun _ _ => False) b2 o rfl hr n rfl ?_ (fun _ _ z => False.elim z) (sa_Wf hr2 rfl)
        intro y x z
        have z' : x = L' := z
        rw [z']
        refine sa_yapp_c (Z := fun _ x' => x' = L') (K := fun _ _ => False) b2 o rfl hr n rfl ?_ (fun _ _ _ z => False.elim z) (sa_Wf hr2 rfl)
        intro y' x' rc' z
        have z' : x' = L' := z
        rw [z']
        exact And.intro rfl (sa_mk J0)
      | true =>
        by_cases c : b' = 0
        · refine sa_xapp_c (Z := fun _ x => x = L') (K := fun _ _ => False) b2 o rfl hr n rfl ?_ (fun _ _ z => False.elim z) (sa_Wt hr2 ⟨fun _ => rfl, fun z => absurd c z⟩)
          intro y x z
          have z' : x = L' := z
          rw [z']
          refine sa_yapp_c (Z := fun _ x' => x' = L') (K := fun _ _ => False) b2 o rfl hr n rfl ?_ (fun _ _ _ z => False.elim z) (sa_Wt hr2 ⟨fun _ => rfl, fun z => absurd c z⟩)
          intro y' x' rc' z
          have z' : x' = L' := z
          rw [z']
          exact And.intro rfl (sa_mk J0)
        · refine sa_xapp_c (Z := fun _ _ => False) (K := fun y x => y = sa_dec b' ∧ x = L') b2 o rfl hr n rfl (fun _ _ z => False.elim z) ?_ (sa_Wt hr2 ⟨fun z => absurd z c, fun _ => ⟨rfl, rfl⟩⟩)
          intro y x z
          obtain ⟨z1, z2⟩ : y = sa_dec b' ∧ x = L' := z
          rw [z1, z2]
          refine sa_yapp_c (Z := fun _ _ => False) (K := fun y x' => y = sa_dec b' ∧ x' = L') b2 o rfl hr n rfl (fun _ _ _ z => False.elim z) ?_ (sa_Wt hr2 ⟨fun z => absurd z c, fun _ => ⟨rfl, rfl⟩⟩)
          intro y' x' rc' z
          obtain ⟨z1, z2⟩ : y' = sa_dec b' ∧ x' = L' := z
          rw [z1, z2]
          exact And.intro rfl (sa_mk J2)
    · refine sa_xapp_t b2 o rfl hr n ?_
      refine sa_yapp_t b2 o rfl hr n ?_
      intro rc'
      exact And.intro rfl (sa_mk J1)
theorem i_vc_append {k : Nat} {u : SX} {v : SY} (I : i_Rel k u v) (hk : k + 3 ≤ 1538) (v1 : Int32) (v2 : Int32) : wpX_append (fun r u' => wpY_append (fun r' v' => r' = r ∧ i_Rel (k + 3) u' v') v v1 v2) u v1 v2 := by
  obtain ⟨ca, el, ge, gk, gt, gp, we, wt, ws, wp, sd, cr, bu, vk, rs, lg, rc, rfl, rfl, J⟩ := I
  obtain ⟨R, e, h, w, a1, a2, a3, a4, b1, b2, b3, b4, b5, b6⟩ := id J
  subst a1 a4
  by_cases o1 : sd = 0
  · unfold wpX_append wpX_appendRefusal wpY_append
    exact br_t o1 (br_f (by decide) (br_t o1 (And.intro rfl (sa_mk J))))
  by_cases o2 : cr = 0
  · by_cases o3 : v1 < 1
    · unfold wpX_append wpX_appendRefusal wpY_append
      exact br_f o1 (br_t o2 (br_t o3 (br_f (by decide) (br_f o1 (br_t o2 (br_t o3 (And.intro rfl (sa_mk J))))))))
    by_cases o4 : v1 < 255
    · by_cases o5 : v2 < 0
      · unfold wpX_append wpX_appendRefusal wpY_append
        exact br_f o1 (br_t o2 (br_f o3 (br_t o4 (br_t o5 (br_f (by decide) (br_f o1 (br_t o2 (br_f o3 (br_t (sa_v254 o4) (br_t o5 (And.intro rfl (sa_mk J))))))))))))
      by_cases o6 : v2 ≤ 65535
      · by_cases o7 : ws = el
        · unfold wpX_append wpX_appendRefusal wX_appendRefusal_67 wpY_append wY_append_66
          refine br_f o1 (br_t o2 (br_f o3 (br_t o4 (br_f o5 (br_t o6 (br_c (fun y => ?_) (fun y => ?_)))))))
          · refine br_t o7 (br_f (by decide) ?_)
            exact br_f o1 (br_t o2 (br_f o3 (br_t (sa_v254 o4) (br_f o5 (br_t o6 (br_t y (br_t o7 (And.intro rfl (sa_mk J)))))))))
          · refine br_t o7 (br_f (by decide) ?_)
            exact br_f o1 (br_t o2 (br_f o3 (br_t (sa_v254 o4) (br_f o5 (br_t o6 (br_f y (br_t o7 (And.intro rfl (sa_mk J)))))))))
        by_cases y : ws + 1 < el
        · by_cases d : 8 * w + 8 ≤ 8 * R
          · exact sa_app ⟨o1, o2, o3, o4, o5, o6, o7, fun _ => d, fun z => absurd y z⟩ a2 a3 b1 b2 b3 b4 b5 b6
          · have d' : ¬ nI (8 * w) + 8 ≤ nI (8 * R) := fun z => d ((sa_le8 (by omega) (by omega)).mp z)
            unfold wpX_append wpX_appendRefusal wX_appendRefusal_67 wpY_append wY_append_66
            refine br_f o1 (br_t o2 (br_f o3 (br_t o4 (br_f o5 (br_t o6 (br_t y (br_f o7 (br_f d' (br_f (by decide) ?_)))))))))
            exact br_f o1 (br_t o2 (br_f o3 (br_t (sa_v254 o4) (br_f o5 (br_t o6 (br_t y (br_f o7 (br_f d' (And.intro rfl (sa_mk J))))))))))
        · by_cases d : 8 * w + 16 ≤ 8 * R
          · exact sa_app ⟨o1, o2, o3, o4, o5, o6, o7, fun z => absurd z y, fun _ => d⟩ a2 a3 b1 b2 b3 b4 b5 b6
          · have d' : ¬ nI (8 * w) + 16 ≤ nI (8 * R) := fun z => d ((sa_le16 (by omega) (by omega)).mp z)
            unfold wpX_append wpX_appendRefusal wX_appendRefusal_67 wpY_append wY_append_66
            refine br_f o1 (br_t o2 (br_f o3 (br_t o4 (br_f o5 (br_t o6 (br_f y (br_f o7 (br_f d' (br_f (by decide) ?_)))))))))
            exact br_f o1 (br_t o2 (br_f o3 (br_t (sa_v254 o4) (br_f o5 (br_t o6 (br_f y (br_f o7 (br_f d' (And.intro rfl (sa_mk J))))))))))
      · unfold wpX_append wpX_appendRefusal wpY_append
        exact br_f o1 (br_t o2 (br_f o3 (br_t o4 (br_f o5 (br_f o6 (br_f (by decide) (br_f o1 (br_t o2 (br_f o3 (br_t (sa_v254 o4) (br_f o5 (br_f o6 (And.intro rfl (sa_mk J))))))))))))))
    · unfold wpX_append wpX_appendRefusal wpY_append
      exact br_f o1 (br_t o2 (br_f o3 (br_f o4 (br_f (by decide) (br_f o1 (br_t o2 (br_f o3 (br_f (sa_v255 o4) (And.intro rfl (sa_mk J))))))))))
  · unfold wpX_append wpX_appendRefusal wpY_append
    exact br_f o1 (br_f o2 (br_f (by decide) (br_f o1 (br_f o2 (And.intro rfl (sa_mk J))))))
end
section
/-! 06: one record judged; verify -/
variable {ca el ge gk gt gp we wt ws wp sd cr bu vk rs : Int32} {lg rc : Nat → Int32}
def sa_T (a b : Int32) : Int32 := if a = b then 0 else 5
def sa_ck (x sl E ep b0 b1 b2 b3 T : Int32) : Int32 :=
  if b0 = 0 then 1 else
  if sl = E then (if b0 = 255 then (if b1 = x then (if b2 * 256 + b3 = ep &&& 65535 then T else 4) else 3) else 2)
  else (if b0 = 255 then 2 else (if b1 = x then T else 3))
def sa_rf (L : Nat → Int32) (E : Int32) (i : Nat) (sl ep k pv : Int32) : Int32 :=
  sa_ck (nI i &&& 255) sl E ep (L (8 * i) &&& 255) (L (8 * i + 1) &&& 255) (L (8 * i + 2) &&& 255) (L (8 * i + 3) &&& 255) (sa_T (sa_st L (8 * i)) (sa_tag k pv (L (8 * i) &&& 255) (L (8 * i + 1) &&& 255) (L (8 * i + 2) &&& 255) (L (8 * i + 3) &&& 255)))
theorem sa_ck0 {x sl E ep b0 b1 b2 b3 T : Int32} (h : sa_ck x sl E ep b0 b1 b2 b3 T = 0) : sl = E ↔ b0 = 255 := by
  unfold sa_ck at h
  by_cases c0 : b0 = 0
  · rw [if_pos c0] at h
    exact absurd h (by decide)
  · rw [if_neg c0] at h
    by_cases c1 : sl = E
    · rw [if_pos c1] at h
      by_cases c2 : b0 = 255
      · exact ⟨fun _ => c2, fun _ => c1⟩
      · rw [if_neg c2] at h
        exact absurd h (by decide)
    · rw [if_neg c1] at h
      by_cases c2 : b0 = 255
      · rw [if_pos c2] at h
        exact absurd h (by decide)
      · exact ⟨fun y => absurd y c1, fun y => absurd y c2⟩
theorem sa_x121 {post : Int32 → Prop} {i : Nat} {x4 x5 x7 x8 x9 x10 : Int32} (hi : 8 * i + 8 ≤ 256) (h : post (sa_T (sa_st lg (8 * i)) (sa_tag x4 x5 x7 x8 x9 x10))) : wX_recordFault_121 post (nI i) x4 x5 x7 x8 x9 x10 ca el ge gk gt gp we wt ws wp sd cr bu vk rs lg := by
  unfold wX_recordFault_121
  refine sa_xtag ?_
  refine sa_xstag hi ?_
  unfold sa_T at h
  refine br_c (fun y => ?_) (fun y => ?_)
  · rw [if_pos y] at h
    exact h
  · rw [if_neg y] at h
    exact h
theorem sa_xck {post : Int32 → Prop} {i : Nat} {sl ep k pv b0 b1 b2 b3 : Int32} (hi : 8 * i + 8 ≤ 256) (h : post (sa_ck (nI i &&& 255) sl el ep b0 b1 b2 b3 (sa_T (sa_st lg (8 * i)) (sa_tag k pv b0 b1 b2 b3)))) : (sl = el → wX_recordFault_57 post (nI i) ep k pv b0 b1 b2 b3 1 ca el ge gk gt gp we wt ws wp sd cr bu vk rs lg) ∧ (¬ sl = el → wX_recordFault_57 post (nI i) ep k pv b0 b1 b2 b3 0 ca el ge gk gt gp we wt ws wp sd cr bu vk rs lg) := by
  unfold sa_ck at h
  unfold wX_recordFault_57 wX_recordFault_81
  refine br_c (fun c1 => ?_) (fun c1 => ?_)
  · refine br_c (fun c2 => ?_) (fun c2 => ?_)
    · rw [if_pos c2] at h
      exact h
    · rw [if_neg c2, if_pos c1] at h
      refine br_c (fun c3 => ?_) (fun c3 => ?_)
      · rw [if_pos c3] at h
        refine br_t rfl ?_
        refine br_c (fun c4 => ?_) (fun c4 => ?_)
        · rw [if_pos c4] at h
          refine br_f sa_10 ?_
          refine br_c (fun c5 => ?_) (fun c5 => ?_)
          · rw [if_pos c5] at h
            exact sa_x121 hi h
          · rw [if_neg c5] at h
            exact h
        · rw [if_neg c4] at h
          exact h
      · rw [if_neg c3] at h
        exact br_f sa_10 h
  · refine br_c (fun c2 => ?_) (fun c2 => ?_)
    · rw [if_pos c2] at h
      exact h
    · rw [if_neg c2, if_neg c1] at h
      refine br_c (fun c3 => ?_) (fun c3 => ?_)
      · rw [if_pos c3] at h
        exact br_f sa_01 h
      · rw [if_neg c3] at h
        refine br_t rfl ?_
        refine br_c (fun c4 => ?_) (fun c4 => ?_)
        · rw [if_pos c4] at h
          exact br_t rfl (sa_x121 hi h)
        · rw [if_neg c4] at h
          exact h
theorem sa_xrf {post : Int32 → Prop} {i : Nat} {sl ep k pv : Int32} (hi : 8 * i + 8 ≤ 256) (h : post (sa_rf lg el i sl ep k pv)) : wpX_recordFault post (ca, el, ge, gk, gt, gp, we, wt, ws, wp, sd, cr, bu, vk, rs, lg) (nI i) sl ep k pv := by
  unfold wpX_recordFault
  refine nm_r (sa_8m i) ?_
  refine sa_xbyte (q := 8 * i) (by omega) rfl ?_
  refine sa_xbyte (q := 8 * i + 1) (by omega) (nI_1 (8 * i)) ?_
  refine sa_xbyte (q := 8 * i + 2) (by omega) (nI_add (8 * i) 2) ?_
  refine sa_xbyte (q := 8 * i + 3) (by omega) (nI_add (8 * i) 3) ?_
  exact sa_xck hi h
/-! the reference's verify -/
theorem sa_y265 {post : Int32 → SY → Prop} {J : Int32 → Int32 → Int32 → Prop} {x1 x2 x3 x4 x6 x8 x9 x10 x11 x12 : Int32} (h : wY_verify_287 post J x1 x3 x4 x6 x12 (sa_T x12 (sa_tag x1 x2 x8 x9 x10 x11)) ca el ge gk gt gp we wt ws wp bu vk rs sd cr lg rc) : wY_verify_265 post J x1 x2 x3 x4 x6 x8 x9 x10 x11 x12 0 ca el ge gk gt gp we wt ws wp bu vk rs sd cr lg rc := by
  unfold wY_verify_265
  refine sa_ytag ?_
  unfold sa_T at h
  refine br_c (fun y => ?_) (fun y => ?_)
  · rw [if_pos y] at h
    exact h
  · rw [if_neg y] at h
    exact h
theorem sa_yck {post : Int32 → SY → Prop} {J : Int32 → Int32 → Int32 → Prop} {i : Nat} {x1 x2 x3 x6 x7 b0 b1 b2 b3 s0 : Int32} (h : wY_verify_287 post J x1 x3 (nI i) x6 s0 (sa_ck (nI i &&& 255) x6 el x7 b0 b1 b2 b3 (sa_T s0 (sa_tag x1 x2 b0 b1 b2 b3))) ca el ge gk gt gp we wt ws wp bu vk rs sd cr lg rc) : (b0 = 0 → wY_verify_287 post J x1 x3 (nI i) x6 s0 1 ca el ge gk gt gp we wt ws wp bu vk rs sd cr lg rc) ∧ (¬ b0 = 0 → (x6 = el → wY_verify_194 post J x1 x2 x3 (nI i) x6 x7 b0 b1 b2 b3 s0 0 1 ca el ge gk gt gp we wt ws wp bu vk rs sd cr lg rc) ∧ (¬ x6 = el → wY_verify_194 post J x1 x2 x3 (nI i) x6 x7 b0 b1 b2 b3 s0 0 0 ca el ge gk gt gp we wt ws wp bu vk rs sd cr lg rc)) := by
  unfold sa_ck at h
  unfold wY_verify_194 wY_verify_207
  refine br_c (fun c2 => ?_) (fun c2 => ?_)
  · rw [if_pos c2] at h
    exact h
  · rw [if_neg c2] at h
    refine br_c (fun c1 => ?_) (fun c1 => ?_)
    · rw [if_pos c1] at h
      refine br_c (fun c3 => ?_) (fun c3 => ?_)
      · rw [if_pos c3] at h
        refine br_t rfl ?_
        refine br_c (fun c4 => ?_) (fun c4 => ?_)
        · rw [if_pos c4] at h
          refine br_t c1 ?_
          refine br_c (fun c5 => ?_) (fun c5 => ?_)
          · rw [if_pos c5] at h
            exact sa_y265 h
          · rw [if_neg c5] at h
            exact h
        · rw [if_neg c4] at h
          exact h
      · rw [if_neg c3] at h
        exact br_f sa_10 h
    · rw [if_neg c1] at h
      refine br_c (fun c3 => ?_) (fun c3 => ?_)
      · rw [if_pos c3] at h
        exact br_f sa_01 h
      · rw [if_neg c3] at h
        refine br_t rfl ?_
        refine br_c (fun c4 => ?_) (fun c4 => ?_)
        · rw [if_pos c4] at h
          exact br_f c1 (sa_y265 h)
        · rw [if_neg c4] at h
          exact h
theorem sa_ybody {post : Int32 → SY → Prop} {e R W i n : Nat} {k pv : Int32} (hi : i < W) (hW : W ≤ R) (hR : R ≤ 32) (he : e ≤ 8) (h : wY_verify_287 post (wY_verify_43 post (nI W) (nI (8 * R)) (nI e) ge gk gt gp we wt ws wp bu vk rs sd cr lg rc n) k (nI W) (nI i) (nI (i % (e + 1))) (sa_st lg (8 * i)) (sa_rf lg (nI e) i (nI (i % (e + 1))) (nI (i / (e + 1))) k pv) (nI (8 * R)) (nI e) ge gk gt gp we wt ws wp bu vk rs sd cr lg rc) : wY_verify_43 post (nI W) (nI (8 * R)) (nI e) ge gk gt gp we wt ws wp bu vk rs sd cr lg rc (n + 1) k pv (nI i) := by
  have z : ¬ nI e + 1 = 0 := by
    rw [nI_1]
    exact nI_ne0 (by omega) (by omega)
  have em : nI i - nI i / (nI e + 1) * (nI e + 1) = nI (i % (e + 1)) := by
    rw [nI_1]
    exact pk_rem (by omega) (by omega) (by omega)
  have ed : nI i / (nI e + 1) = nI (i / (e + 1)) := by
    rw [nI_1]
    exact pk_div (by omega) (by omega) (by omega)
  refine br_f (nI_ge hi (by omega)) ?_
  refine br_f (nI_ge (a := i) (b := 32) (by omega) (by decide)) ?_
  refine nm_r (sa_8m i) ?_
  refine br_t ((sa_le8 (a := 8 * i) (b := 8 * R) (by omega) (by omega)).mpr (by omega)) ?_
  refine And.intro z ?_
  refine nm_r em ?_
  refine And.intro z ?_
  refine nm_r ed ?_
  refine And.intro (pk_in (8 * i) 256 (by omega) rfl) ?_
  refine nm_r (sa_by (q := 8 * i) rfl (by omega)) ?_
  refine And.intro (pk_in (8 * i + 1) 256 (by omega) (nI_1 (8 * i))) ?_
  refine nm_r (sa_by (nI_1 (8 * i)) (by omega)) ?_
  refine And.intro (pk_in (8 * i + 2) 256 (by omega) (nI_add (8 * i) 2)) ?_
  refine nm_r (sa_by (nI_add (8 * i) 2) (by omega)) ?_
  refine And.intro (pk_in (8 * i + 3) 256 (by omega) (nI_add (8 * i) 3)) ?_
  refine nm_r (sa_by (nI_add (8 * i) 3) (by omega)) ?_
  refine sa_ystag (by omega) ?_
  exact sa_yck h
theorem sa_mod : ∀ e, e < 9 → ∀ i, i < 32 → (i % (e + 1) = e → (i + 1) % (e + 1) = 0 ∧ (i + 1) / (e + 1) = i / (e + 1) + 1) ∧ (¬ i % (e + 1) = e → (i + 1) % (e + 1) = i % (e + 1) + 1 ∧ (i + 1) / (e + 1) = i / (e + 1)) := by decide +kernel
theorem sa_ver {e R W : Nat} (hW : W ≤ R) (hR : R ≤ 32) (he : e ≤ 8) : ∀ d i : Nat, i + d = W → ∀ k pv : Int32, ∃ r z : Int32, (∀ post : Int32 → SX → Prop, post r ((nI (8 * R)), (nI e), ge, gk, gt, gp, we, wt, ws, wp, sd, cr, bu, vk, z, lg) → wX_verify_49 post (nI W) (nI (8 * R)) (nI e) ge gk gt gp we wt ws wp sd cr bu vk lg (d + 1) k pv (nI (i % (e + 1))) (nI (i / (e + 1))) (nI i) 0) ∧ (∀ post : Int32 → SY → Prop, post r ((nI (8 * R)), (nI e), ge, gk, gt, gp, we, wt, ws, wp, bu, vk, z, sd, cr, lg, rc) → wY_verify_43 post (nI W) (nI (8 * R)) (nI e) ge gk gt gp we wt ws wp bu vk 0 sd cr lg rc (d + 1) k pv (nI i)) := by
  intro d
  induction d with
  | zero =>
    intro i hd k pv
    have c : nI W ≤ nI i := nI_le (by omega) (by omega)
    exact ⟨-1, 0, fun _ hp => br_t c hp, fun _ hp => br_t c hp⟩
  | succ d ih =>
    intro i hd k pv
    have hi : 8 * i + 8 ≤ 256 := by omega
    have hl : i < W := by omega
    have c : ¬ nI W ≤ nI i := nI_ge hl (by omega)
    have hm := sa_mod e (by omega) i (by omega)
    by_cases hf : sa_rf lg (nI e) i (nI (i % (e + 1))) (nI (i / (e + 1))) k pv = 0
    · by_cases hs : i % (e + 1) = e
      · obtain ⟨m1, m2⟩ := hm.1 hs
        have es : nI (i % (e + 1)) = nI e := congrArg nI hs
        obtain ⟨r, z, hX, hY⟩ := ih (i + 1) (by omega) (sa_rat k) (sa_st lg (8 * i))
        refine ⟨r, z, fun post hp => ?_, fun post hp => ?_⟩
        · have y := hX post hp
          rw [m1, m2, nI_0] at y
          refine br_f c ?_
          refine sa_xrf hi ?_
          rw [hf]
          refine br_t rfl ?_
          refine sa_xstag hi ?_
          refine br_t es ?_
          refine sa_xrat ?_
          refine nm_r (nI_1 (i / (e + 1))) ?_
          refine nm_r (nI_1 i) ?_
          exact y
        · have y := hY post hp
          refine sa_ybody hl hW hR he ?_
          rw [hf]
          unfold wY_verify_287
          refine br_t rfl ?_
          refine br_t es ?_
          refine sa_yrat ?_
          refine nm_r (nI_1 i) ?_
          exact y
      · obtain ⟨m1, m2⟩ := hm.2 hs
        have es : ¬ nI (i % (e + 1)) = nI e := by
          have l : i % (e + 1) < e + 1 := Nat.mod_lt _ (by omega)
          intro q
          exact hs ((nI_eq (by omega) (by omega)).mp q)
        obtain ⟨r, z, hX, hY⟩ := ih (i + 1) (by omega) k (sa_st lg (8 * i))
        refine ⟨r, z, fun post hp => ?_, fun post hp => ?_⟩
        · have y := hX post hp
          rw [m1, m2] at y
          refine br_f c ?_
          refine sa_xrf hi ?_
          rw [hf]
          refine br_t rfl ?_
          refine sa_xstag hi ?_
          refine br_f es ?_
          refine nm_r (nI_1 (i % (e + 1))) ?_
          refine nm_r (nI_1 i) ?_
          exact y
        · have y := hY post hp
          refine sa_ybody hl hW hR he ?_
          rw [hf]
          unfold wY_verify_287
          refine br_t rfl ?_
          refine br_f es ?_
          refine nm_r (nI_1 i) ?_
          exact y
    · refine ⟨nI i, sa_rf lg (nI e) i (nI (i % (e + 1))) (nI (i / (e + 1))) k pv, fun post hp => ?_, fun post hp => ?_⟩
      · refine br_f c ?_
        refine sa_xrf hi ?_
        exact br_f hf hp
      · refine sa_ybody hl hW hR he ?_
        unfold wY_verify_287
        exact br_f hf hp
theorem i_vc_verify {k : Nat} {u : SX} {v : SY} (I : i_Rel k u v) (hk : k + 3 ≤ 1538) : wpX_verify (fun r u' => wpY_verify (fun r' v' => r' = r ∧ i_Rel (k + 3) u' v') v) u := by
  obtain ⟨ca, el, ge, gk, gt, gp, we, wt, ws, wp, sd, cr, bu, vk, rs, lg, rc, rfl, rfl, J⟩ := I
  obtain ⟨R, e, h, w, a1, a2, a3, a4, b1, b2, b3, b4, b5, b6⟩ := id J
  unfold wpX_verify wpY_verify
  by_cases c1 : sd = 0
  · exact br_t c1 (br_t c1 (And.intro rfl (sa_mk J)))
  by_cases c2 : cr = 0
  · subst a1 a2 a4
    obtain ⟨r, z, hX, hY⟩ := sa_ver (ge := ge) (gk := gk) (gt := gt) (gp := gp) (we := nI (8 * w)) (wt := wt) (ws := ws) (wp := wp) (sd := sd) (cr := cr) (bu := bu) (vk := vk) (lg := lg) (rc := rc) b6 b2 b4 w 0 (by omega) vk 0
    rw [Nat.zero_mod, Nat.zero_div, nI_0] at hX
    rw [nI_0] at hY
    refine br_f c1 (br_t c2 ?_)
    refine And.intro sa_80 ?_
    refine nm_r (sa_d8 (by omega)) ?_
    refine Exists.intro (w + 1) (hX _ ?_)
    refine br_f c1 (br_t c2 ?_)
    refine And.intro sa_80 ?_
    refine nm_r (sa_d8 (by omega)) ?_
    refine Exists.intro (w + 1) (hY _ ?_)
    exact And.intro rfl (sa_mk J)
  · exact br_f c1 (br_f c2 (br_f c1 (br_f c2 (And.intro rfl (sa_mk J)))))
end
section
/-! 07: recover -/
variable {ca el ge gk gt gp we wt ws wp sd cr bu vk rs : Int32} {lg rc : Nat → Int32}
/-! zeros behind p -/
def sa_zr : Nat → Nat → (Nat → Int32) → (Nat → Int32)
  | 0, _, L => L
  | n + 1, q, L => sa_zr n (q + 1) (upd L q (vp_nar .byte 0))
theorem sa_xzt {post : SX → Prop} {C : Nat} (hC : C ≤ 256) : ∀ d q : Nat, q + d = C → ∀ L : Nat → Int32, post ((nI C), el, ge, gk, gt, gp, we, wt, ws, wp, sd, cr, bu, vk, rs, (sa_zr d q L)) → wX_zeroTail_5 post (nI C) el ge gk gt gp we wt ws wp sd cr bu vk rs (d + 1) (nI q) L := by
  intro d
  induction d with
  | zero =>
    intro q hq L hp
    exact br_t (nI_le (by omega) (by omega)) hp
  | succ d ih =>
    intro q hq L hp
    refine br_f (nI_ge (by omega) (by omega)) ?_
    refine And.intro (pk_in q 256 (by omega) rfl) ?_
    refine nm_r (congrArg (fun x => upd L x (vp_nar .byte 0)) (nI_clamp (n := q) (by omega))) ?_
    refine nm_r (nI_1 q) ?_
    exact ih (q + 1) (by omega) _ hp
theorem sa_yz2 {post : Int32 → SY → Prop} {x3 x4 x5 : Int32} {P C : Nat} (hC : C ≤ 256) (F : (Nat → Int32) → Prop) (hF : ∀ L, F L → ∀ n, wY_recover_325 post (nI P) x3 x4 x5 (nI C) el ge gk gt gp we wt ws wp bu vk rs sd cr (n + 1) (nI C) L rc) : ∀ d q : Nat, q + d = C → P ≤ q → ∀ L : Nat → Int32, F (sa_zr d q L) → wY_recover_325 post (nI P) x3 x4 x5 (nI C) el ge gk gt gp we wt ws wp bu vk rs sd cr (d + 1) (nI q) L rc := by
  intro d
  induction d with
  | zero =>
    intro q hq hP L hp
    have e : q = C := by omega
    subst e
    exact hF L hp 0
  | succ d ih =>
    intro q hq hP L hp
    refine br_f (nI_ge (by omega) (by omega)) ?_
    refine br_f (nI_nlt (a := q) (b := P) hP (by omega)) ?_
    refine And.intro (pk_in q 256 (by omega) rfl) ?_
    refine nm_r (congrArg (fun x => upd L x (vp_nar .byte 0)) (nI_clamp (n := q) (by omega))) ?_
    refine nm_r (nI_1 q) ?_
    exact ih (q + 1) (by omega) (by omega) _ hp
theorem sa_yz1 {post : Int32 → SY → Prop} {x3 x4 x5 : Int32} {P C : Nat} (hC : C ≤ 256) (hP : P ≤ C) (F : (Nat → Int32) → Prop) (hF : ∀ L, F L → ∀ n, wY_recover_325 post (nI P) x3 x4 x5 (nI C) el ge gk gt gp we wt ws wp bu vk rs sd cr (n + 1) (nI C) L rc) (hp : F (sa_zr (C - P) P lg)) : ∀ d q : Nat, q + d = C → q ≤ P → wY_recover_325 post (nI P) x3 x4 x5 (nI C) el ge gk gt gp we wt ws wp bu vk rs sd cr (d + 1) (nI q) lg rc := by
  intro d
  induction d with
  | zero =>
    intro q hq hqP
    have e1 : q = C := by omega
    have e2 : P = C := by omega
    subst e1
    subst e2
    rw [Nat.sub_self] at hp
    exact hF lg hp 0
  | succ d ih =>
    intro q hq hqP
    by_cases c : q < P
    · refine br_f (nI_ge (by omega) (by omega)) ?_
      refine br_t (nI_lt c (by omega)) ?_
      refine nm_r (nI_1 q) ?_
      exact ih (q + 1) (by omega) (by omega)
    · have e : q = P := by omega
      have e2 : d + 1 = C - P := by omega
      rw [← e2, ← e] at hp
      exact sa_yz2 hC F hF (d + 1) q hq (by omega) lg hp
/-! the reference's judgement of one record -/
theorem sa_y210 {post : Int32 → SY → Prop} {J : Int32 → Int32 → Int32 → Int32 → Int32 → Int32 → Int32 → Int32 → Int32 → Int32 → Prop} {i : Nat} {x2 x3 x4 x5 x6 b0 b1 b2 b3 f : Int32} (hi : 8 * i + 8 ≤ 256) (h1 : sa_st lg (8 * i) = sa_tag x2 x3 b0 b1 b2 b3 → wY_recover_239 post J (nI (8 * i)) x2 x3 x4 x5 x6 b0 f (sa_st lg (8 * i)) ca el ge gk gt gp we wt ws wp bu vk rs sd cr lg rc) (h0 : ¬ sa_st lg (8 * i) = sa_tag x2 x3 b0 b1 b2 b3 → wY_recover_239 post J (nI (8 * i)) x2 x3 x4 x5 x6 b0 0 (sa_st lg (8 * i)) ca el ge gk gt gp we wt ws wp bu vk rs sd cr lg rc) : wY_recover_210 post J (nI (8 * i)) x2 x3 x4 x5 x6 b0 b1 b2 b3 f ca el ge gk gt gp we wt ws wp bu vk rs sd cr lg rc := by
  unfold wY_recover_210
  refine sa_ystag hi ?_
  refine sa_ytag ?_
  exact br_c h1 h0
theorem sa_y182z {post : Int32 → SY → Prop} {J : Int32 → Int32 → Int32 → Int32 → Int32 → Int32 → Int32 → Int32 → Int32 → Int32 → Prop} {i : Nat} {x2 x3 x4 x5 x6 b0 b1 b2 b3 : Int32} (hi : 8 * i + 8 ≤ 256) (h0 : wY_recover_239 post J (nI (8 * i)) x2 x3 x4 x5 x6 b0 0 (sa_st lg (8 * i)) ca el ge gk gt gp we wt ws wp bu vk rs sd cr lg rc) : wY_recover_182 post J (nI (8 * i)) x2 x3 x4 x5 x6 b0 b1 b2 b3 0 ca el ge gk gt gp we wt ws wp bu vk rs sd cr lg rc := by
  have y : wY_recover_210 post J (nI (8 * i)) x2 x3 x4 x5 x6 b0 b1 b2 b3 0 ca el ge gk gt gp we wt ws wp bu vk rs sd cr lg rc := sa_y210 hi (fun _ => h0) (fun _ => h0)
  unfold wY_recover_182
  exact br_c (fun _ => br_c (fun _ => y) (fun _ => y)) (fun _ => y)
theorem sa_y166z {post : Int32 → SY → Prop} {J : Int32 → Int32 → Int32 → Int32 → Int32 → Int32 → Int32 → Int32 → Int32 → Int32 → Prop} {i : Nat} {x2 x3 x4 x5 x6 b0 b1 b2 b3 : Int32} (hi : 8 * i + 8 ≤ 256) (h0 : wY_recover_239 post J (nI (8 * i)) x2 x3 x4 x5 x6 b0 0 (sa_st lg (8 * i)) ca el ge gk gt gp we wt ws wp bu vk rs sd cr lg rc) : wY_recover_166 post J (nI (8 * i)) x2 x3 x4 x5 x6 b0 b1 b2 b3 0 ca el ge gk gt gp we wt ws wp bu vk rs sd cr lg rc := by
  unfold wY_recover_166
  exact And.intro sa_80 (br_c (fun _ => sa_y182z hi h0) (fun _ => sa_y182z hi h0))
theorem sa_y131z {post : Int32 → SY → Prop} {J : Int32 → Int32 → Int32 → Int32 → Int32 → Int32 → Int32 → Int32 → Int32 → Int32 → Prop} {i : Nat} {x2 x3 x4 x5 x6 b0 b1 b2 b3 : Int32} (hi : 8 * i + 8 ≤ 256) (h0 : wY_recover_239 post J (nI (8 * i)) x2 x3 x4 x5 x6 b0 0 (sa_st lg (8 * i)) ca el ge gk gt gp we wt ws wp bu vk rs sd cr lg rc) : wY_recover_131 post J (nI (8 * i)) x2 x3 x4 x5 x6 b0 b1 b2 b3 0 ca el ge gk gt gp we wt ws wp bu vk rs sd cr lg rc := by
  unfold wY_recover_131 wY_recover_146 wY_recover_160
  exact br_c (fun _ => br_c (fun _ => br_c (fun _ => sa_y166z hi h0) (fun _ => sa_y166z hi h0)) (fun _ => br_c (fun _ => sa_y166z hi h0) (fun _ => sa_y166z hi h0))) (fun _ => br_c (fun _ => br_c (fun _ => sa_y166z hi h0) (fun _ => sa_y166z hi h0)) (fun _ => br_c (fun _ => sa_y166z hi h0) (fun _ => sa_y166z hi h0)))
theorem sa_y131 {post : Int32 → SY → Prop} {J : Int32 → Int32 → Int32 → Int32 → Int32 → Int32 → Int32 → Int32 → Int32 → Int32 → Prop} {i : Nat} {x2 x3 x4 x5 x6 b0 b1 b2 b3 : Int32} (hi : 8 * i + 8 ≤ 256) (h1 : sa_ck (nI i &&& 255) x5 el x4 b0 b1 b2 b3 (sa_T (sa_st lg (8 * i)) (sa_tag x2 x3 b0 b1 b2 b3)) = 0 → wY_recover_239 post J (nI (8 * i)) x2 x3 x4 x5 x6 b0 1 (sa_st lg (8 * i)) ca el ge gk gt gp we wt ws wp bu vk rs sd cr lg rc) (h0 : ¬ sa_ck (nI i &&& 255) x5 el x4 b0 b1 b2 b3 (sa_T (sa_st lg (8 * i)) (sa_tag x2 x3 b0 b1 b2 b3)) = 0 → wY_recover_239 post J (nI (8 * i)) x2 x3 x4 x5 x6 b0 0 (sa_st lg (8 * i)) ca el ge gk gt gp we wt ws wp bu vk rs sd cr lg rc) : (b0 = 0 → wY_recover_131 post J (nI (8 * i)) x2 x3 x4 x5 x6 b0 b1 b2 b3 0 ca el ge gk gt gp we wt ws wp bu vk rs sd cr lg rc) ∧ (¬ b0 = 0 → wY_recover_131 post J (nI (8 * i)) x2 x3 x4 x5 x6 b0 b1 b2 b3 1 ca el ge gk gt gp we wt ws wp bu vk rs sd cr lg rc) := by
  have d8 : nI (8 * i) / 8 = nI i := sa_d8 (by omega)
  unfold sa_ck sa_T at h1 h0
  refine br_c (fun c2 => ?_) (fun c2 => ?_)
  · refine sa_y131z hi (h0 ?_)
    rw [if_pos c2]
    decide
  · rw [if_neg c2] at h1 h0
    unfold wY_recover_131
    refine br_c (fun c3 => ?_) (fun c3 => ?_)
    · unfold wY_recover_146
      refine br_c (fun c1 => ?_) (fun c1 => ?_)
      · rw [if_pos c1, if_pos c3] at h1 h0
        unfold wY_recover_160
        refine br_t rfl ?_
        unfold wY_recover_166
        rw [d8]
        refine And.intro sa_80 (br_c (fun c4 => ?_) (fun c4 => ?_))
        · rw [if_pos c4] at h1 h0
          unfold wY_recover_182
          refine br_t c3 (br_c (fun c5 => ?_) (fun c5 => ?_))
          · rw [if_pos c5] at h1 h0
            refine sa_y210 hi (fun c6 => h1 ?_) (fun c6 => h0 ?_)
            · rw [if_pos c6]
            · rw [if_neg c6]
              decide
          · rw [if_neg c5] at h0
            have y := h0 (by decide)
            exact sa_y210 hi (fun _ => y) (fun _ => y)
        · rw [if_neg c4] at h0
          exact sa_y182z hi (h0 (by decide))
      · rw [if_neg c1, if_pos c3] at h0
        unfold wY_recover_160
        refine br_f sa_10 ?_
        exact sa_y166z hi (h0 (by decide))
    · unfold wY_recover_146
      refine br_c (fun c1 => ?_) (fun c1 => ?_)
      · rw [if_pos c1, if_neg c3] at h0
        unfold wY_recover_160
        refine br_f sa_01 ?_
        exact sa_y166z hi (h0 (by decide))
      · rw [if_neg c1, if_neg c3] at h1 h0
        unfold wY_recover_160
        refine br_t rfl ?_
        unfold wY_recover_166
        rw [d8]
        refine And.intro sa_80 (br_c (fun c4 => ?_) (fun c4 => ?_))
        · rw [if_pos c4] at h1 h0
          unfold wY_recover_182
          refine br_f c3 ?_
          refine sa_y210 hi (fun c6 => h1 ?_) (fun c6 => h0 ?_)
          · rw [if_pos c6]
          · rw [if_neg c6]
            decide
        · rw [if_neg c4] at h0
          exact sa_y182z hi (h0 (by decide))
/-! the scan, both sides -/
theorem sa_ybod {post : Int32 → SY → Prop} {i c n R : Nat} (hi : i < R) (hR : R ≤ 32) (hc : c < 40) {k pv ep s : Int32} (h1 : sa_rf lg el i s ep k pv = 0 → wY_recover_239 post (wY_recover_42 post (nI (8 * R)) el we wt ws wp bu vk rs sd cr lg rc n) (nI (8 * i)) k pv ep s (nI c) (lg (8 * i) &&& 255) 1 (sa_st lg (8 * i)) (nI (8 * R)) el ge gk gt gp we wt ws wp bu vk rs sd cr lg rc) (h0 : ¬ sa_rf lg el i s ep k pv = 0 → wY_recover_239 post (wY_recover_42 post (nI (8 * R)) el we wt ws wp bu vk rs sd cr lg rc n) (nI (8 * i)) k pv ep s (nI c) (lg (8 * i) &&& 255) 0 (sa_st lg (8 * i)) (nI (8 * R)) el ge gk gt gp we wt ws wp bu vk rs sd cr lg rc) : wY_recover_42 post (nI (8 * R)) el we wt ws wp bu vk rs sd cr lg rc (n + 1) (nI (8 * i)) k pv ep s (nI c) ge gk gt gp := by
  refine br_f (nI_ge (a := c) (b := 40) hc (by decide)) ?_
  refine br_f (nI_pos (n := 8 * i) (by omega)) ?_
  refine br_t ((sa_le8 (a := 8 * i) (b := 8 * R) (by omega) (by omega)).mpr (by omega)) ?_
  refine And.intro (pk_in (8 * i) 256 (by omega) rfl) ?_
  refine nm_r (sa_by (q := 8 * i) rfl (by omega)) ?_
  refine And.intro (pk_in (8 * i + 1) 256 (by omega) (nI_1 (8 * i))) ?_
  refine nm_r (sa_by (nI_1 (8 * i)) (by omega)) ?_
  refine And.intro (pk_in (8 * i + 2) 256 (by omega) (nI_add (8 * i) 2)) ?_
  refine nm_r (sa_by (nI_add (8 * i) 2) (by omega)) ?_
  refine And.intro (pk_in (8 * i + 3) 256 (by omega) (nI_add (8 * i) 3)) ?_
  refine nm_r (sa_by (nI_add (8 * i) 3) (by omega)) ?_
  exact sa_y131 (by omega) h1 h0
theorem sa_acc {R : Nat} {we0 wt0 ws0 wp0 : Int32} (hR : R ≤ 32) : ∀ d i : Nat, i + d = R → ∀ c : Nat, c + d < 40 → ∀ ge gk gt gp wt ws wp : Int32, (∃ h, h ≤ R ∧ ge = nI (8 * h)) → ∃ (j : Nat) (ge' gk' gt' gp' wt' ws' wp' : Int32), j ≤ R ∧ (∃ h, h ≤ R ∧ ge' = nI (8 * h)) ∧ (∀ post : SX → Prop, post ((nI (8 * R)), el, ge', gk', gt', gp', (nI (8 * j)), wt', ws', wp', sd, cr, bu, vk, rs, lg) → wX_acceptStoredRecords_45 post (nI R) (d + 1) (nI i) (nI (8 * R)) el ge gk gt gp (nI (8 * i)) wt ws wp sd cr bu vk rs lg) ∧ (∀ post : Int32 → SY → Prop, (∃ n, wY_recover_325 post (nI (8 * j)) wt' wp' ws' (nI (8 * R)) el ge' gk' gt' gp' we0 wt0 ws0 wp0 bu vk rs sd cr n 0 lg rc) → wY_recover_42 post (nI (8 * R)) el we0 wt0 ws0 wp0 bu vk rs sd cr lg rc (d + 1) (nI (8 * i)) gk wt wp ws (nI c) ge gk gt gp) := by
  intro d
  induction d with
  | zero =>
    intro i hd c hc ge gk gt gp wt ws wp hh
    refine ⟨i, ge, gk, gt, gp, wt, ws, wp, by omega, hh, fun post hp => ?_, fun post hp => ?_⟩
    · exact br_t (nI_le (by omega) (by omega)) hp
    · refine br_f (nI_ge (a := c) (b := 40) (by omega) (by decide)) ?_
      refine br_f (nI_pos (n := 8 * i) (by omega)) ?_
      exact br_f (fun z => absurd ((sa_le8 (a := 8 * i) (b := 8 * R) (by omega) (by omega)).mp z) (by omega)) hp
  | succ d ih =>
    intro i hd c hc ge gk gt gp wt ws wp hh
    have hi : 8 * i + 8 ≤ 256 := by omega
    have hl : i < R := by omega
    have cX : ¬ nI R ≤ nI i := nI_ge hl (by omega)
    have e8 : 8 * (nI i + 1) = nI (8 * (i + 1)) := by
      rw [nI_1]
      exact sa_8m (i + 1)
    have p8 : nI (8 * i) + 8 = nI (8 * (i + 1)) := nI_add (8 * i) 8
    by_cases hf : sa_rf lg el i ws wp gk wt = 0
    · have hb : ws = el ↔ lg (8 * i) &&& 255 = 255 := sa_ck0 hf
      by_cases hs : ws = el
      · obtain ⟨j, ge', gk', gt', gp', wt', ws', wp', j1, j2, hX, hY⟩ := ih (i + 1) (by omega) (c + 1) (by omega) (nI (8 * (i + 1))) (sa_rat gk) (sa_st lg (8 * i)) (wp + 1) (sa_st lg (8 * i)) 0 (wp + 1) ⟨i + 1, by omega, rfl⟩
        refine ⟨j, ge', gk', gt', gp', wt', ws', wp', j1, j2, fun post hp => ?_, fun post hp => ?_⟩
        · refine br_f cX ?_
          refine sa_xrf hi ?_
          rw [hf]
          refine br_t rfl ?_
          refine nm_r e8 ?_
          refine sa_xstag hi ?_
          refine br_t hs ?_
          refine sa_xclose ?_
          refine nm_r (nI_1 i) ?_
          exact hX post hp
        · refine sa_ybod hl hR (by omega) (fun _ => ?_) (fun z => absurd hf z)
          unfold wY_recover_239
          refine br_f sa_10 (br_t (hb.mp hs) ?_)
          refine nm_r p8 ?_
          refine sa_yrat ?_
          refine nm_e ?_
          refine nm_e ?_
          refine nm_r p8 ?_
          refine nm_r (nI_1 c) ?_
          exact hY post hp
      · obtain ⟨j, ge', gk', gt', gp', wt', ws', wp', j1, j2, hX, hY⟩ := ih (i + 1) (by omega) (c + 1) (by omega) ge gk gt gp (sa_st lg (8 * i)) (ws + 1) wp hh
        refine ⟨j, ge', gk', gt', gp', wt', ws', wp', j1, j2, fun post hp => ?_, fun post hp => ?_⟩
        · refine br_f cX ?_
          refine sa_xrf hi ?_
          rw [hf]
          refine br_t rfl ?_
          refine nm_r e8 ?_
          refine sa_xstag hi ?_
          refine br_f hs ?_
          refine nm_e ?_
          refine nm_r (nI_1 i) ?_
          exact hX post hp
        · refine sa_ybod hl hR (by omega) (fun _ => ?_) (fun z => absurd hf z)
          unfold wY_recover_239
          refine br_f sa_10 (br_f (fun z => hs (hb.mpr z)) ?_)
          refine nm_e ?_
          refine nm_r p8 ?_
          refine nm_r (nI_1 c) ?_
          exact hY post hp
    · refine ⟨i, ge, gk, gt, gp, wt, ws, wp, by omega, hh, fun post hp => ?_, fun post hp => ?_⟩
      · refine br_f cX ?_
        refine sa_xrf hi ?_
        exact br_f hf hp
      · refine sa_ybod hl hR (by omega) (fun z => absurd z hf) (fun _ => ?_)
        unfold wY_recover_239
        exact br_t rfl hp
theorem i_vc_recover {k : Nat} {u : SX} {v : SY} (I : i_Rel k u v) (hk : k + 3 ≤ 1538) : wpX_recover (fun r u' => wpY_recover (fun r' v' => r' = r ∧ i_Rel (k + 3) u' v') v) u := by
  obtain ⟨ca, el, ge, gk, gt, gp, we, wt, ws, wp, sd, cr, bu, vk, rs, lg, rc, rfl, rfl, J⟩ := I
  obtain ⟨R, e, h, w, a1, a2, a3, a4, b1, b2, b3, b4, b5, b6⟩ := id J
  unfold wpX_recover
  by_cases c1 : cr = 0
  · refine br_t c1 ?_
    unfold wpY_recover
    exact br_t c1 (And.intro rfl (sa_mk J))
  subst a1 a3
  obtain ⟨j, ge', gk', gt', gp', wt', ws', wp', j1, ⟨h', h1, eh⟩, hX, hY⟩ := sa_acc (R := R) (we0 := we) (wt0 := wt) (ws0 := ws) (wp0 := wp) (el := el) (sd := sd) (cr := cr) (bu := -1) (vk := vk) (rs := rs) (lg := lg) (rc := rc) b2 (R - h) h (by omega) 0 (by omega) (nI (8 * h)) gk gt gp gt 0 gp ⟨h, b5, rfl⟩
  have J1 : sa_I (nI (8 * R)) el ge' (nI (8 * j)) := ⟨R, e, h', j, rfl, a2, eh, rfl, b1, b2, b3, b4, h1, j1⟩
  refine br_f c1 ?_
  unfold wpX_acceptStoredRecords
  refine And.intro sa_80 ?_
  refine nm_r (sa_d8 (by omega)) ?_
  refine And.intro sa_80 ?_
  refine nm_r (sa_d8 (by omega)) ?_
  refine Exists.intro (R - h + 1) (hX _ ?_)
  unfold wpX_zeroTail
  refine Exists.intro (8 * R - 8 * j + 1) (sa_xzt (by omega) (8 * R - 8 * j) (8 * j) (by omega) lg ?_)
  by_cases c2 : ws' = el
  · by_cases c3 : R < j + 1
    · have d3 : nI (8 * R) < nI (8 * j) + 8 := (sa_lt8 (by omega) (by omega)).mpr (by omega)
      refine br_t c2 (br_t d3 ?_)
      refine And.intro sa_80 ?_
      unfold wpY_recover
      refine br_f c1 ?_
      refine Exists.intro (R - h + 1) (hY _ ?_)
      refine Exists.intro (8 * R + 1) ?_
      refine sa_yz1 (P := 8 * j) (C := 8 * R) (by omega) (by omega) (fun L => L = sa_zr (8 * R - 8 * j) (8 * j) lg) ?_ rfl (8 * R) 0 (by omega) (by omega)
      intro L eL n
      have eL' : L = sa_zr (8 * R - 8 * j) (8 * j) lg := eL
      rw [eL']
      refine br_t (nI_le (Nat.le_refl _) (by omega)) ?_
      refine br_t c2 (br_t d3 ?_)
      exact And.intro sa_80 (And.intro rfl (sa_mk J1))
    · have d3 : ¬ nI (8 * R) < nI (8 * j) + 8 := fun z => absurd ((sa_lt8 (by omega) (by omega)).mp z) (by omega)
      have J2 : sa_I (nI (8 * R)) el (nI (8 * j + 8)) (nI (8 * j + 8)) := ⟨R, e, j + 1, j + 1, rfl, a2, congrArg nI (by omega), congrArg nI (by omega), b1, b2, b3, b4, by omega, by omega⟩
      refine br_t c2 (br_f d3 ?_)
      refine sa_xcomp (w := j) (Z := fun _ _ => False) (K := fun b L => b = -1 ∧ L = sa_wa (sa_li j 255 (wp' &&& 65535) (sa_tg gk' wt' 255 (nI (8 * j)) (wp' &&& 65535))) (sa_zr (8 * R - 8 * j) (8 * j) lg)) (by omega) rfl rfl (fun _ _ z => False.elim z) (fun _ _ z => False.elim z) ?_ (sa_Wm ⟨fun z => absurd z (by decide), fun _ => ⟨sa_dec_m1, rfl⟩⟩)
      intro b L z
      obtain ⟨z1, z2⟩ : b = -1 ∧ L = sa_wa (sa_li j 255 (wp' &&& 65535) (sa_tg gk' wt' 255 (nI (8 * j)) (wp' &&& 65535))) (sa_zr (8 * R - 8 * j) (8 * j) lg) := z
      rw [z1, z2]
      refine And.intro sa_80 ?_
      unfold wpY_recover
      refine br_f c1 ?_
      refine Exists.intro (R - h + 1) (hY _ ?_)
      refine Exists.intro (8 * R + 1) ?_
      refine sa_yz1 (P := 8 * j) (C := 8 * R) (by omega) (by omega) (fun L => L = sa_zr (8 * R - 8 * j) (8 * j) lg) ?_ rfl (8 * R) 0 (by omega) (by omega)
      intro L eL n
      have eL' : L = sa_zr (8 * R - 8 * j) (8 * j) lg := eL
      rw [eL']
      refine br_t (nI_le (Nat.le_refl _) (by omega)) ?_
      refine br_t c2 (br_f d3 ?_)
      refine sa_ycomp0 (w := j) (R := R) (by omega) b2 rfl rfl rfl ?_
      intro rc'
      exact And.intro sa_80 (And.intro rfl (sa_mk J2))
  · refine br_f c2 ?_
    refine And.intro sa_80 ?_
    unfold wpY_recover
    refine br_f c1 ?_
    refine Exists.intro (R - h + 1) (hY _ ?_)
    refine Exists.intro (8 * R + 1) ?_
    refine sa_yz1 (P := 8 * j) (C := 8 * R) (by omega) (by omega) (fun L => L = sa_zr (8 * R - 8 * j) (8 * j) lg) ?_ rfl (8 * R) 0 (by omega) (by omega)
    intro L eL n
    have eL' : L = sa_zr (8 * R - 8 * j) (8 * j) lg := eL
    rw [eL']
    refine br_t (nI_le (Nat.le_refl _) (by omega)) ?_
    refine br_f c2 ?_
    exact And.intro sa_80 (And.intro rfl (sa_mk J1))
end
section
/-! 08: dropRecord and swapRecords -/
variable {ca el ge gk gt gp we wt ws wp sd cr bu vk rs : Int32} {lg rc : Nat → Int32}
def sa_mv : Nat → Nat → (Nat → Int32) → (Nat → Int32)
  | 0, _, L => L
  | n + 1, q, L => sa_mv n (q + 1) (upd L q (vp_nar .byte (L (q + 8))))
def sa_zz : Nat → Nat → (Nat → Int32) → (Nat → Int32)
  | 0, _, L => L
  | n + 1, q, L => sa_zz n (q + 1) (upd L q (vp_nar .byte 0))
theorem sa_ez {L : Nat → Int32} {q : Nat} (h : q < 2 ^ 31) : upd L (nI q).toNatClampNeg (vp_nar .byte 0) = upd L q (vp_nar .byte 0) := by
  rw [nI_clamp h]
theorem sa_em {L : Nat → Int32} {q : Nat} (h : q < 1000) : upd L (nI q).toNatClampNeg (vp_nar .byte (L (nI q + 8).toNatClampNeg)) = upd L q (vp_nar .byte (L (q + 8))) := by
  rw [sa_p8, nI_clamp (n := q) (by omega), nI_clamp (n := q + 8) (by omega)]
theorem sa_xd58 {post : Int32 → SX → Prop} {x2 : Int32} {W : Nat} (hW : W ≤ 256) : ∀ d q : Nat, q + d = W → ∀ L : Nat → Int32, post 1 (ca, el, ge, gk, gt, gp, x2, wt, ws, wp, sd, cr, bu, vk, rs, (sa_zz d q L)) → wX_dropRecord_58 post x2 ca el ge gk gt gp (nI W) wt ws wp sd cr bu vk rs (d + 1) (nI q) L := by
  intro d
  induction d with
  | zero =>
    intro q hq L hp
    exact br_t (nI_le (by omega) (by omega)) hp
  | succ d ih =>
    intro q hq L hp
    refine br_f (nI_ge (by omega) (by omega)) ?_
    refine And.intro (pk_in q 256 (by omega) rfl) ?_
    refine nm_r (sa_ez (by omega)) ?_
    refine nm_r (nI_1 q) ?_
    exact ih (q + 1) (by omega) _ hp
theorem sa_xd30 {post : Int32 → SX → Prop} {M : Nat} (hM : M + 8 ≤ 256) : ∀ d q : Nat, q + d = M → ∀ L : Nat → Int32, post 1 (ca, el, ge, gk, gt, gp, (nI M), wt, ws, wp, sd, cr, bu, vk, rs, (sa_zz 8 M (sa_mv d q L))) → wX_dropRecord_30 post (nI M) ca el ge gk gt gp (nI (M + 8)) wt ws wp sd cr bu vk rs (d + 1) (nI q) L := by
  intro d
  induction d with
  | zero =>
    intro q hq L hp
    refine br_t (nI_le (by omega) (by omega)) ?_
    exact Exists.intro (8 + 1) (sa_xd58 (W := M + 8) hM 8 M rfl L hp)
  | succ d ih =>
    intro q hq L hp
    refine br_f (nI_ge (by omega) (by omega)) ?_
    refine And.intro (pk_in (q + 8) 256 (by omega) (sa_p8 q)) ?_
    refine And.intro (pk_in q 256 (by omega) rfl) ?_
    refine nm_r (sa_em (by omega)) ?_
    refine nm_r (nI_1 q) ?_
    exact ih (q + 1) (by omega) _ hp
theorem sa_m8 {M : Nat} : nI (M + 8) - 8 = nI M := by
  have y : nI (M + 8) - nI 8 = nI (M + 8 - 8) := pk_sub (by omega)
  rw [Nat.add_sub_cancel] at y
  exact y
theorem sa_m9 {M q : Nat} (hM : M < 1000) (hq : q < 1000) : nI (M + 8) - 9 < nI q ↔ M ≤ q := by
  have y : (nI (M + 8) - nI 9).toInt = ((M + 8 : Nat) : Int) - (9 : Nat) := pk_sub_toInt (by omega) (by omega)
  have y' : (nI (M + 8) - 9).toInt = ((M + 8 : Nat) : Int) - (9 : Nat) := y
  rw [Int32.lt_iff_toInt_lt, y', nI_toInt (n := q) (by omega)]
  omega
theorem sa_yd91 {post : Int32 → SY → Prop} {M : Nat} (hM : M + 8 ≤ 256) : ∀ d q : Nat, q + d = M + 8 → ∀ L : Nat → Int32, post 1 (ca, el, ge, gk, gt, gp, (nI M), wt, ws, wp, bu, vk, rs, sd, cr, (sa_zz d q L), rc) → wY_dropRecord_91 post ca el ge gk gt gp (nI (M + 8)) wt ws wp bu vk rs sd cr (d + 1) (nI q) L rc := by
  intro d
  induction d with
  | zero =>
    intro q hq L hp
    refine br_t (nI_le (by omega) (by omega)) ?_
    exact nm_r sa_m8 hp
  | succ d ih =>
    intro q hq L hp
    refine br_f (nI_ge (by omega) (by omega)) ?_
    refine br_f (nI_pos (n := q) (by omega)) ?_
    refine And.intro (pk_in q 256 (by omega) rfl) ?_
    refine nm_r (sa_ez (by omega)) ?_
    refine nm_r (nI_1 q) ?_
    exact ih (q + 1) (by omega) _ hp
theorem sa_yd51 {post : Int32 → SY → Prop} {M : Nat} (hM : M + 8 ≤ 256) : ∀ d q : Nat, q + d = M → ∀ L : Nat → Int32, post 1 (ca, el, ge, gk, gt, gp, (nI M), wt, ws, wp, bu, vk, rs, sd, cr, (sa_zz 8 M (sa_mv d q L)), rc) → wY_dropRecord_51 post ca el ge gk gt gp (nI (M + 8)) wt ws wp bu vk rs sd cr (d + 1) (nI q) L rc := by
  intro d
  induction d with
  | zero =>
    intro q hq L hp
    refine br_t ((sa_m9 (by omega) (by omega)).mpr (by omega)) ?_
    refine nm_r sa_m8 ?_
    exact Exists.intro (8 + 1) (sa_yd91 hM 8 M rfl L hp)
  | succ d ih =>
    intro q hq L hp
    refine br_f (fun z => absurd ((sa_m9 (by omega) (by omega)).mp z) (by omega)) ?_
    refine And.intro (pk_in (q + 8) 256 (by omega) (sa_p8 q)) ?_
    refine And.intro (pk_in q 256 (by omega) rfl) ?_
    refine nm_r (sa_em (by omega)) ?_
    refine nm_r (nI_1 q) ?_
    exact ih (q + 1) (by omega) _ hp
theorem i_vc_dropRecord {k : Nat} {u : SX} {v : SY} (I : i_Rel k u v) (hk : k + 3 ≤ 1538) (v1 : Int32) : wpX_dropRecord (fun r u' => wpY_dropRecord (fun r' v' => r' = r ∧ i_Rel (k + 3) u' v') v v1) u v1 := by
  obtain ⟨ca, el, ge, gk, gt, gp, we, wt, ws, wp, sd, cr, bu, vk, rs, lg, rc, rfl, rfl, J⟩ := I
  obtain ⟨R, e, h, w, a1, a2, a3, a4, b1, b2, b3, b4, b5, b6⟩ := id J
  unfold wpX_dropRecord wpX_isOpen wpX_isWritten wpY_dropRecord
  by_cases c1 : sd = 0
  · exact br_t c1 (br_t rfl (br_t c1 (And.intro rfl (sa_mk J))))
  refine br_f c1 ?_
  by_cases c2 : cr = 0
  · refine br_t c2 ?_
    refine br_f sa_10 ?_
    by_cases c3 : v1 < 0
    · exact br_t c3 (br_t rfl (br_f c1 (br_t c2 (br_t c3 (And.intro rfl (sa_mk J))))))
    refine br_f c3 (And.intro sa_80 ?_)
    by_cases c4 : we / 8 ≤ v1
    · exact br_t c4 (br_t rfl (br_f c1 (br_t c2 (br_f c3 (And.intro sa_80 (br_f (Int32.not_lt.mpr c4) (And.intro rfl (sa_mk J))))))))
    have c5 : v1 < we / 8 := Int32.not_le.mp c4
    have d8 : we / 8 = nI w := by
      rw [a4]
      exact sa_d8 (by omega)
    obtain ⟨j, hj, ej⟩ := sa_ix d8 (by omega) c3 c5
    obtain ⟨m, em⟩ : ∃ m, w = m + 1 := ⟨w - 1, by omega⟩
    have a4' : we = nI (8 * m + 8) := by
      rw [a4, em]
      exact congrArg nI (by omega)
    have lc : we ≤ ca := by
      rw [a4, a1]
      exact nI_le (by omega) (by omega)
    have J1 : sa_I ca el ge (nI (8 * m)) := ⟨R, e, h, m, a1, a2, a3, rfl, b1, b2, b3, b4, b5, by omega⟩
    have e8 : 8 * v1 = nI (8 * j) := by
      rw [ej]
      exact sa_8m j
    refine br_f c4 ?_
    refine br_f sa_10 ?_
    clear J d8 a4
    subst a4'
    refine nm_r sa_m8 ?_
    refine nm_r e8 ?_
    refine Exists.intro (8 * m - 8 * j + 1) (sa_xd30 (by omega) (8 * m - 8 * j) (8 * j) (by omega) lg ?_)
    refine br_f c1 (br_t c2 (br_f c3 (And.intro sa_80 (br_t c5 (br_t lc ?_)))))
    refine nm_r e8 ?_
    refine Exists.intro (8 * m - 8 * j + 1) (sa_yd51 (by omega) (8 * m - 8 * j) (8 * j) (by omega) lg ?_)
    exact And.intro rfl (sa_mk J1)
  · exact br_f c2 (br_t rfl (br_f c1 (br_f c2 (And.intro rfl (sa_mk J)))))
/-! swap -/
def sa_sw (i j : Nat) : Nat → Nat → (Nat → Int32) → (Nat → Int32)
  | 0, _, L => L
  | n + 1, q, L => sa_sw i j n (q + 1) (upd (upd L (8 * i + q) (vp_nar .byte (L (8 * j + q)))) (8 * j + q) (vp_nar .byte (L (8 * i + q))))
theorem sa_8a (i q : Nat) : 8 * nI i + nI q = nI (8 * i + q) := by
  rw [sa_8m, nI_add]
theorem sa_xsw {post : Int32 → SX → Prop} {i j : Nat} (hi : i < 32) (hj : j < 32) : ∀ d q : Nat, q + d = 8 → ∀ L : Nat → Int32, post 1 (ca, el, ge, gk, gt, gp, we, wt, ws, wp, sd, cr, bu, vk, rs, (sa_sw i j d q L)) → wX_swapRecords_32 post (nI i) (nI j) ca el ge gk gt gp we wt ws wp sd cr bu vk rs (d + 1) (nI q) L := by
  intro d
  induction d with
  | zero =>
    intro q hq L hp
    exact br_t (nI_le (a := 8) (b := q) (by omega) (by omega)) hp
  | succ d ih =>
    intro q hq L hp
    have ci : (nI (8 * i + q)).toNatClampNeg = 8 * i + q := nI_clamp (by omega)
    have cj : (nI (8 * j + q)).toNatClampNeg = 8 * j + q := nI_clamp (by omega)
    have ni : vp_in (nI (8 * i + q)) 256 := vp_in_nI (by omega) (by decide)
    have nj : vp_in (nI (8 * j + q)) 256 := vp_in_nI (by omega) (by decide)
    refine br_f (nI_ge (a := q) (b := 8) (by omega) (by decide)) ?_
    refine nm_r (sa_8a i q) ?_
    refine nm_r (sa_8a j q) ?_
    rw [ci, cj]
    refine And.intro ni ?_
    refine nm_e ?_
    refine And.intro nj ?_
    refine And.intro ni ?_
    refine nm_e ?_
    refine And.intro nj ?_
    refine nm_e ?_
    refine nm_r (nI_1 q) ?_
    exact ih (q + 1) (by omega) _ hp
theorem sa_ysw {post : Int32 → SY → Prop} {i j : Nat} (hi : i < 32) (hj : j < 32) : ∀ d q : Nat, q + d = 8 → ∀ L : Nat → Int32, post 1 (ca, el, ge, gk, gt, gp, we, wt, ws, wp, bu, vk, rs, sd, cr, (sa_sw i j d q L), rc) → wY_swapRecords_82 post (nI i) (nI j) ca el ge gk gt gp we wt ws wp bu vk rs sd cr (d + 1) (nI q) L rc := by
  intro d
  induction d with
  | zero =>
    intro q hq L hp
    exact br_t (nI_le (a := 8) (b := q) (by omega) (by omega)) hp
  | succ d ih =>
    intro q hq L hp
    have ci : (nI (8 * i + q)).toNatClampNeg = 8 * i + q := nI_clamp (by omega)
    have cj : (nI (8 * j + q)).toNatClampNeg = 8 * j + q := nI_clamp (by omega)
    have ni : vp_in (nI (8 * i + q)) 256 := vp_in_nI (by omega) (by decide)
    have nj : vp_in (nI (8 * j + q)) 256 := vp_in_nI (by omega) (by decide)
    refine br_f (nI_ge (a := q) (b := 8) (by omega) (by decide)) ?_
    rw [sa_8a i q, sa_8a j q, ci, cj]
    refine And.intro ni ?_
    refine nm_e ?_
    refine And.intro nj ?_
    refine And.intro ni ?_
    refine nm_e ?_
    refine And.intro nj ?_
    refine nm_e ?_
    refine nm_r (nI_1 q) ?_
    exact ih (q + 1) (by omega) _ hp
theorem i_vc_swapRecords {k : Nat} {u : SX} {v : SY} (I : i_Rel k u v) (hk : k + 3 ≤ 1538) (v1 : Int32) (v2 : Int32) : wpX_swapRecords (fun r u' => wpY_swapRecords (fun r' v' => r' = r ∧ i_Rel (k + 3) u' v') v v1 v2) u v1 v2 := by
  obtain ⟨ca, el, ge, gk, gt, gp, we, wt, ws, wp, sd, cr, bu, vk, rs, lg, rc, rfl, rfl, J⟩ := I
  obtain ⟨R, e, h, w, a1, a2, a3, a4, b1, b2, b3, b4, b5, b6⟩ := id J
  have d8 : we / 8 = nI w := by
    rw [a4]
    exact sa_d8 (by omega)
  unfold wpX_swapRecords wpX_isOpen wpX_isWritten wpY_swapRecords
  by_cases c1 : sd = 0
  · exact br_t c1 (br_t rfl (br_t c1 (And.intro rfl (sa_mk J))))
  refine br_f c1 ?_
  by_cases c2 : cr = 0
  · refine br_t c2 ?_
    refine br_f sa_10 ?_
    by_cases c3 : v1 < 0
    · exact br_t c3 (br_t rfl (br_f c1 (br_t c2 (And.intro sa_80 (nm_e (br_t c3 (And.intro rfl (sa_mk J))))))))
    refine br_f c3 (And.intro sa_80 ?_)
    by_cases c4 : we / 8 ≤ v1
    · exact br_t c4 (br_t rfl (br_f c1 (br_t c2 (And.intro sa_80 (nm_e (br_f c3 (br_t c4 (And.intro rfl (sa_mk J)))))))))
    refine br_f c4 (br_f sa_10 ?_)
    by_cases c5 : v2 < 0
    · exact br_t c5 (br_t rfl (br_f c1 (br_t c2 (And.intro sa_80 (nm_e (br_f c3 (br_f c4 (br_t c5 (And.intro rfl (sa_mk J))))))))))
    refine br_f c5 (And.intro sa_80 ?_)
    by_cases c6 : we / 8 ≤ v2
    · exact br_t c6 (br_t rfl (br_f c1 (br_t c2 (And.intro sa_80 (nm_e (br_f c3 (br_f c4 (br_f c5 (br_t c6 (And.intro rfl (sa_mk J)))))))))))
    refine br_f c6 (br_f sa_10 ?_)
    by_cases c7 : v1 = v2
    · exact br_t c7 (br_f c1 (br_t c2 (And.intro sa_80 (nm_e (br_f c3 (br_f c4 (br_f c5 (br_f c6 (br_t c7 (And.intro rfl (sa_mk J)))))))))))
    obtain ⟨i, hi, ei⟩ := sa_ix d8 (by omega) c3 (Int32.not_le.mp c4)
    obtain ⟨j, hj, ej⟩ := sa_ix d8 (by omega) c5 (Int32.not_le.mp c6)
    have l1 : ¬ ca < 8 * v1 + 8 := by
      rw [a1, ei, sa_8m, sa_p8]
      exact nI_nlt (by omega) (by omega)
    have l2 : 8 * v2 + 8 ≤ ca := by
      rw [a1, ej, sa_8m, sa_p8]
      exact nI_le (by omega) (by omega)
    refine br_f c7 ?_
    subst ei ej
    refine Exists.intro (8 + 1) (sa_xsw (by omega) (by omega) 8 0 rfl lg ?_)
    refine br_f c1 (br_t c2 (And.intro sa_80 (nm_e (br_f c3 (br_f c4 (br_f c5 (br_f c6 (br_f c7 (br_f l1 (br_t l2 ?_))))))))))
    refine Exists.intro (8 + 1) (sa_ysw (by omega) (by omega) 8 0 rfl lg ?_)
    exact And.intro rfl (sa_mk J)
  · exact br_f c2 (br_t rfl (br_f c1 (br_f c2 (And.intro rfl (sa_mk J)))))
end
