/-! FramedTalk: send -/
section TlkI
variable {G : q_G} {h : q_H} {A : Nat → Nat} {st ec dl pg : Int32} {rq out dr : List Int32} {R : z_R} {w : List z_Ms}
def t_to (L p f : Nat) : Nat := if L < f * p + p then L else f * p + p
def t_fst (kd : Int32) (cnt f : Nat) : Int32 := (if f = 0 then kd else 0) + (if f + 1 = cnt then 128 else 0)
def t_piece (dr : List Int32) (kd : Int32) (p cnt f : Nat) : List Int32 := [t_fst kd cnt f, nI (t_to dr.length p f - f * p)] ++ (dr.drop (f * p)).take (t_to dr.length p f - f * p)
def t_pieces (dr : List Int32) (kd : Int32) (p cnt : Nat) : Nat → List Int32
  | 0 => []
  | f + 1 => t_pieces dr kd p cnt f ++ t_piece dr kd p cnt f
theorem t_to_le {L p f : Nat} (hf : f * p ≤ L) : f * p ≤ t_to L p f ∧ t_to L p f ≤ L := by
  unfold t_to
  split <;> omega
theorem t_pieces_len (dr : List Int32) (kd : Int32) (p cnt : Nat) (hp : ∀ f, f < cnt → f * p ≤ dr.length) : ∀ f, f ≤ cnt → (t_pieces dr kd p cnt f).length ≤ 2 * f + dr.length ∧ (f < cnt → (t_pieces dr kd p cnt f).length = 2 * f + f * p) := by
  intro f
  induction f with
  | zero => intro _; exact ⟨Nat.zero_le _, fun _ => by simp [t_pieces]⟩
  | succ f ih =>
    intro hf
    have h1 := (ih (by omega)).2 (by omega)
    have h2 := hp f (by omega)
    have h3 := t_to_le h2
    have hl : (t_piece dr kd p cnt f).length = 2 + (t_to dr.length p f - f * p) := by
      unfold t_piece
      rw [List.length_append, List.length_take, List.length_drop]
      show 2 + _ = _
      omega
    constructor
    · show (t_pieces dr kd p cnt f ++ t_piece dr kd p cnt f).length ≤ _
      rw [List.length_append, h1, hl]
      omega
    · intro hc
      have h4 := hp (f + 1) hc
      have e5 : (f + 1) * p = f * p + p := Nat.succ_mul f p
      rw [e5] at h4 ⊢
      show (t_pieces dr kd p cnt f ++ t_piece dr kd p cnt f).length = _
      rw [List.length_append, h1, hl]
      have : t_to dr.length p f = f * p + p := by unfold t_to; rw [if_neg (by omega)]
      omega
theorem sp_sayPieces (ht : k_tlk h A (st, ec, dl, pg, rq, out, dr, R, w)) (kd : Int32) {p cnt : Nat} (hp1 : p ≤ 100) (hcnt : cnt ≤ 1000) (hp : ∀ f, f < cnt → f * p ≤ dr.length) (hN : out.length + (2 * cnt + dr.length) ≤ 574) : q_SP G mX6_sayPieces [.ref (A 0), .int kd, .int (nI p), .int (nI cnt)] h 0 0 (fun o h' => o = none ∧ k_tlk h' A (st, ec, dl, pg, rq, out ++ t_pieces dr kd p cnt cnt, dr, R, w) ∧ k_same [A 19, A 20] h h') := by
  have hA := ht.1
  have hl := ht.2.2.2.2.2.2.1.len
  have hne : A 21 ∉ [A 19, A 20] ∧ A 22 ∉ [A 19, A 20] := ⟨hA.no (I := [19, 20]) (by decide), hA.no (I := [19, 20]) (by decide)⟩
  refine q_enter (M := mX6_sayPieces) (by decide +kernel) rfl (Nat.le_of_ble_eq_true rfl) ?_
  refine x_iconst 0 dX6_sayPieces_0 (by decide) ?_
  refine x_istore dX6_sayPieces_1 (by decide) rfl ?_
  have loop : ∀ (m f : Nat) (x : Int32) (h1 : q_H) (lv : List (Nat × Value)), x = nI f → f + m = cnt → k_tlk h1 A (st, ec, dl, pg, rq, out ++ t_pieces dr kd p cnt f, dr, R, w) → k_same [A 19, A 20] h h1 →
      q_X G mX6_sayPieces (q_R mX6_sayPieces 0 0) (q_FN G (fun o h' => o = none ∧ k_tlk h' A (st, ec, dl, pg, rq, out ++ t_pieces dr kd p cnt cnt, dr, R, w) ∧ k_same [A 19, A 20] h h') 0 0) 3 ([(0, .ref (A 0)), (1, .int kd), (2, .int (nI p)), (3, .int (nI cnt)), (4, .int x)] ++ lv) [] h1 0 0 := by
    intro m
    induction m with
    | zero =>
      intro f x h1 lv hx hf t1 s1
      subst hx
      have hf : f = cnt := by omega
      subst hf
      refine x_take 5 ?_
      refine x_iload dX6_sayPieces_3 (by first | rfl | assumption) ?_
      refine x_iload_n 3 dX6_sayPieces_5 rfl (by first | rfl | assumption) ?_
      refine x_icmp_ge 79 dX6_sayPieces_6 (by decide) (fun _ => ?_) (fun z => absurd (Int32.le_refl _) z)
      refine x_vret rfl dX6_sayPieces_79 (by decide) (by decide) ?_
      exact ⟨rfl, t1, s1⟩
    | succ m ih =>
      intro f x h1 lv hx hf t1 s1
      subst hx
      have o1 := t1.2.1
      have rd := t1.2.2.2.2.2.2.1
      have q1 := rd.o
      have h2 := hp f (by omega)
      have h3 := t_to_le (p := p) h2
      have h5 := (t_pieces_len dr kd p cnt hp f (by omega)).2 (by omega)
      have fin : ∀ (y : Int32), y = t_fst kd cnt f → q_X G mX6_sayPieces (q_R mX6_sayPieces 0 0) (q_FN G (fun o h' => o = none ∧ k_tlk h' A (st, ec, dl, pg, rq, out ++ t_pieces dr kd p cnt cnt, dr, R, w) ∧ k_same [A 19, A 20] h h') 0 0) 57 [(0, .ref (A 0)), (1, .int kd), (2, .int (nI p)), (3, .int (nI cnt)), (4, .int (nI f)), (5, .int (nI (f * p))), (6, .int (nI (t_to dr.length p f)))] [.int y] h1 0 0 := by
        intro y hy
        subst hy
        refine x_istore dX6_sayPieces_57 (by decide) rfl ?_
        refine x_aload_n 0 dX6_sayPieces_59 rfl (by first | rfl | assumption) ?_
        refine x_iload dX6_sayPieces_60 (by first | rfl | assumption) ?_
        refine x_aload_n 0 dX6_sayPieces_62 rfl (by first | rfl | assumption) ?_
        refine gf_X6_sayPieces_39 dX6_sayPieces_63 (by first | assumption | exact va_up_self _ _ _) rfl ?_
        refine x_iload dX6_sayPieces_66 (by first | rfl | assumption) ?_
        refine x_iload dX6_sayPieces_68 (by first | rfl | assumption) ?_
        refine cl_X6_sayPieces_70 (sp_say (a := f * p) (b := t_to dr.length p f) t1 rd hne _ h3.1 h3.2 (by rw [List.length_append, h5]; omega)) (by first | assumption | exact va_up_self _ _ _) (Nat.le_of_ble_eq_true rfl) ⟨Nat.le_of_ble_eq_true rfl, Nat.le_of_ble_eq_true rfl⟩ (fun r g2 hq => ?_)
        obtain ⟨rfl, t2, s2⟩ := hq
        refine x_iinc 1 dX6_sayPieces_73 (by first | rfl | assumption) (by decide) (by decide) rfl ?_
        refine x_goto 3 dX6_sayPieces_76 (by decide) ?_
        refine ih (f + 1) _ g2 [(5, _), (6, _), (7, _)] (nI_1 f) (by omega) ?_ (s1.tr s2)
        rw [List.append_assoc, List.append_assoc] at t2
        exact t2
      refine x_take 5 ?_
      refine x_iload dX6_sayPieces_3 (by first | rfl | assumption) ?_
      refine x_iload_n 3 dX6_sayPieces_5 rfl (by first | rfl | assumption) ?_
      refine x_icmp_ge 79 dX6_sayPieces_6 (by decide) (fun z => absurd z (nI_ge (b := cnt) (by omega) (by omega))) (fun _ => ?_)
      refine x_iload dX6_sayPieces_9 (by first | rfl | assumption) ?_
      refine x_iload_n 2 dX6_sayPieces_11 rfl (by first | rfl | assumption) ?_
      refine x_imul dX6_sayPieces_12 ?_
      rw [pk_mul]
      refine x_istore dX6_sayPieces_13 (by decide) rfl ?_
      refine x_iload dX6_sayPieces_15 (by first | rfl | assumption) ?_
      refine x_iload_n 2 dX6_sayPieces_17 rfl (by first | rfl | assumption) ?_
      refine x_iadd dX6_sayPieces_18 ?_
      rw [nI_add]
      refine x_aload_n 0 dX6_sayPieces_19 rfl (by first | rfl | assumption) ?_
      refine gf_X6_sayPieces_39 dX6_sayPieces_20 (by first | assumption | exact va_up_self _ _ _) rfl ?_
      refine cl_X6_sayPieces_23 (sp_size rd) (by first | assumption | exact va_up_self _ _ _) (Nat.le_of_ble_eq_true rfl) ⟨Nat.le_of_ble_eq_true rfl, Nat.le_of_ble_eq_true rfl⟩ (fun r g hq => ?_)
      obtain ⟨rfl, hg⟩ := hq
      rw [hg]
      refine cl_X6_sayPieces_26 (sp_min _ _) (Nat.le_of_ble_eq_true rfl) ⟨Nat.le_of_ble_eq_true rfl, Nat.le_of_ble_eq_true rfl⟩ (fun r g hq => ?_)
      obtain ⟨rfl, hg⟩ := hq
      rw [hg]
      have hmin : (if nI dr.length < nI (f * p + p) then nI dr.length else nI (f * p + p)) = nI (t_to dr.length p f) := by
        unfold t_to
        by_cases hc : dr.length < f * p + p
        · rw [if_pos hc, if_pos (nI_lt hc (by omega))]
        · rw [if_neg hc, if_neg (nI_nlt (by omega) (by omega))]
      rw [hmin]
      refine x_istore dX6_sayPieces_29 (by decide) rfl ?_
      refine x_iload dX6_sayPieces_31 (by first | rfl | assumption) ?_
      by_cases f0 : f = 0
      · refine x_if_ne 40 dX6_sayPieces_33 (by decide) (fun z => absurd (by rw [f0]; rfl) z) (fun _ => ?_)
        refine x_iload_n 1 dX6_sayPieces_36 rfl (by first | rfl | assumption) ?_
        refine x_goto 41 dX6_sayPieces_37 (by decide) ?_
        refine x_iload dX6_sayPieces_41 (by first | rfl | assumption) ?_
        refine x_iload_n 3 dX6_sayPieces_43 rfl (by first | rfl | assumption) ?_
        refine x_iconst 1 dX6_sayPieces_44 (by decide) ?_
        refine x_isub dX6_sayPieces_45 ?_
        by_cases fl : f + 1 = cnt
        · refine x_icmp_ne 55 dX6_sayPieces_46 (by decide) (fun z => absurd (by rw [← fl, nI_pred]) z) (fun _ => ?_)
          refine x_sipush 128 dX6_sayPieces_49 (by decide) ?_
          refine x_goto 56 dX6_sayPieces_52 (by decide) ?_
          refine x_iadd dX6_sayPieces_56 ?_
          exact fin _ (by unfold t_fst; rw [if_pos f0, if_pos fl])
        · refine x_icmp_ne 55 dX6_sayPieces_46 (by decide) (fun _ => ?_) (fun z => absurd z (fun z => by rw [show nI cnt - 1 = nI (cnt - 1) from pk_sub (b := 1) (by omega)] at z; exact fl (by have := (nI_eq (by omega) (by omega)).mp z; omega)))
          refine x_iconst 0 dX6_sayPieces_55 (by decide) ?_
          refine x_iadd dX6_sayPieces_56 ?_
          exact fin _ (by unfold t_fst; rw [if_pos f0, if_neg fl])
      · refine x_if_ne 40 dX6_sayPieces_33 (by decide) (fun _ => ?_) (fun z => absurd z (nI_ne0 (by omega) (by omega)))
        refine x_iconst 0 dX6_sayPieces_40 (by decide) ?_
        refine x_iload dX6_sayPieces_41 (by first | rfl | assumption) ?_
        refine x_iload_n 3 dX6_sayPieces_43 rfl (by first | rfl | assumption) ?_
        refine x_iconst 1 dX6_sayPieces_44 (by decide) ?_
        refine x_isub dX6_sayPieces_45 ?_
        by_cases fl : f + 1 = cnt
        · refine x_icmp_ne 55 dX6_sayPieces_46 (by decide) (fun z => absurd (by rw [← fl, nI_pred]) z) (fun _ => ?_)
          refine x_sipush 128 dX6_sayPieces_49 (by decide) ?_
          refine x_goto 56 dX6_sayPieces_52 (by decide) ?_
          refine x_iadd dX6_sayPieces_56 ?_
          exact fin _ (by unfold t_fst; rw [if_neg f0, if_pos fl])
        · refine x_icmp_ne 55 dX6_sayPieces_46 (by decide) (fun _ => ?_) (fun z => absurd z (fun z => by rw [show nI cnt - 1 = nI (cnt - 1) from pk_sub (b := 1) (by omega)] at z; exact fl (by have := (nI_eq (by omega) (by omega)).mp z; omega)))
          refine x_iconst 0 dX6_sayPieces_55 (by decide) ?_
          refine x_iadd dX6_sayPieces_56 ?_
          exact fin _ (by unfold t_fst; rw [if_neg f0, if_neg fl])
  refine loop cnt 0 0 h [] rfl (by omega) ?_ k_same.rf
  rw [show t_pieces dr kd p cnt 0 = [] from rfl, List.append_nil]
  exact ht
/-- how large a piece is, how many there are -/
def t_pc (size : Int32) : Nat := if size = 0 then 100 else size.toNatClampNeg
def t_ct (L p : Nat) : Nat := if L = 0 then 1 else (L + p - 1) / p
theorem t_ct_ok {L p : Nat} (hp : 0 < p) (hL : L ≤ 100) : t_ct L p ≤ 100 + 1 ∧ ∀ f, f < t_ct L p → f * p ≤ L := by
  unfold t_ct
  by_cases h0 : L = 0
  · rw [if_pos h0]
    refine ⟨by omega, fun f hf => ?_⟩
    rw [show f = 0 by omega, Nat.zero_mul]
    omega
  · rw [if_neg h0]
    have hle : (L + p - 1) / p ≤ L := by
      refine Nat.div_le_of_le_mul ?_
      have : L + p ≤ p * L + 1 := by
        have h1 : (p - 1) * (L - 1) ≥ 0 := Nat.zero_le _
        obtain ⟨a, rfl⟩ : ∃ a, p = a + 1 := ⟨p - 1, by omega⟩
        obtain ⟨b, rfl⟩ : ∃ b, L = b + 1 := ⟨L - 1, by omega⟩
        rw [Nat.succ_mul, Nat.mul_succ]
        have : 0 ≤ a * b := Nat.zero_le _
        omega
      omega
    refine ⟨by omega, fun f hf => ?_⟩
    have h1 : f + 1 ≤ (L + p - 1) / p := hf
    have h2 := (Nat.le_div_iff_mul_le hp).mp h1
    rw [Nat.succ_mul] at h2
    omega
def a_send : z_S → Int32 → Int32 → z_A
  | (st, ec, dl, pg, rq, out, dr, R, w), kd, size =>
    if (kd = 1 ∨ kd = 2) ∧ ¬ size < 0 ∧ size ≤ 100 then
      (if kd = 1 ∧ z_txt dr = false then (1, 0, (st, ec, dl, pg, rq, out, dr, R, w))
       else if decide (st = 1) && decide (out.length + (t_ct dr.length (t_pc size) * 2 + dr.length) ≤ 400) then (0, nI (t_ct dr.length (t_pc size)), (st, ec, dl, pg, rq, out ++ t_pieces dr kd (t_pc size) (t_ct dr.length (t_pc size)) (t_ct dr.length (t_pc size)), dr, R, w))
       else (2, 0, (st, ec, dl, pg, rq, out, dr, R, w)))
    else (1, 0, (st, ec, dl, pg, rq, out, dr, R, w))
theorem sp_send {σ : z_S} (ht : k_tlk h A σ) (kd size : Int32) : q_SX G mX6_send [.ref (A 0), .int kd, .int size] h 1 6 (k_ret h A (a_send σ kd size)) (k_thr h A (a_send σ kd size) "java/lang/IllegalArgumentException" "java/lang/IllegalStateException") := by
  obtain ⟨st, ec, dl, pg, rq, out, dr, R, w⟩ := σ
  have hA := ht.1
  have o0 := ht.2.1
  have hl := ht.2.2.2.2.2.2.1.len
  have hne2 : A 21 ∉ [A 23] ∧ A 22 ∉ [A 23] := ⟨hA.no (I := [23]) (by decide), hA.no (I := [23]) (by decide)⟩
  dsimp only [a_send]
  refine q_enterX (M := mX6_send) (by decide +kernel) rfl (Nat.le_of_ble_eq_true rfl) ?_
  by_cases hk : (kd = 1 ∨ kd = 2) ∧ ¬ size < 0 ∧ size ≤ 100
  · rw [if_pos hk]
    obtain ⟨k12, hs0, hs1⟩ := hk
    obtain ⟨j, hj, ej⟩ := nI_of2 (n := 100) (M := 100) rfl hs0 hs1
    have hpc : 0 < t_pc size ∧ t_pc size ≤ 100 := by
      unfold t_pc
      by_cases hz : size = 0
      · rw [if_pos hz]; omega
      · rw [if_neg hz, ej, nI_clamp (by omega)]
        have : j ≠ 0 := fun z => hz (by rw [ej, z]; rfl)
        omega
    have hct := t_ct_ok (L := dr.length) hpc.1 (by omega)
    have h56 : ∀ (h1 : q_H), k_tlk h1 A (st, ec, dl, pg, rq, out, dr, R, w) → k_ext (k_cells A) h h1 → q_X G mX6_send (q_R mX6_send 1 6) (q_FX G (k_ret h A (if decide (st = 1) && decide (out.length + (t_ct dr.length (t_pc size) * 2 + dr.length) ≤ 400) then (0, nI (t_ct dr.length (t_pc size)), (st, ec, dl, pg, rq, out ++ t_pieces dr kd (t_pc size) (t_ct dr.length (t_pc size)) (t_ct dr.length (t_pc size)), dr, R, w)) else (2, 0, (st, ec, dl, pg, rq, out, dr, R, w)))) (k_thr h A (if decide (st = 1) && decide (out.length + (t_ct dr.length (t_pc size) * 2 + dr.length) ≤ 400) then (0, nI (t_ct dr.length (t_pc size)), (st, ec, dl, pg, rq, out ++ t_pieces dr kd (t_pc size) (t_ct dr.length (t_pc size)) (t_ct dr.length (t_pc size)), dr, R, w)) else (2, 0, (st, ec, dl, pg, rq, out, dr, R, w))) "java/lang/IllegalArgumentException" "java/lang/IllegalStateException") 1 6) 56 [(0, .ref (A 0)), (1, .int kd), (2, .int size)] [] h1 0 0 := by
      intro h1 t1 x1
      have o1 := t1.2.1
      have rd := t1.2.2.2.2.2.2.1
      have q1 := rd.o
      have h66 : q_X G mX6_send (q_R mX6_send 1 6) (q_FX G (k_ret h A (if decide (st = 1) && decide (out.length + (t_ct dr.length (t_pc size) * 2 + dr.length) ≤ 400) then (0, nI (t_ct dr.length (t_pc size)), (st, ec, dl, pg, rq, out ++ t_pieces dr kd (t_pc size) (t_ct dr.length (t_pc size)) (t_ct dr.length (t_pc size)), dr, R, w)) else (2, 0, (st, ec, dl, pg, rq, out, dr, R, w)))) (k_thr h A (if decide (st = 1) && decide (out.length + (t_ct dr.length (t_pc size) * 2 + dr.length) ≤ 400) then (0, nI (t_ct dr.length (t_pc size)), (st, ec, dl, pg, rq, out ++ t_pieces dr kd (t_pc size) (t_ct dr.length (t_pc size)) (t_ct dr.length (t_pc size)), dr, R, w)) else (2, 0, (st, ec, dl, pg, rq, out, dr, R, w))) "java/lang/IllegalArgumentException" "java/lang/IllegalStateException") 1 6) 66 [(0, .ref (A 0)), (1, .int kd), (2, .int size)] [.int (nI (t_pc size))] h1 0 0 := by
        have h94 : q_X G mX6_send (q_R mX6_send 1 6) (q_FX G (k_ret h A (if decide (st = 1) && decide (out.length + (t_ct dr.length (t_pc size) * 2 + dr.length) ≤ 400) then (0, nI (t_ct dr.length (t_pc size)), (st, ec, dl, pg, rq, out ++ t_pieces dr kd (t_pc size) (t_ct dr.length (t_pc size)) (t_ct dr.length (t_pc size)), dr, R, w)) else (2, 0, (st, ec, dl, pg, rq, out, dr, R, w)))) (k_thr h A (if decide (st = 1) && decide (out.length + (t_ct dr.length (t_pc size) * 2 + dr.length) ≤ 400) then (0, nI (t_ct dr.length (t_pc size)), (st, ec, dl, pg, rq, out ++ t_pieces dr kd (t_pc size) (t_ct dr.length (t_pc size)) (t_ct dr.length (t_pc size)), dr, R, w)) else (2, 0, (st, ec, dl, pg, rq, out, dr, R, w))) "java/lang/IllegalArgumentException" "java/lang/IllegalStateException") 1 6) 94 [(0, .ref (A 0)), (1, .int kd), (2, .int size), (3, .int (nI (t_pc size)))] [.int (nI (t_ct dr.length (t_pc size)))] h1 0 0 := by
          refine x_istore dX6_send_94 (by decide) rfl ?_
          refine x_aload_n 0 dX6_send_96 rfl (by first | rfl | assumption) ?_
          refine x_iload dX6_send_97 (by first | rfl | assumption) ?_
          refine x_iconst 2 dX6_send_99 (by decide) ?_
          refine x_imul dX6_send_100 ?_
          refine x_aload_n 0 dX6_send_101 rfl (by first | rfl | assumption) ?_
          refine gf_X6_send_39 dX6_send_102 (by first | assumption | exact va_up_self _ _ _) rfl ?_
          refine cl_X6_send_105 (sp_size rd) (by first | assumption | exact va_up_self _ _ _) (Nat.le_of_ble_eq_true rfl) ⟨Nat.le_of_ble_eq_true rfl, Nat.le_of_ble_eq_true rfl⟩ (fun r g hq => ?_)
          obtain ⟨rfl, hg⟩ := hq
          rw [hg]
          refine x_iadd dX6_send_108 ?_
          rw [show nI (t_ct dr.length (t_pc size)) * 2 + nI dr.length = nI (t_ct dr.length (t_pc size) * 2 + dr.length) from by rw [show (2 : Int32) = nI 2 from rfl, pk_mul, nI_add]]
          refine cl_X6_send_109 (sp_maySay t1 (x := t_ct dr.length (t_pc size) * 2 + dr.length) (by omega)) (by first | assumption | exact va_up_self _ _ _) (Nat.le_of_ble_eq_true rfl) ⟨Nat.le_of_ble_eq_true rfl, Nat.le_of_ble_eq_true rfl⟩ (fun r g hq => ?_)
          obtain ⟨rfl, hg⟩ := hq
          rw [hg]
          cases hm : (decide (st = 1) && decide (out.length + (t_ct dr.length (t_pc size) * 2 + dr.length) ≤ 400)) with
          | false =>
            refine x_if_ne 123 dX6_send_112 (by decide) (fun z => absurd (show z_b false = 0 from rfl) z) (fun _ => ?_)
            refine th_X6_send_115 (by decide) (by decide) (by decide) (by decide) (by decide) ?_
            exact ⟨Or.inr ⟨rfl, rfl⟩, t1, x1⟩
          | true =>
            rw [Bool.and_eq_true, decide_eq_true_eq, decide_eq_true_eq] at hm
            refine x_if_ne 123 dX6_send_112 (by decide) (fun _ => ?_) (fun z => absurd z (show ¬ z_b true = 0 by decide))
            refine x_aload_n 0 dX6_send_123 rfl (by first | rfl | assumption) ?_
            refine x_iload_n 1 dX6_send_124 rfl (by first | rfl | assumption) ?_
            refine x_iload_n 3 dX6_send_125 rfl (by first | rfl | assumption) ?_
            refine x_iload dX6_send_126 (by first | rfl | assumption) ?_
            refine cl_X6_send_128 (sp_sayPieces t1 kd hpc.2 (by omega) hct.2 (by omega)) (by first | assumption | exact va_up_self _ _ _) (Nat.le_of_ble_eq_true rfl) ⟨Nat.le_of_ble_eq_true rfl, Nat.le_of_ble_eq_true rfl⟩ (fun r g2 hq => ?_)
            obtain ⟨rfl, t2, s2⟩ := hq
            refine x_iload dX6_send_131 (by first | rfl | assumption) ?_
            refine x_fx ?_
            refine x_iret rfl rfl dX6_send_133 (by decide) (by decide) ?_
            exact ⟨⟨rfl, rfl⟩, t2, x1.tr (k_ext.of (s2.mono (k_sub24 (I := [19, 20]) (by decide))))⟩
        refine x_istore_n 3 dX6_send_66 rfl (by decide) rfl ?_
        refine x_aload_n 0 dX6_send_67 rfl (by first | rfl | assumption) ?_
        refine gf_X6_send_39 dX6_send_68 (by first | assumption | exact va_up_self _ _ _) rfl ?_
        refine cl_X6_send_71 (sp_size rd) (by first | assumption | exact va_up_self _ _ _) (Nat.le_of_ble_eq_true rfl) ⟨Nat.le_of_ble_eq_true rfl, Nat.le_of_ble_eq_true rfl⟩ (fun r g hq => ?_)
        obtain ⟨rfl, hg⟩ := hq
        rw [hg]
        by_cases hd0 : dr.length = 0
        · refine x_if_ne 81 dX6_send_74 (by decide) (fun z => absurd (by rw [hd0]; rfl) z) (fun _ => ?_)
          refine x_iconst 1 dX6_send_77 (by decide) ?_
          refine x_goto 94 dX6_send_78 (by decide) ?_
          have e : t_ct dr.length (t_pc size) = 1 := if_pos hd0
          rw [e] at h94 ⊢
          exact h94
        · refine x_if_ne 81 dX6_send_74 (by decide) (fun _ => ?_) (fun z => absurd z (nI_ne0 (by omega) (by omega)))
          refine x_aload_n 0 dX6_send_81 rfl (by first | rfl | assumption) ?_
          refine gf_X6_send_39 dX6_send_82 (by first | assumption | exact va_up_self _ _ _) rfl ?_
          refine cl_X6_send_85 (sp_size rd) (by first | assumption | exact va_up_self _ _ _) (Nat.le_of_ble_eq_true rfl) ⟨Nat.le_of_ble_eq_true rfl, Nat.le_of_ble_eq_true rfl⟩ (fun r g hq => ?_)
          obtain ⟨rfl, hg⟩ := hq
          rw [hg]
          refine x_iload_n 3 dX6_send_88 rfl (by first | rfl | assumption) ?_
          refine x_iadd dX6_send_89 ?_
          refine x_iconst 1 dX6_send_90 (by decide) ?_
          refine x_isub dX6_send_91 ?_
          refine x_iload_n 3 dX6_send_92 rfl (by first | rfl | assumption) ?_
          rw [nI_add, show nI (dr.length + t_pc size) - 1 = nI (dr.length + t_pc size - 1) from pk_sub (b := 1) (by omega)]
          refine x_idiv dX6_send_93 (nI_ne0 hpc.1 (by omega)) ?_
          rw [pk_div (by omega) hpc.1 (by omega)]
          have e : t_ct dr.length (t_pc size) = (dr.length + t_pc size - 1) / t_pc size := if_neg hd0
          rw [← e]
          exact h94
      refine x_iload_n 2 dX6_send_56 rfl (by first | rfl | assumption) ?_
      by_cases hz : size = 0
      · refine x_if_ne 65 dX6_send_57 (by decide) (fun z => absurd hz z) (fun _ => ?_)
        refine x_bipush 100 dX6_send_60 (by decide) ?_
        refine x_goto 66 dX6_send_62 (by decide) ?_
        have e : t_pc size = 100 := if_pos hz
        have h66' := h66
        rw [e] at h66' ⊢
        exact h66'
      · refine x_if_ne 65 dX6_send_57 (by decide) (fun _ => ?_) (fun z => absurd z hz)
        refine x_iload_n 2 dX6_send_65 rfl (by first | rfl | assumption) ?_
        have e : nI (t_pc size) = size := by
          unfold t_pc
          rw [if_neg hz, ej, nI_clamp (by omega)]
        have h66' := h66
        rw [e] at h66'
        exact h66'
    have h10 : q_X G mX6_send (q_R mX6_send 1 6) (q_FX G (k_ret h A (if kd = 1 ∧ z_txt dr = false then (1, 0, (st, ec, dl, pg, rq, out, dr, R, w)) else if decide (st = 1) && decide (out.length + (t_ct dr.length (t_pc size) * 2 + dr.length) ≤ 400) then (0, nI (t_ct dr.length (t_pc size)), (st, ec, dl, pg, rq, out ++ t_pieces dr kd (t_pc size) (t_ct dr.length (t_pc size)) (t_ct dr.length (t_pc size)), dr, R, w)) else (2, 0, (st, ec, dl, pg, rq, out, dr, R, w)))) (k_thr h A (if kd = 1 ∧ z_txt dr = false then (1, 0, (st, ec, dl, pg, rq, out, dr, R, w)) else if decide (st = 1) && decide (out.length + (t_ct dr.length (t_pc size) * 2 + dr.length) ≤ 400) then (0, nI (t_ct dr.length (t_pc size)), (st, ec, dl, pg, rq, out ++ t_pieces dr kd (t_pc size) (t_ct dr.length (t_pc size)) (t_ct dr.length (t_pc size)), dr, R, w)) else (2, 0, (st, ec, dl, pg, rq, out, dr, R, w))) "java/lang/IllegalArgumentException" "java/lang/IllegalStateException") 1 6) 10 [(0, .ref (A 0)), (1, .int kd), (2, .int size)] [] h 0 0 := by
      refine x_iload_n 2 dX6_send_10 rfl (by first | rfl | assumption) ?_
      refine x_if_lt 20 dX6_send_11 (by decide) (fun z => absurd z hs0) (fun _ => ?_)
      refine x_iload_n 2 dX6_send_14 rfl (by first | rfl | assumption) ?_
      refine x_bipush 100 dX6_send_15 (by decide) ?_
      refine x_icmp_le 28 dX6_send_17 (by decide) (fun _ => ?_) (fun z => absurd hs1 z)
      refine x_iload_n 1 dX6_send_28 rfl (by first | rfl | assumption) ?_
      refine x_iconst 1 dX6_send_29 (by decide) ?_
      refine x_icmp_ne 56 dX6_send_30 (by decide) (fun c30 => ?_) (fun c30 => ?_)
      · rw [if_neg (fun z => c30 z.1)]
        exact h56 h ht k_ext.rf
      · have rd := ht.2.2.2.2.2.2.1
        have q1 := rd.o
        obtain ⟨c0, hc⟩ := ht.2.2.2.2.2.2.2
        have qc : ∃ fs, h (A 23) = some (k_ob 4 fs) := ⟨_, hc⟩
        obtain ⟨fsc, qc⟩ := qc
        refine x_aload_n 0 dX6_send_33 rfl (by first | rfl | assumption) ?_
        refine gf_X6_send_45 dX6_send_34 (by first | assumption | exact va_up_self _ _ _) rfl ?_
        refine x_aload_n 0 dX6_send_37 rfl (by first | rfl | assumption) ?_
        refine gf_X6_send_39 dX6_send_38 (by first | assumption | exact va_up_self _ _ _) rfl ?_
        refine x_iconst 0 dX6_send_41 (by decide) ?_
        refine cl_X6_send_42 (sp_isText hc rd hne2 (p := 0) (by omega)) (by first | assumption | exact va_up_self _ _ _) (Nat.le_of_ble_eq_true rfl) ⟨Nat.le_of_ble_eq_true rfl, Nat.le_of_ble_eq_true rfl⟩ (fun r g1 hq => ?_)
        obtain ⟨rfl, ⟨c1, hc1⟩, s1⟩ := hq
        have t1 := ht.toChk hc1 s1
        have x1 : k_ext (k_cells A) h g1 := k_ext.of (s1.mono (k_sub24 (I := [23]) (by decide)))
        rw [List.drop_zero]
        cases hz : z_txt dr with
        | false =>
          rw [if_pos ⟨c30, rfl⟩]
          refine x_if_ne 56 dX6_send_45 (by decide) (fun z => absurd rfl z) (fun _ => ?_)
          refine th_X6_send_48 (by decide) (by decide) (by decide) (by decide) (by decide) ?_
          exact ⟨Or.inl ⟨rfl, rfl⟩, t1, x1⟩
        | true =>
          rw [if_neg (fun z => by cases z.2)]
          refine x_if_ne 56 dX6_send_45 (by decide) (fun _ => ?_) (fun z => absurd z (by decide))
          exact h56 g1 t1 x1
    refine x_iload_n 1 dX6_send_0 rfl (by first | rfl | assumption) ?_
    refine x_iconst 1 dX6_send_1 (by decide) ?_
    refine x_icmp_eq 10 dX6_send_2 (by decide) (fun c2 => ?_) (fun c2 => ?_)
    · exact h10
    · refine x_iload_n 1 dX6_send_5 rfl (by first | rfl | assumption) ?_
      refine x_iconst 2 dX6_send_6 (by decide) ?_
      refine x_icmp_ne 20 dX6_send_7 (by decide) (fun z => absurd (k12.resolve_left c2) z) (fun _ => ?_)
      exact h10
  · rw [if_neg hk]
    have h20 : q_X G mX6_send (q_R mX6_send 1 6) (q_FX G (k_ret h A (1, 0, (st, ec, dl, pg, rq, out, dr, R, w))) (k_thr h A (1, 0, (st, ec, dl, pg, rq, out, dr, R, w)) "java/lang/IllegalArgumentException" "java/lang/IllegalStateException") 1 6) 20 [(0, .ref (A 0)), (1, .int kd), (2, .int size)] [] h 0 0 := by
      refine th_X6_send_20 (by decide) (by decide) (by decide) (by decide) (by decide) ?_
      exact ⟨Or.inl ⟨rfl, rfl⟩, ht, k_ext.rf⟩
    have h10 : (kd = 1 ∨ kd = 2) → q_X G mX6_send (q_R mX6_send 1 6) (q_FX G (k_ret h A (1, 0, (st, ec, dl, pg, rq, out, dr, R, w))) (k_thr h A (1, 0, (st, ec, dl, pg, rq, out, dr, R, w)) "java/lang/IllegalArgumentException" "java/lang/IllegalStateException") 1 6) 10 [(0, .ref (A 0)), (1, .int kd), (2, .int size)] [] h 0 0 := by
      intro k12
      refine x_iload_n 2 dX6_send_10 rfl (by first | rfl | assumption) ?_
      refine x_if_lt 20 dX6_send_11 (by decide) (fun c11 => ?_) (fun c11 => ?_)
      · exact h20
      · refine x_iload_n 2 dX6_send_14 rfl (by first | rfl | assumption) ?_
        refine x_bipush 100 dX6_send_15 (by decide) ?_
        refine x_icmp_le 28 dX6_send_17 (by decide) (fun z => absurd z (fun z => hk ⟨k12, c11, z⟩)) (fun _ => ?_)
        exact h20
    refine x_iload_n 1 dX6_send_0 rfl (by first | rfl | assumption) ?_
    refine x_iconst 1 dX6_send_1 (by decide) ?_
    refine x_icmp_eq 10 dX6_send_2 (by decide) (fun c2 => ?_) (fun c2 => ?_)
    · exact h10 (Or.inl c2)
    · refine x_iload_n 1 dX6_send_5 rfl (by first | rfl | assumption) ?_
      refine x_iconst 2 dX6_send_6 (by decide) ?_
      refine x_icmp_ne 20 dX6_send_7 (by decide) (fun c7 => ?_) (fun c7 => ?_)
      · exact h20
      · exact h10 (Or.inr c7)
end TlkI
