def kX2_holdsRow (S : SX) (L : LX) (v1 : Int32) (post : Int32 → Prop) : Prop :=
    vp_in v1 4 ∧ (((S 50 v1.toNatClampNeg) = (-1 : Int32) →
      post (0 : Int32)) ∧
    (¬ (S 50 v1.toNatClampNeg) = (-1 : Int32) →
      post (1 : Int32)))
def kX2_hold_b17 (L : LX) (v1 : Int32) (v2 : Int32) (v3 : Int32) (post : SX → Prop) : Nat → Int32 → SX → Prop
  | 0, _, _ => False
  | n + 1, v4, S =>
    (((24 : Int32) ≤ v4 →
      post S) ∧
    (¬ (24 : Int32) ≤ v4 →
      vp_in ((v1 * (24 : Int32)) + v4) 96 ∧ (kX2_hold_b17 L v1 v2 v3 post n) (v4 + (1 : Int32)) (xu S 52 ((v1 * (24 : Int32)) + v4).toNatClampNeg (0 : Int32))))
def kX2_hold (S : SX) (L : LX) (v1 : Int32) (v2 : Int32) (v3 : Int32) (post : SX → Prop) : Prop :=
    vp_in v1 4 ∧ vp_in v1 4 ∧ ∃ n17 : Nat, kX2_hold_b17 L v1 v2 v3 post n17 (0 : Int32) (xu (xu S 50 v1.toNatClampNeg v2) 51 v1.toNatClampNeg v3)
def kX2_holdNothing (S : SX) (L : LX) (v1 : Int32) (post : SX → Prop) : Prop :=
    vp_in v1 4 ∧ vp_in v1 4 ∧ post (xu (xu S 50 v1.toNatClampNeg (-1 : Int32)) 51 v1.toNatClampNeg (0 : Int32))
def kX2_hasItems (S : SX) (L : LX) (v1 : Int32) (v2 : Int32) (v3 : Int32) (post : Int32 → Prop) : Prop :=
    ((v2 < 0 →
      post (0 : Int32)) ∧
    (¬ v2 < 0 →
      ((v3 < 0 →
        post (0 : Int32)) ∧
      (¬ v3 < 0 →
        vp_in v1 4 ∧ ((((S 51 v1.toNatClampNeg) - v3) < v2 →
          post (0 : Int32)) ∧
        (¬ ((S 51 v1.toNatClampNeg) - v3) < v2 →
          post (1 : Int32)))))))
def kX2_refusal (S : SX) (L : LX) (v1 : Int32) (v2 : Int32) (v3 : Int32) (v4 : Int32) (post : Int32 → Prop) : Prop :=
    kX2_holdsRow S L v1 (fun r2 =>
    ((r2 = 0 →
      post (-11 : Int32)) ∧
    (¬ r2 = 0 →
      vp_in v1 4 ∧ (((S 50 v1.toNatClampNeg) = v2 →
        kX2_hasItems S L v1 v3 v4 (fun r29 =>
        ((r29 = 0 →
          post (-13 : Int32)) ∧
        (¬ r29 = 0 →
          post (0 : Int32))))) ∧
      (¬ (S 50 v1.toNatClampNeg) = v2 →
        post (-12 : Int32))))))
def kX2_at (S : SX) (L : LX) (v1 : Int32) (v2 : Int32) (post : Int32 → Prop) : Prop :=
    kX2_hasItems S L v1 v2 (1 : Int32) (fun r4 =>
    ((r4 = 0 →
      post (0 : Int32)) ∧
    (¬ r4 = 0 →
      vp_in ((v1 * (24 : Int32)) + v2) 96 ∧ post (S 52 ((v1 * (24 : Int32)) + v2).toNatClampNeg))))
def kX2_narrowed (S : SX) (L : LX) (v0 : Int32) (v1 : Int32) (post : Int32 → Prop) : Prop :=
    (
    (v0 = (0 : Int32) →
      post v1.toInt8.toInt32) ∧
    (v0 = (1 : Int32) →
      post v1.toInt16.toInt32) ∧
    (¬ v0 = (0 : Int32) → ¬ v0 = (1 : Int32) →
      post v1))
def kX2_put (S : SX) (L : LX) (v1 : Int32) (v2 : Int32) (v3 : Int32) (post : SX → Prop) : Prop :=
    kX2_hasItems S L v1 v2 (1 : Int32) (fun r4 =>
    ((r4 = 0 →
      post S) ∧
    (¬ r4 = 0 →
      vp_in v1 4 ∧ kX2_narrowed S L (S 50 v1.toNatClampNeg) v3 (fun r27 =>
      vp_in ((v1 * (24 : Int32)) + v2) 96 ∧ post (xu S 52 ((v1 * (24 : Int32)) + v2).toNatClampNeg r27)))))
def kX2_move (S : SX) (L : LX) (v1 : Int32) (v2 : Int32) (v3 : Int32) (v4 : Int32) (v5 : Int32) (post : SX → Prop) : Prop :=
    (¬ ((v1 * (24 : Int32)) + v2) < 0 ∧ ¬ ((v3 * (24 : Int32)) + v4) < 0 ∧ ¬ v5 < 0 ∧ ((v1 * (24 : Int32)) + v2).toNatClampNeg + v5.toNatClampNeg ≤ 96 ∧ ((v3 * (24 : Int32)) + v4).toNatClampNeg + v5.toNatClampNeg ≤ 96) ∧ post (xcp S 52 52 ((v1 * (24 : Int32)) + v2).toNatClampNeg ((v3 * (24 : Int32)) + v4).toNatClampNeg v5.toNatClampNeg)
def kX5_seen_b48 (S : SX) (L : LX) (v1 : Int32) (v2 : Int32) (v3 : Int32) (post : Int32 → Prop) : Nat → Int32 → Int32 → Prop
  | 0, _, _ => False
  | n + 1, v4, v5 =>
    (((4 : Int32) ≤ v5 →
      post v4) ∧
    (¬ (4 : Int32) ≤ v5 →
      ((((v3 >>> ((v5 - (1 : Int32)) &&& 31)) &&& (1 : Int32)) = (1 : Int32) →
        vp_in ((v1 * (4 : Int32)) + v5) 96 ∧ (kX5_seen_b48 S L v1 v2 v3 post n) (v4 + (S 12 ((v1 * (4 : Int32)) + v5).toNatClampNeg)) (v5 + (1 : Int32))) ∧
      (¬ ((v3 >>> ((v5 - (1 : Int32)) &&& 31)) &&& (1 : Int32)) = (1 : Int32) →
        (kX5_seen_b48 S L v1 v2 v3 post n) v4 (v5 + (1 : Int32))))))
def kX5_seen_b32 (S : SX) (L : LX) (v1 : Int32) (v2 : Int32) (post : Int32 → Prop) (v3 : Int32) : Prop :=
    vp_in (v1 * (4 : Int32)) 96 ∧ ∃ n48 : Nat, kX5_seen_b48 S L v1 v2 v3 post n48 (S 12 (v1 * (4 : Int32)).toNatClampNeg) (1 : Int32)
def kX5_seen (S : SX) (L : LX) (v1 : Int32) (v2 : Int32) (post : Int32 → Prop) : Prop :=
    vp_in v2 8 ∧ vp_in v1 24 ∧ (((S 11 v1.toNatClampNeg) = (1 : Int32) →
      ((((S 7 v2.toNatClampNeg) &&& (8 : Int32)) = 0 →
        post (0 : Int32)) ∧
      (¬ ((S 7 v2.toNatClampNeg) &&& (8 : Int32)) = 0 →
        kX5_seen_b32 S L v1 v2 post (S 7 v2.toNatClampNeg)))) ∧
    (¬ (S 11 v1.toNatClampNeg) = (1 : Int32) →
      kX5_seen_b32 S L v1 v2 post (S 7 v2.toNatClampNeg)))
def kX5_sworn (S : SX) (L : LX) (v1 : Int32) (v2 : Int32) (post : Int32 → Prop) : Prop :=
    kX5_seen S L v1 v2 (fun r3 =>
    vp_in v2 8 ∧ (((S 5 v2.toNatClampNeg) ≤ 0 →
      post r3) ∧
    (¬ (S 5 v2.toNatClampNeg) ≤ 0 →
      ((r3 ≤ (S 5 v2.toNatClampNeg) →
        post r3) ∧
      (¬ r3 ≤ (S 5 v2.toNatClampNeg) →
        vp_in v2 8 ∧ (((S 6 v2.toNatClampNeg) < (r3 - (S 5 v2.toNatClampNeg)) →
          post r3) ∧
        (¬ (S 6 v2.toNatClampNeg) < (r3 - (S 5 v2.toNatClampNeg)) →
          post (S 5 v2.toNatClampNeg))))))))
def kX5_isInBook (S : SX) (L : LX) (v1 : Int32) (v2 : Int32) (post : Int32 → Prop) : Prop :=
    kX5_sworn S L v1 v2 (fun r3 =>
    ((r3 ≤ 0 →
      post (0 : Int32)) ∧
    (¬ r3 ≤ 0 →
      vp_in v2 8 ∧ ((r3 < (S 4 v2.toNatClampNeg) →
        post (0 : Int32)) ∧
      (¬ r3 < (S 4 v2.toNatClampNeg) →
        post (1 : Int32))))))
def kX5_isRich (S : SX) (L : LX) (v1 : Int32) (v2 : Int32) (post : Int32 → Prop) : Prop :=
    kX5_sworn S L v1 v2 (fun r3 =>
    ((r3 < (S 1 0) →
      post (0 : Int32)) ∧
    (¬ r3 < (S 1 0) →
      post (1 : Int32))))
def kX5_weight (S : SX) (L : LX) (v1 : Int32) (v2 : Int32) (post : Int32 → Prop) : Prop :=
    kX5_isRich S L v1 v2 (fun r3 =>
    ((r3 = 0 →
      vp_in v1 24 ∧ vp_in (S 10 v1.toNatClampNeg) 6 ∧ post ((100 : Int32) * (S 2 (S 10 v1.toNatClampNeg).toNatClampNeg))) ∧
    (¬ r3 = 0 →
      vp_in v1 24 ∧ vp_in (S 10 v1.toNatClampNeg) 6 ∧ post (((100 : Int32) + (S 1 1)) * (S 2 (S 10 v1.toNatClampNeg).toNatClampNeg)))))
def kX5_kind (S : SX) (L : LX) (v1 : Int32) (post : Int32 → Prop) : Prop :=
    vp_in v1 24 ∧ kX5_isInBook S L v1 (S 9 v1.toNatClampNeg) (fun r13 =>
    ((r13 = 0 →
      post (1 : Int32)) ∧
    (¬ r13 = 0 →
      kX5_sworn S L v1 (S 9 v1.toNatClampNeg) (fun r24 =>
      kX5_seen S L v1 (S 9 v1.toNatClampNeg) (fun r30 =>
      ((r24 = r30 →
        kX5_isRich S L v1 (S 9 v1.toNatClampNeg) (fun r41 =>
        ((r41 = 0 →
          post (0 : Int32)) ∧
        (¬ r41 = 0 →
          post (3 : Int32))))) ∧
      (¬ r24 = r30 →
        post (2 : Int32))))))))
def kX5_howManyOfKind_b4 (S : SX) (L : LX) (v1 : Int32) (post : Int32 → Prop) : Nat → Int32 → Int32 → Prop
  | 0, _, _ => False
  | n + 1, v2, v3 =>
    (((S 8 0) ≤ v3 →
      post v2) ∧
    (¬ (S 8 0) ≤ v3 →
      kX5_kind S L v3 (fun r17 =>
      ((r17 = v1 →
        (kX5_howManyOfKind_b4 S L v1 post n) (v2 + (1 : Int32)) (v3 + (1 : Int32))) ∧
      (¬ r17 = v1 →
        (kX5_howManyOfKind_b4 S L v1 post n) v2 (v3 + (1 : Int32)))))))
def kX5_howManyOfKind (S : SX) (L : LX) (v1 : Int32) (post : Int32 → Prop) : Prop :=
    ∃ n4 : Nat, kX5_howManyOfKind_b4 S L v1 post n4 (0 : Int32) (0 : Int32)
def kX5_howManyInBook_b4 (S : SX) (L : LX) (v1 : Int32) (post : Int32 → Prop) : Nat → Int32 → Int32 → Prop
  | 0, _, _ => False
  | n + 1, v2, v3 =>
    (((S 8 0) ≤ v3 →
      post v2) ∧
    (¬ (S 8 0) ≤ v3 →
      vp_in v3 24 ∧ (((S 9 v3.toNatClampNeg) = v1 →
        kX5_isInBook S L v3 v1 (fun r31 =>
        ((r31 = 0 →
          (kX5_howManyInBook_b4 S L v1 post n) v2 (v3 + (1 : Int32))) ∧
        (¬ r31 = 0 →
          (kX5_howManyInBook_b4 S L v1 post n) (v2 + (1 : Int32)) (v3 + (1 : Int32)))))) ∧
      (¬ (S 9 v3.toNatClampNeg) = v1 →
        (kX5_howManyInBook_b4 S L v1 post n) v2 (v3 + (1 : Int32))))))
def kX5_howManyInBook (S : SX) (L : LX) (v1 : Int32) (post : Int32 → Prop) : Prop :=
    ∃ n4 : Nat, kX5_howManyInBook_b4 S L v1 post n4 (0 : Int32) (0 : Int32)
def kX6_isWithin (S : SX) (L : LX) (v0 : Int64) (v2 : Int64) (v4 : Int64) (post : Int32 → Prop) : Prop :=
    ((v0 < v2 →
      post (0 : Int32)) ∧
    (¬ v0 < v2 →
      ((v4 < v0 →
        post (0 : Int32)) ∧
      (¬ v4 < v0 →
        post (1 : Int32)))))
def kX5_howManyNearLine_b6 (S : SX) (L : LX) (v1 : Int32) (v2 : Int32) (v3 : Int32) (post : Int32 → Prop) : Nat → Int32 → Int32 → Prop
  | 0, _, _ => False
  | n + 1, v4, v5 =>
    (((S 8 0) ≤ v5 →
      post v4) ∧
    (¬ (S 8 0) ≤ v5 →
      vp_in v5 24 ∧ vp_in (S 9 v5.toNatClampNeg) 8 ∧ ((((v1 >>> ((S 9 v5.toNatClampNeg) &&& 31)) &&& (1 : Int32)) = (1 : Int32) →
        (((S 5 (S 9 v5.toNatClampNeg).toNatClampNeg) ≤ 0 →
          (kX5_howManyNearLine_b6 S L v1 v2 v3 post n) v4 (v5 + (1 : Int32))) ∧
        (¬ (S 5 (S 9 v5.toNatClampNeg).toNatClampNeg) ≤ 0 →
          kX5_sworn S L v5 (S 9 v5.toNatClampNeg) (fun r62 =>
          kX6_isWithin S L ((r62 - (S 5 (S 9 v5.toNatClampNeg).toNatClampNeg)).toInt64) v2.toInt64 v3.toInt64 (fun r73 =>
          ((r73 = 0 →
            (kX5_howManyNearLine_b6 S L v1 v2 v3 post n) v4 (v5 + (1 : Int32))) ∧
          (¬ r73 = 0 →
            (kX5_howManyNearLine_b6 S L v1 v2 v3 post n) (v4 + (1 : Int32)) (v5 + (1 : Int32))))))))) ∧
      (¬ ((v1 >>> ((S 9 v5.toNatClampNeg) &&& 31)) &&& (1 : Int32)) = (1 : Int32) →
        (kX5_howManyNearLine_b6 S L v1 v2 v3 post n) v4 (v5 + (1 : Int32))))))
def kX5_howManyNearLine (S : SX) (L : LX) (v1 : Int32) (v2 : Int32) (v3 : Int32) (post : Int32 → Prop) : Prop :=
    ∃ n6 : Nat, kX5_howManyNearLine_b6 S L v1 v2 v3 post n6 (0 : Int32) (0 : Int32)
def kX5_sumSworn_b5 (S : SX) (L : LX) (v1 : Int32) (v2 : Int32) (post : Int64 → Prop) : Nat → Int64 → Int32 → Prop
  | 0, _, _ => False
  | n + 1, v3, v5 =>
    (((S 8 0) ≤ v5 →
      post v3) ∧
    (¬ (S 8 0) ≤ v5 →
      vp_in v5 24 ∧ (((S 9 v5.toNatClampNeg) = v1 →
        kX5_isInBook S L v5 v2 (fun r35 =>
        ((r35 = 0 →
          (kX5_sumSworn_b5 S L v1 v2 post n) v3 (v5 + (1 : Int32))) ∧
        (¬ r35 = 0 →
          kX5_sworn S L v5 v2 (fun r46 =>
          kX5_weight S L v5 v2 (fun r54 =>
          (kX5_sumSworn_b5 S L v1 v2 post n) (v3 + (r46.toInt64 * r54.toInt64)) (v5 + (1 : Int32)))))))) ∧
      (¬ (S 9 v5.toNatClampNeg) = v1 →
        (kX5_sumSworn_b5 S L v1 v2 post n) v3 (v5 + (1 : Int32))))))
def kX5_sumSworn (S : SX) (L : LX) (v1 : Int32) (v2 : Int32) (post : Int64 → Prop) : Prop :=
    ∃ n5 : Nat, kX5_sumSworn_b5 S L v1 v2 post n5 (0 : Int64) (0 : Int32)
def kX5_allHad_b4 (S : SX) (L : LX) (v1 : Int32) (post : Int32 → Prop) : Nat → Int32 → Int32 → Prop
  | 0, _, _ => False
  | n + 1, v2, v3 =>
    (((4 : Int32) ≤ v3 →
      post v2) ∧
    (¬ (4 : Int32) ≤ v3 →
      vp_in ((v1 * (4 : Int32)) + v3) 96 ∧ (kX5_allHad_b4 S L v1 post n) (v2 + (S 12 ((v1 * (4 : Int32)) + v3).toNatClampNeg)) (v3 + (1 : Int32))))
def kX5_allHad (S : SX) (L : LX) (v1 : Int32) (post : Int32 → Prop) : Prop :=
    ∃ n4 : Nat, kX5_allHad_b4 S L v1 post n4 (0 : Int32) (0 : Int32)
def kX5_sumUnseen_b69 (S : SX) (L : LX) (v1 : Int32) (post : Int64 → Prop) (K5 : Int64 → Int32 → Prop) (v2 : Int64) (v4 : Int32) (z0 : Int32) : Prop :=
    kX5_allHad S L v4 (fun r75 =>
    kX5_sworn S L v4 v1 (fun r82 =>
    K5 (v2 + (((r75 - r82).toInt64) * z0.toInt64)) (v4 + (1 : Int32))))
def kX5_sumUnseen_b5 (S : SX) (L : LX) (v1 : Int32) (post : Int64 → Prop) : Nat → Int64 → Int32 → Prop
  | 0, _, _ => False
  | n + 1, v2, v4 =>
    (((S 8 0) ≤ v4 →
      post v2) ∧
    (¬ (S 8 0) ≤ v4 →
      vp_in v4 24 ∧ (((S 9 v4.toNatClampNeg) = v1 →
        kX5_isInBook S L v4 v1 (fun r35 =>
        ((r35 = 0 →
          vp_in v4 24 ∧ vp_in (S 10 v4.toNatClampNeg) 6 ∧ kX5_sumUnseen_b69 S L v1 post (kX5_sumUnseen_b5 S L v1 post n) v2 v4 ((100 : Int32) * (S 2 (S 10 v4.toNatClampNeg).toNatClampNeg))) ∧
        (¬ r35 = 0 →
          kX5_weight S L v4 v1 (fun r45 =>
          kX5_sumUnseen_b69 S L v1 post (kX5_sumUnseen_b5 S L v1 post n) v2 v4 r45))))) ∧
      (¬ (S 9 v4.toNatClampNeg) = v1 →
        (kX5_sumUnseen_b5 S L v1 post n) v2 (v4 + (1 : Int32))))))
def kX5_sumUnseen (S : SX) (L : LX) (v1 : Int32) (post : Int64 → Prop) : Prop :=
    ∃ n5 : Nat, kX5_sumUnseen_b5 S L v1 post n5 (0 : Int64) (0 : Int32)
def kX5_isFighting (S : SX) (L : LX) (v1 : Int32) (post : Int32 → Prop) : Prop :=
    kX5_sumSworn S L v1 v1 (fun r3 =>
    vp_in v1 8 ∧ (((L 16 v1.toNatClampNeg) < r3 →
      post (1 : Int32)) ∧
    (¬ (L 16 v1.toNatClampNeg) < r3 →
      vp_in v1 8 ∧ kX5_sumUnseen S L v1 (fun r27 =>
      (((L 15 v1.toNatClampNeg) ≤ (r3 + r27) →
        post (0 : Int32)) ∧
      (¬ (L 15 v1.toNatClampNeg) ≤ (r3 + r27) →
        post (1 : Int32)))))))
def kX5_topRoom (S : SX) (L : LX) (v1 : Int32) (v2 : Int32) (post : Int64 → Prop) : Prop :=
    vp_in v1 8 ∧ post (v2.toInt64 * ((S 13 v1.toNatClampNeg).toInt64))
def kX6_lives (S : SX) (L : LX) (v1 : Int32) (v2 : Int32) (post : Int32 → SX → Prop) : Prop :=
    kX6_isWithin S L v1.toInt64 (0 : Int64) (5 : Int64) (fun r6 =>
    ((r6 = 0 →
      post (-1 : Int32) S) ∧
    (¬ r6 = 0 →
      kX6_isWithin S L v2.toInt64 (1 : Int64) (400 : Int64) (fun r18 =>
      ((r18 = 0 →
        post (-1 : Int32) S) ∧
      (¬ r18 = 0 →
        vp_in v1 6 ∧ vp_in v1 6 ∧ post (S 2 v1.toNatClampNeg) (xu S 2 v1.toNatClampNeg v2)))))))
def kX6_set_b34 (L : LX) (v1 : Int32) (v2 : Int32) (post : Int32 → SX → Prop) (S : SX) : Prop :=
    ((v1 = (1 : Int32) →
      kX6_isWithin S L v2.toInt64 (0 : Int64) (100 : Int64) (fun r45 =>
      ((r45 = 0 →
        post (-1 : Int32) S) ∧
      (¬ r45 = 0 →
        post (S 1 1) (xu S 1 1 v2))))) ∧
    (¬ v1 = (1 : Int32) →
      post (-1 : Int32) S))
def kX6_set (S : SX) (L : LX) (v1 : Int32) (v2 : Int32) (post : Int32 → SX → Prop) : Prop :=
    ((v1 = 0 →
      kX6_isWithin S L v2.toInt64 (0 : Int64) (99999 : Int64) (fun r10 =>
      ((r10 = 0 →
        kX6_set_b34 L v1 v2 post S) ∧
      (¬ r10 = 0 →
        post (S 1 0) (xu S 1 0 v2))))) ∧
    (¬ v1 = 0 →
      kX6_set_b34 L v1 v2 post S))
def kX6_isYear (S : SX) (L : LX) (v0 : Int32) (post : Int32 → Prop) : Prop :=
    kX6_isWithin S L v0.toInt64 (0 : Int64) (7 : Int64) (fun r6 =>
    (r6 = 0 ∨ r6 = 1) ∧ post r6)
def kX4_hasRoomFor_8 (S : SX) (L : LX) (v1 : Int32) (post : Int32 → Prop) : Prop :=
    ((((24 : Int32) - (S 8 0)) < v1 →
      post (0 : Int32)) ∧
    (¬ ((24 : Int32) - (S 8 0)) < v1 →
      post (1 : Int32)))
def kX4_add_8_b55 (L : LX) (v1 : Int32) (v2 : Int32) (v3 : Int32) (v4 : Int32) (post : SX → Prop) : Nat → Int32 → SX → Prop
  | 0, _, _ => False
  | n + 1, v5, S =>
    (((4 : Int32) ≤ v5 →
      post (xu S 8 0 ((S 8 0) + (1 : Int32)))) ∧
    (¬ (4 : Int32) ≤ v5 →
      vp_in (((S 8 0) * (4 : Int32)) + v5) 96 ∧ (kX4_add_8_b55 L v1 v2 v3 v4 post n) (v5 + (1 : Int32)) (xu S 12 (((S 8 0) * (4 : Int32)) + v5).toNatClampNeg (0 : Int32))))
def kX4_add_8 (S : SX) (L : LX) (v1 : Int32) (v2 : Int32) (v3 : Int32) (v4 : Int32) (post : SX → Prop) : Prop :=
    kX4_hasRoomFor_8 S L (1 : Int32) (fun r2 =>
    ((r2 = 0 →
      post S) ∧
    (¬ r2 = 0 →
      vp_in (S 8 0) 24 ∧ vp_in ((xu S 9 (S 8 0).toNatClampNeg v1) 8 0) 24 ∧ vp_in ((xu (xu S 9 (S 8 0).toNatClampNeg v1) 10 ((xu S 9 (S 8 0).toNatClampNeg v1) 8 0).toNatClampNeg v2) 8 0) 24 ∧ vp_in (((xu (xu (xu S 9 (S 8 0).toNatClampNeg v1) 10 ((xu S 9 (S 8 0).toNatClampNeg v1) 8 0).toNatClampNeg v2) 11 ((xu (xu S 9 (S 8 0).toNatClampNeg v1) 10 ((xu S 9 (S 8 0).toNatClampNeg v1) 8 0).toNatClampNeg v2) 8 0).toNatClampNeg v3) 8 0) * (4 : Int32)) 96 ∧ ∃ n55 : Nat, kX4_add_8_b55 L v1 v2 v3 v4 post n55 (1 : Int32) (xu (xu (xu (xu S 9 (S 8 0).toNatClampNeg v1) 10 ((xu S 9 (S 8 0).toNatClampNeg v1) 8 0).toNatClampNeg v2) 11 ((xu (xu S 9 (S 8 0).toNatClampNeg v1) 10 ((xu S 9 (S 8 0).toNatClampNeg v1) 8 0).toNatClampNeg v2) 8 0).toNatClampNeg v3) 12 (((xu (xu (xu S 9 (S 8 0).toNatClampNeg v1) 10 ((xu S 9 (S 8 0).toNatClampNeg v1) 8 0).toNatClampNeg v2) 11 ((xu (xu S 9 (S 8 0).toNatClampNeg v1) 10 ((xu S 9 (S 8 0).toNatClampNeg v1) 8 0).toNatClampNeg v2) 8 0).toNatClampNeg v3) 8 0) * (4 : Int32)).toNatClampNeg v4))))
def kX6_will (S : SX) (L : LX) (v1 : Int32) (v2 : Int32) (v3 : Int32) (v4 : Int32) (post : Int32 → SX → Prop) : Prop :=
    kX6_isYear S L v1 (fun r1 =>
    ((r1 = 0 →
      post (-1 : Int32) S) ∧
    (¬ r1 = 0 →
      kX6_isWithin S L v2.toInt64 (0 : Int64) (5 : Int64) (fun r13 =>
      ((r13 = 0 →
        post (-1 : Int32) S) ∧
      (¬ r13 = 0 →
        kX6_isWithin S L v3.toInt64 (0 : Int64) (1 : Int64) (fun r23 =>
        ((r23 = 0 →
          post (-1 : Int32) S) ∧
        (¬ r23 = 0 →
          kX6_isWithin S L v4.toInt64 (0 : Int64) (9999 : Int64) (fun r36 =>
          ((r36 = 0 →
            post (-1 : Int32) S) ∧
          (¬ r36 = 0 →
            kX4_hasRoomFor_8 S L (1 : Int32) (fun r52 =>
            ((r52 = 0 →
              post (-3 : Int32) S) ∧
            (¬ r52 = 0 →
              kX4_add_8 S L v1 v2 v3 v4 (fun S73 =>
              post ((S73 8 0) - (1 : Int32)) S73))))))))))))))))
def kX4_has (S : SX) (L : LX) (v1 : Int32) (post : Int32 → Prop) : Prop :=
    ((v1 < 0 →
      post (0 : Int32)) ∧
    (¬ v1 < 0 →
      (((S 8 0) ≤ v1 →
        post (0 : Int32)) ∧
      (¬ (S 8 0) ≤ v1 →
        post (1 : Int32)))))
def kX6_had (S : SX) (L : LX) (v1 : Int32) (v2 : Int32) (v3 : Int32) (post : Int32 → SX → Prop) : Prop :=
    kX4_has S L v1 (fun r8 =>
    ((r8 = 0 →
      post (-1 : Int32) S) ∧
    (¬ r8 = 0 →
      kX6_isWithin S L v2.toInt64 (0 : Int64) (3 : Int64) (fun r20 =>
      ((r20 = 0 →
        post (-1 : Int32) S) ∧
      (¬ r20 = 0 →
        kX6_isWithin S L v3.toInt64 (0 : Int64) (9999 : Int64) (fun r32 =>
        ((r32 = 0 →
          post (-1 : Int32) S) ∧
        (¬ r32 = 0 →
          vp_in ((v1 * (4 : Int32)) + v2) 96 ∧ vp_in ((v1 * (4 : Int32)) + v2) 96 ∧ post (S 12 ((v1 * (4 : Int32)) + v2).toNatClampNeg) (xu S 12 ((v1 * (4 : Int32)) + v2).toNatClampNeg v3))))))))))
def kX6_told (S : SX) (L : LX) (v1 : Int32) (v2 : Int32) (post : Int32 → Prop) : Prop :=
    kX4_has S L v1 (fun r8 =>
    ((r8 = 0 →
      post (-1 : Int32)) ∧
    (¬ r8 = 0 →
      vp_in v1 24 ∧ (
      (v2 = (0 : Int32) →
        post (S 9 v1.toNatClampNeg)) ∧
      (v2 = (1 : Int32) →
        vp_in v1 24 ∧ post (S 10 v1.toNatClampNeg)) ∧
      (v2 = (2 : Int32) →
        vp_in v1 24 ∧ post (S 11 v1.toNatClampNeg)) ∧
      (v2 = (3 : Int32) →
        kX5_seen S L v1 (S 9 v1.toNatClampNeg) (fun r110 =>
        post r110)) ∧
      (v2 = (4 : Int32) →
        kX5_sworn S L v1 (S 9 v1.toNatClampNeg) (fun r120 =>
        post r120)) ∧
      (v2 = (5 : Int32) →
        kX5_isInBook S L v1 (S 9 v1.toNatClampNeg) (fun r130 =>
        ((r130 = 0 →
          post (0 : Int32)) ∧
        (¬ r130 = 0 →
          post (1 : Int32))))) ∧
      (v2 = (6 : Int32) →
        kX5_weight S L v1 (S 9 v1.toNatClampNeg) (fun r148 =>
        post r148)) ∧
      (v2 = (7 : Int32) →
        kX5_kind S L v1 (fun r157 =>
        post r157)) ∧
      (¬ v2 = (0 : Int32) → ¬ v2 = (1 : Int32) → ¬ v2 = (2 : Int32) → ¬ v2 = (3 : Int32) → ¬ v2 = (4 : Int32) → ¬ v2 = (5 : Int32) → ¬ v2 = (6 : Int32) → ¬ v2 = (7 : Int32) →
        post (-1 : Int32))))))
def kX4_move_8_8 (S : SX) (L : LX) (v2 : Int32) (v3 : Int32) (v4 : Int32) (post : SX → Prop) : Prop :=
    (¬ v2 < 0 ∧ ¬ v3 < 0 ∧ ¬ v4 < 0 ∧ v2.toNatClampNeg + v4.toNatClampNeg ≤ 24 ∧ v3.toNatClampNeg + v4.toNatClampNeg ≤ 24) ∧ (¬ v2 < 0 ∧ ¬ v3 < 0 ∧ ¬ v4 < 0 ∧ v2.toNatClampNeg + v4.toNatClampNeg ≤ 24 ∧ v3.toNatClampNeg + v4.toNatClampNeg ≤ 24) ∧ (¬ v2 < 0 ∧ ¬ v3 < 0 ∧ ¬ v4 < 0 ∧ v2.toNatClampNeg + v4.toNatClampNeg ≤ 24 ∧ v3.toNatClampNeg + v4.toNatClampNeg ≤ 24) ∧ (¬ (v2 * (4 : Int32)) < 0 ∧ ¬ (v3 * (4 : Int32)) < 0 ∧ ¬ (v4 * (4 : Int32)) < 0 ∧ (v2 * (4 : Int32)).toNatClampNeg + (v4 * (4 : Int32)).toNatClampNeg ≤ 96 ∧ (v3 * (4 : Int32)).toNatClampNeg + (v4 * (4 : Int32)).toNatClampNeg ≤ 96) ∧ post (xcp (xcp (xcp (xcp S 9 9 v2.toNatClampNeg v3.toNatClampNeg v4.toNatClampNeg) 10 10 v2.toNatClampNeg v3.toNatClampNeg v4.toNatClampNeg) 11 11 v2.toNatClampNeg v3.toNatClampNeg v4.toNatClampNeg) 12 12 (v2 * (4 : Int32)).toNatClampNeg (v3 * (4 : Int32)).toNatClampNeg (v4 * (4 : Int32)).toNatClampNeg)
def kX4_removeOne (S : SX) (L : LX) (v1 : Int32) (post : SX → Prop) : Prop :=
    kX4_has S L v1 (fun r2 =>
    ((r2 = 0 →
      post S) ∧
    (¬ r2 = 0 →
      kX4_move_8_8 S L (v1 + (1 : Int32)) v1 (((S 8 0) - v1) - (1 : Int32)) (fun S22 =>
      post (xu S22 8 0 ((S22 8 0) - (1 : Int32)))))))
def kX6_burn (S : SX) (L : LX) (v1 : Int32) (post : Int32 → SX → Prop) : Prop :=
    kX4_has S L v1 (fun r8 =>
    ((r8 = 0 →
      post (-1 : Int32) S) ∧
    (¬ r8 = 0 →
      kX4_removeOne S L v1 (fun S24 =>
      post (S24 8 0) S24))))
def kX6_byteOf (S : SX) (L : LX) (v0 : Int64) (v2 : Int32) (post : Int32 → Prop) : Prop :=
    post ((((v0.toUInt64 >>> (((8 : Int32) * v2).toInt64.toUInt64 &&& Int64.toUInt64 63)).toInt64) &&& (255 : Int64)).toInt32)
def kX3_hasRoomFor (S : SX) (L : LX) (v1 : Int32) (post : Int32 → Prop) : Prop :=
    ((((100 : Int32) - (S 37 0)) < v1 →
      post (0 : Int32)) ∧
    (¬ ((100 : Int32) - (S 37 0)) < v1 →
      post (1 : Int32)))
def kX3_add (S : SX) (L : LX) (v1 : Int32) (post : SX → Prop) : Prop :=
    kX3_hasRoomFor S L (1 : Int32) (fun r2 =>
    ((r2 = 0 →
      post S) ∧
    (¬ r2 = 0 →
      vp_in (S 37 0) 100 ∧ post (xu (xu S 38 (S 37 0).toNatClampNeg v1) 37 0 (((xu S 38 (S 37 0).toNatClampNeg v1) 37 0) + (1 : Int32))))))
def kX6_type_b69 (L : LX) (v1 : Int64) (v3 : Int32) (post : Int32 → SX → Prop) : Nat → Int32 → SX → Prop
  | 0, _, _ => False
  | n + 1, v4, S =>
    ((v4 < 0 →
      post (S 37 0) S) ∧
    (¬ v4 < 0 →
      kX6_byteOf S L v1 v4 (fun r81 =>
      kX3_add S L r81 (fun S84 =>
      (kX6_type_b69 L v1 v3 post n) (v4 + (-1 : Int32)) S84))))
def kX6_type_b17 (L : LX) (v1 : Int64) (v3 : Int32) (post : Int32 → SX → Prop) : Nat → Int32 → SX → Prop
  | 0, _, _ => False
  | n + 1, v4, S =>
    ((v3 ≤ v4 →
      kX3_hasRoomFor S L v3 (fun r55 =>
      ((r55 = 0 →
        post (-3 : Int32) S) ∧
      (¬ r55 = 0 →
        ∃ n69 : Nat, kX6_type_b69 L v1 v3 post n69 (v3 - (1 : Int32)) S)))) ∧
    (¬ v3 ≤ v4 →
      kX6_byteOf S L v1 v4 (fun r26 =>
      kX6_isWithin S L r26.toInt64 (32 : Int64) (126 : Int64) (fun r36 =>
      ((r36 = 0 →
        post (-1 : Int32) S) ∧
      (¬ r36 = 0 →
        (kX6_type_b17 L v1 v3 post n) (v4 + (1 : Int32)) S))))))
def kX6_type (S : SX) (L : LX) (v1 : Int64) (v3 : Int32) (post : Int32 → SX → Prop) : Prop :=
    kX6_isWithin S L v3.toInt64 (1 : Int64) (8 : Int64) (fun r6 =>
    ((r6 = 0 →
      post (-1 : Int32) S) ∧
    (¬ r6 = 0 →
      ∃ n17 : Nat, kX6_type_b17 L v1 v3 post n17 (0 : Int32) S)))
def kX0_takeFrom_39_3 (S : SX) (L : LX) (post : SX → Prop) : Prop :=
    (¬ (0 : Int32) < 0 ∧ ¬ (0 : Int32) < 0 ∧ ¬ (8 : Int32) < 0 ∧ (0 : Int32).toNatClampNeg + (8 : Int32).toNatClampNeg ≤ 8 ∧ (0 : Int32).toNatClampNeg + (8 : Int32).toNatClampNeg ≤ 8) ∧ (¬ (0 : Int32) < 0 ∧ ¬ (0 : Int32) < 0 ∧ ¬ (8 : Int32) < 0 ∧ (0 : Int32).toNatClampNeg + (8 : Int32).toNatClampNeg ≤ 8 ∧ (0 : Int32).toNatClampNeg + (8 : Int32).toNatClampNeg ≤ 8) ∧ (¬ (0 : Int32) < 0 ∧ ¬ (0 : Int32) < 0 ∧ ¬ (8 : Int32) < 0 ∧ (0 : Int32).toNatClampNeg + (8 : Int32).toNatClampNeg ≤ 8 ∧ (0 : Int32).toNatClampNeg + (8 : Int32).toNatClampNeg ≤ 8) ∧ (¬ (0 : Int32) < 0 ∧ ¬ (0 : Int32) < 0 ∧ ¬ (8 : Int32) < 0 ∧ (0 : Int32).toNatClampNeg + (8 : Int32).toNatClampNeg ≤ 8 ∧ (0 : Int32).toNatClampNeg + (8 : Int32).toNatClampNeg ≤ 8) ∧ post (xcp (xcp (xcp (xcp S 40 4 (0 : Int32).toNatClampNeg (0 : Int32).toNatClampNeg (8 : Int32).toNatClampNeg) 41 5 (0 : Int32).toNatClampNeg (0 : Int32).toNatClampNeg (8 : Int32).toNatClampNeg) 42 6 (0 : Int32).toNatClampNeg (0 : Int32).toNatClampNeg (8 : Int32).toNatClampNeg) 43 7 (0 : Int32).toNatClampNeg (0 : Int32).toNatClampNeg (8 : Int32).toNatClampNeg)
def kX3_next_b38 (L : LX) (post : Int32 → SX → Prop) (S : SX) : Prop :=
    (((S 37 0) ≤ (S 37 1) →
      post (-1 : Int32) S) ∧
    (¬ (S 37 0) ≤ (S 37 1) →
      vp_in (S 37 1) 100 ∧ post (S 38 (S 37 1).toNatClampNeg) S))
def kX3_next_b0 (L : LX) (post : Int32 → SX → Prop) : Nat → SX → Prop
  | 0, _ => False
  | n + 1, S =>
    (((S 37 0) ≤ (S 37 1) →
      kX3_next_b38 L post S) ∧
    (¬ (S 37 0) ≤ (S 37 1) →
      vp_in (S 37 1) 100 ∧ (((S 38 (S 37 1).toNatClampNeg) = (32 : Int32) →
        (kX3_next_b0 L post n) (xu S 37 1 ((S 37 1) + (1 : Int32)))) ∧
      (¬ (S 38 (S 37 1).toNatClampNeg) = (32 : Int32) →
        kX3_next_b38 L post S))))
def kX3_next (S : SX) (L : LX) (post : Int32 → SX → Prop) : Prop :=
    ∃ n0 : Nat, kX3_next_b0 L post n0 S
def kX3_readDigit (S : SX) (L : LX) (v1 : Int32) (post : Int32 → SX → Prop) : Prop :=
    kX3_next S L (fun r1 S1 =>
    kX6_isWithin S1 L ((r1 - (48 : Int32)).toInt64) (0 : Int64) v1.toInt64 (fun r13 =>
    ((r13 = 0 →
      post (-1 : Int32) S1) ∧
    (¬ r13 = 0 →
      post (r1 - (48 : Int32)) (xu S1 37 1 ((S1 37 1) + (1 : Int32)))))))
def kX3_takes (S : SX) (L : LX) (v1 : Int32) (post : Int32 → SX → Prop) : Prop :=
    kX3_next S L (fun r1 S1 =>
    ((r1 = v1 →
      post (1 : Int32) (xu S1 37 1 ((S1 37 1) + (1 : Int32)))) ∧
    (¬ r1 = v1 →
      post (0 : Int32) S1)))
def kX3_readNumber_b96 (L : LX) (v1 : Int32) (v2 : Int32) (post : Int32 → SX → Prop) (v3 : Int32) (S : SX) : Prop :=
    ((v3 ≤ v1 →
      post v3 S) ∧
    (¬ v3 ≤ v1 →
      post (-1 : Int32) (xu S 37 1 v2)))
def kX3_readNumber_b26 (L : LX) (v1 : Int32) (v2 : Int32) (post : Int32 → SX → Prop) : Nat → Int32 → SX → Prop
  | 0, _, _ => False
  | n + 1, v3, S =>
    (((S 37 0) ≤ (S 37 1) →
      kX3_readNumber_b96 L v1 v2 post v3 S) ∧
    (¬ (S 37 0) ≤ (S 37 1) →
      vp_in (S 37 1) 100 ∧ kX6_isWithin S L ((S 38 (S 37 1).toNatClampNeg).toInt64) (48 : Int64) (57 : Int64) (fun r53 =>
      ((r53 = 0 →
        kX3_readNumber_b96 L v1 v2 post v3 S) ∧
      (¬ r53 = 0 →
        vp_in (S 37 1) 100 ∧ (kX3_readNumber_b26 L v1 v2 post n) (if (10000 : Int32) < (((v3 * (10 : Int32)) + (S 38 (S 37 1).toNatClampNeg)) - (48 : Int32)) then (10000 : Int32) else (((v3 * (10 : Int32)) + (S 38 (S 37 1).toNatClampNeg)) - (48 : Int32))) (xu S 37 1 ((S 37 1) + (1 : Int32))))))))
def kX3_readNumber (S : SX) (L : LX) (v1 : Int32) (post : Int32 → SX → Prop) : Prop :=
    kX3_next S L (fun r1 S1 =>
    kX6_isWithin S1 L r1.toInt64 (48 : Int64) (57 : Int64) (fun r11 =>
    ((r11 = 0 →
      post (-1 : Int32) S1) ∧
    (¬ r11 = 0 →
      ∃ n26 : Nat, kX3_readNumber_b26 L v1 (S1 37 1) post n26 (0 : Int32) S1))))
def kX3_readPerhaps (S : SX) (L : LX) (v1 : Int32) (v2 : Int32) (post : Int32 → SX → Prop) : Prop :=
    kX3_takes S L v1 (fun r2 S2 =>
    ((r2 = 0 →
      post (0 : Int32) S2) ∧
    (¬ r2 = 0 →
      kX3_readNumber S2 L v2 (fun r10 S10 =>
      post r10 S10))))
def kX0_changeFrom_b3 (L : LX) (v1 : Int32) (v2 : Int32) (v3 : Int32) (v4 : Int32) (v5 : Int32) (post : SX → Prop) : Nat → Int32 → SX → Prop
  | 0, _, _ => False
  | n + 1, v6, S =>
    (((8 : Int32) ≤ v6 →
      post S) ∧
    (¬ (8 : Int32) ≤ v6 →
      vp_in v6 8 ∧ vp_in v6 8 ∧ vp_in v6 8 ∧ vp_in v6 8 ∧ (kX0_changeFrom_b3 L v1 v2 v3 v4 v5 post n) (v6 + (1 : Int32)) (xu (xu (xu (xu S 40 v6.toNatClampNeg v2) 41 v6.toNatClampNeg v3) 42 v6.toNatClampNeg v4) 43 v6.toNatClampNeg v5)))
def kX0_changeFrom (S : SX) (L : LX) (v1 : Int32) (v2 : Int32) (v3 : Int32) (v4 : Int32) (v5 : Int32) (post : SX → Prop) : Prop :=
    ∃ n3 : Nat, kX0_changeFrom_b3 L v1 v2 v3 v4 v5 post n3 v1 S
def kX3_readLaw_b84 (L : LX) (v2 : Int32) (v3 : Int32) (v4 : Int32) (v5 : Int32) (post : Int32 → SX → Prop) : Nat → Int32 → Int32 → SX → Prop
  | 0, _, _, _ => False
  | n + 1, v6, v7, S =>
    (((4 : Int32) ≤ v7 →
      kX0_changeFrom S L v2 v3 v4 v5 v6 (fun S127 =>
      post (1 : Int32) S127)) ∧
    (¬ (4 : Int32) ≤ v7 →
      vp_in v7 4 ∧ kX3_takes S L (xmk v7.toNatClampNeg) (fun r97 S97 =>
      ((r97 = 0 →
        (kX3_readLaw_b84 L v2 v3 v4 v5 post n) v6 (v7 + (1 : Int32)) S97) ∧
      (¬ r97 = 0 →
        (kX3_readLaw_b84 L v2 v3 v4 v5 post n) (v6 ||| ((1 : Int32) <<< (v7 &&& 31))) (v7 + (1 : Int32)) S97)))))
def kX3_readLaw (S : SX) (L : LX) (post : Int32 → SX → Prop) : Prop :=
    kX3_readDigit S L (7 : Int32) (fun r3 S3 =>
    ((r3 = (-1 : Int32) →
      post (0 : Int32) S3) ∧
    (¬ r3 = (-1 : Int32) →
      kX3_takes S3 L (58 : Int32) (fun r15 S15 =>
      ((r15 = 0 →
        post (0 : Int32) S15) ∧
      (¬ r15 = 0 →
        kX3_readPerhaps S15 L (102 : Int32) (9999 : Int32) (fun r29 S29 =>
        ((r29 = (-1 : Int32) →
          post (0 : Int32) S29) ∧
        (¬ r29 = (-1 : Int32) →
          kX3_readPerhaps S29 L (108 : Int32) (9999 : Int32) (fun r46 S46 =>
          ((r46 = (-1 : Int32) →
            post (0 : Int32) S46) ∧
          (¬ r46 = (-1 : Int32) →
            kX3_readPerhaps S46 L (104 : Int32) (999 : Int32) (fun r65 S65 =>
            ((r65 = (-1 : Int32) →
              post (0 : Int32) S65) ∧
            (¬ r65 = (-1 : Int32) →
              ∃ n84 : Nat, kX3_readLaw_b84 L r3 r29 r46 r65 post n84 (0 : Int32) (0 : Int32) S65)))))))))))))))
def kX3_fault (S : SX) (L : LX) (post : Int32 → Prop) : Prop :=
    post ((-20 : Int32) - (S 37 1))
def kX3_readLaws_b51 (L : LX) (post : Int32 → SX → Prop) (S : SX) : Prop :=
    kX3_fault S L (fun r52 =>
    post r52 S)
def kX3_readLaws_b7 (L : LX) (post : Int32 → SX → Prop) : Nat → Int32 → SX → Prop
  | 0, _, _ => False
  | n + 1, v2, S =>
    (((8 : Int32) < v2 →
      kX3_fault S L (fun r63 =>
      post r63 S)) ∧
    (¬ (8 : Int32) < v2 →
      kX3_readLaw S L (fun r15 S15 =>
      ((r15 = 0 →
        kX3_fault S15 L (fun r22 =>
        post r22 S15)) ∧
      (¬ r15 = 0 →
        kX3_next S15 L (fun r27 S27 =>
        ((r27 = (-1 : Int32) →
          post v2 S27) ∧
        (¬ r27 = (-1 : Int32) →
          ((v2 = (8 : Int32) →
            kX3_readLaws_b51 L post S27) ∧
          (¬ v2 = (8 : Int32) →
            kX3_takes S27 L (59 : Int32) (fun r45 S45 =>
            ((r45 = 0 →
              kX3_readLaws_b51 L post S45) ∧
            (¬ r45 = 0 →
              (kX3_readLaws_b7 L post n) (v2 + (1 : Int32)) S45)))))))))))))
def kX3_readLaws (S : SX) (L : LX) (post : Int32 → SX → Prop) : Prop :=
    ∃ n7 : Nat, kX3_readLaws_b7 L post n7 (1 : Int32) (xu S 37 1 (0 : Int32))
def kX3_clear (S : SX) (L : LX) (post : SX → Prop) : Prop :=
    post (xu S 37 0 (0 : Int32))
def kX0_takeFrom_3_39 (S : SX) (L : LX) (post : SX → Prop) : Prop :=
    (¬ (0 : Int32) < 0 ∧ ¬ (0 : Int32) < 0 ∧ ¬ (8 : Int32) < 0 ∧ (0 : Int32).toNatClampNeg + (8 : Int32).toNatClampNeg ≤ 8 ∧ (0 : Int32).toNatClampNeg + (8 : Int32).toNatClampNeg ≤ 8) ∧ (¬ (0 : Int32) < 0 ∧ ¬ (0 : Int32) < 0 ∧ ¬ (8 : Int32) < 0 ∧ (0 : Int32).toNatClampNeg + (8 : Int32).toNatClampNeg ≤ 8 ∧ (0 : Int32).toNatClampNeg + (8 : Int32).toNatClampNeg ≤ 8) ∧ (¬ (0 : Int32) < 0 ∧ ¬ (0 : Int32) < 0 ∧ ¬ (8 : Int32) < 0 ∧ (0 : Int32).toNatClampNeg + (8 : Int32).toNatClampNeg ≤ 8 ∧ (0 : Int32).toNatClampNeg + (8 : Int32).toNatClampNeg ≤ 8) ∧ (¬ (0 : Int32) < 0 ∧ ¬ (0 : Int32) < 0 ∧ ¬ (8 : Int32) < 0 ∧ (0 : Int32).toNatClampNeg + (8 : Int32).toNatClampNeg ≤ 8 ∧ (0 : Int32).toNatClampNeg + (8 : Int32).toNatClampNeg ≤ 8) ∧ post (xcp (xcp (xcp (xcp S 4 40 (0 : Int32).toNatClampNeg (0 : Int32).toNatClampNeg (8 : Int32).toNatClampNeg) 5 41 (0 : Int32).toNatClampNeg (0 : Int32).toNatClampNeg (8 : Int32).toNatClampNeg) 6 42 (0 : Int32).toNatClampNeg (0 : Int32).toNatClampNeg (8 : Int32).toNatClampNeg) 7 43 (0 : Int32).toNatClampNeg (0 : Int32).toNatClampNeg (8 : Int32).toNatClampNeg)
def kX6_rules (S : SX) (L : LX) (post : Int32 → SX → Prop) : Prop :=
    kX0_takeFrom_39_3 S L (fun S11 =>
    kX3_readLaws S11 L (fun r22 S22 =>
    kX3_clear S22 L (fun S30 =>
    ((r22 ≤ 0 →
      post r22 S30) ∧
    (¬ r22 ≤ 0 →
      kX0_takeFrom_3_39 S30 L (fun S48 =>
      post r22 S48))))))
def kX6_rule (S : SX) (L : LX) (v1 : Int32) (v2 : Int32) (post : Int32 → Prop) : Prop :=
    kX6_isYear S L v1 (fun r1 =>
    ((r1 = 0 →
      post (-1 : Int32)) ∧
    (¬ r1 = 0 →
      (
      (v2 = (0 : Int32) →
        vp_in v1 8 ∧ post (S 4 v1.toNatClampNeg)) ∧
      (v2 = (1 : Int32) →
        vp_in v1 8 ∧ post (S 5 v1.toNatClampNeg)) ∧
      (v2 = (2 : Int32) →
        vp_in v1 8 ∧ post (S 6 v1.toNatClampNeg)) ∧
      (v2 = (3 : Int32) →
        vp_in v1 8 ∧ post (S 7 v1.toNatClampNeg)) ∧
      (¬ v2 = (0 : Int32) → ¬ v2 = (1 : Int32) → ¬ v2 = (2 : Int32) → ¬ v2 = (3 : Int32) →
        post (-1 : Int32))))))
def kX4_hasRoomFor_44 (S : SX) (L : LX) (v1 : Int32) (post : Int32 → Prop) : Prop :=
    ((((24 : Int32) - (S 44 0)) < v1 →
      post (0 : Int32)) ∧
    (¬ ((24 : Int32) - (S 44 0)) < v1 →
      post (1 : Int32)))
def kX4_add_44_b55 (L : LX) (v1 : Int32) (v2 : Int32) (v3 : Int32) (v4 : Int32) (post : SX → Prop) : Nat → Int32 → SX → Prop
  | 0, _, _ => False
  | n + 1, v5, S =>
    (((4 : Int32) ≤ v5 →
      post (xu S 44 0 ((S 44 0) + (1 : Int32)))) ∧
    (¬ (4 : Int32) ≤ v5 →
      vp_in (((S 44 0) * (4 : Int32)) + v5) 96 ∧ (kX4_add_44_b55 L v1 v2 v3 v4 post n) (v5 + (1 : Int32)) (xu S 48 (((S 44 0) * (4 : Int32)) + v5).toNatClampNeg (0 : Int32))))
def kX4_add_44 (S : SX) (L : LX) (v1 : Int32) (v2 : Int32) (v3 : Int32) (v4 : Int32) (post : SX → Prop) : Prop :=
    kX4_hasRoomFor_44 S L (1 : Int32) (fun r2 =>
    ((r2 = 0 →
      post S) ∧
    (¬ r2 = 0 →
      vp_in (S 44 0) 24 ∧ vp_in ((xu S 45 (S 44 0).toNatClampNeg v1) 44 0) 24 ∧ vp_in ((xu (xu S 45 (S 44 0).toNatClampNeg v1) 46 ((xu S 45 (S 44 0).toNatClampNeg v1) 44 0).toNatClampNeg v2) 44 0) 24 ∧ vp_in (((xu (xu (xu S 45 (S 44 0).toNatClampNeg v1) 46 ((xu S 45 (S 44 0).toNatClampNeg v1) 44 0).toNatClampNeg v2) 47 ((xu (xu S 45 (S 44 0).toNatClampNeg v1) 46 ((xu S 45 (S 44 0).toNatClampNeg v1) 44 0).toNatClampNeg v2) 44 0).toNatClampNeg v3) 44 0) * (4 : Int32)) 96 ∧ ∃ n55 : Nat, kX4_add_44_b55 L v1 v2 v3 v4 post n55 (1 : Int32) (xu (xu (xu (xu S 45 (S 44 0).toNatClampNeg v1) 46 ((xu S 45 (S 44 0).toNatClampNeg v1) 44 0).toNatClampNeg v2) 47 ((xu (xu S 45 (S 44 0).toNatClampNeg v1) 46 ((xu S 45 (S 44 0).toNatClampNeg v1) 44 0).toNatClampNeg v2) 44 0).toNatClampNeg v3) 48 (((xu (xu (xu S 45 (S 44 0).toNatClampNeg v1) 46 ((xu S 45 (S 44 0).toNatClampNeg v1) 44 0).toNatClampNeg v2) 47 ((xu (xu S 45 (S 44 0).toNatClampNeg v1) 46 ((xu S 45 (S 44 0).toNatClampNeg v1) 44 0).toNatClampNeg v2) 44 0).toNatClampNeg v3) 44 0) * (4 : Int32)).toNatClampNeg v4))))
def kX3_readThings (S : SX) (L : LX) (post : Int32 → SX → Prop) : Prop :=
    kX3_readPerhaps S L (108 : Int32) (9999 : Int32) (fun r6 S6 =>
    ((r6 = (-1 : Int32) →
      post (0 : Int32) S6) ∧
    (¬ r6 = (-1 : Int32) →
      kX3_readPerhaps S6 L (103 : Int32) (9999 : Int32) (fun r23 S23 =>
      ((r23 = (-1 : Int32) →
        post (0 : Int32) S23) ∧
      (¬ r23 = (-1 : Int32) →
        kX3_readPerhaps S23 L (116 : Int32) (9999 : Int32) (fun r40 S40 =>
        ((r40 = (-1 : Int32) →
          post (0 : Int32) S40) ∧
        (¬ r40 = (-1 : Int32) →
          (((S40 44 0) = 0 →
            post (0 : Int32) S40) ∧
          (¬ (S40 44 0) = 0 →
            vp_in ((((S40 44 0) - (1 : Int32)) * (4 : Int32)) + (1 : Int32)) 96 ∧ vp_in ((((S40 44 0) - (1 : Int32)) * (4 : Int32)) + (2 : Int32)) 96 ∧ vp_in ((((S40 44 0) - (1 : Int32)) * (4 : Int32)) + (3 : Int32)) 96 ∧ post (1 : Int32) (xu (xu (xu S40 48 ((((S40 44 0) - (1 : Int32)) * (4 : Int32)) + (1 : Int32)).toNatClampNeg r6) 48 ((((S40 44 0) - (1 : Int32)) * (4 : Int32)) + (2 : Int32)).toNatClampNeg r23) 48 ((((S40 44 0) - (1 : Int32)) * (4 : Int32)) + (3 : Int32)).toNatClampNeg r40))))))))))))
def kX3_readWill_b81 (L : LX) (post : Int32 → SX → Prop) (v5 : Int32) (z1 : Int32) (z2 : Int32) (z3 : Int32) (S : SX) : Prop :=
    kX4_add_44 S L z1 z2 z3 v5 (fun S83 =>
    kX3_readThings S83 L (fun r88 S88 =>
    (r88 = 0 ∨ r88 = 1) ∧ post r88 S88))
def kX3_readWill_b51 (L : LX) (post : Int32 → SX → Prop) (v2 : Int32) (v3 : Int32) (v4 : Int32) (S : SX) : Prop :=
    kX3_readNumber S L (9999 : Int32) (fun r55 S55 =>
    ((r55 = (-1 : Int32) →
      post (0 : Int32) S55) ∧
    (¬ r55 = (-1 : Int32) →
      ((v4 = 0 →
        kX3_readWill_b81 L post r55 v2 v3 (1 : Int32) S55) ∧
      (¬ v4 = 0 →
        kX3_readWill_b81 L post r55 v2 v3 (0 : Int32) S55)))))
def kX3_readWill (S : SX) (L : LX) (post : Int32 → SX → Prop) : Prop :=
    kX3_readDigit S L (7 : Int32) (fun r3 S3 =>
    ((r3 = (-1 : Int32) →
      post (0 : Int32) S3) ∧
    (¬ r3 = (-1 : Int32) →
      kX3_readDigit S3 L (5 : Int32) (fun r16 S16 =>
      ((r16 = (-1 : Int32) →
        post (0 : Int32) S16) ∧
      (¬ r16 = (-1 : Int32) →
        kX3_takes S16 L (109 : Int32) (fun r30 S30 =>
        ((r30 = 0 →
          kX3_takes S30 L (119 : Int32) (fun r43 S43 =>
          ((r43 = 0 →
            post (0 : Int32) S43) ∧
          (¬ r43 = 0 →
            kX3_readWill_b51 L post r3 r16 r30 S43)))) ∧
        (¬ r30 = 0 →
          kX3_readWill_b51 L post r3 r16 r30 S30)))))))))
def kX3_readWills_b51 (L : LX) (post : Int32 → SX → Prop) (S : SX) : Prop :=
    kX3_fault S L (fun r52 =>
    post r52 S)
def kX3_readWills_b7 (L : LX) (post : Int32 → SX → Prop) : Nat → Int32 → SX → Prop
  | 0, _, _ => False
  | n + 1, v2, S =>
    (((8 : Int32) < v2 →
      kX3_fault S L (fun r63 =>
      post r63 S)) ∧
    (¬ (8 : Int32) < v2 →
      kX3_readWill S L (fun r15 S15 =>
      ((r15 = 0 →
        kX3_fault S15 L (fun r22 =>
        post r22 S15)) ∧
      (¬ r15 = 0 →
        kX3_next S15 L (fun r27 S27 =>
        ((r27 = (-1 : Int32) →
          post v2 S27) ∧
        (¬ r27 = (-1 : Int32) →
          ((v2 = (8 : Int32) →
            kX3_readWills_b51 L post S27) ∧
          (¬ v2 = (8 : Int32) →
            kX3_takes S27 L (59 : Int32) (fun r45 S45 =>
            ((r45 = 0 →
              kX3_readWills_b51 L post S45) ∧
            (¬ r45 = 0 →
              (kX3_readWills_b7 L post n) (v2 + (1 : Int32)) S45)))))))))))))
def kX3_readWills (S : SX) (L : LX) (post : Int32 → SX → Prop) : Prop :=
    ∃ n7 : Nat, kX3_readWills_b7 L post n7 (1 : Int32) (xu S 37 1 (0 : Int32))
def kX4_move_8_44 (S : SX) (L : LX) (v2 : Int32) (v3 : Int32) (v4 : Int32) (post : SX → Prop) : Prop :=
    (¬ v2 < 0 ∧ ¬ v3 < 0 ∧ ¬ v4 < 0 ∧ v2.toNatClampNeg + v4.toNatClampNeg ≤ 24 ∧ v3.toNatClampNeg + v4.toNatClampNeg ≤ 24) ∧ (¬ v2 < 0 ∧ ¬ v3 < 0 ∧ ¬ v4 < 0 ∧ v2.toNatClampNeg + v4.toNatClampNeg ≤ 24 ∧ v3.toNatClampNeg + v4.toNatClampNeg ≤ 24) ∧ (¬ v2 < 0 ∧ ¬ v3 < 0 ∧ ¬ v4 < 0 ∧ v2.toNatClampNeg + v4.toNatClampNeg ≤ 24 ∧ v3.toNatClampNeg + v4.toNatClampNeg ≤ 24) ∧ (¬ (v2 * (4 : Int32)) < 0 ∧ ¬ (v3 * (4 : Int32)) < 0 ∧ ¬ (v4 * (4 : Int32)) < 0 ∧ (v2 * (4 : Int32)).toNatClampNeg + (v4 * (4 : Int32)).toNatClampNeg ≤ 96 ∧ (v3 * (4 : Int32)).toNatClampNeg + (v4 * (4 : Int32)).toNatClampNeg ≤ 96) ∧ post (xcp (xcp (xcp (xcp S 9 45 v2.toNatClampNeg v3.toNatClampNeg v4.toNatClampNeg) 10 46 v2.toNatClampNeg v3.toNatClampNeg v4.toNatClampNeg) 11 47 v2.toNatClampNeg v3.toNatClampNeg v4.toNatClampNeg) 12 48 (v2 * (4 : Int32)).toNatClampNeg (v3 * (4 : Int32)).toNatClampNeg (v4 * (4 : Int32)).toNatClampNeg)
def kX4_addAll (S : SX) (L : LX) (post : SX → Prop) : Prop :=
    kX4_hasRoomFor_8 S L (S 44 0) (fun r5 =>
    ((r5 = 0 →
      post S) ∧
    (¬ r5 = 0 →
      kX4_move_8_44 S L (0 : Int32) (S 8 0) (S 44 0) (fun S22 =>
      post (xu S22 8 0 ((S22 8 0) + (S22 44 0)))))))
def kX6_wills (S : SX) (L : LX) (post : Int32 → SX → Prop) : Prop :=
    kX3_readWills (xu S 44 0 (0 : Int32)) L (fun r16 S16 =>
    kX3_clear S16 L (fun S24 =>
    ((0 < r16 →
      kX4_hasRoomFor_8 S24 L (S24 44 0) (fun r47 =>
      ((r47 = 0 →
        post (-3 : Int32) S24) ∧
      (¬ r47 = 0 →
        kX4_addAll S24 L (fun S67 =>
        post r16 S67))))) ∧
    (¬ 0 < r16 →
      post r16 S24))))
def kX6_draw_b46 (L : LX) (v1 : Int64) (v3 : Int32) (v4 : Int32) (post : Int32 → SX → Prop) : Nat → Int64 → Int32 → SX → Prop
  | 0, _, _, _ => False
  | n + 1, v5, v7, S =>
    ((v4 ≤ v7 →
      post (S 8 0) S) ∧
    (¬ v4 ≤ v7 →
      kX4_add_8 S L v3 ((((((v5 * (6364136223846793005 : Int64)) + (1442695040888963407 : Int64)).toUInt64 >>> ((33 : Int32).toInt64.toUInt64 &&& Int64.toUInt64 63)).toInt64) - ((((v5 * (6364136223846793005 : Int64)) + (1442695040888963407 : Int64)).toUInt64 >>> ((33 : Int32).toInt64.toUInt64 &&& Int64.toUInt64 63)).toInt64) / (6 : Int64) * (6 : Int64)).toInt32) (((((((v5 * (6364136223846793005 : Int64)) + (1442695040888963407 : Int64)).toUInt64 >>> ((33 : Int32).toInt64.toUInt64 &&& Int64.toUInt64 63)).toInt64) / (6 : Int64)) - (((((v5 * (6364136223846793005 : Int64)) + (1442695040888963407 : Int64)).toUInt64 >>> ((33 : Int32).toInt64.toUInt64 &&& Int64.toUInt64 63)).toInt64) / (6 : Int64)) / (2 : Int64) * (2 : Int64)).toInt32) (((((((((v5 * (6364136223846793005 : Int64)) + (1442695040888963407 : Int64)).toUInt64 >>> ((33 : Int32).toInt64.toUInt64 &&& Int64.toUInt64 63)).toInt64) / (12 : Int64)) - (((((v5 * (6364136223846793005 : Int64)) + (1442695040888963407 : Int64)).toUInt64 >>> ((33 : Int32).toInt64.toUInt64 &&& Int64.toUInt64 63)).toInt64) / (12 : Int64)) / (10000 : Int64) * (10000 : Int64)).toInt32) * (((((((v5 * (6364136223846793005 : Int64)) + (1442695040888963407 : Int64)).toUInt64 >>> ((33 : Int32).toInt64.toUInt64 &&& Int64.toUInt64 63)).toInt64) / (12 : Int64)) - (((((v5 * (6364136223846793005 : Int64)) + (1442695040888963407 : Int64)).toUInt64 >>> ((33 : Int32).toInt64.toUInt64 &&& Int64.toUInt64 63)).toInt64) / (12 : Int64)) / (10000 : Int64) * (10000 : Int64)).toInt32)) / (10000 : Int32)) (fun S120 =>
      (kX6_draw_b46 L v1 v3 v4 post n) ((v5 * (6364136223846793005 : Int64)) + (1442695040888963407 : Int64)) (v7 + (1 : Int32)) S120)))
def kX6_draw (S : SX) (L : LX) (v1 : Int64) (v3 : Int32) (v4 : Int32) (post : Int32 → SX → Prop) : Prop :=
    kX6_isYear S L v3 (fun r1 =>
    ((r1 = 0 →
      post (-1 : Int32) S) ∧
    (¬ r1 = 0 →
      kX6_isWithin S L v4.toInt64 (1 : Int64) (24 : Int64) (fun r14 =>
      ((r14 = 0 →
        post (-1 : Int32) S) ∧
      (¬ r14 = 0 →
        kX4_hasRoomFor_8 S L v4 (fun r31 =>
        ((r31 = 0 →
          post (-3 : Int32) S) ∧
        (¬ r31 = 0 →
          ∃ n46 : Nat, kX6_draw_b46 L v1 v3 v4 post n46 v1 (0 : Int32) S)))))))))
def kX6_people_b49 (L : LX) (v1 : Int32) (v2 : Int32) (v3 : Int32) (post : Int32 → SX → Prop) (S : SX) : Prop :=
    ((v2 = (1 : Int32) →
      kX6_isWithin S L v3.toInt64 (1 : Int64) (999 : Int64) (fun r60 =>
      ((r60 = 0 →
        post (-1 : Int32) S) ∧
      (¬ r60 = 0 →
        vp_in v1 8 ∧ vp_in v1 8 ∧ post (S 14 v1.toNatClampNeg) (xu S 14 v1.toNatClampNeg v3))))) ∧
    (¬ v2 = (1 : Int32) →
      post (-1 : Int32) S))
def kX6_people (S : SX) (L : LX) (v1 : Int32) (v2 : Int32) (v3 : Int32) (post : Int32 → SX → Prop) : Prop :=
    kX6_isYear S L v1 (fun r1 =>
    ((r1 = 0 →
      post (-1 : Int32) S) ∧
    (¬ r1 = 0 →
      ((v2 = 0 →
        kX6_isWithin S L v3.toInt64 (1 : Int64) (999999 : Int64) (fun r19 =>
        ((r19 = 0 →
          kX6_people_b49 L v1 v2 v3 post S) ∧
        (¬ r19 = 0 →
          vp_in v1 8 ∧ vp_in v1 8 ∧ post (S 13 v1.toNatClampNeg) (xu S 13 v1.toNatClampNeg v3))))) ∧
      (¬ v2 = 0 →
        kX6_people_b49 L v1 v2 v3 post S)))))
def kX6_yearsWithShare_b4 (S : SX) (L : LX) (post : Int32 → Prop) : Nat → Int32 → Int32 → Prop
  | 0, _, _ => False
  | n + 1, v1, v2 =>
    (((8 : Int32) ≤ v2 →
      post v1) ∧
    (¬ (8 : Int32) ≤ v2 →
      kX5_sumSworn S L v2 v2 (fun r16 =>
      ((r16 ≤ (0 : Int64) →
        (kX6_yearsWithShare_b4 S L post n) v1 (v2 + (1 : Int32))) ∧
      (¬ r16 ≤ (0 : Int64) →
        (kX6_yearsWithShare_b4 S L post n) (v1 + (1 : Int32)) (v2 + (1 : Int32)))))))
def kX6_yearsWithShare (S : SX) (L : LX) (post : Int32 → Prop) : Prop :=
    ∃ n4 : Nat, kX6_yearsWithShare_b4 S L post n4 (0 : Int32) (0 : Int32)
def kJ6_bitCount (S : SX) (L : LX) (v0 : Int32) (post : Int32 → Prop) : Prop :=
    post ((((((((v0 - (((v0.toUInt32 >>> ((1 : Int32).toUInt32 &&& Int32.toUInt32 31)).toInt32) &&& (1431655765 : Int32))) &&& (858993459 : Int32)) + ((((v0 - (((v0.toUInt32 >>> ((1 : Int32).toUInt32 &&& Int32.toUInt32 31)).toInt32) &&& (1431655765 : Int32))).toUInt32 >>> ((2 : Int32).toUInt32 &&& Int32.toUInt32 31)).toInt32) &&& (858993459 : Int32))) + (((((v0 - (((v0.toUInt32 >>> ((1 : Int32).toUInt32 &&& Int32.toUInt32 31)).toInt32) &&& (1431655765 : Int32))) &&& (858993459 : Int32)) + ((((v0 - (((v0.toUInt32 >>> ((1 : Int32).toUInt32 &&& Int32.toUInt32 31)).toInt32) &&& (1431655765 : Int32))).toUInt32 >>> ((2 : Int32).toUInt32 &&& Int32.toUInt32 31)).toInt32) &&& (858993459 : Int32))).toUInt32 >>> ((4 : Int32).toUInt32 &&& Int32.toUInt32 31)).toInt32)) &&& (252645135 : Int32)) + (((((((v0 - (((v0.toUInt32 >>> ((1 : Int32).toUInt32 &&& Int32.toUInt32 31)).toInt32) &&& (1431655765 : Int32))) &&& (858993459 : Int32)) + ((((v0 - (((v0.toUInt32 >>> ((1 : Int32).toUInt32 &&& Int32.toUInt32 31)).toInt32) &&& (1431655765 : Int32))).toUInt32 >>> ((2 : Int32).toUInt32 &&& Int32.toUInt32 31)).toInt32) &&& (858993459 : Int32))) + (((((v0 - (((v0.toUInt32 >>> ((1 : Int32).toUInt32 &&& Int32.toUInt32 31)).toInt32) &&& (1431655765 : Int32))) &&& (858993459 : Int32)) + ((((v0 - (((v0.toUInt32 >>> ((1 : Int32).toUInt32 &&& Int32.toUInt32 31)).toInt32) &&& (1431655765 : Int32))).toUInt32 >>> ((2 : Int32).toUInt32 &&& Int32.toUInt32 31)).toInt32) &&& (858993459 : Int32))).toUInt32 >>> ((4 : Int32).toUInt32 &&& Int32.toUInt32 31)).toInt32)) &&& (252645135 : Int32)).toUInt32 >>> ((8 : Int32).toUInt32 &&& Int32.toUInt32 31)).toInt32)) + ((((((((v0 - (((v0.toUInt32 >>> ((1 : Int32).toUInt32 &&& Int32.toUInt32 31)).toInt32) &&& (1431655765 : Int32))) &&& (858993459 : Int32)) + ((((v0 - (((v0.toUInt32 >>> ((1 : Int32).toUInt32 &&& Int32.toUInt32 31)).toInt32) &&& (1431655765 : Int32))).toUInt32 >>> ((2 : Int32).toUInt32 &&& Int32.toUInt32 31)).toInt32) &&& (858993459 : Int32))) + (((((v0 - (((v0.toUInt32 >>> ((1 : Int32).toUInt32 &&& Int32.toUInt32 31)).toInt32) &&& (1431655765 : Int32))) &&& (858993459 : Int32)) + ((((v0 - (((v0.toUInt32 >>> ((1 : Int32).toUInt32 &&& Int32.toUInt32 31)).toInt32) &&& (1431655765 : Int32))).toUInt32 >>> ((2 : Int32).toUInt32 &&& Int32.toUInt32 31)).toInt32) &&& (858993459 : Int32))).toUInt32 >>> ((4 : Int32).toUInt32 &&& Int32.toUInt32 31)).toInt32)) &&& (252645135 : Int32)) + (((((((v0 - (((v0.toUInt32 >>> ((1 : Int32).toUInt32 &&& Int32.toUInt32 31)).toInt32) &&& (1431655765 : Int32))) &&& (858993459 : Int32)) + ((((v0 - (((v0.toUInt32 >>> ((1 : Int32).toUInt32 &&& Int32.toUInt32 31)).toInt32) &&& (1431655765 : Int32))).toUInt32 >>> ((2 : Int32).toUInt32 &&& Int32.toUInt32 31)).toInt32) &&& (858993459 : Int32))) + (((((v0 - (((v0.toUInt32 >>> ((1 : Int32).toUInt32 &&& Int32.toUInt32 31)).toInt32) &&& (1431655765 : Int32))) &&& (858993459 : Int32)) + ((((v0 - (((v0.toUInt32 >>> ((1 : Int32).toUInt32 &&& Int32.toUInt32 31)).toInt32) &&& (1431655765 : Int32))).toUInt32 >>> ((2 : Int32).toUInt32 &&& Int32.toUInt32 31)).toInt32) &&& (858993459 : Int32))).toUInt32 >>> ((4 : Int32).toUInt32 &&& Int32.toUInt32 31)).toInt32)) &&& (252645135 : Int32)).toUInt32 >>> ((8 : Int32).toUInt32 &&& Int32.toUInt32 31)).toInt32)).toUInt32 >>> ((16 : Int32).toUInt32 &&& Int32.toUInt32 31)).toInt32)) &&& (63 : Int32))
def kX6_count (S : SX) (L : LX) (v1 : Int32) (post : Int32 → Prop) : Prop :=
    (
    (v1 = (0 : Int32) →
      post (S 8 0)) ∧
    (v1 = (1 : Int32) →
      kX5_howManyOfKind S L v1 (fun r56 =>
      post r56)) ∧
    (v1 = (2 : Int32) →
      kX5_howManyOfKind S L v1 (fun r56 =>
      post r56)) ∧
    (v1 = (3 : Int32) →
      kX5_howManyOfKind S L v1 (fun r56 =>
      post r56)) ∧
    (v1 = (4 : Int32) →
      kX6_yearsWithShare S L (fun r61 =>
      post r61)) ∧
    (v1 = (5 : Int32) →
      kJ6_bitCount S L (S 1 2) (fun r72 =>
      post r72)) ∧
    (¬ v1 = (0 : Int32) → ¬ v1 = (1 : Int32) → ¬ v1 = (2 : Int32) → ¬ v1 = (3 : Int32) → ¬ v1 = (4 : Int32) → ¬ v1 = (5 : Int32) →
      post (-1 : Int32)))
def kX6_total (S : SX) (L : LX) (v1 : Int32) (v2 : Int32) (post : Int64 → Prop) : Prop :=
    kX6_isYear S L v1 (fun r1 =>
    ((r1 = 0 →
      post (-1 : Int64)) ∧
    (¬ r1 = 0 →
      kX6_isWithin S L v2.toInt64 (0 : Int64) (1 : Int64) (fun r11 =>
      ((r11 = 0 →
        post (-1 : Int64)) ∧
      (¬ r11 = 0 →
        ((v2 = 0 →
          kX5_sumSworn S L v1 v1 (fun r31 =>
          post r31)) ∧
        (¬ v2 = 0 →
          kX5_sumUnseen S L v1 (fun r42 =>
          post r42)))))))))
def kX6_isTop (S : SX) (L : LX) (v0 : Int32) (post : Int32 → Prop) : Prop :=
    kX6_isWithin S L v0.toInt64 (1 : Int64) (1000 : Int64) (fun r6 =>
    (r6 = 0 ∨ r6 = 1) ∧ post r6)
def kX1_insert_b88 (L : LX) (v1 : Int32) (v2 : Int32) (v3 : Int32) (post : SX → Prop) (v4 : Int32) (S : SX) : Prop :=
    vp_in v4 24 ∧ vp_in v4 24 ∧ vp_in v4 24 ∧ post (xu (xu (xu (xu S 34 v4.toNatClampNeg v1) 35 v4.toNatClampNeg v2) 36 v4.toNatClampNeg v3) 33 0 (((xu (xu (xu S 34 v4.toNatClampNeg v1) 35 v4.toNatClampNeg v2) 36 v4.toNatClampNeg v3) 33 0) + (1 : Int32)))
def kX1_insert_b16 (L : LX) (v1 : Int32) (v2 : Int32) (v3 : Int32) (post : SX → Prop) : Nat → Int32 → SX → Prop
  | 0, _, _ => False
  | n + 1, v4, S =>
    ((v4 ≤ 0 →
      kX1_insert_b88 L v1 v2 v3 post v4 S) ∧
    (¬ v4 ≤ 0 →
      vp_in (v4 - (1 : Int32)) 24 ∧ ((v2 ≤ (S 35 (v4 - (1 : Int32)).toNatClampNeg) →
        kX1_insert_b88 L v1 v2 v3 post v4 S) ∧
      (¬ v2 ≤ (S 35 (v4 - (1 : Int32)).toNatClampNeg) →
        vp_in (v4 - (1 : Int32)) 24 ∧ vp_in v4 24 ∧ vp_in (v4 - (1 : Int32)) 24 ∧ vp_in v4 24 ∧ vp_in (v4 - (1 : Int32)) 24 ∧ vp_in v4 24 ∧ (kX1_insert_b16 L v1 v2 v3 post n) (v4 + (-1 : Int32)) (xu (xu (xu S 34 v4.toNatClampNeg (S 34 (v4 - (1 : Int32)).toNatClampNeg)) 35 v4.toNatClampNeg ((xu S 34 v4.toNatClampNeg (S 34 (v4 - (1 : Int32)).toNatClampNeg)) 35 (v4 - (1 : Int32)).toNatClampNeg)) 36 v4.toNatClampNeg ((xu (xu S 34 v4.toNatClampNeg (S 34 (v4 - (1 : Int32)).toNatClampNeg)) 35 v4.toNatClampNeg ((xu S 34 v4.toNatClampNeg (S 34 (v4 - (1 : Int32)).toNatClampNeg)) 35 (v4 - (1 : Int32)).toNatClampNeg)) 36 (v4 - (1 : Int32)).toNatClampNeg))))))
def kX1_insert (S : SX) (L : LX) (v1 : Int32) (v2 : Int32) (v3 : Int32) (post : SX → Prop) : Prop :=
    (((S 33 0) < (24 : Int32) →
      ∃ n16 : Nat, kX1_insert_b16 L v1 v2 v3 post n16 (S 33 0) S) ∧
    (¬ (S 33 0) < (24 : Int32) →
      post S))
def kX1_gather_b8 (L : LX) (v2 : Int32) (v3 : Int32) (post : SX → Prop) : Nat → Int32 → SX → Prop
  | 0, _, _ => False
  | n + 1, v4, S =>
    (((S 8 0) ≤ v4 →
      post S) ∧
    (¬ (S 8 0) ≤ v4 →
      vp_in v4 24 ∧ (((S 9 v4.toNatClampNeg) = v2 →
        kX5_isInBook S L v4 v3 (fun r38 =>
        ((r38 = 0 →
          (kX1_gather_b8 L v2 v3 post n) (v4 + (1 : Int32)) S) ∧
        (¬ r38 = 0 →
          kX5_sworn S L v4 v3 (fun r51 =>
          kX5_weight S L v4 v3 (fun r58 =>
          kX1_insert S L v4 r51 r58 (fun S61 =>
          (kX1_gather_b8 L v2 v3 post n) (v4 + (1 : Int32)) S61))))))) ∧
      (¬ (S 9 v4.toNatClampNeg) = v2 →
        (kX1_gather_b8 L v2 v3 post n) (v4 + (1 : Int32)) S))))
def kX1_gather (S : SX) (L : LX) (v2 : Int32) (v3 : Int32) (post : SX → Prop) : Prop :=
    ∃ n8 : Nat, kX1_gather_b8 L v2 v3 post n8 (0 : Int32) (xu S 33 0 (0 : Int32))
def kX1_sumAll_b5 (S : SX) (L : LX) (v1 : Int32) (post : Int64 → Prop) : Nat → Int64 → Int32 → Prop
  | 0, _, _ => False
  | n + 1, v2, v4 =>
    (((S 33 0) ≤ v4 →
      post v2) ∧
    (¬ (S 33 0) ≤ v4 →
      vp_in v4 24 ∧ (((S 34 v4.toNatClampNeg) = v1 →
        (kX1_sumAll_b5 S L v1 post n) v2 (v4 + (1 : Int32))) ∧
      (¬ (S 34 v4.toNatClampNeg) = v1 →
        vp_in v4 24 ∧ vp_in v4 24 ∧ (kX1_sumAll_b5 S L v1 post n) (v2 + (((S 35 v4.toNatClampNeg).toInt64) * ((S 36 v4.toNatClampNeg).toInt64))) (v4 + (1 : Int32))))))
def kX1_sumAll (S : SX) (L : LX) (v1 : Int32) (post : Int64 → Prop) : Prop :=
    ∃ n5 : Nat, kX1_sumAll_b5 S L v1 post n5 (0 : Int64) (0 : Int32)
def kX1_sumTop_b9 (S : SX) (L : LX) (v1 : Int64) (v3 : Int32) (post : Int64 → Prop) : Nat → Int64 → Int64 → Int32 → Prop
  | 0, _, _, _ => False
  | n + 1, v4, v6, v8 =>
    (((S 33 0) ≤ v8 →
      post v4) ∧
    (¬ (S 33 0) ≤ v8 →
      vp_in v8 24 ∧ (((S 34 v8.toNatClampNeg) = v3 →
        (kX1_sumTop_b9 S L v1 v3 post n) v4 v6 (v8 + (1 : Int32))) ∧
      (¬ (S 34 v8.toNatClampNeg) = v3 →
        vp_in v8 24 ∧ vp_in v8 24 ∧ (kX1_sumTop_b9 S L v1 v3 post n) (v4 + (((S 35 v8.toNatClampNeg).toInt64) * (if v6 < ((10 : Int64) * ((S 36 v8.toNatClampNeg).toInt64)) then v6 else ((10 : Int64) * ((S 36 v8.toNatClampNeg).toInt64))))) (v6 - (if v6 < ((10 : Int64) * ((S 36 v8.toNatClampNeg).toInt64)) then v6 else ((10 : Int64) * ((S 36 v8.toNatClampNeg).toInt64)))) (v8 + (1 : Int32))))))
def kX1_sumTop (S : SX) (L : LX) (v1 : Int64) (v3 : Int32) (post : Int64 → Prop) : Prop :=
    ∃ n9 : Nat, kX1_sumTop_b9 S L v1 v3 post n9 (0 : Int64) v1 (0 : Int32)
def kX6_divided (S : SX) (L : LX) (v0 : Int64) (v2 : Int64) (post : Int64 → Prop) : Prop :=
    ((v2 = (0 : Int64) →
      post (0 : Int64)) ∧
    (¬ v2 = (0 : Int64) →
      ¬ v2 = 0 ∧ post (v0 / v2)))
def kX6_parts (S : SX) (L : LX) (v0 : Int64) (v2 : Int64) (post : Int32 → Prop) : Prop :=
    kX6_divided S L (v0 * (10000 : Int64)) v2 (fun r6 =>
    post r6.toInt32)
def kX6_commonDivisor_b9 (S : SX) (L : LX) (v0 : Int64) (v2 : Int64) (post : Int64 → Prop) : Nat → Int64 → Int64 → Int32 → Prop
  | 0, _, _, _ => False
  | n + 1, v4, v6, v8 =>
    (((100 : Int32) ≤ v8 →
      post v4) ∧
    (¬ (100 : Int32) ≤ v8 →
      ((v6 = (0 : Int64) →
        post v4) ∧
      (¬ v6 = (0 : Int64) →
        ¬ v6 = 0 ∧ (kX6_commonDivisor_b9 S L v0 v2 post n) v6 (v4 - v4 / v6 * v6) (v8 + (1 : Int32))))))
def kX6_commonDivisor (S : SX) (L : LX) (v0 : Int64) (v2 : Int64) (post : Int64 → Prop) : Prop :=
    ∃ n9 : Nat, kX6_commonDivisor_b9 S L v0 v2 post n9 v0 v2 (0 : Int32)
def kX6_share_b125 (L : LX) (v1 : Int32) (v2 : Int32) (v3 : Int32) (post : Int64 → SX → Prop) (v10 : Int64) (z0 : Int64) (S : SX) : Prop :=
    kX6_divided S L z0 v10 (fun r127 =>
    post r127 S)
def kX6_share (S : SX) (L : LX) (v1 : Int32) (v2 : Int32) (v3 : Int32) (post : Int64 → SX → Prop) : Prop :=
    kX6_isYear S L v1 (fun r1 =>
    ((r1 = 0 →
      post (-1 : Int64) S) ∧
    (¬ r1 = 0 →
      kX6_isTop S L v2 (fun r8 =>
      ((r8 = 0 →
        post (-1 : Int64) S) ∧
      (¬ r8 = 0 →
        kX6_isWithin S L v3.toInt64 (0 : Int64) (2 : Int64) (fun r20 =>
        ((r20 = 0 →
          post (-1 : Int64) S) ∧
        (¬ r20 = 0 →
          kX1_gather S L v1 v1 (fun S40 =>
          kX1_sumAll S40 L (-1 : Int32) (fun r48 =>
          ((r48 = (0 : Int64) →
            post (-4 : Int64) S40) ∧
          (¬ r48 = (0 : Int64) →
            kX5_topRoom S40 L v1 v2 (fun r74 =>
            kX1_sumTop S40 L r74 (-1 : Int32) (fun r78 =>
            ((v3 = (2 : Int32) →
              kX6_parts S40 L r78 r48 (fun r100 =>
              post r100.toInt64 S40)) ∧
            (¬ v3 = (2 : Int32) →
              kX6_commonDivisor S40 L r78 ((10 : Int64) * r48) (fun r109 =>
              ((v3 = 0 →
                kX6_share_b125 L v1 v2 v3 post r109 r78 S40) ∧
              (¬ v3 = 0 →
                kX6_share_b125 L v1 v2 v3 post r109 ((10 : Int64) * r48) S40))))))))))))))))))))
def kX1_partsOfTop (S : SX) (L : LX) (v1 : Int64) (v3 : Int32) (post : Int32 → Prop) : Prop :=
    kX1_sumAll S L v3 (fun r2 =>
    ((r2 = (0 : Int64) →
      post (-4 : Int32)) ∧
    (¬ r2 = (0 : Int64) →
      kX1_sumTop S L v1 v3 (fun r22 =>
      kX6_parts S L r22 r2 (fun r27 =>
      post r27)))))
def kX6_noneAsZero (S : SX) (L : LX) (v0 : Int32) (post : Int32 → Prop) : Prop :=
    ((v0 = (-4 : Int32) →
      post (0 : Int32)) ∧
    (¬ v0 = (-4 : Int32) →
      post v0))
def kX6_maker_b84 (L : LX) (v1 : Int32) (v2 : Int32) (v3 : Int32) (v4 : Int64) (v6 : Int32) (post : Int32 → SX → Prop) : Nat → Int32 → Int32 → Int32 → Int32 → SX → Prop
  | 0, _, _, _, _, _ => False
  | n + 1, v7, v8, v9, v10, S =>
    (((S 33 0) ≤ v10 →
      ((v3 = 0 →
        post v7 S) ∧
      (¬ v3 = 0 →
        post v9 S))) ∧
    (¬ (S 33 0) ≤ v10 →
      vp_in v10 24 ∧ kX1_partsOfTop S L v4 (S 34 v10.toNatClampNeg) (fun r116 =>
      kX6_noneAsZero S L r116 (fun r119 =>
      ((v8 < (if 0 ≤ (r119 - v6) then (r119 - v6) else 0 - (r119 - v6)) →
        (kX6_maker_b84 L v1 v2 v3 v4 v6 post n) (S 34 v10.toNatClampNeg) (if 0 ≤ (r119 - v6) then (r119 - v6) else 0 - (r119 - v6)) r119 (v10 + (1 : Int32)) S) ∧
      (¬ v8 < (if 0 ≤ (r119 - v6) then (r119 - v6) else 0 - (r119 - v6)) →
        (((if 0 ≤ (r119 - v6) then (r119 - v6) else 0 - (r119 - v6)) = v8 →
          ((v7 ≤ (S 34 v10.toNatClampNeg) →
            (kX6_maker_b84 L v1 v2 v3 v4 v6 post n) v7 v8 v9 (v10 + (1 : Int32)) S) ∧
          (¬ v7 ≤ (S 34 v10.toNatClampNeg) →
            (kX6_maker_b84 L v1 v2 v3 v4 v6 post n) (S 34 v10.toNatClampNeg) (if 0 ≤ (r119 - v6) then (r119 - v6) else 0 - (r119 - v6)) r119 (v10 + (1 : Int32)) S))) ∧
        (¬ (if 0 ≤ (r119 - v6) then (r119 - v6) else 0 - (r119 - v6)) = v8 →
          (kX6_maker_b84 L v1 v2 v3 v4 v6 post n) v7 v8 v9 (v10 + (1 : Int32)) S))))))))
def kX6_maker (S : SX) (L : LX) (v1 : Int32) (v2 : Int32) (v3 : Int32) (post : Int32 → SX → Prop) : Prop :=
    kX6_isYear S L v1 (fun r1 =>
    ((r1 = 0 →
      post (-1 : Int32) S) ∧
    (¬ r1 = 0 →
      kX6_isTop S L v2 (fun r8 =>
      ((r8 = 0 →
        post (-1 : Int32) S) ∧
      (¬ r8 = 0 →
        kX6_isWithin S L v3.toInt64 (0 : Int64) (1 : Int64) (fun r18 =>
        ((r18 = 0 →
          post (-1 : Int32) S) ∧
        (¬ r18 = 0 →
          kX1_gather S L v1 v1 (fun S36 =>
          kX5_topRoom S36 L v1 v2 (fun r45 =>
          kX1_partsOfTop S36 L r45 (-1 : Int32) (fun r57 =>
          ((r57 = (-4 : Int32) →
            post (-4 : Int32) S36) ∧
          (¬ r57 = (-4 : Int32) →
            ∃ n84 : Nat, kX6_maker_b84 L v1 v2 v3 r45 r57 post n84 (-1 : Int32) (-1 : Int32) (0 : Int32) (0 : Int32) S36))))))))))))))
def kX6_span_b79 (L : LX) (v1 : Int32) (v2 : Int32) (v3 : Int32) (v4 : Int64) (post : Int32 → SX → Prop) : Nat → Int32 → Int32 → Int32 → SX → Prop
  | 0, _, _, _, _ => False
  | n + 1, v6, v7, v8, S =>
    (((S 33 0) ≤ v8 →
      ((v3 = 0 →
        post v6 S) ∧
      (¬ v3 = 0 →
        post v7 S))) ∧
    (¬ (S 33 0) ≤ v8 →
      vp_in v8 24 ∧ kX1_partsOfTop S L v4 (S 34 v8.toNatClampNeg) (fun r107 =>
      kX6_noneAsZero S L r107 (fun r110 =>
      (kX6_span_b79 L v1 v2 v3 v4 post n) (if r110 < v6 then r110 else v6) (if v7 < r110 then r110 else v7) (v8 + (1 : Int32)) S))))
def kX6_span (S : SX) (L : LX) (v1 : Int32) (v2 : Int32) (v3 : Int32) (post : Int32 → SX → Prop) : Prop :=
    kX6_isYear S L v1 (fun r1 =>
    ((r1 = 0 →
      post (-1 : Int32) S) ∧
    (¬ r1 = 0 →
      kX6_isTop S L v2 (fun r8 =>
      ((r8 = 0 →
        post (-1 : Int32) S) ∧
      (¬ r8 = 0 →
        kX6_isWithin S L v3.toInt64 (0 : Int64) (1 : Int64) (fun r18 =>
        ((r18 = 0 →
          post (-1 : Int32) S) ∧
        (¬ r18 = 0 →
          kX1_gather S L v1 v1 (fun S36 =>
          kX5_topRoom S36 L v1 v2 (fun r45 =>
          kX1_partsOfTop S36 L r45 (-1 : Int32) (fun r57 =>
          ((r57 = (-4 : Int32) →
            post (-4 : Int32) S36) ∧
          (¬ r57 = (-4 : Int32) →
            ∃ n79 : Nat, kX6_span_b79 L v1 v2 v3 r45 post n79 r57 r57 (0 : Int32) S36))))))))))))))
def kX6_smooth_b53 (L : LX) (v1 : Int32) (v2 : Int32) (v3 : Int32) (v8 : Int32) (post : Int32 → SX → Prop) : Nat → Int64 → Int64 → Int32 → SX → Prop
  | 0, _, _, _, _ => False
  | n + 1, v4, v6, v9, S =>
    ((v8 < v9 →
      ((v6 = (0 : Int64) →
        post (-4 : Int32) S) ∧
      (¬ v6 = (0 : Int64) →
        kX6_parts S L v4 v6 (fun r133 =>
        post r133 S)))) ∧
    (¬ v8 < v9 →
      kX1_gather S L v9 v9 (fun S72 =>
      kX5_topRoom S72 L v9 v2 (fun r88 =>
      kX1_sumTop S72 L r88 (-1 : Int32) (fun r92 =>
      kX1_sumAll S72 L (-1 : Int32) (fun r105 =>
      (kX6_smooth_b53 L v1 v2 v3 v8 post n) (v4 + r92) (v6 + r105) (v9 + (1 : Int32)) S72))))))
def kX6_smooth (S : SX) (L : LX) (v1 : Int32) (v2 : Int32) (v3 : Int32) (post : Int32 → SX → Prop) : Prop :=
    kX6_isYear S L v1 (fun r1 =>
    ((r1 = 0 →
      post (-1 : Int32) S) ∧
    (¬ r1 = 0 →
      kX6_isTop S L v2 (fun r8 =>
      ((r8 = 0 →
        post (-1 : Int32) S) ∧
      (¬ r8 = 0 →
        kX6_isWithin S L v3.toInt64 (0 : Int64) (3 : Int64) (fun r20 =>
        ((r20 = 0 →
          post (-1 : Int32) S) ∧
        (¬ r20 = 0 →
          ∃ n53 : Nat, kX6_smooth_b53 L v1 v2 v3 (if (7 : Int32) < (v1 + v3) then (7 : Int32) else (v1 + v3)) post n53 (0 : Int64) (0 : Int64) (if (v1 - v3) < (0 : Int32) then (0 : Int32) else (v1 - v3)) S)))))))))
def kX6_partsOfYear (S : SX) (L : LX) (v1 : Int32) (v2 : Int32) (v3 : Int32) (post : Int32 → SX → Prop) : Prop :=
    kX1_gather S L v1 v2 (fun S10 =>
    kX5_topRoom S10 L v1 v3 (fun r23 =>
    kX1_partsOfTop S10 L r23 (-1 : Int32) (fun r27 =>
    post r27 S10)))
def kX6_jump_b38 (L : LX) (v1 : Int32) (v2 : Int32) (post : Int32 → SX → Prop) : Nat → Int32 → Int32 → Int32 → Int32 → SX → Prop
  | 0, _, _, _, _, _ => False
  | n + 1, v3, v4, v5, v6, S =>
    (((7 : Int32) ≤ v6 →
      ((v2 = 0 →
        post v3 S) ∧
      (¬ v2 = 0 →
        post v4 S))) ∧
    (¬ (7 : Int32) ≤ v6 →
      kX6_partsOfYear S L (v6 + (1 : Int32)) (v6 + (1 : Int32)) v1 (fun r55 S55 =>
      ((v5 = (-4 : Int32) →
        (kX6_jump_b38 L v1 v2 post n) v3 v4 r55 (v6 + (1 : Int32)) S55) ∧
      (¬ v5 = (-4 : Int32) →
        ((r55 = (-4 : Int32) →
          (kX6_jump_b38 L v1 v2 post n) v3 v4 r55 (v6 + (1 : Int32)) S55) ∧
        (¬ r55 = (-4 : Int32) →
          (((if 0 ≤ (r55 - v5) then (r55 - v5) else 0 - (r55 - v5)) ≤ v4 →
            (kX6_jump_b38 L v1 v2 post n) v3 v4 r55 (v6 + (1 : Int32)) S55) ∧
          (¬ (if 0 ≤ (r55 - v5) then (r55 - v5) else 0 - (r55 - v5)) ≤ v4 →
            (kX6_jump_b38 L v1 v2 post n) v6 (if 0 ≤ (r55 - v5) then (r55 - v5) else 0 - (r55 - v5)) r55 (v6 + (1 : Int32)) S55)))))))))
def kX6_jump (S : SX) (L : LX) (v1 : Int32) (v2 : Int32) (post : Int32 → SX → Prop) : Prop :=
    kX6_isTop S L v1 (fun r1 =>
    ((r1 = 0 →
      post (-1 : Int32) S) ∧
    (¬ r1 = 0 →
      kX6_isWithin S L v2.toInt64 (0 : Int64) (1 : Int64) (fun r11 =>
      ((r11 = 0 →
        post (-1 : Int32) S) ∧
      (¬ r11 = 0 →
        kX6_partsOfYear S L (0 : Int32) (0 : Int32) v1 (fun r30 S30 =>
        ∃ n38 : Nat, kX6_jump_b38 L v1 v2 post n38 (-4 : Int32) (-4 : Int32) r30 (0 : Int32) S30)))))))
def kX6_alone (S : SX) (L : LX) (v1 : Int32) (v2 : Int32) (v3 : Int32) (post : Int64 → SX → Prop) : Prop :=
    kX6_isYear S L v1 (fun r1 =>
    ((r1 = 0 →
      post (-1000000000000000001 : Int64) S) ∧
    (¬ r1 = 0 →
      kX6_isYear S L v2 (fun r8 =>
      ((r8 = 0 →
        post (-1000000000000000001 : Int64) S) ∧
      (¬ r8 = 0 →
        kX6_isTop S L v3 (fun r15 =>
        ((r15 = 0 →
          post (-1000000000000000001 : Int64) S) ∧
        (¬ r15 = 0 →
          kX6_partsOfYear S L v1 v2 v3 (fun r29 S29 =>
          kX6_noneAsZero S29 L r29 (fun r32 =>
          kX6_partsOfYear S29 L v1 v1 v3 (fun r39 S39 =>
          kX6_noneAsZero S39 L r39 (fun r42 =>
          post ((r32 - r42).toInt64) S39)))))))))))))
def kX6_bounds_b109 (L : LX) (v1 : Int32) (v2 : Int32) (v3 : Int32) (post : Int32 → SX → Prop) (v6 : Int64) (z0 : Int64) (S : SX) : Prop :=
    kX6_parts S L z0 v6 (fun r111 =>
    post r111 S)
def kX6_bounds (S : SX) (L : LX) (v1 : Int32) (v2 : Int32) (v3 : Int32) (post : Int32 → SX → Prop) : Prop :=
    kX6_isYear S L v1 (fun r1 =>
    ((r1 = 0 →
      post (-1 : Int32) S) ∧
    (¬ r1 = 0 →
      kX6_isTop S L v2 (fun r8 =>
      ((r8 = 0 →
        post (-1 : Int32) S) ∧
      (¬ r8 = 0 →
        kX6_isWithin S L v3.toInt64 (0 : Int64) (1 : Int64) (fun r18 =>
        ((r18 = 0 →
          post (-1 : Int32) S) ∧
        (¬ r18 = 0 →
          kX1_gather S L v1 v1 (fun S36 =>
          kX5_sumUnseen S36 L v1 (fun r44 =>
          kX1_sumAll S36 L (-1 : Int32) (fun r54 =>
          (((r54 + r44) = (0 : Int64) →
            post (-4 : Int32) S36) ∧
          (¬ (r54 + r44) = (0 : Int64) →
            kX5_topRoom S36 L v1 v2 (fun r82 =>
            kX1_sumTop S36 L r82 (-1 : Int32) (fun r86 =>
            ((v3 = 0 →
              kX6_bounds_b109 L v1 v2 v3 post (r54 + r44) r86 S36) ∧
            (¬ v3 = 0 →
              kX6_bounds_b109 L v1 v2 v3 post (r54 + r44) (r86 + ((10 : Int64) * r44)) S36))))))))))))))))))
def kX0_greatestKeen_b4 (S : SX) (L : LX) (v1 : Int32) (post : Int32 → Prop) : Nat → Int32 → Int32 → Prop
  | 0, _, _ => False
  | n + 1, v2, v3 =>
    (((8 : Int32) ≤ v3 →
      post v2) ∧
    (¬ (8 : Int32) ≤ v3 →
      ((((v1 >>> (v3 &&& 31)) &&& (1 : Int32)) = (1 : Int32) →
        vp_in v3 8 ∧ (((S 5 v3.toNatClampNeg) ≤ 0 →
          (kX0_greatestKeen_b4 S L v1 post n) v2 (v3 + (1 : Int32))) ∧
        (¬ (S 5 v3.toNatClampNeg) ≤ 0 →
          vp_in v3 8 ∧ (kX0_greatestKeen_b4 S L v1 post n) (if v2 < (S 6 v3.toNatClampNeg) then (S 6 v3.toNatClampNeg) else v2) (v3 + (1 : Int32))))) ∧
      (¬ ((v1 >>> (v3 &&& 31)) &&& (1 : Int32)) = (1 : Int32) →
        (kX0_greatestKeen_b4 S L v1 post n) v2 (v3 + (1 : Int32))))))
def kX0_greatestKeen (S : SX) (L : LX) (v1 : Int32) (post : Int32 → Prop) : Prop :=
    ∃ n4 : Nat, kX0_greatestKeen_b4 S L v1 post n4 (0 : Int32) (0 : Int32)
def kX6_heap (S : SX) (L : LX) (v1 : Int32) (v2 : Int32) (v3 : Int32) (post : Int32 → Prop) : Prop :=
    kX6_isWithin S L v1.toInt64 (1 : Int64) (255 : Int64) (fun r6 =>
    ((r6 = 0 →
      post (-1 : Int32)) ∧
    (¬ r6 = 0 →
      kX6_isWithin S L v2.toInt64 (1 : Int64) (999 : Int64) (fun r18 =>
      ((r18 = 0 →
        post (-1 : Int32)) ∧
      (¬ r18 = 0 →
        kX6_isWithin S L v3.toInt64 (0 : Int64) (3 : Int64) (fun r30 =>
        ((r30 = 0 →
          post (-1 : Int32)) ∧
        (¬ r30 = 0 →
          kX5_howManyNearLine S L v1 (-v2) (0 : Int32) (fun r46 =>
          kX5_howManyNearLine S L v1 (1 : Int32) v2 (fun r58 =>
          (
          (v3 = (0 : Int32) →
            post (if (r46 - r58) < (0 : Int32) then (0 : Int32) else (r46 - r58))) ∧
          (v3 = (1 : Int32) →
            kX0_greatestKeen S L v1 (fun r113 =>
            post ((if (r46 - r58) < (0 : Int32) then (0 : Int32) else (r46 - r58)) * r113))) ∧
          (v3 = (2 : Int32) →
            post r46) ∧
          (¬ v3 = (0 : Int32) → ¬ v3 = (1 : Int32) → ¬ v3 = (2 : Int32) →
            post r58)))))))))))))
def kX6_beside (S : SX) (L : LX) (v1 : Int32) (v2 : Int64) (v4 : Int64) (post : Int32 → SX → LX → Prop) : Prop :=
    kX6_isYear S L v1 (fun r1 =>
    ((r1 = 0 →
      post (-1 : Int32) S L) ∧
    (¬ r1 = 0 →
      kX6_isWithin S L v2 (0 : Int64) (1000000000000000 : Int64) (fun r12 =>
      ((r12 = 0 →
        post (-1 : Int32) S L) ∧
      (¬ r12 = 0 →
        kX6_isWithin S L v4 v2 (1000000000000000 : Int64) (fun r24 =>
        ((r24 = 0 →
          post (-1 : Int32) S L) ∧
        (¬ r24 = 0 →
          vp_in v1 8 ∧ vp_in v1 8 ∧ post (1 : Int32) (xu S 1 2 ((S 1 2) ||| ((1 : Int32) <<< (v1 &&& 31)))) (xuL (xuL L 15 v1.toNatClampNeg v2) 16 v1.toNatClampNeg v4))))))))))
def kX6_fights_b4 (S : SX) (L : LX) (post : Int32 → Prop) : Nat → Int32 → Int32 → Prop
  | 0, _, _ => False
  | n + 1, v1, v2 =>
    (((8 : Int32) ≤ v2 →
      post v1) ∧
    (¬ (8 : Int32) ≤ v2 →
      (((((S 1 2) >>> (v2 &&& 31)) &&& (1 : Int32)) = (1 : Int32) →
        kX5_isFighting S L v2 (fun r30 =>
        ((r30 = 0 →
          (kX6_fights_b4 S L post n) v1 (v2 + (1 : Int32))) ∧
        (¬ r30 = 0 →
          (kX6_fights_b4 S L post n) (v1 ||| ((1 : Int32) <<< (v2 &&& 31))) (v2 + (1 : Int32)))))) ∧
      (¬ (((S 1 2) >>> (v2 &&& 31)) &&& (1 : Int32)) = (1 : Int32) →
        (kX6_fights_b4 S L post n) v1 (v2 + (1 : Int32))))))
def kX6_fights (S : SX) (L : LX) (post : Int32 → Prop) : Prop :=
    ∃ n4 : Nat, kX6_fights_b4 S L post n4 (0 : Int32) (0 : Int32)
def kX6_fall (S : SX) (L : LX) (v1 : Int32) (v2 : Int32) (v3 : Int32) (post : Int64 → Prop) : Prop :=
    kX6_isYear S L v1 (fun r1 =>
    ((r1 = 0 →
      post (-1000000000000000001 : Int64)) ∧
    (¬ r1 = 0 →
      kX6_isYear S L v2 (fun r8 =>
      ((r8 = 0 →
        post (-1000000000000000001 : Int64)) ∧
      (¬ r8 = 0 →
        ((v1 = v2 →
          post (-1000000000000000001 : Int64)) ∧
        (¬ v1 = v2 →
          kX6_isWithin S L v3.toInt64 (0 : Int64) (2 : Int64) (fun r25 =>
          ((r25 = 0 →
            post (-1000000000000000001 : Int64)) ∧
          (¬ r25 = 0 →
            kX5_sumSworn S L v1 v1 (fun r41 =>
            kX5_sumSworn S L v1 v2 (fun r52 =>
            vp_in v2 8 ∧ vp_in v1 8 ∧ kX6_divided S L (r52 * ((S 14 v2.toNatClampNeg).toInt64)) ((S 14 v1.toNatClampNeg).toInt64) (fun r80 =>
            (
            (v3 = (0 : Int32) →
              post (r52 - r41)) ∧
            (v3 = (1 : Int32) →
              post (r80 - r52)) ∧
            (¬ v3 = (0 : Int32) → ¬ v3 = (1 : Int32) →
              kX5_sumSworn S L v2 v2 (fun r130 =>
              post (r130 - r80))))))))))))))))))
def kX0_takeFrom_19_3 (S : SX) (L : LX) (post : SX → Prop) : Prop :=
    (¬ (0 : Int32) < 0 ∧ ¬ (0 : Int32) < 0 ∧ ¬ (8 : Int32) < 0 ∧ (0 : Int32).toNatClampNeg + (8 : Int32).toNatClampNeg ≤ 8 ∧ (0 : Int32).toNatClampNeg + (8 : Int32).toNatClampNeg ≤ 8) ∧ (¬ (0 : Int32) < 0 ∧ ¬ (0 : Int32) < 0 ∧ ¬ (8 : Int32) < 0 ∧ (0 : Int32).toNatClampNeg + (8 : Int32).toNatClampNeg ≤ 8 ∧ (0 : Int32).toNatClampNeg + (8 : Int32).toNatClampNeg ≤ 8) ∧ (¬ (0 : Int32) < 0 ∧ ¬ (0 : Int32) < 0 ∧ ¬ (8 : Int32) < 0 ∧ (0 : Int32).toNatClampNeg + (8 : Int32).toNatClampNeg ≤ 8 ∧ (0 : Int32).toNatClampNeg + (8 : Int32).toNatClampNeg ≤ 8) ∧ (¬ (0 : Int32) < 0 ∧ ¬ (0 : Int32) < 0 ∧ ¬ (8 : Int32) < 0 ∧ (0 : Int32).toNatClampNeg + (8 : Int32).toNatClampNeg ≤ 8 ∧ (0 : Int32).toNatClampNeg + (8 : Int32).toNatClampNeg ≤ 8) ∧ post (xcp (xcp (xcp (xcp S 20 4 (0 : Int32).toNatClampNeg (0 : Int32).toNatClampNeg (8 : Int32).toNatClampNeg) 21 5 (0 : Int32).toNatClampNeg (0 : Int32).toNatClampNeg (8 : Int32).toNatClampNeg) 22 6 (0 : Int32).toNatClampNeg (0 : Int32).toNatClampNeg (8 : Int32).toNatClampNeg) 23 7 (0 : Int32).toNatClampNeg (0 : Int32).toNatClampNeg (8 : Int32).toNatClampNeg)
def kX4_move_24_8 (S : SX) (L : LX) (v2 : Int32) (v3 : Int32) (v4 : Int32) (post : SX → Prop) : Prop :=
    (¬ v2 < 0 ∧ ¬ v3 < 0 ∧ ¬ v4 < 0 ∧ v2.toNatClampNeg + v4.toNatClampNeg ≤ 24 ∧ v3.toNatClampNeg + v4.toNatClampNeg ≤ 24) ∧ (¬ v2 < 0 ∧ ¬ v3 < 0 ∧ ¬ v4 < 0 ∧ v2.toNatClampNeg + v4.toNatClampNeg ≤ 24 ∧ v3.toNatClampNeg + v4.toNatClampNeg ≤ 24) ∧ (¬ v2 < 0 ∧ ¬ v3 < 0 ∧ ¬ v4 < 0 ∧ v2.toNatClampNeg + v4.toNatClampNeg ≤ 24 ∧ v3.toNatClampNeg + v4.toNatClampNeg ≤ 24) ∧ (¬ (v2 * (4 : Int32)) < 0 ∧ ¬ (v3 * (4 : Int32)) < 0 ∧ ¬ (v4 * (4 : Int32)) < 0 ∧ (v2 * (4 : Int32)).toNatClampNeg + (v4 * (4 : Int32)).toNatClampNeg ≤ 96 ∧ (v3 * (4 : Int32)).toNatClampNeg + (v4 * (4 : Int32)).toNatClampNeg ≤ 96) ∧ post (xcp (xcp (xcp (xcp S 25 9 v2.toNatClampNeg v3.toNatClampNeg v4.toNatClampNeg) 26 10 v2.toNatClampNeg v3.toNatClampNeg v4.toNatClampNeg) 27 11 v2.toNatClampNeg v3.toNatClampNeg v4.toNatClampNeg) 28 12 (v2 * (4 : Int32)).toNatClampNeg (v3 * (4 : Int32)).toNatClampNeg (v4 * (4 : Int32)).toNatClampNeg)
def kX4_takeFrom_24 (S : SX) (L : LX) (post : SX → Prop) : Prop :=
    kX4_move_24_8 S L (0 : Int32) (0 : Int32) (S 8 0) (fun S8 =>
    post (xu S8 24 0 (S8 8 0)))
def kX5_takeFrom_17 (S : SX) (L : LX) (post : SX → LX → Prop) : Prop :=
    (¬ (0 : Int32) < 0 ∧ ¬ (0 : Int32) < 0 ∧ ¬ (6 : Int32) < 0 ∧ (0 : Int32).toNatClampNeg + (6 : Int32).toNatClampNeg ≤ 6 ∧ (0 : Int32).toNatClampNeg + (6 : Int32).toNatClampNeg ≤ 6) ∧ kX0_takeFrom_19_3 (xu (xu (xcp S 18 2 (0 : Int32).toNatClampNeg (0 : Int32).toNatClampNeg (6 : Int32).toNatClampNeg) 17 0 ((xcp S 18 2 (0 : Int32).toNatClampNeg (0 : Int32).toNatClampNeg (6 : Int32).toNatClampNeg) 1 0)) 17 1 ((xu (xcp S 18 2 (0 : Int32).toNatClampNeg (0 : Int32).toNatClampNeg (6 : Int32).toNatClampNeg) 17 0 ((xcp S 18 2 (0 : Int32).toNatClampNeg (0 : Int32).toNatClampNeg (6 : Int32).toNatClampNeg) 1 0)) 1 1)) L (fun S39 =>
    kX4_takeFrom_24 S39 L (fun S50 =>
    (¬ (0 : Int32) < 0 ∧ ¬ (0 : Int32) < 0 ∧ ¬ (8 : Int32) < 0 ∧ (0 : Int32).toNatClampNeg + (8 : Int32).toNatClampNeg ≤ 8 ∧ (0 : Int32).toNatClampNeg + (8 : Int32).toNatClampNeg ≤ 8) ∧ (¬ (0 : Int32) < 0 ∧ ¬ (0 : Int32) < 0 ∧ ¬ (8 : Int32) < 0 ∧ (0 : Int32).toNatClampNeg + (8 : Int32).toNatClampNeg ≤ 8 ∧ (0 : Int32).toNatClampNeg + (8 : Int32).toNatClampNeg ≤ 8) ∧ (¬ (0 : Int32) < 0 ∧ ¬ (0 : Int32) < 0 ∧ ¬ (8 : Int32) < 0 ∧ (0 : Int32).toNatClampNeg + (8 : Int32).toNatClampNeg ≤ 8 ∧ (0 : Int32).toNatClampNeg + (8 : Int32).toNatClampNeg ≤ 8) ∧ (¬ (0 : Int32) < 0 ∧ ¬ (0 : Int32) < 0 ∧ ¬ (8 : Int32) < 0 ∧ (0 : Int32).toNatClampNeg + (8 : Int32).toNatClampNeg ≤ 8 ∧ (0 : Int32).toNatClampNeg + (8 : Int32).toNatClampNeg ≤ 8) ∧ post (xu (xcp (xcp S50 29 13 (0 : Int32).toNatClampNeg (0 : Int32).toNatClampNeg (8 : Int32).toNatClampNeg) 30 14 (0 : Int32).toNatClampNeg (0 : Int32).toNatClampNeg (8 : Int32).toNatClampNeg) 17 2 ((xcp (xcp S50 29 13 (0 : Int32).toNatClampNeg (0 : Int32).toNatClampNeg (8 : Int32).toNatClampNeg) 30 14 (0 : Int32).toNatClampNeg (0 : Int32).toNatClampNeg (8 : Int32).toNatClampNeg) 1 2)) (xcpL (xcpL L 31 15 (0 : Int32).toNatClampNeg (0 : Int32).toNatClampNeg (8 : Int32).toNatClampNeg) 32 16 (0 : Int32).toNatClampNeg (0 : Int32).toNatClampNeg (8 : Int32).toNatClampNeg)))
def kX6_image (S : SX) (L : LX) (post : Int32 → SX → LX → Prop) : Prop :=
    kX5_takeFrom_17 S L (fun S8 L8 =>
    post (1 : Int32) (xu S8 0 0 (1 : Int32)) L8)
def kX0_takeFrom_3_19 (S : SX) (L : LX) (post : SX → Prop) : Prop :=
    (¬ (0 : Int32) < 0 ∧ ¬ (0 : Int32) < 0 ∧ ¬ (8 : Int32) < 0 ∧ (0 : Int32).toNatClampNeg + (8 : Int32).toNatClampNeg ≤ 8 ∧ (0 : Int32).toNatClampNeg + (8 : Int32).toNatClampNeg ≤ 8) ∧ (¬ (0 : Int32) < 0 ∧ ¬ (0 : Int32) < 0 ∧ ¬ (8 : Int32) < 0 ∧ (0 : Int32).toNatClampNeg + (8 : Int32).toNatClampNeg ≤ 8 ∧ (0 : Int32).toNatClampNeg + (8 : Int32).toNatClampNeg ≤ 8) ∧ (¬ (0 : Int32) < 0 ∧ ¬ (0 : Int32) < 0 ∧ ¬ (8 : Int32) < 0 ∧ (0 : Int32).toNatClampNeg + (8 : Int32).toNatClampNeg ≤ 8 ∧ (0 : Int32).toNatClampNeg + (8 : Int32).toNatClampNeg ≤ 8) ∧ (¬ (0 : Int32) < 0 ∧ ¬ (0 : Int32) < 0 ∧ ¬ (8 : Int32) < 0 ∧ (0 : Int32).toNatClampNeg + (8 : Int32).toNatClampNeg ≤ 8 ∧ (0 : Int32).toNatClampNeg + (8 : Int32).toNatClampNeg ≤ 8) ∧ post (xcp (xcp (xcp (xcp S 4 20 (0 : Int32).toNatClampNeg (0 : Int32).toNatClampNeg (8 : Int32).toNatClampNeg) 5 21 (0 : Int32).toNatClampNeg (0 : Int32).toNatClampNeg (8 : Int32).toNatClampNeg) 6 22 (0 : Int32).toNatClampNeg (0 : Int32).toNatClampNeg (8 : Int32).toNatClampNeg) 7 23 (0 : Int32).toNatClampNeg (0 : Int32).toNatClampNeg (8 : Int32).toNatClampNeg)
def kX4_move_8_24 (S : SX) (L : LX) (v2 : Int32) (v3 : Int32) (v4 : Int32) (post : SX → Prop) : Prop :=
    (¬ v2 < 0 ∧ ¬ v3 < 0 ∧ ¬ v4 < 0 ∧ v2.toNatClampNeg + v4.toNatClampNeg ≤ 24 ∧ v3.toNatClampNeg + v4.toNatClampNeg ≤ 24) ∧ (¬ v2 < 0 ∧ ¬ v3 < 0 ∧ ¬ v4 < 0 ∧ v2.toNatClampNeg + v4.toNatClampNeg ≤ 24 ∧ v3.toNatClampNeg + v4.toNatClampNeg ≤ 24) ∧ (¬ v2 < 0 ∧ ¬ v3 < 0 ∧ ¬ v4 < 0 ∧ v2.toNatClampNeg + v4.toNatClampNeg ≤ 24 ∧ v3.toNatClampNeg + v4.toNatClampNeg ≤ 24) ∧ (¬ (v2 * (4 : Int32)) < 0 ∧ ¬ (v3 * (4 : Int32)) < 0 ∧ ¬ (v4 * (4 : Int32)) < 0 ∧ (v2 * (4 : Int32)).toNatClampNeg + (v4 * (4 : Int32)).toNatClampNeg ≤ 96 ∧ (v3 * (4 : Int32)).toNatClampNeg + (v4 * (4 : Int32)).toNatClampNeg ≤ 96) ∧ post (xcp (xcp (xcp (xcp S 9 25 v2.toNatClampNeg v3.toNatClampNeg v4.toNatClampNeg) 10 26 v2.toNatClampNeg v3.toNatClampNeg v4.toNatClampNeg) 11 27 v2.toNatClampNeg v3.toNatClampNeg v4.toNatClampNeg) 12 28 (v2 * (4 : Int32)).toNatClampNeg (v3 * (4 : Int32)).toNatClampNeg (v4 * (4 : Int32)).toNatClampNeg)
def kX4_takeFrom_8 (S : SX) (L : LX) (post : SX → Prop) : Prop :=
    kX4_move_8_24 S L (0 : Int32) (0 : Int32) (S 24 0) (fun S8 =>
    post (xu S8 8 0 (S8 24 0)))
def kX5_takeFrom_1 (S : SX) (L : LX) (post : SX → LX → Prop) : Prop :=
    (¬ (0 : Int32) < 0 ∧ ¬ (0 : Int32) < 0 ∧ ¬ (6 : Int32) < 0 ∧ (0 : Int32).toNatClampNeg + (6 : Int32).toNatClampNeg ≤ 6 ∧ (0 : Int32).toNatClampNeg + (6 : Int32).toNatClampNeg ≤ 6) ∧ kX0_takeFrom_3_19 (xu (xu (xcp S 2 18 (0 : Int32).toNatClampNeg (0 : Int32).toNatClampNeg (6 : Int32).toNatClampNeg) 1 0 ((xcp S 2 18 (0 : Int32).toNatClampNeg (0 : Int32).toNatClampNeg (6 : Int32).toNatClampNeg) 17 0)) 1 1 ((xu (xcp S 2 18 (0 : Int32).toNatClampNeg (0 : Int32).toNatClampNeg (6 : Int32).toNatClampNeg) 1 0 ((xcp S 2 18 (0 : Int32).toNatClampNeg (0 : Int32).toNatClampNeg (6 : Int32).toNatClampNeg) 17 0)) 17 1)) L (fun S39 =>
    kX4_takeFrom_8 S39 L (fun S50 =>
    (¬ (0 : Int32) < 0 ∧ ¬ (0 : Int32) < 0 ∧ ¬ (8 : Int32) < 0 ∧ (0 : Int32).toNatClampNeg + (8 : Int32).toNatClampNeg ≤ 8 ∧ (0 : Int32).toNatClampNeg + (8 : Int32).toNatClampNeg ≤ 8) ∧ (¬ (0 : Int32) < 0 ∧ ¬ (0 : Int32) < 0 ∧ ¬ (8 : Int32) < 0 ∧ (0 : Int32).toNatClampNeg + (8 : Int32).toNatClampNeg ≤ 8 ∧ (0 : Int32).toNatClampNeg + (8 : Int32).toNatClampNeg ≤ 8) ∧ (¬ (0 : Int32) < 0 ∧ ¬ (0 : Int32) < 0 ∧ ¬ (8 : Int32) < 0 ∧ (0 : Int32).toNatClampNeg + (8 : Int32).toNatClampNeg ≤ 8 ∧ (0 : Int32).toNatClampNeg + (8 : Int32).toNatClampNeg ≤ 8) ∧ (¬ (0 : Int32) < 0 ∧ ¬ (0 : Int32) < 0 ∧ ¬ (8 : Int32) < 0 ∧ (0 : Int32).toNatClampNeg + (8 : Int32).toNatClampNeg ≤ 8 ∧ (0 : Int32).toNatClampNeg + (8 : Int32).toNatClampNeg ≤ 8) ∧ post (xu (xcp (xcp S50 13 29 (0 : Int32).toNatClampNeg (0 : Int32).toNatClampNeg (8 : Int32).toNatClampNeg) 14 30 (0 : Int32).toNatClampNeg (0 : Int32).toNatClampNeg (8 : Int32).toNatClampNeg) 1 2 ((xcp (xcp S50 13 29 (0 : Int32).toNatClampNeg (0 : Int32).toNatClampNeg (8 : Int32).toNatClampNeg) 14 30 (0 : Int32).toNatClampNeg (0 : Int32).toNatClampNeg (8 : Int32).toNatClampNeg) 17 2)) (xcpL (xcpL L 15 31 (0 : Int32).toNatClampNeg (0 : Int32).toNatClampNeg (8 : Int32).toNatClampNeg) 16 32 (0 : Int32).toNatClampNeg (0 : Int32).toNatClampNeg (8 : Int32).toNatClampNeg)))
def kX6_restore (S : SX) (L : LX) (post : Int32 → SX → LX → Prop) : Prop :=
    (((S 0 0) = 0 →
      post (-4 : Int32) S L) ∧
    (¬ (S 0 0) = 0 →
      kX5_takeFrom_1 S L (fun S18 L18 =>
      post (1 : Int32) S18 L18)))
def kX6_isSheet (S : SX) (L : LX) (v0 : Int32) (post : Int32 → Prop) : Prop :=
    kX6_isWithin S L v0.toInt64 (0 : Int64) (3 : Int64) (fun r6 =>
    (r6 = 0 ∨ r6 = 1) ∧ post r6)
def kX6_isLane (S : SX) (L : LX) (v0 : Int32) (post : Int32 → Prop) : Prop :=
    kX6_isWithin S L v0.toInt64 (0 : Int64) (2 : Int64) (fun r6 =>
    (r6 = 0 ∨ r6 = 1) ∧ post r6)
def kX6_book_b63 (L : LX) (v1 : Int32) (v2 : Int32) (v3 : Int32) (v4 : Int32) (v5 : Int32) (post : Int32 → SX → Prop) : Nat → Int32 → Int32 → SX → Prop
  | 0, _, _, _ => False
  | n + 1, v7, v8, S =>
    (((S 8 0) ≤ v8 →
      post v5 S) ∧
    (¬ (S 8 0) ≤ v8 →
      vp_in v8 24 ∧ (((S 9 v8.toNatClampNeg) = v1 →
        kX5_isInBook S L v8 v1 (fun r102 =>
        ((r102 = 0 →
          (kX6_book_b63 L v1 v2 v3 v4 v5 post n) v7 (v8 + (1 : Int32)) S) ∧
        (¬ r102 = 0 →
          kX5_sworn S L v8 v1 (fun r122 =>
          kX2_put S L v2 v7 r122 (fun S125 =>
          (kX6_book_b63 L v1 v2 v3 v4 v5 post n) (v7 + (1 : Int32)) (v8 + (1 : Int32)) S125)))))) ∧
      (¬ (S 9 v8.toNatClampNeg) = v1 →
        (kX6_book_b63 L v1 v2 v3 v4 v5 post n) v7 (v8 + (1 : Int32)) S))))
def kX6_book (S : SX) (L : LX) (v1 : Int32) (v2 : Int32) (v3 : Int32) (v4 : Int32) (post : Int32 → SX → Prop) : Prop :=
    kX6_isYear S L v1 (fun r1 =>
    ((r1 = 0 →
      post (-1 : Int32) S) ∧
    (¬ r1 = 0 →
      kX6_isSheet S L v2 (fun r8 =>
      ((r8 = 0 →
        post (-1 : Int32) S) ∧
      (¬ r8 = 0 →
        kX6_isLane S L v3 (fun r15 =>
        ((r15 = 0 →
          post (-1 : Int32) S) ∧
        (¬ r15 = 0 →
          kX5_howManyInBook S L v1 (fun r28 =>
          kX2_refusal S L v2 v3 v4 r28 (fun r43 =>
          ((r43 = 0 →
            ∃ n63 : Nat, kX6_book_b63 L v1 v2 v3 v4 r28 post n63 v4 (0 : Int32) S) ∧
          (¬ r43 = 0 →
            post r43 S)))))))))))))
def kX6_crowds_b83 (L : LX) (v1 : Int32) (v2 : Int32) (v3 : Int32) (post : Int32 → SX → Prop) : Nat → Int32 → SX → Prop
  | 0, _, _ => False
  | n + 1, v5, S =>
    (((8 : Int32) ≤ v5 →
      post (8 : Int32) S) ∧
    (¬ (8 : Int32) ≤ v5 →
      kX2_at S L v1 (v3 + v5) (fun r108 =>
      vp_in v5 8 ∧ (kX6_crowds_b83 L v1 v2 v3 post n) (v5 + (1 : Int32)) (xu S 13 v5.toNatClampNeg r108))))
def kX6_crowds_b41 (L : LX) (v1 : Int32) (v2 : Int32) (v3 : Int32) (post : Int32 → SX → Prop) : Nat → Int32 → SX → Prop
  | 0, _, _ => False
  | n + 1, v5, S =>
    (((8 : Int32) ≤ v5 →
      ∃ n83 : Nat, kX6_crowds_b83 L v1 v2 v3 post n83 (0 : Int32) S) ∧
    (¬ (8 : Int32) ≤ v5 →
      kX2_at S L v1 (v3 + v5) (fun r57 =>
      kX6_isWithin S L r57.toInt64 (1 : Int64) (999999 : Int64) (fun r65 =>
      ((r65 = 0 →
        post (-2 : Int32) S) ∧
      (¬ r65 = 0 →
        (kX6_crowds_b41 L v1 v2 v3 post n) (v5 + (1 : Int32)) S))))))
def kX6_crowds (S : SX) (L : LX) (v1 : Int32) (v2 : Int32) (v3 : Int32) (post : Int32 → SX → Prop) : Prop :=
    kX6_isSheet S L v1 (fun r1 =>
    ((r1 = 0 →
      post (-1 : Int32) S) ∧
    (¬ r1 = 0 →
      kX6_isLane S L v2 (fun r8 =>
      ((r8 = 0 →
        post (-1 : Int32) S) ∧
      (¬ r8 = 0 →
        kX2_refusal S L v1 v2 v3 (8 : Int32) (fun r25 =>
        ((r25 = 0 →
          ∃ n41 : Nat, kX6_crowds_b41 L v1 v2 v3 post n41 (0 : Int32) S) ∧
        (¬ r25 = 0 →
          post r25 S)))))))))
def kX6_sheet (S : SX) (L : LX) (v1 : Int32) (v2 : Int32) (v3 : Int32) (post : Int32 → SX → Prop) : Prop :=
    kX6_isSheet S L v1 (fun r1 =>
    ((r1 = 0 →
      post (-1 : Int32) S) ∧
    (¬ r1 = 0 →
      kX6_isLane S L v2 (fun r8 =>
      ((r8 = 0 →
        post (-1 : Int32) S) ∧
      (¬ r8 = 0 →
        ((v3 ≤ (24 : Int32) →
          ((0 ≤ v3 →
            kX2_hold S L v1 v2 v3 (fun S36 =>
            post v3 S36)) ∧
          (¬ 0 ≤ v3 →
            post (-14 : Int32) S))) ∧
        (¬ v3 ≤ (24 : Int32) →
          post (-1 : Int32) S))))))))
def kX6_drop (S : SX) (L : LX) (v1 : Int32) (post : Int32 → SX → Prop) : Prop :=
    kX6_isSheet S L v1 (fun r1 =>
    ((r1 = 0 →
      post (-1 : Int32) S) ∧
    (¬ r1 = 0 →
      kX2_holdsRow S L v1 (fun r14 =>
      ((r14 = 0 →
        post (-11 : Int32) S) ∧
      (¬ r14 = 0 →
        vp_in v1 4 ∧ kX2_holdNothing S L v1 (fun S38 =>
        post (S 51 v1.toNatClampNeg) S38)))))))
def kX6_item (S : SX) (L : LX) (v1 : Int32) (v2 : Int32) (v3 : Int32) (v4 : Int32) (post : Int32 → SX → Prop) : Prop :=
    kX6_isSheet S L v1 (fun r1 =>
    ((r1 = 0 →
      post (-1 : Int32) S) ∧
    (¬ r1 = 0 →
      kX6_isLane S L v2 (fun r8 =>
      ((r8 = 0 →
        post (-1 : Int32) S) ∧
      (¬ r8 = 0 →
        kX2_refusal S L v1 v2 v3 (1 : Int32) (fun r24 =>
        ((r24 = 0 →
          kX2_put S L v1 v3 v4 (fun S45 =>
          post (1 : Int32) S45)) ∧
        (¬ r24 = 0 →
          post r24 S)))))))))
def kX6_copy (S : SX) (L : LX) (v1 : Int32) (v2 : Int32) (v3 : Int32) (v4 : Int32) (v5 : Int32) (post : Int32 → SX → Prop) : Prop :=
    kX6_isSheet S L v1 (fun r1 =>
    ((r1 = 0 →
      post (-1 : Int32) S) ∧
    (¬ r1 = 0 →
      kX6_isSheet S L v3 (fun r8 =>
      ((r8 = 0 →
        post (-1 : Int32) S) ∧
      (¬ r8 = 0 →
        kX2_holdsRow S L v1 (fun r21 =>
        ((r21 = 0 →
          post (-11 : Int32) S) ∧
        (¬ r21 = 0 →
          kX2_holdsRow S L v3 (fun r32 =>
          ((r32 = 0 →
            post (-11 : Int32) S) ∧
          (¬ r32 = 0 →
            vp_in v1 4 ∧ vp_in v3 4 ∧ (((S 50 v1.toNatClampNeg) = (S 50 v3.toNatClampNeg) →
              kX2_hasItems S L v1 v2 v5 (fun r73 =>
              ((r73 = 0 →
                post (-13 : Int32) S) ∧
              (¬ r73 = 0 →
                kX2_hasItems S L v3 v4 v5 (fun r88 =>
                ((r88 = 0 →
                  post (-13 : Int32) S) ∧
                (¬ r88 = 0 →
                  kX2_move S L v1 v2 v3 v4 v5 (fun S108 =>
                  post v5 S108)))))))) ∧
            (¬ (S 50 v1.toNatClampNeg) = (S 50 v3.toNatClampNeg) →
              post (-12 : Int32) S))))))))))))))
