def kX7_in (S : SX) (L : LX) (v0 : Int64) (v2 : Int64) (v4 : Int64) (post : Int32 → Prop) : Prop :=
    ((v0 < v2 →
      post (0 : Int32)) ∧
    (¬ v0 < v2 →
      ((v4 < v0 →
        post (0 : Int32)) ∧
      (¬ v4 < v0 →
        post (1 : Int32)))))
def kX7_isYear (S : SX) (L : LX) (v0 : Int32) (post : Int32 → Prop) : Prop :=
    kX7_in S L v0.toInt64 (0 : Int64) (7 : Int64) (fun r6 =>
    (r6 = 0 ∨ r6 = 1) ∧ post r6)
def kX7_isWill (S : SX) (L : LX) (v1 : Int32) (post : Int32 → Prop) : Prop :=
    kX7_in S L v1.toInt64 (0 : Int64) (((S 0 2) - (1 : Int32)).toInt64) (fun r10 =>
    (r10 = 0 ∨ r10 = 1) ∧ post r10)
def kX7_lives (S : SX) (L : LX) (v1 : Int32) (v2 : Int32) (post : Int32 → SX → Prop) : Prop :=
    kX7_in S L v1.toInt64 (0 : Int64) (5 : Int64) (fun r6 =>
    ((r6 = 0 →
      post (-1 : Int32) S) ∧
    (¬ r6 = 0 →
      kX7_in S L v2.toInt64 (1 : Int64) (400 : Int64) (fun r18 =>
      ((r18 = 0 →
        post (-1 : Int32) S) ∧
      (¬ r18 = 0 →
        vp_in v1 6 ∧ vp_in v1 6 ∧ post (S 1 v1.toNatClampNeg) (xu S 1 v1.toNatClampNeg v2)))))))
def kX7_set_b49 (L : LX) (v1 : Int32) (v2 : Int32) (post : Int32 → SX → Prop) (z0 : Int32) (S : SX) : Prop :=
    ((v1 = 0 →
      post z0 (xu S 0 0 v2)) ∧
    (¬ v1 = 0 →
      post z0 (xu S 0 1 v2)))
def kX7_set_b26 (L : LX) (v1 : Int32) (v2 : Int32) (post : Int32 → SX → Prop) (z0 : Int64) (z1 : Int64) (z2 : Int64) (S : SX) : Prop :=
    kX7_in S L z0 z1 z2 (fun r26 =>
    ((r26 = 0 →
      post (-1 : Int32) S) ∧
    (¬ r26 = 0 →
      ((v1 = 0 →
        kX7_set_b49 L v1 v2 post (S 0 0) S) ∧
      (¬ v1 = 0 →
        kX7_set_b49 L v1 v2 post (S 0 1) S)))))
def kX7_set (S : SX) (L : LX) (v1 : Int32) (v2 : Int32) (post : Int32 → SX → Prop) : Prop :=
    kX7_in S L v1.toInt64 (0 : Int64) (1 : Int64) (fun r4 =>
    ((r4 = 0 →
      post (-1 : Int32) S) ∧
    (¬ r4 = 0 →
      ((v1 = 0 →
        kX7_set_b26 L v1 v2 post v2.toInt64 (0 : Int64) (99999 : Int64) S) ∧
      (¬ v1 = 0 →
        kX7_set_b26 L v1 v2 post v2.toInt64 (0 : Int64) (100 : Int64) S)))))
def kX7_comes (S : SX) (L : LX) (v1 : Int32) (v2 : Int32) (v3 : Int32) (v4 : Int32) (v5 : Int32) (v6 : Int32) (v7 : Int32) (post : SX → Prop) : Prop :=
    vp_in (S 0 2) 24 ∧ vp_in ((xu S 2 (S 0 2).toNatClampNeg v1) 0 2) 24 ∧ vp_in ((xu (xu S 2 (S 0 2).toNatClampNeg v1) 3 ((xu S 2 (S 0 2).toNatClampNeg v1) 0 2).toNatClampNeg v2) 0 2) 24 ∧ vp_in ((4 : Int32) * ((xu (xu (xu S 2 (S 0 2).toNatClampNeg v1) 3 ((xu S 2 (S 0 2).toNatClampNeg v1) 0 2).toNatClampNeg v2) 4 ((xu (xu S 2 (S 0 2).toNatClampNeg v1) 3 ((xu S 2 (S 0 2).toNatClampNeg v1) 0 2).toNatClampNeg v2) 0 2).toNatClampNeg v3) 0 2)) 96 ∧ vp_in (((4 : Int32) * ((xu (xu (xu (xu S 2 (S 0 2).toNatClampNeg v1) 3 ((xu S 2 (S 0 2).toNatClampNeg v1) 0 2).toNatClampNeg v2) 4 ((xu (xu S 2 (S 0 2).toNatClampNeg v1) 3 ((xu S 2 (S 0 2).toNatClampNeg v1) 0 2).toNatClampNeg v2) 0 2).toNatClampNeg v3) 5 ((4 : Int32) * ((xu (xu (xu S 2 (S 0 2).toNatClampNeg v1) 3 ((xu S 2 (S 0 2).toNatClampNeg v1) 0 2).toNatClampNeg v2) 4 ((xu (xu S 2 (S 0 2).toNatClampNeg v1) 3 ((xu S 2 (S 0 2).toNatClampNeg v1) 0 2).toNatClampNeg v2) 0 2).toNatClampNeg v3) 0 2)).toNatClampNeg v4) 0 2)) + (1 : Int32)) 96 ∧ vp_in (((4 : Int32) * ((xu (xu (xu (xu (xu S 2 (S 0 2).toNatClampNeg v1) 3 ((xu S 2 (S 0 2).toNatClampNeg v1) 0 2).toNatClampNeg v2) 4 ((xu (xu S 2 (S 0 2).toNatClampNeg v1) 3 ((xu S 2 (S 0 2).toNatClampNeg v1) 0 2).toNatClampNeg v2) 0 2).toNatClampNeg v3) 5 ((4 : Int32) * ((xu (xu (xu S 2 (S 0 2).toNatClampNeg v1) 3 ((xu S 2 (S 0 2).toNatClampNeg v1) 0 2).toNatClampNeg v2) 4 ((xu (xu S 2 (S 0 2).toNatClampNeg v1) 3 ((xu S 2 (S 0 2).toNatClampNeg v1) 0 2).toNatClampNeg v2) 0 2).toNatClampNeg v3) 0 2)).toNatClampNeg v4) 5 (((4 : Int32) * ((xu (xu (xu (xu S 2 (S 0 2).toNatClampNeg v1) 3 ((xu S 2 (S 0 2).toNatClampNeg v1) 0 2).toNatClampNeg v2) 4 ((xu (xu S 2 (S 0 2).toNatClampNeg v1) 3 ((xu S 2 (S 0 2).toNatClampNeg v1) 0 2).toNatClampNeg v2) 0 2).toNatClampNeg v3) 5 ((4 : Int32) * ((xu (xu (xu S 2 (S 0 2).toNatClampNeg v1) 3 ((xu S 2 (S 0 2).toNatClampNeg v1) 0 2).toNatClampNeg v2) 4 ((xu (xu S 2 (S 0 2).toNatClampNeg v1) 3 ((xu S 2 (S 0 2).toNatClampNeg v1) 0 2).toNatClampNeg v2) 0 2).toNatClampNeg v3) 0 2)).toNatClampNeg v4) 0 2)) + (1 : Int32)).toNatClampNeg v5) 0 2)) + (2 : Int32)) 96 ∧ vp_in (((4 : Int32) * ((xu (xu (xu (xu (xu (xu S 2 (S 0 2).toNatClampNeg v1) 3 ((xu S 2 (S 0 2).toNatClampNeg v1) 0 2).toNatClampNeg v2) 4 ((xu (xu S 2 (S 0 2).toNatClampNeg v1) 3 ((xu S 2 (S 0 2).toNatClampNeg v1) 0 2).toNatClampNeg v2) 0 2).toNatClampNeg v3) 5 ((4 : Int32) * ((xu (xu (xu S 2 (S 0 2).toNatClampNeg v1) 3 ((xu S 2 (S 0 2).toNatClampNeg v1) 0 2).toNatClampNeg v2) 4 ((xu (xu S 2 (S 0 2).toNatClampNeg v1) 3 ((xu S 2 (S 0 2).toNatClampNeg v1) 0 2).toNatClampNeg v2) 0 2).toNatClampNeg v3) 0 2)).toNatClampNeg v4) 5 (((4 : Int32) * ((xu (xu (xu (xu S 2 (S 0 2).toNatClampNeg v1) 3 ((xu S 2 (S 0 2).toNatClampNeg v1) 0 2).toNatClampNeg v2) 4 ((xu (xu S 2 (S 0 2).toNatClampNeg v1) 3 ((xu S 2 (S 0 2).toNatClampNeg v1) 0 2).toNatClampNeg v2) 0 2).toNatClampNeg v3) 5 ((4 : Int32) * ((xu (xu (xu S 2 (S 0 2).toNatClampNeg v1) 3 ((xu S 2 (S 0 2).toNatClampNeg v1) 0 2).toNatClampNeg v2) 4 ((xu (xu S 2 (S 0 2).toNatClampNeg v1) 3 ((xu S 2 (S 0 2).toNatClampNeg v1) 0 2).toNatClampNeg v2) 0 2).toNatClampNeg v3) 0 2)).toNatClampNeg v4) 0 2)) + (1 : Int32)).toNatClampNeg v5) 5 (((4 : Int32) * ((xu (xu (xu (xu (xu S 2 (S 0 2).toNatClampNeg v1) 3 ((xu S 2 (S 0 2).toNatClampNeg v1) 0 2).toNatClampNeg v2) 4 ((xu (xu S 2 (S 0 2).toNatClampNeg v1) 3 ((xu S 2 (S 0 2).toNatClampNeg v1) 0 2).toNatClampNeg v2) 0 2).toNatClampNeg v3) 5 ((4 : Int32) * ((xu (xu (xu S 2 (S 0 2).toNatClampNeg v1) 3 ((xu S 2 (S 0 2).toNatClampNeg v1) 0 2).toNatClampNeg v2) 4 ((xu (xu S 2 (S 0 2).toNatClampNeg v1) 3 ((xu S 2 (S 0 2).toNatClampNeg v1) 0 2).toNatClampNeg v2) 0 2).toNatClampNeg v3) 0 2)).toNatClampNeg v4) 5 (((4 : Int32) * ((xu (xu (xu (xu S 2 (S 0 2).toNatClampNeg v1) 3 ((xu S 2 (S 0 2).toNatClampNeg v1) 0 2).toNatClampNeg v2) 4 ((xu (xu S 2 (S 0 2).toNatClampNeg v1) 3 ((xu S 2 (S 0 2).toNatClampNeg v1) 0 2).toNatClampNeg v2) 0 2).toNatClampNeg v3) 5 ((4 : Int32) * ((xu (xu (xu S 2 (S 0 2).toNatClampNeg v1) 3 ((xu S 2 (S 0 2).toNatClampNeg v1) 0 2).toNatClampNeg v2) 4 ((xu (xu S 2 (S 0 2).toNatClampNeg v1) 3 ((xu S 2 (S 0 2).toNatClampNeg v1) 0 2).toNatClampNeg v2) 0 2).toNatClampNeg v3) 0 2)).toNatClampNeg v4) 0 2)) + (1 : Int32)).toNatClampNeg v5) 0 2)) + (2 : Int32)).toNatClampNeg v6) 0 2)) + (3 : Int32)) 96 ∧ post (xu (xu (xu (xu (xu (xu (xu (xu S 2 (S 0 2).toNatClampNeg v1) 3 ((xu S 2 (S 0 2).toNatClampNeg v1) 0 2).toNatClampNeg v2) 4 ((xu (xu S 2 (S 0 2).toNatClampNeg v1) 3 ((xu S 2 (S 0 2).toNatClampNeg v1) 0 2).toNatClampNeg v2) 0 2).toNatClampNeg v3) 5 ((4 : Int32) * ((xu (xu (xu S 2 (S 0 2).toNatClampNeg v1) 3 ((xu S 2 (S 0 2).toNatClampNeg v1) 0 2).toNatClampNeg v2) 4 ((xu (xu S 2 (S 0 2).toNatClampNeg v1) 3 ((xu S 2 (S 0 2).toNatClampNeg v1) 0 2).toNatClampNeg v2) 0 2).toNatClampNeg v3) 0 2)).toNatClampNeg v4) 5 (((4 : Int32) * ((xu (xu (xu (xu S 2 (S 0 2).toNatClampNeg v1) 3 ((xu S 2 (S 0 2).toNatClampNeg v1) 0 2).toNatClampNeg v2) 4 ((xu (xu S 2 (S 0 2).toNatClampNeg v1) 3 ((xu S 2 (S 0 2).toNatClampNeg v1) 0 2).toNatClampNeg v2) 0 2).toNatClampNeg v3) 5 ((4 : Int32) * ((xu (xu (xu S 2 (S 0 2).toNatClampNeg v1) 3 ((xu S 2 (S 0 2).toNatClampNeg v1) 0 2).toNatClampNeg v2) 4 ((xu (xu S 2 (S 0 2).toNatClampNeg v1) 3 ((xu S 2 (S 0 2).toNatClampNeg v1) 0 2).toNatClampNeg v2) 0 2).toNatClampNeg v3) 0 2)).toNatClampNeg v4) 0 2)) + (1 : Int32)).toNatClampNeg v5) 5 (((4 : Int32) * ((xu (xu (xu (xu (xu S 2 (S 0 2).toNatClampNeg v1) 3 ((xu S 2 (S 0 2).toNatClampNeg v1) 0 2).toNatClampNeg v2) 4 ((xu (xu S 2 (S 0 2).toNatClampNeg v1) 3 ((xu S 2 (S 0 2).toNatClampNeg v1) 0 2).toNatClampNeg v2) 0 2).toNatClampNeg v3) 5 ((4 : Int32) * ((xu (xu (xu S 2 (S 0 2).toNatClampNeg v1) 3 ((xu S 2 (S 0 2).toNatClampNeg v1) 0 2).toNatClampNeg v2) 4 ((xu (xu S 2 (S 0 2).toNatClampNeg v1) 3 ((xu S 2 (S 0 2).toNatClampNeg v1) 0 2).toNatClampNeg v2) 0 2).toNatClampNeg v3) 0 2)).toNatClampNeg v4) 5 (((4 : Int32) * ((xu (xu (xu (xu S 2 (S 0 2).toNatClampNeg v1) 3 ((xu S 2 (S 0 2).toNatClampNeg v1) 0 2).toNatClampNeg v2) 4 ((xu (xu S 2 (S 0 2).toNatClampNeg v1) 3 ((xu S 2 (S 0 2).toNatClampNeg v1) 0 2).toNatClampNeg v2) 0 2).toNatClampNeg v3) 5 ((4 : Int32) * ((xu (xu (xu S 2 (S 0 2).toNatClampNeg v1) 3 ((xu S 2 (S 0 2).toNatClampNeg v1) 0 2).toNatClampNeg v2) 4 ((xu (xu S 2 (S 0 2).toNatClampNeg v1) 3 ((xu S 2 (S 0 2).toNatClampNeg v1) 0 2).toNatClampNeg v2) 0 2).toNatClampNeg v3) 0 2)).toNatClampNeg v4) 0 2)) + (1 : Int32)).toNatClampNeg v5) 0 2)) + (2 : Int32)).toNatClampNeg v6) 5 (((4 : Int32) * ((xu (xu (xu (xu (xu (xu S 2 (S 0 2).toNatClampNeg v1) 3 ((xu S 2 (S 0 2).toNatClampNeg v1) 0 2).toNatClampNeg v2) 4 ((xu (xu S 2 (S 0 2).toNatClampNeg v1) 3 ((xu S 2 (S 0 2).toNatClampNeg v1) 0 2).toNatClampNeg v2) 0 2).toNatClampNeg v3) 5 ((4 : Int32) * ((xu (xu (xu S 2 (S 0 2).toNatClampNeg v1) 3 ((xu S 2 (S 0 2).toNatClampNeg v1) 0 2).toNatClampNeg v2) 4 ((xu (xu S 2 (S 0 2).toNatClampNeg v1) 3 ((xu S 2 (S 0 2).toNatClampNeg v1) 0 2).toNatClampNeg v2) 0 2).toNatClampNeg v3) 0 2)).toNatClampNeg v4) 5 (((4 : Int32) * ((xu (xu (xu (xu S 2 (S 0 2).toNatClampNeg v1) 3 ((xu S 2 (S 0 2).toNatClampNeg v1) 0 2).toNatClampNeg v2) 4 ((xu (xu S 2 (S 0 2).toNatClampNeg v1) 3 ((xu S 2 (S 0 2).toNatClampNeg v1) 0 2).toNatClampNeg v2) 0 2).toNatClampNeg v3) 5 ((4 : Int32) * ((xu (xu (xu S 2 (S 0 2).toNatClampNeg v1) 3 ((xu S 2 (S 0 2).toNatClampNeg v1) 0 2).toNatClampNeg v2) 4 ((xu (xu S 2 (S 0 2).toNatClampNeg v1) 3 ((xu S 2 (S 0 2).toNatClampNeg v1) 0 2).toNatClampNeg v2) 0 2).toNatClampNeg v3) 0 2)).toNatClampNeg v4) 0 2)) + (1 : Int32)).toNatClampNeg v5) 5 (((4 : Int32) * ((xu (xu (xu (xu (xu S 2 (S 0 2).toNatClampNeg v1) 3 ((xu S 2 (S 0 2).toNatClampNeg v1) 0 2).toNatClampNeg v2) 4 ((xu (xu S 2 (S 0 2).toNatClampNeg v1) 3 ((xu S 2 (S 0 2).toNatClampNeg v1) 0 2).toNatClampNeg v2) 0 2).toNatClampNeg v3) 5 ((4 : Int32) * ((xu (xu (xu S 2 (S 0 2).toNatClampNeg v1) 3 ((xu S 2 (S 0 2).toNatClampNeg v1) 0 2).toNatClampNeg v2) 4 ((xu (xu S 2 (S 0 2).toNatClampNeg v1) 3 ((xu S 2 (S 0 2).toNatClampNeg v1) 0 2).toNatClampNeg v2) 0 2).toNatClampNeg v3) 0 2)).toNatClampNeg v4) 5 (((4 : Int32) * ((xu (xu (xu (xu S 2 (S 0 2).toNatClampNeg v1) 3 ((xu S 2 (S 0 2).toNatClampNeg v1) 0 2).toNatClampNeg v2) 4 ((xu (xu S 2 (S 0 2).toNatClampNeg v1) 3 ((xu S 2 (S 0 2).toNatClampNeg v1) 0 2).toNatClampNeg v2) 0 2).toNatClampNeg v3) 5 ((4 : Int32) * ((xu (xu (xu S 2 (S 0 2).toNatClampNeg v1) 3 ((xu S 2 (S 0 2).toNatClampNeg v1) 0 2).toNatClampNeg v2) 4 ((xu (xu S 2 (S 0 2).toNatClampNeg v1) 3 ((xu S 2 (S 0 2).toNatClampNeg v1) 0 2).toNatClampNeg v2) 0 2).toNatClampNeg v3) 0 2)).toNatClampNeg v4) 0 2)) + (1 : Int32)).toNatClampNeg v5) 0 2)) + (2 : Int32)).toNatClampNeg v6) 0 2)) + (3 : Int32)).toNatClampNeg v7) 0 2 (((xu (xu (xu (xu (xu (xu (xu S 2 (S 0 2).toNatClampNeg v1) 3 ((xu S 2 (S 0 2).toNatClampNeg v1) 0 2).toNatClampNeg v2) 4 ((xu (xu S 2 (S 0 2).toNatClampNeg v1) 3 ((xu S 2 (S 0 2).toNatClampNeg v1) 0 2).toNatClampNeg v2) 0 2).toNatClampNeg v3) 5 ((4 : Int32) * ((xu (xu (xu S 2 (S 0 2).toNatClampNeg v1) 3 ((xu S 2 (S 0 2).toNatClampNeg v1) 0 2).toNatClampNeg v2) 4 ((xu (xu S 2 (S 0 2).toNatClampNeg v1) 3 ((xu S 2 (S 0 2).toNatClampNeg v1) 0 2).toNatClampNeg v2) 0 2).toNatClampNeg v3) 0 2)).toNatClampNeg v4) 5 (((4 : Int32) * ((xu (xu (xu (xu S 2 (S 0 2).toNatClampNeg v1) 3 ((xu S 2 (S 0 2).toNatClampNeg v1) 0 2).toNatClampNeg v2) 4 ((xu (xu S 2 (S 0 2).toNatClampNeg v1) 3 ((xu S 2 (S 0 2).toNatClampNeg v1) 0 2).toNatClampNeg v2) 0 2).toNatClampNeg v3) 5 ((4 : Int32) * ((xu (xu (xu S 2 (S 0 2).toNatClampNeg v1) 3 ((xu S 2 (S 0 2).toNatClampNeg v1) 0 2).toNatClampNeg v2) 4 ((xu (xu S 2 (S 0 2).toNatClampNeg v1) 3 ((xu S 2 (S 0 2).toNatClampNeg v1) 0 2).toNatClampNeg v2) 0 2).toNatClampNeg v3) 0 2)).toNatClampNeg v4) 0 2)) + (1 : Int32)).toNatClampNeg v5) 5 (((4 : Int32) * ((xu (xu (xu (xu (xu S 2 (S 0 2).toNatClampNeg v1) 3 ((xu S 2 (S 0 2).toNatClampNeg v1) 0 2).toNatClampNeg v2) 4 ((xu (xu S 2 (S 0 2).toNatClampNeg v1) 3 ((xu S 2 (S 0 2).toNatClampNeg v1) 0 2).toNatClampNeg v2) 0 2).toNatClampNeg v3) 5 ((4 : Int32) * ((xu (xu (xu S 2 (S 0 2).toNatClampNeg v1) 3 ((xu S 2 (S 0 2).toNatClampNeg v1) 0 2).toNatClampNeg v2) 4 ((xu (xu S 2 (S 0 2).toNatClampNeg v1) 3 ((xu S 2 (S 0 2).toNatClampNeg v1) 0 2).toNatClampNeg v2) 0 2).toNatClampNeg v3) 0 2)).toNatClampNeg v4) 5 (((4 : Int32) * ((xu (xu (xu (xu S 2 (S 0 2).toNatClampNeg v1) 3 ((xu S 2 (S 0 2).toNatClampNeg v1) 0 2).toNatClampNeg v2) 4 ((xu (xu S 2 (S 0 2).toNatClampNeg v1) 3 ((xu S 2 (S 0 2).toNatClampNeg v1) 0 2).toNatClampNeg v2) 0 2).toNatClampNeg v3) 5 ((4 : Int32) * ((xu (xu (xu S 2 (S 0 2).toNatClampNeg v1) 3 ((xu S 2 (S 0 2).toNatClampNeg v1) 0 2).toNatClampNeg v2) 4 ((xu (xu S 2 (S 0 2).toNatClampNeg v1) 3 ((xu S 2 (S 0 2).toNatClampNeg v1) 0 2).toNatClampNeg v2) 0 2).toNatClampNeg v3) 0 2)).toNatClampNeg v4) 0 2)) + (1 : Int32)).toNatClampNeg v5) 0 2)) + (2 : Int32)).toNatClampNeg v6) 5 (((4 : Int32) * ((xu (xu (xu (xu (xu (xu S 2 (S 0 2).toNatClampNeg v1) 3 ((xu S 2 (S 0 2).toNatClampNeg v1) 0 2).toNatClampNeg v2) 4 ((xu (xu S 2 (S 0 2).toNatClampNeg v1) 3 ((xu S 2 (S 0 2).toNatClampNeg v1) 0 2).toNatClampNeg v2) 0 2).toNatClampNeg v3) 5 ((4 : Int32) * ((xu (xu (xu S 2 (S 0 2).toNatClampNeg v1) 3 ((xu S 2 (S 0 2).toNatClampNeg v1) 0 2).toNatClampNeg v2) 4 ((xu (xu S 2 (S 0 2).toNatClampNeg v1) 3 ((xu S 2 (S 0 2).toNatClampNeg v1) 0 2).toNatClampNeg v2) 0 2).toNatClampNeg v3) 0 2)).toNatClampNeg v4) 5 (((4 : Int32) * ((xu (xu (xu (xu S 2 (S 0 2).toNatClampNeg v1) 3 ((xu S 2 (S 0 2).toNatClampNeg v1) 0 2).toNatClampNeg v2) 4 ((xu (xu S 2 (S 0 2).toNatClampNeg v1) 3 ((xu S 2 (S 0 2).toNatClampNeg v1) 0 2).toNatClampNeg v2) 0 2).toNatClampNeg v3) 5 ((4 : Int32) * ((xu (xu (xu S 2 (S 0 2).toNatClampNeg v1) 3 ((xu S 2 (S 0 2).toNatClampNeg v1) 0 2).toNatClampNeg v2) 4 ((xu (xu S 2 (S 0 2).toNatClampNeg v1) 3 ((xu S 2 (S 0 2).toNatClampNeg v1) 0 2).toNatClampNeg v2) 0 2).toNatClampNeg v3) 0 2)).toNatClampNeg v4) 0 2)) + (1 : Int32)).toNatClampNeg v5) 5 (((4 : Int32) * ((xu (xu (xu (xu (xu S 2 (S 0 2).toNatClampNeg v1) 3 ((xu S 2 (S 0 2).toNatClampNeg v1) 0 2).toNatClampNeg v2) 4 ((xu (xu S 2 (S 0 2).toNatClampNeg v1) 3 ((xu S 2 (S 0 2).toNatClampNeg v1) 0 2).toNatClampNeg v2) 0 2).toNatClampNeg v3) 5 ((4 : Int32) * ((xu (xu (xu S 2 (S 0 2).toNatClampNeg v1) 3 ((xu S 2 (S 0 2).toNatClampNeg v1) 0 2).toNatClampNeg v2) 4 ((xu (xu S 2 (S 0 2).toNatClampNeg v1) 3 ((xu S 2 (S 0 2).toNatClampNeg v1) 0 2).toNatClampNeg v2) 0 2).toNatClampNeg v3) 0 2)).toNatClampNeg v4) 5 (((4 : Int32) * ((xu (xu (xu (xu S 2 (S 0 2).toNatClampNeg v1) 3 ((xu S 2 (S 0 2).toNatClampNeg v1) 0 2).toNatClampNeg v2) 4 ((xu (xu S 2 (S 0 2).toNatClampNeg v1) 3 ((xu S 2 (S 0 2).toNatClampNeg v1) 0 2).toNatClampNeg v2) 0 2).toNatClampNeg v3) 5 ((4 : Int32) * ((xu (xu (xu S 2 (S 0 2).toNatClampNeg v1) 3 ((xu S 2 (S 0 2).toNatClampNeg v1) 0 2).toNatClampNeg v2) 4 ((xu (xu S 2 (S 0 2).toNatClampNeg v1) 3 ((xu S 2 (S 0 2).toNatClampNeg v1) 0 2).toNatClampNeg v2) 0 2).toNatClampNeg v3) 0 2)).toNatClampNeg v4) 0 2)) + (1 : Int32)).toNatClampNeg v5) 0 2)) + (2 : Int32)).toNatClampNeg v6) 0 2)) + (3 : Int32)).toNatClampNeg v7) 0 2) + (1 : Int32)))
def kX7_will (S : SX) (L : LX) (v1 : Int32) (v2 : Int32) (v3 : Int32) (v4 : Int32) (post : Int32 → SX → Prop) : Prop :=
    kX7_isYear S L v1 (fun r1 =>
    ((r1 = 0 →
      post (-1 : Int32) S) ∧
    (¬ r1 = 0 →
      kX7_in S L v2.toInt64 (0 : Int64) (5 : Int64) (fun r13 =>
      ((r13 = 0 →
        post (-1 : Int32) S) ∧
      (¬ r13 = 0 →
        kX7_in S L v3.toInt64 (0 : Int64) (1 : Int64) (fun r23 =>
        ((r23 = 0 →
          post (-1 : Int32) S) ∧
        (¬ r23 = 0 →
          kX7_in S L v4.toInt64 (0 : Int64) (9999 : Int64) (fun r36 =>
          ((r36 = 0 →
            post (-1 : Int32) S) ∧
          (¬ r36 = 0 →
            (((S 0 2) = (24 : Int32) →
              post (-3 : Int32) S) ∧
            (¬ (S 0 2) = (24 : Int32) →
              kX7_comes S L v1 v2 v3 v4 (0 : Int32) (0 : Int32) (0 : Int32) (fun S65 =>
              post ((S65 0 2) - (1 : Int32)) S65)))))))))))))))
def kX7_had (S : SX) (L : LX) (v1 : Int32) (v2 : Int32) (v3 : Int32) (post : Int32 → SX → Prop) : Prop :=
    kX7_isWill S L v1 (fun r2 =>
    ((r2 = 0 →
      post (-1 : Int32) S) ∧
    (¬ r2 = 0 →
      kX7_in S L v2.toInt64 (0 : Int64) (3 : Int64) (fun r14 =>
      ((r14 = 0 →
        post (-1 : Int32) S) ∧
      (¬ r14 = 0 →
        kX7_in S L v3.toInt64 (0 : Int64) (9999 : Int64) (fun r26 =>
        ((r26 = 0 →
          post (-1 : Int32) S) ∧
        (¬ r26 = 0 →
          vp_in (((4 : Int32) * v1) + v2) 96 ∧ vp_in (((4 : Int32) * v1) + v2) 96 ∧ post (S 5 (((4 : Int32) * v1) + v2).toNatClampNeg) (xu S 5 (((4 : Int32) * v1) + v2).toNatClampNeg v3))))))))))
def kX7_seen_b39 (S : SX) (L : LX) (v1 : Int32) (v2 : Int32) (v3 : Int32) (post : Int32 → Prop) : Nat → Int32 → Int32 → Prop
  | 0, _, _ => False
  | n + 1, v4, v5 =>
    (((3 : Int32) ≤ v5 →
      post v4) ∧
    (¬ (3 : Int32) ≤ v5 →
      ((((v3 >>> (v5 &&& 31)) &&& (1 : Int32)) = (1 : Int32) →
        vp_in ((((4 : Int32) * v1) + (1 : Int32)) + v5) 96 ∧ (kX7_seen_b39 S L v1 v2 v3 post n) (v4 + (S 5 ((((4 : Int32) * v1) + (1 : Int32)) + v5).toNatClampNeg)) (v5 + (1 : Int32))) ∧
      (¬ ((v3 >>> (v5 &&& 31)) &&& (1 : Int32)) = (1 : Int32) →
        (kX7_seen_b39 S L v1 v2 v3 post n) (v4 + (0 : Int32)) (v5 + (1 : Int32))))))
def kX7_seen (S : SX) (L : LX) (v1 : Int32) (v2 : Int32) (post : Int32 → Prop) : Prop :=
    vp_in v2 8 ∧ vp_in v1 24 ∧ (((S 4 v1.toNatClampNeg) = (1 : Int32) →
      ((((S 9 v2.toNatClampNeg) &&& (8 : Int32)) = 0 →
        post (0 : Int32)) ∧
      (¬ ((S 9 v2.toNatClampNeg) &&& (8 : Int32)) = 0 →
        vp_in ((4 : Int32) * v1) 96 ∧ ∃ n39 : Nat, kX7_seen_b39 S L v1 v2 (S 9 v2.toNatClampNeg) post n39 (S 5 ((4 : Int32) * v1).toNatClampNeg) (0 : Int32)))) ∧
    (¬ (S 4 v1.toNatClampNeg) = (1 : Int32) →
      vp_in ((4 : Int32) * v1) 96 ∧ ∃ n39 : Nat, kX7_seen_b39 S L v1 v2 (S 9 v2.toNatClampNeg) post n39 (S 5 ((4 : Int32) * v1).toNatClampNeg) (0 : Int32)))
def kX7_sworn (S : SX) (L : LX) (v1 : Int32) (v2 : Int32) (post : Int32 → Prop) : Prop :=
    kX7_seen S L v1 v2 (fun r3 =>
    vp_in v2 8 ∧ (((S 7 v2.toNatClampNeg) ≤ 0 →
      post r3) ∧
    (¬ (S 7 v2.toNatClampNeg) ≤ 0 →
      ((r3 ≤ (S 7 v2.toNatClampNeg) →
        post r3) ∧
      (¬ r3 ≤ (S 7 v2.toNatClampNeg) →
        vp_in v2 8 ∧ (((S 8 v2.toNatClampNeg) < (r3 - (S 7 v2.toNatClampNeg)) →
          post r3) ∧
        (¬ (S 8 v2.toNatClampNeg) < (r3 - (S 7 v2.toNatClampNeg)) →
          post (S 7 v2.toNatClampNeg))))))))
def kX7_isBooked (S : SX) (L : LX) (v1 : Int32) (v2 : Int32) (post : Int32 → Prop) : Prop :=
    kX7_sworn S L v1 v2 (fun r3 =>
    ((r3 ≤ 0 →
      post (0 : Int32)) ∧
    (¬ r3 ≤ 0 →
      vp_in v2 8 ∧ ((r3 < (S 6 v2.toNatClampNeg) →
        post (0 : Int32)) ∧
      (¬ r3 < (S 6 v2.toNatClampNeg) →
        post (1 : Int32))))))
def kX7_weight (S : SX) (L : LX) (v1 : Int32) (v2 : Int32) (post : Int32 → Prop) : Prop :=
    kX7_sworn S L v1 v2 (fun r3 =>
    ((r3 < (S 0 0) →
      vp_in v1 24 ∧ vp_in (S 3 v1.toNatClampNeg) 6 ∧ post ((100 : Int32) * (S 1 (S 3 v1.toNatClampNeg).toNatClampNeg))) ∧
    (¬ r3 < (S 0 0) →
      vp_in v1 24 ∧ vp_in (S 3 v1.toNatClampNeg) 6 ∧ post (((100 : Int32) + (S 0 1)) * (S 1 (S 3 v1.toNatClampNeg).toNatClampNeg)))))
def kX7_kind (S : SX) (L : LX) (v1 : Int32) (post : Int32 → Prop) : Prop :=
    vp_in v1 24 ∧ kX7_sworn S L v1 (S 2 v1.toNatClampNeg) (fun r10 =>
    kX7_isBooked S L v1 (S 2 v1.toNatClampNeg) (fun r17 =>
    ((r17 = 0 →
      post (1 : Int32)) ∧
    (¬ r17 = 0 →
      kX7_seen S L v1 (S 2 v1.toNatClampNeg) (fun r31 =>
      ((r10 = r31 →
        ((r10 < (S 0 0) →
          post (0 : Int32)) ∧
        (¬ r10 < (S 0 0) →
          post (3 : Int32)))) ∧
      (¬ r10 = r31 →
        post (2 : Int32))))))))
def kX7_told (S : SX) (L : LX) (v1 : Int32) (v2 : Int32) (post : Int32 → Prop) : Prop :=
    kX7_isWill S L v1 (fun r2 =>
    ((r2 = 0 →
      post (-1 : Int32)) ∧
    (¬ r2 = 0 →
      kX7_in S L v2.toInt64 (0 : Int64) (7 : Int64) (fun r14 =>
      ((r14 = 0 →
        post (-1 : Int32)) ∧
      (¬ r14 = 0 →
        vp_in v1 24 ∧ (
        (v2 = (0 : Int32) →
          post (S 2 v1.toNatClampNeg)) ∧
        (v2 = (1 : Int32) →
          vp_in v1 24 ∧ post (S 3 v1.toNatClampNeg)) ∧
        (v2 = (2 : Int32) →
          vp_in v1 24 ∧ post (S 4 v1.toNatClampNeg)) ∧
        (v2 = (3 : Int32) →
          kX7_seen S L v1 (S 2 v1.toNatClampNeg) (fun r91 =>
          post r91)) ∧
        (v2 = (4 : Int32) →
          kX7_sworn S L v1 (S 2 v1.toNatClampNeg) (fun r98 =>
          post r98)) ∧
        (v2 = (5 : Int32) →
          kX7_isBooked S L v1 (S 2 v1.toNatClampNeg) (fun r105 =>
          ((r105 = 0 →
            post (0 : Int32)) ∧
          (¬ r105 = 0 →
            post (1 : Int32))))) ∧
        (v2 = (6 : Int32) →
          kX7_weight S L v1 (S 2 v1.toNatClampNeg) (fun r120 =>
          post r120)) ∧
        (¬ v2 = (0 : Int32) → ¬ v2 = (1 : Int32) → ¬ v2 = (2 : Int32) → ¬ v2 = (3 : Int32) → ¬ v2 = (4 : Int32) → ¬ v2 = (5 : Int32) → ¬ v2 = (6 : Int32) →
          kX7_kind S L v1 (fun r126 =>
          post r126)))))))))
def kX7_burn_b74 (L : LX) (v1 : Int32) (post : Int32 → SX → Prop) (K22 : Int32 → SX → Prop) : Nat → Int32 → Int32 → SX → Prop
  | 0, _, _, _ => False
  | n + 1, v2, v3, S =>
    (((4 : Int32) ≤ v3 →
      K22 (v2 + (1 : Int32)) S) ∧
    (¬ (4 : Int32) ≤ v3 →
      vp_in ((((4 : Int32) * v2) + (4 : Int32)) + v3) 96 ∧ vp_in (((4 : Int32) * v2) + v3) 96 ∧ (kX7_burn_b74 L v1 post K22 n) v2 (v3 + (1 : Int32)) (xu S 5 (((4 : Int32) * v2) + v3).toNatClampNeg (S 5 ((((4 : Int32) * v2) + (4 : Int32)) + v3).toNatClampNeg))))
def kX7_burn_b22 (L : LX) (v1 : Int32) (post : Int32 → SX → Prop) : Nat → Int32 → SX → Prop
  | 0, _, _ => False
  | n + 1, v2, S =>
    (((S 0 2) ≤ v2 →
      post (S 0 2) S) ∧
    (¬ (S 0 2) ≤ v2 →
      vp_in (v2 + (1 : Int32)) 24 ∧ vp_in v2 24 ∧ vp_in (v2 + (1 : Int32)) 24 ∧ vp_in v2 24 ∧ vp_in (v2 + (1 : Int32)) 24 ∧ vp_in v2 24 ∧ ∃ n74 : Nat, kX7_burn_b74 L v1 post (kX7_burn_b22 L v1 post n) n74 v2 (0 : Int32) (xu (xu (xu S 2 v2.toNatClampNeg (S 2 (v2 + (1 : Int32)).toNatClampNeg)) 3 v2.toNatClampNeg ((xu S 2 v2.toNatClampNeg (S 2 (v2 + (1 : Int32)).toNatClampNeg)) 3 (v2 + (1 : Int32)).toNatClampNeg)) 4 v2.toNatClampNeg ((xu (xu S 2 v2.toNatClampNeg (S 2 (v2 + (1 : Int32)).toNatClampNeg)) 3 v2.toNatClampNeg ((xu S 2 v2.toNatClampNeg (S 2 (v2 + (1 : Int32)).toNatClampNeg)) 3 (v2 + (1 : Int32)).toNatClampNeg)) 4 (v2 + (1 : Int32)).toNatClampNeg))))
def kX7_burn (S : SX) (L : LX) (v1 : Int32) (post : Int32 → SX → Prop) : Prop :=
    kX7_isWill S L v1 (fun r2 =>
    ((r2 = 0 →
      post (-1 : Int32) S) ∧
    (¬ r2 = 0 →
      ∃ n22 : Nat, kX7_burn_b22 L v1 post n22 v1 (xu S 0 2 ((S 0 2) - (1 : Int32))))))
def kX7_draw_b43 (L : LX) (v1 : Int64) (v3 : Int32) (v4 : Int32) (post : Int32 → SX → Prop) : Nat → Int64 → Int32 → SX → Prop
  | 0, _, _, _ => False
  | n + 1, v5, v7, S =>
    ((v4 ≤ v7 →
      post (S 0 2) S) ∧
    (¬ v4 ≤ v7 →
      kX7_comes S L v3 ((((((v5 * (6364136223846793005 : Int64)) + (1442695040888963407 : Int64)).toUInt64 >>> ((33 : Int32).toInt64.toUInt64 &&& Int64.toUInt64 63)).toInt64).toInt32) - (((((v5 * (6364136223846793005 : Int64)) + (1442695040888963407 : Int64)).toUInt64 >>> ((33 : Int32).toInt64.toUInt64 &&& Int64.toUInt64 63)).toInt64).toInt32) / (6 : Int32) * (6 : Int32)) (((((((v5 * (6364136223846793005 : Int64)) + (1442695040888963407 : Int64)).toUInt64 >>> ((33 : Int32).toInt64.toUInt64 &&& Int64.toUInt64 63)).toInt64).toInt32) / (6 : Int32)) - ((((((v5 * (6364136223846793005 : Int64)) + (1442695040888963407 : Int64)).toUInt64 >>> ((33 : Int32).toInt64.toUInt64 &&& Int64.toUInt64 63)).toInt64).toInt32) / (6 : Int32)) / (2 : Int32) * (2 : Int32)) (((((((((v5 * (6364136223846793005 : Int64)) + (1442695040888963407 : Int64)).toUInt64 >>> ((33 : Int32).toInt64.toUInt64 &&& Int64.toUInt64 63)).toInt64).toInt32) / (12 : Int32)) - ((((((v5 * (6364136223846793005 : Int64)) + (1442695040888963407 : Int64)).toUInt64 >>> ((33 : Int32).toInt64.toUInt64 &&& Int64.toUInt64 63)).toInt64).toInt32) / (12 : Int32)) / (10000 : Int32) * (10000 : Int32)) * (((((((v5 * (6364136223846793005 : Int64)) + (1442695040888963407 : Int64)).toUInt64 >>> ((33 : Int32).toInt64.toUInt64 &&& Int64.toUInt64 63)).toInt64).toInt32) / (12 : Int32)) - ((((((v5 * (6364136223846793005 : Int64)) + (1442695040888963407 : Int64)).toUInt64 >>> ((33 : Int32).toInt64.toUInt64 &&& Int64.toUInt64 63)).toInt64).toInt32) / (12 : Int32)) / (10000 : Int32) * (10000 : Int32))) / (10000 : Int32)) (0 : Int32) (0 : Int32) (0 : Int32) (fun S107 =>
      (kX7_draw_b43 L v1 v3 v4 post n) ((v5 * (6364136223846793005 : Int64)) + (1442695040888963407 : Int64)) (v7 + (1 : Int32)) S107)))
def kX7_draw (S : SX) (L : LX) (v1 : Int64) (v3 : Int32) (v4 : Int32) (post : Int32 → SX → Prop) : Prop :=
    kX7_isYear S L v3 (fun r1 =>
    ((r1 = 0 →
      post (-1 : Int32) S) ∧
    (¬ r1 = 0 →
      kX7_in S L v4.toInt64 (1 : Int64) (24 : Int64) (fun r14 =>
      ((r14 = 0 →
        post (-1 : Int32) S) ∧
      (¬ r14 = 0 →
        ((((S 0 2) + v4) ≤ (24 : Int32) →
          ∃ n43 : Nat, kX7_draw_b43 L v1 v3 v4 post n43 v1 (0 : Int32) S) ∧
        (¬ ((S 0 2) + v4) ≤ (24 : Int32) →
          post (-3 : Int32) S))))))))
def kX7_people_b60 (L : LX) (v1 : Int32) (v2 : Int32) (v3 : Int32) (post : Int32 → SX → Prop) (z0 : Int32) (S : SX) : Prop :=
    ((v2 = 0 →
      vp_in v1 8 ∧ post z0 (xu S 10 v1.toNatClampNeg v3)) ∧
    (¬ v2 = 0 →
      vp_in v1 8 ∧ post z0 (xu S 11 v1.toNatClampNeg v3)))
def kX7_people_b33 (L : LX) (v1 : Int32) (v2 : Int32) (v3 : Int32) (post : Int32 → SX → Prop) (z0 : Int64) (z1 : Int64) (z2 : Int64) (S : SX) : Prop :=
    kX7_in S L z0 z1 z2 (fun r33 =>
    ((r33 = 0 →
      post (-1 : Int32) S) ∧
    (¬ r33 = 0 →
      ((v2 = 0 →
        vp_in v1 8 ∧ kX7_people_b60 L v1 v2 v3 post (S 10 v1.toNatClampNeg) S) ∧
      (¬ v2 = 0 →
        vp_in v1 8 ∧ kX7_people_b60 L v1 v2 v3 post (S 11 v1.toNatClampNeg) S)))))
def kX7_people (S : SX) (L : LX) (v1 : Int32) (v2 : Int32) (v3 : Int32) (post : Int32 → SX → Prop) : Prop :=
    kX7_isYear S L v1 (fun r1 =>
    ((r1 = 0 →
      post (-1 : Int32) S) ∧
    (¬ r1 = 0 →
      kX7_in S L v2.toInt64 (0 : Int64) (1 : Int64) (fun r11 =>
      ((r11 = 0 →
        post (-1 : Int32) S) ∧
      (¬ r11 = 0 →
        ((v2 = 0 →
          kX7_people_b33 L v1 v2 v3 post v3.toInt64 (1 : Int64) (999999 : Int64) S) ∧
        (¬ v2 = 0 →
          kX7_people_b33 L v1 v2 v3 post v3.toInt64 (1 : Int64) (999 : Int64) S))))))))
def kX7_rule (S : SX) (L : LX) (v1 : Int32) (v2 : Int32) (post : Int32 → Prop) : Prop :=
    kX7_isYear S L v1 (fun r1 =>
    ((r1 = 0 →
      post (-1 : Int32)) ∧
    (¬ r1 = 0 →
      kX7_in S L v2.toInt64 (0 : Int64) (3 : Int64) (fun r13 =>
      ((r13 = 0 →
        post (-1 : Int32)) ∧
      (¬ r13 = 0 →
        ((v2 = 0 →
          vp_in v1 8 ∧ post (S 6 v1.toNatClampNeg)) ∧
        (¬ v2 = 0 →
          ((v2 = (1 : Int32) →
            vp_in v1 8 ∧ post (S 7 v1.toNatClampNeg)) ∧
          (¬ v2 = (1 : Int32) →
            ((v2 = (2 : Int32) →
              vp_in v1 8 ∧ post (S 8 v1.toNatClampNeg)) ∧
            (¬ v2 = (2 : Int32) →
              vp_in v1 8 ∧ post (S 9 v1.toNatClampNeg)))))))))))))
def kX7_type_b73 (L : LX) (v1 : Int64) (v3 : Int32) (post : Int32 → SX → Prop) : Nat → Int32 → SX → Prop
  | 0, _, _ => False
  | n + 1, v4, S =>
    ((v4 < 0 →
      post (S 0 3) S) ∧
    (¬ v4 < 0 →
      vp_in (S 0 3) 100 ∧ (kX7_type_b73 L v1 v3 post n) (v4 + (-1 : Int32)) (xu (xu S 14 (S 0 3).toNatClampNeg (((v1 >>> (((8 : Int32) * v4).toInt64 &&& 63)) &&& (255 : Int64)).toInt32)) 0 3 (((xu S 14 (S 0 3).toNatClampNeg (((v1 >>> (((8 : Int32) * v4).toInt64 &&& 63)) &&& (255 : Int64)).toInt32)) 0 3) + (1 : Int32)))))
def kX7_type_b17 (L : LX) (v1 : Int64) (v3 : Int32) (post : Int32 → SX → Prop) : Nat → Int32 → SX → Prop
  | 0, _, _ => False
  | n + 1, v4, S =>
    ((v3 ≤ v4 →
      ((((S 0 3) + v3) ≤ (100 : Int32) →
        ∃ n73 : Nat, kX7_type_b73 L v1 v3 post n73 (v3 - (1 : Int32)) S) ∧
      (¬ ((S 0 3) + v3) ≤ (100 : Int32) →
        post (-3 : Int32) S))) ∧
    (¬ v3 ≤ v4 →
      kX7_in S L ((v1 >>> (((8 : Int32) * v4).toInt64 &&& 63)) &&& (255 : Int64)) (32 : Int64) (126 : Int64) (fun r40 =>
      ((r40 = 0 →
        post (-1 : Int32) S) ∧
      (¬ r40 = 0 →
        (kX7_type_b17 L v1 v3 post n) (v4 + (1 : Int32)) S)))))
def kX7_type (S : SX) (L : LX) (v1 : Int64) (v3 : Int32) (post : Int32 → SX → Prop) : Prop :=
    kX7_in S L v3.toInt64 (1 : Int64) (8 : Int64) (fun r6 =>
    ((r6 = 0 →
      post (-1 : Int32) S) ∧
    (¬ r6 = 0 →
      ∃ n17 : Nat, kX7_type_b17 L v1 v3 post n17 (0 : Int32) S)))
def kX7_here_b38 (L : LX) (post : Int32 → SX → Prop) (S : SX) : Prop :=
    (((S 0 3) ≤ (S 0 4) →
      post (0 : Int32) S) ∧
    (¬ (S 0 3) ≤ (S 0 4) →
      vp_in (S 0 4) 100 ∧ post (S 14 (S 0 4).toNatClampNeg) S))
def kX7_here_b0 (L : LX) (post : Int32 → SX → Prop) : Nat → SX → Prop
  | 0, _ => False
  | n + 1, S =>
    (((S 0 3) ≤ (S 0 4) →
      kX7_here_b38 L post S) ∧
    (¬ (S 0 3) ≤ (S 0 4) →
      vp_in (S 0 4) 100 ∧ (((S 14 (S 0 4).toNatClampNeg) = (32 : Int32) →
        (kX7_here_b0 L post n) (xu S 0 4 ((S 0 4) + (1 : Int32)))) ∧
      (¬ (S 14 (S 0 4).toNatClampNeg) = (32 : Int32) →
        kX7_here_b38 L post S))))
def kX7_here (S : SX) (L : LX) (post : Int32 → SX → Prop) : Prop :=
    ∃ n0 : Nat, kX7_here_b0 L post n0 S
def kX7_has_b20 (L : LX) (v1 : Int32) (post : Int32 → SX → Prop) (z0 : Int32) (S : SX) : Prop :=
    ((z0 = 0 →
      (z0 = 0 ∨ z0 = 1) ∧ post z0 (xu S 0 4 ((S 0 4) + (0 : Int32)))) ∧
    (¬ z0 = 0 →
      (z0 = 0 ∨ z0 = 1) ∧ post z0 (xu S 0 4 ((S 0 4) + (1 : Int32)))))
def kX7_has_b19 (L : LX) (v1 : Int32) (post : Int32 → SX → Prop) (K20 : Int32 → SX → Prop) (S : SX) : Prop :=
    K20 (0 : Int32) S
def kX7_has (S : SX) (L : LX) (v1 : Int32) (post : Int32 → SX → Prop) : Prop :=
    (((S 0 5) = 0 →
      kX7_here S L (fun r8 S8 =>
      ((r8 = v1 →
        kX7_has_b20 L v1 post (1 : Int32) S8) ∧
      (¬ r8 = v1 →
        kX7_has_b19 L v1 post (kX7_has_b20 L v1 post) S8)))) ∧
    (¬ (S 0 5) = 0 →
      kX7_has_b19 L v1 post (kX7_has_b20 L v1 post) S))
def kX7_digit_b53 (L : LX) (v1 : Int32) (post : Int32 → SX → Prop) (z0 : Int32) (S : SX) : Prop :=
    (((S 0 5) = 0 →
      post z0 (xu S 0 4 ((S 0 4) + (1 : Int32)))) ∧
    (¬ (S 0 5) = 0 →
      post z0 (xu S 0 4 ((S 0 4) + (0 : Int32)))))
def kX7_digit_b32 (L : LX) (v1 : Int32) (post : Int32 → SX → Prop) (z1 : Int32) (S : SX) : Prop :=
    (z1 = 0 ∨ z1 = 1) ∧ ((((xu S 0 5 z1) 0 5) = 0 →
      kX7_here (xu S 0 5 z1) L (fun r47 S47 =>
      kX7_digit_b53 L v1 post (r47 - (48 : Int32)) S47)) ∧
    (¬ ((xu S 0 5 z1) 0 5) = 0 →
      kX7_digit_b53 L v1 post (0 : Int32) (xu S 0 5 z1)))
def kX7_digit_b27 (L : LX) (v1 : Int32) (post : Int32 → SX → Prop) (K32 : Int32 → SX → Prop) (S : SX) : Prop :=
    K32 (1 : Int32) S
def kX7_digit (S : SX) (L : LX) (v1 : Int32) (post : Int32 → SX → Prop) : Prop :=
    (((S 0 5) = 0 →
      kX7_here S L (fun r9 S9 =>
      kX7_in S9 L r9.toInt64 (48 : Int64) (((48 : Int32) + v1).toInt64) (fun r21 =>
      ((r21 = 0 →
        kX7_digit_b27 L v1 post (kX7_digit_b32 L v1 post) S9) ∧
      (¬ r21 = 0 →
        kX7_digit_b32 L v1 post (0 : Int32) S9))))) ∧
    (¬ (S 0 5) = 0 →
      kX7_digit_b27 L v1 post (kX7_digit_b32 L v1 post) S))
def kX7_number_b123 (L : LX) (v1 : Int32) (v2 : Int32) (post : Int32 → SX → Prop) (v3 : Int32) (z1 : Int32) (S : SX) : Prop :=
    (z1 = 0 ∨ z1 = 1) ∧ ((((xu S 0 5 z1) 0 5) = 0 →
      post v3 (xu (xu S 0 5 z1) 0 4 ((xu S 0 5 z1) 0 4))) ∧
    (¬ ((xu S 0 5 z1) 0 5) = 0 →
      post v3 (xu (xu S 0 5 z1) 0 4 v2)))
def kX7_number_b112 (L : LX) (v1 : Int32) (v2 : Int32) (post : Int32 → SX → Prop) (v3 : Int32) (S : SX) : Prop :=
    ((v3 ≤ v1 →
      kX7_number_b123 L v1 v2 post v3 (0 : Int32) S) ∧
    (¬ v3 ≤ v1 →
      kX7_number_b123 L v1 v2 post v3 (1 : Int32) S))
def kX7_number_b38 (L : LX) (v1 : Int32) (v2 : Int32) (post : Int32 → SX → Prop) : Nat → Int32 → SX → Prop
  | 0, _, _ => False
  | n + 1, v3, S =>
    (((S 0 3) ≤ (S 0 4) →
      kX7_number_b112 L v1 v2 post v3 S) ∧
    (¬ (S 0 3) ≤ (S 0 4) →
      vp_in (S 0 4) 100 ∧ kX7_in S L ((S 14 (S 0 4).toNatClampNeg).toInt64) (48 : Int64) (57 : Int64) (fun r65 =>
      ((r65 = 0 →
        kX7_number_b112 L v1 v2 post v3 S) ∧
      (¬ r65 = 0 →
        ((v3 ≤ (99999 : Int32) →
          vp_in (S 0 4) 100 ∧ (kX7_number_b38 L v1 v2 post n) ((((10 : Int32) * v3) + (S 14 (S 0 4).toNatClampNeg)) - (48 : Int32)) (xu S 0 4 ((S 0 4) + (1 : Int32)))) ∧
        (¬ v3 ≤ (99999 : Int32) →
          (kX7_number_b38 L v1 v2 post n) v3 (xu S 0 4 ((S 0 4) + (1 : Int32))))))))))
def kX7_number (S : SX) (L : LX) (v1 : Int32) (post : Int32 → SX → Prop) : Prop :=
    (((S 0 5) = 0 →
      kX7_here S L (fun r8 S8 =>
      kX7_in S8 L r8.toInt64 (48 : Int64) (57 : Int64) (fun r18 =>
      ((r18 = 0 →
        post (0 : Int32) (xu S8 0 5 (1 : Int32))) ∧
      (¬ r18 = 0 →
        ∃ n38 : Nat, kX7_number_b38 L v1 (S8 0 4) post n38 (0 : Int32) S8))))) ∧
    (¬ (S 0 5) = 0 →
      post (0 : Int32) (xu S 0 5 (1 : Int32))))
def kX7_readRule_b161 (L : LX) (v1 : Int32) (post : SX → Prop) (z0 : Int32) (z1 : Int32) (S : SX) : Prop :=
    kX7_has S L (87 : Int32) (fun r167 S167 =>
    ((r167 = 0 →
      vp_in (v1 + (4 : Int32)) 56 ∧ post (xu S167 15 (v1 + (4 : Int32)).toNatClampNeg ((z0 ||| z1) ||| (0 : Int32)))) ∧
    (¬ r167 = 0 →
      vp_in (v1 + (4 : Int32)) 56 ∧ post (xu S167 15 (v1 + (4 : Int32)).toNatClampNeg ((z0 ||| z1) ||| (8 : Int32))))))
def kX7_readRule_b144 (L : LX) (v1 : Int32) (post : SX → Prop) (z0 : Int32) (z1 : Int32) (S : SX) : Prop :=
    kX7_has S L (84 : Int32) (fun r150 S150 =>
    ((r150 = 0 →
      kX7_readRule_b161 L v1 post (z0 ||| z1) (0 : Int32) S150) ∧
    (¬ r150 = 0 →
      kX7_readRule_b161 L v1 post (z0 ||| z1) (4 : Int32) S150)))
def kX7_readRule_b128 (L : LX) (v1 : Int32) (post : SX → Prop) (z0 : Int32) (S : SX) : Prop :=
    kX7_has S L (71 : Int32) (fun r133 S133 =>
    ((r133 = 0 →
      kX7_readRule_b144 L v1 post z0 (0 : Int32) S133) ∧
    (¬ r133 = 0 →
      kX7_readRule_b144 L v1 post z0 (2 : Int32) S133)))
def kX7_readRule_b113 (L : LX) (v1 : Int32) (post : SX → Prop) (z1 : Int32) (z2 : Int32) (S : SX) : Prop :=
    vp_in z1 56 ∧ kX7_has (xu S 15 z1.toNatClampNeg z2) L (76 : Int32) (fun r117 S117 =>
    ((r117 = 0 →
      kX7_readRule_b128 L v1 post (0 : Int32) S117) ∧
    (¬ r117 = 0 →
      kX7_readRule_b128 L v1 post (1 : Int32) S117)))
def kX7_readRule_b85 (L : LX) (v1 : Int32) (post : SX → Prop) (z1 : Int32) (z2 : Int32) (S : SX) : Prop :=
    vp_in z1 56 ∧ kX7_has (xu S 15 z1.toNatClampNeg z2) L (104 : Int32) (fun r96 S96 =>
    ((r96 = 0 →
      kX7_readRule_b113 L v1 post (v1 + (3 : Int32)) (0 : Int32) S96) ∧
    (¬ r96 = 0 →
      kX7_number S96 L (999 : Int32) (fun r106 S106 =>
      kX7_readRule_b113 L v1 post (v1 + (3 : Int32)) r106 S106))))
def kX7_readRule_b57 (L : LX) (v1 : Int32) (post : SX → Prop) (z1 : Int32) (z2 : Int32) (S : SX) : Prop :=
    vp_in z1 56 ∧ kX7_has (xu S 15 z1.toNatClampNeg z2) L (108 : Int32) (fun r68 S68 =>
    ((r68 = 0 →
      kX7_readRule_b85 L v1 post (v1 + (2 : Int32)) (0 : Int32) S68) ∧
    (¬ r68 = 0 →
      kX7_number S68 L (9999 : Int32) (fun r78 S78 =>
      kX7_readRule_b85 L v1 post (v1 + (2 : Int32)) r78 S78))))
def kX7_readRule_b27 (L : LX) (v1 : Int32) (post : SX → Prop) (z1 : Int32) (S : SX) : Prop :=
    (z1 = 0 ∨ z1 = 1) ∧ kX7_has (xu S 0 5 z1) L (102 : Int32) (fun r40 S40 =>
    ((r40 = 0 →
      kX7_readRule_b57 L v1 post (v1 + (1 : Int32)) (0 : Int32) S40) ∧
    (¬ r40 = 0 →
      kX7_number S40 L (9999 : Int32) (fun r50 S50 =>
      kX7_readRule_b57 L v1 post (v1 + (1 : Int32)) r50 S50))))
def kX7_readRule (S : SX) (L : LX) (v1 : Int32) (post : SX → Prop) : Prop :=
    kX7_digit S L (7 : Int32) (fun r8 S8 =>
    vp_in v1 56 ∧ kX7_has (xu S8 15 v1.toNatClampNeg r8) L (58 : Int32) (fun r16 S16 =>
    ((r16 = 0 →
      kX7_readRule_b27 L v1 post (1 : Int32) S16) ∧
    (¬ r16 = 0 →
      kX7_readRule_b27 L v1 post (0 : Int32) S16))))
def kX7_readWill_b141 (L : LX) (v1 : Int32) (post : SX → Prop) (z1 : Int32) (z2 : Int32) (S : SX) : Prop :=
    vp_in z1 56 ∧ kX7_has (xu S 15 z1.toNatClampNeg z2) L (116 : Int32) (fun r153 S153 =>
    ((r153 = 0 →
      vp_in (v1 + (6 : Int32)) 56 ∧ post (xu S153 15 (v1 + (6 : Int32)).toNatClampNeg (0 : Int32))) ∧
    (¬ r153 = 0 →
      kX7_number S153 L (9999 : Int32) (fun r163 S163 =>
      vp_in (v1 + (6 : Int32)) 56 ∧ post (xu S163 15 (v1 + (6 : Int32)).toNatClampNeg r163)))))
def kX7_readWill_b113 (L : LX) (v1 : Int32) (post : SX → Prop) (z1 : Int32) (z2 : Int32) (S : SX) : Prop :=
    vp_in z1 56 ∧ kX7_has (xu S 15 z1.toNatClampNeg z2) L (103 : Int32) (fun r124 S124 =>
    ((r124 = 0 →
      kX7_readWill_b141 L v1 post (v1 + (5 : Int32)) (0 : Int32) S124) ∧
    (¬ r124 = 0 →
      kX7_number S124 L (9999 : Int32) (fun r134 S134 =>
      kX7_readWill_b141 L v1 post (v1 + (5 : Int32)) r134 S134))))
def kX7_readWill_b70 (L : LX) (v1 : Int32) (post : SX → Prop) (z1 : Int32) (z2 : Int32) (S : SX) : Prop :=
    vp_in z1 56 ∧ kX7_number (xu S 15 z1.toNatClampNeg z2) L (9999 : Int32) (fun r82 S82 =>
    vp_in (v1 + (3 : Int32)) 56 ∧ kX7_has (xu S82 15 (v1 + (3 : Int32)).toNatClampNeg r82) L (108 : Int32) (fun r96 S96 =>
    ((r96 = 0 →
      kX7_readWill_b113 L v1 post (v1 + (4 : Int32)) (0 : Int32) S96) ∧
    (¬ r96 = 0 →
      kX7_number S96 L (9999 : Int32) (fun r106 S106 =>
      kX7_readWill_b113 L v1 post (v1 + (4 : Int32)) r106 S106)))))
def kX7_readWill_b51 (L : LX) (v1 : Int32) (post : SX → Prop) (v2 : Int32) (z1 : Int32) (S : SX) : Prop :=
    (z1 = 0 ∨ z1 = 1) ∧ ((v2 = 0 →
      kX7_readWill_b70 L v1 post (v1 + (2 : Int32)) (1 : Int32) (xu S 0 5 z1)) ∧
    (¬ v2 = 0 →
      kX7_readWill_b70 L v1 post (v1 + (2 : Int32)) (0 : Int32) (xu S 0 5 z1)))
def kX7_readWill_b50 (L : LX) (v1 : Int32) (post : SX → Prop) (K51 : Int32 → Int32 → SX → Prop) (v2 : Int32) (S : SX) : Prop :=
    K51 v2 (0 : Int32) S
def kX7_readWill (S : SX) (L : LX) (v1 : Int32) (post : SX → Prop) : Prop :=
    kX7_digit S L (7 : Int32) (fun r8 S8 =>
    vp_in v1 56 ∧ kX7_digit (xu S8 15 v1.toNatClampNeg r8) L (5 : Int32) (fun r21 S21 =>
    vp_in (v1 + (1 : Int32)) 56 ∧ kX7_has (xu S21 15 (v1 + (1 : Int32)).toNatClampNeg r21) L (109 : Int32) (fun r28 S28 =>
    ((r28 = 0 →
      kX7_has S28 L (119 : Int32) (fun r40 S40 =>
      ((r40 = 0 →
        kX7_readWill_b51 L v1 post r28 (1 : Int32) S40) ∧
      (¬ r40 = 0 →
        kX7_readWill_b50 L v1 post (kX7_readWill_b51 L v1 post) r28 S40)))) ∧
    (¬ r28 = 0 →
      kX7_readWill_b50 L v1 post (kX7_readWill_b51 L v1 post) r28 S28)))))
def kX7_readAll_b41 (L : LX) (v1 : Int32) (post : Int32 → SX → Prop) (K14 : Int32 → Int32 → SX → Prop) (v2 : Int32) (S : SX) : Prop :=
    (((8 : Int32) ≤ (v2 + (1 : Int32)) →
      K14 (v2 + (1 : Int32)) (0 : Int32) S) ∧
    (¬ (8 : Int32) ≤ (v2 + (1 : Int32)) →
      kX7_has S L (59 : Int32) (fun r53 S53 =>
      ((r53 = 0 →
        K14 (v2 + (1 : Int32)) (0 : Int32) S53) ∧
      (¬ r53 = 0 →
        K14 (v2 + (1 : Int32)) (1 : Int32) S53)))))
def kX7_readAll_b88 (L : LX) (v1 : Int32) (post : Int32 → SX → Prop) (v2 : Int32) (z1 : Int32) (S : SX) : Prop :=
    (z1 = 0 ∨ z1 = 1) ∧ ((((xu (xu S 0 5 z1) 0 3 (0 : Int32)) 0 5) = 0 →
      post v2 (xu (xu S 0 5 z1) 0 3 (0 : Int32))) ∧
    (¬ ((xu (xu S 0 5 z1) 0 3 (0 : Int32)) 0 5) = 0 →
      post ((-20 : Int32) - ((xu (xu S 0 5 z1) 0 3 (0 : Int32)) 0 4)) (xu (xu S 0 5 z1) 0 3 (0 : Int32))))
def kX7_readAll_b83 (L : LX) (v1 : Int32) (post : Int32 → SX → Prop) (K88 : Int32 → Int32 → SX → Prop) (v2 : Int32) (S : SX) : Prop :=
    K88 v2 (1 : Int32) S
def kX7_readAll_b14 (L : LX) (v1 : Int32) (post : Int32 → SX → Prop) : Nat → Int32 → Int32 → SX → Prop
  | 0, _, _, _ => False
  | n + 1, v2, v3, S =>
    ((v3 = 0 →
      (((S 0 5) = 0 →
        kX7_here S L (fun r77 S77 =>
        ((r77 = 0 →
          kX7_readAll_b88 L v1 post v2 (0 : Int32) S77) ∧
        (¬ r77 = 0 →
          kX7_readAll_b83 L v1 post (kX7_readAll_b88 L v1 post) v2 S77)))) ∧
      (¬ (S 0 5) = 0 →
        kX7_readAll_b83 L v1 post (kX7_readAll_b88 L v1 post) v2 S))) ∧
    (¬ v3 = 0 →
      ((v1 = 0 →
        kX7_readWill S L ((7 : Int32) * v2) (fun S38 =>
        kX7_readAll_b41 L v1 post (kX7_readAll_b14 L v1 post n) v2 S38)) ∧
      (¬ v1 = 0 →
        kX7_readRule S L ((7 : Int32) * v2) (fun S27 =>
        kX7_readAll_b41 L v1 post (kX7_readAll_b14 L v1 post n) v2 S27)))))
def kX7_readAll (S : SX) (L : LX) (v1 : Int32) (post : Int32 → SX → Prop) : Prop :=
    ∃ n14 : Nat, kX7_readAll_b14 L v1 post n14 (0 : Int32) (1 : Int32) (xu (xu S 0 4 (0 : Int32)) 0 5 (0 : Int32))
def kX7_rules_b23 (L : LX) (v1 : Int32) (post : Int32 → SX → Prop) (K8 : Int32 → SX → Prop) : Nat → Int32 → Int32 → SX → Prop
  | 0, _, _, _ => False
  | n + 1, v2, v3, S =>
    (((8 : Int32) ≤ v3 →
      K8 (v2 + (7 : Int32)) S) ∧
    (¬ (8 : Int32) ≤ v3 →
      vp_in (v2 + (1 : Int32)) 56 ∧ vp_in v3 8 ∧ vp_in (v2 + (2 : Int32)) 56 ∧ vp_in v3 8 ∧ vp_in (v2 + (3 : Int32)) 56 ∧ vp_in v3 8 ∧ vp_in (v2 + (4 : Int32)) 56 ∧ vp_in v3 8 ∧ (kX7_rules_b23 L v1 post K8 n) v2 (v3 + (1 : Int32)) (xu (xu (xu (xu S 6 v3.toNatClampNeg (S 15 (v2 + (1 : Int32)).toNatClampNeg)) 7 v3.toNatClampNeg ((xu S 6 v3.toNatClampNeg (S 15 (v2 + (1 : Int32)).toNatClampNeg)) 15 (v2 + (2 : Int32)).toNatClampNeg)) 8 v3.toNatClampNeg ((xu (xu S 6 v3.toNatClampNeg (S 15 (v2 + (1 : Int32)).toNatClampNeg)) 7 v3.toNatClampNeg ((xu S 6 v3.toNatClampNeg (S 15 (v2 + (1 : Int32)).toNatClampNeg)) 15 (v2 + (2 : Int32)).toNatClampNeg)) 15 (v2 + (3 : Int32)).toNatClampNeg)) 9 v3.toNatClampNeg ((xu (xu (xu S 6 v3.toNatClampNeg (S 15 (v2 + (1 : Int32)).toNatClampNeg)) 7 v3.toNatClampNeg ((xu S 6 v3.toNatClampNeg (S 15 (v2 + (1 : Int32)).toNatClampNeg)) 15 (v2 + (2 : Int32)).toNatClampNeg)) 8 v3.toNatClampNeg ((xu (xu S 6 v3.toNatClampNeg (S 15 (v2 + (1 : Int32)).toNatClampNeg)) 7 v3.toNatClampNeg ((xu S 6 v3.toNatClampNeg (S 15 (v2 + (1 : Int32)).toNatClampNeg)) 15 (v2 + (2 : Int32)).toNatClampNeg)) 15 (v2 + (3 : Int32)).toNatClampNeg)) 15 (v2 + (4 : Int32)).toNatClampNeg))))
def kX7_rules_b8 (L : LX) (v1 : Int32) (post : Int32 → SX → Prop) : Nat → Int32 → SX → Prop
  | 0, _, _ => False
  | n + 1, v2, S =>
    ((((7 : Int32) * v1) ≤ v2 →
      post v1 S) ∧
    (¬ ((7 : Int32) * v1) ≤ v2 →
      vp_in v2 56 ∧ ∃ n23 : Nat, kX7_rules_b23 L v1 post (kX7_rules_b8 L v1 post n) n23 v2 (S 15 v2.toNatClampNeg) S))
def kX7_rules (S : SX) (L : LX) (post : Int32 → SX → Prop) : Prop :=
    kX7_readAll S L (1 : Int32) (fun r2 S2 =>
    ∃ n8 : Nat, kX7_rules_b8 L r2 post n8 (0 : Int32) S2)
def kX7_wills_b26 (L : LX) (v1 : Int32) (post : Int32 → SX → Prop) : Nat → Int32 → SX → Prop
  | 0, _, _ => False
  | n + 1, v2, S =>
    ((((7 : Int32) * v1) ≤ v2 →
      post v1 S) ∧
    (¬ ((7 : Int32) * v1) ≤ v2 →
      vp_in v2 56 ∧ vp_in (v2 + (1 : Int32)) 56 ∧ vp_in (v2 + (2 : Int32)) 56 ∧ vp_in (v2 + (3 : Int32)) 56 ∧ vp_in (v2 + (4 : Int32)) 56 ∧ vp_in (v2 + (5 : Int32)) 56 ∧ vp_in (v2 + (6 : Int32)) 56 ∧ kX7_comes S L (S 15 v2.toNatClampNeg) (S 15 (v2 + (1 : Int32)).toNatClampNeg) (S 15 (v2 + (2 : Int32)).toNatClampNeg) (S 15 (v2 + (3 : Int32)).toNatClampNeg) (S 15 (v2 + (4 : Int32)).toNatClampNeg) (S 15 (v2 + (5 : Int32)).toNatClampNeg) (S 15 (v2 + (6 : Int32)).toNatClampNeg) (fun S90 =>
      (kX7_wills_b26 L v1 post n) (v2 + (7 : Int32)) S90)))
def kX7_wills (S : SX) (L : LX) (post : Int32 → SX → Prop) : Prop :=
    kX7_readAll S L (0 : Int32) (fun r2 S2 =>
    ((r2 ≤ 0 →
      ∃ n26 : Nat, kX7_wills_b26 L r2 post n26 (0 : Int32) S2) ∧
    (¬ r2 ≤ 0 →
      ((((S2 0 2) + r2) ≤ (24 : Int32) →
        ∃ n26 : Nat, kX7_wills_b26 L r2 post n26 (0 : Int32) S2) ∧
      (¬ ((S2 0 2) + r2) ≤ (24 : Int32) →
        post (-3 : Int32) S2)))))
def kX7_totalOf_b6 (S : SX) (L : LX) (v1 : Int32) (v2 : Int32) (v3 : Int32) (post : Int64 → Prop) : Nat → Int64 → Int32 → Prop
  | 0, _, _ => False
  | n + 1, v4, v6 =>
    (((S 0 2) ≤ v6 →
      post v4) ∧
    (¬ (S 0 2) ≤ v6 →
      vp_in v6 24 ∧ (((S 2 v6.toNatClampNeg) = v1 →
        ((v6 = v3 →
          (kX7_totalOf_b6 S L v1 v2 v3 post n) (v4 + (0 : Int64)) (v6 + (1 : Int32))) ∧
        (¬ v6 = v3 →
          kX7_isBooked S L v6 v2 (fun r38 =>
          ((r38 = 0 →
            (kX7_totalOf_b6 S L v1 v2 v3 post n) (v4 + (0 : Int64)) (v6 + (1 : Int32))) ∧
          (¬ r38 = 0 →
            kX7_sworn S L v6 v2 (fun r48 =>
            kX7_weight S L v6 v2 (fun r56 =>
            (kX7_totalOf_b6 S L v1 v2 v3 post n) (v4 + (r48.toInt64 * r56.toInt64)) (v6 + (1 : Int32)))))))))) ∧
      (¬ (S 2 v6.toNatClampNeg) = v1 →
        (kX7_totalOf_b6 S L v1 v2 v3 post n) (v4 + (0 : Int64)) (v6 + (1 : Int32))))))
def kX7_totalOf (S : SX) (L : LX) (v1 : Int32) (v2 : Int32) (v3 : Int32) (post : Int64 → Prop) : Prop :=
    ∃ n6 : Nat, kX7_totalOf_b6 S L v1 v2 v3 post n6 (0 : Int64) (0 : Int32)
def kX7_topOf_b93 (S : SX) (L : LX) (v1 : Int32) (v2 : Int32) (v3 : Int32) (v4 : Int32) (post : Int64 → Prop) (K45 : Int64 → Int64 → Int32 → Int32 → Int32 → Prop) (v5 : Int64) (v7 : Int64) (v9 : Int32) (v11 : Int32) (v12 : Int32) (z0 : Int32) : Prop :=
    ((z0 = 0 →
      K45 v5 v7 v9 v11 (v12 + (-1 : Int32))) ∧
    (¬ z0 = 0 →
      ((v11 < 0 →
        K45 v5 v7 v9 v12 (v12 + (-1 : Int32))) ∧
      (¬ v11 < 0 →
        kX7_sworn S L v12 v2 (fun r109 =>
        kX7_sworn S L v11 v2 (fun r116 =>
        ((r109 < r116 →
          K45 v5 v7 v9 v11 (v12 + (-1 : Int32))) ∧
        (¬ r109 < r116 →
          K45 v5 v7 v9 v12 (v12 + (-1 : Int32))))))))))
def kX7_topOf_b92 (S : SX) (L : LX) (v1 : Int32) (v2 : Int32) (v3 : Int32) (v4 : Int32) (post : Int64 → Prop) (K93 : Int64 → Int64 → Int32 → Int32 → Int32 → Int32 → Prop) (v5 : Int64) (v7 : Int64) (v9 : Int32) (v11 : Int32) (v12 : Int32) : Prop :=
    K93 v5 v7 v9 v11 v12 (0 : Int32)
def kX7_topOf_b211 (S : SX) (L : LX) (v1 : Int32) (v2 : Int32) (v3 : Int32) (v4 : Int32) (post : Int64 → Prop) (K21 : Int64 → Int64 → Int32 → Int32 → Prop) (v5 : Int64) (v9 : Int32) (v10 : Int32) (v11 : Int32) (v12 : Int64) (z0 : Int64) (z1 : Int64) : Prop :=
    ((v10 = 0 →
      K21 (v5 - v12) (z0 + z1) (v9 ||| (0 : Int32)) v10) ∧
    (¬ v10 = 0 →
      K21 (v5 - v12) (z0 + z1) (v9 ||| ((1 : Int32) <<< (v11 &&& 31))) v10))
def kX7_topOf_b187 (S : SX) (L : LX) (v1 : Int32) (v2 : Int32) (v3 : Int32) (v4 : Int32) (post : Int64 → Prop) (K21 : Int64 → Int64 → Int32 → Int32 → Prop) (v5 : Int64) (v7 : Int64) (v9 : Int32) (v10 : Int32) (v11 : Int32) (z0 : Int64) : Prop :=
    ((v10 = 0 →
      kX7_topOf_b211 S L v1 v2 v3 v4 post K21 v5 v9 v10 v11 z0 v7 (0 : Int64)) ∧
    (¬ v10 = 0 →
      kX7_sworn S L v11 v2 (fun r202 =>
      kX7_topOf_b211 S L v1 v2 v3 v4 post K21 v5 v9 v10 v11 z0 v7 (z0 * r202.toInt64))))
def kX7_topOf_b170 (S : SX) (L : LX) (v1 : Int32) (v2 : Int32) (v3 : Int32) (v4 : Int32) (post : Int64 → Prop) (K21 : Int64 → Int64 → Int32 → Int32 → Prop) (v5 : Int64) (v7 : Int64) (v9 : Int32) (v10 : Int32) (v11 : Int32) (z0 : Int64) : Prop :=
    ((v5 ≤ z0 →
      kX7_topOf_b187 S L v1 v2 v3 v4 post K21 v5 v7 v9 v10 v11 v5) ∧
    (¬ v5 ≤ z0 →
      kX7_topOf_b187 S L v1 v2 v3 v4 post K21 v5 v7 v9 v10 v11 z0))
def kX7_topOf_b147 (S : SX) (L : LX) (v1 : Int32) (v2 : Int32) (v3 : Int32) (v4 : Int32) (post : Int64 → Prop) (K21 : Int64 → Int64 → Int32 → Int32 → Prop) (v5 : Int64) (v7 : Int64) (v9 : Int32) (v11 : Int32) (z0 : Int32) : Prop :=
    ((z0 = 0 →
      kX7_topOf_b170 S L v1 v2 v3 v4 post K21 v5 v7 v9 z0 v11 (0 : Int64)) ∧
    (¬ z0 = 0 →
      kX7_weight S L v11 v2 (fun r161 =>
      kX7_topOf_b170 S L v1 v2 v3 v4 post K21 v5 v7 v9 z0 v11 ((10 : Int64) * r161.toInt64))))
def kX7_topOf_b45 (S : SX) (L : LX) (v1 : Int32) (v2 : Int32) (v3 : Int32) (v4 : Int32) (post : Int64 → Prop) (K21 : Int64 → Int64 → Int32 → Int32 → Prop) : Nat → Int64 → Int64 → Int32 → Int32 → Int32 → Prop
  | 0, _, _, _, _, _ => False
  | n + 1, v5, v7, v9, v11, v12 =>
    ((v12 < 0 →
      ((v11 < 0 →
        kX7_topOf_b147 S L v1 v2 v3 v4 post K21 v5 v7 v9 v11 (0 : Int32)) ∧
      (¬ v11 < 0 →
        kX7_topOf_b147 S L v1 v2 v3 v4 post K21 v5 v7 v9 v11 (1 : Int32)))) ∧
    (¬ v12 < 0 →
      vp_in v12 24 ∧ (((S 2 v12.toNatClampNeg) = v1 →
        ((v12 = v4 →
          kX7_topOf_b92 S L v1 v2 v3 v4 post (kX7_topOf_b93 S L v1 v2 v3 v4 post (kX7_topOf_b45 S L v1 v2 v3 v4 post K21 n)) v5 v7 v9 v11 v12) ∧
        (¬ v12 = v4 →
          ((((v9 >>> (v12 &&& 31)) &&& (1 : Int32)) = 0 →
            kX7_isBooked S L v12 v2 (fun r82 =>
            ((r82 = 0 →
              kX7_topOf_b92 S L v1 v2 v3 v4 post (kX7_topOf_b93 S L v1 v2 v3 v4 post (kX7_topOf_b45 S L v1 v2 v3 v4 post K21 n)) v5 v7 v9 v11 v12) ∧
            (¬ r82 = 0 →
              kX7_topOf_b93 S L v1 v2 v3 v4 post (kX7_topOf_b45 S L v1 v2 v3 v4 post K21 n) v5 v7 v9 v11 v12 (1 : Int32))))) ∧
          (¬ ((v9 >>> (v12 &&& 31)) &&& (1 : Int32)) = 0 →
            kX7_topOf_b92 S L v1 v2 v3 v4 post (kX7_topOf_b93 S L v1 v2 v3 v4 post (kX7_topOf_b45 S L v1 v2 v3 v4 post K21 n)) v5 v7 v9 v11 v12))))) ∧
      (¬ (S 2 v12.toNatClampNeg) = v1 →
        kX7_topOf_b92 S L v1 v2 v3 v4 post (kX7_topOf_b93 S L v1 v2 v3 v4 post (kX7_topOf_b45 S L v1 v2 v3 v4 post K21 n)) v5 v7 v9 v11 v12))))
def kX7_topOf_b21 (S : SX) (L : LX) (v1 : Int32) (v2 : Int32) (v3 : Int32) (v4 : Int32) (post : Int64 → Prop) : Nat → Int64 → Int64 → Int32 → Int32 → Prop
  | 0, _, _, _, _ => False
  | n + 1, v5, v7, v9, v10 =>
    ((v10 = 0 →
      post v7) ∧
    (¬ v10 = 0 →
      ((v5 ≤ (0 : Int64) →
        post v7) ∧
      (¬ v5 ≤ (0 : Int64) →
        ∃ n45 : Nat, kX7_topOf_b45 S L v1 v2 v3 v4 post (kX7_topOf_b21 S L v1 v2 v3 v4 post n) n45 v5 v7 v9 (-4 : Int32) ((S 0 2) - (1 : Int32))))))
def kX7_topOf (S : SX) (L : LX) (v1 : Int32) (v2 : Int32) (v3 : Int32) (v4 : Int32) (post : Int64 → Prop) : Prop :=
    vp_in v1 8 ∧ ∃ n21 : Nat, kX7_topOf_b21 S L v1 v2 v3 v4 post n21 (v3.toInt64 * ((S 10 v1.toNatClampNeg).toInt64)) (0 : Int64) (0 : Int32) (1 : Int32)
def kX7_partsOf (S : SX) (L : LX) (v1 : Int32) (v2 : Int32) (v3 : Int32) (v4 : Int32) (post : Int32 → Prop) : Prop :=
    kX7_totalOf S L v1 v2 v4 (fun r5 =>
    ((r5 = (0 : Int64) →
      post (0 : Int32)) ∧
    (¬ r5 = (0 : Int64) →
      kX7_topOf S L v1 v2 v3 v4 (fun r27 =>
      ¬ ((10 : Int64) * r5) = 0 ∧ post (((r27 * (100000 : Int64)) / ((10 : Int64) * r5)).toInt32)))))
def kX7_unseen_b85 (S : SX) (L : LX) (v1 : Int32) (post : Int64 → Prop) (K5 : Int64 → Int32 → Prop) (v2 : Int64) (v4 : Int32) (v5 : Int64) (z0 : Int32) : Prop :=
    vp_in v4 24 ∧ (((S 2 v4.toNatClampNeg) = v1 →
      kX7_sworn S L v4 v1 (fun r105 =>
      K5 (v2 + ((v5 - r105.toInt64) * z0.toInt64)) (v4 + (1 : Int32)))) ∧
    (¬ (S 2 v4.toNatClampNeg) = v1 →
      K5 (v2 + (0 : Int64)) (v4 + (1 : Int32))))
def kX7_unseen_b20 (S : SX) (L : LX) (v1 : Int32) (post : Int64 → Prop) (K5 : Int64 → Int32 → Prop) : Nat → Int64 → Int32 → Int64 → Int32 → Prop
  | 0, _, _, _, _ => False
  | n + 1, v2, v4, v5, v7 =>
    (((4 : Int32) ≤ v7 →
      kX7_isBooked S L v4 v1 (fun r54 =>
      ((r54 = 0 →
        vp_in v4 24 ∧ vp_in (S 3 v4.toNatClampNeg) 6 ∧ kX7_unseen_b85 S L v1 post K5 v2 v4 v5 ((100 : Int32) * (S 1 (S 3 v4.toNatClampNeg).toNatClampNeg))) ∧
      (¬ r54 = 0 →
        kX7_weight S L v4 v1 (fun r64 =>
        kX7_unseen_b85 S L v1 post K5 v2 v4 v5 r64))))) ∧
    (¬ (4 : Int32) ≤ v7 →
      vp_in (((4 : Int32) * v4) + v7) 96 ∧ (kX7_unseen_b20 S L v1 post K5 n) v2 v4 (v5 + ((S 5 (((4 : Int32) * v4) + v7).toNatClampNeg).toInt64)) (v7 + (1 : Int32))))
def kX7_unseen_b5 (S : SX) (L : LX) (v1 : Int32) (post : Int64 → Prop) : Nat → Int64 → Int32 → Prop
  | 0, _, _ => False
  | n + 1, v2, v4 =>
    (((S 0 2) ≤ v4 →
      post v2) ∧
    (¬ (S 0 2) ≤ v4 →
      ∃ n20 : Nat, kX7_unseen_b20 S L v1 post (kX7_unseen_b5 S L v1 post n) n20 v2 v4 (0 : Int64) (0 : Int32)))
def kX7_unseen (S : SX) (L : LX) (v1 : Int32) (post : Int64 → Prop) : Prop :=
    ∃ n5 : Nat, kX7_unseen_b5 S L v1 post n5 (0 : Int64) (0 : Int32)
def kX7_count_b71 (S : SX) (L : LX) (v1 : Int32) (post : Int32 → Prop) (K46 : Int32 → Int32 → Prop) (v3 : Int32) (z0 : Int32) : Prop :=
    ((v1 = (5 : Int32) →
      vp_in v3 8 ∧ (((L 13 v3.toNatClampNeg) < (0 : Int64) →
        K46 (z0 + (0 : Int32)) (v3 + (1 : Int32))) ∧
      (¬ (L 13 v3.toNatClampNeg) < (0 : Int64) →
        K46 (z0 + (1 : Int32)) (v3 + (1 : Int32))))) ∧
    (¬ v1 = (5 : Int32) →
      K46 (z0 + (0 : Int32)) (v3 + (1 : Int32))))
def kX7_count_b46 (S : SX) (L : LX) (v1 : Int32) (post : Int32 → Prop) : Nat → Int32 → Int32 → Prop
  | 0, _, _ => False
  | n + 1, v2, v3 =>
    (((8 : Int32) ≤ v3 →
      kX7_in S L v1.toInt64 (0 : Int64) (5 : Int64) (fun r106 =>
      ((r106 = 0 →
        post (-1 : Int32)) ∧
      (¬ r106 = 0 →
        ((v1 = 0 →
          post (S 0 2)) ∧
        (¬ v1 = 0 →
          post v2)))))) ∧
    (¬ (8 : Int32) ≤ v3 →
      ((v1 = (4 : Int32) →
        kX7_totalOf S L v3 v3 (-4 : Int32) (fun r63 =>
        (((0 : Int64) < r63 →
          (kX7_count_b46 S L v1 post n) (v2 + (1 : Int32)) (v3 + (1 : Int32))) ∧
        (¬ (0 : Int64) < r63 →
          kX7_count_b71 S L v1 post (kX7_count_b46 S L v1 post n) v3 v2)))) ∧
      (¬ v1 = (4 : Int32) →
        kX7_count_b71 S L v1 post (kX7_count_b46 S L v1 post n) v3 v2))))
def kX7_count_b4 (S : SX) (L : LX) (v1 : Int32) (post : Int32 → Prop) : Nat → Int32 → Int32 → Prop
  | 0, _, _ => False
  | n + 1, v2, v3 =>
    (((S 0 2) ≤ v3 →
      ∃ n46 : Nat, kX7_count_b46 S L v1 post n46 v2 (0 : Int32)) ∧
    (¬ (S 0 2) ≤ v3 →
      ((v1 ≤ 0 →
        (kX7_count_b4 S L v1 post n) (v2 + (0 : Int32)) (v3 + (1 : Int32))) ∧
      (¬ v1 ≤ 0 →
        (((4 : Int32) ≤ v1 →
          (kX7_count_b4 S L v1 post n) (v2 + (0 : Int32)) (v3 + (1 : Int32))) ∧
        (¬ (4 : Int32) ≤ v1 →
          kX7_kind S L v3 (fun r24 =>
          ((r24 = v1 →
            (kX7_count_b4 S L v1 post n) (v2 + (1 : Int32)) (v3 + (1 : Int32))) ∧
          (¬ r24 = v1 →
            (kX7_count_b4 S L v1 post n) (v2 + (0 : Int32)) (v3 + (1 : Int32)))))))))))
def kX7_count (S : SX) (L : LX) (v1 : Int32) (post : Int32 → Prop) : Prop :=
    ∃ n4 : Nat, kX7_count_b4 S L v1 post n4 (0 : Int32) (0 : Int32)
def kX7_total (S : SX) (L : LX) (v1 : Int32) (v2 : Int32) (post : Int64 → Prop) : Prop :=
    kX7_isYear S L v1 (fun r1 =>
    ((r1 = 0 →
      post (-1 : Int64)) ∧
    (¬ r1 = 0 →
      kX7_in S L v2.toInt64 (0 : Int64) (1 : Int64) (fun r11 =>
      ((r11 = 0 →
        post (-1 : Int64)) ∧
      (¬ r11 = 0 →
        ((v2 = 0 →
          kX7_totalOf S L v1 v1 (-4 : Int32) (fun r30 =>
          post r30)) ∧
        (¬ v2 = 0 →
          kX7_unseen S L v1 (fun r38 =>
          post r38)))))))))
def kX7_isTop (S : SX) (L : LX) (v0 : Int32) (post : Int32 → Prop) : Prop :=
    kX7_in S L v0.toInt64 (1 : Int64) (1000 : Int64) (fun r6 =>
    (r6 = 0 ∨ r6 = 1) ∧ post r6)
def kX7_share_b74 (S : SX) (L : LX) (v1 : Int32) (v2 : Int32) (v3 : Int32) (v4 : Int64) (v6 : Int64) (post : Int64 → Prop) : Nat → Int64 → Int64 → Prop
  | 0, _, _ => False
  | n + 1, v8, v10 =>
    ((v10 = (0 : Int64) →
      ((v3 = 0 →
        ¬ v8 = 0 ∧ post (v6 / v8)) ∧
      (¬ v3 = 0 →
        ((v3 = (1 : Int32) →
          ¬ v8 = 0 ∧ post (v4 / v8)) ∧
        (¬ v3 = (1 : Int32) →
          ¬ v4 = 0 ∧ post ((v6 * (100000 : Int64)) / v4)))))) ∧
    (¬ v10 = (0 : Int64) →
      ¬ v10 = 0 ∧ (kX7_share_b74 S L v1 v2 v3 v4 v6 post n) v10 (v8 - v8 / v10 * v10)))
def kX7_share (S : SX) (L : LX) (v1 : Int32) (v2 : Int32) (v3 : Int32) (post : Int64 → Prop) : Prop :=
    kX7_isYear S L v1 (fun r1 =>
    ((r1 = 0 →
      post (-1 : Int64)) ∧
    (¬ r1 = 0 →
      kX7_isTop S L v2 (fun r8 =>
      ((r8 = 0 →
        post (-1 : Int64)) ∧
      (¬ r8 = 0 →
        kX7_in S L v3.toInt64 (0 : Int64) (2 : Int64) (fun r20 =>
        ((r20 = 0 →
          post (-1 : Int64)) ∧
        (¬ r20 = 0 →
          kX7_totalOf S L v1 v1 (-4 : Int32) (fun r38 =>
          ((((10 : Int64) * r38) = (0 : Int64) →
            post (-4 : Int64)) ∧
          (¬ ((10 : Int64) * r38) = (0 : Int64) →
            kX7_topOf S L v1 v1 v2 (-4 : Int32) (fun r61 =>
            ∃ n74 : Nat, kX7_share_b74 S L v1 v2 v3 ((10 : Int64) * r38) r61 post n74 r61 ((10 : Int64) * r38))))))))))))))
def kX7_maker_b136 (S : SX) (L : LX) (v1 : Int32) (v2 : Int32) (v3 : Int32) (v4 : Int32) (post : Int32 → Prop) (K63 : Int32 → Int32 → Int32 → Prop) (v6 : Int32) (v7 : Int32) (v8 : Int32) (z0 : Int32) : Prop :=
    ((v8 ≤ v6 →
      K63 z0 v6 (v7 + (1 : Int32))) ∧
    (¬ v8 ≤ v6 →
      K63 z0 v8 (v7 + (1 : Int32))))
def kX7_maker_b120 (S : SX) (L : LX) (v1 : Int32) (v2 : Int32) (v3 : Int32) (v4 : Int32) (post : Int32 → Prop) (K63 : Int32 → Int32 → Int32 → Prop) (v5 : Int32) (v6 : Int32) (v7 : Int32) (z0 : Int32) : Prop :=
    ((z0 ≤ v6 →
      kX7_maker_b136 S L v1 v2 v3 v4 post K63 v6 v7 z0 v5) ∧
    (¬ z0 ≤ v6 →
      kX7_maker_b136 S L v1 v2 v3 v4 post K63 v6 v7 z0 v7))
def kX7_maker_b63 (S : SX) (L : LX) (v1 : Int32) (v2 : Int32) (v3 : Int32) (v4 : Int32) (post : Int32 → Prop) : Nat → Int32 → Int32 → Int32 → Prop
  | 0, _, _, _ => False
  | n + 1, v5, v6, v7 =>
    (((S 0 2) ≤ v7 →
      ((v3 = 0 →
        post v5) ∧
      (¬ v3 = 0 →
        kX7_partsOf S L v1 v1 v2 v5 (fun r175 =>
        post r175)))) ∧
    (¬ (S 0 2) ≤ v7 →
      vp_in v7 24 ∧ (((S 2 v7.toNatClampNeg) = v1 →
        kX7_isBooked S L v7 v1 (fun r87 =>
        ((r87 = 0 →
          (kX7_maker_b63 S L v1 v2 v3 v4 post n) v5 v6 (v7 + (1 : Int32))) ∧
        (¬ r87 = 0 →
          kX7_partsOf S L v1 v1 v2 v7 (fun r99 =>
          ((0 ≤ (r99 - v4) →
            kX7_maker_b120 S L v1 v2 v3 v4 post (kX7_maker_b63 S L v1 v2 v3 v4 post n) v5 v6 v7 (r99 - v4)) ∧
          (¬ 0 ≤ (r99 - v4) →
            kX7_maker_b120 S L v1 v2 v3 v4 post (kX7_maker_b63 S L v1 v2 v3 v4 post n) v5 v6 v7 (-(r99 - v4))))))))) ∧
      (¬ (S 2 v7.toNatClampNeg) = v1 →
        (kX7_maker_b63 S L v1 v2 v3 v4 post n) v5 v6 (v7 + (1 : Int32))))))
def kX7_maker (S : SX) (L : LX) (v1 : Int32) (v2 : Int32) (v3 : Int32) (post : Int32 → Prop) : Prop :=
    kX7_isYear S L v1 (fun r1 =>
    ((r1 = 0 →
      post (-1 : Int32)) ∧
    (¬ r1 = 0 →
      kX7_isTop S L v2 (fun r8 =>
      ((r8 = 0 →
        post (-1 : Int32)) ∧
      (¬ r8 = 0 →
        kX7_in S L v3.toInt64 (0 : Int64) (1 : Int64) (fun r18 =>
        ((r18 = 0 →
          post (-1 : Int32)) ∧
        (¬ r18 = 0 →
          kX7_totalOf S L v1 v1 (-4 : Int32) (fun r31 =>
          ((r31 = (0 : Int64) →
            post (-4 : Int32)) ∧
          (¬ r31 = (0 : Int64) →
            kX7_partsOf S L v1 v1 v2 (-4 : Int32) (fun r48 =>
            ∃ n63 : Nat, kX7_maker_b63 S L v1 v2 v3 r48 post n63 (-4 : Int32) (-1 : Int32) (0 : Int32))))))))))))))
def kX7_span_b56 (S : SX) (L : LX) (v1 : Int32) (v2 : Int32) (v3 : Int32) (post : Int32 → Prop) : Nat → Int32 → Int32 → Prop
  | 0, _, _ => False
  | n + 1, v4, v5 =>
    (((S 0 2) ≤ v5 →
      post v4) ∧
    (¬ (S 0 2) ≤ v5 →
      vp_in v5 24 ∧ (((S 2 v5.toNatClampNeg) = v1 →
        kX7_isBooked S L v5 v1 (fun r80 =>
        ((r80 = 0 →
          (kX7_span_b56 S L v1 v2 v3 post n) v4 (v5 + (1 : Int32))) ∧
        (¬ r80 = 0 →
          kX7_partsOf S L v1 v1 v2 v5 (fun r92 =>
          ((v3 = 0 →
            ((v4 ≤ r92 →
              (kX7_span_b56 S L v1 v2 v3 post n) v4 (v5 + (1 : Int32))) ∧
            (¬ v4 ≤ r92 →
              (kX7_span_b56 S L v1 v2 v3 post n) r92 (v5 + (1 : Int32))))) ∧
          (¬ v3 = 0 →
            ((r92 ≤ v4 →
              (kX7_span_b56 S L v1 v2 v3 post n) v4 (v5 + (1 : Int32))) ∧
            (¬ r92 ≤ v4 →
              (kX7_span_b56 S L v1 v2 v3 post n) r92 (v5 + (1 : Int32))))))))))) ∧
      (¬ (S 2 v5.toNatClampNeg) = v1 →
        (kX7_span_b56 S L v1 v2 v3 post n) v4 (v5 + (1 : Int32))))))
def kX7_span (S : SX) (L : LX) (v1 : Int32) (v2 : Int32) (v3 : Int32) (post : Int32 → Prop) : Prop :=
    kX7_isYear S L v1 (fun r1 =>
    ((r1 = 0 →
      post (-1 : Int32)) ∧
    (¬ r1 = 0 →
      kX7_isTop S L v2 (fun r8 =>
      ((r8 = 0 →
        post (-1 : Int32)) ∧
      (¬ r8 = 0 →
        kX7_in S L v3.toInt64 (0 : Int64) (1 : Int64) (fun r18 =>
        ((r18 = 0 →
          post (-1 : Int32)) ∧
        (¬ r18 = 0 →
          kX7_totalOf S L v1 v1 (-4 : Int32) (fun r31 =>
          ((r31 = (0 : Int64) →
            post (-4 : Int32)) ∧
          (¬ r31 = (0 : Int64) →
            kX7_partsOf S L v1 v1 v2 (-4 : Int32) (fun r48 =>
            ∃ n56 : Nat, kX7_span_b56 S L v1 v2 v3 post n56 r48 (0 : Int32))))))))))))))
def kX7_smooth_b81 (S : SX) (L : LX) (v1 : Int32) (v2 : Int32) (v3 : Int32) (post : Int32 → Prop) (K37 : Int64 → Int64 → Int32 → Prop) (v6 : Int64) (v8 : Int32) (v9 : Int32) (z0 : Int64) (z1 : Int64) : Prop :=
    ((v9 = 0 →
      K37 (z0 + z1) (v6 + (0 : Int64)) (v8 + (1 : Int32))) ∧
    (¬ v9 = 0 →
      kX7_totalOf S L v8 v8 (-4 : Int32) (fun r101 =>
      K37 (z0 + z1) (v6 + ((10 : Int64) * r101)) (v8 + (1 : Int32)))))
def kX7_smooth_b37 (S : SX) (L : LX) (v1 : Int32) (v2 : Int32) (v3 : Int32) (post : Int32 → Prop) : Nat → Int64 → Int64 → Int32 → Prop
  | 0, _, _, _ => False
  | n + 1, v4, v6, v8 =>
    (((8 : Int32) ≤ v8 →
      ((v6 = (0 : Int64) →
        post (-4 : Int32)) ∧
      (¬ v6 = (0 : Int64) →
        ¬ v6 = 0 ∧ post (((v4 * (100000 : Int64)) / v6).toInt32)))) ∧
    (¬ (8 : Int32) ≤ v8 →
      kX7_in S L ((v8 - v1).toInt64) ((-v3).toInt64) v3.toInt64 (fun r54 =>
      ((r54 = 0 →
        kX7_smooth_b81 S L v1 v2 v3 post (kX7_smooth_b37 S L v1 v2 v3 post n) v6 v8 r54 v4 (0 : Int64)) ∧
      (¬ r54 = 0 →
        kX7_topOf S L v8 v8 v2 (-4 : Int32) (fun r74 =>
        kX7_smooth_b81 S L v1 v2 v3 post (kX7_smooth_b37 S L v1 v2 v3 post n) v6 v8 r54 v4 r74))))))
def kX7_smooth (S : SX) (L : LX) (v1 : Int32) (v2 : Int32) (v3 : Int32) (post : Int32 → Prop) : Prop :=
    kX7_isYear S L v1 (fun r1 =>
    ((r1 = 0 →
      post (-1 : Int32)) ∧
    (¬ r1 = 0 →
      kX7_isTop S L v2 (fun r8 =>
      ((r8 = 0 →
        post (-1 : Int32)) ∧
      (¬ r8 = 0 →
        kX7_in S L v3.toInt64 (0 : Int64) (3 : Int64) (fun r20 =>
        ((r20 = 0 →
          post (-1 : Int32)) ∧
        (¬ r20 = 0 →
          ∃ n37 : Nat, kX7_smooth_b37 S L v1 v2 v3 post n37 (0 : Int64) (0 : Int64) (0 : Int32))))))))))
def kX7_jump_b126 (S : SX) (L : LX) (v1 : Int32) (v2 : Int32) (post : Int32 → Prop) (K28 : Int32 → Int32 → Int32 → Prop) (v4 : Int32) (v5 : Int32) (v6 : Int32) (z0 : Int32) : Prop :=
    ((v6 ≤ v4 →
      K28 z0 v4 (v5 + (1 : Int32))) ∧
    (¬ v6 ≤ v4 →
      K28 z0 v6 (v5 + (1 : Int32))))
def kX7_jump_b111 (S : SX) (L : LX) (v1 : Int32) (v2 : Int32) (post : Int32 → Prop) (K28 : Int32 → Int32 → Int32 → Prop) (v3 : Int32) (v4 : Int32) (v5 : Int32) (z0 : Int32) : Prop :=
    ((z0 ≤ v4 →
      kX7_jump_b126 S L v1 v2 post K28 v4 v5 z0 v3) ∧
    (¬ z0 ≤ v4 →
      kX7_jump_b126 S L v1 v2 post K28 v4 v5 z0 v5))
def kX7_jump_b28 (S : SX) (L : LX) (v1 : Int32) (v2 : Int32) (post : Int32 → Prop) : Nat → Int32 → Int32 → Int32 → Prop
  | 0, _, _, _ => False
  | n + 1, v3, v4, v5 =>
    (((7 : Int32) ≤ v5 →
      ((v3 < 0 →
        post v3) ∧
      (¬ v3 < 0 →
        ((v2 = 0 →
          post v3) ∧
        (¬ v2 = 0 →
          post v4))))) ∧
    (¬ (7 : Int32) ≤ v5 →
      kX7_totalOf S L v5 v5 (-4 : Int32) (fun r42 =>
      ((r42 ≤ (0 : Int64) →
        (kX7_jump_b28 S L v1 v2 post n) v3 v4 (v5 + (1 : Int32))) ∧
      (¬ r42 ≤ (0 : Int64) →
        kX7_totalOf S L (v5 + (1 : Int32)) (v5 + (1 : Int32)) (-4 : Int32) (fun r61 =>
        ((r61 ≤ (0 : Int64) →
          (kX7_jump_b28 S L v1 v2 post n) v3 v4 (v5 + (1 : Int32))) ∧
        (¬ r61 ≤ (0 : Int64) →
          kX7_partsOf S L (v5 + (1 : Int32)) (v5 + (1 : Int32)) v1 (-4 : Int32) (fun r81 =>
          kX7_partsOf S L v5 v5 v1 (-4 : Int32) (fun r92 =>
          ((0 ≤ (r81 - r92) →
            kX7_jump_b111 S L v1 v2 post (kX7_jump_b28 S L v1 v2 post n) v3 v4 v5 (r81 - r92)) ∧
          (¬ 0 ≤ (r81 - r92) →
            kX7_jump_b111 S L v1 v2 post (kX7_jump_b28 S L v1 v2 post n) v3 v4 v5 (-(r81 - r92))))))))))))))
def kX7_jump (S : SX) (L : LX) (v1 : Int32) (v2 : Int32) (post : Int32 → Prop) : Prop :=
    kX7_isTop S L v1 (fun r1 =>
    ((r1 = 0 →
      post (-1 : Int32)) ∧
    (¬ r1 = 0 →
      kX7_in S L v2.toInt64 (0 : Int64) (1 : Int64) (fun r11 =>
      ((r11 = 0 →
        post (-1 : Int32)) ∧
      (¬ r11 = 0 →
        ∃ n28 : Nat, kX7_jump_b28 S L v1 v2 post n28 (-4 : Int32) (-1 : Int32) (0 : Int32)))))))
def kX7_alone (S : SX) (L : LX) (v1 : Int32) (v2 : Int32) (v3 : Int32) (post : Int64 → Prop) : Prop :=
    kX7_isYear S L v1 (fun r1 =>
    ((r1 = 0 →
      post (-1000000000000000001 : Int64)) ∧
    (¬ r1 = 0 →
      kX7_isYear S L v2 (fun r8 =>
      ((r8 = 0 →
        post (-1000000000000000001 : Int64)) ∧
      (¬ r8 = 0 →
        kX7_isTop S L v3 (fun r15 =>
        ((r15 = 0 →
          post (-1000000000000000001 : Int64)) ∧
        (¬ r15 = 0 →
          kX7_partsOf S L v1 v2 v3 (-4 : Int32) (fun r31 =>
          kX7_partsOf S L v1 v1 v3 (-4 : Int32) (fun r40 =>
          post ((r31 - r40).toInt64))))))))))))
def kX7_bounds (S : SX) (L : LX) (v1 : Int32) (v2 : Int32) (v3 : Int32) (post : Int32 → Prop) : Prop :=
    kX7_isYear S L v1 (fun r1 =>
    ((r1 = 0 →
      post (-1 : Int32)) ∧
    (¬ r1 = 0 →
      kX7_isTop S L v2 (fun r8 =>
      ((r8 = 0 →
        post (-1 : Int32)) ∧
      (¬ r8 = 0 →
        kX7_in S L v3.toInt64 (0 : Int64) (1 : Int64) (fun r18 =>
        ((r18 = 0 →
          post (-1 : Int32)) ∧
        (¬ r18 = 0 →
          kX7_unseen S L v1 (fun r28 =>
          kX7_totalOf S L v1 v1 (-4 : Int32) (fun r41 =>
          ((((10 : Int64) * (r41 + r28)) = (0 : Int64) →
            post (-4 : Int32)) ∧
          (¬ ((10 : Int64) * (r41 + r28)) = (0 : Int64) →
            kX7_topOf S L v1 v1 v2 (-4 : Int32) (fun r66 =>
            ((v3 = 0 →
              ¬ ((10 : Int64) * (r41 + r28)) = 0 ∧ post ((((r66 + (0 : Int64)) * (100000 : Int64)) / ((10 : Int64) * (r41 + r28))).toInt32)) ∧
            (¬ v3 = 0 →
              ¬ ((10 : Int64) * (r41 + r28)) = 0 ∧ post ((((r66 + ((10 : Int64) * r28)) * (100000 : Int64)) / ((10 : Int64) * (r41 + r28))).toInt32)))))))))))))))))
def kX7_heap_b182 (S : SX) (L : LX) (v1 : Int32) (v2 : Int32) (v3 : Int32) (v6 : Int32) (v8 : Int32) (post : Int32 → Prop) (K118 : Int32 → Int32 → Int32 → Int32 → Prop) (v5 : Int32) (v7 : Int32) (v9 : Int32) (v10 : Int32) (z0 : Int32) (z1 : Int32) : Prop :=
    vp_in v9 24 ∧ (((S 2 v9.toNatClampNeg) = v7 →
      kX7_in S L v10.toInt64 (1 : Int64) v2.toInt64 (fun r205 =>
      ((r205 = 0 →
        K118 (z0 + z1) (v5 + (0 : Int32)) v7 (v9 + (1 : Int32))) ∧
      (¬ r205 = 0 →
        K118 (z0 + z1) (v5 + (1 : Int32)) v7 (v9 + (1 : Int32)))))) ∧
    (¬ (S 2 v9.toNatClampNeg) = v7 →
      K118 (z0 + z1) (v5 + (0 : Int32)) v7 (v9 + (1 : Int32))))
def kX7_heap_b181 (S : SX) (L : LX) (v1 : Int32) (v2 : Int32) (v3 : Int32) (v6 : Int32) (v8 : Int32) (post : Int32 → Prop) (K182 : Int32 → Int32 → Int32 → Int32 → Int32 → Int32 → Prop) (v5 : Int32) (v7 : Int32) (v9 : Int32) (v10 : Int32) (z0 : Int32) : Prop :=
    K182 v5 v7 v9 v10 z0 (0 : Int32)
def kX7_heap_b118 (S : SX) (L : LX) (v1 : Int32) (v2 : Int32) (v3 : Int32) (v6 : Int32) (v8 : Int32) (post : Int32 → Prop) (K50 : Int32 → Int32 → Int32 → Int32 → Prop) : Nat → Int32 → Int32 → Int32 → Int32 → Prop
  | 0, _, _, _, _ => False
  | n + 1, v4, v5, v7, v9 =>
    (((S 0 2) ≤ v9 →
      K50 v4 v5 v6 (v7 + (1 : Int32))) ∧
    (¬ (S 0 2) ≤ v9 →
      ((v8 = 0 →
        K50 v4 v5 v6 (v7 + (1 : Int32))) ∧
      (¬ v8 = 0 →
        kX7_sworn S L v9 v7 (fun r137 =>
        vp_in v7 8 ∧ vp_in v9 24 ∧ (((S 2 v9.toNatClampNeg) = v7 →
          kX7_in S L ((r137 - (S 7 v7.toNatClampNeg)).toInt64) ((-v2).toInt64) (0 : Int64) (fun r171 =>
          ((r171 = 0 →
            kX7_heap_b181 S L v1 v2 v3 v6 v8 post (kX7_heap_b182 S L v1 v2 v3 v6 v8 post (kX7_heap_b118 S L v1 v2 v3 v6 v8 post K50 n)) v5 v7 v9 (r137 - (S 7 v7.toNatClampNeg)) v4) ∧
          (¬ r171 = 0 →
            kX7_heap_b182 S L v1 v2 v3 v6 v8 post (kX7_heap_b118 S L v1 v2 v3 v6 v8 post K50 n) v5 v7 v9 (r137 - (S 7 v7.toNatClampNeg)) v4 (1 : Int32))))) ∧
        (¬ (S 2 v9.toNatClampNeg) = v7 →
          kX7_heap_b181 S L v1 v2 v3 v6 v8 post (kX7_heap_b182 S L v1 v2 v3 v6 v8 post (kX7_heap_b118 S L v1 v2 v3 v6 v8 post K50 n)) v5 v7 v9 (r137 - (S 7 v7.toNatClampNeg)) v4)))))))
def kX7_heap_b82 (S : SX) (L : LX) (v1 : Int32) (v2 : Int32) (v3 : Int32) (post : Int32 → Prop) (K50 : Int32 → Int32 → Int32 → Int32 → Prop) (v4 : Int32) (v5 : Int32) (v6 : Int32) (v7 : Int32) (z0 : Int32) : Prop :=
    ((z0 = 0 →
      ∃ n118 : Nat, kX7_heap_b118 S L v1 v2 v3 v6 z0 post K50 n118 v4 v5 v7 (0 : Int32)) ∧
    (¬ z0 = 0 →
      vp_in v7 8 ∧ (((S 8 v7.toNatClampNeg) ≤ v6 →
        ∃ n118 : Nat, kX7_heap_b118 S L v1 v2 v3 v6 z0 post K50 n118 v4 v5 v7 (0 : Int32)) ∧
      (¬ (S 8 v7.toNatClampNeg) ≤ v6 →
        vp_in v7 8 ∧ ∃ n118 : Nat, kX7_heap_b118 S L v1 v2 v3 (S 8 v7.toNatClampNeg) z0 post K50 n118 v4 v5 v7 (0 : Int32)))))
def kX7_heap_b81 (S : SX) (L : LX) (v1 : Int32) (v2 : Int32) (v3 : Int32) (post : Int32 → Prop) (K82 : Int32 → Int32 → Int32 → Int32 → Int32 → Prop) (v4 : Int32) (v5 : Int32) (v6 : Int32) (v7 : Int32) : Prop :=
    K82 v4 v5 v6 v7 (0 : Int32)
def kX7_heap_b247 (S : SX) (L : LX) (v1 : Int32) (v2 : Int32) (v3 : Int32) (post : Int32 → Prop) (v4 : Int32) (v5 : Int32) (v6 : Int32) (z0 : Int32) : Prop :=
    ((v3 = 0 →
      post z0) ∧
    (¬ v3 = 0 →
      ((v3 = (1 : Int32) →
        post (z0 * v6)) ∧
      (¬ v3 = (1 : Int32) →
        ((v3 = (2 : Int32) →
          post v4) ∧
        (¬ v3 = (2 : Int32) →
          post v5))))))
def kX7_heap_b50 (S : SX) (L : LX) (v1 : Int32) (v2 : Int32) (v3 : Int32) (post : Int32 → Prop) : Nat → Int32 → Int32 → Int32 → Int32 → Prop
  | 0, _, _, _, _ => False
  | n + 1, v4, v5, v6, v7 =>
    (((8 : Int32) ≤ v7 →
      ((v4 ≤ v5 →
        kX7_heap_b247 S L v1 v2 v3 post v4 v5 v6 (0 : Int32)) ∧
      (¬ v4 ≤ v5 →
        kX7_heap_b247 S L v1 v2 v3 post v4 v5 v6 (v4 - v5)))) ∧
    (¬ (8 : Int32) ≤ v7 →
      ((((v1 >>> (v7 &&& 31)) &&& (1 : Int32)) = (1 : Int32) →
        vp_in v7 8 ∧ (((S 7 v7.toNatClampNeg) ≤ 0 →
          kX7_heap_b81 S L v1 v2 v3 post (kX7_heap_b82 S L v1 v2 v3 post (kX7_heap_b50 S L v1 v2 v3 post n)) v4 v5 v6 v7) ∧
        (¬ (S 7 v7.toNatClampNeg) ≤ 0 →
          kX7_heap_b82 S L v1 v2 v3 post (kX7_heap_b50 S L v1 v2 v3 post n) v4 v5 v6 v7 (1 : Int32)))) ∧
      (¬ ((v1 >>> (v7 &&& 31)) &&& (1 : Int32)) = (1 : Int32) →
        kX7_heap_b81 S L v1 v2 v3 post (kX7_heap_b82 S L v1 v2 v3 post (kX7_heap_b50 S L v1 v2 v3 post n)) v4 v5 v6 v7))))
def kX7_heap (S : SX) (L : LX) (v1 : Int32) (v2 : Int32) (v3 : Int32) (post : Int32 → Prop) : Prop :=
    kX7_in S L v1.toInt64 (1 : Int64) (255 : Int64) (fun r6 =>
    ((r6 = 0 →
      post (-1 : Int32)) ∧
    (¬ r6 = 0 →
      kX7_in S L v2.toInt64 (1 : Int64) (999 : Int64) (fun r18 =>
      ((r18 = 0 →
        post (-1 : Int32)) ∧
      (¬ r18 = 0 →
        kX7_in S L v3.toInt64 (0 : Int64) (3 : Int64) (fun r30 =>
        ((r30 = 0 →
          post (-1 : Int32)) ∧
        (¬ r30 = 0 →
          ∃ n50 : Nat, kX7_heap_b50 S L v1 v2 v3 post n50 (0 : Int32) (0 : Int32) (0 : Int32) (0 : Int32))))))))))
def kX7_beside (S : SX) (L : LX) (v1 : Int32) (v2 : Int64) (v4 : Int64) (post : Int32 → SX → LX → Prop) : Prop :=
    kX7_isYear S L v1 (fun r1 =>
    ((r1 = 0 →
      post (-1 : Int32) S L) ∧
    (¬ r1 = 0 →
      kX7_in S L v4 (0 : Int64) (1000000000000000 : Int64) (fun r13 =>
      ((r13 = 0 →
        post (-1 : Int32) S L) ∧
      (¬ r13 = 0 →
        kX7_in S L v2 (0 : Int64) v4 (fun r23 =>
        ((r23 = 0 →
          post (-1 : Int32) S L) ∧
        (¬ r23 = 0 →
          vp_in v1 8 ∧ vp_in v1 8 ∧ post (1 : Int32) S (xuL (xuL L 12 v1.toNatClampNeg v2) 13 v1.toNatClampNeg v4))))))))))
def kX7_fights_b4 (S : SX) (L : LX) (post : Int32 → Prop) : Nat → Int32 → Int32 → Prop
  | 0, _, _ => False
  | n + 1, v1, v2 =>
    (((8 : Int32) ≤ v2 →
      post v1) ∧
    (¬ (8 : Int32) ≤ v2 →
      kX7_totalOf S L v2 v2 (-4 : Int32) (fun r15 =>
      kX7_unseen S L v2 (fun r22 =>
      vp_in v2 8 ∧ (((L 13 v2.toNatClampNeg) < (0 : Int64) →
        (kX7_fights_b4 S L post n) (v1 ||| (0 : Int32)) (v2 + (1 : Int32))) ∧
      (¬ (L 13 v2.toNatClampNeg) < (0 : Int64) →
        vp_in v2 8 ∧ (((L 13 v2.toNatClampNeg) < r15 →
          (kX7_fights_b4 S L post n) (v1 ||| ((1 : Int32) <<< (v2 &&& 31))) (v2 + (1 : Int32))) ∧
        (¬ (L 13 v2.toNatClampNeg) < r15 →
          vp_in v2 8 ∧ (((L 12 v2.toNatClampNeg) ≤ (r15 + r22) →
            (kX7_fights_b4 S L post n) (v1 ||| (0 : Int32)) (v2 + (1 : Int32))) ∧
          (¬ (L 12 v2.toNatClampNeg) ≤ (r15 + r22) →
            (kX7_fights_b4 S L post n) (v1 ||| ((1 : Int32) <<< (v2 &&& 31))) (v2 + (1 : Int32))))))))))))
def kX7_fights (S : SX) (L : LX) (post : Int32 → Prop) : Prop :=
    ∃ n4 : Nat, kX7_fights_b4 S L post n4 (0 : Int32) (0 : Int32)
def kX7_fall (S : SX) (L : LX) (v1 : Int32) (v2 : Int32) (v3 : Int32) (post : Int64 → Prop) : Prop :=
    kX7_isYear S L v1 (fun r1 =>
    ((r1 = 0 →
      post (-1000000000000000001 : Int64)) ∧
    (¬ r1 = 0 →
      kX7_isYear S L v2 (fun r8 =>
      ((r8 = 0 →
        post (-1000000000000000001 : Int64)) ∧
      (¬ r8 = 0 →
        ((v1 = v2 →
          post (-1000000000000000001 : Int64)) ∧
        (¬ v1 = v2 →
          kX7_in S L v3.toInt64 (0 : Int64) (2 : Int64) (fun r25 =>
          ((r25 = 0 →
            post (-1000000000000000001 : Int64)) ∧
          (¬ r25 = 0 →
            kX7_totalOf S L v1 v1 (-4 : Int32) (fun r40 =>
            kX7_totalOf S L v1 v2 (-4 : Int32) (fun r50 =>
            vp_in v2 8 ∧ vp_in v1 8 ∧ ¬ ((S 11 v1.toNatClampNeg).toInt64) = 0 ∧ ((v3 = 0 →
              post (r50 - r40)) ∧
            (¬ v3 = 0 →
              ((v3 = (1 : Int32) →
                post (((r50 * ((S 11 v2.toNatClampNeg).toInt64)) / ((S 11 v1.toNatClampNeg).toInt64)) - r50)) ∧
              (¬ v3 = (1 : Int32) →
                kX7_totalOf S L v2 v2 (-4 : Int32) (fun r105 =>
                post (r105 - ((r50 * ((S 11 v2.toNatClampNeg).toInt64)) / ((S 11 v1.toNatClampNeg).toInt64)))))))))))))))))))))
def kX7_saves_1_b2 (L : LX) (v2 : Int32) (post : Int32 → SX → Prop) : Nat → Int32 → SX → Prop
  | 0, _, _ => False
  | n + 1, v3, S =>
    (((6 : Int32) ≤ v3 →
      post (v2 + (6 : Int32)) S) ∧
    (¬ (6 : Int32) ≤ v3 →
      vp_in v3 6 ∧ vp_in (v2 + v3) 240 ∧ (kX7_saves_1_b2 L v2 post n) (v3 + (1 : Int32)) (xu S 16 (v2 + v3).toNatClampNeg (S 1 v3.toNatClampNeg))))
def kX7_saves_1 (S : SX) (L : LX) (v2 : Int32) (post : Int32 → SX → Prop) : Prop :=
    ∃ n2 : Nat, kX7_saves_1_b2 L v2 post n2 (0 : Int32) S
def kX7_saves_2_b2 (L : LX) (v2 : Int32) (post : Int32 → SX → Prop) : Nat → Int32 → SX → Prop
  | 0, _, _ => False
  | n + 1, v3, S =>
    (((24 : Int32) ≤ v3 →
      post (v2 + (24 : Int32)) S) ∧
    (¬ (24 : Int32) ≤ v3 →
      vp_in v3 24 ∧ vp_in (v2 + v3) 240 ∧ (kX7_saves_2_b2 L v2 post n) (v3 + (1 : Int32)) (xu S 16 (v2 + v3).toNatClampNeg (S 2 v3.toNatClampNeg))))
def kX7_saves_2 (S : SX) (L : LX) (v2 : Int32) (post : Int32 → SX → Prop) : Prop :=
    ∃ n2 : Nat, kX7_saves_2_b2 L v2 post n2 (0 : Int32) S
def kX7_saves_3_b2 (L : LX) (v2 : Int32) (post : Int32 → SX → Prop) : Nat → Int32 → SX → Prop
  | 0, _, _ => False
  | n + 1, v3, S =>
    (((24 : Int32) ≤ v3 →
      post (v2 + (24 : Int32)) S) ∧
    (¬ (24 : Int32) ≤ v3 →
      vp_in v3 24 ∧ vp_in (v2 + v3) 240 ∧ (kX7_saves_3_b2 L v2 post n) (v3 + (1 : Int32)) (xu S 16 (v2 + v3).toNatClampNeg (S 3 v3.toNatClampNeg))))
def kX7_saves_3 (S : SX) (L : LX) (v2 : Int32) (post : Int32 → SX → Prop) : Prop :=
    ∃ n2 : Nat, kX7_saves_3_b2 L v2 post n2 (0 : Int32) S
def kX7_saves_4_b2 (L : LX) (v2 : Int32) (post : Int32 → SX → Prop) : Nat → Int32 → SX → Prop
  | 0, _, _ => False
  | n + 1, v3, S =>
    (((24 : Int32) ≤ v3 →
      post (v2 + (24 : Int32)) S) ∧
    (¬ (24 : Int32) ≤ v3 →
      vp_in v3 24 ∧ vp_in (v2 + v3) 240 ∧ (kX7_saves_4_b2 L v2 post n) (v3 + (1 : Int32)) (xu S 16 (v2 + v3).toNatClampNeg (S 4 v3.toNatClampNeg))))
def kX7_saves_4 (S : SX) (L : LX) (v2 : Int32) (post : Int32 → SX → Prop) : Prop :=
    ∃ n2 : Nat, kX7_saves_4_b2 L v2 post n2 (0 : Int32) S
def kX7_saves_5_b2 (L : LX) (v2 : Int32) (post : Int32 → SX → Prop) : Nat → Int32 → SX → Prop
  | 0, _, _ => False
  | n + 1, v3, S =>
    (((96 : Int32) ≤ v3 →
      post (v2 + (96 : Int32)) S) ∧
    (¬ (96 : Int32) ≤ v3 →
      vp_in v3 96 ∧ vp_in (v2 + v3) 240 ∧ (kX7_saves_5_b2 L v2 post n) (v3 + (1 : Int32)) (xu S 16 (v2 + v3).toNatClampNeg (S 5 v3.toNatClampNeg))))
def kX7_saves_5 (S : SX) (L : LX) (v2 : Int32) (post : Int32 → SX → Prop) : Prop :=
    ∃ n2 : Nat, kX7_saves_5_b2 L v2 post n2 (0 : Int32) S
def kX7_saves_6_b2 (L : LX) (v2 : Int32) (post : Int32 → SX → Prop) : Nat → Int32 → SX → Prop
  | 0, _, _ => False
  | n + 1, v3, S =>
    (((8 : Int32) ≤ v3 →
      post (v2 + (8 : Int32)) S) ∧
    (¬ (8 : Int32) ≤ v3 →
      vp_in v3 8 ∧ vp_in (v2 + v3) 240 ∧ (kX7_saves_6_b2 L v2 post n) (v3 + (1 : Int32)) (xu S 16 (v2 + v3).toNatClampNeg (S 6 v3.toNatClampNeg))))
def kX7_saves_6 (S : SX) (L : LX) (v2 : Int32) (post : Int32 → SX → Prop) : Prop :=
    ∃ n2 : Nat, kX7_saves_6_b2 L v2 post n2 (0 : Int32) S
def kX7_saves_7_b2 (L : LX) (v2 : Int32) (post : Int32 → SX → Prop) : Nat → Int32 → SX → Prop
  | 0, _, _ => False
  | n + 1, v3, S =>
    (((8 : Int32) ≤ v3 →
      post (v2 + (8 : Int32)) S) ∧
    (¬ (8 : Int32) ≤ v3 →
      vp_in v3 8 ∧ vp_in (v2 + v3) 240 ∧ (kX7_saves_7_b2 L v2 post n) (v3 + (1 : Int32)) (xu S 16 (v2 + v3).toNatClampNeg (S 7 v3.toNatClampNeg))))
def kX7_saves_7 (S : SX) (L : LX) (v2 : Int32) (post : Int32 → SX → Prop) : Prop :=
    ∃ n2 : Nat, kX7_saves_7_b2 L v2 post n2 (0 : Int32) S
def kX7_saves_8_b2 (L : LX) (v2 : Int32) (post : Int32 → SX → Prop) : Nat → Int32 → SX → Prop
  | 0, _, _ => False
  | n + 1, v3, S =>
    (((8 : Int32) ≤ v3 →
      post (v2 + (8 : Int32)) S) ∧
    (¬ (8 : Int32) ≤ v3 →
      vp_in v3 8 ∧ vp_in (v2 + v3) 240 ∧ (kX7_saves_8_b2 L v2 post n) (v3 + (1 : Int32)) (xu S 16 (v2 + v3).toNatClampNeg (S 8 v3.toNatClampNeg))))
def kX7_saves_8 (S : SX) (L : LX) (v2 : Int32) (post : Int32 → SX → Prop) : Prop :=
    ∃ n2 : Nat, kX7_saves_8_b2 L v2 post n2 (0 : Int32) S
def kX7_saves_9_b2 (L : LX) (v2 : Int32) (post : Int32 → SX → Prop) : Nat → Int32 → SX → Prop
  | 0, _, _ => False
  | n + 1, v3, S =>
    (((8 : Int32) ≤ v3 →
      post (v2 + (8 : Int32)) S) ∧
    (¬ (8 : Int32) ≤ v3 →
      vp_in v3 8 ∧ vp_in (v2 + v3) 240 ∧ (kX7_saves_9_b2 L v2 post n) (v3 + (1 : Int32)) (xu S 16 (v2 + v3).toNatClampNeg (S 9 v3.toNatClampNeg))))
def kX7_saves_9 (S : SX) (L : LX) (v2 : Int32) (post : Int32 → SX → Prop) : Prop :=
    ∃ n2 : Nat, kX7_saves_9_b2 L v2 post n2 (0 : Int32) S
def kX7_saves_10_b2 (L : LX) (v2 : Int32) (post : Int32 → SX → Prop) : Nat → Int32 → SX → Prop
  | 0, _, _ => False
  | n + 1, v3, S =>
    (((8 : Int32) ≤ v3 →
      post (v2 + (8 : Int32)) S) ∧
    (¬ (8 : Int32) ≤ v3 →
      vp_in v3 8 ∧ vp_in (v2 + v3) 240 ∧ (kX7_saves_10_b2 L v2 post n) (v3 + (1 : Int32)) (xu S 16 (v2 + v3).toNatClampNeg (S 10 v3.toNatClampNeg))))
def kX7_saves_10 (S : SX) (L : LX) (v2 : Int32) (post : Int32 → SX → Prop) : Prop :=
    ∃ n2 : Nat, kX7_saves_10_b2 L v2 post n2 (0 : Int32) S
def kX7_saves_11_b2 (L : LX) (v2 : Int32) (post : Int32 → SX → Prop) : Nat → Int32 → SX → Prop
  | 0, _, _ => False
  | n + 1, v3, S =>
    (((8 : Int32) ≤ v3 →
      post (v2 + (8 : Int32)) S) ∧
    (¬ (8 : Int32) ≤ v3 →
      vp_in v3 8 ∧ vp_in (v2 + v3) 240 ∧ (kX7_saves_11_b2 L v2 post n) (v3 + (1 : Int32)) (xu S 16 (v2 + v3).toNatClampNeg (S 11 v3.toNatClampNeg))))
def kX7_saves_11 (S : SX) (L : LX) (v2 : Int32) (post : Int32 → SX → Prop) : Prop :=
    ∃ n2 : Nat, kX7_saves_11_b2 L v2 post n2 (0 : Int32) S
def kX7_image_b179 (post : Int32 → SX → LX → Prop) : Nat → Int32 → SX → LX → Prop
  | 0, _, _, _ => False
  | n + 1, v2, S, L =>
    (((8 : Int32) ≤ v2 →
      post (1 : Int32) (xu S 0 6 (1 : Int32)) L) ∧
    (¬ (8 : Int32) ≤ v2 →
      vp_in v2 8 ∧ vp_in v2 16 ∧ vp_in v2 8 ∧ vp_in ((8 : Int32) + v2) 16 ∧ (kX7_image_b179 post n) (v2 + (1 : Int32)) S (xuL (xuL L 17 v2.toNatClampNeg (L 12 v2.toNatClampNeg)) 17 ((8 : Int32) + v2).toNatClampNeg ((xuL L 17 v2.toNatClampNeg (L 12 v2.toNatClampNeg)) 13 v2.toNatClampNeg))))
def kX7_image (S : SX) (L : LX) (post : Int32 → SX → LX → Prop) : Prop :=
    kX7_saves_1 S L (0 : Int32) (fun r9 S9 =>
    kX7_saves_2 S9 L r9 (fun r22 S22 =>
    kX7_saves_3 S22 L r22 (fun r35 S35 =>
    kX7_saves_4 S35 L r35 (fun r48 S48 =>
    kX7_saves_5 S48 L r48 (fun r61 S61 =>
    kX7_saves_6 S61 L r61 (fun r74 S74 =>
    kX7_saves_7 S74 L r74 (fun r87 S87 =>
    kX7_saves_8 S87 L r87 (fun r100 S100 =>
    kX7_saves_9 S100 L r100 (fun r113 S113 =>
    kX7_saves_10 S113 L r113 (fun r126 S126 =>
    kX7_saves_11 S126 L r126 (fun r139 S139 =>
    vp_in r139 240 ∧ vp_in (r139 + (1 : Int32)) 240 ∧ vp_in (r139 + (2 : Int32)) 240 ∧ ∃ n179 : Nat, kX7_image_b179 post n179 (0 : Int32) (xu (xu (xu S139 16 r139.toNatClampNeg (S139 0 0)) 16 (r139 + (1 : Int32)).toNatClampNeg ((xu S139 16 r139.toNatClampNeg (S139 0 0)) 0 1)) 16 (r139 + (2 : Int32)).toNatClampNeg ((xu (xu S139 16 r139.toNatClampNeg (S139 0 0)) 16 (r139 + (1 : Int32)).toNatClampNeg ((xu S139 16 r139.toNatClampNeg (S139 0 0)) 0 1)) 0 2)) L)))))))))))
def kX7_gives_1_b2 (L : LX) (v1 : Int32) (post : Int32 → SX → Prop) : Nat → Int32 → SX → Prop
  | 0, _, _ => False
  | n + 1, v3, S =>
    (((6 : Int32) ≤ v3 →
      post (v1 + (6 : Int32)) S) ∧
    (¬ (6 : Int32) ≤ v3 →
      vp_in (v1 + v3) 240 ∧ vp_in v3 6 ∧ (kX7_gives_1_b2 L v1 post n) (v3 + (1 : Int32)) (xu S 1 v3.toNatClampNeg (S 16 (v1 + v3).toNatClampNeg))))
def kX7_gives_1 (S : SX) (L : LX) (v1 : Int32) (post : Int32 → SX → Prop) : Prop :=
    ∃ n2 : Nat, kX7_gives_1_b2 L v1 post n2 (0 : Int32) S
def kX7_gives_2_b2 (L : LX) (v1 : Int32) (post : Int32 → SX → Prop) : Nat → Int32 → SX → Prop
  | 0, _, _ => False
  | n + 1, v3, S =>
    (((24 : Int32) ≤ v3 →
      post (v1 + (24 : Int32)) S) ∧
    (¬ (24 : Int32) ≤ v3 →
      vp_in (v1 + v3) 240 ∧ vp_in v3 24 ∧ (kX7_gives_2_b2 L v1 post n) (v3 + (1 : Int32)) (xu S 2 v3.toNatClampNeg (S 16 (v1 + v3).toNatClampNeg))))
def kX7_gives_2 (S : SX) (L : LX) (v1 : Int32) (post : Int32 → SX → Prop) : Prop :=
    ∃ n2 : Nat, kX7_gives_2_b2 L v1 post n2 (0 : Int32) S
def kX7_gives_3_b2 (L : LX) (v1 : Int32) (post : Int32 → SX → Prop) : Nat → Int32 → SX → Prop
  | 0, _, _ => False
  | n + 1, v3, S =>
    (((24 : Int32) ≤ v3 →
      post (v1 + (24 : Int32)) S) ∧
    (¬ (24 : Int32) ≤ v3 →
      vp_in (v1 + v3) 240 ∧ vp_in v3 24 ∧ (kX7_gives_3_b2 L v1 post n) (v3 + (1 : Int32)) (xu S 3 v3.toNatClampNeg (S 16 (v1 + v3).toNatClampNeg))))
def kX7_gives_3 (S : SX) (L : LX) (v1 : Int32) (post : Int32 → SX → Prop) : Prop :=
    ∃ n2 : Nat, kX7_gives_3_b2 L v1 post n2 (0 : Int32) S
def kX7_gives_4_b2 (L : LX) (v1 : Int32) (post : Int32 → SX → Prop) : Nat → Int32 → SX → Prop
  | 0, _, _ => False
  | n + 1, v3, S =>
    (((24 : Int32) ≤ v3 →
      post (v1 + (24 : Int32)) S) ∧
    (¬ (24 : Int32) ≤ v3 →
      vp_in (v1 + v3) 240 ∧ vp_in v3 24 ∧ (kX7_gives_4_b2 L v1 post n) (v3 + (1 : Int32)) (xu S 4 v3.toNatClampNeg (S 16 (v1 + v3).toNatClampNeg))))
def kX7_gives_4 (S : SX) (L : LX) (v1 : Int32) (post : Int32 → SX → Prop) : Prop :=
    ∃ n2 : Nat, kX7_gives_4_b2 L v1 post n2 (0 : Int32) S
def kX7_gives_5_b2 (L : LX) (v1 : Int32) (post : Int32 → SX → Prop) : Nat → Int32 → SX → Prop
  | 0, _, _ => False
  | n + 1, v3, S =>
    (((96 : Int32) ≤ v3 →
      post (v1 + (96 : Int32)) S) ∧
    (¬ (96 : Int32) ≤ v3 →
      vp_in (v1 + v3) 240 ∧ vp_in v3 96 ∧ (kX7_gives_5_b2 L v1 post n) (v3 + (1 : Int32)) (xu S 5 v3.toNatClampNeg (S 16 (v1 + v3).toNatClampNeg))))
def kX7_gives_5 (S : SX) (L : LX) (v1 : Int32) (post : Int32 → SX → Prop) : Prop :=
    ∃ n2 : Nat, kX7_gives_5_b2 L v1 post n2 (0 : Int32) S
def kX7_gives_6_b2 (L : LX) (v1 : Int32) (post : Int32 → SX → Prop) : Nat → Int32 → SX → Prop
  | 0, _, _ => False
  | n + 1, v3, S =>
    (((8 : Int32) ≤ v3 →
      post (v1 + (8 : Int32)) S) ∧
    (¬ (8 : Int32) ≤ v3 →
      vp_in (v1 + v3) 240 ∧ vp_in v3 8 ∧ (kX7_gives_6_b2 L v1 post n) (v3 + (1 : Int32)) (xu S 6 v3.toNatClampNeg (S 16 (v1 + v3).toNatClampNeg))))
def kX7_gives_6 (S : SX) (L : LX) (v1 : Int32) (post : Int32 → SX → Prop) : Prop :=
    ∃ n2 : Nat, kX7_gives_6_b2 L v1 post n2 (0 : Int32) S
def kX7_gives_7_b2 (L : LX) (v1 : Int32) (post : Int32 → SX → Prop) : Nat → Int32 → SX → Prop
  | 0, _, _ => False
  | n + 1, v3, S =>
    (((8 : Int32) ≤ v3 →
      post (v1 + (8 : Int32)) S) ∧
    (¬ (8 : Int32) ≤ v3 →
      vp_in (v1 + v3) 240 ∧ vp_in v3 8 ∧ (kX7_gives_7_b2 L v1 post n) (v3 + (1 : Int32)) (xu S 7 v3.toNatClampNeg (S 16 (v1 + v3).toNatClampNeg))))
def kX7_gives_7 (S : SX) (L : LX) (v1 : Int32) (post : Int32 → SX → Prop) : Prop :=
    ∃ n2 : Nat, kX7_gives_7_b2 L v1 post n2 (0 : Int32) S
def kX7_gives_8_b2 (L : LX) (v1 : Int32) (post : Int32 → SX → Prop) : Nat → Int32 → SX → Prop
  | 0, _, _ => False
  | n + 1, v3, S =>
    (((8 : Int32) ≤ v3 →
      post (v1 + (8 : Int32)) S) ∧
    (¬ (8 : Int32) ≤ v3 →
      vp_in (v1 + v3) 240 ∧ vp_in v3 8 ∧ (kX7_gives_8_b2 L v1 post n) (v3 + (1 : Int32)) (xu S 8 v3.toNatClampNeg (S 16 (v1 + v3).toNatClampNeg))))
def kX7_gives_8 (S : SX) (L : LX) (v1 : Int32) (post : Int32 → SX → Prop) : Prop :=
    ∃ n2 : Nat, kX7_gives_8_b2 L v1 post n2 (0 : Int32) S
def kX7_gives_9_b2 (L : LX) (v1 : Int32) (post : Int32 → SX → Prop) : Nat → Int32 → SX → Prop
  | 0, _, _ => False
  | n + 1, v3, S =>
    (((8 : Int32) ≤ v3 →
      post (v1 + (8 : Int32)) S) ∧
    (¬ (8 : Int32) ≤ v3 →
      vp_in (v1 + v3) 240 ∧ vp_in v3 8 ∧ (kX7_gives_9_b2 L v1 post n) (v3 + (1 : Int32)) (xu S 9 v3.toNatClampNeg (S 16 (v1 + v3).toNatClampNeg))))
def kX7_gives_9 (S : SX) (L : LX) (v1 : Int32) (post : Int32 → SX → Prop) : Prop :=
    ∃ n2 : Nat, kX7_gives_9_b2 L v1 post n2 (0 : Int32) S
def kX7_gives_10_b2 (L : LX) (v1 : Int32) (post : Int32 → SX → Prop) : Nat → Int32 → SX → Prop
  | 0, _, _ => False
  | n + 1, v3, S =>
    (((8 : Int32) ≤ v3 →
      post (v1 + (8 : Int32)) S) ∧
    (¬ (8 : Int32) ≤ v3 →
      vp_in (v1 + v3) 240 ∧ vp_in v3 8 ∧ (kX7_gives_10_b2 L v1 post n) (v3 + (1 : Int32)) (xu S 10 v3.toNatClampNeg (S 16 (v1 + v3).toNatClampNeg))))
def kX7_gives_10 (S : SX) (L : LX) (v1 : Int32) (post : Int32 → SX → Prop) : Prop :=
    ∃ n2 : Nat, kX7_gives_10_b2 L v1 post n2 (0 : Int32) S
def kX7_gives_11_b2 (L : LX) (v1 : Int32) (post : Int32 → SX → Prop) : Nat → Int32 → SX → Prop
  | 0, _, _ => False
  | n + 1, v3, S =>
    (((8 : Int32) ≤ v3 →
      post (v1 + (8 : Int32)) S) ∧
    (¬ (8 : Int32) ≤ v3 →
      vp_in (v1 + v3) 240 ∧ vp_in v3 8 ∧ (kX7_gives_11_b2 L v1 post n) (v3 + (1 : Int32)) (xu S 11 v3.toNatClampNeg (S 16 (v1 + v3).toNatClampNeg))))
def kX7_gives_11 (S : SX) (L : LX) (v1 : Int32) (post : Int32 → SX → Prop) : Prop :=
    ∃ n2 : Nat, kX7_gives_11_b2 L v1 post n2 (0 : Int32) S
def kX7_restore_b189 (post : Int32 → SX → LX → Prop) : Nat → Int32 → SX → LX → Prop
  | 0, _, _, _ => False
  | n + 1, v2, S, L =>
    (((8 : Int32) ≤ v2 →
      post (1 : Int32) S L) ∧
    (¬ (8 : Int32) ≤ v2 →
      vp_in v2 16 ∧ vp_in v2 8 ∧ vp_in ((8 : Int32) + v2) 16 ∧ vp_in v2 8 ∧ (kX7_restore_b189 post n) (v2 + (1 : Int32)) S (xuL (xuL L 12 v2.toNatClampNeg (L 17 v2.toNatClampNeg)) 13 v2.toNatClampNeg ((xuL L 12 v2.toNatClampNeg (L 17 v2.toNatClampNeg)) 17 ((8 : Int32) + v2).toNatClampNeg))))
def kX7_restore (S : SX) (L : LX) (post : Int32 → SX → LX → Prop) : Prop :=
    (((S 0 6) = 0 →
      post (-4 : Int32) S L) ∧
    (¬ (S 0 6) = 0 →
      kX7_gives_1 S L (0 : Int32) (fun r19 S19 =>
      kX7_gives_2 S19 L r19 (fun r32 S32 =>
      kX7_gives_3 S32 L r32 (fun r45 S45 =>
      kX7_gives_4 S45 L r45 (fun r58 S58 =>
      kX7_gives_5 S58 L r58 (fun r71 S71 =>
      kX7_gives_6 S71 L r71 (fun r84 S84 =>
      kX7_gives_7 S84 L r84 (fun r97 S97 =>
      kX7_gives_8 S97 L r97 (fun r110 S110 =>
      kX7_gives_9 S110 L r110 (fun r123 S123 =>
      kX7_gives_10 S123 L r123 (fun r136 S136 =>
      kX7_gives_11 S136 L r136 (fun r149 S149 =>
      vp_in r149 240 ∧ vp_in (r149 + (1 : Int32)) 240 ∧ vp_in (r149 + (2 : Int32)) 240 ∧ ∃ n189 : Nat, kX7_restore_b189 post n189 (0 : Int32) (xu (xu (xu S149 0 0 (S149 16 r149.toNatClampNeg)) 0 1 ((xu S149 0 0 (S149 16 r149.toNatClampNeg)) 16 (r149 + (1 : Int32)).toNatClampNeg)) 0 2 ((xu (xu S149 0 0 (S149 16 r149.toNatClampNeg)) 0 1 ((xu S149 0 0 (S149 16 r149.toNatClampNeg)) 16 (r149 + (1 : Int32)).toNatClampNeg)) 16 (r149 + (2 : Int32)).toNatClampNeg)) L)))))))))))))
def kX7_isSheet (S : SX) (L : LX) (v0 : Int32) (post : Int32 → Prop) : Prop :=
    kX7_in S L v0.toInt64 (0 : Int64) (3 : Int64) (fun r6 =>
    (r6 = 0 ∨ r6 = 1) ∧ post r6)
def kX7_isLane (S : SX) (L : LX) (v0 : Int32) (post : Int32 → Prop) : Prop :=
    kX7_in S L v0.toInt64 (0 : Int64) (2 : Int64) (fun r6 =>
    (r6 = 0 ∨ r6 = 1) ∧ post r6)
def kX7_finds (S : SX) (L : LX) (v1 : Int32) (v2 : Int32) (v3 : Int32) (v4 : Int32) (post : Int32 → Prop) : Prop :=
    vp_in v1 4 ∧ ((0 ≤ (S 18 v1.toNatClampNeg) →
      vp_in v1 4 ∧ (((S 18 v1.toNatClampNeg) = v2 →
        ((v3 < 0 →
          post (-13 : Int32)) ∧
        (¬ v3 < 0 →
          vp_in v1 4 ∧ (((v3.toInt64 + v4.toInt64) ≤ ((S 19 v1.toNatClampNeg).toInt64) →
            post (0 : Int32)) ∧
          (¬ (v3.toInt64 + v4.toInt64) ≤ ((S 19 v1.toNatClampNeg).toInt64) →
            post (-13 : Int32)))))) ∧
      (¬ (S 18 v1.toNatClampNeg) = v2 →
        post (-12 : Int32)))) ∧
    (¬ 0 ≤ (S 18 v1.toNatClampNeg) →
      post (-11 : Int32)))
def kX7_cast (S : SX) (L : LX) (v0 : Int32) (v1 : Int32) (post : Int32 → Prop) : Prop :=
    ((v0 = 0 →
      post v1.toInt8.toInt32) ∧
    (¬ v0 = 0 →
      ((v0 = (1 : Int32) →
        post v1.toInt16.toInt32) ∧
      (¬ v0 = (1 : Int32) →
        post v1))))
def kX7_book_b107 (L : LX) (v1 : Int32) (v2 : Int32) (v3 : Int32) (v4 : Int32) (v5 : Int32) (post : Int32 → SX → Prop) : Nat → Int32 → Int32 → SX → Prop
  | 0, _, _, _ => False
  | n + 1, v7, v8, S =>
    (((S 0 2) ≤ v8 →
      post v5 S) ∧
    (¬ (S 0 2) ≤ v8 →
      vp_in v8 24 ∧ (((S 2 v8.toNatClampNeg) = v1 →
        kX7_isBooked S L v8 v1 (fun r131 =>
        ((r131 = 0 →
          (kX7_book_b107 L v1 v2 v3 v4 v5 post n) v7 (v8 + (1 : Int32)) S) ∧
        (¬ r131 = 0 →
          kX7_sworn S L v8 v1 (fun r148 =>
          kX7_cast S L v3 r148 (fun r151 =>
          vp_in v7 96 ∧ (kX7_book_b107 L v1 v2 v3 v4 v5 post n) (v7 + (1 : Int32)) (v8 + (1 : Int32)) (xu S 20 v7.toNatClampNeg r151))))))) ∧
      (¬ (S 2 v8.toNatClampNeg) = v1 →
        (kX7_book_b107 L v1 v2 v3 v4 v5 post n) v7 (v8 + (1 : Int32)) S))))
def kX7_book_b29 (L : LX) (v1 : Int32) (v2 : Int32) (v3 : Int32) (v4 : Int32) (post : Int32 → SX → Prop) : Nat → Int32 → Int32 → SX → Prop
  | 0, _, _, _ => False
  | n + 1, v5, v6, S =>
    (((S 0 2) ≤ v6 →
      kX7_finds S L v2 v3 v4 v5 (fun r82 =>
      ((0 ≤ r82 →
        ∃ n107 : Nat, kX7_book_b107 L v1 v2 v3 v4 v5 post n107 (((24 : Int32) * v2) + v4) (0 : Int32) S) ∧
      (¬ 0 ≤ r82 →
        post r82 S)))) ∧
    (¬ (S 0 2) ≤ v6 →
      vp_in v6 24 ∧ (((S 2 v6.toNatClampNeg) = v1 →
        kX7_isBooked S L v6 v1 (fun r55 =>
        ((r55 = 0 →
          (kX7_book_b29 L v1 v2 v3 v4 post n) (v5 + (0 : Int32)) (v6 + (1 : Int32)) S) ∧
        (¬ r55 = 0 →
          (kX7_book_b29 L v1 v2 v3 v4 post n) (v5 + (1 : Int32)) (v6 + (1 : Int32)) S)))) ∧
      (¬ (S 2 v6.toNatClampNeg) = v1 →
        (kX7_book_b29 L v1 v2 v3 v4 post n) (v5 + (0 : Int32)) (v6 + (1 : Int32)) S))))
def kX7_book (S : SX) (L : LX) (v1 : Int32) (v2 : Int32) (v3 : Int32) (v4 : Int32) (post : Int32 → SX → Prop) : Prop :=
    kX7_isYear S L v1 (fun r1 =>
    ((r1 = 0 →
      post (-1 : Int32) S) ∧
    (¬ r1 = 0 →
      kX7_isSheet S L v2 (fun r8 =>
      ((r8 = 0 →
        post (-1 : Int32) S) ∧
      (¬ r8 = 0 →
        kX7_isLane S L v3 (fun r15 =>
        ((r15 = 0 →
          post (-1 : Int32) S) ∧
        (¬ r15 = 0 →
          ∃ n29 : Nat, kX7_book_b29 L v1 v2 v3 v4 post n29 (0 : Int32) (0 : Int32) S)))))))))
def kX7_crowds_b82 (L : LX) (v1 : Int32) (v2 : Int32) (v3 : Int32) (post : Int32 → SX → Prop) : Nat → Int32 → SX → Prop
  | 0, _, _ => False
  | n + 1, v5, S =>
    (((8 : Int32) ≤ v5 →
      post (8 : Int32) S) ∧
    (¬ (8 : Int32) ≤ v5 →
      vp_in ((((24 : Int32) * v1) + v3) + v5) 96 ∧ vp_in v5 8 ∧ (kX7_crowds_b82 L v1 v2 v3 post n) (v5 + (1 : Int32)) (xu S 10 v5.toNatClampNeg (S 20 ((((24 : Int32) * v1) + v3) + v5).toNatClampNeg))))
def kX7_crowds_b38 (L : LX) (v1 : Int32) (v2 : Int32) (v3 : Int32) (post : Int32 → SX → Prop) : Nat → Int32 → SX → Prop
  | 0, _, _ => False
  | n + 1, v5, S =>
    (((8 : Int32) ≤ v5 →
      ∃ n82 : Nat, kX7_crowds_b82 L v1 v2 v3 post n82 (0 : Int32) S) ∧
    (¬ (8 : Int32) ≤ v5 →
      vp_in ((((24 : Int32) * v1) + v3) + v5) 96 ∧ kX7_in S L ((S 20 ((((24 : Int32) * v1) + v3) + v5).toNatClampNeg).toInt64) (1 : Int64) (999999 : Int64) (fun r64 =>
      ((r64 = 0 →
        post (-2 : Int32) S) ∧
      (¬ r64 = 0 →
        (kX7_crowds_b38 L v1 v2 v3 post n) (v5 + (1 : Int32)) S)))))
def kX7_crowds (S : SX) (L : LX) (v1 : Int32) (v2 : Int32) (v3 : Int32) (post : Int32 → SX → Prop) : Prop :=
    kX7_isSheet S L v1 (fun r1 =>
    ((r1 = 0 →
      post (-1 : Int32) S) ∧
    (¬ r1 = 0 →
      kX7_isLane S L v2 (fun r8 =>
      ((r8 = 0 →
        post (-1 : Int32) S) ∧
      (¬ r8 = 0 →
        kX7_finds S L v1 v2 v3 (8 : Int32) (fun r22 =>
        ((0 ≤ r22 →
          ∃ n38 : Nat, kX7_crowds_b38 L v1 v2 v3 post n38 (0 : Int32) S) ∧
        (¬ 0 ≤ r22 →
          post r22 S)))))))))
def kX7_sheet_b46 (L : LX) (v1 : Int32) (v2 : Int32) (v3 : Int32) (post : Int32 → SX → Prop) : Nat → Int32 → SX → Prop
  | 0, _, _ => False
  | n + 1, v4, S =>
    (((24 : Int32) ≤ v4 →
      post v3 S) ∧
    (¬ (24 : Int32) ≤ v4 →
      vp_in (((24 : Int32) * v1) + v4) 96 ∧ (kX7_sheet_b46 L v1 v2 v3 post n) (v4 + (1 : Int32)) (xu S 20 (((24 : Int32) * v1) + v4).toNatClampNeg (0 : Int32))))
def kX7_sheet (S : SX) (L : LX) (v1 : Int32) (v2 : Int32) (v3 : Int32) (post : Int32 → SX → Prop) : Prop :=
    kX7_isSheet S L v1 (fun r1 =>
    ((r1 = 0 →
      post (-1 : Int32) S) ∧
    (¬ r1 = 0 →
      kX7_isLane S L v2 (fun r8 =>
      ((r8 = 0 →
        post (-1 : Int32) S) ∧
      (¬ r8 = 0 →
        ((v3 ≤ (24 : Int32) →
          ((0 ≤ v3 →
            vp_in v1 4 ∧ vp_in v1 4 ∧ ∃ n46 : Nat, kX7_sheet_b46 L v1 v2 v3 post n46 (0 : Int32) (xu (xu S 18 v1.toNatClampNeg v2) 19 v1.toNatClampNeg v3)) ∧
          (¬ 0 ≤ v3 →
            post (-14 : Int32) S))) ∧
        (¬ v3 ≤ (24 : Int32) →
          post (-1 : Int32) S))))))))
def kX7_drop (S : SX) (L : LX) (v1 : Int32) (post : Int32 → SX → Prop) : Prop :=
    kX7_isSheet S L v1 (fun r1 =>
    ((r1 = 0 →
      post (-1 : Int32) S) ∧
    (¬ r1 = 0 →
      vp_in v1 4 ∧ ((0 ≤ (S 18 v1.toNatClampNeg) →
        vp_in v1 4 ∧ vp_in v1 4 ∧ post ((xu S 18 v1.toNatClampNeg (-1 : Int32)) 19 v1.toNatClampNeg) (xu S 18 v1.toNatClampNeg (-1 : Int32))) ∧
      (¬ 0 ≤ (S 18 v1.toNatClampNeg) →
        post (-11 : Int32) S)))))
def kX7_item (S : SX) (L : LX) (v1 : Int32) (v2 : Int32) (v3 : Int32) (v4 : Int32) (post : Int32 → SX → Prop) : Prop :=
    kX7_isSheet S L v1 (fun r1 =>
    ((r1 = 0 →
      post (-1 : Int32) S) ∧
    (¬ r1 = 0 →
      kX7_isLane S L v2 (fun r8 =>
      ((r8 = 0 →
        post (-1 : Int32) S) ∧
      (¬ r8 = 0 →
        kX7_finds S L v1 v2 v3 (1 : Int32) (fun r21 =>
        ((0 ≤ r21 →
          kX7_cast S L v2 v4 (fun r47 =>
          vp_in (((24 : Int32) * v1) + v3) 96 ∧ post (1 : Int32) (xu S 20 (((24 : Int32) * v1) + v3).toNatClampNeg r47))) ∧
        (¬ 0 ≤ r21 →
          post r21 S)))))))))
def kX7_copy_b138 (L : LX) (v1 : Int32) (v2 : Int32) (v3 : Int32) (v4 : Int32) (v5 : Int32) (post : Int32 → SX → Prop) : Nat → Int32 → SX → Prop
  | 0, _, _ => False
  | n + 1, v6, S =>
    ((v5 ≤ v6 →
      post v5 S) ∧
    (¬ v5 ≤ v6 →
      vp_in v6 24 ∧ vp_in ((((24 : Int32) * v3) + v4) + v6) 96 ∧ (kX7_copy_b138 L v1 v2 v3 v4 v5 post n) (v6 + (1 : Int32)) (xu S 20 ((((24 : Int32) * v3) + v4) + v6).toNatClampNeg (S 21 v6.toNatClampNeg))))
def kX7_copy_b101 (L : LX) (v1 : Int32) (v2 : Int32) (v3 : Int32) (v4 : Int32) (v5 : Int32) (post : Int32 → SX → Prop) : Nat → Int32 → SX → Prop
  | 0, _, _ => False
  | n + 1, v6, S =>
    ((v5 ≤ v6 →
      ∃ n138 : Nat, kX7_copy_b138 L v1 v2 v3 v4 v5 post n138 (0 : Int32) S) ∧
    (¬ v5 ≤ v6 →
      vp_in ((((24 : Int32) * v1) + v2) + v6) 96 ∧ vp_in v6 24 ∧ (kX7_copy_b101 L v1 v2 v3 v4 v5 post n) (v6 + (1 : Int32)) (xu S 21 v6.toNatClampNeg (S 20 ((((24 : Int32) * v1) + v2) + v6).toNatClampNeg))))
def kX7_copy (S : SX) (L : LX) (v1 : Int32) (v2 : Int32) (v3 : Int32) (v4 : Int32) (v5 : Int32) (post : Int32 → SX → Prop) : Prop :=
    kX7_isSheet S L v1 (fun r1 =>
    ((r1 = 0 →
      post (-1 : Int32) S) ∧
    (¬ r1 = 0 →
      kX7_isSheet S L v3 (fun r8 =>
      ((r8 = 0 →
        post (-1 : Int32) S) ∧
      (¬ r8 = 0 →
        vp_in v1 4 ∧ (((S 18 v1.toNatClampNeg) < 0 →
          post (-11 : Int32) S) ∧
        (¬ (S 18 v1.toNatClampNeg) < 0 →
          vp_in v3 4 ∧ ((0 ≤ (S 18 v3.toNatClampNeg) →
            vp_in v1 4 ∧ vp_in v3 4 ∧ (((S 18 v1.toNatClampNeg) = (S 18 v3.toNatClampNeg) →
              ((v5 < 0 →
                post (-13 : Int32) S) ∧
              (¬ v5 < 0 →
                vp_in v1 4 ∧ kX7_finds S L v1 (S 18 v1.toNatClampNeg) v2 v5 (fun r71 =>
                ((r71 < 0 →
                  post (-13 : Int32) S) ∧
                (¬ r71 < 0 →
                  vp_in v3 4 ∧ kX7_finds S L v3 (S 18 v3.toNatClampNeg) v4 v5 (fun r89 =>
                  ((0 ≤ r89 →
                    ∃ n101 : Nat, kX7_copy_b101 L v1 v2 v3 v4 v5 post n101 (0 : Int32) S) ∧
                  (¬ 0 ≤ r89 →
                    post (-13 : Int32) S))))))))) ∧
            (¬ (S 18 v1.toNatClampNeg) = (S 18 v3.toNatClampNeg) →
              post (-12 : Int32) S))) ∧
          (¬ 0 ≤ (S 18 v3.toNatClampNeg) →
            post (-11 : Int32) S))))))))))
