def DX10_copyFrom (S : SX10) (T1 : SX10) : Option (SX10) := lt (uX10_count S (gX10_count T1)) (fun S1 => lt (uX10_composers S1 (gX10_composers T1)) (fun S3 => lt (uX10_eras S3 (gX10_eras T1)) (fun S5 => lt (uX10_lengths S5 (gX10_lengths T1)) (fun S7 => some S7))))

def DX2_copyFrom (S : SX2) (T1 : SX2) : Option (SX2) := lt (uX2_count S (gX2_count T1)) (fun S1 => lt (uX2_in S1 (gX2_in T1)) (fun S3 => some S3))

def DX4_copyFrom (S : SX4) (T1 : SX4) : Option (SX4) := lt (uX4_places S (gX4_places T1)) (fun S1 => some S1)

def DX3_copyFrom (S : SX3) (T1 : SX3) : Option (SX3) := lt (uX3_size S (gX3_size T1)) (fun S1 => lt (uX3_barred S1 (gX3_barred T1)) (fun S3 => some S3))

def DX7_copyFrom (S : SX7) (T1 : SX7) : Option (SX7) := lt (uX7_players S (gX7_players T1)) (fun S1 => lt (uX7_played S1 (gX7_played T1)) (fun S3 => lt (uX7_seed S3 (gX7_seed T1)) (fun S5 => lt (uX7_order S5 (gX7_order T1)) (fun S7 => lt (uX7_slips S7 (gX7_slips T1)) (fun S9 => some S9)))))

def DX6_copyFrom (S : SX6) (T1 : SX6) : Option (SX6) := lt (uX6_rows S (gX6_rows T1)) (fun S1 => some S1)

def DX9_copyFrom (S : SX9) (T1 : SX9) : Option (SX9) := lt (uX9_number S (gX9_number T1)) (fun S1 => lt (uX9_places S1 (gX9_places T1)) (fun S3 => lt (uX9_tied S3 (gX9_tied T1)) (fun S5 => (DX6_copyFrom (gX9_sheet S5) (gX9_sheet T1)).bind fun x7 => (lt (uX9_sheet S5 x7) (fun S9 => some S9)))))

def DX0_copyFrom (S : SX0) (T1 : SX0) : Option (SX0) := lt (uX0_state S (gX0_state T1)) (fun S1 => lt (uX0_round S1 (gX0_round T1)) (fun S3 => lt (uX0_rounds S3 (gX0_rounds T1)) (fun S5 => lt (uX0_penalty S5 (gX0_penalty T1)) (fun S7 => (DX10_copyFrom (gX0_works S7) (gX0_works T1)).bind fun x9 => (lt (uX0_works S7 x9) (fun S11 => (DX2_copyFrom (gX0_entrants S11) (gX0_entrants T1)).bind fun x13 => (lt (uX0_entrants S11 x13) (fun S15 => lt (uX0_rules S15 (gX0_rules T1)) (fun S17 => (DX4_copyFrom (gX0_programs S17) (gX0_programs T1)).bind fun x19 => (lt (uX0_programs S17 x19) (fun S21 => (DX3_copyFrom (gX0_jury S21) (gX0_jury T1)).bind fun x23 => (lt (uX0_jury S21 x23) (fun S25 => (DX7_copyFrom (gX0_stage S25) (gX0_stage T1)).bind fun x27 => (lt (uX0_stage S25 x27) (fun S29 => (DX6_copyFrom (gX0_sheet S29) (gX0_sheet T1)).bind fun x31 => (lt (uX0_sheet S29 x31) (fun S33 => (DX9_copyFrom (gX0_tie S33) (gX0_tie T1)).bind fun x35 => (lt (uX0_tie S33 x35) (fun S37 => lt (uX0_closedScores S37 (gX0_closedScores T1)) (fun S39 => some S39))))))))))))))))))))

def DX0_change (S : SX0) (p1 : Int32) (p2 : Int32) : Option (SX0) := jn (fun (S1 : SX0) => some S1) (fun j2 => (if p1 = (0 : Int32) then lt (uX0_jury S (uX3_size (gX0_jury S) p2)) (fun S3 => j2 S3) else (if p1 = (1 : Int32) then lt (uX0_rounds S p2) (fun S5 => j2 S5) else lt (uX0_penalty S p2) (fun S7 => j2 S7))))

def DX2_has (S : SX2) (p1 : Int32) : Option (Int32) := jn (fun (x1 : Int32) => gd (isB x1) (some x1)) (fun j2 => jn (fun (_ : Unit) => j2 (0 : Int32)) (fun j4 => (if (p1 < (0 : Int32)) then j4 () else (if ((gX2_count S) ≤ p1) then j4 () else (if ((12 : Int32) ≤ p1) then j4 () else j2 (1 : Int32))))))

def DX2_isIn (S : SX2) (p1 : Int32) : Option (Int32) := (DX2_has S p1).bind fun x1 => (jn (fun (x3 : Int32) => gd (isB x3) (some x3)) (fun j4 => jn (fun (_ : Unit) => j4 (0 : Int32)) (fun j6 => (if (x1 = (0 : Int32)) then j6 () else gd (gIn p1 12) ((if (((gX2_in S) ((p1).toNatClampNeg)) = (1 : Int32)) then j4 (1 : Int32) else j6 ()))))))

def DX2_countIn_L4 (S : SX2) (k1 : Int32 → Option (Int32)) : Nat → Int32 → Int32 → Option (Int32)
  | 0, _, _ => none
  | f + 1, v1_4, v2_5 => (if ((gX2_count S) ≤ v2_5) then k1 v1_4 else (DX2_isIn S v2_5).bind fun x6 => (jn (fun (v1_8 : Int32) => DX2_countIn_L4 S k1 f v1_8 (v2_5 + (1 : Int32))) (fun j9 => (if (x6 = (0 : Int32)) then j9 v1_4 else j9 (v1_4 + (1 : Int32))))))

def DX2_countIn (S : SX2) : Option (Int32) := DX2_countIn_L4 S (fun (v1_3 : Int32) => some v1_3) fu (0 : Int32) (0 : Int32)

def DX9_count_L13 (S : SX9) (c3_1 : Int32) (k2 : Int32 → Option (Int32)) : Nat → Int32 → Int32 → Option (Int32)
  | 0, _, _ => none
  | f + 1, v1_5, v4_6 => (if (c3_1 ≤ v4_6) then k2 v1_5 else gd (gIn v4_6 12) (DX9_count_L13 S c3_1 k2 f (v1_5 + ((gX9_tied S) ((v4_6).toNatClampNeg))) (v4_6 + (1 : Int32))))

def DX9_count (S : SX9) : Option (Int32) := DX9_count_L13 S (12 : Int32) (fun (v1_4 : Int32) => some v1_4) fu (0 : Int32) (0 : Int32)

def DX0_tell (S : SX0) (p1 : Int32) : Option (Int32) := (if p1 = (0 : Int32) then some (gX3_size (gX0_jury S)) else (if p1 = (1 : Int32) then some (gX0_rounds S) else (if p1 = (2 : Int32) then some (gX0_penalty S) else (if p1 = (3 : Int32) then some (gX0_state S) else (if p1 = (4 : Int32) then some (gX0_round S) else (if p1 = (5 : Int32) then some (gX10_count (gX0_works S)) else (if p1 = (6 : Int32) then some (gX2_count (gX0_entrants S)) else (if p1 = (7 : Int32) then (DX2_countIn (gX0_entrants S)).bind fun x1 => (some x1) else (if p1 = (8 : Int32) then some (gX7_players (gX0_stage S)) else (if p1 = (9 : Int32) then some (gX7_played (gX0_stage S)) else (if p1 = (10 : Int32) then (DX9_count (gX0_tie S)).bind fun x3 => (some x3) else (if p1 = (11 : Int32) then some (gX9_places (gX0_tie S)) else some (gX9_number (gX0_tie S))))))))))))))

def DX7_playerAt (S : SX7) (p1 : Int32) : Option (Int32) := jn (fun (x1 : Int32) => some x1) (fun j2 => jn (fun (_ : Unit) => j2 (-1 : Int32)) (fun j3 => (if (p1 < (0 : Int32)) then j3 () else (if ((gX7_players S) ≤ p1) then j3 () else (if ((12 : Int32) ≤ p1) then j3 () else gd (gIn p1 12) (j2 ((gX7_order S) ((p1).toNatClampNeg))))))))

def DX7_placeOf_L2 (S : SX7) (c1_1 : Int32) (k2 : Int32 → Option (Int32)) (k5 : Unit → Option (Int32)) : Nat → Int32 → Option (Int32)
  | 0, _ => none
  | f + 1, v2_6 => (if ((gX7_players S) ≤ v2_6) then k5 () else (DX7_playerAt S v2_6).bind fun x7 => ((if (x7 = c1_1) then k2 v2_6 else DX7_placeOf_L2 S c1_1 k2 k5 f (v2_6 + (1 : Int32)))))

def DX7_placeOf (S : SX7) (p1 : Int32) : Option (Int32) := DX7_placeOf_L2 S p1 (fun (v2_4 : Int32) => some v2_4) (fun (_ : Unit) => some (-1 : Int32)) fu (0 : Int32)

def DX11_isBetween (p0 : Int32) (p1 : Int32) (p2 : Int32) : Option (Int32) := jn (fun (x1 : Int32) => gd (isB x1) (some x1)) (fun j2 => jn (fun (_ : Unit) => j2 (0 : Int32)) (fun j4 => (if (p0 < p1) then j4 () else (if (p2 < p0) then j4 () else j2 (1 : Int32)))))

def DX7_slipsOf (S : SX7) (p1 : Int32) : Option (Int32) := (DX11_isBetween p1 (0 : Int32) (11 : Int32)).bind fun x1 => (jn (fun (x3 : Int32) => some x3) (fun j4 => (if (x1 = (0 : Int32)) then j4 (-1 : Int32) else gd (gIn p1 12) (j4 ((gX7_slips S) ((p1).toNatClampNeg))))))

def DX6_at (S : SX6) (p1 : Int32) (p2 : Int32) : Option (Int32) := jn (fun (x1 : Int32) => jn (fun (x3 : Int32) => some x3) (fun j4 => (if (x1 = (0 : Int32)) then j4 (-1 : Int32) else gd (gIn p1 7) (gd (gIn p2 12) (j4 (((gX6_rows S) ((p1).toNatClampNeg)) ((p2).toNatClampNeg))))))) (fun j2 => jn (fun (_ : Unit) => j2 (0 : Int32)) (fun j7 => (if (p1 < (0 : Int32)) then j7 () else (if ((7 : Int32) ≤ p1) then j7 () else (if (p2 < (0 : Int32)) then j7 () else (if ((12 : Int32) ≤ p2) then j7 () else j2 (1 : Int32)))))))

def DX3_isBarred (S : SX3) (p1 : Int32) (p2 : Int32) : Option (Int32) := jn (fun (x1 : Int32) => jn (fun (x3 : Int32) => gd (isB x3) (some x3)) (fun j4 => jn (fun (_ : Unit) => j4 (0 : Int32)) (fun j6 => (if (x1 = (0 : Int32)) then j6 () else gd (gIn p1 7) (gd (gIn p2 12) ((if ((((gX3_barred S) ((p1).toNatClampNeg)) ((p2).toNatClampNeg)) = (1 : Int32)) then j4 (1 : Int32) else j6 ()))))))) (fun j2 => jn (fun (_ : Unit) => j2 (0 : Int32)) (fun j9 => (if (p1 < (0 : Int32)) then j9 () else (if ((7 : Int32) ≤ p1) then j9 () else (if (p2 < (0 : Int32)) then j9 () else (if ((12 : Int32) ≤ p2) then j9 () else j2 (1 : Int32)))))))

def DX3_counts (S : SX3) (T1 : SX6) (p2 : Int32) (p3 : Int32) : Option (Int32) := (DX6_at T1 p2 p3).bind fun x1 => (jn (fun (x3 : Int32) => gd (isB x3) (some x3)) (fun j4 => jn (fun (_ : Unit) => j4 (0 : Int32)) (fun j6 => (if (x1 < (0 : Int32)) then j6 () else (DX3_isBarred S p2 p3).bind fun x7 => ((if (x7 = (0 : Int32)) then j4 (1 : Int32) else j6 ()))))))

def DX3_countMarks_L5 (S : SX3) (T1 : SX6) (c2_1 : Int32) (k2 : Int32 → Option (Int32)) : Nat → Int32 → Int32 → Option (Int32)
  | 0, _, _ => none
  | f + 1, v3_5, v4_6 => (if ((gX3_size S) ≤ v4_6) then k2 v3_5 else (DX3_counts S T1 v4_6 c2_1).bind fun x7 => (jn (fun (v3_9 : Int32) => DX3_countMarks_L5 S T1 c2_1 k2 f v3_9 (v4_6 + (1 : Int32))) (fun j10 => (if (x7 = (0 : Int32)) then j10 v3_5 else j10 (v3_5 + (1 : Int32))))))

def DX3_countMarks (S : SX3) (T1 : SX6) (p2 : Int32) : Option (Int32) := DX3_countMarks_L5 S T1 p2 (fun (v3_4 : Int32) => some v3_4) fu (0 : Int32) (0 : Int32)

def DX0_countedMarks (S : SX0) (p1 : Int32) : Option (Int32) := (if ((gX0_state S) = (2 : Int32)) then (DX3_countMarks (gX0_jury S) (gX9_sheet (gX0_tie S)) p1).bind fun x1 => (some x1) else (DX3_countMarks (gX0_jury S) (gX0_sheet S) p1).bind fun x3 => (some x3))

def DX3_meanIf_L16 (S : SX3) (T1 : SX6) (c2_1 : Int32) (c3_2 : Int32) (c4_3 : Int32) (k4 : Int32 → Int32 → Int32 → Int32 → Option (Int32)) : Nat → Int32 → Int32 → Int32 → Int32 → Int32 → Option (Int32)
  | 0, _, _, _, _, _ => none
  | f + 1, v5_19, v6_20, v7_21, v8_22, v9_23 => (if ((gX3_size S) ≤ v9_23) then k4 v5_19 v6_20 v7_21 v8_22 else jn (fun (x24 : Int32) => jn (fun (v5_26 : Int32) (v6_27 : Int32) (v7_28 : Int32) (v8_29 : Int32) => DX3_meanIf_L16 S T1 c2_1 c3_2 c4_3 k4 f v5_26 v6_27 v7_28 v8_29 (v9_23 + (1 : Int32))) (fun j30 => (if (x24 < (0 : Int32)) then j30 v5_19 v6_20 v7_21 v8_22 else (DX3_isBarred S v9_23 c2_1).bind fun x31 => ((if (x31 = (0 : Int32)) then j30 (v5_19 + (1 : Int32)) (v6_20 + x24) (if x24 < v7_21 then x24 else v7_21) (if v8_22 < x24 then x24 else v8_22) else j30 v5_19 v6_20 v7_21 v8_22))))) (fun j25 => (if (v9_23 = c3_2) then j25 c4_3 else (DX6_at T1 v9_23 c2_1).bind fun x33 => (j25 x33))))

def DX3_meanIf (S : SX3) (T1 : SX6) (p2 : Int32) (p3 : Int32) (p4 : Int32) : Option (Int32) := DX3_meanIf_L16 S T1 p2 p3 p4 (fun (v5_9 : Int32) (v6_10 : Int32) (v7_11 : Int32) (v8_12 : Int32) => jn (fun (v5_13 : Int32) (v6_14 : Int32) => jn (fun (x16 : Int32) => some x16) (fun j17 => (if (v5_13 ≤ (0 : Int32)) then j17 (-1 : Int32) else gz v5_13 (j17 ((v6_14 * (1000 : Int32)) / v5_13))))) (fun j15 => (if (v5_9 < (4 : Int32)) then j15 v5_9 v6_10 else j15 (v5_9 + (-2 : Int32)) (v6_10 - (v7_11 + v8_12))))) fu (0 : Int32) (0 : Int32) (100 : Int32) (0 : Int32) (0 : Int32)

def DX0_scoreWith (S : SX0) (p1 : Int32) (p2 : Int32) (p3 : Int32) : Option (Int32) := (DX3_meanIf (gX0_jury S) (gX0_sheet S) p2 p1 p3).bind fun x1 => ((if (x1 = (-1 : Int32)) then some (-1 : Int32) else (DX7_slipsOf (gX0_stage S) p2).bind fun x3 => (some (if (0 : Int32) < (x1 - (((gX0_penalty S) * (10 : Int32)) * (if (0 : Int32) < x3 then x3 else (0 : Int32)))) then (x1 - (((gX0_penalty S) * (10 : Int32)) * (if (0 : Int32) < x3 then x3 else (0 : Int32)))) else (0 : Int32)))))

def DX0_scoreOf (S : SX0) (p1 : Int32) : Option (Int32) := (DX0_scoreWith S (-1 : Int32) p1 (-1 : Int32)).bind fun x1 => (some x1)

def DX7_hasPlayed (S : SX7) (p1 : Int32) : Option (Int32) := (DX7_slipsOf S p1).bind fun x1 => (jn (fun (x3 : Int32) => gd (isB x3) (some x3)) (fun j4 => (if (x1 = (-1 : Int32)) then j4 (0 : Int32) else j4 (1 : Int32))))

def DX3_isSettled_L5 (S : SX3) (T1 : SX6) (c2_1 : Int32) (k2 : Unit → Option (Int32)) (k3 : Int32 → Option (Int32)) : Nat → Int32 → Int32 → Option (Int32)
  | 0, _, _ => none
  | f + 1, v3_9, v4_10 => (if ((gX3_size S) ≤ v4_10) then k3 v3_9 else (DX3_isBarred S v4_10 c2_1).bind fun x11 => (jn (fun (v3_13 : Int32) => DX3_isSettled_L5 S T1 c2_1 k2 k3 f v3_13 (v4_10 + (1 : Int32))) (fun j14 => (if (x11 = (0 : Int32)) then (DX6_at T1 v4_10 c2_1).bind fun x15 => ((if (x15 = (-1 : Int32)) then k2 () else (if (x15 = (-2 : Int32)) then j14 v3_9 else j14 (v3_9 + (1 : Int32))))) else j14 v3_9))))

def DX3_isSettled (S : SX3) (T1 : SX6) (p2 : Int32) : Option (Int32) := DX3_isSettled_L5 S T1 p2 (fun (_ : Unit) => some (0 : Int32)) (fun (v3_5 : Int32) => jn (fun (x6 : Int32) => gd (isB x6) (some x6)) (fun j7 => (if (v3_5 < (((gX3_size S) + (1 : Int32)) / (2 : Int32))) then j7 (0 : Int32) else j7 (1 : Int32)))) fu (0 : Int32) (0 : Int32)

def DX0_isComplete (S : SX0) (p1 : Int32) : Option (Int32) := (DX7_hasPlayed (gX0_stage S) p1).bind fun x1 => (jn (fun (x3 : Int32) => gd (isB x3) (some x3)) (fun j4 => jn (fun (_ : Unit) => j4 (0 : Int32)) (fun j6 => (if (x1 = (0 : Int32)) then j6 () else (DX3_isSettled (gX0_jury S) (gX0_sheet S) p1).bind fun x7 => ((if (x7 = (0 : Int32)) then j6 () else j4 (1 : Int32)))))))

def DX9_has (S : SX9) (p1 : Int32) : Option (Int32) := (DX11_isBetween p1 (0 : Int32) (11 : Int32)).bind fun x1 => (jn (fun (x3 : Int32) => gd (isB x3) (some x3)) (fun j4 => jn (fun (_ : Unit) => j4 (0 : Int32)) (fun j6 => (if (x1 = (0 : Int32)) then j6 () else gd (gIn p1 12) ((if (((gX9_tied S) ((p1).toNatClampNeg)) = (1 : Int32)) then j4 (1 : Int32) else j6 ()))))))

def DX3_meanOf (S : SX3) (T1 : SX6) (p2 : Int32) : Option (Int32) := (DX3_meanIf S T1 p2 (-1 : Int32) (-1 : Int32)).bind fun x1 => (some x1)

def DX0_tellOfEntrant (S : SX0) (p1 : Int32) (p2 : Int32) : Option (Int32) := (if p2 = (0 : Int32) then (DX2_isIn (gX0_entrants S) p1).bind fun x1 => (jn (fun (x3 : Int32) => some x3) (fun j4 => (if (x1 = (0 : Int32)) then j4 (0 : Int32) else j4 (1 : Int32)))) else (if p2 = (1 : Int32) then (DX7_placeOf (gX0_stage S) p1).bind fun x5 => (some x5) else (if p2 = (2 : Int32) then (DX7_slipsOf (gX0_stage S) p1).bind fun x7 => (some x7) else (if p2 = (3 : Int32) then (DX0_countedMarks S p1).bind fun x9 => (some x9) else (if p2 = (4 : Int32) then (DX0_scoreOf S p1).bind fun x11 => (some x11) else (if p2 = (5 : Int32) then (DX0_isComplete S p1).bind fun x13 => (jn (fun (x15 : Int32) => some x15) (fun j16 => (if (x13 = (0 : Int32)) then j16 (0 : Int32) else j16 (1 : Int32)))) else (if p2 = (6 : Int32) then (DX9_has (gX0_tie S) p1).bind fun x17 => (jn (fun (x19 : Int32) => some x19) (fun j20 => (if (x17 = (0 : Int32)) then j20 (0 : Int32) else j20 (1 : Int32)))) else (DX3_meanOf (gX0_jury S) (gX9_sheet (gX0_tie S)) p1).bind fun x21 => (some x21))))))))

def DX0_canBeMarked (S : SX0) (p1 : Int32) : Option (Int32) := (if ((gX0_state S) = (2 : Int32)) then (DX9_has (gX0_tie S) p1).bind fun x7 => (gd (isB x7) (some x7)) else jn (fun (x1 : Int32) => gd (isB x1) (some x1)) (fun j2 => jn (fun (_ : Unit) => j2 (0 : Int32)) (fun j4 => (if ((gX0_state S) = (1 : Int32)) then (DX7_hasPlayed (gX0_stage S) p1).bind fun x5 => ((if (x5 = (0 : Int32)) then j4 () else j2 (1 : Int32))) else j4 ()))))

def DX0_distanceOf_L4 (S : SX0) (c1_1 : Int32) (k2 : Int32 → Option (Int32)) : Nat → Int32 → Int32 → Option (Int32)
  | 0, _, _ => none
  | f + 1, v2_5, v3_6 => (if ((gX7_players (gX0_stage S)) ≤ v3_6) then k2 v2_5 else (DX7_playerAt (gX0_stage S) v3_6).bind fun x7 => ((DX3_meanIf (gX0_jury S) (gX0_sheet S) x7 c1_1 (-1 : Int32)).bind fun x9 => (jn (fun (v2_11 : Int32) => DX0_distanceOf_L4 S c1_1 k2 f v2_11 (v3_6 + (1 : Int32))) (fun j12 => (if (x9 = (-1 : Int32)) then j12 v2_5 else (DX3_counts (gX0_jury S) (gX0_sheet S) c1_1 x7).bind fun x13 => ((if (x13 = (0 : Int32)) then j12 v2_5 else (DX6_at (gX0_sheet S) c1_1 x7).bind fun x15 => (j12 ((if (0 : Int32) < v2_5 then v2_5 else (0 : Int32)) + (if (0 : Int32) ≤ (((1000 : Int32) * x15) - x9) then (((1000 : Int32) * x15) - x9) else (0 : Int32) - (((1000 : Int32) * x15) - x9)))))))))))

def DX0_distanceOf (S : SX0) (p1 : Int32) : Option (Int32) := DX0_distanceOf_L4 S p1 (fun (v2_4 : Int32) => some v2_4) fu (-1 : Int32) (0 : Int32)

def DX7_empty (S : SX7) : Option (SX7) := lt (uX7_players S (0 : Int32)) (fun S1 => lt (uX7_played S1 (0 : Int32)) (fun S3 => lt (uX7_slips S3 (fun _ => (-1 : Int32))) (fun S5 => some S5)))

def DX6_wipe_L2 (k2 : SX6 → Option (SX6)) : Nat → Int32 → SX6 → Option (SX6)
  | 0, _, _ => none
  | f + 1, v1_5, S1 => (if ((7 : Int32) ≤ v1_5) then k2 S1 else gd (gIn v1_5 7) (lt (uX6_rows S1 (upd2 (gX6_rows S1) ((v1_5).toNatClampNeg) (fun _ => (-1 : Int32)))) (fun S7 => DX6_wipe_L2 k2 f (v1_5 + (1 : Int32)) S7)))

def DX6_wipe (S : SX6) : Option (SX6) := DX6_wipe_L2 (fun (S4 : SX6) => some S4) fu (0 : Int32) S

def DX4_workAt (S : SX4) (p1 : Int32) (p2 : Int32) (p3 : Int32) : Option (Int32) := jn (fun (x1 : Int32) => jn (fun (x3 : Int32) => some x3) (fun j4 => (if (x1 = (0 : Int32)) then j4 (-1 : Int32) else gd (gIn ((((p1 * (4 : Int32)) + p2) * (4 : Int32)) + p3) 192) (j4 ((gX4_places S) ((((((p1 * (4 : Int32)) + p2) * (4 : Int32)) + p3)).toNatClampNeg)))))) (fun j2 => jn (fun (_ : Unit) => j2 (0 : Int32)) (fun j6 => (if (p1 < (0 : Int32)) then j6 () else (if ((12 : Int32) ≤ p1) then j6 () else (if (p2 < (0 : Int32)) then j6 () else (if ((4 : Int32) ≤ p2) then j6 () else (if (p3 < (0 : Int32)) then j6 () else (if ((4 : Int32) ≤ p3) then j6 () else j2 (1 : Int32)))))))))

def DX4_sizeOf_L2 (S : SX4) (c1_3 : Int32) (c2_4 : Int32) (k5 : Int32 → Option (Int32)) : Nat → Int32 → Option (Int32)
  | 0, _ => none
  | f + 1, v3_7 => (if ((4 : Int32) ≤ v3_7) then k5 v3_7 else (DX4_workAt S c1_3 c2_4 v3_7).bind fun x8 => ((if (x8 = (-1 : Int32)) then k5 v3_7 else DX4_sizeOf_L2 S c1_3 c2_4 k5 f (v3_7 + (1 : Int32)))))

def DX4_sizeOf (S : SX4) (p1 : Int32) (p2 : Int32) : Option (Int32) := jn (fun (v3_1 : Int32) => some v3_1) (fun j2 => DX4_sizeOf_L2 S p1 p2 j2 fu (0 : Int32))

def DX10_has (S : SX10) (p1 : Int32) : Option (Int32) := jn (fun (x1 : Int32) => gd (isB x1) (some x1)) (fun j2 => jn (fun (_ : Unit) => j2 (0 : Int32)) (fun j4 => (if (p1 < (0 : Int32)) then j4 () else (if ((gX10_count S) ≤ p1) then j4 () else (if ((30 : Int32) ≤ p1) then j4 () else j2 (1 : Int32))))))

def DX10_minutesOf (S : SX10) (p1 : Int32) : Option (Int32) := (DX10_has S p1).bind fun x1 => (jn (fun (x3 : Int32) => some x3) (fun j4 => (if (x1 = (0 : Int32)) then j4 (0 : Int32) else gd (gIn p1 30) (j4 ((gX10_lengths S) ((p1).toNatClampNeg))))))

def DX4_minutesOf_L6 (S : SX4) (T3 : SX10) (c1_1 : Int32) (c2_2 : Int32) (k3 : Int32 → Option (Int32)) : Nat → Int32 → Int32 → Option (Int32)
  | 0, _, _ => none
  | f + 1, v4_6, v5_7 => (if ((4 : Int32) ≤ v5_7) then k3 v4_6 else (DX4_workAt S c1_1 c2_2 v5_7).bind fun x8 => ((DX10_minutesOf T3 x8).bind fun x10 => (DX4_minutesOf_L6 S T3 c1_1 c2_2 k3 f (v4_6 + x10) (v5_7 + (1 : Int32)))))

def DX4_minutesOf (S : SX4) (T3 : SX10) (p1 : Int32) (p2 : Int32) : Option (Int32) := DX4_minutesOf_L6 S T3 p1 p2 (fun (v4_5 : Int32) => some v4_5) fu (0 : Int32) (0 : Int32)

def DX10_eraOf (S : SX10) (p1 : Int32) : Option (Int32) := (DX10_has S p1).bind fun x1 => (jn (fun (x3 : Int32) => some x3) (fun j4 => (if (x1 = (0 : Int32)) then j4 (-1 : Int32) else gd (gIn p1 30) (j4 ((gX10_eras S) ((p1).toNatClampNeg))))))

def DX4_erasOf_L6 (S : SX4) (T3 : SX10) (c1_1 : Int32) (c2_2 : Int32) (k3 : Int32 → Option (Int32)) : Nat → Int32 → Int32 → Option (Int32)
  | 0, _, _ => none
  | f + 1, v4_6, v5_7 => (if ((4 : Int32) ≤ v5_7) then k3 v4_6 else (DX4_workAt S c1_1 c2_2 v5_7).bind fun x8 => ((DX10_eraOf T3 x8).bind fun x10 => (jn (fun (v4_12 : Int32) => DX4_erasOf_L6 S T3 c1_1 c2_2 k3 f v4_12 (v5_7 + (1 : Int32))) (fun j13 => (if (x10 = (-1 : Int32)) then j13 v4_6 else j13 (v4_6 ||| ((1 : Int32) <<< (x10 &&& 31))))))))

def DX4_erasOf (S : SX4) (T3 : SX10) (p1 : Int32) (p2 : Int32) : Option (Int32) := DX4_erasOf_L6 S T3 p1 p2 (fun (v4_5 : Int32) => some v4_5) fu (0 : Int32) (0 : Int32)

def DX10_composerOf (S : SX10) (p1 : Int32) : Option (Int32) := (DX10_has S p1).bind fun x1 => (jn (fun (x3 : Int32) => some x3) (fun j4 => (if (x1 = (0 : Int32)) then j4 (-1 : Int32) else gd (gIn p1 30) (j4 ((gX10_composers S) ((p1).toNatClampNeg))))))

def DX4_mostOfOneComposer_L19 (S : SX4) (T3 : SX10) (c1_8 : Int32) (c2_9 : Int32) (c4_10 : Int32) (c5_11 : Int32) (k12 : Int32 → Option (Int32)) : Nat → Int32 → Int32 → Option (Int32)
  | 0, _, _ => none
  | f + 1, v6_15, v7_16 => (if ((4 : Int32) ≤ v7_16) then k12 v6_15 else (DX4_workAt S c1_8 c2_9 v7_16).bind fun x17 => ((DX10_composerOf T3 x17).bind fun x19 => (jn (fun (v6_21 : Int32) => DX4_mostOfOneComposer_L19 S T3 c1_8 c2_9 c4_10 c5_11 k12 f v6_21 (v7_16 + (1 : Int32))) (fun j22 => (if (x19 = c5_11) then j22 (v6_15 + (1 : Int32)) else j22 v6_15)))))

def DX4_mostOfOneComposer_L6 (S : SX4) (T3 : SX10) (c1_1 : Int32) (c2_2 : Int32) (k3 : Int32 → Option (Int32)) : Nat → Int32 → Int32 → Option (Int32)
  | 0, _, _ => none
  | f + 1, v4_6, v5_7 => (if ((10 : Int32) ≤ v5_7) then k3 v4_6 else DX4_mostOfOneComposer_L19 S T3 c1_1 c2_2 v4_6 v5_7 (fun (v6_14 : Int32) => DX4_mostOfOneComposer_L6 S T3 c1_1 c2_2 k3 f (if v4_6 < v6_14 then v6_14 else v4_6) (v5_7 + (1 : Int32))) fu (0 : Int32) (0 : Int32))

def DX4_mostOfOneComposer (S : SX4) (T3 : SX10) (p1 : Int32) (p2 : Int32) : Option (Int32) := DX4_mostOfOneComposer_L6 S T3 p1 p2 (fun (v4_5 : Int32) => some v4_5) fu (0 : Int32) (0 : Int32)

def DX4_contains_L3 (S : SX4) (c1_1 : Int32) (c2_2 : Int32) (c3_3 : Int32) (k4 : Unit → Option (Int32)) (k5 : Unit → Option (Int32)) : Nat → Int32 → Option (Int32)
  | 0, _ => none
  | f + 1, v4_6 => (if ((4 : Int32) ≤ v4_6) then k5 () else (DX4_workAt S c1_1 c2_2 v4_6).bind fun x7 => ((if (x7 = c3_3) then k4 () else DX4_contains_L3 S c1_1 c2_2 c3_3 k4 k5 f (v4_6 + (1 : Int32)))))

def DX4_contains (S : SX4) (p1 : Int32) (p2 : Int32) (p3 : Int32) : Option (Int32) := DX4_contains_L3 S p1 p2 p3 (fun (_ : Unit) => some (1 : Int32)) (fun (_ : Unit) => some (0 : Int32)) fu (0 : Int32)

def DX4_repeatsEarlierRound_L10 (S : SX4) (c1_6 : Int32) (c2_7 : Int32) (c3_8 : Int32) (k9 : Unit → Option (Int32)) (k10 : Unit → Option (Int32)) : Nat → Int32 → Option (Int32)
  | 0, _ => none
  | f + 1, v4_11 => (if ((4 : Int32) ≤ v4_11) then k10 () else (DX4_workAt S c1_6 c2_7 v4_11).bind fun x12 => (jn (fun (_ : Unit) => DX4_repeatsEarlierRound_L10 S c1_6 c2_7 c3_8 k9 k10 f (v4_11 + (1 : Int32))) (fun j14 => (if (x12 = (-1 : Int32)) then j14 () else (DX4_contains S c1_6 c3_8 x12).bind fun x15 => ((if (x15 = (0 : Int32)) then j14 () else k9 ()))))))

def DX4_repeatsEarlierRound_L2 (S : SX4) (c1_1 : Int32) (c2_2 : Int32) (k3 : Unit → Option (Int32)) (k4 : Unit → Option (Int32)) : Nat → Int32 → Option (Int32)
  | 0, _ => none
  | f + 1, v3_5 => (if (c2_2 ≤ v3_5) then k4 () else DX4_repeatsEarlierRound_L10 S c1_1 c2_2 v3_5 (fun _ => k3 ()) (fun (_ : Unit) => DX4_repeatsEarlierRound_L2 S c1_1 c2_2 k3 k4 f (v3_5 + (1 : Int32))) fu (0 : Int32))

def DX4_repeatsEarlierRound (S : SX4) (p1 : Int32) (p2 : Int32) : Option (Int32) := DX4_repeatsEarlierRound_L2 S p1 p2 (fun (_ : Unit) => some (1 : Int32)) (fun (_ : Unit) => some (0 : Int32)) fu (0 : Int32)

def DX4_flawOf (S : SX4) (T3 : Nat → Nat → Int32) (T4 : SX10) (p1 : Int32) (p2 : Int32) : Option (Int32) := jn (fun (_ : Unit) => some (1 : Int32)) (fun j1 => (if (p2 < (0 : Int32)) then j1 () else (if ((4 : Int32) ≤ p2) then j1 () else (DX4_sizeOf S p1 p2).bind fun x2 => ((if (x2 = (0 : Int32)) then j1 () else gd (gIn p2 4) ((DX4_minutesOf S T4 p1 p2).bind fun x5 => ((if (((T3 ((p2).toNatClampNeg)) 0) ≤ x5) then (if (x5 ≤ ((T3 ((p2).toNatClampNeg)) 1)) then (DX4_erasOf S T4 p1 p2).bind fun x7 => ((if ((((T3 ((p2).toNatClampNeg)) 2) &&& (x7 ^^^ (-1 : Int32))) = (0 : Int32)) then (DX4_mostOfOneComposer S T4 p1 p2).bind fun x9 => ((if (x9 ≤ ((T3 ((p2).toNatClampNeg)) 3)) then jn (fun (x11 : Int32) => some x11) (fun j12 => jn (fun (_ : Unit) => j12 (0 : Int32)) (fun j13 => (if (((T3 ((p2).toNatClampNeg)) 4) = (1 : Int32)) then (DX4_repeatsEarlierRound S p1 p2).bind fun x14 => ((if (x14 = (0 : Int32)) then j13 () else j12 (6 : Int32))) else j13 ()))) else some (5 : Int32))) else some (4 : Int32))) else some (3 : Int32)) else some (2 : Int32)))))))))

def DX7_seat (S : SX7) (p1 : Int32) : Option (SX7) := jn (fun (S1 : SX7) => some S1) (fun j2 => (if ((12 : Int32) ≤ (gX7_players S)) then j2 S else gd (gIn (gX7_players S) 12) (lt (uX7_order S (upd (gX7_order S) (((gX7_players S)).toNatClampNeg) p1)) (fun S4 => lt (uX7_players S4 ((gX7_players S4) + (1 : Int32))) (fun S6 => j2 S6)))))

def DX2_putOut (S : SX2) (p1 : Int32) : Option (SX2) := (DX2_has S p1).bind fun x1 => (jn (fun (S3 : SX2) => some S3) (fun j4 => (if (x1 = (0 : Int32)) then j4 S else gd (gIn p1 12) (lt (uX2_in S (upd (gX2_in S) ((p1).toNatClampNeg) (0 : Int32))) (fun S6 => j4 S6)))))

def DX7_exchange (S : SX7) (p1 : Int32) (p2 : Int32) : Option (SX7) := (DX11_isBetween p1 (0 : Int32) (11 : Int32)).bind fun x1 => (jn (fun (S3 : SX7) => some S3) (fun j4 => (if (x1 = (0 : Int32)) then j4 S else (DX11_isBetween p2 (0 : Int32) (11 : Int32)).bind fun x5 => ((if (x5 = (0 : Int32)) then j4 S else gd (gIn p1 12) (gd (gIn p2 12) (gd (gIn p1 12) (lt (uX7_order S (upd (gX7_order S) ((p1).toNatClampNeg) ((gX7_order S) ((p2).toNatClampNeg)))) (fun S10 => gd (gIn p2 12) (lt (uX7_order S10 (upd (gX7_order S10) ((p2).toNatClampNeg) ((gX7_order S) ((p1).toNatClampNeg)))) (fun S13 => j4 S13)))))))))))

def DX7_drawLots_L7 (k2 : SX7 → Option (SX7)) : Nat → Int32 → SX7 → Option (SX7)
  | 0, _, _ => none
  | f + 1, v1_5, S1 => (if (v1_5 < (1 : Int32)) then k2 S1 else lt ((((gX7_seed S1) * (1103515245 : Int64)) + (12345 : Int64)) - (((gX7_seed S1) * (1103515245 : Int64)) + (12345 : Int64)) / (2147483648 : Int64) * (2147483648 : Int64)) (fun y6 => lt (uX7_seed S1 y6) (fun S8 => gzL (((v1_5 + (1 : Int32))).toInt64) ((DX7_exchange S8 v1_5 (((((gX7_seed S8) / (65536 : Int64)) - ((gX7_seed S8) / (65536 : Int64)) / ((v1_5 + (1 : Int32))).toInt64 * ((v1_5 + (1 : Int32))).toInt64)).toInt32)).bind fun x11 => (DX7_drawLots_L7 k2 f (v1_5 + (-1 : Int32)) x11)))))

def DX7_drawLots (S : SX7) : Option (SX7) := DX7_drawLots_L7 (fun (S4 : SX7) => some S4) fu ((gX7_players S) - (1 : Int32)) S

def DX0_startRound_L21 (c1_11 : Int32) (k13 : SX0 → Option (SX0)) : Nat → Int32 → SX0 → Option (SX0)
  | 0, _, _ => none
  | f + 1, v2_24, S12 => (if ((gX2_count (gX0_entrants S12)) ≤ v2_24) then k13 S12 else (DX2_isIn (gX0_entrants S12) v2_24).bind fun x25 => (jn (fun (S27 : SX0) => DX0_startRound_L21 c1_11 k13 f (v2_24 + (1 : Int32)) S27) (fun j28 => (if (x25 = (0 : Int32)) then j28 S12 else (DX4_flawOf (gX0_programs S12) (gX0_rules S12) (gX0_works S12) v2_24 c1_11).bind fun x29 => ((if (x29 = (0 : Int32)) then (DX7_seat (gX0_stage S12) v2_24).bind fun x35 => (lt (uX0_stage S12 x35) (fun S37 => j28 S37)) else (DX2_putOut (gX0_entrants S12) v2_24).bind fun x31 => (lt (uX0_entrants S12 x31) (fun S33 => j28 S33))))))))

def DX0_startRound (S : SX0) (p1 : Int32) : Option (SX0) := lt (uX0_round S p1) (fun S1 => (DX7_empty (gX0_stage S1)).bind fun x3 => (lt (uX0_stage S1 x3) (fun S5 => (DX6_wipe (gX0_sheet S5)).bind fun x7 => (lt (uX0_sheet S5 x7) (fun S9 => DX0_startRound_L21 p1 (fun (S15 : SX0) => (DX7_drawLots (gX0_stage S15)).bind fun x16 => (lt (uX0_stage S15 x16) (fun S18 => jn (fun (x20 : Int32) => lt (uX0_state S18 x20) (fun S22 => some S22)) (fun j21 => (if ((gX7_players (gX0_stage S18)) ≤ (0 : Int32)) then j21 (3 : Int32) else j21 (1 : Int32)))))) fu (0 : Int32) S9)))))

def DX7_unseat_L14 (k4 : SX7 → Option (SX7)) : Nat → Int32 → SX7 → Option (SX7)
  | 0, _, _ => none
  | f + 1, v3_9, S3 => (if ((gX7_players S3) ≤ (v3_9 + (1 : Int32))) then k4 S3 else (DX7_exchange S3 v3_9 (v3_9 + (1 : Int32))).bind fun x10 => (DX7_unseat_L14 k4 f (v3_9 + (1 : Int32)) x10))

def DX7_unseat (S : SX7) (p1 : Int32) : Option (SX7) := (DX7_placeOf S p1).bind fun x1 => ((if (x1 = (-1 : Int32)) then some S else DX7_unseat_L14 (fun (S6 : SX7) => lt (uX7_players S6 ((gX7_players S6) - (1 : Int32))) (fun S7 => some S7)) fu x1 S))

def DX0_letGo (S : SX0) (p1 : Int32) : Option (SX0) := (DX2_putOut (gX0_entrants S) p1).bind fun x1 => (lt (uX0_entrants S x1) (fun S3 => (DX7_unseat (gX0_stage S3) p1).bind fun x5 => (lt (uX0_stage S3 x5) (fun S7 => jn (fun (S9 : SX0) => some S9) (fun j10 => (if ((gX0_state S7) = (1 : Int32)) then (if ((gX7_players (gX0_stage S7)) = (0 : Int32)) then lt (uX0_state S7 (3 : Int32)) (fun S11 => j10 S11) else j10 S7) else j10 S7))))))

def DX0_isAwaited (S : SX0) (p1 : Int32) : Option (Int32) := (if ((gX0_state S) = (2 : Int32)) then (DX9_has (gX0_tie S) p1).bind fun x6 => (jn (fun (x8 : Int32) => gd (isB x8) (some x8)) (fun j9 => jn (fun (_ : Unit) => j9 (0 : Int32)) (fun j11 => (if (x6 = (0 : Int32)) then j11 () else (DX3_isSettled (gX0_jury S) (gX9_sheet (gX0_tie S)) p1).bind fun x12 => ((if (x12 = (0 : Int32)) then j9 (1 : Int32) else j11 ())))))) else (DX0_isComplete S p1).bind fun x1 => (jn (fun (x3 : Int32) => gd (isB x3) (some x3)) (fun j4 => (if (x1 = (0 : Int32)) then j4 (1 : Int32) else j4 (0 : Int32)))))

def DX0_canBeClosed_L20 (S : SX0) (k2 : Unit → Option (Int32)) (k3 : Unit → Option (Int32)) : Nat → Int32 → Option (Int32)
  | 0, _ => none
  | f + 1, v1_4 => (if ((gX7_players (gX0_stage S)) ≤ v1_4) then k3 () else (DX7_playerAt (gX0_stage S) v1_4).bind fun x5 => ((DX0_isAwaited S x5).bind fun x7 => ((if (x7 = (0 : Int32)) then DX0_canBeClosed_L20 S k2 k3 f (v1_4 + (1 : Int32)) else k2 ()))))

def DX0_canBeClosed (S : SX0) : Option (Int32) := jn (fun (_ : Unit) => DX0_canBeClosed_L20 S (fun (_ : Unit) => some (0 : Int32)) (fun (_ : Unit) => some (1 : Int32)) fu (0 : Int32)) (fun j1 => (if ((gX0_state S) = (1 : Int32)) then j1 () else (if ((gX0_state S) = (2 : Int32)) then j1 () else some (0 : Int32))))

def DX1_clear (S : SX1) : Option (SX1) := lt (uX1_scores S (fun _ => (-1 : Int32))) (fun S1 => some S1)

def DX1_put (S : SX1) (p1 : Int32) (p2 : Int32) : Option (SX1) := (DX11_isBetween p1 (0 : Int32) (11 : Int32)).bind fun x1 => (jn (fun (S3 : SX1) => some S3) (fun j4 => (if (x1 = (0 : Int32)) then j4 S else gd (gIn p1 12) (lt (uX1_scores S (upd (gX1_scores S) ((p1).toNatClampNeg) p2)) (fun S6 => j4 S6)))))

def DX1_countFrom_L14 (S : SX1) (c1_1 : Int32) (c4_2 : Int32) (k3 : Int32 → Option (Int32)) : Nat → Int32 → Int32 → Option (Int32)
  | 0, _, _ => none
  | f + 1, v2_6, v5_7 => (if (c4_2 ≤ v5_7) then k3 v2_6 else gd (gIn v5_7 12) (jn (fun (v2_9 : Int32) => DX1_countFrom_L14 S c1_1 c4_2 k3 f v2_9 (v5_7 + (1 : Int32))) (fun j10 => (if (((gX1_scores S) ((v5_7).toNatClampNeg)) < c1_1) then j10 v2_6 else j10 (v2_6 + (1 : Int32))))))

def DX1_countFrom (S : SX1) (p1 : Int32) : Option (Int32) := DX1_countFrom_L14 S p1 (12 : Int32) (fun (v2_5 : Int32) => some v2_5) fu (0 : Int32) (0 : Int32)

def DX1_findLine_L27 (S : SX1) (c3_3 : Int32) (k4 : Int32 → Option (Int32)) : Nat → Int32 → Int32 → Option (Int32)
  | 0, _, _ => none
  | f + 1, v1_7, v4_8 => (if (c3_3 ≤ v4_8) then k4 v1_7 else gd (gIn v4_8 12) (jn (fun (v1_10 : Int32) => DX1_findLine_L27 S c3_3 k4 f v1_10 (v4_8 + (1 : Int32))) (fun j11 => (if (((gX1_scores S) ((v4_8).toNatClampNeg)) ≤ v1_7) then j11 v1_7 else (DX1_countFrom S ((gX1_scores S) ((v4_8).toNatClampNeg))).bind fun x12 => ((if (x12 < (gX1_places S)) then j11 v1_7 else j11 ((gX1_scores S) ((v4_8).toNatClampNeg))))))))

def DX1_findLine (S : SX1) : Option (Int32) := (DX1_countFrom S (0 : Int32)).bind fun x1 => ((if ((gX1_places S) < x1) then DX1_findLine_L27 S (12 : Int32) (fun (v1_6 : Int32) => some v1_6) fu (-1 : Int32) (0 : Int32) else some (-1 : Int32)))

def DX1_draw_L39 (c3_13 : Int32) (k15 : SX1 → Option (SX1)) : Nat → Int32 → SX1 → Option (SX1)
  | 0, _, _ => none
  | f + 1, v4_18, S14 => (if (c3_13 ≤ v4_18) then k15 S14 else gd (gIn v4_18 12) (jn (fun (S20 : SX1) => DX1_draw_L39 c3_13 k15 f (v4_18 + (1 : Int32)) S20) (fun j21 => (if (((gX1_scores S14) ((v4_18).toNatClampNeg)) = (-1 : Int32)) then j21 S14 else (if (((gX1_scores S14) ((v4_18).toNatClampNeg)) ≤ (gX1_line S14)) then (if (((gX1_scores S14) ((v4_18).toNatClampNeg)) = (gX1_line S14)) then lt (uX1_level S14 ((gX1_level S14) + (1 : Int32))) (fun S24 => j21 S24) else lt (uX1_below S14 ((gX1_below S14) + (1 : Int32))) (fun S22 => j21 S22)) else lt (uX1_above S14 ((gX1_above S14) + (1 : Int32))) (fun S26 => j21 S26))))))

def DX1_draw (S : SX1) (p1 : Int32) : Option (SX1) := lt (uX1_places S p1) (fun S1 => (DX1_findLine S1).bind fun x3 => (lt (uX1_line S1 x3) (fun S5 => lt (uX1_above S5 (0 : Int32)) (fun S7 => lt (uX1_level S7 (0 : Int32)) (fun S9 => lt (uX1_below S9 (0 : Int32)) (fun S11 => DX1_draw_L39 (12 : Int32) (fun (S17 : SX1) => some S17) fu (0 : Int32) S11))))))

def DX0_judgeRound_L9 (k6 : SX0 → Option (SX0)) : Nat → Int32 → SX0 → Option (SX0)
  | 0, _, _ => none
  | f + 1, v1_18, S5 => (if ((gX7_players (gX0_stage S5)) ≤ v1_18) then k6 S5 else (DX7_playerAt (gX0_stage S5) v1_18).bind fun x19 => ((DX0_scoreOf S5 x19).bind fun x21 => ((DX1_put (gX0_cut S5) x19 x21).bind fun x23 => (lt (uX0_cut S5 x23) (fun S25 => DX0_judgeRound_L9 k6 f (v1_18 + (1 : Int32)) S25)))))

def DX0_judgeRound (S : SX0) : Option (SX0) := (DX1_clear (gX0_cut S)).bind fun x1 => (lt (uX0_cut S x1) (fun S3 => DX0_judgeRound_L9 (fun (S8 : SX0) => (DX11_isBetween (gX0_round S8) (0 : Int32) (3 : Int32)).bind fun x9 => (jn (fun (x11 : Int32) => (DX1_draw (gX0_cut S8) x11).bind fun x13 => (lt (uX0_cut S8 x13) (fun S15 => some S15))) (fun j12 => (if (x9 = (0 : Int32)) then j12 (12 : Int32) else gd (gIn (gX0_round S8) 4) (j12 (((gX0_rules S8) (((gX0_round S8)).toNatClampNeg)) 5)))))) fu (0 : Int32) S3))

def DX0_judgeTieRound_L9 (k6 : SX0 → Option (SX0)) : Nat → Int32 → SX0 → Option (SX0)
  | 0, _, _ => none
  | f + 1, v1_13, S5 => (if ((gX2_count (gX0_entrants S5)) ≤ v1_13) then k6 S5 else (DX9_has (gX0_tie S5) v1_13).bind fun x14 => (jn (fun (S16 : SX0) => DX0_judgeTieRound_L9 k6 f (v1_13 + (1 : Int32)) S16) (fun j17 => (if (x14 = (0 : Int32)) then j17 S5 else (DX3_meanOf (gX0_jury S5) (gX9_sheet (gX0_tie S5)) v1_13).bind fun x18 => ((DX1_put (gX0_cut S5) v1_13 x18).bind fun x20 => (lt (uX0_cut S5 x20) (fun S22 => j17 S22)))))))

def DX0_judgeTieRound (S : SX0) : Option (SX0) := (DX1_clear (gX0_cut S)).bind fun x1 => (lt (uX0_cut S x1) (fun S3 => DX0_judgeTieRound_L9 (fun (S8 : SX0) => (DX1_draw (gX0_cut S8) (gX9_places (gX0_tie S8))).bind fun x9 => (lt (uX0_cut S8 x9) (fun S11 => some S11))) fu (0 : Int32) S3))

def DX1_scoreOf (S : SX1) (p1 : Int32) : Option (Int32) := (DX11_isBetween p1 (0 : Int32) (11 : Int32)).bind fun x1 => (jn (fun (x3 : Int32) => some x3) (fun j4 => (if (x1 = (0 : Int32)) then j4 (-1 : Int32) else gd (gIn p1 12) (j4 ((gX1_scores S) ((p1).toNatClampNeg))))))

def DX1_isOut (S : SX1) (p1 : Int32) : Option (Int32) := (DX1_scoreOf S p1).bind fun x1 => (jn (fun (x3 : Int32) => gd (isB x3) (some x3)) (fun j4 => jn (fun (_ : Unit) => j4 (0 : Int32)) (fun j6 => (if (x1 = (-1 : Int32)) then j6 () else (DX1_scoreOf S p1).bind fun x7 => ((if ((gX1_line S) ≤ x7) then j6 () else j4 (1 : Int32)))))))

def DX0_putOutThoseBelow_L2 (k2 : SX0 → Option (SX0)) : Nat → Int32 → SX0 → Option (SX0)
  | 0, _, _ => none
  | f + 1, v1_5, S1 => (if ((gX2_count (gX0_entrants S1)) ≤ v1_5) then k2 S1 else (DX1_isOut (gX0_cut S1) v1_5).bind fun x6 => (jn (fun (S8 : SX0) => DX0_putOutThoseBelow_L2 k2 f (v1_5 + (1 : Int32)) S8) (fun j9 => (if (x6 = (0 : Int32)) then j9 S1 else (DX2_putOut (gX0_entrants S1) v1_5).bind fun x10 => (lt (uX0_entrants S1 x10) (fun S12 => j9 S12))))))

def DX0_putOutThoseBelow (S : SX0) : Option (SX0) := DX0_putOutThoseBelow_L2 (fun (S4 : SX0) => some S4) fu (0 : Int32) S

def DX1_leavesTie (S : SX1) : Option (Int32) := jn (fun (x1 : Int32) => gd (isB x1) (some x1)) (fun j2 => (if (((gX1_above S) + (gX1_level S)) ≤ (gX1_places S)) then j2 (0 : Int32) else j2 (1 : Int32)))

def DX1_placesLeft (S : SX1) : Option (Int32) := some ((gX1_places S) - (gX1_above S))

def DX1_isTied (S : SX1) (p1 : Int32) : Option (Int32) := (DX1_leavesTie S).bind fun x1 => (jn (fun (x3 : Int32) => gd (isB x3) (some x3)) (fun j4 => jn (fun (_ : Unit) => j4 (0 : Int32)) (fun j6 => (if (x1 = (0 : Int32)) then j6 () else (DX1_scoreOf S p1).bind fun x7 => ((if (x7 = (-1 : Int32)) then j6 () else (DX1_scoreOf S p1).bind fun x9 => ((if (x9 = (gX1_line S)) then j4 (1 : Int32) else j6 ()))))))))

def DX9_startNext_L20 (T1 : SX1) (k8 : SX9 → Option (SX9)) : Nat → Int32 → SX9 → Option (SX9)
  | 0, _, _ => none
  | f + 1, v2_15, S7 => (if ((12 : Int32) ≤ v2_15) then k8 S7 else (DX1_isTied T1 v2_15).bind fun x16 => (jn (fun (x18 : Int32) => gd (gIn v2_15 12) (lt (uX9_tied S7 (upd (gX9_tied S7) ((v2_15).toNatClampNeg) x18)) (fun S21 => DX9_startNext_L20 T1 k8 f (v2_15 + (1 : Int32)) S21))) (fun j19 => (if (x16 = (0 : Int32)) then j19 (0 : Int32) else j19 (1 : Int32)))))

def DX9_startNext (S : SX9) (T1 : SX1) : Option (SX9) := lt (uX9_number S ((gX9_number S) + (1 : Int32))) (fun S1 => (DX1_placesLeft T1).bind fun x3 => (lt (uX9_places S1 x3) (fun S5 => DX9_startNext_L20 T1 (fun (S10 : SX9) => (DX6_wipe (gX9_sheet S10)).bind fun x11 => (lt (uX9_sheet S10 x11) (fun S13 => some S13))) fu (0 : Int32) S5)))

def DX0_applyCut (S : SX0) : Option (Int32 × SX0) := (DX0_putOutThoseBelow S).bind fun x1 => ((DX1_leavesTie (gX0_cut x1)).bind fun x3 => ((if (x3 = (0 : Int32)) then some ((1 : Int32), x1) else (DX9_startNext (gX0_tie x1) (gX0_cut x1)).bind fun x5 => (lt (uX0_tie x1 x5) (fun S7 => lt (uX0_state S7 (2 : Int32)) (fun S9 => some ((0 : Int32), S9)))))))

def DX0_decideRound (S : SX0) : Option (Int32 × SX0) := (DX0_judgeRound S).bind fun x1 => ((DX11_isBetween (gX0_round x1) (0 : Int32) (3 : Int32)).bind fun x3 => (jn (fun (S5 : SX0) => (DX0_applyCut S5).bind fun x7 => (gd (isB x7.1) (some (x7.1, x7.2)))) (fun j6 => (if (x3 = (0 : Int32)) then j6 x1 else gd (gIn (gX0_round x1) 4) (lt (uX0_closedScores x1 (upd2 (gX0_closedScores x1) (((gX0_round x1)).toNatClampNeg) (gX1_scores (gX0_cut x1)))) (fun S11 => j6 S11))))))

def DX0_breakTieByStageOrder_L10 (k4 : SX0 → Option (SX0)) : Nat → Int32 → Int32 → SX0 → Option (SX0)
  | 0, _, _, _ => none
  | f + 1, v1_7, v2_8, S3 => (if ((gX7_players (gX0_stage S3)) ≤ v2_8) then k4 S3 else (DX7_playerAt (gX0_stage S3) v2_8).bind fun x9 => ((DX1_isTied (gX0_cut S3) x9).bind fun x11 => (jn (fun (v1_13 : Int32) (S14 : SX0) => DX0_breakTieByStageOrder_L10 k4 f v1_13 (v2_8 + (1 : Int32)) S14) (fun j15 => (if (x11 = (0 : Int32)) then j15 v1_7 S3 else (if ((0 : Int32) ≤ (v1_7 + (-1 : Int32))) then j15 (v1_7 + (-1 : Int32)) S3 else (DX2_putOut (gX0_entrants S3) x9).bind fun x16 => (lt (uX0_entrants S3 x16) (fun S18 => j15 (v1_7 + (-1 : Int32)) S18))))))))

def DX0_breakTieByStageOrder (S : SX0) : Option (SX0) := (DX1_placesLeft (gX0_cut S)).bind fun x1 => (DX0_breakTieByStageOrder_L10 (fun (S6 : SX0) => some S6) fu x1 (0 : Int32) S)

def DX0_decideTieRound (S : SX0) : Option (Int32 × SX0) := (DX0_judgeTieRound S).bind fun x1 => ((if ((3 : Int32) ≤ (gX9_number (gX0_tie x1))) then (DX0_putOutThoseBelow x1).bind fun x3 => ((DX0_breakTieByStageOrder x3).bind fun x5 => (some ((1 : Int32), x5))) else (DX0_applyCut x1).bind fun x7 => (gd (isB x7.1) (some (x7.1, x7.2)))))

def DX9_end (S : SX9) : Option (SX9) := lt (uX9_number S (0 : Int32)) (fun S1 => lt (uX9_places S1 (0 : Int32)) (fun S3 => lt (uX9_tied S3 (fun _ => (0 : Int32))) (fun S5 => (DX6_wipe (gX9_sheet S5)).bind fun x7 => (lt (uX9_sheet S5 x7) (fun S9 => some S9)))))

def DX0_goOn (S : SX0) : Option (SX0) := (DX9_end (gX0_tie S)).bind fun x1 => (lt (uX0_tie S x1) (fun S3 => jn (fun (S5 : SX0) => some S5) (fun j6 => (if ((gX0_rounds S3) ≤ ((gX0_round S3) + (1 : Int32))) then lt (uX0_state S3 (3 : Int32)) (fun S7 => j6 S7) else (DX0_startRound S3 ((gX0_round S3) + (1 : Int32))).bind fun x9 => (j6 x9)))))

def DX1_countOf (S : SX1) (p1 : Int32) : Option (Int32) := (if p1 = (0 : Int32) then (DX1_leavesTie S).bind fun x1 => (jn (fun (x3 : Int32) => some x3) (fun j4 => (if (x1 = (0 : Int32)) then j4 ((gX1_above S) + (gX1_level S)) else j4 (gX1_above S)))) else (if p1 = (1 : Int32) then (DX1_leavesTie S).bind fun x5 => (jn (fun (x7 : Int32) => some x7) (fun j8 => (if (x5 = (0 : Int32)) then j8 (0 : Int32) else j8 (gX1_level S)))) else some (gX1_below S)))

def DX2_append (S : SX2) : Option (Int32 × SX2) := (if ((gX2_count S) < (12 : Int32)) then gd (gIn (gX2_count S) 12) (lt (uX2_in S (upd (gX2_in S) (((gX2_count S)).toNatClampNeg) (1 : Int32))) (fun S2 => lt (uX2_count S2 ((gX2_count S) + (1 : Int32))) (fun S4 => some ((gX2_count S), S4)))) else some ((-1 : Int32), S))

def DX3_has (S : SX3) (p1 : Int32) : Option (Int32) := jn (fun (x1 : Int32) => gd (isB x1) (some x1)) (fun j2 => jn (fun (_ : Unit) => j2 (0 : Int32)) (fun j4 => (if (p1 < (0 : Int32)) then j4 () else (if ((gX3_size S) ≤ p1) then j4 () else (if ((7 : Int32) ≤ p1) then j4 () else j2 (1 : Int32))))))

def DX3_setBarred (S : SX3) (p1 : Int32) (p2 : Int32) (p3 : Int32) : Option (SX3) := jn (fun (S1 : SX3) => some S1) (fun j2 => (if (p1 < (0 : Int32)) then j2 S else (if ((7 : Int32) ≤ p1) then j2 S else (if (p2 < (0 : Int32)) then j2 S else (if ((12 : Int32) ≤ p2) then j2 S else gd (gIn p1 7) (jn (fun (x4 : Int32) => gd (gIn p2 12) (lt (uX3_barred S (upd2 (gX3_barred S) ((p1).toNatClampNeg) (upd ((gX3_barred S) ((p1).toNatClampNeg)) ((p2).toNatClampNeg) x4))) (fun S7 => j2 S7))) (fun j5 => (if (p3 = (0 : Int32)) then j5 (0 : Int32) else j5 (1 : Int32)))))))))

def DX4_put (S : SX4) (p1 : Int32) (p2 : Int32) (p3 : Int32) (p4 : Int32) : Option (SX4) := jn (fun (x1 : Int32) => jn (fun (S3 : SX4) => some S3) (fun j4 => (if (x1 = (0 : Int32)) then j4 S else gd (gIn ((((p1 * (4 : Int32)) + p2) * (4 : Int32)) + p3) 192) (lt (uX4_places S (upd (gX4_places S) ((((((p1 * (4 : Int32)) + p2) * (4 : Int32)) + p3)).toNatClampNeg) p4)) (fun S6 => j4 S6))))) (fun j2 => jn (fun (_ : Unit) => j2 (0 : Int32)) (fun j8 => (if (p1 < (0 : Int32)) then j8 () else (if ((12 : Int32) ≤ p1) then j8 () else (if (p2 < (0 : Int32)) then j8 () else (if ((4 : Int32) ≤ p2) then j8 () else (if (p3 < (0 : Int32)) then j8 () else (if ((4 : Int32) ≤ p3) then j8 () else j2 (1 : Int32)))))))))

def DX4_empty_L2 (c1_1 : Int32) (c2_2 : Int32) (k4 : SX4 → Option (SX4)) : Nat → Int32 → SX4 → Option (SX4)
  | 0, _, _ => none
  | f + 1, v3_7, S3 => (if ((4 : Int32) ≤ v3_7) then k4 S3 else (DX4_put S3 c1_1 c2_2 v3_7 (-1 : Int32)).bind fun x8 => (DX4_empty_L2 c1_1 c2_2 k4 f (v3_7 + (1 : Int32)) x8))

def DX4_empty (S : SX4) (p1 : Int32) (p2 : Int32) : Option (SX4) := DX4_empty_L2 p1 p2 (fun (S6 : SX4) => some S6) fu (0 : Int32) S

def DX6_put (S : SX6) (p1 : Int32) (p2 : Int32) (p3 : Int32) : Option (SX6) := jn (fun (S1 : SX6) => some S1) (fun j2 => (if (p1 < (0 : Int32)) then j2 S else (if ((7 : Int32) ≤ p1) then j2 S else (if (p2 < (0 : Int32)) then j2 S else (if ((12 : Int32) ≤ p2) then j2 S else gd (gIn p1 7) (gd (gIn p2 12) (lt (uX6_rows S (upd2 (gX6_rows S) ((p1).toNatClampNeg) (upd ((gX6_rows S) ((p1).toNatClampNeg)) ((p2).toNatClampNeg) p3))) (fun S5 => j2 S5))))))))

def DX7_letNextPlay (S : SX7) (p1 : Int32) : Option (Int32 × SX7) := (DX7_playerAt S (gX7_played S)).bind fun x1 => ((DX11_isBetween x1 (0 : Int32) (11 : Int32)).bind fun x3 => (jn (fun (S5 : SX7) => some (x1, S5)) (fun j6 => (if (x3 = (0 : Int32)) then j6 S else gd (gIn x1 12) (lt (uX7_slips S (upd (gX7_slips S) ((x1).toNatClampNeg) p1)) (fun S8 => lt (uX7_played S8 ((gX7_played S8) + (1 : Int32))) (fun S10 => j6 S10)))))))

def DX8_append (S : SX8) (p1 : Int32) : Option (Int32 × SX8) := jn (fun (S1 : SX8) => some ((gX8_length S1), S1)) (fun j2 => (if ((40 : Int32) ≤ (gX8_length S)) then j2 S else gd (gIn (gX8_length S) 40) (lt (uX8_codes S (upd (gX8_codes S) (((gX8_length S)).toNatClampNeg) p1)) (fun S4 => lt (uX8_length S4 ((gX8_length S4) + (1 : Int32))) (fun S6 => j2 S6)))))

def DX8_readDigit (S : SX8) (p1 : Int32) (p2 : Int32) (p3 : Int32) : Option (SX8) := jn (fun (S1 : SX8) => some S1) (fun j2 => jn (fun (_ : Unit) => (if (p3 = (0 : Int32)) then (DX11_isBetween (gX8_found S) (1 : Int32) (4 : Int32)).bind fun x4 => ((if (x4 = (0 : Int32)) then j2 S else gd (gIn ((gX8_found S) - (1 : Int32)) 4) (gd (gIn ((gX8_found S) - (1 : Int32)) 4) (lt (uX8_numbers S (upd (gX8_numbers S) ((((gX8_found S) - (1 : Int32))).toNatClampNeg) ((((gX8_numbers S) ((((gX8_found S) - (1 : Int32))).toNatClampNeg)) * (10 : Int32)) + p2))) (fun S8 => j2 S8))))) else j2 S)) (fun j3 => (if (p3 = (0 : Int32)) then j3 () else (if ((4 : Int32) ≤ (gX8_found S)) then j3 () else gd (gIn (gX8_found S) 4) (lt (uX8_starts S (upd (gX8_starts S) (((gX8_found S)).toNatClampNeg) p1)) (fun S11 => gd (gIn (gX8_found S11) 4) (lt (uX8_numbers S11 (upd (gX8_numbers S11) (((gX8_found S11)).toNatClampNeg) p2)) (fun S14 => lt (uX8_found S14 ((gX8_found S14) + (1 : Int32))) (fun S16 => j2 S16)))))))))

def DX8_readNumbers_L9 (k7 : Int32 → SX8 → Option (Int32 × SX8)) (k10 : Int32 → SX8 → Option (Int32 × SX8)) : Nat → Int32 → Int32 → SX8 → Option (Int32 × SX8)
  | 0, _, _, _ => none
  | f + 1, v1_17, v2_18, S6 => (if ((gX8_length S6) ≤ v2_18) then k10 v1_17 S6 else gd (gIn v2_18 40) ((DX11_isBetween ((gX8_codes S6) ((v2_18).toNatClampNeg)) (48 : Int32) (57 : Int32)).bind fun x20 => (jn (fun (v1_22 : Int32) (S23 : SX8) => DX8_readNumbers_L9 k7 k10 f v1_22 (v2_18 + (1 : Int32)) S23) (fun j24 => jn (fun (_ : Unit) => (if (((gX8_codes S6) ((v2_18).toNatClampNeg)) = (44 : Int32)) then (if (v1_17 ≤ (0 : Int32)) then k7 v2_18 S6 else (if ((4 : Int32) ≤ (gX8_found S6)) then k7 v2_18 S6 else j24 (0 : Int32) S6)) else k7 v2_18 S6)) (fun j25 => (if (x20 = (0 : Int32)) then j25 () else (if ((2 : Int32) ≤ v1_17) then j25 () else jn (fun (x26 : Int32) => (DX8_readDigit S6 v2_18 (((gX8_codes S6) ((v2_18).toNatClampNeg)) - (48 : Int32)) x26).bind fun x28 => (j24 (v1_17 + (1 : Int32)) x28)) (fun j27 => (if ((v1_17 + (1 : Int32)) = (1 : Int32)) then j27 (1 : Int32) else j27 (0 : Int32))))))))))

def DX8_readNumbers (S : SX8) : Option (Int32 × SX8) := lt (uX8_found S (0 : Int32)) (fun S1 => jn (fun (v2_3 : Int32) (S4 : SX8) => some (v2_3, S4)) (fun j5 => DX8_readNumbers_L9 j5 (fun (v1_13 : Int32) (S14 : SX8) => jn (fun (x15 : Int32) => some (x15, S14)) (fun j16 => (if (v1_13 = (0 : Int32)) then j16 (gX8_length S14) else j16 (-1 : Int32)))) fu (0 : Int32) (0 : Int32) S1))

def DX8_isToldBefore_L2 (S : SX8) (c1_1 : Int32) (k2 : Unit → Option (Int32)) (k3 : Unit → Option (Int32)) : Nat → Int32 → Option (Int32)
  | 0, _ => none
  | f + 1, v2_4 => (if (c1_1 ≤ v2_4) then k3 () else gd (gIn v2_4 4) (gd (gIn c1_1 4) ((if (((gX8_numbers S) ((v2_4).toNatClampNeg)) = ((gX8_numbers S) ((c1_1).toNatClampNeg))) then k2 () else DX8_isToldBefore_L2 S c1_1 k2 k3 f (v2_4 + (1 : Int32))))))

def DX8_isToldBefore (S : SX8) (p1 : Int32) : Option (Int32) := DX8_isToldBefore_L2 S p1 (fun (_ : Unit) => some (1 : Int32)) (fun (_ : Unit) => some (0 : Int32)) fu (0 : Int32)

def DX8_faultAmong_L14 (c1_7 : Int32) (k9 : Int32 → SX8 → Option (Int32 × SX8)) (k12 : SX8 → Option (Int32 × SX8)) : Nat → Int32 → SX8 → Option (Int32 × SX8)
  | 0, _, _ => none
  | f + 1, v3_15, S8 => (if ((gX8_found S8) ≤ v3_15) then k12 S8 else gd (gIn v3_15 4) ((if (c1_7 ≤ ((gX8_numbers S8) ((v3_15).toNatClampNeg))) then k9 v3_15 S8 else (DX8_isToldBefore S8 v3_15).bind fun x17 => ((if (x17 = (0 : Int32)) then DX8_faultAmong_L14 c1_7 k9 k12 f (v3_15 + (1 : Int32)) S8 else k9 v3_15 S8)))))

def DX8_faultAmong (S : SX8) (p1 : Int32) : Option (Int32 × SX8) := (DX8_readNumbers S).bind fun x1 => ((if (x1.1 = (-1 : Int32)) then jn (fun (v3_3 : Int32) (S4 : SX8) => gd (gIn v3_3 4) (some (((gX8_starts S4) ((v3_3).toNatClampNeg)), S4))) (fun j5 => DX8_faultAmong_L14 p1 j5 (fun (S14 : SX8) => some ((-1 : Int32), S14)) fu (0 : Int32) x1.2) else some (x1.1, x1.2)))

def DX10_append (S : SX10) (p1 : Int32) (p2 : Int32) (p3 : Int32) : Option (Int32 × SX10) := (if ((gX10_count S) < (30 : Int32)) then gd (gIn (gX10_count S) 30) (lt (uX10_composers S (upd (gX10_composers S) (((gX10_count S)).toNatClampNeg) p1)) (fun S2 => gd (gIn (gX10_count S) 30) (lt (uX10_eras S2 (upd (gX10_eras S2) (((gX10_count S)).toNatClampNeg) p2)) (fun S5 => gd (gIn (gX10_count S) 30) (lt (uX10_lengths S5 (upd (gX10_lengths S5) (((gX10_count S)).toNatClampNeg) p3)) (fun S8 => lt (uX10_count S8 ((gX10_count S) + (1 : Int32))) (fun S10 => some ((gX10_count S), S10)))))))) else some ((-1 : Int32), S))

def DX10_fact (S : SX10) (p1 : Int32) (p2 : Int32) : Option (Int32) := (if p2 = (0 : Int32) then (DX10_composerOf S p1).bind fun x1 => (some x1) else (if p2 = (1 : Int32) then (DX10_eraOf S p1).bind fun x3 => (some x3) else (DX10_minutesOf S p1).bind fun x5 => (some x5)))
