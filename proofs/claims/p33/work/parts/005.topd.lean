/-- what a call that may throw makes: one exception, if it throws -/
def cX {α : Type} (rs : Nat ⊕ α) : Nat := match rs with
  | .inl _ => 1
  | .inr _ => 0
def sX {α : Type} (rs : Nat ⊕ α) : Nat := match rs with
  | .inl _ => 6
  | .inr _ => 0
def DX5_dropOldest_L9 (k3 : SX5 → Option (SX5)) : Nat → Int32 → SX5 → Option (SX5)
  | 0, _, _ => none
  | f + 1, v2_10, S2 => (if ((4 : Int32) ≤ v2_10) then k3 S2 else gd (gIn v2_10 4) (gd (decide ((((gX5_kept S2)).2 ((v2_10).toNatClampNeg)) < 4)) (gd (gIn (v2_10 - (1 : Int32)) 4) (lt (uX5_kept S2 (((gX5_kept S2)).1, updN ((gX5_kept S2)).2 (((v2_10 - (1 : Int32))).toNatClampNeg) (((gX5_kept S2)).2 ((v2_10).toNatClampNeg)))) (fun S14 => DX5_dropOldest_L9 k3 f (v2_10 + (1 : Int32)) S14)))))

def DX5_dropOldest (S : SX5) : Option (SX5) := gd (decide ((((gX5_kept S)).2 0) < 4)) (DX5_dropOldest_L9 (fun (S5 : SX5) => lt (uX5_kept S5 (((gX5_kept S5)).1, updN ((gX5_kept S5)).2 3 (((gX5_kept S)).2 0))) (fun S6 => lt (uX5_count S6 ((gX5_count S6) - (1 : Int32))) (fun S8 => some S8))) fu (1 : Int32) S)

def DX5_keep (S : SX5) (T1 : SX0) : Option (SX5) := jn (fun (S1 : SX5) => gd (gIn (gX5_count S1) 4) (gd (decide ((((gX5_kept S1)).2 (((gX5_count S1)).toNatClampNeg)) < 4)) ((DX0_copyFrom (((gX5_kept S1)).1 (((gX5_kept S1)).2 (((gX5_count S1)).toNatClampNeg))) T1).bind fun x5 => (lt (uX5_kept S1 (updT ((gX5_kept S1)).1 (((gX5_kept S1)).2 (((gX5_count S1)).toNatClampNeg)) x5, ((gX5_kept S1)).2)) (fun S7 => lt (uX5_count S7 ((gX5_count S7) + (1 : Int32))) (fun S9 => some S9)))))) (fun j2 => (if ((gX5_count S) < (4 : Int32)) then j2 S else (DX5_dropOldest S).bind fun x11 => (j2 x11)))

def DX5_restore (S : SX5) (T1 : SX0) : Option (Int32 × (SX5 × SX0)) := jn (fun (S1 : SX5 × SX0) => some ((gX5_count S1.1), (S1.1, S1.2))) (fun j2 => (if ((gX5_count S) ≤ (0 : Int32)) then j2 (S, T1) else lt ((uX5_count S ((gX5_count S) - (1 : Int32))), T1) (fun S3 => gd (gIn (gX5_count S3.1) 4) (gd (decide ((((gX5_kept S3.1)).2 (((gX5_count S3.1)).toNatClampNeg)) < 4)) ((DX0_copyFrom S3.2 (((gX5_kept S3.1)).1 (((gX5_kept S3.1)).2 (((gX5_count S3.1)).toNatClampNeg)))).bind fun x7 => (j2 (S3.1, x7)))))))

def DX11_requireArgument (p0 : Int32) : Option (Nat ⊕ (Unit)) := (if (p0 = (0 : Int32)) then some (Sum.inl 2) else some (Sum.inr ()))

def DX11_requireState (p0 : Int32) : Option (Nat ⊕ (Unit)) := (if (p0 = (0 : Int32)) then some (Sum.inl 3) else some (Sum.inr ()))

def DX11_addWork (S : SX11) (p1 : Int32) (p2 : Int32) (p3 : Int32) : Option (Nat ⊕ (Int32 × SX11)) := (DX11_isBetween p1 (0 : Int32) (9 : Int32)).bind fun x1 => (tx (DX11_requireArgument x1) (fun x3 => (DX11_isBetween p2 (0 : Int32) (4 : Int32)).bind fun x5 => (tx (DX11_requireArgument x5) (fun x7 => (DX11_isBetween p3 (1 : Int32) (60 : Int32)).bind fun x9 => (tx (DX11_requireArgument x9) (fun x11 => jn (fun (x13 : Int32) => tx (DX11_requireState x13) (fun x15 => (DX5_keep (gX11_records S) (gX11_now S)).bind fun x17 => (lt (uX11_records S x17) (fun S19 => (DX10_append (gX0_works (gX11_now S19)) p1 p2 p3).bind fun x21 => (lt (uX11_now S19 (uX0_works (gX11_now S19) x21.2)) (fun S23 => some (Sum.inr (x21.1, S23)))))))) (fun j14 => jn (fun (_ : Unit) => j14 (0 : Int32)) (fun j25 => (if ((gX0_state (gX11_now S)) = (0 : Int32)) then (if ((30 : Int32) ≤ (gX10_count (gX0_works (gX11_now S)))) then j25 () else j14 (1 : Int32)) else j25 ())))))))))

def DX11_requireIndex (p0 : Int32) : Option (Nat ⊕ (Unit)) := (if (p0 = (0 : Int32)) then some (Sum.inl 1) else some (Sum.inr ()))

def DX11_work (S : SX11n) (p1 : Int32) (p2 : Int32) : Option (Nat ⊕ (Int32)) := (DX10_has (gX0_works (gX11n_now S)) p1).bind fun x1 => (tx (DX11_requireIndex x1) (fun x3 => (DX11_isBetween p2 (0 : Int32) (2 : Int32)).bind fun x5 => (tx (DX11_requireArgument x5) (fun x7 => (DX10_fact (gX0_works (gX11n_now S)) p1 p2).bind fun x9 => (some (Sum.inr x9))))))

def DX11_addEntrant (S : SX11) : Option (Nat ⊕ (Int32 × SX11)) := jn (fun (x1 : Int32) => tx (DX11_requireState x1) (fun x3 => (DX5_keep (gX11_records S) (gX11_now S)).bind fun x5 => (lt (uX11_records S x5) (fun S7 => (DX2_append (gX0_entrants (gX11_now S7))).bind fun x9 => (lt (uX11_now S7 (uX0_entrants (gX11_now S7) x9.2)) (fun S11 => some (Sum.inr (x9.1, S11)))))))) (fun j2 => jn (fun (_ : Unit) => j2 (0 : Int32)) (fun j13 => (if ((gX0_state (gX11_now S)) = (0 : Int32)) then (if ((12 : Int32) ≤ (gX2_count (gX0_entrants (gX11_now S)))) then j13 () else j2 (1 : Int32)) else j13 ())))

def DX11_requireEntrant (S : SX11n) (p1 : Int32) : Option (Nat ⊕ (Unit)) := (DX2_has (gX0_entrants (gX11n_now S)) p1).bind fun x1 => (tx (DX11_requireIndex x1) (fun x3 => some (Sum.inr ())))

def DX11_requireJurorAndEntrant (S : SX11n) (p1 : Int32) (p2 : Int32) : Option (Nat ⊕ (Unit)) := (DX3_has (gX0_jury (gX11n_now S)) p1).bind fun x1 => (tx (DX11_requireIndex x1) (fun x3 => tx (DX11_requireEntrant S p2) (fun x5 => some (Sum.inr ()))))

def DX11_bar (S : SX11) (p1 : Int32) (p2 : Int32) (p3 : Int32) : Option (Nat ⊕ (Int32 × SX11)) := tx (DX11_requireJurorAndEntrant (gX11_now S) p1 p2) (fun x1 => (DX5_keep (gX11_records S) (gX11_now S)).bind fun x3 => (lt (uX11_records S x3) (fun S5 => (DX3_isBarred (gX0_jury (gX11_now S5)) p1 p2).bind fun x7 => ((DX3_setBarred (gX0_jury (gX11_now S5)) p1 p2 p3).bind fun x9 => (lt (uX11_now S5 (uX0_jury (gX11_now S5) x9)) (fun S11 => gd (isB x7) (some (Sum.inr (x7, S11)))))))))

def DX11_set (S : SX11) (p1 : Int32) (p2 : Int32) : Option (Nat ⊕ (Int32 × SX11)) := (DX11_isBetween p1 (0 : Int32) (2 : Int32)).bind fun x1 => (tx (DX11_requireArgument x1) (fun x3 => gd (gIn p1 3) (gd (gIn p1 3) ((DX11_isBetween p2 (tab0 ((p1).toNatClampNeg)) (tab1 ((p1).toNatClampNeg))).bind fun x7 => (tx (DX11_requireArgument x7) (fun x9 => jn (fun (x11 : Int32) => tx (DX11_requireState x11) (fun x13 => (DX5_keep (gX11_records S) (gX11_now S)).bind fun x15 => (lt (uX11_records S x15) (fun S17 => (DX0_tell (gX11_now S17) p1).bind fun x19 => ((DX0_change (gX11_now S17) p1 p2).bind fun x21 => (lt (uX11_now S17 x21) (fun S23 => some (Sum.inr (x19, S23))))))))) (fun j12 => jn (fun (_ : Unit) => j12 (1 : Int32)) (fun j25 => (if (p1 = (2 : Int32)) then j25 () else (if ((gX0_state (gX11_now S)) = (0 : Int32)) then j25 () else j12 (0 : Int32)))))))))))

def DX11_requireRound (p0 : Int32) : Option (Nat ⊕ (Unit)) := (DX11_isBetween p0 (0 : Int32) (3 : Int32)).bind fun x1 => (tx (DX11_requireIndex x1) (fun x3 => some (Sum.inr ())))

def DX11_setRule (S : SX11) (p1 : Int32) (p2 : Int32) (p3 : Int32) : Option (Nat ⊕ (Int32 × SX11)) := tx (DX11_requireRound p1) (fun x1 => (DX11_isBetween p2 (0 : Int32) (5 : Int32)).bind fun x3 => (tx (DX11_requireArgument x3) (fun x5 => gd (gIn p2 6) (gd (gIn p2 6) ((DX11_isBetween p3 (tab2 ((p2).toNatClampNeg)) (tab3 ((p2).toNatClampNeg))).bind fun x9 => (tx (DX11_requireArgument x9) (fun x11 => jn (fun (x13 : Int32) => tx (DX11_requireState x13) (fun x15 => (DX5_keep (gX11_records S) (gX11_now S)).bind fun x17 => (lt (uX11_records S x17) (fun S19 => gd (gIn p1 4) (gd (gIn p2 6) (gd (gIn p1 4) (gd (gIn p2 6) (lt (uX11_now S19 (uX0_rules (gX11_now S19) (upd2 (gX0_rules (gX11_now S19)) ((p1).toNatClampNeg) (upd ((gX0_rules (gX11_now S19)) ((p1).toNatClampNeg)) ((p2).toNatClampNeg) p3)))) (fun S25 => some (Sum.inr ((((gX0_rules (gX11_now S19)) ((p1).toNatClampNeg)) ((p2).toNatClampNeg)), S25))))))))))) (fun j14 => (if ((gX0_state (gX11_now S)) = (0 : Int32)) then j14 (1 : Int32) else j14 (0 : Int32))))))))))

def DX11_rule (S : SX11n) (p1 : Int32) (p2 : Int32) : Option (Nat ⊕ (Int32)) := tx (DX11_requireRound p1) (fun x1 => (DX11_isBetween p2 (0 : Int32) (5 : Int32)).bind fun x3 => (tx (DX11_requireArgument x3) (fun x5 => gd (gIn p1 4) (gd (gIn p2 6) (some (Sum.inr (((gX0_rules (gX11n_now S)) ((p1).toNatClampNeg)) ((p2).toNatClampNeg))))))))

def DX11_requireEntrantAndRound (S : SX11n) (p1 : Int32) (p2 : Int32) : Option (Nat ⊕ (Unit)) := tx (DX11_requireEntrant S p1) (fun x1 => tx (DX11_requireRound p2) (fun x3 => some (Sum.inr ())))

def DX11_setProgram_L60 (c1_19 : Int32) (c2_20 : Int32) (k22 : SX11 → Option (Nat ⊕ (Int32 × SX11))) : Nat → Int32 → SX11 → Option (Nat ⊕ (Int32 × SX11))
  | 0, _, _ => none
  | f + 1, v3_25, S21 => (if ((gX8_found (gX11_text S21)) ≤ v3_25) then k22 S21 else gd (gIn v3_25 4) ((DX4_put (gX0_programs (gX11_now S21)) c1_19 c2_20 v3_25 ((gX8_numbers (gX11_text S21)) ((v3_25).toNatClampNeg))).bind fun x27 => (lt (uX11_now S21 (uX0_programs (gX11_now S21) x27)) (fun S29 => DX11_setProgram_L60 c1_19 c2_20 k22 f (v3_25 + (1 : Int32)) S29))))

def DX11_setProgram (S : SX11) (p1 : Int32) (p2 : Int32) : Option (Nat ⊕ (Int32 × SX11)) := tx (DX11_requireEntrantAndRound (gX11_now S) p1 p2) (fun x1 => (DX8_faultAmong (gX11_text S) (gX10_count (gX0_works (gX11_now S)))).bind fun x3 => (lt (uX11_text S x3.2) (fun S5 => jn (fun (x7 : Int32) => tx (DX11_requireArgument x7) (fun x9 => (DX5_keep (gX11_records S5) (gX11_now S5)).bind fun x11 => (lt (uX11_records S5 x11) (fun S13 => (DX4_empty (gX0_programs (gX11_now S13)) p1 p2).bind fun x15 => (lt (uX11_now S13 (uX0_programs (gX11_now S13) x15)) (fun S17 => DX11_setProgram_L60 p1 p2 (fun (S24 : SX11) => some (Sum.inr ((gX8_found (gX11_text S24)), S24))) fu (0 : Int32) S17)))))) (fun j8 => (if (x3.1 = (-1 : Int32)) then j8 (1 : Int32) else j8 (0 : Int32))))))

def DX11_clearProgram (S : SX11) (p1 : Int32) (p2 : Int32) : Option (Nat ⊕ (Int32 × SX11)) := tx (DX11_requireEntrantAndRound (gX11_now S) p1 p2) (fun x1 => (DX5_keep (gX11_records S) (gX11_now S)).bind fun x3 => (lt (uX11_records S x3) (fun S5 => (DX4_sizeOf (gX0_programs (gX11_now S5)) p1 p2).bind fun x7 => ((DX4_empty (gX0_programs (gX11_now S5)) p1 p2).bind fun x9 => (lt (uX11_now S5 (uX0_programs (gX11_now S5) x9)) (fun S11 => some (Sum.inr (x7, S11))))))))

def DX11_program (S : SX11n) (p1 : Int32) (p2 : Int32) (p3 : Int32) : Option (Nat ⊕ (Int32)) := tx (DX11_requireEntrantAndRound S p1 p2) (fun x1 => (DX4_workAt (gX0_programs (gX11n_now S)) p1 p2 p3).bind fun x3 => (some (Sum.inr x3)))

def DX11_flaw (S : SX11n) (p1 : Int32) (p2 : Int32) : Option (Nat ⊕ (Int32)) := tx (DX11_requireEntrantAndRound S p1 p2) (fun x1 => (DX4_flawOf (gX0_programs (gX11n_now S)) (gX0_rules (gX11n_now S)) (gX0_works (gX11n_now S)) p1 p2).bind fun x3 => (some (Sum.inr x3)))

def DX11_begin (S : SX11) (p1 : Int32) : Option (Nat ⊕ (Int32 × SX11)) := jn (fun (x1 : Int32) => tx (DX11_requireArgument x1) (fun x3 => jn (fun (x5 : Int32) => tx (DX11_requireState x5) (fun x7 => (DX5_keep (gX11_records S) (gX11_now S)).bind fun x9 => (lt (uX11_records S x9) (fun S11 => lt (uX11_now S11 (uX0_stage (gX11_now S11) (uX7_seed (gX0_stage (gX11_now S11)) ((p1).toInt64)))) (fun S13 => (DX0_startRound (gX11_now S13) (0 : Int32)).bind fun x15 => (lt (uX11_now S13 x15) (fun S17 => some (Sum.inr ((gX7_players (gX0_stage (gX11_now S17))), S17))))))))) (fun j6 => (if ((gX0_state (gX11_now S)) = (0 : Int32)) then j6 (1 : Int32) else j6 (0 : Int32))))) (fun j2 => (if (p1 < (0 : Int32)) then j2 (0 : Int32) else j2 (1 : Int32)))

def DX11_play (S : SX11) (p1 : Int32) : Option (Nat ⊕ (Int32 × SX11)) := (DX11_isBetween p1 (0 : Int32) (20 : Int32)).bind fun x1 => (tx (DX11_requireArgument x1) (fun x3 => jn (fun (x5 : Int32) => tx (DX11_requireState x5) (fun x7 => (DX5_keep (gX11_records S) (gX11_now S)).bind fun x9 => (lt (uX11_records S x9) (fun S11 => (DX7_letNextPlay (gX0_stage (gX11_now S11)) p1).bind fun x13 => (lt (uX11_now S11 (uX0_stage (gX11_now S11) x13.2)) (fun S15 => some (Sum.inr (x13.1, S15)))))))) (fun j6 => jn (fun (_ : Unit) => j6 (0 : Int32)) (fun j17 => (if ((gX0_state (gX11_now S)) = (1 : Int32)) then (if ((gX7_players (gX0_stage (gX11_now S))) ≤ (gX7_played (gX0_stage (gX11_now S)))) then j17 () else j6 (1 : Int32)) else j17 ())))))

def DX11_enter (S : SX11) (p1 : Int32) (p2 : Int32) (p3 : Int32) : Option (Nat ⊕ (Int32 × SX11)) := (DX0_canBeMarked (gX11_now S) p2).bind fun x1 => (jn (fun (x3 : Int32) => tx (DX11_requireState x3) (fun x5 => (DX5_keep (gX11_records S) (gX11_now S)).bind fun x7 => (lt (uX11_records S x7) (fun S9 => (if ((gX0_state (gX11_now S9)) = (2 : Int32)) then (DX6_put (gX9_sheet (gX0_tie (gX11_now S9))) p1 p2 p3).bind fun x11 => (lt (uX11_now S9 (uX0_tie (gX11_now S9) (uX9_sheet (gX0_tie (gX11_now S9)) x11))) (fun S13 => (DX0_countedMarks (gX11_now S13) p2).bind fun x15 => (some (Sum.inr (x15, S13))))) else (DX6_put (gX0_sheet (gX11_now S9)) p1 p2 p3).bind fun x17 => (lt (uX11_now S9 (uX0_sheet (gX11_now S9) x17)) (fun S19 => (DX0_countedMarks (gX11_now S19) p2).bind fun x21 => (some (Sum.inr (x21, S19)))))))))) (fun j4 => jn (fun (_ : Unit) => j4 (0 : Int32)) (fun j23 => (if (x1 = (0 : Int32)) then j23 () else (DX3_isBarred (gX0_jury (gX11_now S)) p1 p2).bind fun x24 => ((if (x24 = (0 : Int32)) then j4 (1 : Int32) else j23 ()))))))

def DX11_mark (S : SX11) (p1 : Int32) (p2 : Int32) (p3 : Int32) : Option (Nat ⊕ (Int32 × SX11)) := tx (DX11_requireJurorAndEntrant (gX11_now S) p1 p2) (fun x1 => jn (fun (x3 : Int32) => (DX11_isBetween p3 (0 : Int32) x3).bind fun x5 => (tx (DX11_requireArgument x5) (fun x7 => tx (DX11_enter S p1 p2 p3) (fun x9 => some (Sum.inr (x9.1, x9.2)))))) (fun j4 => (if ((gX0_state (gX11_now S)) = (2 : Int32)) then j4 (10 : Int32) else j4 (100 : Int32))))

def DX11_abstain (S : SX11) (p1 : Int32) (p2 : Int32) : Option (Nat ⊕ (Int32 × SX11)) := tx (DX11_requireJurorAndEntrant (gX11_now S) p1 p2) (fun x1 => tx (DX11_enter S p1 p2 (-2 : Int32)) (fun x3 => some (Sum.inr (x3.1, x3.2))))

def DX11_close (S : SX11) : Option (Nat ⊕ (Int32 × SX11)) := (DX0_canBeClosed (gX11_now S)).bind fun x1 => (tx (DX11_requireState x1) (fun x3 => (DX5_keep (gX11_records S) (gX11_now S)).bind fun x5 => (lt (uX11_records S x5) (fun S7 => jn (fun (x9 : Int32) (S10 : SX11) => jn (fun (S12 : SX11) => some (Sum.inr ((gX0_state (gX11_now S12)), S12))) (fun j13 => (if (x9 = (0 : Int32)) then j13 S10 else (DX0_goOn (gX11_now S10)).bind fun x14 => (lt (uX11_now S10 x14) (fun S16 => j13 S16))))) (fun j11 => (if ((gX0_state (gX11_now S7)) = (1 : Int32)) then (DX0_decideRound (gX11_now S7)).bind fun x22 => (lt (uX11_now S7 x22.2) (fun S24 => j11 x22.1 S24)) else (DX0_decideTieRound (gX11_now S7)).bind fun x18 => (lt (uX11_now S7 x18.2) (fun S20 => j11 x18.1 S20))))))))

def DX11_withdraw (S : SX11) (p1 : Int32) : Option (Nat ⊕ (Int32 × SX11)) := tx (DX11_requireEntrant (gX11_now S) p1) (fun x1 => (DX2_isIn (gX0_entrants (gX11_now S)) p1).bind fun x3 => (tx (DX11_requireState x3) (fun x5 => jn (fun (x7 : Int32) => tx (DX11_requireState x7) (fun x9 => (DX5_keep (gX11_records S) (gX11_now S)).bind fun x11 => (lt (uX11_records S x11) (fun S13 => (DX0_letGo (gX11_now S13) p1).bind fun x15 => (lt (uX11_now S13 x15) (fun S17 => (DX2_countIn (gX0_entrants (gX11_now S17))).bind fun x19 => (some (Sum.inr (x19, S17))))))))) (fun j8 => jn (fun (_ : Unit) => j8 (1 : Int32)) (fun j21 => (if ((gX0_state (gX11_now S)) = (0 : Int32)) then j21 () else jn (fun (_ : Unit) => j8 (0 : Int32)) (fun j22 => (if ((gX0_state (gX11_now S)) = (1 : Int32)) then (DX7_hasPlayed (gX0_stage (gX11_now S)) p1).bind fun x23 => ((if (x23 = (0 : Int32)) then j21 () else j22 ())) else j22 ()))))))))

def DX11_info (S : SX11n) (p1 : Int32) : Option (Nat ⊕ (Int32)) := (DX11_isBetween p1 (0 : Int32) (12 : Int32)).bind fun x1 => (tx (DX11_requireArgument x1) (fun x3 => (DX0_tell (gX11n_now S) p1).bind fun x5 => (some (Sum.inr x5))))

def DX11_entrant (S : SX11n) (p1 : Int32) (p2 : Int32) : Option (Nat ⊕ (Int32)) := tx (DX11_requireEntrant S p1) (fun x1 => (DX11_isBetween p2 (0 : Int32) (7 : Int32)).bind fun x3 => (tx (DX11_requireArgument x3) (fun x5 => (DX0_tellOfEntrant (gX11n_now S) p1 p2).bind fun x7 => (some (Sum.inr x7)))))

def DX11_marked (S : SX11n) (p1 : Int32) (p2 : Int32) (p3 : Int32) : Option (Nat ⊕ (Int32)) := tx (DX11_requireJurorAndEntrant S p1 p2) (fun x1 => jn (fun (x3 : Int32) => some (Sum.inr x3)) (fun j4 => (if (p3 = (0 : Int32)) then (DX6_at (gX0_sheet (gX11n_now S)) p1 p2).bind fun x5 => (j4 x5) else (DX6_at (gX9_sheet (gX0_tie (gX11n_now S))) p1 p2).bind fun x7 => (j4 x7))))

def DX11_history (S : SX11n) (p1 : Int32) (p2 : Int32) : Option (Nat ⊕ (Int32)) := tx (DX11_requireEntrantAndRound S p1 p2) (fun x1 => gd (gIn p2 4) (gd (gIn p1 12) (some (Sum.inr (((gX0_closedScores (gX11n_now S)) ((p2).toNatClampNeg)) ((p1).toNatClampNeg))))))

def DX11_stage (S : SX11n) (p1 : Int32) : Option (Int32) := (DX7_playerAt (gX0_stage (gX11n_now S)) p1).bind fun x1 => (some x1)

def DX11_wouldBe (S : SX11n) (p1 : Int32) : Option (Nat ⊕ (Int32 × SX11n)) := (DX11_isBetween p1 (0 : Int32) (2 : Int32)).bind fun x1 => (tx (DX11_requireArgument x1) (fun x3 => jn (fun (_ : Unit) => some (Sum.inr ((-1 : Int32), S))) (fun j5 => (if ((gX0_state (gX11n_now S)) = (1 : Int32)) then (DX0_canBeClosed (gX11n_now S)).bind fun x6 => ((if (x6 = (0 : Int32)) then j5 () else (DX0_judgeRound (gX11n_now S)).bind fun x8 => (lt (uX11n_now S x8) (fun S10 => (DX1_countOf (gX0_cut (gX11n_now S10)) p1).bind fun x12 => (some (Sum.inr (x12, S10))))))) else j5 ()))))

def DX11_neededMark_L76 (S : SX11n) (c1_17 : Int32) (c2_18 : Int32) (c3_19 : Int32) (k20 : Int32 → Option (Nat ⊕ (Int32))) (k23 : Unit → Option (Nat ⊕ (Int32))) : Nat → Int32 → Option (Nat ⊕ (Int32))
  | 0, _ => none
  | f + 1, v4_24 => (if ((100 : Int32) < v4_24) then k23 () else (DX0_scoreWith (gX11n_now S) c1_17 c2_18 v4_24).bind fun x25 => ((if (x25 < c3_19) then DX11_neededMark_L76 S c1_17 c2_18 c3_19 k20 k23 f (v4_24 + (1 : Int32)) else k20 v4_24)))

def DX11_neededMark (S : SX11n) (p1 : Int32) (p2 : Int32) (p3 : Int32) : Option (Nat ⊕ (Int32)) := tx (DX11_requireJurorAndEntrant S p1 p2) (fun x1 => (DX11_isBetween p3 (0 : Int32) (100000 : Int32)).bind fun x3 => (tx (DX11_requireArgument x3) (fun x5 => jn (fun (x7 : Int32) => tx (DX11_requireState x7) (fun x9 => (DX7_hasPlayed (gX0_stage (gX11n_now S)) p2).bind fun x11 => (jn (fun (x13 : Int32) => tx (DX11_requireState x13) (fun x15 => DX11_neededMark_L76 S p1 p2 p3 (fun (v4_22 : Int32) => some (Sum.inr v4_22)) (fun (_ : Unit) => some (Sum.inr (-1 : Int32))) fu (0 : Int32))) (fun j14 => jn (fun (_ : Unit) => j14 (0 : Int32)) (fun j28 => (if (x11 = (0 : Int32)) then j28 () else (DX3_isBarred (gX0_jury (gX11n_now S)) p1 p2).bind fun x29 => ((if (x29 = (0 : Int32)) then j14 (1 : Int32) else j28 ())))))))) (fun j8 => (if ((gX0_state (gX11n_now S)) = (1 : Int32)) then j8 (1 : Int32) else j8 (0 : Int32))))))

def DX11_strangestJuror_L19 (S : SX11n) (k1 : Int32 → Option (Int32)) : Nat → Int32 → Int32 → Int32 → Option (Int32)
  | 0, _, _, _ => none
  | f + 1, v1_4, v2_5, v3_6 => (if ((gX3_size (gX0_jury (gX11n_now S))) ≤ v3_6) then k1 v1_4 else (DX0_distanceOf (gX11n_now S) v3_6).bind fun x7 => (jn (fun (v1_9 : Int32) (v2_10 : Int32) => DX11_strangestJuror_L19 S k1 f v1_9 v2_10 (v3_6 + (1 : Int32))) (fun j11 => (if (x7 ≤ v2_5) then j11 v1_4 v2_5 else j11 v3_6 x7))))

def DX11_strangestJuror (S : SX11n) : Option (Int32) := (if ((gX0_state (gX11n_now S)) = (1 : Int32)) then DX11_strangestJuror_L19 S (fun (v1_3 : Int32) => some v1_3) fu (-1 : Int32) (-1 : Int32) (0 : Int32) else some (-1 : Int32))

def DX11_type (S : SX11) (p1 : Int32) : Option (Nat ⊕ (Int32 × SX11)) := (DX11_isBetween p1 (32 : Int32) (126 : Int32)).bind fun x1 => (tx (DX11_requireArgument x1) (fun x3 => jn (fun (x5 : Int32) => tx (DX11_requireState x5) (fun x7 => (DX8_append (gX11_text S) p1).bind fun x9 => (lt (uX11_text S x9.2) (fun S11 => some (Sum.inr (x9.1, S11)))))) (fun j6 => (if ((40 : Int32) ≤ (gX8_length (gX11_text S))) then j6 (0 : Int32) else j6 (1 : Int32)))))

def DX11_clearText (S : SX11) : Option (Int32 × SX11) := lt (uX11_text S (uX8_length (gX11_text S) (0 : Int32))) (fun S1 => some ((gX8_length (gX11_text S)), S1))

def DX11_fault (S : SX11) : Option (Int32 × SX11) := (DX8_faultAmong (gX11_text S) (gX10_count (gX0_works (gX11_now S)))).bind fun x1 => (lt (uX11_text S x1.2) (fun S3 => some (x1.1, S3)))

def DX11_undo (S : SX11) : Option (Nat ⊕ (Int32 × SX11)) := jn (fun (x1 : Int32) => tx (DX11_requireState x1) (fun x3 => (DX5_restore (gX11_records S) (gX11_now S)).bind fun x5 => (lt (uX11_records (uX11_now S x5.2.2) x5.2.1) (fun S7 => some (Sum.inr (x5.1, S7)))))) (fun j2 => (if ((gX5_count (gX11_records S)) ≤ (0 : Int32)) then j2 (0 : Int32) else j2 (1 : Int32)))

def DX11_mix (p0 : Int64) (p2 : Int32) : Option (Int64) := some (((31 : Int64) * p0) + (p2).toInt64)

def DX11_mixWorks_L23 (S : SX11n) (c5_6 : Int32) (k7 : Int64 → Option (Int64)) : Nat → Int64 → Int32 → Option (Int64)
  | 0, _, _ => none
  | f + 1, v3_10, v6_11 => (if ((3 : Int32) ≤ v6_11) then k7 v3_10 else (DX10_fact (gX0_works (gX11n_now S)) c5_6 v6_11).bind fun x12 => ((DX11_mix v3_10 x12).bind fun x14 => (DX11_mixWorks_L23 S c5_6 k7 f x14 (v6_11 + (1 : Int32)))))

def DX11_mixWorks_L5 (S : SX11n) (k1 : Int64 → Option (Int64)) : Nat → Int64 → Int32 → Option (Int64)
  | 0, _, _ => none
  | f + 1, v3_4, v5_5 => (if ((gX10_count (gX0_works (gX11n_now S))) ≤ v5_5) then k1 v3_4 else DX11_mixWorks_L23 S v5_5 (fun (v3_9 : Int64) => DX11_mixWorks_L5 S k1 f v3_9 (v5_5 + (1 : Int32))) fu v3_4 (0 : Int32))

def DX11_mixWorks (S : SX11n) (p1 : Int64) : Option (Int64) := DX11_mixWorks_L5 S (fun (v3_3 : Int64) => some v3_3) fu p1 (0 : Int32)

def DX11_mixRules_L14 (S : SX11n) (c5_6 : Int32) (k7 : Int64 → Option (Int64)) : Nat → Int64 → Int32 → Option (Int64)
  | 0, _, _ => none
  | f + 1, v3_10, v6_11 => (if ((6 : Int32) ≤ v6_11) then k7 v3_10 else gd (gIn c5_6 4) (gd (gIn v6_11 6) ((DX11_mix v3_10 (((gX0_rules (gX11n_now S)) ((c5_6).toNatClampNeg)) ((v6_11).toNatClampNeg))).bind fun x14 => (DX11_mixRules_L14 S c5_6 k7 f x14 (v6_11 + (1 : Int32))))))

def DX11_mixRules_L5 (S : SX11n) (k1 : Int64 → Option (Int64)) : Nat → Int64 → Int32 → Option (Int64)
  | 0, _, _ => none
  | f + 1, v3_4, v5_5 => (if ((4 : Int32) ≤ v5_5) then k1 v3_4 else DX11_mixRules_L14 S v5_5 (fun (v3_9 : Int64) => DX11_mixRules_L5 S k1 f v3_9 (v5_5 + (1 : Int32))) fu v3_4 (0 : Int32))

def DX11_mixRules (S : SX11n) (p1 : Int64) : Option (Int64) := DX11_mixRules_L5 S (fun (v3_3 : Int64) => some v3_3) fu p1 (0 : Int32)

def DX11_mixEntrant_L6 (S : SX11n) (c3_1 : Int32) (k2 : Int64 → Option (Int64)) : Nat → Int64 → Int32 → Option (Int64)
  | 0, _, _ => none
  | f + 1, v4_5, v6_6 => (if ((8 : Int32) ≤ v6_6) then k2 v4_5 else (DX0_tellOfEntrant (gX11n_now S) c3_1 v6_6).bind fun x7 => ((DX11_mix v4_5 x7).bind fun x9 => (DX11_mixEntrant_L6 S c3_1 k2 f x9 (v6_6 + (1 : Int32)))))

def DX11_mixEntrant (S : SX11n) (p1 : Int64) (p3 : Int32) : Option (Int64) := DX11_mixEntrant_L6 S p3 (fun (v4_4 : Int64) => some v4_4) fu p1 (0 : Int32)

def DX11_mixPrograms_L68 (S : SX11n) (c3_15 : Int32) (c6_16 : Int32) (k17 : Int64 → Option (Int64)) : Nat → Int64 → Int32 → Option (Int64)
  | 0, _, _ => none
  | f + 1, v4_20, v7_21 => (if ((4 : Int32) ≤ v7_21) then k17 v4_20 else (DX4_workAt (gX0_programs (gX11n_now S)) c3_15 c6_16 v7_21).bind fun x22 => ((DX11_mix v4_20 x22).bind fun x24 => (DX11_mixPrograms_L68 S c3_15 c6_16 k17 f x24 (v7_21 + (1 : Int32)))))

def DX11_mixPrograms_L6 (S : SX11n) (c3_1 : Int32) (k2 : Int64 → Option (Int64)) : Nat → Int64 → Int32 → Option (Int64)
  | 0, _, _ => none
  | f + 1, v4_5, v6_6 => (if ((4 : Int32) ≤ v6_6) then k2 v4_5 else (DX4_flawOf (gX0_programs (gX11n_now S)) (gX0_rules (gX11n_now S)) (gX0_works (gX11n_now S)) c3_1 v6_6).bind fun x7 => ((DX11_mix v4_5 x7).bind fun x9 => (gd (gIn v6_6 4) (gd (gIn c3_1 12) ((DX11_mix x9 (((gX0_closedScores (gX11n_now S)) ((v6_6).toNatClampNeg)) ((c3_1).toNatClampNeg))).bind fun x13 => (DX11_mixPrograms_L68 S c3_1 v6_6 (fun (v4_19 : Int64) => DX11_mixPrograms_L6 S c3_1 k2 f v4_19 (v6_6 + (1 : Int32))) fu x13 (0 : Int32)))))))

def DX11_mixPrograms (S : SX11n) (p1 : Int64) (p3 : Int32) : Option (Int64) := DX11_mixPrograms_L6 S p3 (fun (v4_4 : Int64) => some v4_4) fu p1 (0 : Int32)

def DX11_mixSheets_L6 (S : SX11n) (c3_1 : Int32) (k2 : Int64 → Option (Int64)) : Nat → Int64 → Int32 → Option (Int64)
  | 0, _, _ => none
  | f + 1, v4_5, v6_6 => (if ((gX3_size (gX0_jury (gX11n_now S))) ≤ v6_6) then k2 v4_5 else (DX3_isBarred (gX0_jury (gX11n_now S)) v6_6 c3_1).bind fun x7 => (jn (fun (x9 : Int32) => (DX11_mix v4_5 x9).bind fun x11 => ((DX6_at (gX0_sheet (gX11n_now S)) v6_6 c3_1).bind fun x13 => ((DX11_mix x11 x13).bind fun x15 => ((DX6_at (gX9_sheet (gX0_tie (gX11n_now S))) v6_6 c3_1).bind fun x17 => ((DX11_mix x15 x17).bind fun x19 => (DX11_mixSheets_L6 S c3_1 k2 f x19 (v6_6 + (1 : Int32)))))))) (fun j10 => (if (x7 = (0 : Int32)) then j10 (0 : Int32) else j10 (1 : Int32)))))

def DX11_mixSheets (S : SX11n) (p1 : Int64) (p3 : Int32) : Option (Int64) := DX11_mixSheets_L6 S p3 (fun (v4_4 : Int64) => some v4_4) fu p1 (0 : Int32)

def DX11_checksum_L88 (S : SX11) (k11 : Int64 → Option (Int64)) : Nat → Int64 → Int32 → Option (Int64)
  | 0, _, _ => none
  | f + 1, v1_22, v3_23 => (if ((gX7_players (gX0_stage (gX11_now S))) ≤ v3_23) then k11 v1_22 else (DX7_playerAt (gX0_stage (gX11_now S)) v3_23).bind fun x24 => ((DX11_mix v1_22 x24).bind fun x26 => (DX11_checksum_L88 S k11 f x26 (v3_23 + (1 : Int32)))))

def DX11_checksum_L45 (S : SX11) (k8 : Int64 → Option (Int64)) : Nat → Int64 → Int32 → Option (Int64)
  | 0, _, _ => none
  | f + 1, v1_29, v3_30 => (if ((gX2_count (gX0_entrants (gX11_now S))) ≤ v3_30) then k8 v1_29 else (DX11_mixEntrant (gX11_now S) v1_29 v3_30).bind fun x31 => ((DX11_mixPrograms (gX11_now S) x31 v3_30).bind fun x33 => ((DX11_mixSheets (gX11_now S) x33 v3_30).bind fun x35 => (DX11_checksum_L45 S k8 f x35 (v3_30 + (1 : Int32))))))

def DX11_checksum_L6 (S : SX11) (k1 : Int64 → Option (Int64)) : Nat → Int64 → Int32 → Option (Int64)
  | 0, _, _ => none
  | f + 1, v1_38, v3_39 => (if ((13 : Int32) ≤ v3_39) then k1 v1_38 else (DX0_tell (gX11_now S) v3_39).bind fun x40 => ((DX11_mix v1_38 x40).bind fun x42 => (DX11_checksum_L6 S k1 f x42 (v3_39 + (1 : Int32)))))

def DX11_checksum (S : SX11) : Option (Int64) := DX11_checksum_L6 S (fun (v1_3 : Int64) => (DX11_mixWorks (gX11_now S) v1_3).bind fun x4 => ((DX11_mixRules (gX11_now S) x4).bind fun x6 => (DX11_checksum_L45 S (fun (v1_10 : Int64) => DX11_checksum_L88 S (fun (v1_13 : Int64) => (DX11_strangestJuror (gX11_now S)).bind fun x14 => ((DX11_mix v1_13 x14).bind fun x16 => ((DX11_mix x16 (gX8_length (gX11_text S))).bind fun x18 => ((DX11_mix x18 (gX5_count (gX11_records S))).bind fun x20 => (some x20))))) fu v1_10 (0 : Int32)) fu x6 (0 : Int32)))) fu (43009 : Int64) (0 : Int32)
